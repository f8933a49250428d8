theorem dX9_oneIf_0 : decode cX9_oneIf 0 = .ok (.iload_n 0, 1) := by decide +kernel
theorem dX9_oneIf_1 : decode cX9_oneIf 1 = .ok (.ifCond .eq 7, 3) := by decide +kernel
theorem dX9_oneIf_4 : decode cX9_oneIf 4 = .ok (.iconst 1, 1) := by decide +kernel
theorem dX9_oneIf_5 : decode cX9_oneIf 5 = .ok (.goto 4, 3) := by decide +kernel
theorem dX9_oneIf_8 : decode cX9_oneIf 8 = .ok (.iconst 0, 1) := by decide +kernel
theorem dX9_oneIf_9 : decode cX9_oneIf 9 = .ok (.ireturn, 1) := by decide +kernel
def f_X9_oneIf (p0 : Int32) : Option (Int32) := if p0 = 0 then some (0 : Int32) else some (1 : Int32)
set_option maxHeartbeats 4000000 in
set_option maxRecDepth 100000 in
theorem c_X9_oneIf (l : Launch) (E : EE) (p0 : Int32) (res : Int32) (hv : f_X9_oneIf p0 = some res) : Rd l E yX9_oneIf cX9_oneIf 1 (some .int) ({ frames := 0, cells := 0, slots := 0, locals := 0 }) [.int p0] [] (some (.int res)) := by
  refine Rd.intro RX9 (by decide) rfl (Nat.le_of_ble_eq_true rfl) ?_
  intro p e s m below meth c ls hC hr hlk hP hG hl
  obtain ⟨hx, hb, hml, hown, ht⟩ := id hC
  have hK := hG.1
  have hl : lv_has ls 1 [(0, .int p0)] := hl
  rw [f_X9_oneIf] at hv
  refine lv_iload_n hx hb dX9_oneIf_0 rfl (lv_at hl 0 rfl) ?_
  refine lv_if_eq (tgt := 8) hx hb dX9_oneIf_1 (by decide) (fun c1 => ?_) (fun c1 => ?_)
  · have hv := if_y c1 hv
    refine lv_iconst (v := (0 : Int32)) hx hb dX9_oneIf_8 (by decide) ?_
    exact W.iret (v := (0 : Int32)) hx hb hr (fun t h9 _ => ⟨rv_i hv, h9⟩) (fun q h => absurd h List.not_mem_nil) dX9_oneIf_9 hlk
  · have hv := if_n c1 hv
    refine lv_iconst (v := (1 : Int32)) hx hb dX9_oneIf_4 (by decide) ?_
    refine lv_goto (tgt := 9) hx hb dX9_oneIf_5 (by decide) ?_
    exact W.iret (v := (1 : Int32)) hx hb hr (fun t h9 _ => ⟨rv_i hv, h9⟩) (fun q h => absurd h List.not_mem_nil) dX9_oneIf_9 hlk
theorem dX9_isWithin_0 : decode cX9_isWithin 0 = .ok (.iload_n 0, 1) := by decide +kernel
theorem dX9_isWithin_1 : decode cX9_isWithin 1 = .ok (.iload_n 1, 1) := by decide +kernel
theorem dX9_isWithin_2 : decode cX9_isWithin 2 = .ok (.if_icmp .lt 12, 3) := by decide +kernel
theorem dX9_isWithin_5 : decode cX9_isWithin 5 = .ok (.iload_n 0, 1) := by decide +kernel
theorem dX9_isWithin_6 : decode cX9_isWithin 6 = .ok (.iload_n 2, 1) := by decide +kernel
theorem dX9_isWithin_7 : decode cX9_isWithin 7 = .ok (.if_icmp .gt 7, 3) := by decide +kernel
theorem dX9_isWithin_10 : decode cX9_isWithin 10 = .ok (.iconst 1, 1) := by decide +kernel
theorem dX9_isWithin_11 : decode cX9_isWithin 11 = .ok (.goto 4, 3) := by decide +kernel
theorem dX9_isWithin_14 : decode cX9_isWithin 14 = .ok (.iconst 0, 1) := by decide +kernel
theorem dX9_isWithin_15 : decode cX9_isWithin 15 = .ok (.ireturn, 1) := by decide +kernel
def f_X9_isWithin (p0 : Int32) (p1 : Int32) (p2 : Int32) : Option (Int32) := if p0 < p1 then some (0 : Int32) else if p2 < p0 then some (0 : Int32) else some (1 : Int32)
set_option maxHeartbeats 4000000 in
set_option maxRecDepth 100000 in
theorem c_X9_isWithin (l : Launch) (E : EE) (p0 : Int32) (p1 : Int32) (p2 : Int32) (res : Int32) (hv : f_X9_isWithin p0 p1 p2 = some res) : Rd l E yX9_isWithin cX9_isWithin 3 (some .boolean) ({ frames := 0, cells := 0, slots := 0, locals := 0 }) [.int p0, .int p1, .int p2] [] (some (.int res)) := by
  refine Rd.intro RX9 (by decide) rfl (Nat.le_of_ble_eq_true rfl) ?_
  intro p e s m below meth c ls hC hr hlk hP hG hl
  obtain ⟨hx, hb, hml, hown, ht⟩ := id hC
  have hK := hG.1
  have hl : lv_has ls 3 [(0, .int p0), (1, .int p1), (2, .int p2)] := hl
  rw [f_X9_isWithin] at hv
  refine lv_iload_n hx hb dX9_isWithin_0 rfl (lv_at hl 0 rfl) ?_
  refine lv_iload_n hx hb dX9_isWithin_1 rfl (lv_at hl 1 rfl) ?_
  refine lv_icmp_lt (tgt := 14) hx hb dX9_isWithin_2 (by decide) (fun c1 => ?_) (fun c1 => ?_)
  · have hv := if_y c1 hv
    refine lv_iconst (v := (0 : Int32)) hx hb dX9_isWithin_14 (by decide) ?_
    exact W.zret (v := (0 : Int32)) hx hb hr rfl (fun t h9 _ => ⟨rv_i hv, h9⟩) (fun q h => absurd h List.not_mem_nil) dX9_isWithin_15 hlk
  · have hv := if_n c1 hv
    refine lv_iload_n hx hb dX9_isWithin_5 rfl (lv_at hl 0 rfl) ?_
    refine lv_iload_n hx hb dX9_isWithin_6 rfl (lv_at hl 2 rfl) ?_
    refine lv_icmp_gt (tgt := 14) hx hb dX9_isWithin_7 (by decide) (fun c2 => ?_) (fun c2 => ?_)
    · have hv := if_y c2 hv
      refine lv_iconst (v := (0 : Int32)) hx hb dX9_isWithin_14 (by decide) ?_
      exact W.zret (v := (0 : Int32)) hx hb hr rfl (fun t h9 _ => ⟨rv_i hv, h9⟩) (fun q h => absurd h List.not_mem_nil) dX9_isWithin_15 hlk
    · have hv := if_n c2 hv
      refine lv_iconst (v := (1 : Int32)) hx hb dX9_isWithin_10 (by decide) ?_
      refine lv_goto (tgt := 15) hx hb dX9_isWithin_11 (by decide) ?_
      exact W.zret (v := (1 : Int32)) hx hb hr rfl (fun t h9 _ => ⟨rv_i hv, h9⟩) (fun q h => absurd h List.not_mem_nil) dX9_isWithin_15 hlk
theorem dX9_isBalcony_0 : decode cX9_isBalcony 0 = .ok (.iload_n 0, 1) := by decide +kernel
theorem dX9_isBalcony_1 : decode cX9_isBalcony 1 = .ok (.iconst 0, 1) := by decide +kernel
theorem dX9_isBalcony_2 : decode cX9_isBalcony 2 = .ok (.bipush 9, 2) := by decide +kernel
theorem dX9_isBalcony_4 : decode cX9_isBalcony 4 = .ok (.invokestatic 118, 3) := by decide +kernel
theorem dX9_isBalcony_7 : decode cX9_isBalcony 7 = .ok (.ireturn, 1) := by decide +kernel
def f_X9_isBalcony (p0 : Int32) : Option (Int32) := ob (f_X9_isWithin p0 (0 : Int32) (9 : Int32)) (fun r1 => gd (bz r1) (some r1))
set_option maxHeartbeats 4000000 in
set_option maxRecDepth 100000 in
theorem c_X9_isBalcony (l : Launch) (E : EE) (p0 : Int32) (res : Int32) (hv : f_X9_isBalcony p0 = some res) : Rd l E yX9_isBalcony cX9_isBalcony 1 (some .boolean) ({ frames := 1, cells := 0, slots := 0, locals := 22 }) [.int p0] [] (some (.int res)) := by
  refine Rd.intro RX9 (by decide) rfl (Nat.le_of_ble_eq_true rfl) ?_
  intro p e s m below meth c ls hC hr hlk hP hG hl
  obtain ⟨hx, hb, hml, hown, ht⟩ := id hC
  have hK := hG.1
  have hl : lv_has ls 1 [(0, .int p0)] := hl
  rw [f_X9_isBalcony] at hv
  refine lv_iload_n hx hb dX9_isBalcony_0 rfl (lv_at hl 0 rfl) ?_
  refine lv_iconst (v := (0 : Int32)) hx hb dX9_isBalcony_1 (by decide) ?_
  refine lv_bipush (v := (9 : Int32)) hx hb dX9_isBalcony_2 (by decide) ?_
  obtain ⟨r1, h2, hv⟩ := ob_s hv
  refine rdS (rest := []) (st1 := [.int r1]) (w := []) hC q_X9_isWithin kw_1_168 (c_X9_isWithin l E p0 (0 : Int32) (9 : Int32) r1 h2) ⟨rfl, rfl⟩ ⟨Nat.le_of_ble_eq_true rfl, Nat.le_of_ble_eq_true rfl⟩ ⟨Nat.zero_le _, Nat.zero_le _⟩ hP hG rfl hl.1 rfl (Nat.le_of_ble_eq_true rfl) dX9_isBalcony_4 rfl ?_
  obtain ⟨g3, hv⟩ := gd_s hv
  exact W.zret (v := r1) hx hb hr (bz_s g3) (fun t h9 _ => ⟨rv_i hv, h9⟩) (fun q h => absurd h List.not_mem_nil) dX9_isBalcony_7 hlk
theorem dX9_isShelf_0 : decode cX9_isShelf 0 = .ok (.iload_n 0, 1) := by decide +kernel
theorem dX9_isShelf_1 : decode cX9_isShelf 1 = .ok (.iconst 0, 1) := by decide +kernel
theorem dX9_isShelf_2 : decode cX9_isShelf 2 = .ok (.bipush 7, 2) := by decide +kernel
theorem dX9_isShelf_4 : decode cX9_isShelf 4 = .ok (.invokestatic 118, 3) := by decide +kernel
theorem dX9_isShelf_7 : decode cX9_isShelf 7 = .ok (.ireturn, 1) := by decide +kernel
def f_X9_isShelf (p0 : Int32) : Option (Int32) := ob (f_X9_isWithin p0 (0 : Int32) (7 : Int32)) (fun r1 => gd (bz r1) (some r1))
set_option maxHeartbeats 4000000 in
set_option maxRecDepth 100000 in
theorem c_X9_isShelf (l : Launch) (E : EE) (p0 : Int32) (res : Int32) (hv : f_X9_isShelf p0 = some res) : Rd l E yX9_isShelf cX9_isShelf 1 (some .boolean) ({ frames := 1, cells := 0, slots := 0, locals := 22 }) [.int p0] [] (some (.int res)) := by
  refine Rd.intro RX9 (by decide) rfl (Nat.le_of_ble_eq_true rfl) ?_
  intro p e s m below meth c ls hC hr hlk hP hG hl
  obtain ⟨hx, hb, hml, hown, ht⟩ := id hC
  have hK := hG.1
  have hl : lv_has ls 1 [(0, .int p0)] := hl
  rw [f_X9_isShelf] at hv
  refine lv_iload_n hx hb dX9_isShelf_0 rfl (lv_at hl 0 rfl) ?_
  refine lv_iconst (v := (0 : Int32)) hx hb dX9_isShelf_1 (by decide) ?_
  refine lv_bipush (v := (7 : Int32)) hx hb dX9_isShelf_2 (by decide) ?_
  obtain ⟨r1, h2, hv⟩ := ob_s hv
  refine rdS (rest := []) (st1 := [.int r1]) (w := []) hC q_X9_isWithin kw_1_168 (c_X9_isWithin l E p0 (0 : Int32) (7 : Int32) r1 h2) ⟨rfl, rfl⟩ ⟨Nat.le_of_ble_eq_true rfl, Nat.le_of_ble_eq_true rfl⟩ ⟨Nat.zero_le _, Nat.zero_le _⟩ hP hG rfl hl.1 rfl (Nat.le_of_ble_eq_true rfl) dX9_isShelf_4 rfl ?_
  obtain ⟨g3, hv⟩ := gd_s hv
  exact W.zret (v := r1) hx hb hr (bz_s g3) (fun t h9 _ => ⟨rv_i hv, h9⟩) (fun q h => absurd h List.not_mem_nil) dX9_isShelf_7 hlk
theorem dX9_isSpan_0 : decode cX9_isSpan 0 = .ok (.iload_n 0, 1) := by decide +kernel
theorem dX9_isSpan_1 : decode cX9_isSpan 1 = .ok (.iconst 0, 1) := by decide +kernel
theorem dX9_isSpan_2 : decode cX9_isSpan 2 = .ok (.bipush 60, 2) := by decide +kernel
theorem dX9_isSpan_4 : decode cX9_isSpan 4 = .ok (.invokestatic 118, 3) := by decide +kernel
theorem dX9_isSpan_7 : decode cX9_isSpan 7 = .ok (.ireturn, 1) := by decide +kernel
def f_X9_isSpan (p0 : Int32) : Option (Int32) := ob (f_X9_isWithin p0 (0 : Int32) (60 : Int32)) (fun r1 => gd (bz r1) (some r1))
set_option maxHeartbeats 4000000 in
set_option maxRecDepth 100000 in
theorem c_X9_isSpan (l : Launch) (E : EE) (p0 : Int32) (res : Int32) (hv : f_X9_isSpan p0 = some res) : Rd l E yX9_isSpan cX9_isSpan 1 (some .boolean) ({ frames := 1, cells := 0, slots := 0, locals := 22 }) [.int p0] [] (some (.int res)) := by
  refine Rd.intro RX9 (by decide) rfl (Nat.le_of_ble_eq_true rfl) ?_
  intro p e s m below meth c ls hC hr hlk hP hG hl
  obtain ⟨hx, hb, hml, hown, ht⟩ := id hC
  have hK := hG.1
  have hl : lv_has ls 1 [(0, .int p0)] := hl
  rw [f_X9_isSpan] at hv
  refine lv_iload_n hx hb dX9_isSpan_0 rfl (lv_at hl 0 rfl) ?_
  refine lv_iconst (v := (0 : Int32)) hx hb dX9_isSpan_1 (by decide) ?_
  refine lv_bipush (v := (60 : Int32)) hx hb dX9_isSpan_2 (by decide) ?_
  obtain ⟨r1, h2, hv⟩ := ob_s hv
  refine rdS (rest := []) (st1 := [.int r1]) (w := []) hC q_X9_isWithin kw_1_168 (c_X9_isWithin l E p0 (0 : Int32) (60 : Int32) r1 h2) ⟨rfl, rfl⟩ ⟨Nat.le_of_ble_eq_true rfl, Nat.le_of_ble_eq_true rfl⟩ ⟨Nat.zero_le _, Nat.zero_le _⟩ hP hG rfl hl.1 rfl (Nat.le_of_ble_eq_true rfl) dX9_isSpan_4 rfl ?_
  obtain ⟨g3, hv⟩ := gd_s hv
  exact W.zret (v := r1) hx hb hr (bz_s g3) (fun t h9 _ => ⟨rv_i hv, h9⟩) (fun q h => absurd h List.not_mem_nil) dX9_isSpan_7 hlk
theorem dX9_isIn_0 : decode cX9_isIn 0 = .ok (.iload_n 0, 1) := by decide +kernel
theorem dX9_isIn_1 : decode cX9_isIn 1 = .ok (.iload_n 1, 1) := by decide +kernel
theorem dX9_isIn_2 : decode cX9_isIn 2 = .ok (.ishr, 1) := by decide +kernel
theorem dX9_isIn_3 : decode cX9_isIn 3 = .ok (.iconst 1, 1) := by decide +kernel
theorem dX9_isIn_4 : decode cX9_isIn 4 = .ok (.iand, 1) := by decide +kernel
theorem dX9_isIn_5 : decode cX9_isIn 5 = .ok (.ifCond .eq 7, 3) := by decide +kernel
theorem dX9_isIn_8 : decode cX9_isIn 8 = .ok (.iconst 1, 1) := by decide +kernel
theorem dX9_isIn_9 : decode cX9_isIn 9 = .ok (.goto 4, 3) := by decide +kernel
theorem dX9_isIn_12 : decode cX9_isIn 12 = .ok (.iconst 0, 1) := by decide +kernel
theorem dX9_isIn_13 : decode cX9_isIn 13 = .ok (.ireturn, 1) := by decide +kernel
def f_X9_isIn (p0 : Int32) (p1 : Int32) : Option (Int32) := if ((p0 >>> (p1 &&& 31)) &&& (1 : Int32)) = 0 then some (0 : Int32) else some (1 : Int32)
set_option maxHeartbeats 4000000 in
set_option maxRecDepth 100000 in
theorem c_X9_isIn (l : Launch) (E : EE) (p0 : Int32) (p1 : Int32) (res : Int32) (hv : f_X9_isIn p0 p1 = some res) : Rd l E yX9_isIn cX9_isIn 2 (some .boolean) ({ frames := 0, cells := 0, slots := 0, locals := 0 }) [.int p0, .int p1] [] (some (.int res)) := by
  refine Rd.intro RX9 (by decide) rfl (Nat.le_of_ble_eq_true rfl) ?_
  intro p e s m below meth c ls hC hr hlk hP hG hl
  obtain ⟨hx, hb, hml, hown, ht⟩ := id hC
  have hK := hG.1
  have hl : lv_has ls 2 [(0, .int p0), (1, .int p1)] := hl
  rw [f_X9_isIn] at hv
  refine lv_iload_n hx hb dX9_isIn_0 rfl (lv_at hl 0 rfl) ?_
  refine lv_iload_n hx hb dX9_isIn_1 rfl (lv_at hl 1 rfl) ?_
  refine lv_ishr hx hb dX9_isIn_2 ?_
  refine lv_iconst (v := (1 : Int32)) hx hb dX9_isIn_3 (by decide) ?_
  refine lv_iand hx hb dX9_isIn_4 ?_
  refine lv_if_eq (tgt := 12) hx hb dX9_isIn_5 (by decide) (fun c1 => ?_) (fun c1 => ?_)
  · have hv := if_y c1 hv
    refine lv_iconst (v := (0 : Int32)) hx hb dX9_isIn_12 (by decide) ?_
    exact W.zret (v := (0 : Int32)) hx hb hr rfl (fun t h9 _ => ⟨rv_i hv, h9⟩) (fun q h => absurd h List.not_mem_nil) dX9_isIn_13 hlk
  · have hv := if_n c1 hv
    refine lv_iconst (v := (1 : Int32)) hx hb dX9_isIn_8 (by decide) ?_
    refine lv_goto (tgt := 13) hx hb dX9_isIn_9 (by decide) ?_
    exact W.zret (v := (1 : Int32)) hx hb hr rfl (fun t h9 _ => ⟨rv_i hv, h9⟩) (fun q h => absurd h List.not_mem_nil) dX9_isIn_13 hlk
theorem dX9_toThePower_0 : decode cX9_toThePower 0 = .ok (.lconst 1, 1) := by decide +kernel
theorem dX9_toThePower_1 : decode cX9_toThePower 1 = .ok (.lstore_n 2, 1) := by decide +kernel
theorem dX9_toThePower_2 : decode cX9_toThePower 2 = .ok (.iconst 0, 1) := by decide +kernel
theorem dX9_toThePower_3 : decode cX9_toThePower 3 = .ok (.istore 4, 2) := by decide +kernel
theorem dX9_toThePower_5 : decode cX9_toThePower 5 = .ok (.iload 4, 2) := by decide +kernel
theorem dX9_toThePower_7 : decode cX9_toThePower 7 = .ok (.iload_n 1, 1) := by decide +kernel
theorem dX9_toThePower_8 : decode cX9_toThePower 8 = .ok (.if_icmp .ge 14, 3) := by decide +kernel
theorem dX9_toThePower_11 : decode cX9_toThePower 11 = .ok (.lload_n 2, 1) := by decide +kernel
theorem dX9_toThePower_12 : decode cX9_toThePower 12 = .ok (.iload_n 0, 1) := by decide +kernel
theorem dX9_toThePower_13 : decode cX9_toThePower 13 = .ok (.i2l, 1) := by decide +kernel
theorem dX9_toThePower_14 : decode cX9_toThePower 14 = .ok (.lmul, 1) := by decide +kernel
theorem dX9_toThePower_15 : decode cX9_toThePower 15 = .ok (.lstore_n 2, 1) := by decide +kernel
theorem dX9_toThePower_16 : decode cX9_toThePower 16 = .ok (.iinc 4 1, 3) := by decide +kernel
theorem dX9_toThePower_19 : decode cX9_toThePower 19 = .ok (.goto (-14), 3) := by decide +kernel
theorem dX9_toThePower_22 : decode cX9_toThePower 22 = .ok (.lload_n 2, 1) := by decide +kernel
theorem dX9_toThePower_23 : decode cX9_toThePower 23 = .ok (.lreturn, 1) := by decide +kernel
def L_X9_toThePower_5 (p0 : Int32) (p1 : Int32) : Nat → Int32 → Int64 → Option (Int64)
  | 0, _, _ => none
  | n5 + 1, x1, x2 => if p1 ≤ x1 then some x2 else L_X9_toThePower_5 p0 p1 n5 (x1 + (1 : Int32)) (x2 * (p0.toInt64))
def f_X9_toThePower (N : Nat) (p0 : Int32) (p1 : Int32) : Option (Int64) := L_X9_toThePower_5 p0 p1 N (0 : Int32) (1 : Int64)
set_option maxHeartbeats 4000000 in
set_option maxRecDepth 100000 in
theorem c_X9_toThePower (l : Launch) (E : EE) (p0 : Int32) (p1 : Int32) (N : Nat) (res : Int64) (hv : f_X9_toThePower N p0 p1 = some res) : Rd l E yX9_toThePower cX9_toThePower 5 (some .long) ({ frames := 0, cells := 0, slots := 0, locals := 0 }) [.int p0, .int p1] [] (some (.long res)) := by
  refine Rd.intro RX9 (by decide) rfl (Nat.le_of_ble_eq_true rfl) ?_
  intro p e s m below meth c ls hC hr hlk hP hG hl
  obtain ⟨hx, hb, hml, hown, ht⟩ := id hC
  have hK := hG.1
  have hl : lv_has ls 5 [(0, .int p0), (1, .int p1)] := hl
  rw [f_X9_toThePower] at hv
  refine lv_lconst (v := (1 : Int64)) hx hb dX9_toThePower_0 (by decide) ?_
  refine lv_lstore_n (lv' := [(2, .long (1 : Int64)), (0, .int p0), (1, .int p1)]) hx hb dX9_toThePower_1 rfl hl (by decide) rfl (fun ls hl => ?_)
  refine lv_iconst (v := (0 : Int32)) hx hb dX9_toThePower_2 (by decide) ?_
  refine lv_istore (lv' := [(4, .int (0 : Int32)), (2, .long (1 : Int64)), (0, .int p0), (1, .int p1)]) hx hb dX9_toThePower_3 hl (by decide) rfl (fun ls hl => ?_)
  have hL5 : ∀ (n : Nat) (x1 : Int32) (x2 : Int64) (ls : Array Slot), lv_has ls 5 [(4, .int x1), (2, .long x2), (0, .int p0), (1, .int p1)] → L_X9_toThePower_5 p0 p1 n x1 x2 = some res → W p l e ({ frames := 0, cells := 0, slots := 0, locals := 0 }) s m [.int p0, .int p1].toArray below meth c s.heap [] 0 0 (MQ below (RdQ (some (.long res))) [.int p0, .int p1].toArray s 0 0 (fun _ => False)) (F0 m 5 ls []) := by
    intro n
    induction n with
    | zero => intro x1 x2 ls hl hv; cases hv
    | succ n5 ih5 =>
      intro x1 x2 ls hl hv
      rw [L_X9_toThePower_5] at hv
      refine lv_iload hx hb dX9_toThePower_5 (lv_at hl 0 rfl) ?_
      refine lv_iload_n hx hb dX9_toThePower_7 rfl (lv_at hl 3 rfl) ?_
      refine lv_icmp_ge (tgt := 22) hx hb dX9_toThePower_8 (by decide) (fun c3 => ?_) (fun c3 => ?_)
      · have hv := if_y c3 hv
        refine lv_lload_n hx hb dX9_toThePower_22 rfl (lv_at hl 1 rfl) ?_
        exact W.lret (v := x2) hx hb hr (fun t h9 _ => ⟨rv_l hv, h9⟩) (fun q h => absurd h List.not_mem_nil) dX9_toThePower_23 hlk
      · have hv := if_n c3 hv
        refine lv_lload_n hx hb dX9_toThePower_11 rfl (lv_at hl 1 rfl) ?_
        refine lv_iload_n hx hb dX9_toThePower_12 rfl (lv_at hl 2 rfl) ?_
        refine lv_i2l (v := (p0.toInt64)) hx hb dX9_toThePower_13 rfl ?_
        refine lv_lmul hx hb dX9_toThePower_14 ?_
        refine lv_lstore_n (lv' := [(2, .long (x2 * (p0.toInt64))), (4, .int x1), (0, .int p0), (1, .int p1)]) hx hb dX9_toThePower_15 rfl hl (by decide) rfl (fun ls hl => ?_)
        refine lv_iinc (v := (x1 + (1 : Int32))) (lv' := [(4, .int (x1 + (1 : Int32))), (2, .long (x2 * (p0.toInt64))), (0, .int p0), (1, .int p1)]) hx hb dX9_toThePower_16 hl (k := 1) rfl rfl (by decide) rfl (fun ls hl => ?_)
        refine lv_goto (tgt := 5) hx hb dX9_toThePower_19 (by decide) ?_
        exact ih5 (x1 + (1 : Int32)) (x2 * (p0.toInt64)) _ (lv_sub hl [0, 1, 2, 3] rfl) hv
  exact hL5 N (0 : Int32) (1 : Int64) _ (lv_sub hl [0, 1, 2, 3] rfl) hv
theorem dX0_next_0 : decode cX0_next 0 = .ok (.iload_n 0, 1) := by decide +kernel
theorem dX0_next_1 : decode cX0_next 1 = .ok (.ldc 7, 2) := by decide +kernel
theorem dX0_next_3 : decode cX0_next 3 = .ok (.imul, 1) := by decide +kernel
theorem dX0_next_4 : decode cX0_next 4 = .ok (.sipush 12345, 3) := by decide +kernel
theorem dX0_next_7 : decode cX0_next 7 = .ok (.iadd, 1) := by decide +kernel
theorem dX0_next_8 : decode cX0_next 8 = .ok (.ireturn, 1) := by decide +kernel
def f_X0_next (p0 : Int32) : Option (Int32) := some ((p0 * (1103515245 : Int32)) + (12345 : Int32))
set_option maxHeartbeats 4000000 in
set_option maxRecDepth 100000 in
theorem c_X0_next (l : Launch) (E : EE) (p0 : Int32) (res : Int32) (hv : f_X0_next p0 = some res) : Rd l E yX0_next cX0_next 1 (some .int) ({ frames := 0, cells := 0, slots := 0, locals := 0 }) [.int p0] [] (some (.int res)) := by
  refine Rd.intro RX0 (by decide) rfl (Nat.le_of_ble_eq_true rfl) ?_
  intro p e s m below meth c ls hC hr hlk hP hG hl
  obtain ⟨hx, hb, hml, hown, ht⟩ := id hC
  have hK := hG.1
  have hl : lv_has ls 1 [(0, .int p0)] := hl
  rw [f_X0_next] at hv
  refine lv_iload_n hx hb dX0_next_0 rfl (lv_at hl 0 rfl) ?_
  refine lv_ldc (v := (1103515245 : Int32)) hx hb hown (ht _ kw_3_173) dX0_next_1 ?_
  refine lv_imul hx hb dX0_next_3 ?_
  refine lv_sipush (v := (12345 : Int32)) hx hb dX0_next_4 (by decide) ?_
  refine lv_iadd hx hb dX0_next_7 ?_
  exact W.iret (v := ((p0 * (1103515245 : Int32)) + (12345 : Int32))) hx hb hr (fun t h9 _ => ⟨rv_i hv, h9⟩) (fun q h => absurd h List.not_mem_nil) dX0_next_8 hlk
theorem dX0_below_0 : decode cX0_below 0 = .ok (.iload_n 1, 1) := by decide +kernel
theorem dX0_below_1 : decode cX0_below 1 = .ok (.iconst 1, 1) := by decide +kernel
theorem dX0_below_2 : decode cX0_below 2 = .ok (.if_icmp .ge 7, 3) := by decide +kernel
theorem dX0_below_5 : decode cX0_below 5 = .ok (.iconst 0, 1) := by decide +kernel
theorem dX0_below_6 : decode cX0_below 6 = .ok (.goto 12, 3) := by decide +kernel
theorem dX0_below_9 : decode cX0_below 9 = .ok (.iload_n 0, 1) := by decide +kernel
theorem dX0_below_10 : decode cX0_below 10 = .ok (.ldc 8, 2) := by decide +kernel
theorem dX0_below_12 : decode cX0_below 12 = .ok (.iand, 1) := by decide +kernel
theorem dX0_below_13 : decode cX0_below 13 = .ok (.ldc 9, 2) := by decide +kernel
theorem dX0_below_15 : decode cX0_below 15 = .ok (.idiv, 1) := by decide +kernel
theorem dX0_below_16 : decode cX0_below 16 = .ok (.iload_n 1, 1) := by decide +kernel
theorem dX0_below_17 : decode cX0_below 17 = .ok (.irem, 1) := by decide +kernel
theorem dX0_below_18 : decode cX0_below 18 = .ok (.ireturn, 1) := by decide +kernel
def f_X0_below (p0 : Int32) (p1 : Int32) : Option (Int32) := if (1 : Int32) ≤ p1 then gd (nz p1) (some (((p0 &&& (2147483647 : Int32)) / (65536 : Int32)) - ((p0 &&& (2147483647 : Int32)) / (65536 : Int32)) / p1 * p1)) else some (0 : Int32)
set_option maxHeartbeats 4000000 in
set_option maxRecDepth 100000 in
theorem c_X0_below (l : Launch) (E : EE) (p0 : Int32) (p1 : Int32) (res : Int32) (hv : f_X0_below p0 p1 = some res) : Rd l E yX0_below cX0_below 2 (some .int) ({ frames := 0, cells := 0, slots := 0, locals := 0 }) [.int p0, .int p1] [] (some (.int res)) := by
  refine Rd.intro RX0 (by decide) rfl (Nat.le_of_ble_eq_true rfl) ?_
  intro p e s m below meth c ls hC hr hlk hP hG hl
  obtain ⟨hx, hb, hml, hown, ht⟩ := id hC
  have hK := hG.1
  have hl : lv_has ls 2 [(0, .int p0), (1, .int p1)] := hl
  rw [f_X0_below] at hv
  refine lv_iload_n hx hb dX0_below_0 rfl (lv_at hl 1 rfl) ?_
  refine lv_iconst (v := (1 : Int32)) hx hb dX0_below_1 (by decide) ?_
  refine lv_icmp_ge (tgt := 9) hx hb dX0_below_2 (by decide) (fun c1 => ?_) (fun c1 => ?_)
  · have hv := if_y c1 hv
    refine lv_iload_n hx hb dX0_below_9 rfl (lv_at hl 0 rfl) ?_
    refine lv_ldc (v := (2147483647 : Int32)) hx hb hown (ht _ kw_3_177) dX0_below_10 ?_
    refine lv_iand hx hb dX0_below_12 ?_
    refine lv_ldc (v := (65536 : Int32)) hx hb hown (ht _ kw_3_178) dX0_below_13 ?_
    refine lv_idiv hx hb dX0_below_15 (by decide) ?_
    refine lv_iload_n hx hb dX0_below_16 rfl (lv_at hl 1 rfl) ?_
    obtain ⟨g2, hv⟩ := gd_s hv
    refine lv_irem hx hb dX0_below_17 (nz_s g2) ?_
    exact W.iret (v := (((p0 &&& (2147483647 : Int32)) / (65536 : Int32)) - ((p0 &&& (2147483647 : Int32)) / (65536 : Int32)) / p1 * p1)) hx hb hr (fun t h9 _ => ⟨rv_i hv, h9⟩) (fun q h => absurd h List.not_mem_nil) dX0_below_18 hlk
  · have hv := if_n c1 hv
    refine lv_iconst (v := (0 : Int32)) hx hb dX0_below_5 (by decide) ?_
    refine lv_goto (tgt := 18) hx hb dX0_below_6 (by decide) ?_
    exact W.iret (v := (0 : Int32)) hx hb hr (fun t h9 _ => ⟨rv_i hv, h9⟩) (fun q h => absurd h List.not_mem_nil) dX0_below_18 hlk
theorem dX3_weightOf_0 : decode cX3_weightOf 0 = .ok (.iload_n 0, 1) := by decide +kernel
theorem dX3_weightOf_1 : decode cX3_weightOf 1 = .ok (.tableswitch 72 1 7 #[43, 47, 51, 53, 57, 60, 66], 43) := by decide +kernel
theorem dX3_weightOf_44 : decode cX3_weightOf 44 = .ok (.iconst 2, 1) := by decide +kernel
theorem dX3_weightOf_45 : decode cX3_weightOf 45 = .ok (.iload_n 2, 1) := by decide +kernel
theorem dX3_weightOf_46 : decode cX3_weightOf 46 = .ok (.imul, 1) := by decide +kernel
theorem dX3_weightOf_47 : decode cX3_weightOf 47 = .ok (.ireturn, 1) := by decide +kernel
theorem dX3_weightOf_48 : decode cX3_weightOf 48 = .ok (.iload_n 1, 1) := by decide +kernel
theorem dX3_weightOf_49 : decode cX3_weightOf 49 = .ok (.iconst 3, 1) := by decide +kernel
theorem dX3_weightOf_50 : decode cX3_weightOf 50 = .ok (.idiv, 1) := by decide +kernel
theorem dX3_weightOf_51 : decode cX3_weightOf 51 = .ok (.ireturn, 1) := by decide +kernel
theorem dX3_weightOf_52 : decode cX3_weightOf 52 = .ok (.iload_n 2, 1) := by decide +kernel
theorem dX3_weightOf_53 : decode cX3_weightOf 53 = .ok (.ireturn, 1) := by decide +kernel
theorem dX3_weightOf_54 : decode cX3_weightOf 54 = .ok (.iload_n 2, 1) := by decide +kernel
theorem dX3_weightOf_55 : decode cX3_weightOf 55 = .ok (.iconst 2, 1) := by decide +kernel
theorem dX3_weightOf_56 : decode cX3_weightOf 56 = .ok (.idiv, 1) := by decide +kernel
theorem dX3_weightOf_57 : decode cX3_weightOf 57 = .ok (.ireturn, 1) := by decide +kernel
theorem dX3_weightOf_58 : decode cX3_weightOf 58 = .ok (.bipush 9, 2) := by decide +kernel
theorem dX3_weightOf_60 : decode cX3_weightOf 60 = .ok (.ireturn, 1) := by decide +kernel
theorem dX3_weightOf_61 : decode cX3_weightOf 61 = .ok (.iconst 2, 1) := by decide +kernel
theorem dX3_weightOf_62 : decode cX3_weightOf 62 = .ok (.iload_n 2, 1) := by decide +kernel
theorem dX3_weightOf_63 : decode cX3_weightOf 63 = .ok (.imul, 1) := by decide +kernel
theorem dX3_weightOf_64 : decode cX3_weightOf 64 = .ok (.iload_n 1, 1) := by decide +kernel
theorem dX3_weightOf_65 : decode cX3_weightOf 65 = .ok (.iadd, 1) := by decide +kernel
theorem dX3_weightOf_66 : decode cX3_weightOf 66 = .ok (.ireturn, 1) := by decide +kernel
theorem dX3_weightOf_67 : decode cX3_weightOf 67 = .ok (.iconst 3, 1) := by decide +kernel
theorem dX3_weightOf_68 : decode cX3_weightOf 68 = .ok (.iload_n 1, 1) := by decide +kernel
theorem dX3_weightOf_69 : decode cX3_weightOf 69 = .ok (.iconst 2, 1) := by decide +kernel
theorem dX3_weightOf_70 : decode cX3_weightOf 70 = .ok (.idiv, 1) := by decide +kernel
theorem dX3_weightOf_71 : decode cX3_weightOf 71 = .ok (.iadd, 1) := by decide +kernel
theorem dX3_weightOf_72 : decode cX3_weightOf 72 = .ok (.ireturn, 1) := by decide +kernel
theorem dX3_weightOf_73 : decode cX3_weightOf 73 = .ok (.iconst 1, 1) := by decide +kernel
theorem dX3_weightOf_74 : decode cX3_weightOf 74 = .ok (.iload_n 2, 1) := by decide +kernel
theorem dX3_weightOf_75 : decode cX3_weightOf 75 = .ok (.iadd, 1) := by decide +kernel
theorem dX3_weightOf_76 : decode cX3_weightOf 76 = .ok (.ireturn, 1) := by decide +kernel
def f_X3_weightOf (p0 : Int32) (p1 : Int32) (p2 : Int32) : Option (Int32) := if p0 = (1 : Int32) then some ((2 : Int32) * p2) else if p0 = (2 : Int32) then some (p1 / (3 : Int32)) else if p0 = (3 : Int32) then some p2 else if p0 = (4 : Int32) then some (p2 / (2 : Int32)) else if p0 = (5 : Int32) then some (9 : Int32) else if p0 = (6 : Int32) then some (((2 : Int32) * p2) + p1) else if p0 = (7 : Int32) then some ((3 : Int32) + (p1 / (2 : Int32))) else some ((1 : Int32) + p2)
set_option maxHeartbeats 4000000 in
set_option maxRecDepth 100000 in
theorem c_X3_weightOf (l : Launch) (E : EE) (p0 : Int32) (p1 : Int32) (p2 : Int32) (res : Int32) (hv : f_X3_weightOf p0 p1 p2 = some res) : Rd l E yX3_weightOf cX3_weightOf 3 (some .int) ({ frames := 0, cells := 0, slots := 0, locals := 0 }) [.int p0, .int p1, .int p2] [] (some (.int res)) := by
  refine Rd.intro RX3 (by decide) rfl (Nat.le_of_ble_eq_true rfl) ?_
  intro p e s m below meth c ls hC hr hlk hP hG hl
  obtain ⟨hx, hb, hml, hown, ht⟩ := id hC
  have hK := hG.1
  have hl : lv_has ls 3 [(0, .int p0), (1, .int p1), (2, .int p2)] := hl
  rw [f_X3_weightOf] at hv
  refine lv_iload_n hx hb dX3_weightOf_0 rfl (lv_at hl 0 rfl) ?_
  rcases Decidable.em (p0 = (1 : Int32)) with c1 | c1
  · have hv := if_y c1 hv
    refine lv_tableIn (tgt := 44) (off := 43) hx hb dX3_weightOf_1 (by rw [c1]; decide) (by rw [c1]; decide) (by rw [c1]; rfl) (by decide) ?_
    refine lv_iconst (v := (2 : Int32)) hx hb dX3_weightOf_44 (by decide) ?_
    refine lv_iload_n hx hb dX3_weightOf_45 rfl (lv_at hl 2 rfl) ?_
    refine lv_imul hx hb dX3_weightOf_46 ?_
    exact W.iret (v := ((2 : Int32) * p2)) hx hb hr (fun t h9 _ => ⟨rv_i hv, h9⟩) (fun q h => absurd h List.not_mem_nil) dX3_weightOf_47 hlk
  · have hv := if_n c1 hv
    rcases Decidable.em (p0 = (2 : Int32)) with c2 | c2
    · have hv := if_y c2 hv
      refine lv_tableIn (tgt := 48) (off := 47) hx hb dX3_weightOf_1 (by rw [c2]; decide) (by rw [c2]; decide) (by rw [c2]; rfl) (by decide) ?_
      refine lv_iload_n hx hb dX3_weightOf_48 rfl (lv_at hl 1 rfl) ?_
      refine lv_iconst (v := (3 : Int32)) hx hb dX3_weightOf_49 (by decide) ?_
      refine lv_idiv hx hb dX3_weightOf_50 (by decide) ?_
      exact W.iret (v := (p1 / (3 : Int32))) hx hb hr (fun t h9 _ => ⟨rv_i hv, h9⟩) (fun q h => absurd h List.not_mem_nil) dX3_weightOf_51 hlk
    · have hv := if_n c2 hv
      rcases Decidable.em (p0 = (3 : Int32)) with c3 | c3
      · have hv := if_y c3 hv
        refine lv_tableIn (tgt := 52) (off := 51) hx hb dX3_weightOf_1 (by rw [c3]; decide) (by rw [c3]; decide) (by rw [c3]; rfl) (by decide) ?_
        refine lv_iload_n hx hb dX3_weightOf_52 rfl (lv_at hl 2 rfl) ?_
        exact W.iret (v := p2) hx hb hr (fun t h9 _ => ⟨rv_i hv, h9⟩) (fun q h => absurd h List.not_mem_nil) dX3_weightOf_53 hlk
      · have hv := if_n c3 hv
        rcases Decidable.em (p0 = (4 : Int32)) with c4 | c4
        · have hv := if_y c4 hv
          refine lv_tableIn (tgt := 54) (off := 53) hx hb dX3_weightOf_1 (by rw [c4]; decide) (by rw [c4]; decide) (by rw [c4]; rfl) (by decide) ?_
          refine lv_iload_n hx hb dX3_weightOf_54 rfl (lv_at hl 2 rfl) ?_
          refine lv_iconst (v := (2 : Int32)) hx hb dX3_weightOf_55 (by decide) ?_
          refine lv_idiv hx hb dX3_weightOf_56 (by decide) ?_
          exact W.iret (v := (p2 / (2 : Int32))) hx hb hr (fun t h9 _ => ⟨rv_i hv, h9⟩) (fun q h => absurd h List.not_mem_nil) dX3_weightOf_57 hlk
        · have hv := if_n c4 hv
          rcases Decidable.em (p0 = (5 : Int32)) with c5 | c5
          · have hv := if_y c5 hv
            refine lv_tableIn (tgt := 58) (off := 57) hx hb dX3_weightOf_1 (by rw [c5]; decide) (by rw [c5]; decide) (by rw [c5]; rfl) (by decide) ?_
            refine lv_bipush (v := (9 : Int32)) hx hb dX3_weightOf_58 (by decide) ?_
            exact W.iret (v := (9 : Int32)) hx hb hr (fun t h9 _ => ⟨rv_i hv, h9⟩) (fun q h => absurd h List.not_mem_nil) dX3_weightOf_60 hlk
          · have hv := if_n c5 hv
            rcases Decidable.em (p0 = (6 : Int32)) with c6 | c6
            · have hv := if_y c6 hv
              refine lv_tableIn (tgt := 61) (off := 60) hx hb dX3_weightOf_1 (by rw [c6]; decide) (by rw [c6]; decide) (by rw [c6]; rfl) (by decide) ?_
              refine lv_iconst (v := (2 : Int32)) hx hb dX3_weightOf_61 (by decide) ?_
              refine lv_iload_n hx hb dX3_weightOf_62 rfl (lv_at hl 2 rfl) ?_
              refine lv_imul hx hb dX3_weightOf_63 ?_
              refine lv_iload_n hx hb dX3_weightOf_64 rfl (lv_at hl 1 rfl) ?_
              refine lv_iadd hx hb dX3_weightOf_65 ?_
              exact W.iret (v := (((2 : Int32) * p2) + p1)) hx hb hr (fun t h9 _ => ⟨rv_i hv, h9⟩) (fun q h => absurd h List.not_mem_nil) dX3_weightOf_66 hlk
            · have hv := if_n c6 hv
              rcases Decidable.em (p0 = (7 : Int32)) with c7 | c7
              · have hv := if_y c7 hv
                refine lv_tableIn (tgt := 67) (off := 66) hx hb dX3_weightOf_1 (by rw [c7]; decide) (by rw [c7]; decide) (by rw [c7]; rfl) (by decide) ?_
                refine lv_iconst (v := (3 : Int32)) hx hb dX3_weightOf_67 (by decide) ?_
                refine lv_iload_n hx hb dX3_weightOf_68 rfl (lv_at hl 1 rfl) ?_
                refine lv_iconst (v := (2 : Int32)) hx hb dX3_weightOf_69 (by decide) ?_
                refine lv_idiv hx hb dX3_weightOf_70 (by decide) ?_
                refine lv_iadd hx hb dX3_weightOf_71 ?_
                exact W.iret (v := ((3 : Int32) + (p1 / (2 : Int32)))) hx hb hr (fun t h9 _ => ⟨rv_i hv, h9⟩) (fun q h => absurd h List.not_mem_nil) dX3_weightOf_72 hlk
              · have hv := if_n c7 hv
                refine lv_tableD (tgt := 73) hx hb dX3_weightOf_1 (fun i h => match i, h with | 0, _ => Or.inr (lv_neT c1 (by decide)) | 1, _ => Or.inr (lv_neT c2 (by decide)) | 2, _ => Or.inr (lv_neT c3 (by decide)) | 3, _ => Or.inr (lv_neT c4 (by decide)) | 4, _ => Or.inr (lv_neT c5 (by decide)) | 5, _ => Or.inr (lv_neT c6 (by decide)) | 6, _ => Or.inr (lv_neT c7 (by decide)) | i + 7, h => absurd h (by simp)) rfl (by decide) ?_
                refine lv_iconst (v := (1 : Int32)) hx hb dX3_weightOf_73 (by decide) ?_
                refine lv_iload_n hx hb dX3_weightOf_74 rfl (lv_at hl 2 rfl) ?_
                refine lv_iadd hx hb dX3_weightOf_75 ?_
                exact W.iret (v := ((1 : Int32) + p2)) hx hb hr (fun t h9 _ => ⟨rv_i hv, h9⟩) (fun q h => absurd h List.not_mem_nil) dX3_weightOf_76 hlk
theorem dX3_isVeto_0 : decode cX3_isVeto 0 = .ok (.iload_n 0, 1) := by decide +kernel
theorem dX3_isVeto_1 : decode cX3_isVeto 1 = .ok (.bipush 6, 2) := by decide +kernel
theorem dX3_isVeto_3 : decode cX3_isVeto 3 = .ok (.if_icmp .ne 7, 3) := by decide +kernel
theorem dX3_isVeto_6 : decode cX3_isVeto 6 = .ok (.iload_n 1, 1) := by decide +kernel
theorem dX3_isVeto_7 : decode cX3_isVeto 7 = .ok (.ifCond .lt 15, 3) := by decide +kernel
theorem dX3_isVeto_10 : decode cX3_isVeto 10 = .ok (.iload_n 0, 1) := by decide +kernel
theorem dX3_isVeto_11 : decode cX3_isVeto 11 = .ok (.bipush 7, 2) := by decide +kernel
theorem dX3_isVeto_13 : decode cX3_isVeto 13 = .ok (.if_icmp .ne 13, 3) := by decide +kernel
theorem dX3_isVeto_16 : decode cX3_isVeto 16 = .ok (.iload_n 1, 1) := by decide +kernel
theorem dX3_isVeto_17 : decode cX3_isVeto 17 = .ok (.bipush (-5), 2) := by decide +kernel
theorem dX3_isVeto_19 : decode cX3_isVeto 19 = .ok (.if_icmp .gt 7, 3) := by decide +kernel
theorem dX3_isVeto_22 : decode cX3_isVeto 22 = .ok (.iconst 1, 1) := by decide +kernel
theorem dX3_isVeto_23 : decode cX3_isVeto 23 = .ok (.goto 4, 3) := by decide +kernel
theorem dX3_isVeto_26 : decode cX3_isVeto 26 = .ok (.iconst 0, 1) := by decide +kernel
theorem dX3_isVeto_27 : decode cX3_isVeto 27 = .ok (.ireturn, 1) := by decide +kernel
def f_X3_isVeto (p0 : Int32) (p1 : Int32) : Option (Int32) := if p0 = (6 : Int32) then if p1 < 0 then some (1 : Int32) else if p0 = (7 : Int32) then if (-5 : Int32) < p1 then some (0 : Int32) else some (1 : Int32) else some (0 : Int32) else if p0 = (7 : Int32) then if (-5 : Int32) < p1 then some (0 : Int32) else some (1 : Int32) else some (0 : Int32)
set_option maxHeartbeats 4000000 in
set_option maxRecDepth 100000 in
theorem c_X3_isVeto (l : Launch) (E : EE) (p0 : Int32) (p1 : Int32) (res : Int32) (hv : f_X3_isVeto p0 p1 = some res) : Rd l E yX3_isVeto cX3_isVeto 2 (some .boolean) ({ frames := 0, cells := 0, slots := 0, locals := 0 }) [.int p0, .int p1] [] (some (.int res)) := by
  refine Rd.intro RX3 (by decide) rfl (Nat.le_of_ble_eq_true rfl) ?_
  intro p e s m below meth c ls hC hr hlk hP hG hl
  obtain ⟨hx, hb, hml, hown, ht⟩ := id hC
  have hK := hG.1
  have hl : lv_has ls 2 [(0, .int p0), (1, .int p1)] := hl
  rw [f_X3_isVeto] at hv
  refine lv_iload_n hx hb dX3_isVeto_0 rfl (lv_at hl 0 rfl) ?_
  refine lv_bipush (v := (6 : Int32)) hx hb dX3_isVeto_1 (by decide) ?_
  refine lv_icmp_ne (tgt := 10) hx hb dX3_isVeto_3 (by decide) (fun c1 => ?_) (fun c1 => ?_)
  · have hv := if_n c1 hv
    refine lv_iload_n hx hb dX3_isVeto_10 rfl (lv_at hl 0 rfl) ?_
    refine lv_bipush (v := (7 : Int32)) hx hb dX3_isVeto_11 (by decide) ?_
    refine lv_icmp_ne (tgt := 26) hx hb dX3_isVeto_13 (by decide) (fun c2 => ?_) (fun c2 => ?_)
    · have hv := if_n c2 hv
      refine lv_iconst (v := (0 : Int32)) hx hb dX3_isVeto_26 (by decide) ?_
      exact W.zret (v := (0 : Int32)) hx hb hr rfl (fun t h9 _ => ⟨rv_i hv, h9⟩) (fun q h => absurd h List.not_mem_nil) dX3_isVeto_27 hlk
    · have hv := if_y c2 hv
      refine lv_iload_n hx hb dX3_isVeto_16 rfl (lv_at hl 1 rfl) ?_
      refine lv_bipush (v := (-5 : Int32)) hx hb dX3_isVeto_17 (by decide) ?_
      refine lv_icmp_gt (tgt := 26) hx hb dX3_isVeto_19 (by decide) (fun c3 => ?_) (fun c3 => ?_)
      · have hv := if_y c3 hv
        refine lv_iconst (v := (0 : Int32)) hx hb dX3_isVeto_26 (by decide) ?_
        exact W.zret (v := (0 : Int32)) hx hb hr rfl (fun t h9 _ => ⟨rv_i hv, h9⟩) (fun q h => absurd h List.not_mem_nil) dX3_isVeto_27 hlk
      · have hv := if_n c3 hv
        refine lv_iconst (v := (1 : Int32)) hx hb dX3_isVeto_22 (by decide) ?_
        refine lv_goto (tgt := 27) hx hb dX3_isVeto_23 (by decide) ?_
        exact W.zret (v := (1 : Int32)) hx hb hr rfl (fun t h9 _ => ⟨rv_i hv, h9⟩) (fun q h => absurd h List.not_mem_nil) dX3_isVeto_27 hlk
  · have hv := if_y c1 hv
    refine lv_iload_n hx hb dX3_isVeto_6 rfl (lv_at hl 1 rfl) ?_
    refine lv_if_lt (tgt := 22) hx hb dX3_isVeto_7 (by decide) (fun c4 => ?_) (fun c4 => ?_)
    · have hv := if_y c4 hv
      refine lv_iconst (v := (1 : Int32)) hx hb dX3_isVeto_22 (by decide) ?_
      refine lv_goto (tgt := 27) hx hb dX3_isVeto_23 (by decide) ?_
      exact W.zret (v := (1 : Int32)) hx hb hr rfl (fun t h9 _ => ⟨rv_i hv, h9⟩) (fun q h => absurd h List.not_mem_nil) dX3_isVeto_27 hlk
    · have hv := if_n c4 hv
      refine lv_iload_n hx hb dX3_isVeto_10 rfl (lv_at hl 0 rfl) ?_
      refine lv_bipush (v := (7 : Int32)) hx hb dX3_isVeto_11 (by decide) ?_
      refine lv_icmp_ne (tgt := 26) hx hb dX3_isVeto_13 (by decide) (fun c5 => ?_) (fun c5 => ?_)
      · have hv := if_n c5 hv
        refine lv_iconst (v := (0 : Int32)) hx hb dX3_isVeto_26 (by decide) ?_
        exact W.zret (v := (0 : Int32)) hx hb hr rfl (fun t h9 _ => ⟨rv_i hv, h9⟩) (fun q h => absurd h List.not_mem_nil) dX3_isVeto_27 hlk
      · have hv := if_y c5 hv
        refine lv_iload_n hx hb dX3_isVeto_16 rfl (lv_at hl 1 rfl) ?_
        refine lv_bipush (v := (-5 : Int32)) hx hb dX3_isVeto_17 (by decide) ?_
        refine lv_icmp_gt (tgt := 26) hx hb dX3_isVeto_19 (by decide) (fun c6 => ?_) (fun c6 => ?_)
        · have hv := if_y c6 hv
          refine lv_iconst (v := (0 : Int32)) hx hb dX3_isVeto_26 (by decide) ?_
          exact W.zret (v := (0 : Int32)) hx hb hr rfl (fun t h9 _ => ⟨rv_i hv, h9⟩) (fun q h => absurd h List.not_mem_nil) dX3_isVeto_27 hlk
        · have hv := if_n c6 hv
          refine lv_iconst (v := (1 : Int32)) hx hb dX3_isVeto_22 (by decide) ?_
          refine lv_goto (tgt := 27) hx hb dX3_isVeto_23 (by decide) ?_
          exact W.zret (v := (1 : Int32)) hx hb hr rfl (fun t h9 _ => ⟨rv_i hv, h9⟩) (fun q h => absurd h List.not_mem_nil) dX3_isVeto_27 hlk
theorem dX3_swayOf_0 : decode cX3_swayOf 0 = .ok (.iload_n 0, 1) := by decide +kernel
theorem dX3_swayOf_1 : decode cX3_swayOf 1 = .ok (.tableswitch 51 1 6 #[39, 51, 41, 43, 49, 39], 39) := by decide +kernel
theorem dX3_swayOf_40 : decode cX3_swayOf 40 = .ok (.iconst 0, 1) := by decide +kernel
theorem dX3_swayOf_41 : decode cX3_swayOf 41 = .ok (.ireturn, 1) := by decide +kernel
theorem dX3_swayOf_42 : decode cX3_swayOf 42 = .ok (.iconst 2, 1) := by decide +kernel
theorem dX3_swayOf_43 : decode cX3_swayOf 43 = .ok (.ireturn, 1) := by decide +kernel
theorem dX3_swayOf_44 : decode cX3_swayOf 44 = .ok (.iconst 2, 1) := by decide +kernel
theorem dX3_swayOf_45 : decode cX3_swayOf 45 = .ok (.iload_n 1, 1) := by decide +kernel
theorem dX3_swayOf_46 : decode cX3_swayOf 46 = .ok (.iconst 3, 1) := by decide +kernel
theorem dX3_swayOf_47 : decode cX3_swayOf 47 = .ok (.idiv, 1) := by decide +kernel
theorem dX3_swayOf_48 : decode cX3_swayOf 48 = .ok (.iadd, 1) := by decide +kernel
theorem dX3_swayOf_49 : decode cX3_swayOf 49 = .ok (.ireturn, 1) := by decide +kernel
theorem dX3_swayOf_50 : decode cX3_swayOf 50 = .ok (.iconst 3, 1) := by decide +kernel
theorem dX3_swayOf_51 : decode cX3_swayOf 51 = .ok (.ireturn, 1) := by decide +kernel
theorem dX3_swayOf_52 : decode cX3_swayOf 52 = .ok (.iconst 1, 1) := by decide +kernel
theorem dX3_swayOf_53 : decode cX3_swayOf 53 = .ok (.ireturn, 1) := by decide +kernel
def f_X3_swayOf (p0 : Int32) (p1 : Int32) : Option (Int32) := if p0 = (1 : Int32) then some (0 : Int32) else if p0 = (3 : Int32) then some (2 : Int32) else if p0 = (4 : Int32) then some ((2 : Int32) + (p1 / (3 : Int32))) else if p0 = (5 : Int32) then some (3 : Int32) else if p0 = (6 : Int32) then some (0 : Int32) else some (1 : Int32)
set_option maxHeartbeats 4000000 in
set_option maxRecDepth 100000 in
theorem c_X3_swayOf (l : Launch) (E : EE) (p0 : Int32) (p1 : Int32) (res : Int32) (hv : f_X3_swayOf p0 p1 = some res) : Rd l E yX3_swayOf cX3_swayOf 2 (some .int) ({ frames := 0, cells := 0, slots := 0, locals := 0 }) [.int p0, .int p1] [] (some (.int res)) := by
  refine Rd.intro RX3 (by decide) rfl (Nat.le_of_ble_eq_true rfl) ?_
  intro p e s m below meth c ls hC hr hlk hP hG hl
  obtain ⟨hx, hb, hml, hown, ht⟩ := id hC
  have hK := hG.1
  have hl : lv_has ls 2 [(0, .int p0), (1, .int p1)] := hl
  rw [f_X3_swayOf] at hv
  refine lv_iload_n hx hb dX3_swayOf_0 rfl (lv_at hl 0 rfl) ?_
  rcases Decidable.em (p0 = (1 : Int32)) with c1 | c1
  · have hv := if_y c1 hv
    refine lv_tableIn (tgt := 40) (off := 39) hx hb dX3_swayOf_1 (by rw [c1]; decide) (by rw [c1]; decide) (by rw [c1]; rfl) (by decide) ?_
    refine lv_iconst (v := (0 : Int32)) hx hb dX3_swayOf_40 (by decide) ?_
    exact W.iret (v := (0 : Int32)) hx hb hr (fun t h9 _ => ⟨rv_i hv, h9⟩) (fun q h => absurd h List.not_mem_nil) dX3_swayOf_41 hlk
  · have hv := if_n c1 hv
    rcases Decidable.em (p0 = (3 : Int32)) with c2 | c2
    · have hv := if_y c2 hv
      refine lv_tableIn (tgt := 42) (off := 41) hx hb dX3_swayOf_1 (by rw [c2]; decide) (by rw [c2]; decide) (by rw [c2]; rfl) (by decide) ?_
      refine lv_iconst (v := (2 : Int32)) hx hb dX3_swayOf_42 (by decide) ?_
      exact W.iret (v := (2 : Int32)) hx hb hr (fun t h9 _ => ⟨rv_i hv, h9⟩) (fun q h => absurd h List.not_mem_nil) dX3_swayOf_43 hlk
    · have hv := if_n c2 hv
      rcases Decidable.em (p0 = (4 : Int32)) with c3 | c3
      · have hv := if_y c3 hv
        refine lv_tableIn (tgt := 44) (off := 43) hx hb dX3_swayOf_1 (by rw [c3]; decide) (by rw [c3]; decide) (by rw [c3]; rfl) (by decide) ?_
        refine lv_iconst (v := (2 : Int32)) hx hb dX3_swayOf_44 (by decide) ?_
        refine lv_iload_n hx hb dX3_swayOf_45 rfl (lv_at hl 1 rfl) ?_
        refine lv_iconst (v := (3 : Int32)) hx hb dX3_swayOf_46 (by decide) ?_
        refine lv_idiv hx hb dX3_swayOf_47 (by decide) ?_
        refine lv_iadd hx hb dX3_swayOf_48 ?_
        exact W.iret (v := ((2 : Int32) + (p1 / (3 : Int32)))) hx hb hr (fun t h9 _ => ⟨rv_i hv, h9⟩) (fun q h => absurd h List.not_mem_nil) dX3_swayOf_49 hlk
      · have hv := if_n c3 hv
        rcases Decidable.em (p0 = (5 : Int32)) with c4 | c4
        · have hv := if_y c4 hv
          refine lv_tableIn (tgt := 50) (off := 49) hx hb dX3_swayOf_1 (by rw [c4]; decide) (by rw [c4]; decide) (by rw [c4]; rfl) (by decide) ?_
          refine lv_iconst (v := (3 : Int32)) hx hb dX3_swayOf_50 (by decide) ?_
          exact W.iret (v := (3 : Int32)) hx hb hr (fun t h9 _ => ⟨rv_i hv, h9⟩) (fun q h => absurd h List.not_mem_nil) dX3_swayOf_51 hlk
        · have hv := if_n c4 hv
          rcases Decidable.em (p0 = (6 : Int32)) with c5 | c5
          · have hv := if_y c5 hv
            refine lv_tableIn (tgt := 40) (off := 39) hx hb dX3_swayOf_1 (by rw [c5]; decide) (by rw [c5]; decide) (by rw [c5]; rfl) (by decide) ?_
            refine lv_iconst (v := (0 : Int32)) hx hb dX3_swayOf_40 (by decide) ?_
            exact W.iret (v := (0 : Int32)) hx hb hr (fun t h9 _ => ⟨rv_i hv, h9⟩) (fun q h => absurd h List.not_mem_nil) dX3_swayOf_41 hlk
          · have hv := if_n c5 hv
            refine lv_tableD (tgt := 52) hx hb dX3_swayOf_1 (fun i h => match i, h with | 0, _ => Or.inr (lv_neT c1 (by decide)) | 1, _ => Or.inl rfl | 2, _ => Or.inr (lv_neT c2 (by decide)) | 3, _ => Or.inr (lv_neT c3 (by decide)) | 4, _ => Or.inr (lv_neT c4 (by decide)) | 5, _ => Or.inr (lv_neT c5 (by decide)) | i + 6, h => absurd h (by simp)) rfl (by decide) ?_
            refine lv_iconst (v := (1 : Int32)) hx hb dX3_swayOf_52 (by decide) ?_
            exact W.iret (v := (1 : Int32)) hx hb hr (fun t h9 _ => ⟨rv_i hv, h9⟩) (fun q h => absurd h List.not_mem_nil) dX3_swayOf_53 hlk
theorem dX3_widowPrice_0 : decode cX3_widowPrice 0 = .ok (.iconst 2, 1) := by decide +kernel
theorem dX3_widowPrice_1 : decode cX3_widowPrice 1 = .ok (.iload_n 0, 1) := by decide +kernel
theorem dX3_widowPrice_2 : decode cX3_widowPrice 2 = .ok (.iadd, 1) := by decide +kernel
theorem dX3_widowPrice_3 : decode cX3_widowPrice 3 = .ok (.ireturn, 1) := by decide +kernel
def f_X3_widowPrice (p0 : Int32) : Option (Int32) := some ((2 : Int32) + p0)
set_option maxHeartbeats 4000000 in
set_option maxRecDepth 100000 in
theorem c_X3_widowPrice (l : Launch) (E : EE) (p0 : Int32) (res : Int32) (hv : f_X3_widowPrice p0 = some res) : Rd l E yX3_widowPrice cX3_widowPrice 1 (some .int) ({ frames := 0, cells := 0, slots := 0, locals := 0 }) [.int p0] [] (some (.int res)) := by
  refine Rd.intro RX3 (by decide) rfl (Nat.le_of_ble_eq_true rfl) ?_
  intro p e s m below meth c ls hC hr hlk hP hG hl
  obtain ⟨hx, hb, hml, hown, ht⟩ := id hC
  have hK := hG.1
  have hl : lv_has ls 1 [(0, .int p0)] := hl
  rw [f_X3_widowPrice] at hv
  refine lv_iconst (v := (2 : Int32)) hx hb dX3_widowPrice_0 (by decide) ?_
  refine lv_iload_n hx hb dX3_widowPrice_1 rfl (lv_at hl 0 rfl) ?_
  refine lv_iadd hx hb dX3_widowPrice_2 ?_
  exact W.iret (v := ((2 : Int32) + p0)) hx hb hr (fun t h9 _ => ⟨rv_i hv, h9⟩) (fun q h => absurd h List.not_mem_nil) dX3_widowPrice_3 hlk
theorem dX3_priceOf_0 : decode cX3_priceOf 0 = .ok (.iload_n 0, 1) := by decide +kernel
theorem dX3_priceOf_1 : decode cX3_priceOf 1 = .ok (.tableswitch 66 1 7 #[43, 48, 50, 52, 54, 56, 63], 43) := by decide +kernel
theorem dX3_priceOf_44 : decode cX3_priceOf 44 = .ok (.iload_n 1, 1) := by decide +kernel
theorem dX3_priceOf_45 : decode cX3_priceOf 45 = .ok (.invokestatic 9, 3) := by decide +kernel
theorem dX3_priceOf_48 : decode cX3_priceOf 48 = .ok (.ireturn, 1) := by decide +kernel
theorem dX3_priceOf_49 : decode cX3_priceOf 49 = .ok (.iconst 0, 1) := by decide +kernel
theorem dX3_priceOf_50 : decode cX3_priceOf 50 = .ok (.ireturn, 1) := by decide +kernel
theorem dX3_priceOf_51 : decode cX3_priceOf 51 = .ok (.iconst 1, 1) := by decide +kernel
theorem dX3_priceOf_52 : decode cX3_priceOf 52 = .ok (.ireturn, 1) := by decide +kernel
theorem dX3_priceOf_53 : decode cX3_priceOf 53 = .ok (.iconst 0, 1) := by decide +kernel
theorem dX3_priceOf_54 : decode cX3_priceOf 54 = .ok (.ireturn, 1) := by decide +kernel
theorem dX3_priceOf_55 : decode cX3_priceOf 55 = .ok (.iconst 1, 1) := by decide +kernel
theorem dX3_priceOf_56 : decode cX3_priceOf 56 = .ok (.ireturn, 1) := by decide +kernel
theorem dX3_priceOf_57 : decode cX3_priceOf 57 = .ok (.iconst 2, 1) := by decide +kernel
theorem dX3_priceOf_58 : decode cX3_priceOf 58 = .ok (.iload_n 1, 1) := by decide +kernel
theorem dX3_priceOf_59 : decode cX3_priceOf 59 = .ok (.invokestatic 9, 3) := by decide +kernel
theorem dX3_priceOf_62 : decode cX3_priceOf 62 = .ok (.imul, 1) := by decide +kernel
theorem dX3_priceOf_63 : decode cX3_priceOf 63 = .ok (.ireturn, 1) := by decide +kernel
theorem dX3_priceOf_64 : decode cX3_priceOf 64 = .ok (.bipush 9, 2) := by decide +kernel
theorem dX3_priceOf_66 : decode cX3_priceOf 66 = .ok (.ireturn, 1) := by decide +kernel
theorem dX3_priceOf_67 : decode cX3_priceOf 67 = .ok (.iconst 2, 1) := by decide +kernel
theorem dX3_priceOf_68 : decode cX3_priceOf 68 = .ok (.ireturn, 1) := by decide +kernel
def f_X3_priceOf (p0 : Int32) (p1 : Int32) : Option (Int32) := if p0 = (1 : Int32) then ob (f_X3_widowPrice p1) (fun r2 => some r2) else if p0 = (2 : Int32) then some (0 : Int32) else if p0 = (3 : Int32) then some (1 : Int32) else if p0 = (4 : Int32) then some (0 : Int32) else if p0 = (5 : Int32) then some (1 : Int32) else if p0 = (6 : Int32) then ob (f_X3_widowPrice p1) (fun r9 => some ((2 : Int32) * r9)) else if p0 = (7 : Int32) then some (9 : Int32) else some (2 : Int32)
set_option maxHeartbeats 4000000 in
set_option maxRecDepth 100000 in
theorem c_X3_priceOf (l : Launch) (E : EE) (p0 : Int32) (p1 : Int32) (res : Int32) (hv : f_X3_priceOf p0 p1 = some res) : Rd l E yX3_priceOf cX3_priceOf 2 (some .int) ({ frames := 1, cells := 0, slots := 0, locals := 20 }) [.int p0, .int p1] [] (some (.int res)) := by
  refine Rd.intro RX3 (by decide) rfl (Nat.le_of_ble_eq_true rfl) ?_
  intro p e s m below meth c ls hC hr hlk hP hG hl
  obtain ⟨hx, hb, hml, hown, ht⟩ := id hC
  have hK := hG.1
  have hl : lv_has ls 2 [(0, .int p0), (1, .int p1)] := hl
  rw [f_X3_priceOf] at hv
  refine lv_iload_n hx hb dX3_priceOf_0 rfl (lv_at hl 0 rfl) ?_
  rcases Decidable.em (p0 = (1 : Int32)) with c1 | c1
  · have hv := if_y c1 hv
    refine lv_tableIn (tgt := 44) (off := 43) hx hb dX3_priceOf_1 (by rw [c1]; decide) (by rw [c1]; decide) (by rw [c1]; rfl) (by decide) ?_
    refine lv_iload_n hx hb dX3_priceOf_44 rfl (lv_at hl 1 rfl) ?_
    obtain ⟨r2, h3, hv⟩ := ob_s hv
    refine rdS (rest := []) (st1 := [.int r2]) (w := []) hC q_X3_widowPrice kw_4_1 (c_X3_widowPrice l E p1 r2 h3) ⟨rfl, rfl⟩ ⟨Nat.le_of_ble_eq_true rfl, Nat.le_of_ble_eq_true rfl⟩ ⟨Nat.zero_le _, Nat.zero_le _⟩ hP hG rfl hl.1 rfl (Nat.le_of_ble_eq_true rfl) dX3_priceOf_45 rfl ?_
    exact W.iret (v := r2) hx hb hr (fun t h9 _ => ⟨rv_i hv, h9⟩) (fun q h => absurd h List.not_mem_nil) dX3_priceOf_48 hlk
  · have hv := if_n c1 hv
    rcases Decidable.em (p0 = (2 : Int32)) with c4 | c4
    · have hv := if_y c4 hv
      refine lv_tableIn (tgt := 49) (off := 48) hx hb dX3_priceOf_1 (by rw [c4]; decide) (by rw [c4]; decide) (by rw [c4]; rfl) (by decide) ?_
      refine lv_iconst (v := (0 : Int32)) hx hb dX3_priceOf_49 (by decide) ?_
      exact W.iret (v := (0 : Int32)) hx hb hr (fun t h9 _ => ⟨rv_i hv, h9⟩) (fun q h => absurd h List.not_mem_nil) dX3_priceOf_50 hlk
    · have hv := if_n c4 hv
      rcases Decidable.em (p0 = (3 : Int32)) with c5 | c5
      · have hv := if_y c5 hv
        refine lv_tableIn (tgt := 51) (off := 50) hx hb dX3_priceOf_1 (by rw [c5]; decide) (by rw [c5]; decide) (by rw [c5]; rfl) (by decide) ?_
        refine lv_iconst (v := (1 : Int32)) hx hb dX3_priceOf_51 (by decide) ?_
        exact W.iret (v := (1 : Int32)) hx hb hr (fun t h9 _ => ⟨rv_i hv, h9⟩) (fun q h => absurd h List.not_mem_nil) dX3_priceOf_52 hlk
      · have hv := if_n c5 hv
        rcases Decidable.em (p0 = (4 : Int32)) with c6 | c6
        · have hv := if_y c6 hv
          refine lv_tableIn (tgt := 53) (off := 52) hx hb dX3_priceOf_1 (by rw [c6]; decide) (by rw [c6]; decide) (by rw [c6]; rfl) (by decide) ?_
          refine lv_iconst (v := (0 : Int32)) hx hb dX3_priceOf_53 (by decide) ?_
          exact W.iret (v := (0 : Int32)) hx hb hr (fun t h9 _ => ⟨rv_i hv, h9⟩) (fun q h => absurd h List.not_mem_nil) dX3_priceOf_54 hlk
        · have hv := if_n c6 hv
          rcases Decidable.em (p0 = (5 : Int32)) with c7 | c7
          · have hv := if_y c7 hv
            refine lv_tableIn (tgt := 55) (off := 54) hx hb dX3_priceOf_1 (by rw [c7]; decide) (by rw [c7]; decide) (by rw [c7]; rfl) (by decide) ?_
            refine lv_iconst (v := (1 : Int32)) hx hb dX3_priceOf_55 (by decide) ?_
            exact W.iret (v := (1 : Int32)) hx hb hr (fun t h9 _ => ⟨rv_i hv, h9⟩) (fun q h => absurd h List.not_mem_nil) dX3_priceOf_56 hlk
          · have hv := if_n c7 hv
            rcases Decidable.em (p0 = (6 : Int32)) with c8 | c8
            · have hv := if_y c8 hv
              refine lv_tableIn (tgt := 57) (off := 56) hx hb dX3_priceOf_1 (by rw [c8]; decide) (by rw [c8]; decide) (by rw [c8]; rfl) (by decide) ?_
              refine lv_iconst (v := (2 : Int32)) hx hb dX3_priceOf_57 (by decide) ?_
              refine lv_iload_n hx hb dX3_priceOf_58 rfl (lv_at hl 1 rfl) ?_
              obtain ⟨r9, h10, hv⟩ := ob_s hv
              refine rdS (rest := [.int (2 : Int32)]) (st1 := [.int r9, .int (2 : Int32)]) (w := []) hC q_X3_widowPrice kw_4_1 (c_X3_widowPrice l E p1 r9 h10) ⟨rfl, rfl⟩ ⟨Nat.le_of_ble_eq_true rfl, Nat.le_of_ble_eq_true rfl⟩ ⟨Nat.zero_le _, Nat.zero_le _⟩ hP hG rfl hl.1 rfl (Nat.le_of_ble_eq_true rfl) dX3_priceOf_59 rfl ?_
              refine lv_imul hx hb dX3_priceOf_62 ?_
              exact W.iret (v := ((2 : Int32) * r9)) hx hb hr (fun t h9 _ => ⟨rv_i hv, h9⟩) (fun q h => absurd h List.not_mem_nil) dX3_priceOf_63 hlk
            · have hv := if_n c8 hv
              rcases Decidable.em (p0 = (7 : Int32)) with c11 | c11
              · have hv := if_y c11 hv
                refine lv_tableIn (tgt := 64) (off := 63) hx hb dX3_priceOf_1 (by rw [c11]; decide) (by rw [c11]; decide) (by rw [c11]; rfl) (by decide) ?_
                refine lv_bipush (v := (9 : Int32)) hx hb dX3_priceOf_64 (by decide) ?_
                exact W.iret (v := (9 : Int32)) hx hb hr (fun t h9 _ => ⟨rv_i hv, h9⟩) (fun q h => absurd h List.not_mem_nil) dX3_priceOf_66 hlk
              · have hv := if_n c11 hv
                refine lv_tableD (tgt := 67) hx hb dX3_priceOf_1 (fun i h => match i, h with | 0, _ => Or.inr (lv_neT c1 (by decide)) | 1, _ => Or.inr (lv_neT c4 (by decide)) | 2, _ => Or.inr (lv_neT c5 (by decide)) | 3, _ => Or.inr (lv_neT c6 (by decide)) | 4, _ => Or.inr (lv_neT c7 (by decide)) | 5, _ => Or.inr (lv_neT c8 (by decide)) | 6, _ => Or.inr (lv_neT c11 (by decide)) | i + 7, h => absurd h (by simp)) rfl (by decide) ?_
                refine lv_iconst (v := (2 : Int32)) hx hb dX3_priceOf_67 (by decide) ?_
                exact W.iret (v := (2 : Int32)) hx hb hr (fun t h9 _ => ⟨rv_i hv, h9⟩) (fun q h => absurd h List.not_mem_nil) dX3_priceOf_68 hlk
theorem dJ6_bitCount_0f7a4_0 : decode cJ6_bitCount_0f7a4 0 = .ok (.iload_n 0, 1) := by decide +kernel
theorem dJ6_bitCount_0f7a4_1 : decode cJ6_bitCount_0f7a4 1 = .ok (.iload_n 0, 1) := by decide +kernel
theorem dJ6_bitCount_0f7a4_2 : decode cJ6_bitCount_0f7a4 2 = .ok (.iconst 1, 1) := by decide +kernel
theorem dJ6_bitCount_0f7a4_3 : decode cJ6_bitCount_0f7a4 3 = .ok (.iushr, 1) := by decide +kernel
theorem dJ6_bitCount_0f7a4_4 : decode cJ6_bitCount_0f7a4 4 = .ok (.ldc_w 265, 3) := by decide +kernel
theorem dJ6_bitCount_0f7a4_7 : decode cJ6_bitCount_0f7a4 7 = .ok (.iand, 1) := by decide +kernel
theorem dJ6_bitCount_0f7a4_8 : decode cJ6_bitCount_0f7a4 8 = .ok (.isub, 1) := by decide +kernel
theorem dJ6_bitCount_0f7a4_9 : decode cJ6_bitCount_0f7a4 9 = .ok (.istore_n 0, 1) := by decide +kernel
theorem dJ6_bitCount_0f7a4_10 : decode cJ6_bitCount_0f7a4 10 = .ok (.iload_n 0, 1) := by decide +kernel
theorem dJ6_bitCount_0f7a4_11 : decode cJ6_bitCount_0f7a4 11 = .ok (.ldc_w 266, 3) := by decide +kernel
theorem dJ6_bitCount_0f7a4_14 : decode cJ6_bitCount_0f7a4 14 = .ok (.iand, 1) := by decide +kernel
theorem dJ6_bitCount_0f7a4_15 : decode cJ6_bitCount_0f7a4 15 = .ok (.iload_n 0, 1) := by decide +kernel
theorem dJ6_bitCount_0f7a4_16 : decode cJ6_bitCount_0f7a4 16 = .ok (.iconst 2, 1) := by decide +kernel
theorem dJ6_bitCount_0f7a4_17 : decode cJ6_bitCount_0f7a4 17 = .ok (.iushr, 1) := by decide +kernel
theorem dJ6_bitCount_0f7a4_18 : decode cJ6_bitCount_0f7a4 18 = .ok (.ldc_w 266, 3) := by decide +kernel
theorem dJ6_bitCount_0f7a4_21 : decode cJ6_bitCount_0f7a4 21 = .ok (.iand, 1) := by decide +kernel
theorem dJ6_bitCount_0f7a4_22 : decode cJ6_bitCount_0f7a4 22 = .ok (.iadd, 1) := by decide +kernel
theorem dJ6_bitCount_0f7a4_23 : decode cJ6_bitCount_0f7a4 23 = .ok (.istore_n 0, 1) := by decide +kernel
theorem dJ6_bitCount_0f7a4_24 : decode cJ6_bitCount_0f7a4 24 = .ok (.iload_n 0, 1) := by decide +kernel
theorem dJ6_bitCount_0f7a4_25 : decode cJ6_bitCount_0f7a4 25 = .ok (.iload_n 0, 1) := by decide +kernel
theorem dJ6_bitCount_0f7a4_26 : decode cJ6_bitCount_0f7a4 26 = .ok (.iconst 4, 1) := by decide +kernel
theorem dJ6_bitCount_0f7a4_27 : decode cJ6_bitCount_0f7a4 27 = .ok (.iushr, 1) := by decide +kernel
theorem dJ6_bitCount_0f7a4_28 : decode cJ6_bitCount_0f7a4 28 = .ok (.iadd, 1) := by decide +kernel
theorem dJ6_bitCount_0f7a4_29 : decode cJ6_bitCount_0f7a4 29 = .ok (.ldc_w 267, 3) := by decide +kernel
theorem dJ6_bitCount_0f7a4_32 : decode cJ6_bitCount_0f7a4 32 = .ok (.iand, 1) := by decide +kernel
theorem dJ6_bitCount_0f7a4_33 : decode cJ6_bitCount_0f7a4 33 = .ok (.istore_n 0, 1) := by decide +kernel
theorem dJ6_bitCount_0f7a4_34 : decode cJ6_bitCount_0f7a4 34 = .ok (.iload_n 0, 1) := by decide +kernel
theorem dJ6_bitCount_0f7a4_35 : decode cJ6_bitCount_0f7a4 35 = .ok (.iload_n 0, 1) := by decide +kernel
theorem dJ6_bitCount_0f7a4_36 : decode cJ6_bitCount_0f7a4 36 = .ok (.bipush 8, 2) := by decide +kernel
theorem dJ6_bitCount_0f7a4_38 : decode cJ6_bitCount_0f7a4 38 = .ok (.iushr, 1) := by decide +kernel
theorem dJ6_bitCount_0f7a4_39 : decode cJ6_bitCount_0f7a4 39 = .ok (.iadd, 1) := by decide +kernel
theorem dJ6_bitCount_0f7a4_40 : decode cJ6_bitCount_0f7a4 40 = .ok (.istore_n 0, 1) := by decide +kernel
theorem dJ6_bitCount_0f7a4_41 : decode cJ6_bitCount_0f7a4 41 = .ok (.iload_n 0, 1) := by decide +kernel
theorem dJ6_bitCount_0f7a4_42 : decode cJ6_bitCount_0f7a4 42 = .ok (.iload_n 0, 1) := by decide +kernel
theorem dJ6_bitCount_0f7a4_43 : decode cJ6_bitCount_0f7a4 43 = .ok (.bipush 16, 2) := by decide +kernel
theorem dJ6_bitCount_0f7a4_45 : decode cJ6_bitCount_0f7a4 45 = .ok (.iushr, 1) := by decide +kernel
theorem dJ6_bitCount_0f7a4_46 : decode cJ6_bitCount_0f7a4 46 = .ok (.iadd, 1) := by decide +kernel
theorem dJ6_bitCount_0f7a4_47 : decode cJ6_bitCount_0f7a4 47 = .ok (.istore_n 0, 1) := by decide +kernel
theorem dJ6_bitCount_0f7a4_48 : decode cJ6_bitCount_0f7a4 48 = .ok (.iload_n 0, 1) := by decide +kernel
theorem dJ6_bitCount_0f7a4_49 : decode cJ6_bitCount_0f7a4 49 = .ok (.bipush 63, 2) := by decide +kernel
theorem dJ6_bitCount_0f7a4_51 : decode cJ6_bitCount_0f7a4 51 = .ok (.iand, 1) := by decide +kernel
theorem dJ6_bitCount_0f7a4_52 : decode cJ6_bitCount_0f7a4 52 = .ok (.ireturn, 1) := by decide +kernel
def f_J6_bitCount_0f7a4 (p0 : Int32) : Option (Int32) := nm (p0 - (((p0.toUInt32 >>> ((1 : Int32).toUInt32 &&& Int32.toUInt32 31)).toInt32) &&& (1431655765 : Int32))) (fun z1 => nm ((z1 &&& (858993459 : Int32)) + (((z1.toUInt32 >>> ((2 : Int32).toUInt32 &&& Int32.toUInt32 31)).toInt32) &&& (858993459 : Int32))) (fun z2 => nm ((z2 + ((z2.toUInt32 >>> ((4 : Int32).toUInt32 &&& Int32.toUInt32 31)).toInt32)) &&& (252645135 : Int32)) (fun z3 => nm (z3 + ((z3.toUInt32 >>> ((8 : Int32).toUInt32 &&& Int32.toUInt32 31)).toInt32)) (fun z4 => nm (z4 + ((z4.toUInt32 >>> ((16 : Int32).toUInt32 &&& Int32.toUInt32 31)).toInt32)) (fun z5 => some (z5 &&& (63 : Int32)))))))
set_option maxHeartbeats 4000000 in
set_option maxRecDepth 100000 in
theorem c_J6_bitCount_0f7a4 (l : Launch) (E : EE) (p0 : Int32) (res : Int32) (hv : f_J6_bitCount_0f7a4 p0 = some res) : Rd l E yJ6_bitCount_0f7a4 cJ6_bitCount_0f7a4 1 (some .int) ({ frames := 0, cells := 0, slots := 0, locals := 0 }) [.int p0] [] (some (.int res)) := by
  refine Rd.intro RJ6 (by decide) rfl (Nat.le_of_ble_eq_true rfl) ?_
  intro p e s m below meth c ls hC hr hlk hP hG hl
  obtain ⟨hx, hb, hml, hown, ht⟩ := id hC
  have hK := hG.1
  have hl : lv_has ls 1 [(0, .int p0)] := hl
  rw [f_J6_bitCount_0f7a4] at hv
  refine lv_iload_n hx hb dJ6_bitCount_0f7a4_0 rfl (lv_at hl 0 rfl) ?_
  refine lv_iload_n hx hb dJ6_bitCount_0f7a4_1 rfl (lv_at hl 0 rfl) ?_
  refine lv_iconst (v := (1 : Int32)) hx hb dJ6_bitCount_0f7a4_2 (by decide) ?_
  refine lv_iushr (v := ((p0.toUInt32 >>> ((1 : Int32).toUInt32 &&& Int32.toUInt32 31)).toInt32)) hx hb dJ6_bitCount_0f7a4_3 rfl ?_
  refine lv_ldcw (v := (1431655765 : Int32)) hx hb hown (ht _ kw_2_34) dJ6_bitCount_0f7a4_4 ?_
  refine lv_iand hx hb dJ6_bitCount_0f7a4_7 ?_
  refine lv_isub hx hb dJ6_bitCount_0f7a4_8 ?_
  refine lv_topi (fun z1 ez1 => ?_)
  have hv := nm_s ez1 hv
  refine lv_istore_n (lv' := [(0, .int z1)]) hx hb dJ6_bitCount_0f7a4_9 rfl hl (by decide) rfl (fun ls hl => ?_)
  refine lv_iload_n hx hb dJ6_bitCount_0f7a4_10 rfl (lv_at hl 0 rfl) ?_
  refine lv_ldcw (v := (858993459 : Int32)) hx hb hown (ht _ kw_2_35) dJ6_bitCount_0f7a4_11 ?_
  refine lv_iand hx hb dJ6_bitCount_0f7a4_14 ?_
  refine lv_iload_n hx hb dJ6_bitCount_0f7a4_15 rfl (lv_at hl 0 rfl) ?_
  refine lv_iconst (v := (2 : Int32)) hx hb dJ6_bitCount_0f7a4_16 (by decide) ?_
  refine lv_iushr (v := ((z1.toUInt32 >>> ((2 : Int32).toUInt32 &&& Int32.toUInt32 31)).toInt32)) hx hb dJ6_bitCount_0f7a4_17 rfl ?_
  refine lv_ldcw (v := (858993459 : Int32)) hx hb hown (ht _ kw_2_35) dJ6_bitCount_0f7a4_18 ?_
  refine lv_iand hx hb dJ6_bitCount_0f7a4_21 ?_
  refine lv_iadd hx hb dJ6_bitCount_0f7a4_22 ?_
  refine lv_topi (fun z2 ez2 => ?_)
  have hv := nm_s ez2 hv
  refine lv_istore_n (lv' := [(0, .int z2)]) hx hb dJ6_bitCount_0f7a4_23 rfl hl (by decide) rfl (fun ls hl => ?_)
  refine lv_iload_n hx hb dJ6_bitCount_0f7a4_24 rfl (lv_at hl 0 rfl) ?_
  refine lv_iload_n hx hb dJ6_bitCount_0f7a4_25 rfl (lv_at hl 0 rfl) ?_
  refine lv_iconst (v := (4 : Int32)) hx hb dJ6_bitCount_0f7a4_26 (by decide) ?_
  refine lv_iushr (v := ((z2.toUInt32 >>> ((4 : Int32).toUInt32 &&& Int32.toUInt32 31)).toInt32)) hx hb dJ6_bitCount_0f7a4_27 rfl ?_
  refine lv_iadd hx hb dJ6_bitCount_0f7a4_28 ?_
  refine lv_ldcw (v := (252645135 : Int32)) hx hb hown (ht _ kw_2_36) dJ6_bitCount_0f7a4_29 ?_
  refine lv_iand hx hb dJ6_bitCount_0f7a4_32 ?_
  refine lv_topi (fun z3 ez3 => ?_)
  have hv := nm_s ez3 hv
  refine lv_istore_n (lv' := [(0, .int z3)]) hx hb dJ6_bitCount_0f7a4_33 rfl hl (by decide) rfl (fun ls hl => ?_)
  refine lv_iload_n hx hb dJ6_bitCount_0f7a4_34 rfl (lv_at hl 0 rfl) ?_
  refine lv_iload_n hx hb dJ6_bitCount_0f7a4_35 rfl (lv_at hl 0 rfl) ?_
  refine lv_bipush (v := (8 : Int32)) hx hb dJ6_bitCount_0f7a4_36 (by decide) ?_
  refine lv_iushr (v := ((z3.toUInt32 >>> ((8 : Int32).toUInt32 &&& Int32.toUInt32 31)).toInt32)) hx hb dJ6_bitCount_0f7a4_38 rfl ?_
  refine lv_iadd hx hb dJ6_bitCount_0f7a4_39 ?_
  refine lv_topi (fun z4 ez4 => ?_)
  have hv := nm_s ez4 hv
  refine lv_istore_n (lv' := [(0, .int z4)]) hx hb dJ6_bitCount_0f7a4_40 rfl hl (by decide) rfl (fun ls hl => ?_)
  refine lv_iload_n hx hb dJ6_bitCount_0f7a4_41 rfl (lv_at hl 0 rfl) ?_
  refine lv_iload_n hx hb dJ6_bitCount_0f7a4_42 rfl (lv_at hl 0 rfl) ?_
  refine lv_bipush (v := (16 : Int32)) hx hb dJ6_bitCount_0f7a4_43 (by decide) ?_
  refine lv_iushr (v := ((z4.toUInt32 >>> ((16 : Int32).toUInt32 &&& Int32.toUInt32 31)).toInt32)) hx hb dJ6_bitCount_0f7a4_45 rfl ?_
  refine lv_iadd hx hb dJ6_bitCount_0f7a4_46 ?_
  refine lv_topi (fun z5 ez5 => ?_)
  have hv := nm_s ez5 hv
  refine lv_istore_n (lv' := [(0, .int z5)]) hx hb dJ6_bitCount_0f7a4_47 rfl hl (by decide) rfl (fun ls hl => ?_)
  refine lv_iload_n hx hb dJ6_bitCount_0f7a4_48 rfl (lv_at hl 0 rfl) ?_
  refine lv_bipush (v := (63 : Int32)) hx hb dJ6_bitCount_0f7a4_49 (by decide) ?_
  refine lv_iand hx hb dJ6_bitCount_0f7a4_51 ?_
  exact W.iret (v := (z5 &&& (63 : Int32))) hx hb hr (fun t h9 _ => ⟨rv_i hv, h9⟩) (fun q h => absurd h List.not_mem_nil) dJ6_bitCount_0f7a4_52 hlk
theorem dX1_commonDivisor_0 : decode cX1_commonDivisor 0 = .ok (.lload_n 0, 1) := by decide +kernel
theorem dX1_commonDivisor_1 : decode cX1_commonDivisor 1 = .ok (.lstore 4, 2) := by decide +kernel
theorem dX1_commonDivisor_3 : decode cX1_commonDivisor 3 = .ok (.lload_n 2, 1) := by decide +kernel
theorem dX1_commonDivisor_4 : decode cX1_commonDivisor 4 = .ok (.lstore 6, 2) := by decide +kernel
theorem dX1_commonDivisor_6 : decode cX1_commonDivisor 6 = .ok (.iconst 0, 1) := by decide +kernel
theorem dX1_commonDivisor_7 : decode cX1_commonDivisor 7 = .ok (.istore 8, 2) := by decide +kernel
theorem dX1_commonDivisor_9 : decode cX1_commonDivisor 9 = .ok (.iload 8, 2) := by decide +kernel
theorem dX1_commonDivisor_11 : decode cX1_commonDivisor 11 = .ok (.bipush 100, 2) := by decide +kernel
theorem dX1_commonDivisor_13 : decode cX1_commonDivisor 13 = .ok (.if_icmp .ge 31, 3) := by decide +kernel
theorem dX1_commonDivisor_16 : decode cX1_commonDivisor 16 = .ok (.lload 6, 2) := by decide +kernel
theorem dX1_commonDivisor_18 : decode cX1_commonDivisor 18 = .ok (.lconst 0, 1) := by decide +kernel
theorem dX1_commonDivisor_19 : decode cX1_commonDivisor 19 = .ok (.lcmp, 1) := by decide +kernel
theorem dX1_commonDivisor_20 : decode cX1_commonDivisor 20 = .ok (.ifCond .eq 24, 3) := by decide +kernel
theorem dX1_commonDivisor_23 : decode cX1_commonDivisor 23 = .ok (.lload 4, 2) := by decide +kernel
theorem dX1_commonDivisor_25 : decode cX1_commonDivisor 25 = .ok (.lload 6, 2) := by decide +kernel
theorem dX1_commonDivisor_27 : decode cX1_commonDivisor 27 = .ok (.lrem, 1) := by decide +kernel
theorem dX1_commonDivisor_28 : decode cX1_commonDivisor 28 = .ok (.lstore 9, 2) := by decide +kernel
theorem dX1_commonDivisor_30 : decode cX1_commonDivisor 30 = .ok (.lload 6, 2) := by decide +kernel
theorem dX1_commonDivisor_32 : decode cX1_commonDivisor 32 = .ok (.lstore 4, 2) := by decide +kernel
theorem dX1_commonDivisor_34 : decode cX1_commonDivisor 34 = .ok (.lload 9, 2) := by decide +kernel
theorem dX1_commonDivisor_36 : decode cX1_commonDivisor 36 = .ok (.lstore 6, 2) := by decide +kernel
theorem dX1_commonDivisor_38 : decode cX1_commonDivisor 38 = .ok (.iinc 8 1, 3) := by decide +kernel
theorem dX1_commonDivisor_41 : decode cX1_commonDivisor 41 = .ok (.goto (-32), 3) := by decide +kernel
theorem dX1_commonDivisor_44 : decode cX1_commonDivisor 44 = .ok (.lload 4, 2) := by decide +kernel
theorem dX1_commonDivisor_46 : decode cX1_commonDivisor 46 = .ok (.lreturn, 1) := by decide +kernel
def L_X1_commonDivisor_9  : Nat → Int32 → Int64 → Int64 → Option (Int64)
  | 0, _, _, _ => none
  | n9 + 1, x1, x2, x3 => if (100 : Int32) ≤ x1 then some x3 else if (lg_cmp x2 (0 : Int64)) = 0 then some x3 else gd (nzl x2) (L_X1_commonDivisor_9 n9 (x1 + (1 : Int32)) (x3 - x3 / x2 * x2) x2)
def f_X1_commonDivisor (N : Nat) (p0 : Int64) (p1 : Int64) : Option (Int64) := L_X1_commonDivisor_9 N (0 : Int32) p1 p0
set_option maxHeartbeats 4000000 in
set_option maxRecDepth 100000 in
theorem c_X1_commonDivisor (l : Launch) (E : EE) (p0 : Int64) (p1 : Int64) (N : Nat) (res : Int64) (hv : f_X1_commonDivisor N p0 p1 = some res) : Rd l E yX1_commonDivisor cX1_commonDivisor 11 (some .long) ({ frames := 0, cells := 0, slots := 0, locals := 0 }) [.long p0, .long p1] [] (some (.long res)) := by
  refine Rd.intro RX1 (by decide) rfl (Nat.le_of_ble_eq_true rfl) ?_
  intro p e s m below meth c ls hC hr hlk hP hG hl
  obtain ⟨hx, hb, hml, hown, ht⟩ := id hC
  have hK := hG.1
  have hl : lv_has ls 11 [(0, .long p0), (2, .long p1)] := hl
  rw [f_X1_commonDivisor] at hv
  refine lv_lload_n hx hb dX1_commonDivisor_0 rfl (lv_at hl 0 rfl) ?_
  refine lv_lstore (lv' := [(4, .long p0), (0, .long p0), (2, .long p1)]) hx hb dX1_commonDivisor_1 hl (by decide) rfl (fun ls hl => ?_)
  refine lv_lload_n hx hb dX1_commonDivisor_3 rfl (lv_at hl 2 rfl) ?_
  refine lv_lstore (lv' := [(6, .long p1), (4, .long p0), (0, .long p0), (2, .long p1)]) hx hb dX1_commonDivisor_4 hl (by decide) rfl (fun ls hl => ?_)
  refine lv_iconst (v := (0 : Int32)) hx hb dX1_commonDivisor_6 (by decide) ?_
  refine lv_istore (lv' := [(8, .int (0 : Int32)), (6, .long p1), (4, .long p0), (0, .long p0), (2, .long p1)]) hx hb dX1_commonDivisor_7 hl (by decide) rfl (fun ls hl => ?_)
  have hL9 : ∀ (n : Nat) (x1 : Int32) (x2 : Int64) (x3 : Int64) (ls : Array Slot), lv_has ls 11 [(8, .int x1), (6, .long x2), (4, .long x3)] → L_X1_commonDivisor_9 n x1 x2 x3 = some res → W p l e ({ frames := 0, cells := 0, slots := 0, locals := 0 }) s m [.long p0, .long p1].toArray below meth c s.heap [] 0 0 (MQ below (RdQ (some (.long res))) [.long p0, .long p1].toArray s 0 0 (fun _ => False)) (F0 m 9 ls []) := by
    intro n
    induction n with
    | zero => intro x1 x2 x3 ls hl hv; cases hv
    | succ n9 ih9 =>
      intro x1 x2 x3 ls hl hv
      rw [L_X1_commonDivisor_9] at hv
      refine lv_iload hx hb dX1_commonDivisor_9 (lv_at hl 0 rfl) ?_
      refine lv_bipush (v := (100 : Int32)) hx hb dX1_commonDivisor_11 (by decide) ?_
      refine lv_icmp_ge (tgt := 44) hx hb dX1_commonDivisor_13 (by decide) (fun c4 => ?_) (fun c4 => ?_)
      · have hv := if_y c4 hv
        refine lv_lload hx hb dX1_commonDivisor_44 (lv_at hl 2 rfl) ?_
        exact W.lret (v := x3) hx hb hr (fun t h9 _ => ⟨rv_l hv, h9⟩) (fun q h => absurd h List.not_mem_nil) dX1_commonDivisor_46 hlk
      · have hv := if_n c4 hv
        refine lv_lload hx hb dX1_commonDivisor_16 (lv_at hl 1 rfl) ?_
        refine lv_lconst (v := (0 : Int64)) hx hb dX1_commonDivisor_18 (by decide) ?_
        refine W.lcmp hx hb dX1_commonDivisor_19 ?_
        refine lv_if_eq (tgt := 44) hx hb dX1_commonDivisor_20 (by decide) (fun c5 => ?_) (fun c5 => ?_)
        · have hv := if_y c5 hv
          refine lv_lload hx hb dX1_commonDivisor_44 (lv_at hl 2 rfl) ?_
          exact W.lret (v := x3) hx hb hr (fun t h9 _ => ⟨rv_l hv, h9⟩) (fun q h => absurd h List.not_mem_nil) dX1_commonDivisor_46 hlk
        · have hv := if_n c5 hv
          refine lv_lload hx hb dX1_commonDivisor_23 (lv_at hl 2 rfl) ?_
          refine lv_lload hx hb dX1_commonDivisor_25 (lv_at hl 1 rfl) ?_
          obtain ⟨g6, hv⟩ := gd_s hv
          refine lv_lrem hx hb dX1_commonDivisor_27 (nzl_s g6) ?_
          refine lv_lstore (lv' := [(9, .long (x3 - x3 / x2 * x2)), (8, .int x1), (6, .long x2), (4, .long x3)]) hx hb dX1_commonDivisor_28 hl (by decide) rfl (fun ls hl => ?_)
          refine lv_lload hx hb dX1_commonDivisor_30 (lv_at hl 2 rfl) ?_
          refine lv_lstore (lv' := [(4, .long x2), (9, .long (x3 - x3 / x2 * x2)), (8, .int x1), (6, .long x2)]) hx hb dX1_commonDivisor_32 hl (by decide) rfl (fun ls hl => ?_)
          refine lv_lload hx hb dX1_commonDivisor_34 (lv_at hl 1 rfl) ?_
          refine lv_lstore (lv' := [(6, .long (x3 - x3 / x2 * x2)), (4, .long x2), (9, .long (x3 - x3 / x2 * x2)), (8, .int x1)]) hx hb dX1_commonDivisor_36 hl (by decide) rfl (fun ls hl => ?_)
          refine lv_iinc (v := (x1 + (1 : Int32))) (lv' := [(8, .int (x1 + (1 : Int32))), (6, .long (x3 - x3 / x2 * x2)), (4, .long x2), (9, .long (x3 - x3 / x2 * x2))]) hx hb dX1_commonDivisor_38 hl (k := 3) rfl rfl (by decide) rfl (fun ls hl => ?_)
          refine lv_goto (tgt := 9) hx hb dX1_commonDivisor_41 (by decide) ?_
          exact ih9 (x1 + (1 : Int32)) (x3 - x3 / x2 * x2) x2 _ (lv_sub hl [0, 1, 2] rfl) hv
  exact hL9 N (0 : Int32) p1 p0 _ (lv_sub hl [0, 1, 2] rfl) hv
theorem dX1_inLeastTerms_0 : decode cX1_inLeastTerms 0 = .ok (.lload_n 0, 1) := by decide +kernel
theorem dX1_inLeastTerms_1 : decode cX1_inLeastTerms 1 = .ok (.invokestatic 7, 3) := by decide +kernel
theorem dX1_inLeastTerms_4 : decode cX1_inLeastTerms 4 = .ok (.lload_n 2, 1) := by decide +kernel
theorem dX1_inLeastTerms_5 : decode cX1_inLeastTerms 5 = .ok (.invokestatic 13, 3) := by decide +kernel
theorem dX1_inLeastTerms_8 : decode cX1_inLeastTerms 8 = .ok (.lstore 5, 2) := by decide +kernel
theorem dX1_inLeastTerms_10 : decode cX1_inLeastTerms 10 = .ok (.lload 5, 2) := by decide +kernel
theorem dX1_inLeastTerms_12 : decode cX1_inLeastTerms 12 = .ok (.lconst 1, 1) := by decide +kernel
theorem dX1_inLeastTerms_13 : decode cX1_inLeastTerms 13 = .ok (.lcmp, 1) := by decide +kernel
theorem dX1_inLeastTerms_14 : decode cX1_inLeastTerms 14 = .ok (.ifCond .ge 14, 3) := by decide +kernel
theorem dX1_inLeastTerms_17 : decode cX1_inLeastTerms 17 = .ok (.iload 4, 2) := by decide +kernel
theorem dX1_inLeastTerms_19 : decode cX1_inLeastTerms 19 = .ok (.ifCond .ne 7, 3) := by decide +kernel
theorem dX1_inLeastTerms_22 : decode cX1_inLeastTerms 22 = .ok (.lload_n 0, 1) := by decide +kernel
theorem dX1_inLeastTerms_23 : decode cX1_inLeastTerms 23 = .ok (.goto 4, 3) := by decide +kernel
theorem dX1_inLeastTerms_26 : decode cX1_inLeastTerms 26 = .ok (.lload_n 2, 1) := by decide +kernel
theorem dX1_inLeastTerms_27 : decode cX1_inLeastTerms 27 = .ok (.lreturn, 1) := by decide +kernel
theorem dX1_inLeastTerms_28 : decode cX1_inLeastTerms 28 = .ok (.iload 4, 2) := by decide +kernel
theorem dX1_inLeastTerms_30 : decode cX1_inLeastTerms 30 = .ok (.ifCond .ne 10, 3) := by decide +kernel
theorem dX1_inLeastTerms_33 : decode cX1_inLeastTerms 33 = .ok (.lload_n 0, 1) := by decide +kernel
theorem dX1_inLeastTerms_34 : decode cX1_inLeastTerms 34 = .ok (.lload 5, 2) := by decide +kernel
theorem dX1_inLeastTerms_36 : decode cX1_inLeastTerms 36 = .ok (.ldiv, 1) := by decide +kernel
theorem dX1_inLeastTerms_37 : decode cX1_inLeastTerms 37 = .ok (.goto 7, 3) := by decide +kernel
theorem dX1_inLeastTerms_40 : decode cX1_inLeastTerms 40 = .ok (.lload_n 2, 1) := by decide +kernel
theorem dX1_inLeastTerms_41 : decode cX1_inLeastTerms 41 = .ok (.lload 5, 2) := by decide +kernel
theorem dX1_inLeastTerms_43 : decode cX1_inLeastTerms 43 = .ok (.ldiv, 1) := by decide +kernel
theorem dX1_inLeastTerms_44 : decode cX1_inLeastTerms 44 = .ok (.lreturn, 1) := by decide +kernel
def f_X1_inLeastTerms (N : Nat) (p0 : Int64) (p1 : Int64) (p2 : Int32) : Option (Int64) := ob (f_X1_commonDivisor N (if 0 < p0 then p0 else -p0) p1) (fun r1 => if 0 ≤ (lg_cmp r1 (1 : Int64)) then if p2 = 0 then gd (nzl r1) (some (p0 / r1)) else gd (nzl r1) (some (p1 / r1)) else if p2 = 0 then some p0 else some p1)
set_option maxHeartbeats 4000000 in
set_option maxRecDepth 100000 in
theorem c_X1_inLeastTerms (l : Launch) (E : EE) (p0 : Int64) (p1 : Int64) (p2 : Int32) (N : Nat) (res : Int64) (hv : f_X1_inLeastTerms N p0 p1 p2 = some res) : Rd l E yX1_inLeastTerms cX1_inLeastTerms 7 (some .long) ({ frames := 1, cells := 0, slots := 0, locals := 30 }) [.long p0, .long p1, .int p2] [] (some (.long res)) := by
  refine Rd.intro RX1 (by decide) rfl (Nat.le_of_ble_eq_true rfl) ?_
  intro p e s m below meth c ls hC hr hlk hP hG hl
  obtain ⟨hx, hb, hml, hown, ht⟩ := id hC
  have hK := hG.1
  have hl : lv_has ls 7 [(0, .long p0), (2, .long p1), (4, .int p2)] := hl
  rw [f_X1_inLeastTerms] at hv
  refine lv_lload_n hx hb dX1_inLeastTerms_0 rfl (lv_at hl 0 rfl) ?_
  refine va_mabs_long hx hb (by rw [hml]; exact hl.1.symm) hown (ht _ kw_2_220) (ht _ kw_2_221) (ht _ kw_1_8) (ht _ kw_2_222) (Nat.le_of_ble_eq_true rfl) (Nat.le_of_ble_eq_true rfl) (Nat.zero_le _) (Nat.zero_le _) dX1_inLeastTerms_1 ?_
  refine lv_lload_n hx hb dX1_inLeastTerms_4 rfl (lv_at hl 1 rfl) ?_
  obtain ⟨r1, h2, hv⟩ := ob_s hv
  refine rdS (rest := []) (st1 := [.long r1]) (w := []) hC q_X1_commonDivisor kw_2_223 (c_X1_commonDivisor l E (if 0 < p0 then p0 else -p0) p1 N r1 h2) ⟨rfl, rfl⟩ ⟨Nat.le_of_ble_eq_true rfl, Nat.le_of_ble_eq_true rfl⟩ ⟨Nat.zero_le _, Nat.zero_le _⟩ hP hG rfl hl.1 rfl (Nat.le_of_ble_eq_true rfl) dX1_inLeastTerms_5 rfl ?_
  refine lv_lstore (lv' := [(5, .long r1), (0, .long p0), (2, .long p1), (4, .int p2)]) hx hb dX1_inLeastTerms_8 hl (by decide) rfl (fun ls hl => ?_)
  refine lv_lload hx hb dX1_inLeastTerms_10 (lv_at hl 0 rfl) ?_
  refine lv_lconst (v := (1 : Int64)) hx hb dX1_inLeastTerms_12 (by decide) ?_
  refine W.lcmp hx hb dX1_inLeastTerms_13 ?_
  refine lv_if_ge (tgt := 28) hx hb dX1_inLeastTerms_14 (by decide) (fun c3 => ?_) (fun c3 => ?_)
  · have hv := if_y c3 hv
    refine lv_iload hx hb dX1_inLeastTerms_28 (lv_at hl 3 rfl) ?_
    refine lv_if_ne (tgt := 40) hx hb dX1_inLeastTerms_30 (by decide) (fun c4 => ?_) (fun c4 => ?_)
    · have hv := if_n c4 hv
      refine lv_lload_n hx hb dX1_inLeastTerms_40 rfl (lv_at hl 2 rfl) ?_
      refine lv_lload hx hb dX1_inLeastTerms_41 (lv_at hl 0 rfl) ?_
      obtain ⟨g5, hv⟩ := gd_s hv
      refine lv_ldiv hx hb dX1_inLeastTerms_43 (nzl_s g5) ?_
      exact W.lret (v := (p1 / r1)) hx hb hr (fun t h9 _ => ⟨rv_l hv, h9⟩) (fun q h => absurd h List.not_mem_nil) dX1_inLeastTerms_44 hlk
    · have hv := if_y c4 hv
      refine lv_lload_n hx hb dX1_inLeastTerms_33 rfl (lv_at hl 1 rfl) ?_
      refine lv_lload hx hb dX1_inLeastTerms_34 (lv_at hl 0 rfl) ?_
      obtain ⟨g6, hv⟩ := gd_s hv
      refine lv_ldiv hx hb dX1_inLeastTerms_36 (nzl_s g6) ?_
      refine lv_goto (tgt := 44) hx hb dX1_inLeastTerms_37 (by decide) ?_
      exact W.lret (v := (p0 / r1)) hx hb hr (fun t h9 _ => ⟨rv_l hv, h9⟩) (fun q h => absurd h List.not_mem_nil) dX1_inLeastTerms_44 hlk
  · have hv := if_n c3 hv
    refine lv_iload hx hb dX1_inLeastTerms_17 (lv_at hl 3 rfl) ?_
    refine lv_if_ne (tgt := 26) hx hb dX1_inLeastTerms_19 (by decide) (fun c7 => ?_) (fun c7 => ?_)
    · have hv := if_n c7 hv
      refine lv_lload_n hx hb dX1_inLeastTerms_26 rfl (lv_at hl 2 rfl) ?_
      exact W.lret (v := p1) hx hb hr (fun t h9 _ => ⟨rv_l hv, h9⟩) (fun q h => absurd h List.not_mem_nil) dX1_inLeastTerms_27 hlk
    · have hv := if_y c7 hv
      refine lv_lload_n hx hb dX1_inLeastTerms_22 rfl (lv_at hl 1 rfl) ?_
      refine lv_goto (tgt := 27) hx hb dX1_inLeastTerms_23 (by decide) ?_
      exact W.lret (v := p0) hx hb hr (fun t h9 _ => ⟨rv_l hv, h9⟩) (fun q h => absurd h List.not_mem_nil) dX1_inLeastTerms_27 hlk
theorem dX2_isFewer_0 : decode cX2_isFewer 0 = .ok (.iload_n 1, 1) := by decide +kernel
theorem dX2_isFewer_1 : decode cX2_isFewer 1 = .ok (.bipush (-4), 2) := by decide +kernel
theorem dX2_isFewer_3 : decode cX2_isFewer 3 = .ok (.if_icmp .eq 14, 3) := by decide +kernel
theorem dX2_isFewer_6 : decode cX2_isFewer 6 = .ok (.iload_n 0, 1) := by decide +kernel
theorem dX2_isFewer_7 : decode cX2_isFewer 7 = .ok (.invokestatic 35, 3) := by decide +kernel
theorem dX2_isFewer_10 : decode cX2_isFewer 10 = .ok (.iload_n 1, 1) := by decide +kernel
theorem dX2_isFewer_11 : decode cX2_isFewer 11 = .ok (.invokestatic 35, 3) := by decide +kernel
theorem dX2_isFewer_14 : decode cX2_isFewer 14 = .ok (.if_icmp .ge 7, 3) := by decide +kernel
theorem dX2_isFewer_17 : decode cX2_isFewer 17 = .ok (.iconst 1, 1) := by decide +kernel
theorem dX2_isFewer_18 : decode cX2_isFewer 18 = .ok (.goto 4, 3) := by decide +kernel
theorem dX2_isFewer_21 : decode cX2_isFewer 21 = .ok (.iconst 0, 1) := by decide +kernel
theorem dX2_isFewer_22 : decode cX2_isFewer 22 = .ok (.ireturn, 1) := by decide +kernel
def f_X2_isFewer (p0 : Int32) (p1 : Int32) : Option (Int32) := if p1 = (-4 : Int32) then some (1 : Int32) else ob (f_J6_bitCount_0f7a4 p0) (fun r2 => ob (f_J6_bitCount_0f7a4 p1) (fun r4 => if r4 ≤ r2 then some (0 : Int32) else some (1 : Int32)))
set_option maxHeartbeats 4000000 in
set_option maxRecDepth 100000 in
theorem c_X2_isFewer (l : Launch) (E : EE) (p0 : Int32) (p1 : Int32) (res : Int32) (hv : f_X2_isFewer p0 p1 = some res) : Rd l E yX2_isFewer cX2_isFewer 2 (some .boolean) ({ frames := 1, cells := 0, slots := 0, locals := 20 }) [.int p0, .int p1] [] (some (.int res)) := by
  refine Rd.intro RX2 (by decide) rfl (Nat.le_of_ble_eq_true rfl) ?_
  intro p e s m below meth c ls hC hr hlk hP hG hl
  obtain ⟨hx, hb, hml, hown, ht⟩ := id hC
  have hK := hG.1
  have hl : lv_has ls 2 [(0, .int p0), (1, .int p1)] := hl
  rw [f_X2_isFewer] at hv
  refine lv_iload_n hx hb dX2_isFewer_0 rfl (lv_at hl 1 rfl) ?_
  refine lv_bipush (v := (-4 : Int32)) hx hb dX2_isFewer_1 (by decide) ?_
  refine lv_icmp_eq (tgt := 17) hx hb dX2_isFewer_3 (by decide) (fun c1 => ?_) (fun c1 => ?_)
  · have hv := if_y c1 hv
    refine lv_iconst (v := (1 : Int32)) hx hb dX2_isFewer_17 (by decide) ?_
    refine lv_goto (tgt := 22) hx hb dX2_isFewer_18 (by decide) ?_
    exact W.zret (v := (1 : Int32)) hx hb hr rfl (fun t h9 _ => ⟨rv_i hv, h9⟩) (fun q h => absurd h List.not_mem_nil) dX2_isFewer_22 hlk
  · have hv := if_n c1 hv
    refine lv_iload_n hx hb dX2_isFewer_6 rfl (lv_at hl 0 rfl) ?_
    obtain ⟨r2, h3, hv⟩ := ob_s hv
    refine rdS (rest := []) (st1 := [.int r2]) (w := []) hC q_J6_bitCount_0f7a4 kw_2_205 (c_J6_bitCount_0f7a4 l E p0 r2 h3) ⟨rfl, rfl⟩ ⟨Nat.le_of_ble_eq_true rfl, Nat.le_of_ble_eq_true rfl⟩ ⟨Nat.zero_le _, Nat.zero_le _⟩ hP hG rfl hl.1 rfl (Nat.le_of_ble_eq_true rfl) dX2_isFewer_7 rfl ?_
    refine lv_iload_n hx hb dX2_isFewer_10 rfl (lv_at hl 1 rfl) ?_
    obtain ⟨r4, h5, hv⟩ := ob_s hv
    refine rdS (rest := [.int r2]) (st1 := [.int r4, .int r2]) (w := []) hC q_J6_bitCount_0f7a4 kw_2_205 (c_J6_bitCount_0f7a4 l E p1 r4 h5) ⟨rfl, rfl⟩ ⟨Nat.le_of_ble_eq_true rfl, Nat.le_of_ble_eq_true rfl⟩ ⟨Nat.zero_le _, Nat.zero_le _⟩ hP hG rfl hl.1 rfl (Nat.le_of_ble_eq_true rfl) dX2_isFewer_11 rfl ?_
    refine lv_icmp_ge (tgt := 21) hx hb dX2_isFewer_14 (by decide) (fun c6 => ?_) (fun c6 => ?_)
    · have hv := if_y c6 hv
      refine lv_iconst (v := (0 : Int32)) hx hb dX2_isFewer_21 (by decide) ?_
      exact W.zret (v := (0 : Int32)) hx hb hr rfl (fun t h9 _ => ⟨rv_i hv, h9⟩) (fun q h => absurd h List.not_mem_nil) dX2_isFewer_22 hlk
    · have hv := if_n c6 hv
      refine lv_iconst (v := (1 : Int32)) hx hb dX2_isFewer_17 (by decide) ?_
      refine lv_goto (tgt := 22) hx hb dX2_isFewer_18 (by decide) ?_
      exact W.zret (v := (1 : Int32)) hx hb hr rfl (fun t h9 _ => ⟨rv_i hv, h9⟩) (fun q h => absurd h List.not_mem_nil) dX2_isFewer_22 hlk
theorem dX2_ordersOf_0 : decode cX2_ordersOf 0 = .ok (.lconst 1, 1) := by decide +kernel
theorem dX2_ordersOf_1 : decode cX2_ordersOf 1 = .ok (.lstore_n 1, 1) := by decide +kernel
theorem dX2_ordersOf_2 : decode cX2_ordersOf 2 = .ok (.iconst 2, 1) := by decide +kernel
theorem dX2_ordersOf_3 : decode cX2_ordersOf 3 = .ok (.istore_n 3, 1) := by decide +kernel
theorem dX2_ordersOf_4 : decode cX2_ordersOf 4 = .ok (.iload_n 3, 1) := by decide +kernel
theorem dX2_ordersOf_5 : decode cX2_ordersOf 5 = .ok (.iload_n 0, 1) := by decide +kernel
theorem dX2_ordersOf_6 : decode cX2_ordersOf 6 = .ok (.if_icmp .gt 14, 3) := by decide +kernel
theorem dX2_ordersOf_9 : decode cX2_ordersOf 9 = .ok (.lload_n 1, 1) := by decide +kernel
theorem dX2_ordersOf_10 : decode cX2_ordersOf 10 = .ok (.iload_n 3, 1) := by decide +kernel
theorem dX2_ordersOf_11 : decode cX2_ordersOf 11 = .ok (.i2l, 1) := by decide +kernel
theorem dX2_ordersOf_12 : decode cX2_ordersOf 12 = .ok (.lmul, 1) := by decide +kernel
theorem dX2_ordersOf_13 : decode cX2_ordersOf 13 = .ok (.lstore_n 1, 1) := by decide +kernel
theorem dX2_ordersOf_14 : decode cX2_ordersOf 14 = .ok (.iinc 3 1, 3) := by decide +kernel
theorem dX2_ordersOf_17 : decode cX2_ordersOf 17 = .ok (.goto (-13), 3) := by decide +kernel
theorem dX2_ordersOf_20 : decode cX2_ordersOf 20 = .ok (.lload_n 1, 1) := by decide +kernel
theorem dX2_ordersOf_21 : decode cX2_ordersOf 21 = .ok (.lreturn, 1) := by decide +kernel
def L_X2_ordersOf_4 (p0 : Int32) : Nat → Int32 → Int64 → Option (Int64)
  | 0, _, _ => none
  | n4 + 1, x1, x2 => if p0 < x1 then some x2 else L_X2_ordersOf_4 p0 n4 (x1 + (1 : Int32)) (x2 * (x1.toInt64))
def f_X2_ordersOf (N : Nat) (p0 : Int32) : Option (Int64) := L_X2_ordersOf_4 p0 N (2 : Int32) (1 : Int64)
set_option maxHeartbeats 4000000 in
set_option maxRecDepth 100000 in
theorem c_X2_ordersOf (l : Launch) (E : EE) (p0 : Int32) (N : Nat) (res : Int64) (hv : f_X2_ordersOf N p0 = some res) : Rd l E yX2_ordersOf cX2_ordersOf 4 (some .long) ({ frames := 0, cells := 0, slots := 0, locals := 0 }) [.int p0] [] (some (.long res)) := by
  refine Rd.intro RX2 (by decide) rfl (Nat.le_of_ble_eq_true rfl) ?_
  intro p e s m below meth c ls hC hr hlk hP hG hl
  obtain ⟨hx, hb, hml, hown, ht⟩ := id hC
  have hK := hG.1
  have hl : lv_has ls 4 [(0, .int p0)] := hl
  rw [f_X2_ordersOf] at hv
  refine lv_lconst (v := (1 : Int64)) hx hb dX2_ordersOf_0 (by decide) ?_
  refine lv_lstore_n (lv' := [(1, .long (1 : Int64)), (0, .int p0)]) hx hb dX2_ordersOf_1 rfl hl (by decide) rfl (fun ls hl => ?_)
  refine lv_iconst (v := (2 : Int32)) hx hb dX2_ordersOf_2 (by decide) ?_
  refine lv_istore_n (lv' := [(3, .int (2 : Int32)), (1, .long (1 : Int64)), (0, .int p0)]) hx hb dX2_ordersOf_3 rfl hl (by decide) rfl (fun ls hl => ?_)
  have hL4 : ∀ (n : Nat) (x1 : Int32) (x2 : Int64) (ls : Array Slot), lv_has ls 4 [(3, .int x1), (1, .long x2), (0, .int p0)] → L_X2_ordersOf_4 p0 n x1 x2 = some res → W p l e ({ frames := 0, cells := 0, slots := 0, locals := 0 }) s m [.int p0].toArray below meth c s.heap [] 0 0 (MQ below (RdQ (some (.long res))) [.int p0].toArray s 0 0 (fun _ => False)) (F0 m 4 ls []) := by
    intro n
    induction n with
    | zero => intro x1 x2 ls hl hv; cases hv
    | succ n4 ih4 =>
      intro x1 x2 ls hl hv
      rw [L_X2_ordersOf_4] at hv
      refine lv_iload_n hx hb dX2_ordersOf_4 rfl (lv_at hl 0 rfl) ?_
      refine lv_iload_n hx hb dX2_ordersOf_5 rfl (lv_at hl 2 rfl) ?_
      refine lv_icmp_gt (tgt := 20) hx hb dX2_ordersOf_6 (by decide) (fun c3 => ?_) (fun c3 => ?_)
      · have hv := if_y c3 hv
        refine lv_lload_n hx hb dX2_ordersOf_20 rfl (lv_at hl 1 rfl) ?_
        exact W.lret (v := x2) hx hb hr (fun t h9 _ => ⟨rv_l hv, h9⟩) (fun q h => absurd h List.not_mem_nil) dX2_ordersOf_21 hlk
      · have hv := if_n c3 hv
        refine lv_lload_n hx hb dX2_ordersOf_9 rfl (lv_at hl 1 rfl) ?_
        refine lv_iload_n hx hb dX2_ordersOf_10 rfl (lv_at hl 0 rfl) ?_
        refine lv_i2l (v := (x1.toInt64)) hx hb dX2_ordersOf_11 rfl ?_
        refine lv_lmul hx hb dX2_ordersOf_12 ?_
        refine lv_lstore_n (lv' := [(1, .long (x2 * (x1.toInt64))), (3, .int x1), (0, .int p0)]) hx hb dX2_ordersOf_13 rfl hl (by decide) rfl (fun ls hl => ?_)
        refine lv_iinc (v := (x1 + (1 : Int32))) (lv' := [(3, .int (x1 + (1 : Int32))), (1, .long (x2 * (x1.toInt64))), (0, .int p0)]) hx hb dX2_ordersOf_14 hl (k := 1) rfl rfl (by decide) rfl (fun ls hl => ?_)
        refine lv_goto (tgt := 4) hx hb dX2_ordersOf_17 (by decide) ?_
        exact ih4 (x1 + (1 : Int32)) (x2 * (x1.toInt64)) _ (lv_sub hl [0, 1, 2] rfl) hv
  exact hL4 N (2 : Int32) (1 : Int64) _ (lv_sub hl [0, 1, 2] rfl) hv
theorem dX6_digitsBehind_0 : decode cX6_digitsBehind 0 = .ok (.iload_n 0, 1) := by decide +kernel
theorem dX6_digitsBehind_1 : decode cX6_digitsBehind 1 = .ok (.tableswitch 97 97 115 #[93, 93, 97, 93, 97, 93, 97, 97, 97, 97, 97, 97, 97, 97, 91, 97, 93, 97, 95], 91) := by decide +kernel
theorem dX6_digitsBehind_92 : decode cX6_digitsBehind 92 = .ok (.iconst 1, 1) := by decide +kernel
theorem dX6_digitsBehind_93 : decode cX6_digitsBehind 93 = .ok (.ireturn, 1) := by decide +kernel
theorem dX6_digitsBehind_94 : decode cX6_digitsBehind 94 = .ok (.iconst 2, 1) := by decide +kernel
theorem dX6_digitsBehind_95 : decode cX6_digitsBehind 95 = .ok (.ireturn, 1) := by decide +kernel
theorem dX6_digitsBehind_96 : decode cX6_digitsBehind 96 = .ok (.iconst 3, 1) := by decide +kernel
theorem dX6_digitsBehind_97 : decode cX6_digitsBehind 97 = .ok (.ireturn, 1) := by decide +kernel
theorem dX6_digitsBehind_98 : decode cX6_digitsBehind 98 = .ok (.iconst 0, 1) := by decide +kernel
theorem dX6_digitsBehind_99 : decode cX6_digitsBehind 99 = .ok (.ireturn, 1) := by decide +kernel
def f_X6_digitsBehind (p0 : Int32) : Option (Int32) := if p0 = (97 : Int32) then some (2 : Int32) else if p0 = (98 : Int32) then some (2 : Int32) else if p0 = (100 : Int32) then some (2 : Int32) else if p0 = (102 : Int32) then some (2 : Int32) else if p0 = (111 : Int32) then some (1 : Int32) else if p0 = (113 : Int32) then some (2 : Int32) else if p0 = (115 : Int32) then some (3 : Int32) else some (0 : Int32)
set_option maxHeartbeats 4000000 in
set_option maxRecDepth 100000 in
theorem c_X6_digitsBehind (l : Launch) (E : EE) (p0 : Int32) (res : Int32) (hv : f_X6_digitsBehind p0 = some res) : Rd l E yX6_digitsBehind cX6_digitsBehind 1 (some .int) ({ frames := 0, cells := 0, slots := 0, locals := 0 }) [.int p0] [] (some (.int res)) := by
  refine Rd.intro RX6 (by decide) rfl (Nat.le_of_ble_eq_true rfl) ?_
  intro p e s m below meth c ls hC hr hlk hP hG hl
  obtain ⟨hx, hb, hml, hown, ht⟩ := id hC
  have hK := hG.1
  have hl : lv_has ls 1 [(0, .int p0)] := hl
  rw [f_X6_digitsBehind] at hv
  refine lv_iload_n hx hb dX6_digitsBehind_0 rfl (lv_at hl 0 rfl) ?_
  rcases Decidable.em (p0 = (97 : Int32)) with c1 | c1
  · have hv := if_y c1 hv
    refine lv_tableIn (tgt := 94) (off := 93) hx hb dX6_digitsBehind_1 (by rw [c1]; decide) (by rw [c1]; decide) (by rw [c1]; rfl) (by decide) ?_
    refine lv_iconst (v := (2 : Int32)) hx hb dX6_digitsBehind_94 (by decide) ?_
    exact W.iret (v := (2 : Int32)) hx hb hr (fun t h9 _ => ⟨rv_i hv, h9⟩) (fun q h => absurd h List.not_mem_nil) dX6_digitsBehind_95 hlk
  · have hv := if_n c1 hv
    rcases Decidable.em (p0 = (98 : Int32)) with c2 | c2
    · have hv := if_y c2 hv
      refine lv_tableIn (tgt := 94) (off := 93) hx hb dX6_digitsBehind_1 (by rw [c2]; decide) (by rw [c2]; decide) (by rw [c2]; rfl) (by decide) ?_
      refine lv_iconst (v := (2 : Int32)) hx hb dX6_digitsBehind_94 (by decide) ?_
      exact W.iret (v := (2 : Int32)) hx hb hr (fun t h9 _ => ⟨rv_i hv, h9⟩) (fun q h => absurd h List.not_mem_nil) dX6_digitsBehind_95 hlk
    · have hv := if_n c2 hv
      rcases Decidable.em (p0 = (100 : Int32)) with c3 | c3
      · have hv := if_y c3 hv
        refine lv_tableIn (tgt := 94) (off := 93) hx hb dX6_digitsBehind_1 (by rw [c3]; decide) (by rw [c3]; decide) (by rw [c3]; rfl) (by decide) ?_
        refine lv_iconst (v := (2 : Int32)) hx hb dX6_digitsBehind_94 (by decide) ?_
        exact W.iret (v := (2 : Int32)) hx hb hr (fun t h9 _ => ⟨rv_i hv, h9⟩) (fun q h => absurd h List.not_mem_nil) dX6_digitsBehind_95 hlk
      · have hv := if_n c3 hv
        rcases Decidable.em (p0 = (102 : Int32)) with c4 | c4
        · have hv := if_y c4 hv
          refine lv_tableIn (tgt := 94) (off := 93) hx hb dX6_digitsBehind_1 (by rw [c4]; decide) (by rw [c4]; decide) (by rw [c4]; rfl) (by decide) ?_
          refine lv_iconst (v := (2 : Int32)) hx hb dX6_digitsBehind_94 (by decide) ?_
          exact W.iret (v := (2 : Int32)) hx hb hr (fun t h9 _ => ⟨rv_i hv, h9⟩) (fun q h => absurd h List.not_mem_nil) dX6_digitsBehind_95 hlk
        · have hv := if_n c4 hv
          rcases Decidable.em (p0 = (111 : Int32)) with c5 | c5
          · have hv := if_y c5 hv
            refine lv_tableIn (tgt := 92) (off := 91) hx hb dX6_digitsBehind_1 (by rw [c5]; decide) (by rw [c5]; decide) (by rw [c5]; rfl) (by decide) ?_
            refine lv_iconst (v := (1 : Int32)) hx hb dX6_digitsBehind_92 (by decide) ?_
            exact W.iret (v := (1 : Int32)) hx hb hr (fun t h9 _ => ⟨rv_i hv, h9⟩) (fun q h => absurd h List.not_mem_nil) dX6_digitsBehind_93 hlk
          · have hv := if_n c5 hv
            rcases Decidable.em (p0 = (113 : Int32)) with c6 | c6
            · have hv := if_y c6 hv
              refine lv_tableIn (tgt := 94) (off := 93) hx hb dX6_digitsBehind_1 (by rw [c6]; decide) (by rw [c6]; decide) (by rw [c6]; rfl) (by decide) ?_
              refine lv_iconst (v := (2 : Int32)) hx hb dX6_digitsBehind_94 (by decide) ?_
              exact W.iret (v := (2 : Int32)) hx hb hr (fun t h9 _ => ⟨rv_i hv, h9⟩) (fun q h => absurd h List.not_mem_nil) dX6_digitsBehind_95 hlk
            · have hv := if_n c6 hv
              rcases Decidable.em (p0 = (115 : Int32)) with c7 | c7
              · have hv := if_y c7 hv
                refine lv_tableIn (tgt := 96) (off := 95) hx hb dX6_digitsBehind_1 (by rw [c7]; decide) (by rw [c7]; decide) (by rw [c7]; rfl) (by decide) ?_
                refine lv_iconst (v := (3 : Int32)) hx hb dX6_digitsBehind_96 (by decide) ?_
                exact W.iret (v := (3 : Int32)) hx hb hr (fun t h9 _ => ⟨rv_i hv, h9⟩) (fun q h => absurd h List.not_mem_nil) dX6_digitsBehind_97 hlk
              · have hv := if_n c7 hv
                refine lv_tableD (tgt := 98) hx hb dX6_digitsBehind_1 (fun i h => match i, h with | 0, _ => Or.inr (lv_neT c1 (by decide)) | 1, _ => Or.inr (lv_neT c2 (by decide)) | 2, _ => Or.inl rfl | 3, _ => Or.inr (lv_neT c3 (by decide)) | 4, _ => Or.inl rfl | 5, _ => Or.inr (lv_neT c4 (by decide)) | 6, _ => Or.inl rfl | 7, _ => Or.inl rfl | 8, _ => Or.inl rfl | 9, _ => Or.inl rfl | 10, _ => Or.inl rfl | 11, _ => Or.inl rfl | 12, _ => Or.inl rfl | 13, _ => Or.inl rfl | 14, _ => Or.inr (lv_neT c5 (by decide)) | 15, _ => Or.inl rfl | 16, _ => Or.inr (lv_neT c6 (by decide)) | 17, _ => Or.inl rfl | 18, _ => Or.inr (lv_neT c7 (by decide)) | i + 19, h => absurd h (by simp)) rfl (by decide) ?_
                refine lv_iconst (v := (0 : Int32)) hx hb dX6_digitsBehind_98 (by decide) ?_
                exact W.iret (v := (0 : Int32)) hx hb hr (fun t h9 _ => ⟨rv_i hv, h9⟩) (fun q h => absurd h List.not_mem_nil) dX6_digitsBehind_99 hlk
