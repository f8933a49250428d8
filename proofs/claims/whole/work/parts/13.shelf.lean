theorem dX7_hasPlace_0 : decode cX7_hasPlace 0 = .ok (.iload_n 1, 1) := by decide +kernel
theorem dX7_hasPlace_1 : decode cX7_hasPlace 1 = .ok (.ifCond .lt 15, 3) := by decide +kernel
theorem dX7_hasPlace_4 : decode cX7_hasPlace 4 = .ok (.iload_n 1, 1) := by decide +kernel
theorem dX7_hasPlace_5 : decode cX7_hasPlace 5 = .ok (.aload_n 0, 1) := by decide +kernel
theorem dX7_hasPlace_6 : decode cX7_hasPlace 6 = .ok (.getfield 28, 3) := by decide +kernel
theorem dX7_hasPlace_9 : decode cX7_hasPlace 9 = .ok (.if_icmp .ge 7, 3) := by decide +kernel
theorem dX7_hasPlace_12 : decode cX7_hasPlace 12 = .ok (.iconst 1, 1) := by decide +kernel
theorem dX7_hasPlace_13 : decode cX7_hasPlace 13 = .ok (.goto 4, 3) := by decide +kernel
theorem dX7_hasPlace_16 : decode cX7_hasPlace 16 = .ok (.iconst 0, 1) := by decide +kernel
theorem dX7_hasPlace_17 : decode cX7_hasPlace 17 = .ok (.ireturn, 1) := by decide +kernel
def f_X7_hasPlace (q_size : Int32) (p1 : Int32) : Option (Int32) := if p1 < 0 then some (0 : Int32) else if q_size ≤ p1 then some (0 : Int32) else some (1 : Int32)
set_option maxHeartbeats 4000000 in
set_option maxRecDepth 100000 in
theorem c_X7_hasPlace (l : Launch) (E : EE) (q_h : Nat) (q_a0 : Nat) (q_elements : Nat → Int32) (q_holds : Int32) (q_kind : Int32) (q_figure : Int32) (q_sort : Int32) (q_size : Int32) (p1 : Int32) (res : Int32) (hv : f_X7_hasPlace q_size p1 = some res) : Rd l E yX7_hasPlace cX7_hasPlace 2 (some .boolean) ({ frames := 0, cells := 0, slots := 0, locals := 0 }) [.ref q_h, .int p1] [oSh q_h q_a0 q_holds q_kind q_figure q_sort q_size, ai E q_a0 100 q_elements] (some (.int res)) := by
  refine Rd.intro RX7 (by decide) rfl (Nat.le_of_ble_eq_true rfl) ?_
  intro p e s m below meth c ls hC hr hlk hP hG hl
  obtain ⟨hx, hb, hml, hown, ht⟩ := id hC
  have hK := hG.1
  have hl : lv_has ls 2 [(0, .ref q_h), (1, .int p1)] := hl
  rw [f_X7_hasPlace] at hv
  refine lv_iload_n hx hb dX7_hasPlace_0 rfl (lv_at hl 1 rfl) ?_
  refine lv_if_lt (tgt := 16) hx hb dX7_hasPlace_1 (by decide) (fun c1 => ?_) (fun c1 => ?_)
  · have hv := if_y c1 hv
    refine lv_iconst (v := (0 : Int32)) hx hb dX7_hasPlace_16 (by decide) ?_
    exact W.zret (v := (0 : Int32)) hx hb hr rfl (fun t h9 _ => ⟨rv_i hv, h9⟩) (fun q h => absurd h List.not_mem_nil) dX7_hasPlace_17 hlk
  · have hv := if_n c1 hv
    refine lv_iload_n hx hb dX7_hasPlace_4 rfl (lv_at hl 1 rfl) ?_
    refine lv_aload_n hx hb dX7_hasPlace_5 rfl (lv_at hl 0 rfl) ?_
    refine va_get (D := E.1) (ci := 1) (v := .int q_size) (C := RX7) (T := TX7) (N := 6) hx hb ht i_X7 hown hK hP 0 rfl rfl 5 (by decide) (ht _ kw_1_123) (fun _ h9 => h9) rfl dX7_hasPlace_6 ?_
    refine lv_icmp_ge (tgt := 16) hx hb dX7_hasPlace_9 (by decide) (fun c2 => ?_) (fun c2 => ?_)
    · have hv := if_y c2 hv
      refine lv_iconst (v := (0 : Int32)) hx hb dX7_hasPlace_16 (by decide) ?_
      exact W.zret (v := (0 : Int32)) hx hb hr rfl (fun t h9 _ => ⟨rv_i hv, h9⟩) (fun q h => absurd h List.not_mem_nil) dX7_hasPlace_17 hlk
    · have hv := if_n c2 hv
      refine lv_iconst (v := (1 : Int32)) hx hb dX7_hasPlace_12 (by decide) ?_
      refine lv_goto (tgt := 17) hx hb dX7_hasPlace_13 (by decide) ?_
      exact W.zret (v := (1 : Int32)) hx hb hr rfl (fun t h9 _ => ⟨rv_i hv, h9⟩) (fun q h => absurd h List.not_mem_nil) dX7_hasPlace_17 hlk
theorem dX7_hasPlaces_0 : decode cX7_hasPlaces 0 = .ok (.iload_n 1, 1) := by decide +kernel
theorem dX7_hasPlaces_1 : decode cX7_hasPlaces 1 = .ok (.ifCond .lt 21, 3) := by decide +kernel
theorem dX7_hasPlaces_4 : decode cX7_hasPlaces 4 = .ok (.iload_n 2, 1) := by decide +kernel
theorem dX7_hasPlaces_5 : decode cX7_hasPlaces 5 = .ok (.ifCond .lt 17, 3) := by decide +kernel
theorem dX7_hasPlaces_8 : decode cX7_hasPlaces 8 = .ok (.iload_n 2, 1) := by decide +kernel
theorem dX7_hasPlaces_9 : decode cX7_hasPlaces 9 = .ok (.aload_n 0, 1) := by decide +kernel
theorem dX7_hasPlaces_10 : decode cX7_hasPlaces 10 = .ok (.getfield 28, 3) := by decide +kernel
theorem dX7_hasPlaces_13 : decode cX7_hasPlaces 13 = .ok (.iload_n 1, 1) := by decide +kernel
theorem dX7_hasPlaces_14 : decode cX7_hasPlaces 14 = .ok (.isub, 1) := by decide +kernel
theorem dX7_hasPlaces_15 : decode cX7_hasPlaces 15 = .ok (.if_icmp .gt 7, 3) := by decide +kernel
theorem dX7_hasPlaces_18 : decode cX7_hasPlaces 18 = .ok (.iconst 1, 1) := by decide +kernel
theorem dX7_hasPlaces_19 : decode cX7_hasPlaces 19 = .ok (.goto 4, 3) := by decide +kernel
theorem dX7_hasPlaces_22 : decode cX7_hasPlaces 22 = .ok (.iconst 0, 1) := by decide +kernel
theorem dX7_hasPlaces_23 : decode cX7_hasPlaces 23 = .ok (.ireturn, 1) := by decide +kernel
def f_X7_hasPlaces (q_size : Int32) (p1 : Int32) (p2 : Int32) : Option (Int32) := if p1 < 0 then some (0 : Int32) else if p2 < 0 then some (0 : Int32) else if (q_size - p1) < p2 then some (0 : Int32) else some (1 : Int32)
set_option maxHeartbeats 4000000 in
set_option maxRecDepth 100000 in
theorem c_X7_hasPlaces (l : Launch) (E : EE) (q_h : Nat) (q_a0 : Nat) (q_elements : Nat → Int32) (q_holds : Int32) (q_kind : Int32) (q_figure : Int32) (q_sort : Int32) (q_size : Int32) (p1 : Int32) (p2 : Int32) (res : Int32) (hv : f_X7_hasPlaces q_size p1 p2 = some res) : Rd l E yX7_hasPlaces cX7_hasPlaces 3 (some .boolean) ({ frames := 0, cells := 0, slots := 0, locals := 0 }) [.ref q_h, .int p1, .int p2] [oSh q_h q_a0 q_holds q_kind q_figure q_sort q_size, ai E q_a0 100 q_elements] (some (.int res)) := by
  refine Rd.intro RX7 (by decide) rfl (Nat.le_of_ble_eq_true rfl) ?_
  intro p e s m below meth c ls hC hr hlk hP hG hl
  obtain ⟨hx, hb, hml, hown, ht⟩ := id hC
  have hK := hG.1
  have hl : lv_has ls 3 [(0, .ref q_h), (1, .int p1), (2, .int p2)] := hl
  rw [f_X7_hasPlaces] at hv
  refine lv_iload_n hx hb dX7_hasPlaces_0 rfl (lv_at hl 1 rfl) ?_
  refine lv_if_lt (tgt := 22) hx hb dX7_hasPlaces_1 (by decide) (fun c1 => ?_) (fun c1 => ?_)
  · have hv := if_y c1 hv
    refine lv_iconst (v := (0 : Int32)) hx hb dX7_hasPlaces_22 (by decide) ?_
    exact W.zret (v := (0 : Int32)) hx hb hr rfl (fun t h9 _ => ⟨rv_i hv, h9⟩) (fun q h => absurd h List.not_mem_nil) dX7_hasPlaces_23 hlk
  · have hv := if_n c1 hv
    refine lv_iload_n hx hb dX7_hasPlaces_4 rfl (lv_at hl 2 rfl) ?_
    refine lv_if_lt (tgt := 22) hx hb dX7_hasPlaces_5 (by decide) (fun c2 => ?_) (fun c2 => ?_)
    · have hv := if_y c2 hv
      refine lv_iconst (v := (0 : Int32)) hx hb dX7_hasPlaces_22 (by decide) ?_
      exact W.zret (v := (0 : Int32)) hx hb hr rfl (fun t h9 _ => ⟨rv_i hv, h9⟩) (fun q h => absurd h List.not_mem_nil) dX7_hasPlaces_23 hlk
    · have hv := if_n c2 hv
      refine lv_iload_n hx hb dX7_hasPlaces_8 rfl (lv_at hl 2 rfl) ?_
      refine lv_aload_n hx hb dX7_hasPlaces_9 rfl (lv_at hl 0 rfl) ?_
      refine va_get (D := E.1) (ci := 1) (v := .int q_size) (C := RX7) (T := TX7) (N := 6) hx hb ht i_X7 hown hK hP 0 rfl rfl 5 (by decide) (ht _ kw_1_123) (fun _ h9 => h9) rfl dX7_hasPlaces_10 ?_
      refine lv_iload_n hx hb dX7_hasPlaces_13 rfl (lv_at hl 1 rfl) ?_
      refine lv_isub hx hb dX7_hasPlaces_14 ?_
      refine lv_icmp_gt (tgt := 22) hx hb dX7_hasPlaces_15 (by decide) (fun c3 => ?_) (fun c3 => ?_)
      · have hv := if_y c3 hv
        refine lv_iconst (v := (0 : Int32)) hx hb dX7_hasPlaces_22 (by decide) ?_
        exact W.zret (v := (0 : Int32)) hx hb hr rfl (fun t h9 _ => ⟨rv_i hv, h9⟩) (fun q h => absurd h List.not_mem_nil) dX7_hasPlaces_23 hlk
      · have hv := if_n c3 hv
        refine lv_iconst (v := (1 : Int32)) hx hb dX7_hasPlaces_18 (by decide) ?_
        refine lv_goto (tgt := 23) hx hb dX7_hasPlaces_19 (by decide) ?_
        exact W.zret (v := (1 : Int32)) hx hb hr rfl (fun t h9 _ => ⟨rv_i hv, h9⟩) (fun q h => absurd h List.not_mem_nil) dX7_hasPlaces_23 hlk
theorem dX7_at_0 : decode cX7_at 0 = .ok (.aload_n 0, 1) := by decide +kernel
theorem dX7_at_1 : decode cX7_at 1 = .ok (.iload_n 1, 1) := by decide +kernel
theorem dX7_at_2 : decode cX7_at 2 = .ok (.invokevirtual 31, 3) := by decide +kernel
theorem dX7_at_5 : decode cX7_at 5 = .ok (.ifCond .eq 12, 3) := by decide +kernel
theorem dX7_at_8 : decode cX7_at 8 = .ok (.aload_n 0, 1) := by decide +kernel
theorem dX7_at_9 : decode cX7_at 9 = .ok (.getfield 9, 3) := by decide +kernel
theorem dX7_at_12 : decode cX7_at 12 = .ok (.iload_n 1, 1) := by decide +kernel
theorem dX7_at_13 : decode cX7_at 13 = .ok (.iaload, 1) := by decide +kernel
theorem dX7_at_14 : decode cX7_at 14 = .ok (.goto 4, 3) := by decide +kernel
theorem dX7_at_17 : decode cX7_at 17 = .ok (.iconst 0, 1) := by decide +kernel
theorem dX7_at_18 : decode cX7_at 18 = .ok (.ireturn, 1) := by decide +kernel
def f_X7_at (q_elements : Nat → Int32) (q_size : Int32) (p1 : Int32) : Option (Int32) := ob (f_X7_hasPlace q_size p1) (fun r1 => if r1 = 0 then some (0 : Int32) else gd (ix p1 100) (some (q_elements p1.toNatClampNeg)))
set_option maxHeartbeats 4000000 in
set_option maxRecDepth 100000 in
theorem c_X7_at (l : Launch) (E : EE) (q_h : Nat) (q_a0 : Nat) (q_elements : Nat → Int32) (q_holds : Int32) (q_kind : Int32) (q_figure : Int32) (q_sort : Int32) (q_size : Int32) (p1 : Int32) (res : Int32) (hv : f_X7_at q_elements q_size p1 = some res) : Rd l E yX7_at cX7_at 2 (some .int) ({ frames := 1, cells := 0, slots := 0, locals := 21 }) [.ref q_h, .int p1] [oSh q_h q_a0 q_holds q_kind q_figure q_sort q_size, ai E q_a0 100 q_elements] (some (.int res)) := by
  refine Rd.intro RX7 (by decide) rfl (Nat.le_of_ble_eq_true rfl) ?_
  intro p e s m below meth c ls hC hr hlk hP hG hl
  obtain ⟨hx, hb, hml, hown, ht⟩ := id hC
  have hK := hG.1
  have hl : lv_has ls 2 [(0, .ref q_h), (1, .int p1)] := hl
  rw [f_X7_at] at hv
  refine lv_aload_n hx hb dX7_at_0 rfl (lv_at hl 0 rfl) ?_
  refine lv_iload_n hx hb dX7_at_1 rfl (lv_at hl 1 rfl) ?_
  obtain ⟨r1, h2, hv⟩ := ob_s hv
  refine rdV 1 0 (As := [.int p1]) (rest := []) (st1 := [.int r1]) (w := [oSh q_h q_a0 q_holds q_kind q_figure q_sort q_size, ai E q_a0 100 q_elements]) hC q_X7_hasPlace kw_1_188 (c_X7_hasPlace l E q_h q_a0 q_elements q_holds q_kind q_figure q_sort q_size p1 r1 h2) ⟨rfl, rfl⟩ ⟨Nat.le_of_ble_eq_true rfl, Nat.le_of_ble_eq_true rfl⟩ ⟨Nat.zero_le _, Nat.zero_le _⟩ hP rfl rfl rfl hG rfl hl.1 rfl (Nat.le_of_ble_eq_true rfl) dX7_at_2 rfl ?_
  refine lv_if_eq (tgt := 17) hx hb dX7_at_5 (by decide) (fun c3 => ?_) (fun c3 => ?_)
  · have hv := if_y c3 hv
    refine lv_iconst (v := (0 : Int32)) hx hb dX7_at_17 (by decide) ?_
    exact W.iret (v := (0 : Int32)) hx hb hr (fun t h9 _ => ⟨rv_i hv, h9⟩) (fun q h => absurd h List.not_mem_nil) dX7_at_18 hlk
  · have hv := if_n c3 hv
    refine lv_aload_n hx hb dX7_at_8 rfl (lv_at hl 0 rfl) ?_
    refine va_get (D := E.1) (ci := 1) (v := .ref q_a0) (C := RX7) (T := TX7) (N := 6) hx hb ht i_X7 hown hK hP 0 rfl rfl 0 (by decide) (ht _ kw_1_111) (fun _ h9 => h9) rfl dX7_at_9 ?_
    refine lv_iload_n hx hb dX7_at_12 rfl (lv_at hl 1 rfl) ?_
    obtain ⟨g4, hv⟩ := gd_s hv
    refine va_iald hx hb hK hP 1 0 rfl rfl (ix_s g4) dX7_at_13 ?_
    refine lv_goto (tgt := 18) hx hb dX7_at_14 (by decide) ?_
    exact W.iret (v := (q_elements p1.toNatClampNeg)) hx hb hr (fun t h9 _ => ⟨rv_i hv, h9⟩) (fun q h => absurd h List.not_mem_nil) dX7_at_18 hlk
theorem dX7_lowestBits_0 : decode cX7_lowestBits 0 = .ok (.aload_n 0, 1) := by decide +kernel
theorem dX7_lowestBits_1 : decode cX7_lowestBits 1 = .ok (.getfield 25, 3) := by decide +kernel
theorem dX7_lowestBits_4 : decode cX7_lowestBits 4 = .ok (.lookupswitch 34 #[(0, 28), (1, 31)], 28) := by decide +kernel
theorem dX7_lowestBits_32 : decode cX7_lowestBits 32 = .ok (.iload_n 1, 1) := by decide +kernel
theorem dX7_lowestBits_33 : decode cX7_lowestBits 33 = .ok (.i2b, 1) := by decide +kernel
theorem dX7_lowestBits_34 : decode cX7_lowestBits 34 = .ok (.ireturn, 1) := by decide +kernel
theorem dX7_lowestBits_35 : decode cX7_lowestBits 35 = .ok (.iload_n 1, 1) := by decide +kernel
theorem dX7_lowestBits_36 : decode cX7_lowestBits 36 = .ok (.i2s, 1) := by decide +kernel
theorem dX7_lowestBits_37 : decode cX7_lowestBits 37 = .ok (.ireturn, 1) := by decide +kernel
theorem dX7_lowestBits_38 : decode cX7_lowestBits 38 = .ok (.iload_n 1, 1) := by decide +kernel
theorem dX7_lowestBits_39 : decode cX7_lowestBits 39 = .ok (.ireturn, 1) := by decide +kernel
def f_X7_lowestBits (q_sort : Int32) (p1 : Int32) : Option (Int32) := if q_sort = (0 : Int32) then some (p1.toInt8.toInt32) else if q_sort = (1 : Int32) then some (p1.toInt16.toInt32) else some p1
set_option maxHeartbeats 4000000 in
set_option maxRecDepth 100000 in
theorem c_X7_lowestBits (l : Launch) (E : EE) (q_h : Nat) (q_a0 : Nat) (q_elements : Nat → Int32) (q_holds : Int32) (q_kind : Int32) (q_figure : Int32) (q_sort : Int32) (q_size : Int32) (p1 : Int32) (res : Int32) (hv : f_X7_lowestBits q_sort p1 = some res) : Rd l E yX7_lowestBits cX7_lowestBits 2 (some .int) ({ frames := 0, cells := 0, slots := 0, locals := 0 }) [.ref q_h, .int p1] [oSh q_h q_a0 q_holds q_kind q_figure q_sort q_size, ai E q_a0 100 q_elements] (some (.int res)) := by
  refine Rd.intro RX7 (by decide) rfl (Nat.le_of_ble_eq_true rfl) ?_
  intro p e s m below meth c ls hC hr hlk hP hG hl
  obtain ⟨hx, hb, hml, hown, ht⟩ := id hC
  have hK := hG.1
  have hl : lv_has ls 2 [(0, .ref q_h), (1, .int p1)] := hl
  rw [f_X7_lowestBits] at hv
  refine lv_aload_n hx hb dX7_lowestBits_0 rfl (lv_at hl 0 rfl) ?_
  refine va_get (D := E.1) (ci := 1) (v := .int q_sort) (C := RX7) (T := TX7) (N := 6) hx hb ht i_X7 hown hK hP 0 rfl rfl 4 (by decide) (ht _ kw_1_120) (fun _ h9 => h9) rfl dX7_lowestBits_1 ?_
  rcases Decidable.em (q_sort = (0 : Int32)) with c1 | c1
  · have hv := if_y c1 hv
    refine lv_lookup (tgt := 32) (off := 28) hx hb dX7_lowestBits_4 (by decide) (by rw [c1]; decide) (by decide) ?_
    refine lv_iload_n hx hb dX7_lowestBits_32 rfl (lv_at hl 1 rfl) ?_
    refine lv_i2b (v := (p1.toInt8.toInt32)) hx hb dX7_lowestBits_33 rfl ?_
    exact W.iret (v := (p1.toInt8.toInt32)) hx hb hr (fun t h9 _ => ⟨rv_i hv, h9⟩) (fun q h => absurd h List.not_mem_nil) dX7_lowestBits_34 hlk
  · have hv := if_n c1 hv
    rcases Decidable.em (q_sort = (1 : Int32)) with c2 | c2
    · have hv := if_y c2 hv
      refine lv_lookup (tgt := 35) (off := 31) hx hb dX7_lowestBits_4 (by decide) (by rw [c2]; decide) (by decide) ?_
      refine lv_iload_n hx hb dX7_lowestBits_35 rfl (lv_at hl 1 rfl) ?_
      refine lv_i2s (v := (p1.toInt16.toInt32)) hx hb dX7_lowestBits_36 rfl ?_
      exact W.iret (v := (p1.toInt16.toInt32)) hx hb hr (fun t h9 _ => ⟨rv_i hv, h9⟩) (fun q h => absurd h List.not_mem_nil) dX7_lowestBits_37 hlk
    · have hv := if_n c2 hv
      refine lv_lookup (tgt := 38) (off := 34) hx hb dX7_lowestBits_4 (by decide) (by rw [lv_osw c1 (by decide), lv_osw c2 (by decide)]; rfl) (by decide) ?_
      refine lv_iload_n hx hb dX7_lowestBits_38 rfl (lv_at hl 1 rfl) ?_
      exact W.iret (v := p1) hx hb hr (fun t h9 _ => ⟨rv_i hv, h9⟩) (fun q h => absurd h List.not_mem_nil) dX7_lowestBits_39 hlk
theorem dX7_leastOfSort_0 : decode cX7_leastOfSort 0 = .ok (.aload_n 0, 1) := by decide +kernel
theorem dX7_leastOfSort_1 : decode cX7_leastOfSort 1 = .ok (.getfield 25, 3) := by decide +kernel
theorem dX7_leastOfSort_4 : decode cX7_leastOfSort 4 = .ok (.lookupswitch 35 #[(0, 28), (1, 31)], 28) := by decide +kernel
theorem dX7_leastOfSort_32 : decode cX7_leastOfSort 32 = .ok (.bipush (-128), 2) := by decide +kernel
theorem dX7_leastOfSort_34 : decode cX7_leastOfSort 34 = .ok (.ireturn, 1) := by decide +kernel
theorem dX7_leastOfSort_35 : decode cX7_leastOfSort 35 = .ok (.sipush (-32768), 3) := by decide +kernel
theorem dX7_leastOfSort_38 : decode cX7_leastOfSort 38 = .ok (.ireturn, 1) := by decide +kernel
theorem dX7_leastOfSort_39 : decode cX7_leastOfSort 39 = .ok (.ldc 46, 2) := by decide +kernel
theorem dX7_leastOfSort_41 : decode cX7_leastOfSort 41 = .ok (.ireturn, 1) := by decide +kernel
def f_X7_leastOfSort (q_sort : Int32) : Option (Int32) := if q_sort = (0 : Int32) then some (-128 : Int32) else if q_sort = (1 : Int32) then some (-32768 : Int32) else some (-2147483648 : Int32)
set_option maxHeartbeats 4000000 in
set_option maxRecDepth 100000 in
theorem c_X7_leastOfSort (l : Launch) (E : EE) (q_h : Nat) (q_a0 : Nat) (q_elements : Nat → Int32) (q_holds : Int32) (q_kind : Int32) (q_figure : Int32) (q_sort : Int32) (q_size : Int32) (res : Int32) (hv : f_X7_leastOfSort q_sort = some res) : Rd l E yX7_leastOfSort cX7_leastOfSort 1 (some .int) ({ frames := 0, cells := 0, slots := 0, locals := 0 }) [.ref q_h] [oSh q_h q_a0 q_holds q_kind q_figure q_sort q_size, ai E q_a0 100 q_elements] (some (.int res)) := by
  refine Rd.intro RX7 (by decide) rfl (Nat.le_of_ble_eq_true rfl) ?_
  intro p e s m below meth c ls hC hr hlk hP hG hl
  obtain ⟨hx, hb, hml, hown, ht⟩ := id hC
  have hK := hG.1
  have hl : lv_has ls 1 [(0, .ref q_h)] := hl
  rw [f_X7_leastOfSort] at hv
  refine lv_aload_n hx hb dX7_leastOfSort_0 rfl (lv_at hl 0 rfl) ?_
  refine va_get (D := E.1) (ci := 1) (v := .int q_sort) (C := RX7) (T := TX7) (N := 6) hx hb ht i_X7 hown hK hP 0 rfl rfl 4 (by decide) (ht _ kw_1_120) (fun _ h9 => h9) rfl dX7_leastOfSort_1 ?_
  rcases Decidable.em (q_sort = (0 : Int32)) with c1 | c1
  · have hv := if_y c1 hv
    refine lv_lookup (tgt := 32) (off := 28) hx hb dX7_leastOfSort_4 (by decide) (by rw [c1]; decide) (by decide) ?_
    refine lv_bipush (v := (-128 : Int32)) hx hb dX7_leastOfSort_32 (by decide) ?_
    exact W.iret (v := (-128 : Int32)) hx hb hr (fun t h9 _ => ⟨rv_i hv, h9⟩) (fun q h => absurd h List.not_mem_nil) dX7_leastOfSort_34 hlk
  · have hv := if_n c1 hv
    rcases Decidable.em (q_sort = (1 : Int32)) with c2 | c2
    · have hv := if_y c2 hv
      refine lv_lookup (tgt := 35) (off := 31) hx hb dX7_leastOfSort_4 (by decide) (by rw [c2]; decide) (by decide) ?_
      refine lv_sipush (v := (-32768 : Int32)) hx hb dX7_leastOfSort_35 (by decide) ?_
      exact W.iret (v := (-32768 : Int32)) hx hb hr (fun t h9 _ => ⟨rv_i hv, h9⟩) (fun q h => absurd h List.not_mem_nil) dX7_leastOfSort_38 hlk
    · have hv := if_n c2 hv
      refine lv_lookup (tgt := 39) (off := 35) hx hb dX7_leastOfSort_4 (by decide) (by rw [lv_osw c1 (by decide), lv_osw c2 (by decide)]; rfl) (by decide) ?_
      refine lv_ldc (v := (-2147483648 : Int32)) hx hb hown (ht _ kw_3_128) dX7_leastOfSort_39 ?_
      exact W.iret (v := (-2147483648 : Int32)) hx hb hr (fun t h9 _ => ⟨rv_i hv, h9⟩) (fun q h => absurd h List.not_mem_nil) dX7_leastOfSort_41 hlk
theorem dX7_isSkipped_0 : decode cX7_isSkipped 0 = .ok (.aload_n 0, 1) := by decide +kernel
theorem dX7_isSkipped_1 : decode cX7_isSkipped 1 = .ok (.iload_n 1, 1) := by decide +kernel
theorem dX7_isSkipped_2 : decode cX7_isSkipped 2 = .ok (.invokevirtual 39, 3) := by decide +kernel
theorem dX7_isSkipped_5 : decode cX7_isSkipped 5 = .ok (.aload_n 0, 1) := by decide +kernel
theorem dX7_isSkipped_6 : decode cX7_isSkipped 6 = .ok (.invokevirtual 42, 3) := by decide +kernel
theorem dX7_isSkipped_9 : decode cX7_isSkipped 9 = .ok (.if_icmp .ne 7, 3) := by decide +kernel
theorem dX7_isSkipped_12 : decode cX7_isSkipped 12 = .ok (.iconst 1, 1) := by decide +kernel
theorem dX7_isSkipped_13 : decode cX7_isSkipped 13 = .ok (.goto 4, 3) := by decide +kernel
theorem dX7_isSkipped_16 : decode cX7_isSkipped 16 = .ok (.iconst 0, 1) := by decide +kernel
theorem dX7_isSkipped_17 : decode cX7_isSkipped 17 = .ok (.ireturn, 1) := by decide +kernel
def f_X7_isSkipped (q_elements : Nat → Int32) (q_sort : Int32) (q_size : Int32) (p1 : Int32) : Option (Int32) := ob (f_X7_at q_elements q_size p1) (fun r1 => ob (f_X7_leastOfSort q_sort) (fun r3 => if r1 = r3 then some (1 : Int32) else some (0 : Int32)))
set_option maxHeartbeats 4000000 in
set_option maxRecDepth 100000 in
theorem c_X7_isSkipped (l : Launch) (E : EE) (q_h : Nat) (q_a0 : Nat) (q_elements : Nat → Int32) (q_holds : Int32) (q_kind : Int32) (q_figure : Int32) (q_sort : Int32) (q_size : Int32) (p1 : Int32) (res : Int32) (hv : f_X7_isSkipped q_elements q_sort q_size p1 = some res) : Rd l E yX7_isSkipped cX7_isSkipped 2 (some .boolean) ({ frames := 2, cells := 0, slots := 0, locals := 42 }) [.ref q_h, .int p1] [oSh q_h q_a0 q_holds q_kind q_figure q_sort q_size, ai E q_a0 100 q_elements] (some (.int res)) := by
  refine Rd.intro RX7 (by decide) rfl (Nat.le_of_ble_eq_true rfl) ?_
  intro p e s m below meth c ls hC hr hlk hP hG hl
  obtain ⟨hx, hb, hml, hown, ht⟩ := id hC
  have hK := hG.1
  have hl : lv_has ls 2 [(0, .ref q_h), (1, .int p1)] := hl
  rw [f_X7_isSkipped] at hv
  refine lv_aload_n hx hb dX7_isSkipped_0 rfl (lv_at hl 0 rfl) ?_
  refine lv_iload_n hx hb dX7_isSkipped_1 rfl (lv_at hl 1 rfl) ?_
  obtain ⟨r1, h2, hv⟩ := ob_s hv
  refine rdV 1 0 (As := [.int p1]) (rest := []) (st1 := [.int r1]) (w := [oSh q_h q_a0 q_holds q_kind q_figure q_sort q_size, ai E q_a0 100 q_elements]) hC q_X7_at kw_3_123 (c_X7_at l E q_h q_a0 q_elements q_holds q_kind q_figure q_sort q_size p1 r1 h2) ⟨rfl, rfl⟩ ⟨Nat.le_of_ble_eq_true rfl, Nat.le_of_ble_eq_true rfl⟩ ⟨Nat.zero_le _, Nat.zero_le _⟩ hP rfl rfl rfl hG rfl hl.1 rfl (Nat.le_of_ble_eq_true rfl) dX7_isSkipped_2 rfl ?_
  refine lv_aload_n hx hb dX7_isSkipped_5 rfl (lv_at hl 0 rfl) ?_
  obtain ⟨r3, h4, hv⟩ := ob_s hv
  refine rdV 1 0 (As := []) (rest := [.int r1]) (st1 := [.int r3, .int r1]) (w := [oSh q_h q_a0 q_holds q_kind q_figure q_sort q_size, ai E q_a0 100 q_elements]) hC q_X7_leastOfSort kw_3_124 (c_X7_leastOfSort l E q_h q_a0 q_elements q_holds q_kind q_figure q_sort q_size r3 h4) ⟨rfl, rfl⟩ ⟨Nat.le_of_ble_eq_true rfl, Nat.le_of_ble_eq_true rfl⟩ ⟨Nat.zero_le _, Nat.zero_le _⟩ hP rfl rfl rfl hG rfl hl.1 rfl (Nat.le_of_ble_eq_true rfl) dX7_isSkipped_6 rfl ?_
  refine lv_icmp_ne (tgt := 16) hx hb dX7_isSkipped_9 (by decide) (fun c5 => ?_) (fun c5 => ?_)
  · have hv := if_n c5 hv
    refine lv_iconst (v := (0 : Int32)) hx hb dX7_isSkipped_16 (by decide) ?_
    exact W.zret (v := (0 : Int32)) hx hb hr rfl (fun t h9 _ => ⟨rv_i hv, h9⟩) (fun q h => absurd h List.not_mem_nil) dX7_isSkipped_17 hlk
  · have hv := if_y c5 hv
    refine lv_iconst (v := (1 : Int32)) hx hb dX7_isSkipped_12 (by decide) ?_
    refine lv_goto (tgt := 17) hx hb dX7_isSkipped_13 (by decide) ?_
    exact W.zret (v := (1 : Int32)) hx hb hr rfl (fun t h9 _ => ⟨rv_i hv, h9⟩) (fun q h => absurd h List.not_mem_nil) dX7_isSkipped_17 hlk
theorem dX7_takeKind_0 : decode cX7_takeKind 0 = .ok (.aload_n 0, 1) := by decide +kernel
theorem dX7_takeKind_1 : decode cX7_takeKind 1 = .ok (.iconst 1, 1) := by decide +kernel
theorem dX7_takeKind_2 : decode cX7_takeKind 2 = .ok (.putfield 15, 3) := by decide +kernel
theorem dX7_takeKind_5 : decode cX7_takeKind 5 = .ok (.aload_n 0, 1) := by decide +kernel
theorem dX7_takeKind_6 : decode cX7_takeKind 6 = .ok (.iload_n 1, 1) := by decide +kernel
theorem dX7_takeKind_7 : decode cX7_takeKind 7 = .ok (.putfield 19, 3) := by decide +kernel
theorem dX7_takeKind_10 : decode cX7_takeKind 10 = .ok (.aload_n 0, 1) := by decide +kernel
theorem dX7_takeKind_11 : decode cX7_takeKind 11 = .ok (.iload_n 2, 1) := by decide +kernel
theorem dX7_takeKind_12 : decode cX7_takeKind 12 = .ok (.putfield 22, 3) := by decide +kernel
theorem dX7_takeKind_15 : decode cX7_takeKind 15 = .ok (.return_, 1) := by decide +kernel
def f_X7_takeKind (p1 : Int32) (p2 : Int32) : Option (Int32 × Int32 × Int32) := some ((1 : Int32), p1, p2)
set_option maxHeartbeats 4000000 in
set_option maxRecDepth 100000 in
theorem c_X7_takeKind (l : Launch) (E : EE) (q_h : Nat) (q_a0 : Nat) (q_elements : Nat → Int32) (q_holds : Int32) (q_kind : Int32) (q_figure : Int32) (q_sort : Int32) (q_size : Int32) (p1 : Int32) (p2 : Int32) (w_q_holds : Int32) (w_q_kind : Int32) (w_q_figure : Int32) (hv : f_X7_takeKind p1 p2 = some (w_q_holds, w_q_kind, w_q_figure)) : Wr l E yX7_takeKind cX7_takeKind 3 none ({ frames := 0, cells := 0, slots := 0, locals := 0 }) [.ref q_h, .int p1, .int p2] [oSh q_h q_a0 q_holds q_kind q_figure q_sort q_size, ai E q_a0 100 q_elements] [oSh q_h q_a0 w_q_holds w_q_kind w_q_figure q_sort q_size, ai E q_a0 100 q_elements] none := by
  refine Wr.intro RX7 (by decide) rfl (Nat.le_of_ble_eq_true rfl) ?_
  intro p e s m below meth c ls A hC hr hlk hmn hP hD hS hA hG hl
  obtain ⟨hx, hb, hml, hown, ht⟩ := id hC
  have hK := hG.1
  have hl : lv_has ls 3 [(0, .ref q_h), (1, .int p1), (2, .int p2)] := hl
  rw [f_X7_takeKind] at hv
  refine lv_aload_n hx hb dX7_takeKind_0 rfl (lv_at hl 0 rfl) ?_
  refine lv_iconst (v := (1 : Int32)) hx hb dX7_takeKind_1 (by decide) ?_
  refine va_put (D := E.1) (ci := 1) (v := .int (1 : Int32)) (ty := .int) (C := RX7) (T := TX7) (N := 6) hx hb ht i_X7 tyX7 tyX7_ok nmX7 hown hK hP hD hS 0 rfl rfl 1 (by decide) (ht _ kw_1_113) (fun _ h9 => h9) rfl (by decide +kernel) rfl rfl (Nat.le_of_ble_eq_true rfl) dX7_takeKind_2 (fun H locs hP hD hS => ?_)
  have hP : va_P E.1 vwCl [oSh q_h q_a0 (1 : Int32) q_kind q_figure q_sort q_size, ai E q_a0 100 q_elements] H := hP
  have hD : va_D A [oSh q_h q_a0 (1 : Int32) q_kind q_figure q_sort q_size, ai E q_a0 100 q_elements] := hD
  refine lv_aload_n hx hb dX7_takeKind_5 rfl (lv_at hl 0 rfl) ?_
  refine lv_iload_n hx hb dX7_takeKind_6 rfl (lv_at hl 1 rfl) ?_
  refine va_put (D := E.1) (ci := 1) (v := .int p1) (ty := .int) (C := RX7) (T := TX7) (N := 6) hx hb ht i_X7 tyX7 tyX7_ok nmX7 hown hK hP hD hS 0 rfl rfl 2 (by decide) (ht _ kw_1_115) (fun _ h9 => h9) rfl (by decide +kernel) rfl rfl (Nat.le_of_ble_eq_true rfl) dX7_takeKind_7 (fun H locs hP hD hS => ?_)
  have hP : va_P E.1 vwCl [oSh q_h q_a0 (1 : Int32) p1 q_figure q_sort q_size, ai E q_a0 100 q_elements] H := hP
  have hD : va_D A [oSh q_h q_a0 (1 : Int32) p1 q_figure q_sort q_size, ai E q_a0 100 q_elements] := hD
  refine lv_aload_n hx hb dX7_takeKind_10 rfl (lv_at hl 0 rfl) ?_
  refine lv_iload_n hx hb dX7_takeKind_11 rfl (lv_at hl 2 rfl) ?_
  refine va_put (D := E.1) (ci := 1) (v := .int p2) (ty := .int) (C := RX7) (T := TX7) (N := 6) hx hb ht i_X7 tyX7 tyX7_ok nmX7 hown hK hP hD hS 0 rfl rfl 3 (by decide) (ht _ kw_1_117) (fun _ h9 => h9) rfl (by decide +kernel) rfl rfl (Nat.le_of_ble_eq_true rfl) dX7_takeKind_12 (fun H locs hP hD hS => ?_)
  have hP : va_P E.1 vwCl [oSh q_h q_a0 (1 : Int32) p1 p2 q_sort q_size, ai E q_a0 100 q_elements] H := hP
  have hD : va_D A [oSh q_h q_a0 (1 : Int32) p1 p2 q_sort q_size, ai E q_a0 100 q_elements] := hD
  cases hv
  exact W.vret hx hb hr (fun t h9 _ => ⟨rfl, by rw [h9]; exact hP, hS.F h9⟩) hS.2.2 dX7_takeKind_15 hlk
theorem dX7_takeRow_0 : decode cX7_takeRow 0 = .ok (.aload_n 0, 1) := by decide +kernel
theorem dX7_takeRow_1 : decode cX7_takeRow 1 = .ok (.iconst 2, 1) := by decide +kernel
theorem dX7_takeRow_2 : decode cX7_takeRow 2 = .ok (.putfield 15, 3) := by decide +kernel
theorem dX7_takeRow_5 : decode cX7_takeRow 5 = .ok (.aload_n 0, 1) := by decide +kernel
theorem dX7_takeRow_6 : decode cX7_takeRow 6 = .ok (.iload_n 1, 1) := by decide +kernel
theorem dX7_takeRow_7 : decode cX7_takeRow 7 = .ok (.putfield 25, 3) := by decide +kernel
theorem dX7_takeRow_10 : decode cX7_takeRow 10 = .ok (.aload_n 0, 1) := by decide +kernel
theorem dX7_takeRow_11 : decode cX7_takeRow 11 = .ok (.iload_n 2, 1) := by decide +kernel
theorem dX7_takeRow_12 : decode cX7_takeRow 12 = .ok (.putfield 28, 3) := by decide +kernel
theorem dX7_takeRow_15 : decode cX7_takeRow 15 = .ok (.iconst 0, 1) := by decide +kernel
theorem dX7_takeRow_16 : decode cX7_takeRow 16 = .ok (.istore_n 3, 1) := by decide +kernel
theorem dX7_takeRow_17 : decode cX7_takeRow 17 = .ok (.iload_n 3, 1) := by decide +kernel
theorem dX7_takeRow_18 : decode cX7_takeRow 18 = .ok (.bipush 100, 2) := by decide +kernel
theorem dX7_takeRow_20 : decode cX7_takeRow 20 = .ok (.if_icmp .ge 16, 3) := by decide +kernel
theorem dX7_takeRow_23 : decode cX7_takeRow 23 = .ok (.aload_n 0, 1) := by decide +kernel
theorem dX7_takeRow_24 : decode cX7_takeRow 24 = .ok (.getfield 9, 3) := by decide +kernel
theorem dX7_takeRow_27 : decode cX7_takeRow 27 = .ok (.iload_n 3, 1) := by decide +kernel
theorem dX7_takeRow_28 : decode cX7_takeRow 28 = .ok (.iconst 0, 1) := by decide +kernel
theorem dX7_takeRow_29 : decode cX7_takeRow 29 = .ok (.iastore, 1) := by decide +kernel
theorem dX7_takeRow_30 : decode cX7_takeRow 30 = .ok (.iinc 3 1, 3) := by decide +kernel
theorem dX7_takeRow_33 : decode cX7_takeRow 33 = .ok (.goto (-16), 3) := by decide +kernel
theorem dX7_takeRow_36 : decode cX7_takeRow 36 = .ok (.return_, 1) := by decide +kernel
def L_X7_takeRow_17 (p1 : Int32) (p2 : Int32) : Nat → Int32 → (Nat → Int32) → Option (Int32 × Int32 × Int32 × (Nat → Int32))
  | 0, _, _ => none
  | n17 + 1, x1, y2 => if (100 : Int32) ≤ x1 then some ((2 : Int32), p1, p2, y2) else gd (ix x1 100) (nm (upd y2 x1.toNatClampNeg (0 : Int32)) (fun f5 => L_X7_takeRow_17 p1 p2 n17 (x1 + (1 : Int32)) f5))
def f_X7_takeRow (N : Nat) (q_elements : Nat → Int32) (p1 : Int32) (p2 : Int32) : Option (Int32 × Int32 × Int32 × (Nat → Int32)) := L_X7_takeRow_17 p1 p2 N (0 : Int32) q_elements
set_option maxHeartbeats 4000000 in
set_option maxRecDepth 100000 in
theorem c_X7_takeRow (l : Launch) (E : EE) (q_h : Nat) (q_a0 : Nat) (q_elements : Nat → Int32) (q_holds : Int32) (q_kind : Int32) (q_figure : Int32) (q_sort : Int32) (q_size : Int32) (p1 : Int32) (p2 : Int32) (N : Nat) (w_q_holds : Int32) (w_q_sort : Int32) (w_q_size : Int32) (w_q_elements : Nat → Int32) (hv : f_X7_takeRow N q_elements p1 p2 = some (w_q_holds, w_q_sort, w_q_size, w_q_elements)) : Wr l E yX7_takeRow cX7_takeRow 4 none ({ frames := 0, cells := 0, slots := 0, locals := 0 }) [.ref q_h, .int p1, .int p2] [oSh q_h q_a0 q_holds q_kind q_figure q_sort q_size, ai E q_a0 100 q_elements] [oSh q_h q_a0 w_q_holds q_kind q_figure w_q_sort w_q_size, ai E q_a0 100 w_q_elements] none := by
  refine Wr.intro RX7 (by decide) rfl (Nat.le_of_ble_eq_true rfl) ?_
  intro p e s m below meth c ls A hC hr hlk hmn hP hD hS hA hG hl
  obtain ⟨hx, hb, hml, hown, ht⟩ := id hC
  have hK := hG.1
  have hl : lv_has ls 4 [(0, .ref q_h), (1, .int p1), (2, .int p2)] := hl
  rw [f_X7_takeRow] at hv
  refine lv_aload_n hx hb dX7_takeRow_0 rfl (lv_at hl 0 rfl) ?_
  refine lv_iconst (v := (2 : Int32)) hx hb dX7_takeRow_1 (by decide) ?_
  refine va_put (D := E.1) (ci := 1) (v := .int (2 : Int32)) (ty := .int) (C := RX7) (T := TX7) (N := 6) hx hb ht i_X7 tyX7 tyX7_ok nmX7 hown hK hP hD hS 0 rfl rfl 1 (by decide) (ht _ kw_1_113) (fun _ h9 => h9) rfl (by decide +kernel) rfl rfl (Nat.le_of_ble_eq_true rfl) dX7_takeRow_2 (fun H locs hP hD hS => ?_)
  have hP : va_P E.1 vwCl [oSh q_h q_a0 (2 : Int32) q_kind q_figure q_sort q_size, ai E q_a0 100 q_elements] H := hP
  have hD : va_D A [oSh q_h q_a0 (2 : Int32) q_kind q_figure q_sort q_size, ai E q_a0 100 q_elements] := hD
  refine lv_aload_n hx hb dX7_takeRow_5 rfl (lv_at hl 0 rfl) ?_
  refine lv_iload_n hx hb dX7_takeRow_6 rfl (lv_at hl 1 rfl) ?_
  refine va_put (D := E.1) (ci := 1) (v := .int p1) (ty := .int) (C := RX7) (T := TX7) (N := 6) hx hb ht i_X7 tyX7 tyX7_ok nmX7 hown hK hP hD hS 0 rfl rfl 4 (by decide) (ht _ kw_1_120) (fun _ h9 => h9) rfl (by decide +kernel) rfl rfl (Nat.le_of_ble_eq_true rfl) dX7_takeRow_7 (fun H locs hP hD hS => ?_)
  have hP : va_P E.1 vwCl [oSh q_h q_a0 (2 : Int32) q_kind q_figure p1 q_size, ai E q_a0 100 q_elements] H := hP
  have hD : va_D A [oSh q_h q_a0 (2 : Int32) q_kind q_figure p1 q_size, ai E q_a0 100 q_elements] := hD
  refine lv_aload_n hx hb dX7_takeRow_10 rfl (lv_at hl 0 rfl) ?_
  refine lv_iload_n hx hb dX7_takeRow_11 rfl (lv_at hl 2 rfl) ?_
  refine va_put (D := E.1) (ci := 1) (v := .int p2) (ty := .int) (C := RX7) (T := TX7) (N := 6) hx hb ht i_X7 tyX7 tyX7_ok nmX7 hown hK hP hD hS 0 rfl rfl 5 (by decide) (ht _ kw_1_123) (fun _ h9 => h9) rfl (by decide +kernel) rfl rfl (Nat.le_of_ble_eq_true rfl) dX7_takeRow_12 (fun H locs hP hD hS => ?_)
  have hP : va_P E.1 vwCl [oSh q_h q_a0 (2 : Int32) q_kind q_figure p1 p2, ai E q_a0 100 q_elements] H := hP
  have hD : va_D A [oSh q_h q_a0 (2 : Int32) q_kind q_figure p1 p2, ai E q_a0 100 q_elements] := hD
  refine lv_iconst (v := (0 : Int32)) hx hb dX7_takeRow_15 (by decide) ?_
  refine lv_istore_n (lv' := [(3, .int (0 : Int32)), (0, .ref q_h), (1, .int p1), (2, .int p2)]) hx hb dX7_takeRow_16 rfl hl (by decide) rfl (fun ls hl => ?_)
  have hL17 : ∀ (n : Nat) (x1 : Int32) (y2 : Nat → Int32) (H : Heap) (locs : List Loc) (ls : Array Slot), va_P E.1 vwCl [oSh q_h q_a0 (2 : Int32) q_kind q_figure p1 p2, ai E q_a0 100 y2] H → va_D A [oSh q_h q_a0 (2 : Int32) q_kind q_figure p1 p2, ai E q_a0 100 y2] → va_S A s.heap H locs → lv_has ls 4 [(3, .int x1), (0, .ref q_h)] → L_X7_takeRow_17 p1 p2 n x1 y2 = some (w_q_holds, w_q_sort, w_q_size, w_q_elements) → W p l e ({ frames := 0, cells := 0, slots := 0, locals := 0 }) s m [.ref q_h, .int p1, .int p2].toArray below meth c H locs 0 0 (MQ below (fun _ st oc t => oc = .returned none ∧ va_P E.1 vwCl [oSh q_h q_a0 w_q_holds q_kind q_figure w_q_sort w_q_size, ai E q_a0 100 w_q_elements] t.heap ∧ va_F A st t) [.ref q_h, .int p1, .int p2].toArray s 0 0 A) (F0 m 17 ls []) := by
    intro n
    induction n with
    | zero => intro x1 y2 H locs ls hP hD hS hl hv; cases hv
    | succ n17 ih17 =>
      intro x1 y2 H locs ls hP hD hS hl hv
      rw [L_X7_takeRow_17] at hv
      refine lv_iload_n hx hb dX7_takeRow_17 rfl (lv_at hl 0 rfl) ?_
      refine lv_bipush (v := (100 : Int32)) hx hb dX7_takeRow_18 (by decide) ?_
      refine lv_icmp_ge (tgt := 36) hx hb dX7_takeRow_20 (by decide) (fun c3 => ?_) (fun c3 => ?_)
      · have hv := if_y c3 hv
        cases hv
        exact W.vret hx hb hr (fun t h9 _ => ⟨rfl, by rw [h9]; exact hP, hS.F h9⟩) hS.2.2 dX7_takeRow_36 hlk
      · have hv := if_n c3 hv
        refine lv_aload_n hx hb dX7_takeRow_23 rfl (lv_at hl 1 rfl) ?_
        refine va_get (D := E.1) (ci := 1) (v := .ref q_a0) (C := RX7) (T := TX7) (N := 6) hx hb ht i_X7 hown hK hP 0 rfl rfl 0 (by decide) (ht _ kw_1_111) (fun _ h9 => h9) rfl dX7_takeRow_24 ?_
        refine lv_iload_n hx hb dX7_takeRow_27 rfl (lv_at hl 0 rfl) ?_
        refine lv_iconst (v := (0 : Int32)) hx hb dX7_takeRow_28 (by decide) ?_
        obtain ⟨g4, hv⟩ := gd_s hv
        refine va_iast hx hb hK hP hD hS 1 0 rfl rfl (ix_s g4) dX7_takeRow_29 (fun H locs hP hD hS => ?_)
        have hP : va_P E.1 vwCl [oSh q_h q_a0 (2 : Int32) q_kind q_figure p1 p2, ai E q_a0 100 (upd y2 x1.toNatClampNeg (0 : Int32))] H := hP
        have hD : va_D A [oSh q_h q_a0 (2 : Int32) q_kind q_figure p1 p2, ai E q_a0 100 (upd y2 x1.toNatClampNeg (0 : Int32))] := hD
        obtain ⟨f5, ef5⟩ : ∃ z, z = (upd y2 x1.toNatClampNeg (0 : Int32)) := ⟨_, rfl⟩
        rw [← ef5] at hP hD
        have hv := nm_s ef5 hv
        refine lv_iinc (v := (x1 + (1 : Int32))) (lv' := [(3, .int (x1 + (1 : Int32))), (0, .ref q_h)]) hx hb dX7_takeRow_30 hl (k := 0) rfl rfl (by decide) rfl (fun ls hl => ?_)
        refine lv_goto (tgt := 17) hx hb dX7_takeRow_33 (by decide) ?_
        exact ih17 (x1 + (1 : Int32)) f5 _ _ _ hP hD hS (lv_sub hl [0, 1] rfl) hv
  exact hL17 N (0 : Int32) q_elements _ _ _ hP hD hS (lv_sub hl [0, 1] rfl) hv
theorem dX7_set_0 : decode cX7_set 0 = .ok (.aload_n 0, 1) := by decide +kernel
theorem dX7_set_1 : decode cX7_set 1 = .ok (.iload_n 1, 1) := by decide +kernel
theorem dX7_set_2 : decode cX7_set 2 = .ok (.invokevirtual 31, 3) := by decide +kernel
theorem dX7_set_5 : decode cX7_set 5 = .ok (.ifCond .eq 14, 3) := by decide +kernel
theorem dX7_set_8 : decode cX7_set 8 = .ok (.aload_n 0, 1) := by decide +kernel
theorem dX7_set_9 : decode cX7_set 9 = .ok (.getfield 9, 3) := by decide +kernel
theorem dX7_set_12 : decode cX7_set 12 = .ok (.iload_n 1, 1) := by decide +kernel
theorem dX7_set_13 : decode cX7_set 13 = .ok (.aload_n 0, 1) := by decide +kernel
theorem dX7_set_14 : decode cX7_set 14 = .ok (.iload_n 2, 1) := by decide +kernel
theorem dX7_set_15 : decode cX7_set 15 = .ok (.invokevirtual 35, 3) := by decide +kernel
theorem dX7_set_18 : decode cX7_set 18 = .ok (.iastore, 1) := by decide +kernel
theorem dX7_set_19 : decode cX7_set 19 = .ok (.return_, 1) := by decide +kernel
def f_X7_set (q_elements : Nat → Int32) (q_sort : Int32) (q_size : Int32) (p1 : Int32) (p2 : Int32) : Option ((Nat → Int32)) := ob (f_X7_hasPlace q_size p1) (fun r1 => if r1 = 0 then some q_elements else ob (f_X7_lowestBits q_sort p2) (fun r4 => gd (ix p1 100) (nm (upd q_elements p1.toNatClampNeg r4) (fun f7 => some f7))))
set_option maxHeartbeats 4000000 in
set_option maxRecDepth 100000 in
theorem c_X7_set (l : Launch) (E : EE) (q_h : Nat) (q_a0 : Nat) (q_elements : Nat → Int32) (q_holds : Int32) (q_kind : Int32) (q_figure : Int32) (q_sort : Int32) (q_size : Int32) (p1 : Int32) (p2 : Int32) (w_q_elements : Nat → Int32) (hv : f_X7_set q_elements q_sort q_size p1 p2 = some w_q_elements) : Wr l E yX7_set cX7_set 3 none ({ frames := 1, cells := 0, slots := 0, locals := 21 }) [.ref q_h, .int p1, .int p2] [oSh q_h q_a0 q_holds q_kind q_figure q_sort q_size, ai E q_a0 100 q_elements] [oSh q_h q_a0 q_holds q_kind q_figure q_sort q_size, ai E q_a0 100 w_q_elements] none := by
  refine Wr.intro RX7 (by decide) rfl (Nat.le_of_ble_eq_true rfl) ?_
  intro p e s m below meth c ls A hC hr hlk hmn hP hD hS hA hG hl
  obtain ⟨hx, hb, hml, hown, ht⟩ := id hC
  have hK := hG.1
  have hl : lv_has ls 3 [(0, .ref q_h), (1, .int p1), (2, .int p2)] := hl
  rw [f_X7_set] at hv
  refine lv_aload_n hx hb dX7_set_0 rfl (lv_at hl 0 rfl) ?_
  refine lv_iload_n hx hb dX7_set_1 rfl (lv_at hl 1 rfl) ?_
  obtain ⟨r1, h2, hv⟩ := ob_s hv
  refine rdV 1 0 (As := [.int p1]) (rest := []) (st1 := [.int r1]) (w := [oSh q_h q_a0 q_holds q_kind q_figure q_sort q_size, ai E q_a0 100 q_elements]) hC q_X7_hasPlace kw_1_188 (c_X7_hasPlace l E q_h q_a0 q_elements q_holds q_kind q_figure q_sort q_size p1 r1 h2) ⟨rfl, rfl⟩ ⟨Nat.le_of_ble_eq_true rfl, Nat.le_of_ble_eq_true rfl⟩ ⟨Nat.zero_le _, Nat.zero_le _⟩ hP rfl rfl rfl hG rfl hl.1 rfl (Nat.le_of_ble_eq_true rfl) dX7_set_2 rfl ?_
  refine lv_if_eq (tgt := 19) hx hb dX7_set_5 (by decide) (fun c3 => ?_) (fun c3 => ?_)
  · have hv := if_y c3 hv
    cases hv
    exact W.vret hx hb hr (fun t h9 _ => ⟨rfl, by rw [h9]; exact hP, hS.F h9⟩) hS.2.2 dX7_set_19 hlk
  · have hv := if_n c3 hv
    refine lv_aload_n hx hb dX7_set_8 rfl (lv_at hl 0 rfl) ?_
    refine va_get (D := E.1) (ci := 1) (v := .ref q_a0) (C := RX7) (T := TX7) (N := 6) hx hb ht i_X7 hown hK hP 0 rfl rfl 0 (by decide) (ht _ kw_1_111) (fun _ h9 => h9) rfl dX7_set_9 ?_
    refine lv_iload_n hx hb dX7_set_12 rfl (lv_at hl 1 rfl) ?_
    refine lv_aload_n hx hb dX7_set_13 rfl (lv_at hl 0 rfl) ?_
    refine lv_iload_n hx hb dX7_set_14 rfl (lv_at hl 2 rfl) ?_
    obtain ⟨r4, h5, hv⟩ := ob_s hv
    refine rdV 1 0 (As := [.int p2]) (rest := [.int p1, .ref q_a0]) (st1 := [.int r4, .int p1, .ref q_a0]) (w := [oSh q_h q_a0 q_holds q_kind q_figure q_sort q_size, ai E q_a0 100 q_elements]) hC q_X7_lowestBits kw_3_221 (c_X7_lowestBits l E q_h q_a0 q_elements q_holds q_kind q_figure q_sort q_size p2 r4 h5) ⟨rfl, rfl⟩ ⟨Nat.le_of_ble_eq_true rfl, Nat.le_of_ble_eq_true rfl⟩ ⟨Nat.zero_le _, Nat.zero_le _⟩ hP rfl rfl rfl hG rfl hl.1 rfl (Nat.le_of_ble_eq_true rfl) dX7_set_15 rfl ?_
    obtain ⟨g6, hv⟩ := gd_s hv
    refine va_iast hx hb hK hP hD hS 1 0 rfl rfl (ix_s g6) dX7_set_18 (fun H locs hP hD hS => ?_)
    have hP : va_P E.1 vwCl [oSh q_h q_a0 q_holds q_kind q_figure q_sort q_size, ai E q_a0 100 (upd q_elements p1.toNatClampNeg r4)] H := hP
    have hD : va_D A [oSh q_h q_a0 q_holds q_kind q_figure q_sort q_size, ai E q_a0 100 (upd q_elements p1.toNatClampNeg r4)] := hD
    obtain ⟨f7, ef7⟩ : ∃ z, z = (upd q_elements p1.toNatClampNeg r4) := ⟨_, rfl⟩
    rw [← ef7] at hP hD
    have hv := nm_s ef7 hv
    cases hv
    exact W.vret hx hb hr (fun t h9 _ => ⟨rfl, by rw [h9]; exact hP, hS.F h9⟩) hS.2.2 dX7_set_19 hlk
