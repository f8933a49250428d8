theorem dX2_isCrossing_0 : decode cX2_isCrossing 0 = .ok (.aload_n 0, 1) := by decide +kernel
theorem dX2_isCrossing_1 : decode cX2_isCrossing 1 = .ok (.iload_n 1, 1) := by decide +kernel
theorem dX2_isCrossing_2 : decode cX2_isCrossing 2 = .ok (.invokevirtual 25, 3) := by decide +kernel
theorem dX2_isCrossing_5 : decode cX2_isCrossing 5 = .ok (.iconst 3, 1) := by decide +kernel
theorem dX2_isCrossing_6 : decode cX2_isCrossing 6 = .ok (.if_icmp .ne 7, 3) := by decide +kernel
theorem dX2_isCrossing_9 : decode cX2_isCrossing 9 = .ok (.iconst 1, 1) := by decide +kernel
theorem dX2_isCrossing_10 : decode cX2_isCrossing 10 = .ok (.goto 4, 3) := by decide +kernel
theorem dX2_isCrossing_13 : decode cX2_isCrossing 13 = .ok (.iconst 0, 1) := by decide +kernel
theorem dX2_isCrossing_14 : decode cX2_isCrossing 14 = .ok (.ireturn, 1) := by decide +kernel
def f_X2_isCrossing (N : Nat) (a_rail : Nat → Int32) (a_people : Int32) (p1 : Int32) : Option (Int32) := ob (f_X8_sidesOf N a_rail a_people p1) (fun r1 => if r1 = (3 : Int32) then some (1 : Int32) else some (0 : Int32))
set_option maxHeartbeats 4000000 in
set_option maxRecDepth 100000 in
theorem c_X2_isCrossing (l : Launch) (E : EE) (a_h : Nat) (a_a0 : Nat) (a_a1 : Nat) (a_a2 : Nat) (a_a3 : Nat) (a_a4 : Nat) (a_a5 : Nat) (a_height : Nat → Int32) (a_kind : Nat → Int32) (a_figure : Nat → Int32) (a_rail : Nat → Int32) (a_mood : Nat → Int32) (a_sight : Nat → Int32) (a_moving : Int32) (a_shut : Int32) (a_people : Int32) (a_needed : Int32) (a_day : Int32) (p1 : Int32) (N : Nat) (res : Int32) (hv : f_X2_isCrossing N a_rail a_people p1 = some res) : Rd l E yX2_isCrossing cX2_isCrossing 2 (some .boolean) ({ frames := 2, cells := 0, slots := 0, locals := 44 }) [.ref a_h, .int p1] [oSt a_h a_a0 a_a1 a_a2 a_a3 a_a4 a_a5 a_moving a_shut a_people a_needed a_day, ai E a_a0 10 a_height, ai E a_a1 7 a_kind, ai E a_a2 7 a_figure, ai E a_a3 7 a_rail, ai E a_a4 7 a_mood, ai E a_a5 7 a_sight] (some (.int res)) := by
  refine Rd.intro RX2 (by decide) rfl (Nat.le_of_ble_eq_true rfl) ?_
  intro p e s m below meth c ls hC hr hlk hP hG hl
  obtain ⟨hx, hb, hml, hown, ht⟩ := id hC
  have hK := hG.1
  have hl : lv_has ls 2 [(0, .ref a_h), (1, .int p1)] := hl
  rw [f_X2_isCrossing] at hv
  refine lv_aload_n hx hb dX2_isCrossing_0 rfl (lv_at hl 0 rfl) ?_
  refine lv_iload_n hx hb dX2_isCrossing_1 rfl (lv_at hl 1 rfl) ?_
  obtain ⟨r1, h2, hv⟩ := ob_s hv
  refine rdV 2 0 (As := [.int p1]) (rest := []) (st1 := [.int r1]) (w := [oSt a_h a_a0 a_a1 a_a2 a_a3 a_a4 a_a5 a_moving a_shut a_people a_needed a_day, ai E a_a0 10 a_height, ai E a_a1 7 a_kind, ai E a_a2 7 a_figure, ai E a_a3 7 a_rail, ai E a_a4 7 a_mood, ai E a_a5 7 a_sight]) hC q_X8_sidesOf kw_2_194 (c_X8_sidesOf l E a_h a_a0 a_a1 a_a2 a_a3 a_a4 a_a5 a_height a_kind a_figure a_rail a_mood a_sight a_moving a_shut a_people a_needed a_day p1 N r1 h2) ⟨rfl, rfl⟩ ⟨Nat.le_of_ble_eq_true rfl, Nat.le_of_ble_eq_true rfl⟩ ⟨Nat.zero_le _, Nat.zero_le _⟩ hP rfl rfl rfl hG rfl hl.1 rfl (Nat.le_of_ble_eq_true rfl) dX2_isCrossing_2 rfl ?_
  refine lv_iconst (v := (3 : Int32)) hx hb dX2_isCrossing_5 (by decide) ?_
  refine lv_icmp_ne (tgt := 13) hx hb dX2_isCrossing_6 (by decide) (fun c3 => ?_) (fun c3 => ?_)
  · have hv := if_n c3 hv
    refine lv_iconst (v := (0 : Int32)) hx hb dX2_isCrossing_13 (by decide) ?_
    exact W.zret (v := (0 : Int32)) hx hb hr rfl (fun t h9 _ => ⟨rv_i hv, h9⟩) (fun q h => absurd h List.not_mem_nil) dX2_isCrossing_14 hlk
  · have hv := if_y c3 hv
    refine lv_iconst (v := (1 : Int32)) hx hb dX2_isCrossing_9 (by decide) ?_
    refine lv_goto (tgt := 14) hx hb dX2_isCrossing_10 (by decide) ?_
    exact W.zret (v := (1 : Int32)) hx hb hr rfl (fun t h9 _ => ⟨rv_i hv, h9⟩) (fun q h => absurd h List.not_mem_nil) dX2_isCrossing_14 hlk
theorem dX2_isEnough_0 : decode cX2_isEnough 0 = .ok (.aload_n 0, 1) := by decide +kernel
theorem dX2_isEnough_1 : decode cX2_isEnough 1 = .ok (.iload_n 1, 1) := by decide +kernel
theorem dX2_isEnough_2 : decode cX2_isEnough 2 = .ok (.invokestatic 9, 3) := by decide +kernel
theorem dX2_isEnough_5 : decode cX2_isEnough 5 = .ok (.ifCond .eq 19, 3) := by decide +kernel
theorem dX2_isEnough_8 : decode cX2_isEnough 8 = .ok (.aload_n 0, 1) := by decide +kernel
theorem dX2_isEnough_9 : decode cX2_isEnough 9 = .ok (.iload_n 1, 1) := by decide +kernel
theorem dX2_isEnough_10 : decode cX2_isEnough 10 = .ok (.invokevirtual 15, 3) := by decide +kernel
theorem dX2_isEnough_13 : decode cX2_isEnough 13 = .ok (.aload_n 0, 1) := by decide +kernel
theorem dX2_isEnough_14 : decode cX2_isEnough 14 = .ok (.getfield 21, 3) := by decide +kernel
theorem dX2_isEnough_17 : decode cX2_isEnough 17 = .ok (.if_icmp .lt 7, 3) := by decide +kernel
theorem dX2_isEnough_20 : decode cX2_isEnough 20 = .ok (.iconst 1, 1) := by decide +kernel
theorem dX2_isEnough_21 : decode cX2_isEnough 21 = .ok (.goto 4, 3) := by decide +kernel
theorem dX2_isEnough_24 : decode cX2_isEnough 24 = .ok (.iconst 0, 1) := by decide +kernel
theorem dX2_isEnough_25 : decode cX2_isEnough 25 = .ok (.ireturn, 1) := by decide +kernel
def f_X2_isEnough (N : Nat) (a_height : Nat → Int32) (a_kind : Nat → Int32) (a_figure : Nat → Int32) (a_rail : Nat → Int32) (a_people : Int32) (a_needed : Int32) (p1 : Int32) : Option (Int32) := ob (f_X2_isCrossing N a_rail a_people p1) (fun r1 => if r1 = 0 then some (0 : Int32) else ob (f_X8_weightOfAll N a_height a_kind a_figure a_rail a_people p1) (fun r4 => if r4 < a_needed then some (0 : Int32) else some (1 : Int32)))
set_option maxHeartbeats 4000000 in
set_option maxRecDepth 100000 in
theorem c_X2_isEnough (l : Launch) (E : EE) (a_h : Nat) (a_a0 : Nat) (a_a1 : Nat) (a_a2 : Nat) (a_a3 : Nat) (a_a4 : Nat) (a_a5 : Nat) (a_height : Nat → Int32) (a_kind : Nat → Int32) (a_figure : Nat → Int32) (a_rail : Nat → Int32) (a_mood : Nat → Int32) (a_sight : Nat → Int32) (a_moving : Int32) (a_shut : Int32) (a_people : Int32) (a_needed : Int32) (a_day : Int32) (p1 : Int32) (N : Nat) (res : Int32) (hv : f_X2_isEnough N a_height a_kind a_figure a_rail a_people a_needed p1 = some res) : Rd l E yX2_isEnough cX2_isEnough 2 (some .boolean) ({ frames := 3, cells := 0, slots := 0, locals := 66 }) [.ref a_h, .int p1] [oSt a_h a_a0 a_a1 a_a2 a_a3 a_a4 a_a5 a_moving a_shut a_people a_needed a_day, ai E a_a0 10 a_height, ai E a_a1 7 a_kind, ai E a_a2 7 a_figure, ai E a_a3 7 a_rail, ai E a_a4 7 a_mood, ai E a_a5 7 a_sight] (some (.int res)) := by
  refine Rd.intro RX2 (by decide) rfl (Nat.le_of_ble_eq_true rfl) ?_
  intro p e s m below meth c ls hC hr hlk hP hG hl
  obtain ⟨hx, hb, hml, hown, ht⟩ := id hC
  have hK := hG.1
  have hl : lv_has ls 2 [(0, .ref a_h), (1, .int p1)] := hl
  rw [f_X2_isEnough] at hv
  refine lv_aload_n hx hb dX2_isEnough_0 rfl (lv_at hl 0 rfl) ?_
  refine lv_iload_n hx hb dX2_isEnough_1 rfl (lv_at hl 1 rfl) ?_
  obtain ⟨r1, h2, hv⟩ := ob_s hv
  refine rdS (rest := []) (st1 := [.int r1]) (w := [oSt a_h a_a0 a_a1 a_a2 a_a3 a_a4 a_a5 a_moving a_shut a_people a_needed a_day, ai E a_a0 10 a_height, ai E a_a1 7 a_kind, ai E a_a2 7 a_figure, ai E a_a3 7 a_rail, ai E a_a4 7 a_mood, ai E a_a5 7 a_sight]) hC q_X2_isCrossing kw_2_191 (c_X2_isCrossing l E a_h a_a0 a_a1 a_a2 a_a3 a_a4 a_a5 a_height a_kind a_figure a_rail a_mood a_sight a_moving a_shut a_people a_needed a_day p1 N r1 h2) ⟨rfl, rfl⟩ ⟨Nat.le_of_ble_eq_true rfl, Nat.le_of_ble_eq_true rfl⟩ ⟨Nat.zero_le _, Nat.zero_le _⟩ hP hG rfl hl.1 rfl (Nat.le_of_ble_eq_true rfl) dX2_isEnough_2 rfl ?_
  refine lv_if_eq (tgt := 24) hx hb dX2_isEnough_5 (by decide) (fun c3 => ?_) (fun c3 => ?_)
  · have hv := if_y c3 hv
    refine lv_iconst (v := (0 : Int32)) hx hb dX2_isEnough_24 (by decide) ?_
    exact W.zret (v := (0 : Int32)) hx hb hr rfl (fun t h9 _ => ⟨rv_i hv, h9⟩) (fun q h => absurd h List.not_mem_nil) dX2_isEnough_25 hlk
  · have hv := if_n c3 hv
    refine lv_aload_n hx hb dX2_isEnough_8 rfl (lv_at hl 0 rfl) ?_
    refine lv_iload_n hx hb dX2_isEnough_9 rfl (lv_at hl 1 rfl) ?_
    obtain ⟨r4, h5, hv⟩ := ob_s hv
    refine rdV 2 0 (As := [.int p1]) (rest := []) (st1 := [.int r4]) (w := [oSt a_h a_a0 a_a1 a_a2 a_a3 a_a4 a_a5 a_moving a_shut a_people a_needed a_day, ai E a_a0 10 a_height, ai E a_a1 7 a_kind, ai E a_a2 7 a_figure, ai E a_a3 7 a_rail, ai E a_a4 7 a_mood, ai E a_a5 7 a_sight]) hC q_X8_weightOfAll kw_2_195 (c_X8_weightOfAll l E a_h a_a0 a_a1 a_a2 a_a3 a_a4 a_a5 a_height a_kind a_figure a_rail a_mood a_sight a_moving a_shut a_people a_needed a_day p1 N r4 h5) ⟨rfl, rfl⟩ ⟨Nat.le_of_ble_eq_true rfl, Nat.le_of_ble_eq_true rfl⟩ ⟨Nat.zero_le _, Nat.zero_le _⟩ hP rfl rfl rfl hG rfl hl.1 rfl (Nat.le_of_ble_eq_true rfl) dX2_isEnough_10 rfl ?_
    refine lv_aload_n hx hb dX2_isEnough_13 rfl (lv_at hl 0 rfl) ?_
    refine va_get (D := E.1) (ci := 2) (v := .int a_needed) (C := RX8) (T := TX8) (N := 11) hx hb ht i_X8 hown hK hP 0 rfl rfl 9 (by decide) (ht _ kw_1_57) (fun _ h9 => h9) rfl dX2_isEnough_14 ?_
    refine lv_icmp_lt (tgt := 24) hx hb dX2_isEnough_17 (by decide) (fun c6 => ?_) (fun c6 => ?_)
    · have hv := if_y c6 hv
      refine lv_iconst (v := (0 : Int32)) hx hb dX2_isEnough_24 (by decide) ?_
      exact W.zret (v := (0 : Int32)) hx hb hr rfl (fun t h9 _ => ⟨rv_i hv, h9⟩) (fun q h => absurd h List.not_mem_nil) dX2_isEnough_25 hlk
    · have hv := if_n c6 hv
      refine lv_iconst (v := (1 : Int32)) hx hb dX2_isEnough_20 (by decide) ?_
      refine lv_goto (tgt := 25) hx hb dX2_isEnough_21 (by decide) ?_
      exact W.zret (v := (1 : Int32)) hx hb hr rfl (fun t h9 _ => ⟨rv_i hv, h9⟩) (fun q h => absurd h List.not_mem_nil) dX2_isEnough_25 hlk
theorem dX2_isTurnedBy_0 : decode cX2_isTurnedBy 0 = .ok (.iload_n 1, 1) := by decide +kernel
theorem dX2_isTurnedBy_1 : decode cX2_isTurnedBy 1 = .ok (.iload_n 2, 1) := by decide +kernel
theorem dX2_isTurnedBy_2 : decode cX2_isTurnedBy 2 = .ok (.invokestatic 28, 3) := by decide +kernel
theorem dX2_isTurnedBy_5 : decode cX2_isTurnedBy 5 = .ok (.ifCond .eq 29, 3) := by decide +kernel
theorem dX2_isTurnedBy_8 : decode cX2_isTurnedBy 8 = .ok (.aload_n 0, 1) := by decide +kernel
theorem dX2_isTurnedBy_9 : decode cX2_isTurnedBy 9 = .ok (.iload_n 1, 1) := by decide +kernel
theorem dX2_isTurnedBy_10 : decode cX2_isTurnedBy 10 = .ok (.invokestatic 32, 3) := by decide +kernel
theorem dX2_isTurnedBy_13 : decode cX2_isTurnedBy 13 = .ok (.ifCond .eq 21, 3) := by decide +kernel
theorem dX2_isTurnedBy_16 : decode cX2_isTurnedBy 16 = .ok (.aload_n 0, 1) := by decide +kernel
theorem dX2_isTurnedBy_17 : decode cX2_isTurnedBy 17 = .ok (.iload_n 1, 1) := by decide +kernel
theorem dX2_isTurnedBy_18 : decode cX2_isTurnedBy 18 = .ok (.iconst 1, 1) := by decide +kernel
theorem dX2_isTurnedBy_19 : decode cX2_isTurnedBy 19 = .ok (.iload_n 2, 1) := by decide +kernel
theorem dX2_isTurnedBy_20 : decode cX2_isTurnedBy 20 = .ok (.ishl, 1) := by decide +kernel
theorem dX2_isTurnedBy_21 : decode cX2_isTurnedBy 21 = .ok (.iconst (-1), 1) := by decide +kernel
theorem dX2_isTurnedBy_22 : decode cX2_isTurnedBy 22 = .ok (.ixor, 1) := by decide +kernel
theorem dX2_isTurnedBy_23 : decode cX2_isTurnedBy 23 = .ok (.iand, 1) := by decide +kernel
theorem dX2_isTurnedBy_24 : decode cX2_isTurnedBy 24 = .ok (.invokestatic 32, 3) := by decide +kernel
theorem dX2_isTurnedBy_27 : decode cX2_isTurnedBy 27 = .ok (.ifCond .ne 7, 3) := by decide +kernel
theorem dX2_isTurnedBy_30 : decode cX2_isTurnedBy 30 = .ok (.iconst 1, 1) := by decide +kernel
theorem dX2_isTurnedBy_31 : decode cX2_isTurnedBy 31 = .ok (.goto 4, 3) := by decide +kernel
theorem dX2_isTurnedBy_34 : decode cX2_isTurnedBy 34 = .ok (.iconst 0, 1) := by decide +kernel
theorem dX2_isTurnedBy_35 : decode cX2_isTurnedBy 35 = .ok (.ireturn, 1) := by decide +kernel
def f_X2_isTurnedBy (N : Nat) (a_height : Nat → Int32) (a_kind : Nat → Int32) (a_figure : Nat → Int32) (a_rail : Nat → Int32) (a_people : Int32) (a_needed : Int32) (p1 : Int32) (p2 : Int32) : Option (Int32) := ob (f_X9_isIn p1 p2) (fun r1 => if r1 = 0 then some (0 : Int32) else ob (f_X2_isEnough N a_height a_kind a_figure a_rail a_people a_needed p1) (fun r4 => if r4 = 0 then some (0 : Int32) else ob (f_X2_isEnough N a_height a_kind a_figure a_rail a_people a_needed (p1 &&& (((1 : Int32) <<< (p2 &&& 31)) ^^^ (-1 : Int32)))) (fun r7 => if r7 = 0 then some (1 : Int32) else some (0 : Int32))))
set_option maxHeartbeats 4000000 in
set_option maxRecDepth 100000 in
theorem c_X2_isTurnedBy (l : Launch) (E : EE) (a_h : Nat) (a_a0 : Nat) (a_a1 : Nat) (a_a2 : Nat) (a_a3 : Nat) (a_a4 : Nat) (a_a5 : Nat) (a_height : Nat → Int32) (a_kind : Nat → Int32) (a_figure : Nat → Int32) (a_rail : Nat → Int32) (a_mood : Nat → Int32) (a_sight : Nat → Int32) (a_moving : Int32) (a_shut : Int32) (a_people : Int32) (a_needed : Int32) (a_day : Int32) (p1 : Int32) (p2 : Int32) (N : Nat) (res : Int32) (hv : f_X2_isTurnedBy N a_height a_kind a_figure a_rail a_people a_needed p1 p2 = some res) : Rd l E yX2_isTurnedBy cX2_isTurnedBy 3 (some .boolean) ({ frames := 4, cells := 0, slots := 0, locals := 87 }) [.ref a_h, .int p1, .int p2] [oSt a_h a_a0 a_a1 a_a2 a_a3 a_a4 a_a5 a_moving a_shut a_people a_needed a_day, ai E a_a0 10 a_height, ai E a_a1 7 a_kind, ai E a_a2 7 a_figure, ai E a_a3 7 a_rail, ai E a_a4 7 a_mood, ai E a_a5 7 a_sight] (some (.int res)) := by
  refine Rd.intro RX2 (by decide) rfl (Nat.le_of_ble_eq_true rfl) ?_
  intro p e s m below meth c ls hC hr hlk hP hG hl
  obtain ⟨hx, hb, hml, hown, ht⟩ := id hC
  have hK := hG.1
  have hl : lv_has ls 3 [(0, .ref a_h), (1, .int p1), (2, .int p2)] := hl
  rw [f_X2_isTurnedBy] at hv
  refine lv_iload_n hx hb dX2_isTurnedBy_0 rfl (lv_at hl 1 rfl) ?_
  refine lv_iload_n hx hb dX2_isTurnedBy_1 rfl (lv_at hl 2 rfl) ?_
  obtain ⟨r1, h2, hv⟩ := ob_s hv
  refine rdSN (rest := []) (st1 := [.int r1]) (w := []) hC q_X9_isIn (List.mem_of_getElem? (i := 6) rfl) (c_X9_isIn l E p1 p2 r1 h2) ⟨rfl, rfl⟩ ⟨Nat.le_of_ble_eq_true rfl, Nat.le_of_ble_eq_true rfl⟩ ⟨Nat.zero_le _, Nat.zero_le _⟩ (hP.sub (ws' := []) [] rfl) hG rfl hl.1 rfl (Nat.le_of_ble_eq_true rfl) dX2_isTurnedBy_2 rfl ?_
  refine lv_if_eq (tgt := 34) hx hb dX2_isTurnedBy_5 (by decide) (fun c3 => ?_) (fun c3 => ?_)
  · have hv := if_y c3 hv
    refine lv_iconst (v := (0 : Int32)) hx hb dX2_isTurnedBy_34 (by decide) ?_
    exact W.zret (v := (0 : Int32)) hx hb hr rfl (fun t h9 _ => ⟨rv_i hv, h9⟩) (fun q h => absurd h List.not_mem_nil) dX2_isTurnedBy_35 hlk
  · have hv := if_n c3 hv
    refine lv_aload_n hx hb dX2_isTurnedBy_8 rfl (lv_at hl 0 rfl) ?_
    refine lv_iload_n hx hb dX2_isTurnedBy_9 rfl (lv_at hl 1 rfl) ?_
    obtain ⟨r4, h5, hv⟩ := ob_s hv
    refine rdS (rest := []) (st1 := [.int r4]) (w := [oSt a_h a_a0 a_a1 a_a2 a_a3 a_a4 a_a5 a_moving a_shut a_people a_needed a_day, ai E a_a0 10 a_height, ai E a_a1 7 a_kind, ai E a_a2 7 a_figure, ai E a_a3 7 a_rail, ai E a_a4 7 a_mood, ai E a_a5 7 a_sight]) hC q_X2_isEnough kw_2_210 (c_X2_isEnough l E a_h a_a0 a_a1 a_a2 a_a3 a_a4 a_a5 a_height a_kind a_figure a_rail a_mood a_sight a_moving a_shut a_people a_needed a_day p1 N r4 h5) ⟨rfl, rfl⟩ ⟨Nat.le_of_ble_eq_true rfl, Nat.le_of_ble_eq_true rfl⟩ ⟨Nat.zero_le _, Nat.zero_le _⟩ hP hG rfl hl.1 rfl (Nat.le_of_ble_eq_true rfl) dX2_isTurnedBy_10 rfl ?_
    refine lv_if_eq (tgt := 34) hx hb dX2_isTurnedBy_13 (by decide) (fun c6 => ?_) (fun c6 => ?_)
    · have hv := if_y c6 hv
      refine lv_iconst (v := (0 : Int32)) hx hb dX2_isTurnedBy_34 (by decide) ?_
      exact W.zret (v := (0 : Int32)) hx hb hr rfl (fun t h9 _ => ⟨rv_i hv, h9⟩) (fun q h => absurd h List.not_mem_nil) dX2_isTurnedBy_35 hlk
    · have hv := if_n c6 hv
      refine lv_aload_n hx hb dX2_isTurnedBy_16 rfl (lv_at hl 0 rfl) ?_
      refine lv_iload_n hx hb dX2_isTurnedBy_17 rfl (lv_at hl 1 rfl) ?_
      refine lv_iconst (v := (1 : Int32)) hx hb dX2_isTurnedBy_18 (by decide) ?_
      refine lv_iload_n hx hb dX2_isTurnedBy_19 rfl (lv_at hl 2 rfl) ?_
      refine lv_ishl hx hb dX2_isTurnedBy_20 ?_
      refine lv_iconst (v := (-1 : Int32)) hx hb dX2_isTurnedBy_21 (by decide) ?_
      refine lv_ixor hx hb dX2_isTurnedBy_22 ?_
      refine lv_iand hx hb dX2_isTurnedBy_23 ?_
      obtain ⟨r7, h8, hv⟩ := ob_s hv
      refine rdS (rest := []) (st1 := [.int r7]) (w := [oSt a_h a_a0 a_a1 a_a2 a_a3 a_a4 a_a5 a_moving a_shut a_people a_needed a_day, ai E a_a0 10 a_height, ai E a_a1 7 a_kind, ai E a_a2 7 a_figure, ai E a_a3 7 a_rail, ai E a_a4 7 a_mood, ai E a_a5 7 a_sight]) hC q_X2_isEnough kw_2_210 (c_X2_isEnough l E a_h a_a0 a_a1 a_a2 a_a3 a_a4 a_a5 a_height a_kind a_figure a_rail a_mood a_sight a_moving a_shut a_people a_needed a_day (p1 &&& (((1 : Int32) <<< (p2 &&& 31)) ^^^ (-1 : Int32))) N r7 h8) ⟨rfl, rfl⟩ ⟨Nat.le_of_ble_eq_true rfl, Nat.le_of_ble_eq_true rfl⟩ ⟨Nat.zero_le _, Nat.zero_le _⟩ hP hG rfl hl.1 rfl (Nat.le_of_ble_eq_true rfl) dX2_isTurnedBy_24 rfl ?_
      refine lv_if_ne (tgt := 34) hx hb dX2_isTurnedBy_27 (by decide) (fun c9 => ?_) (fun c9 => ?_)
      · have hv := if_n c9 hv
        refine lv_iconst (v := (0 : Int32)) hx hb dX2_isTurnedBy_34 (by decide) ?_
        exact W.zret (v := (0 : Int32)) hx hb hr rfl (fun t h9 _ => ⟨rv_i hv, h9⟩) (fun q h => absurd h List.not_mem_nil) dX2_isTurnedBy_35 hlk
      · have hv := if_y c9 hv
        refine lv_iconst (v := (1 : Int32)) hx hb dX2_isTurnedBy_30 (by decide) ?_
        refine lv_goto (tgt := 35) hx hb dX2_isTurnedBy_31 (by decide) ?_
        exact W.zret (v := (1 : Int32)) hx hb hr rfl (fun t h9 _ => ⟨rv_i hv, h9⟩) (fun q h => absurd h List.not_mem_nil) dX2_isTurnedBy_35 hlk
theorem dX2_smallest_0 : decode cX2_smallest 0 = .ok (.aload_n 0, 1) := by decide +kernel
theorem dX2_smallest_1 : decode cX2_smallest 1 = .ok (.invokevirtual 40, 3) := by decide +kernel
theorem dX2_smallest_4 : decode cX2_smallest 4 = .ok (.istore_n 1, 1) := by decide +kernel
theorem dX2_smallest_5 : decode cX2_smallest 5 = .ok (.bipush (-4), 2) := by decide +kernel
theorem dX2_smallest_7 : decode cX2_smallest 7 = .ok (.istore_n 2, 1) := by decide +kernel
theorem dX2_smallest_8 : decode cX2_smallest 8 = .ok (.iconst 0, 1) := by decide +kernel
theorem dX2_smallest_9 : decode cX2_smallest 9 = .ok (.istore_n 3, 1) := by decide +kernel
theorem dX2_smallest_10 : decode cX2_smallest 10 = .ok (.iload_n 3, 1) := by decide +kernel
theorem dX2_smallest_11 : decode cX2_smallest 11 = .ok (.iload_n 1, 1) := by decide +kernel
theorem dX2_smallest_12 : decode cX2_smallest 12 = .ok (.if_icmp .gt 35, 3) := by decide +kernel
theorem dX2_smallest_15 : decode cX2_smallest 15 = .ok (.iload_n 3, 1) := by decide +kernel
theorem dX2_smallest_16 : decode cX2_smallest 16 = .ok (.iload_n 1, 1) := by decide +kernel
theorem dX2_smallest_17 : decode cX2_smallest 17 = .ok (.iconst (-1), 1) := by decide +kernel
theorem dX2_smallest_18 : decode cX2_smallest 18 = .ok (.ixor, 1) := by decide +kernel
theorem dX2_smallest_19 : decode cX2_smallest 19 = .ok (.iand, 1) := by decide +kernel
theorem dX2_smallest_20 : decode cX2_smallest 20 = .ok (.ifCond .ne 21, 3) := by decide +kernel
theorem dX2_smallest_23 : decode cX2_smallest 23 = .ok (.iload_n 3, 1) := by decide +kernel
theorem dX2_smallest_24 : decode cX2_smallest 24 = .ok (.iload_n 2, 1) := by decide +kernel
theorem dX2_smallest_25 : decode cX2_smallest 25 = .ok (.invokestatic 44, 3) := by decide +kernel
theorem dX2_smallest_28 : decode cX2_smallest 28 = .ok (.ifCond .eq 13, 3) := by decide +kernel
theorem dX2_smallest_31 : decode cX2_smallest 31 = .ok (.aload_n 0, 1) := by decide +kernel
theorem dX2_smallest_32 : decode cX2_smallest 32 = .ok (.iload_n 3, 1) := by decide +kernel
theorem dX2_smallest_33 : decode cX2_smallest 33 = .ok (.invokestatic 32, 3) := by decide +kernel
theorem dX2_smallest_36 : decode cX2_smallest 36 = .ok (.ifCond .eq 5, 3) := by decide +kernel
theorem dX2_smallest_39 : decode cX2_smallest 39 = .ok (.iload_n 3, 1) := by decide +kernel
theorem dX2_smallest_40 : decode cX2_smallest 40 = .ok (.istore_n 2, 1) := by decide +kernel
theorem dX2_smallest_41 : decode cX2_smallest 41 = .ok (.iinc 3 1, 3) := by decide +kernel
theorem dX2_smallest_44 : decode cX2_smallest 44 = .ok (.goto (-34), 3) := by decide +kernel
theorem dX2_smallest_47 : decode cX2_smallest 47 = .ok (.iload_n 2, 1) := by decide +kernel
theorem dX2_smallest_48 : decode cX2_smallest 48 = .ok (.ireturn, 1) := by decide +kernel
def L_X2_smallest_10 (N : Nat) (a_height : Nat → Int32) (a_kind : Nat → Int32) (a_figure : Nat → Int32) (a_rail : Nat → Int32) (a_people : Int32) (a_needed : Int32) (r1 : Int32) : Nat → Int32 → Int32 → Option (Int32)
  | 0, _, _ => none
  | n10 + 1, x3, x4 => if r1 < x3 then some x4 else if (x3 &&& (r1 ^^^ (-1 : Int32))) = 0 then ob (f_X2_isFewer x3 x4) (fun r7 => if r7 = 0 then L_X2_smallest_10 N a_height a_kind a_figure a_rail a_people a_needed r1 n10 (x3 + (1 : Int32)) x4 else ob (f_X2_isEnough N a_height a_kind a_figure a_rail a_people a_needed x3) (fun r10 => if r10 = 0 then L_X2_smallest_10 N a_height a_kind a_figure a_rail a_people a_needed r1 n10 (x3 + (1 : Int32)) x4 else L_X2_smallest_10 N a_height a_kind a_figure a_rail a_people a_needed r1 n10 (x3 + (1 : Int32)) x3)) else L_X2_smallest_10 N a_height a_kind a_figure a_rail a_people a_needed r1 n10 (x3 + (1 : Int32)) x4
def f_X2_smallest (N : Nat) (a_height : Nat → Int32) (a_kind : Nat → Int32) (a_figure : Nat → Int32) (a_rail : Nat → Int32) (a_shut : Int32) (a_people : Int32) (a_needed : Int32) : Option (Int32) := ob (f_X8_heardOnes N a_rail a_shut a_people) (fun r1 => L_X2_smallest_10 N a_height a_kind a_figure a_rail a_people a_needed r1 N (0 : Int32) (-4 : Int32))
set_option maxHeartbeats 4000000 in
set_option maxRecDepth 100000 in
theorem c_X2_smallest (l : Launch) (E : EE) (a_h : Nat) (a_a0 : Nat) (a_a1 : Nat) (a_a2 : Nat) (a_a3 : Nat) (a_a4 : Nat) (a_a5 : Nat) (a_height : Nat → Int32) (a_kind : Nat → Int32) (a_figure : Nat → Int32) (a_rail : Nat → Int32) (a_mood : Nat → Int32) (a_sight : Nat → Int32) (a_moving : Int32) (a_shut : Int32) (a_people : Int32) (a_needed : Int32) (a_day : Int32) (N : Nat) (res : Int32) (hv : f_X2_smallest N a_height a_kind a_figure a_rail a_shut a_people a_needed = some res) : Rd l E yX2_smallest cX2_smallest 4 (some .int) ({ frames := 4, cells := 0, slots := 0, locals := 87 }) [.ref a_h] [oSt a_h a_a0 a_a1 a_a2 a_a3 a_a4 a_a5 a_moving a_shut a_people a_needed a_day, ai E a_a0 10 a_height, ai E a_a1 7 a_kind, ai E a_a2 7 a_figure, ai E a_a3 7 a_rail, ai E a_a4 7 a_mood, ai E a_a5 7 a_sight] (some (.int res)) := by
  refine Rd.intro RX2 (by decide) rfl (Nat.le_of_ble_eq_true rfl) ?_
  intro p e s m below meth c ls hC hr hlk hP hG hl
  obtain ⟨hx, hb, hml, hown, ht⟩ := id hC
  have hK := hG.1
  have hl : lv_has ls 4 [(0, .ref a_h)] := hl
  rw [f_X2_smallest] at hv
  refine lv_aload_n hx hb dX2_smallest_0 rfl (lv_at hl 0 rfl) ?_
  obtain ⟨r1, h2, hv⟩ := ob_s hv
  refine rdV 2 0 (As := []) (rest := []) (st1 := [.int r1]) (w := [oSt a_h a_a0 a_a1 a_a2 a_a3 a_a4 a_a5 a_moving a_shut a_people a_needed a_day, ai E a_a0 10 a_height, ai E a_a1 7 a_kind, ai E a_a2 7 a_figure, ai E a_a3 7 a_rail, ai E a_a4 7 a_mood, ai E a_a5 7 a_sight]) hC q_X8_heardOnes kw_2_204 (c_X8_heardOnes l E a_h a_a0 a_a1 a_a2 a_a3 a_a4 a_a5 a_height a_kind a_figure a_rail a_mood a_sight a_moving a_shut a_people a_needed a_day N r1 h2) ⟨rfl, rfl⟩ ⟨Nat.le_of_ble_eq_true rfl, Nat.le_of_ble_eq_true rfl⟩ ⟨Nat.zero_le _, Nat.zero_le _⟩ hP rfl rfl rfl hG rfl hl.1 rfl (Nat.le_of_ble_eq_true rfl) dX2_smallest_1 rfl ?_
  refine lv_istore_n (lv' := [(1, .int r1), (0, .ref a_h)]) hx hb dX2_smallest_4 rfl hl (by decide) rfl (fun ls hl => ?_)
  refine lv_bipush (v := (-4 : Int32)) hx hb dX2_smallest_5 (by decide) ?_
  refine lv_istore_n (lv' := [(2, .int (-4 : Int32)), (1, .int r1), (0, .ref a_h)]) hx hb dX2_smallest_7 rfl hl (by decide) rfl (fun ls hl => ?_)
  refine lv_iconst (v := (0 : Int32)) hx hb dX2_smallest_8 (by decide) ?_
  refine lv_istore_n (lv' := [(3, .int (0 : Int32)), (2, .int (-4 : Int32)), (1, .int r1), (0, .ref a_h)]) hx hb dX2_smallest_9 rfl hl (by decide) rfl (fun ls hl => ?_)
  have hL10 : ∀ (n : Nat) (x3 : Int32) (x4 : Int32) (ls : Array Slot), lv_has ls 4 [(3, .int x3), (2, .int x4), (1, .int r1), (0, .ref a_h)] → L_X2_smallest_10 N a_height a_kind a_figure a_rail a_people a_needed r1 n x3 x4 = some res → W p l e ({ frames := 4, cells := 0, slots := 0, locals := 87 }) s m [.ref a_h].toArray below meth c s.heap [] 0 0 (MQ below (RdQ (some (.int res))) [.ref a_h].toArray s 0 0 (fun _ => False)) (F0 m 10 ls []) := by
    intro n
    induction n with
    | zero => intro x3 x4 ls hl hv; cases hv
    | succ n10 ih10 =>
      intro x3 x4 ls hl hv
      rw [L_X2_smallest_10] at hv
      refine lv_iload_n hx hb dX2_smallest_10 rfl (lv_at hl 0 rfl) ?_
      refine lv_iload_n hx hb dX2_smallest_11 rfl (lv_at hl 2 rfl) ?_
      refine lv_icmp_gt (tgt := 47) hx hb dX2_smallest_12 (by decide) (fun c5 => ?_) (fun c5 => ?_)
      · have hv := if_y c5 hv
        refine lv_iload_n hx hb dX2_smallest_47 rfl (lv_at hl 1 rfl) ?_
        exact W.iret (v := x4) hx hb hr (fun t h9 _ => ⟨rv_i hv, h9⟩) (fun q h => absurd h List.not_mem_nil) dX2_smallest_48 hlk
      · have hv := if_n c5 hv
        refine lv_iload_n hx hb dX2_smallest_15 rfl (lv_at hl 0 rfl) ?_
        refine lv_iload_n hx hb dX2_smallest_16 rfl (lv_at hl 2 rfl) ?_
        refine lv_iconst (v := (-1 : Int32)) hx hb dX2_smallest_17 (by decide) ?_
        refine lv_ixor hx hb dX2_smallest_18 ?_
        refine lv_iand hx hb dX2_smallest_19 ?_
        refine lv_if_ne (tgt := 41) hx hb dX2_smallest_20 (by decide) (fun c6 => ?_) (fun c6 => ?_)
        · have hv := if_n c6 hv
          refine lv_iinc (v := (x3 + (1 : Int32))) (lv' := [(3, .int (x3 + (1 : Int32))), (2, .int x4), (1, .int r1), (0, .ref a_h)]) hx hb dX2_smallest_41 hl (k := 0) rfl rfl (by decide) rfl (fun ls hl => ?_)
          refine lv_goto (tgt := 10) hx hb dX2_smallest_44 (by decide) ?_
          exact ih10 (x3 + (1 : Int32)) x4 _ (lv_sub hl [0, 1, 2, 3] rfl) hv
        · have hv := if_y c6 hv
          refine lv_iload_n hx hb dX2_smallest_23 rfl (lv_at hl 0 rfl) ?_
          refine lv_iload_n hx hb dX2_smallest_24 rfl (lv_at hl 1 rfl) ?_
          obtain ⟨r7, h8, hv⟩ := ob_s hv
          refine rdS (rest := []) (st1 := [.int r7]) (w := []) hC q_X2_isFewer kw_2_233 (c_X2_isFewer l E x3 x4 r7 h8) ⟨rfl, rfl⟩ ⟨Nat.le_of_ble_eq_true rfl, Nat.le_of_ble_eq_true rfl⟩ ⟨Nat.zero_le _, Nat.zero_le _⟩ (hP.sub (ws' := []) [] rfl) hG rfl hl.1 rfl (Nat.le_of_ble_eq_true rfl) dX2_smallest_25 rfl ?_
          refine lv_if_eq (tgt := 41) hx hb dX2_smallest_28 (by decide) (fun c9 => ?_) (fun c9 => ?_)
          · have hv := if_y c9 hv
            refine lv_iinc (v := (x3 + (1 : Int32))) (lv' := [(3, .int (x3 + (1 : Int32))), (2, .int x4), (1, .int r1), (0, .ref a_h)]) hx hb dX2_smallest_41 hl (k := 0) rfl rfl (by decide) rfl (fun ls hl => ?_)
            refine lv_goto (tgt := 10) hx hb dX2_smallest_44 (by decide) ?_
            exact ih10 (x3 + (1 : Int32)) x4 _ (lv_sub hl [0, 1, 2, 3] rfl) hv
          · have hv := if_n c9 hv
            refine lv_aload_n hx hb dX2_smallest_31 rfl (lv_at hl 3 rfl) ?_
            refine lv_iload_n hx hb dX2_smallest_32 rfl (lv_at hl 0 rfl) ?_
            obtain ⟨r10, h11, hv⟩ := ob_s hv
            refine rdS (rest := []) (st1 := [.int r10]) (w := [oSt a_h a_a0 a_a1 a_a2 a_a3 a_a4 a_a5 a_moving a_shut a_people a_needed a_day, ai E a_a0 10 a_height, ai E a_a1 7 a_kind, ai E a_a2 7 a_figure, ai E a_a3 7 a_rail, ai E a_a4 7 a_mood, ai E a_a5 7 a_sight]) hC q_X2_isEnough kw_2_210 (c_X2_isEnough l E a_h a_a0 a_a1 a_a2 a_a3 a_a4 a_a5 a_height a_kind a_figure a_rail a_mood a_sight a_moving a_shut a_people a_needed a_day x3 N r10 h11) ⟨rfl, rfl⟩ ⟨Nat.le_of_ble_eq_true rfl, Nat.le_of_ble_eq_true rfl⟩ ⟨Nat.zero_le _, Nat.zero_le _⟩ hP hG rfl hl.1 rfl (Nat.le_of_ble_eq_true rfl) dX2_smallest_33 rfl ?_
            refine lv_if_eq (tgt := 41) hx hb dX2_smallest_36 (by decide) (fun c12 => ?_) (fun c12 => ?_)
            · have hv := if_y c12 hv
              refine lv_iinc (v := (x3 + (1 : Int32))) (lv' := [(3, .int (x3 + (1 : Int32))), (2, .int x4), (1, .int r1), (0, .ref a_h)]) hx hb dX2_smallest_41 hl (k := 0) rfl rfl (by decide) rfl (fun ls hl => ?_)
              refine lv_goto (tgt := 10) hx hb dX2_smallest_44 (by decide) ?_
              exact ih10 (x3 + (1 : Int32)) x4 _ (lv_sub hl [0, 1, 2, 3] rfl) hv
            · have hv := if_n c12 hv
              refine lv_iload_n hx hb dX2_smallest_39 rfl (lv_at hl 0 rfl) ?_
              refine lv_istore_n (lv' := [(2, .int x3), (3, .int x3), (1, .int r1), (0, .ref a_h)]) hx hb dX2_smallest_40 rfl hl (by decide) rfl (fun ls hl => ?_)
              refine lv_iinc (v := (x3 + (1 : Int32))) (lv' := [(3, .int (x3 + (1 : Int32))), (2, .int x3), (1, .int r1), (0, .ref a_h)]) hx hb dX2_smallest_41 hl (k := 1) rfl rfl (by decide) rfl (fun ls hl => ?_)
              refine lv_goto (tgt := 10) hx hb dX2_smallest_44 (by decide) ?_
              exact ih10 (x3 + (1 : Int32)) x3 _ (lv_sub hl [0, 1, 2, 3] rfl) hv
  exact hL10 N (0 : Int32) (-4 : Int32) _ (lv_sub hl [0, 1, 2, 3] rfl) hv
theorem dX2_isLeast_0 : decode cX2_isLeast 0 = .ok (.aload_n 0, 1) := by decide +kernel
theorem dX2_isLeast_1 : decode cX2_isLeast 1 = .ok (.iload_n 1, 1) := by decide +kernel
theorem dX2_isLeast_2 : decode cX2_isLeast 2 = .ok (.invokestatic 32, 3) := by decide +kernel
theorem dX2_isLeast_5 : decode cX2_isLeast 5 = .ok (.ifCond .ne 5, 3) := by decide +kernel
theorem dX2_isLeast_8 : decode cX2_isLeast 8 = .ok (.iconst 0, 1) := by decide +kernel
theorem dX2_isLeast_9 : decode cX2_isLeast 9 = .ok (.ireturn, 1) := by decide +kernel
theorem dX2_isLeast_10 : decode cX2_isLeast 10 = .ok (.iconst 0, 1) := by decide +kernel
theorem dX2_isLeast_11 : decode cX2_isLeast 11 = .ok (.istore_n 2, 1) := by decide +kernel
theorem dX2_isLeast_12 : decode cX2_isLeast 12 = .ok (.iload_n 2, 1) := by decide +kernel
theorem dX2_isLeast_13 : decode cX2_isLeast 13 = .ok (.aload_n 0, 1) := by decide +kernel
theorem dX2_isLeast_14 : decode cX2_isLeast 14 = .ok (.getfield 50, 3) := by decide +kernel
theorem dX2_isLeast_17 : decode cX2_isLeast 17 = .ok (.if_icmp .ge 33, 3) := by decide +kernel
theorem dX2_isLeast_20 : decode cX2_isLeast 20 = .ok (.iload_n 1, 1) := by decide +kernel
theorem dX2_isLeast_21 : decode cX2_isLeast 21 = .ok (.iload_n 2, 1) := by decide +kernel
theorem dX2_isLeast_22 : decode cX2_isLeast 22 = .ok (.invokestatic 28, 3) := by decide +kernel
theorem dX2_isLeast_25 : decode cX2_isLeast 25 = .ok (.ifCond .eq 19, 3) := by decide +kernel
theorem dX2_isLeast_28 : decode cX2_isLeast 28 = .ok (.aload_n 0, 1) := by decide +kernel
theorem dX2_isLeast_29 : decode cX2_isLeast 29 = .ok (.iload_n 1, 1) := by decide +kernel
theorem dX2_isLeast_30 : decode cX2_isLeast 30 = .ok (.iconst 1, 1) := by decide +kernel
theorem dX2_isLeast_31 : decode cX2_isLeast 31 = .ok (.iload_n 2, 1) := by decide +kernel
theorem dX2_isLeast_32 : decode cX2_isLeast 32 = .ok (.ishl, 1) := by decide +kernel
theorem dX2_isLeast_33 : decode cX2_isLeast 33 = .ok (.iconst (-1), 1) := by decide +kernel
theorem dX2_isLeast_34 : decode cX2_isLeast 34 = .ok (.ixor, 1) := by decide +kernel
theorem dX2_isLeast_35 : decode cX2_isLeast 35 = .ok (.iand, 1) := by decide +kernel
theorem dX2_isLeast_36 : decode cX2_isLeast 36 = .ok (.invokestatic 32, 3) := by decide +kernel
theorem dX2_isLeast_39 : decode cX2_isLeast 39 = .ok (.ifCond .eq 5, 3) := by decide +kernel
theorem dX2_isLeast_42 : decode cX2_isLeast 42 = .ok (.iconst 0, 1) := by decide +kernel
theorem dX2_isLeast_43 : decode cX2_isLeast 43 = .ok (.ireturn, 1) := by decide +kernel
theorem dX2_isLeast_44 : decode cX2_isLeast 44 = .ok (.iinc 2 1, 3) := by decide +kernel
theorem dX2_isLeast_47 : decode cX2_isLeast 47 = .ok (.goto (-35), 3) := by decide +kernel
theorem dX2_isLeast_50 : decode cX2_isLeast 50 = .ok (.iconst 1, 1) := by decide +kernel
theorem dX2_isLeast_51 : decode cX2_isLeast 51 = .ok (.ireturn, 1) := by decide +kernel
def L_X2_isLeast_12 (N : Nat) (a_height : Nat → Int32) (a_kind : Nat → Int32) (a_figure : Nat → Int32) (a_rail : Nat → Int32) (a_people : Int32) (a_needed : Int32) (p1 : Int32) : Nat → Int32 → Option (Int32)
  | 0, _ => none
  | n12 + 1, x4 => if a_people ≤ x4 then some (1 : Int32) else ob (f_X9_isIn p1 x4) (fun r6 => if r6 = 0 then L_X2_isLeast_12 N a_height a_kind a_figure a_rail a_people a_needed p1 n12 (x4 + (1 : Int32)) else ob (f_X2_isEnough N a_height a_kind a_figure a_rail a_people a_needed (p1 &&& (((1 : Int32) <<< (x4 &&& 31)) ^^^ (-1 : Int32)))) (fun r9 => if r9 = 0 then L_X2_isLeast_12 N a_height a_kind a_figure a_rail a_people a_needed p1 n12 (x4 + (1 : Int32)) else some (0 : Int32)))
def f_X2_isLeast (N : Nat) (a_height : Nat → Int32) (a_kind : Nat → Int32) (a_figure : Nat → Int32) (a_rail : Nat → Int32) (a_people : Int32) (a_needed : Int32) (p1 : Int32) : Option (Int32) := ob (f_X2_isEnough N a_height a_kind a_figure a_rail a_people a_needed p1) (fun r1 => if r1 = 0 then some (0 : Int32) else L_X2_isLeast_12 N a_height a_kind a_figure a_rail a_people a_needed p1 N (0 : Int32))
set_option maxHeartbeats 4000000 in
set_option maxRecDepth 100000 in
theorem c_X2_isLeast (l : Launch) (E : EE) (a_h : Nat) (a_a0 : Nat) (a_a1 : Nat) (a_a2 : Nat) (a_a3 : Nat) (a_a4 : Nat) (a_a5 : Nat) (a_height : Nat → Int32) (a_kind : Nat → Int32) (a_figure : Nat → Int32) (a_rail : Nat → Int32) (a_mood : Nat → Int32) (a_sight : Nat → Int32) (a_moving : Int32) (a_shut : Int32) (a_people : Int32) (a_needed : Int32) (a_day : Int32) (p1 : Int32) (N : Nat) (res : Int32) (hv : f_X2_isLeast N a_height a_kind a_figure a_rail a_people a_needed p1 = some res) : Rd l E yX2_isLeast cX2_isLeast 3 (some .boolean) ({ frames := 4, cells := 0, slots := 0, locals := 87 }) [.ref a_h, .int p1] [oSt a_h a_a0 a_a1 a_a2 a_a3 a_a4 a_a5 a_moving a_shut a_people a_needed a_day, ai E a_a0 10 a_height, ai E a_a1 7 a_kind, ai E a_a2 7 a_figure, ai E a_a3 7 a_rail, ai E a_a4 7 a_mood, ai E a_a5 7 a_sight] (some (.int res)) := by
  refine Rd.intro RX2 (by decide) rfl (Nat.le_of_ble_eq_true rfl) ?_
  intro p e s m below meth c ls hC hr hlk hP hG hl
  obtain ⟨hx, hb, hml, hown, ht⟩ := id hC
  have hK := hG.1
  have hl : lv_has ls 3 [(0, .ref a_h), (1, .int p1)] := hl
  rw [f_X2_isLeast] at hv
  refine lv_aload_n hx hb dX2_isLeast_0 rfl (lv_at hl 0 rfl) ?_
  refine lv_iload_n hx hb dX2_isLeast_1 rfl (lv_at hl 1 rfl) ?_
  obtain ⟨r1, h2, hv⟩ := ob_s hv
  refine rdS (rest := []) (st1 := [.int r1]) (w := [oSt a_h a_a0 a_a1 a_a2 a_a3 a_a4 a_a5 a_moving a_shut a_people a_needed a_day, ai E a_a0 10 a_height, ai E a_a1 7 a_kind, ai E a_a2 7 a_figure, ai E a_a3 7 a_rail, ai E a_a4 7 a_mood, ai E a_a5 7 a_sight]) hC q_X2_isEnough kw_2_210 (c_X2_isEnough l E a_h a_a0 a_a1 a_a2 a_a3 a_a4 a_a5 a_height a_kind a_figure a_rail a_mood a_sight a_moving a_shut a_people a_needed a_day p1 N r1 h2) ⟨rfl, rfl⟩ ⟨Nat.le_of_ble_eq_true rfl, Nat.le_of_ble_eq_true rfl⟩ ⟨Nat.zero_le _, Nat.zero_le _⟩ hP hG rfl hl.1 rfl (Nat.le_of_ble_eq_true rfl) dX2_isLeast_2 rfl ?_
  refine lv_if_ne (tgt := 10) hx hb dX2_isLeast_5 (by decide) (fun c3 => ?_) (fun c3 => ?_)
  · have hv := if_n c3 hv
    refine lv_iconst (v := (0 : Int32)) hx hb dX2_isLeast_10 (by decide) ?_
    refine lv_istore_n (lv' := [(2, .int (0 : Int32)), (0, .ref a_h), (1, .int p1)]) hx hb dX2_isLeast_11 rfl hl (by decide) rfl (fun ls hl => ?_)
    have hL12 : ∀ (n : Nat) (x4 : Int32) (ls : Array Slot), lv_has ls 3 [(2, .int x4), (0, .ref a_h), (1, .int p1)] → L_X2_isLeast_12 N a_height a_kind a_figure a_rail a_people a_needed p1 n x4 = some res → W p l e ({ frames := 4, cells := 0, slots := 0, locals := 87 }) s m [.ref a_h, .int p1].toArray below meth c s.heap [] 0 0 (MQ below (RdQ (some (.int res))) [.ref a_h, .int p1].toArray s 0 0 (fun _ => False)) (F0 m 12 ls []) := by
      intro n
      induction n with
      | zero => intro x4 ls hl hv; cases hv
      | succ n12 ih12 =>
        intro x4 ls hl hv
        rw [L_X2_isLeast_12] at hv
        refine lv_iload_n hx hb dX2_isLeast_12 rfl (lv_at hl 0 rfl) ?_
        refine lv_aload_n hx hb dX2_isLeast_13 rfl (lv_at hl 1 rfl) ?_
        refine va_get (D := E.1) (ci := 2) (v := .int a_people) (C := RX8) (T := TX8) (N := 11) hx hb ht i_X8 hown hK hP 0 rfl rfl 8 (by decide) (ht _ kw_1_55) (fun _ h9 => h9) rfl dX2_isLeast_14 ?_
        refine lv_icmp_ge (tgt := 50) hx hb dX2_isLeast_17 (by decide) (fun c5 => ?_) (fun c5 => ?_)
        · have hv := if_y c5 hv
          refine lv_iconst (v := (1 : Int32)) hx hb dX2_isLeast_50 (by decide) ?_
          exact W.zret (v := (1 : Int32)) hx hb hr rfl (fun t h9 _ => ⟨rv_i hv, h9⟩) (fun q h => absurd h List.not_mem_nil) dX2_isLeast_51 hlk
        · have hv := if_n c5 hv
          refine lv_iload_n hx hb dX2_isLeast_20 rfl (lv_at hl 2 rfl) ?_
          refine lv_iload_n hx hb dX2_isLeast_21 rfl (lv_at hl 0 rfl) ?_
          obtain ⟨r6, h7, hv⟩ := ob_s hv
          refine rdSN (rest := []) (st1 := [.int r6]) (w := []) hC q_X9_isIn (List.mem_of_getElem? (i := 6) rfl) (c_X9_isIn l E p1 x4 r6 h7) ⟨rfl, rfl⟩ ⟨Nat.le_of_ble_eq_true rfl, Nat.le_of_ble_eq_true rfl⟩ ⟨Nat.zero_le _, Nat.zero_le _⟩ (hP.sub (ws' := []) [] rfl) hG rfl hl.1 rfl (Nat.le_of_ble_eq_true rfl) dX2_isLeast_22 rfl ?_
          refine lv_if_eq (tgt := 44) hx hb dX2_isLeast_25 (by decide) (fun c8 => ?_) (fun c8 => ?_)
          · have hv := if_y c8 hv
            refine lv_iinc (v := (x4 + (1 : Int32))) (lv' := [(2, .int (x4 + (1 : Int32))), (0, .ref a_h), (1, .int p1)]) hx hb dX2_isLeast_44 hl (k := 0) rfl rfl (by decide) rfl (fun ls hl => ?_)
            refine lv_goto (tgt := 12) hx hb dX2_isLeast_47 (by decide) ?_
            exact ih12 (x4 + (1 : Int32)) _ (lv_sub hl [0, 1, 2] rfl) hv
          · have hv := if_n c8 hv
            refine lv_aload_n hx hb dX2_isLeast_28 rfl (lv_at hl 1 rfl) ?_
            refine lv_iload_n hx hb dX2_isLeast_29 rfl (lv_at hl 2 rfl) ?_
            refine lv_iconst (v := (1 : Int32)) hx hb dX2_isLeast_30 (by decide) ?_
            refine lv_iload_n hx hb dX2_isLeast_31 rfl (lv_at hl 0 rfl) ?_
            refine lv_ishl hx hb dX2_isLeast_32 ?_
            refine lv_iconst (v := (-1 : Int32)) hx hb dX2_isLeast_33 (by decide) ?_
            refine lv_ixor hx hb dX2_isLeast_34 ?_
            refine lv_iand hx hb dX2_isLeast_35 ?_
            obtain ⟨r9, h10, hv⟩ := ob_s hv
            refine rdS (rest := []) (st1 := [.int r9]) (w := [oSt a_h a_a0 a_a1 a_a2 a_a3 a_a4 a_a5 a_moving a_shut a_people a_needed a_day, ai E a_a0 10 a_height, ai E a_a1 7 a_kind, ai E a_a2 7 a_figure, ai E a_a3 7 a_rail, ai E a_a4 7 a_mood, ai E a_a5 7 a_sight]) hC q_X2_isEnough kw_2_210 (c_X2_isEnough l E a_h a_a0 a_a1 a_a2 a_a3 a_a4 a_a5 a_height a_kind a_figure a_rail a_mood a_sight a_moving a_shut a_people a_needed a_day (p1 &&& (((1 : Int32) <<< (x4 &&& 31)) ^^^ (-1 : Int32))) N r9 h10) ⟨rfl, rfl⟩ ⟨Nat.le_of_ble_eq_true rfl, Nat.le_of_ble_eq_true rfl⟩ ⟨Nat.zero_le _, Nat.zero_le _⟩ hP hG rfl hl.1 rfl (Nat.le_of_ble_eq_true rfl) dX2_isLeast_36 rfl ?_
            refine lv_if_eq (tgt := 44) hx hb dX2_isLeast_39 (by decide) (fun c11 => ?_) (fun c11 => ?_)
            · have hv := if_y c11 hv
              refine lv_iinc (v := (x4 + (1 : Int32))) (lv' := [(2, .int (x4 + (1 : Int32))), (0, .ref a_h), (1, .int p1)]) hx hb dX2_isLeast_44 hl (k := 0) rfl rfl (by decide) rfl (fun ls hl => ?_)
              refine lv_goto (tgt := 12) hx hb dX2_isLeast_47 (by decide) ?_
              exact ih12 (x4 + (1 : Int32)) _ (lv_sub hl [0, 1, 2] rfl) hv
            · have hv := if_n c11 hv
              refine lv_iconst (v := (0 : Int32)) hx hb dX2_isLeast_42 (by decide) ?_
              exact W.zret (v := (0 : Int32)) hx hb hr rfl (fun t h9 _ => ⟨rv_i hv, h9⟩) (fun q h => absurd h List.not_mem_nil) dX2_isLeast_43 hlk
    exact hL12 N (0 : Int32) _ (lv_sub hl [0, 1, 2] rfl) hv
  · have hv := if_y c3 hv
    refine lv_iconst (v := (0 : Int32)) hx hb dX2_isLeast_8 (by decide) ?_
    exact W.zret (v := (0 : Int32)) hx hb hr rfl (fun t h9 _ => ⟨rv_i hv, h9⟩) (fun q h => absurd h List.not_mem_nil) dX2_isLeast_9 hlk
theorem dX2_leastOnes_0 : decode cX2_leastOnes 0 = .ok (.aload_n 0, 1) := by decide +kernel
theorem dX2_leastOnes_1 : decode cX2_leastOnes 1 = .ok (.invokevirtual 40, 3) := by decide +kernel
theorem dX2_leastOnes_4 : decode cX2_leastOnes 4 = .ok (.istore_n 1, 1) := by decide +kernel
theorem dX2_leastOnes_5 : decode cX2_leastOnes 5 = .ok (.iconst 0, 1) := by decide +kernel
theorem dX2_leastOnes_6 : decode cX2_leastOnes 6 = .ok (.istore_n 2, 1) := by decide +kernel
theorem dX2_leastOnes_7 : decode cX2_leastOnes 7 = .ok (.iconst 0, 1) := by decide +kernel
theorem dX2_leastOnes_8 : decode cX2_leastOnes 8 = .ok (.istore_n 3, 1) := by decide +kernel
theorem dX2_leastOnes_9 : decode cX2_leastOnes 9 = .ok (.iload_n 3, 1) := by decide +kernel
theorem dX2_leastOnes_10 : decode cX2_leastOnes 10 = .ok (.iload_n 1, 1) := by decide +kernel
theorem dX2_leastOnes_11 : decode cX2_leastOnes 11 = .ok (.if_icmp .gt 28, 3) := by decide +kernel
theorem dX2_leastOnes_14 : decode cX2_leastOnes 14 = .ok (.iload_n 3, 1) := by decide +kernel
theorem dX2_leastOnes_15 : decode cX2_leastOnes 15 = .ok (.iload_n 1, 1) := by decide +kernel
theorem dX2_leastOnes_16 : decode cX2_leastOnes 16 = .ok (.iconst (-1), 1) := by decide +kernel
theorem dX2_leastOnes_17 : decode cX2_leastOnes 17 = .ok (.ixor, 1) := by decide +kernel
theorem dX2_leastOnes_18 : decode cX2_leastOnes 18 = .ok (.iand, 1) := by decide +kernel
theorem dX2_leastOnes_19 : decode cX2_leastOnes 19 = .ok (.ifCond .ne 14, 3) := by decide +kernel
theorem dX2_leastOnes_22 : decode cX2_leastOnes 22 = .ok (.aload_n 0, 1) := by decide +kernel
theorem dX2_leastOnes_23 : decode cX2_leastOnes 23 = .ok (.iload_n 3, 1) := by decide +kernel
theorem dX2_leastOnes_24 : decode cX2_leastOnes 24 = .ok (.invokestatic 47, 3) := by decide +kernel
theorem dX2_leastOnes_27 : decode cX2_leastOnes 27 = .ok (.ifCond .eq 6, 3) := by decide +kernel
theorem dX2_leastOnes_30 : decode cX2_leastOnes 30 = .ok (.iinc 2 1, 3) := by decide +kernel
theorem dX2_leastOnes_33 : decode cX2_leastOnes 33 = .ok (.iinc 3 1, 3) := by decide +kernel
theorem dX2_leastOnes_36 : decode cX2_leastOnes 36 = .ok (.goto (-27), 3) := by decide +kernel
theorem dX2_leastOnes_39 : decode cX2_leastOnes 39 = .ok (.iload_n 2, 1) := by decide +kernel
theorem dX2_leastOnes_40 : decode cX2_leastOnes 40 = .ok (.ireturn, 1) := by decide +kernel
def L_X2_leastOnes_9 (N : Nat) (a_height : Nat → Int32) (a_kind : Nat → Int32) (a_figure : Nat → Int32) (a_rail : Nat → Int32) (a_people : Int32) (a_needed : Int32) (r1 : Int32) : Nat → Int32 → Int32 → Option (Int32)
  | 0, _, _ => none
  | n9 + 1, x3, x4 => if r1 < x3 then some x4 else if (x3 &&& (r1 ^^^ (-1 : Int32))) = 0 then ob (f_X2_isLeast N a_height a_kind a_figure a_rail a_people a_needed x3) (fun r7 => if r7 = 0 then L_X2_leastOnes_9 N a_height a_kind a_figure a_rail a_people a_needed r1 n9 (x3 + (1 : Int32)) x4 else L_X2_leastOnes_9 N a_height a_kind a_figure a_rail a_people a_needed r1 n9 (x3 + (1 : Int32)) (x4 + (1 : Int32))) else L_X2_leastOnes_9 N a_height a_kind a_figure a_rail a_people a_needed r1 n9 (x3 + (1 : Int32)) x4
def f_X2_leastOnes (N : Nat) (a_height : Nat → Int32) (a_kind : Nat → Int32) (a_figure : Nat → Int32) (a_rail : Nat → Int32) (a_shut : Int32) (a_people : Int32) (a_needed : Int32) : Option (Int32) := ob (f_X8_heardOnes N a_rail a_shut a_people) (fun r1 => L_X2_leastOnes_9 N a_height a_kind a_figure a_rail a_people a_needed r1 N (0 : Int32) (0 : Int32))
set_option maxHeartbeats 4000000 in
set_option maxRecDepth 100000 in
theorem c_X2_leastOnes (l : Launch) (E : EE) (a_h : Nat) (a_a0 : Nat) (a_a1 : Nat) (a_a2 : Nat) (a_a3 : Nat) (a_a4 : Nat) (a_a5 : Nat) (a_height : Nat → Int32) (a_kind : Nat → Int32) (a_figure : Nat → Int32) (a_rail : Nat → Int32) (a_mood : Nat → Int32) (a_sight : Nat → Int32) (a_moving : Int32) (a_shut : Int32) (a_people : Int32) (a_needed : Int32) (a_day : Int32) (N : Nat) (res : Int32) (hv : f_X2_leastOnes N a_height a_kind a_figure a_rail a_shut a_people a_needed = some res) : Rd l E yX2_leastOnes cX2_leastOnes 4 (some .int) ({ frames := 5, cells := 0, slots := 0, locals := 109 }) [.ref a_h] [oSt a_h a_a0 a_a1 a_a2 a_a3 a_a4 a_a5 a_moving a_shut a_people a_needed a_day, ai E a_a0 10 a_height, ai E a_a1 7 a_kind, ai E a_a2 7 a_figure, ai E a_a3 7 a_rail, ai E a_a4 7 a_mood, ai E a_a5 7 a_sight] (some (.int res)) := by
  refine Rd.intro RX2 (by decide) rfl (Nat.le_of_ble_eq_true rfl) ?_
  intro p e s m below meth c ls hC hr hlk hP hG hl
  obtain ⟨hx, hb, hml, hown, ht⟩ := id hC
  have hK := hG.1
  have hl : lv_has ls 4 [(0, .ref a_h)] := hl
  rw [f_X2_leastOnes] at hv
  refine lv_aload_n hx hb dX2_leastOnes_0 rfl (lv_at hl 0 rfl) ?_
  obtain ⟨r1, h2, hv⟩ := ob_s hv
  refine rdV 2 0 (As := []) (rest := []) (st1 := [.int r1]) (w := [oSt a_h a_a0 a_a1 a_a2 a_a3 a_a4 a_a5 a_moving a_shut a_people a_needed a_day, ai E a_a0 10 a_height, ai E a_a1 7 a_kind, ai E a_a2 7 a_figure, ai E a_a3 7 a_rail, ai E a_a4 7 a_mood, ai E a_a5 7 a_sight]) hC q_X8_heardOnes kw_2_204 (c_X8_heardOnes l E a_h a_a0 a_a1 a_a2 a_a3 a_a4 a_a5 a_height a_kind a_figure a_rail a_mood a_sight a_moving a_shut a_people a_needed a_day N r1 h2) ⟨rfl, rfl⟩ ⟨Nat.le_of_ble_eq_true rfl, Nat.le_of_ble_eq_true rfl⟩ ⟨Nat.zero_le _, Nat.zero_le _⟩ hP rfl rfl rfl hG rfl hl.1 rfl (Nat.le_of_ble_eq_true rfl) dX2_leastOnes_1 rfl ?_
  refine lv_istore_n (lv' := [(1, .int r1), (0, .ref a_h)]) hx hb dX2_leastOnes_4 rfl hl (by decide) rfl (fun ls hl => ?_)
  refine lv_iconst (v := (0 : Int32)) hx hb dX2_leastOnes_5 (by decide) ?_
  refine lv_istore_n (lv' := [(2, .int (0 : Int32)), (1, .int r1), (0, .ref a_h)]) hx hb dX2_leastOnes_6 rfl hl (by decide) rfl (fun ls hl => ?_)
  refine lv_iconst (v := (0 : Int32)) hx hb dX2_leastOnes_7 (by decide) ?_
  refine lv_istore_n (lv' := [(3, .int (0 : Int32)), (2, .int (0 : Int32)), (1, .int r1), (0, .ref a_h)]) hx hb dX2_leastOnes_8 rfl hl (by decide) rfl (fun ls hl => ?_)
  have hL9 : ∀ (n : Nat) (x3 : Int32) (x4 : Int32) (ls : Array Slot), lv_has ls 4 [(3, .int x3), (2, .int x4), (1, .int r1), (0, .ref a_h)] → L_X2_leastOnes_9 N a_height a_kind a_figure a_rail a_people a_needed r1 n x3 x4 = some res → W p l e ({ frames := 5, cells := 0, slots := 0, locals := 109 }) s m [.ref a_h].toArray below meth c s.heap [] 0 0 (MQ below (RdQ (some (.int res))) [.ref a_h].toArray s 0 0 (fun _ => False)) (F0 m 9 ls []) := by
    intro n
    induction n with
    | zero => intro x3 x4 ls hl hv; cases hv
    | succ n9 ih9 =>
      intro x3 x4 ls hl hv
      rw [L_X2_leastOnes_9] at hv
      refine lv_iload_n hx hb dX2_leastOnes_9 rfl (lv_at hl 0 rfl) ?_
      refine lv_iload_n hx hb dX2_leastOnes_10 rfl (lv_at hl 2 rfl) ?_
      refine lv_icmp_gt (tgt := 39) hx hb dX2_leastOnes_11 (by decide) (fun c5 => ?_) (fun c5 => ?_)
      · have hv := if_y c5 hv
        refine lv_iload_n hx hb dX2_leastOnes_39 rfl (lv_at hl 1 rfl) ?_
        exact W.iret (v := x4) hx hb hr (fun t h9 _ => ⟨rv_i hv, h9⟩) (fun q h => absurd h List.not_mem_nil) dX2_leastOnes_40 hlk
      · have hv := if_n c5 hv
        refine lv_iload_n hx hb dX2_leastOnes_14 rfl (lv_at hl 0 rfl) ?_
        refine lv_iload_n hx hb dX2_leastOnes_15 rfl (lv_at hl 2 rfl) ?_
        refine lv_iconst (v := (-1 : Int32)) hx hb dX2_leastOnes_16 (by decide) ?_
        refine lv_ixor hx hb dX2_leastOnes_17 ?_
        refine lv_iand hx hb dX2_leastOnes_18 ?_
        refine lv_if_ne (tgt := 33) hx hb dX2_leastOnes_19 (by decide) (fun c6 => ?_) (fun c6 => ?_)
        · have hv := if_n c6 hv
          refine lv_iinc (v := (x3 + (1 : Int32))) (lv' := [(3, .int (x3 + (1 : Int32))), (2, .int x4), (1, .int r1), (0, .ref a_h)]) hx hb dX2_leastOnes_33 hl (k := 0) rfl rfl (by decide) rfl (fun ls hl => ?_)
          refine lv_goto (tgt := 9) hx hb dX2_leastOnes_36 (by decide) ?_
          exact ih9 (x3 + (1 : Int32)) x4 _ (lv_sub hl [0, 1, 2, 3] rfl) hv
        · have hv := if_y c6 hv
          refine lv_aload_n hx hb dX2_leastOnes_22 rfl (lv_at hl 3 rfl) ?_
          refine lv_iload_n hx hb dX2_leastOnes_23 rfl (lv_at hl 0 rfl) ?_
          obtain ⟨r7, h8, hv⟩ := ob_s hv
          refine rdS (rest := []) (st1 := [.int r7]) (w := [oSt a_h a_a0 a_a1 a_a2 a_a3 a_a4 a_a5 a_moving a_shut a_people a_needed a_day, ai E a_a0 10 a_height, ai E a_a1 7 a_kind, ai E a_a2 7 a_figure, ai E a_a3 7 a_rail, ai E a_a4 7 a_mood, ai E a_a5 7 a_sight]) hC q_X2_isLeast kw_2_239 (c_X2_isLeast l E a_h a_a0 a_a1 a_a2 a_a3 a_a4 a_a5 a_height a_kind a_figure a_rail a_mood a_sight a_moving a_shut a_people a_needed a_day x3 N r7 h8) ⟨rfl, rfl⟩ ⟨Nat.le_of_ble_eq_true rfl, Nat.le_of_ble_eq_true rfl⟩ ⟨Nat.zero_le _, Nat.zero_le _⟩ hP hG rfl hl.1 rfl (Nat.le_of_ble_eq_true rfl) dX2_leastOnes_24 rfl ?_
          refine lv_if_eq (tgt := 33) hx hb dX2_leastOnes_27 (by decide) (fun c9 => ?_) (fun c9 => ?_)
          · have hv := if_y c9 hv
            refine lv_iinc (v := (x3 + (1 : Int32))) (lv' := [(3, .int (x3 + (1 : Int32))), (2, .int x4), (1, .int r1), (0, .ref a_h)]) hx hb dX2_leastOnes_33 hl (k := 0) rfl rfl (by decide) rfl (fun ls hl => ?_)
            refine lv_goto (tgt := 9) hx hb dX2_leastOnes_36 (by decide) ?_
            exact ih9 (x3 + (1 : Int32)) x4 _ (lv_sub hl [0, 1, 2, 3] rfl) hv
          · have hv := if_n c9 hv
            refine lv_iinc (v := (x4 + (1 : Int32))) (lv' := [(2, .int (x4 + (1 : Int32))), (3, .int x3), (1, .int r1), (0, .ref a_h)]) hx hb dX2_leastOnes_30 hl (k := 1) rfl rfl (by decide) rfl (fun ls hl => ?_)
            refine lv_iinc (v := (x3 + (1 : Int32))) (lv' := [(3, .int (x3 + (1 : Int32))), (2, .int (x4 + (1 : Int32))), (1, .int r1), (0, .ref a_h)]) hx hb dX2_leastOnes_33 hl (k := 1) rfl rfl (by decide) rfl (fun ls hl => ?_)
            refine lv_goto (tgt := 9) hx hb dX2_leastOnes_36 (by decide) ?_
            exact ih9 (x3 + (1 : Int32)) (x4 + (1 : Int32)) _ (lv_sub hl [0, 1, 2, 3] rfl) hv
  exact hL9 N (0 : Int32) (0 : Int32) _ (lv_sub hl [0, 1, 2, 3] rfl) hv
theorem dX2_blocks_0 : decode cX2_blocks 0 = .ok (.aload_n 0, 1) := by decide +kernel
theorem dX2_blocks_1 : decode cX2_blocks 1 = .ok (.invokevirtual 40, 3) := by decide +kernel
theorem dX2_blocks_4 : decode cX2_blocks 4 = .ok (.istore_n 1, 1) := by decide +kernel
theorem dX2_blocks_5 : decode cX2_blocks 5 = .ok (.iconst 0, 1) := by decide +kernel
theorem dX2_blocks_6 : decode cX2_blocks 6 = .ok (.istore_n 2, 1) := by decide +kernel
theorem dX2_blocks_7 : decode cX2_blocks 7 = .ok (.iconst 0, 1) := by decide +kernel
theorem dX2_blocks_8 : decode cX2_blocks 8 = .ok (.istore_n 3, 1) := by decide +kernel
theorem dX2_blocks_9 : decode cX2_blocks 9 = .ok (.iload_n 3, 1) := by decide +kernel
theorem dX2_blocks_10 : decode cX2_blocks 10 = .ok (.aload_n 0, 1) := by decide +kernel
theorem dX2_blocks_11 : decode cX2_blocks 11 = .ok (.getfield 50, 3) := by decide +kernel
theorem dX2_blocks_14 : decode cX2_blocks 14 = .ok (.if_icmp .ge 37, 3) := by decide +kernel
theorem dX2_blocks_17 : decode cX2_blocks 17 = .ok (.iload_n 1, 1) := by decide +kernel
theorem dX2_blocks_18 : decode cX2_blocks 18 = .ok (.iload_n 3, 1) := by decide +kernel
theorem dX2_blocks_19 : decode cX2_blocks 19 = .ok (.invokestatic 28, 3) := by decide +kernel
theorem dX2_blocks_22 : decode cX2_blocks 22 = .ok (.ifCond .eq 23, 3) := by decide +kernel
theorem dX2_blocks_25 : decode cX2_blocks 25 = .ok (.aload_n 0, 1) := by decide +kernel
theorem dX2_blocks_26 : decode cX2_blocks 26 = .ok (.iload_n 1, 1) := by decide +kernel
theorem dX2_blocks_27 : decode cX2_blocks 27 = .ok (.iconst 1, 1) := by decide +kernel
theorem dX2_blocks_28 : decode cX2_blocks 28 = .ok (.iload_n 3, 1) := by decide +kernel
theorem dX2_blocks_29 : decode cX2_blocks 29 = .ok (.ishl, 1) := by decide +kernel
theorem dX2_blocks_30 : decode cX2_blocks 30 = .ok (.iconst (-1), 1) := by decide +kernel
theorem dX2_blocks_31 : decode cX2_blocks 31 = .ok (.ixor, 1) := by decide +kernel
theorem dX2_blocks_32 : decode cX2_blocks 32 = .ok (.iand, 1) := by decide +kernel
theorem dX2_blocks_33 : decode cX2_blocks 33 = .ok (.invokestatic 32, 3) := by decide +kernel
theorem dX2_blocks_36 : decode cX2_blocks 36 = .ok (.ifCond .ne 9, 3) := by decide +kernel
theorem dX2_blocks_39 : decode cX2_blocks 39 = .ok (.iload_n 2, 1) := by decide +kernel
theorem dX2_blocks_40 : decode cX2_blocks 40 = .ok (.iconst 1, 1) := by decide +kernel
theorem dX2_blocks_41 : decode cX2_blocks 41 = .ok (.iload_n 3, 1) := by decide +kernel
theorem dX2_blocks_42 : decode cX2_blocks 42 = .ok (.ishl, 1) := by decide +kernel
theorem dX2_blocks_43 : decode cX2_blocks 43 = .ok (.ior, 1) := by decide +kernel
theorem dX2_blocks_44 : decode cX2_blocks 44 = .ok (.istore_n 2, 1) := by decide +kernel
theorem dX2_blocks_45 : decode cX2_blocks 45 = .ok (.iinc 3 1, 3) := by decide +kernel
theorem dX2_blocks_48 : decode cX2_blocks 48 = .ok (.goto (-39), 3) := by decide +kernel
theorem dX2_blocks_51 : decode cX2_blocks 51 = .ok (.iload_n 2, 1) := by decide +kernel
theorem dX2_blocks_52 : decode cX2_blocks 52 = .ok (.ireturn, 1) := by decide +kernel
def L_X2_blocks_9 (N : Nat) (a_height : Nat → Int32) (a_kind : Nat → Int32) (a_figure : Nat → Int32) (a_rail : Nat → Int32) (a_people : Int32) (a_needed : Int32) (r1 : Int32) : Nat → Int32 → Int32 → Option (Int32)
  | 0, _, _ => none
  | n9 + 1, x3, x4 => if a_people ≤ x3 then some x4 else ob (f_X9_isIn r1 x3) (fun r6 => if r6 = 0 then L_X2_blocks_9 N a_height a_kind a_figure a_rail a_people a_needed r1 n9 (x3 + (1 : Int32)) x4 else ob (f_X2_isEnough N a_height a_kind a_figure a_rail a_people a_needed (r1 &&& (((1 : Int32) <<< (x3 &&& 31)) ^^^ (-1 : Int32)))) (fun r9 => if r9 = 0 then nm (x4 ||| ((1 : Int32) <<< (x3 &&& 31))) (fun z12 => L_X2_blocks_9 N a_height a_kind a_figure a_rail a_people a_needed r1 n9 (x3 + (1 : Int32)) z12) else L_X2_blocks_9 N a_height a_kind a_figure a_rail a_people a_needed r1 n9 (x3 + (1 : Int32)) x4))
def f_X2_blocks (N : Nat) (a_height : Nat → Int32) (a_kind : Nat → Int32) (a_figure : Nat → Int32) (a_rail : Nat → Int32) (a_shut : Int32) (a_people : Int32) (a_needed : Int32) : Option (Int32) := ob (f_X8_heardOnes N a_rail a_shut a_people) (fun r1 => L_X2_blocks_9 N a_height a_kind a_figure a_rail a_people a_needed r1 N (0 : Int32) (0 : Int32))
set_option maxHeartbeats 4000000 in
set_option maxRecDepth 100000 in
theorem c_X2_blocks (l : Launch) (E : EE) (a_h : Nat) (a_a0 : Nat) (a_a1 : Nat) (a_a2 : Nat) (a_a3 : Nat) (a_a4 : Nat) (a_a5 : Nat) (a_height : Nat → Int32) (a_kind : Nat → Int32) (a_figure : Nat → Int32) (a_rail : Nat → Int32) (a_mood : Nat → Int32) (a_sight : Nat → Int32) (a_moving : Int32) (a_shut : Int32) (a_people : Int32) (a_needed : Int32) (a_day : Int32) (N : Nat) (res : Int32) (hv : f_X2_blocks N a_height a_kind a_figure a_rail a_shut a_people a_needed = some res) : Rd l E yX2_blocks cX2_blocks 4 (some .int) ({ frames := 4, cells := 0, slots := 0, locals := 87 }) [.ref a_h] [oSt a_h a_a0 a_a1 a_a2 a_a3 a_a4 a_a5 a_moving a_shut a_people a_needed a_day, ai E a_a0 10 a_height, ai E a_a1 7 a_kind, ai E a_a2 7 a_figure, ai E a_a3 7 a_rail, ai E a_a4 7 a_mood, ai E a_a5 7 a_sight] (some (.int res)) := by
  refine Rd.intro RX2 (by decide) rfl (Nat.le_of_ble_eq_true rfl) ?_
  intro p e s m below meth c ls hC hr hlk hP hG hl
  obtain ⟨hx, hb, hml, hown, ht⟩ := id hC
  have hK := hG.1
  have hl : lv_has ls 4 [(0, .ref a_h)] := hl
  rw [f_X2_blocks] at hv
  refine lv_aload_n hx hb dX2_blocks_0 rfl (lv_at hl 0 rfl) ?_
  obtain ⟨r1, h2, hv⟩ := ob_s hv
  refine rdV 2 0 (As := []) (rest := []) (st1 := [.int r1]) (w := [oSt a_h a_a0 a_a1 a_a2 a_a3 a_a4 a_a5 a_moving a_shut a_people a_needed a_day, ai E a_a0 10 a_height, ai E a_a1 7 a_kind, ai E a_a2 7 a_figure, ai E a_a3 7 a_rail, ai E a_a4 7 a_mood, ai E a_a5 7 a_sight]) hC q_X8_heardOnes kw_2_204 (c_X8_heardOnes l E a_h a_a0 a_a1 a_a2 a_a3 a_a4 a_a5 a_height a_kind a_figure a_rail a_mood a_sight a_moving a_shut a_people a_needed a_day N r1 h2) ⟨rfl, rfl⟩ ⟨Nat.le_of_ble_eq_true rfl, Nat.le_of_ble_eq_true rfl⟩ ⟨Nat.zero_le _, Nat.zero_le _⟩ hP rfl rfl rfl hG rfl hl.1 rfl (Nat.le_of_ble_eq_true rfl) dX2_blocks_1 rfl ?_
  refine lv_istore_n (lv' := [(1, .int r1), (0, .ref a_h)]) hx hb dX2_blocks_4 rfl hl (by decide) rfl (fun ls hl => ?_)
  refine lv_iconst (v := (0 : Int32)) hx hb dX2_blocks_5 (by decide) ?_
  refine lv_istore_n (lv' := [(2, .int (0 : Int32)), (1, .int r1), (0, .ref a_h)]) hx hb dX2_blocks_6 rfl hl (by decide) rfl (fun ls hl => ?_)
  refine lv_iconst (v := (0 : Int32)) hx hb dX2_blocks_7 (by decide) ?_
  refine lv_istore_n (lv' := [(3, .int (0 : Int32)), (2, .int (0 : Int32)), (1, .int r1), (0, .ref a_h)]) hx hb dX2_blocks_8 rfl hl (by decide) rfl (fun ls hl => ?_)
  have hL9 : ∀ (n : Nat) (x3 : Int32) (x4 : Int32) (ls : Array Slot), lv_has ls 4 [(3, .int x3), (2, .int x4), (1, .int r1), (0, .ref a_h)] → L_X2_blocks_9 N a_height a_kind a_figure a_rail a_people a_needed r1 n x3 x4 = some res → W p l e ({ frames := 4, cells := 0, slots := 0, locals := 87 }) s m [.ref a_h].toArray below meth c s.heap [] 0 0 (MQ below (RdQ (some (.int res))) [.ref a_h].toArray s 0 0 (fun _ => False)) (F0 m 9 ls []) := by
    intro n
    induction n with
    | zero => intro x3 x4 ls hl hv; cases hv
    | succ n9 ih9 =>
      intro x3 x4 ls hl hv
      rw [L_X2_blocks_9] at hv
      refine lv_iload_n hx hb dX2_blocks_9 rfl (lv_at hl 0 rfl) ?_
      refine lv_aload_n hx hb dX2_blocks_10 rfl (lv_at hl 3 rfl) ?_
      refine va_get (D := E.1) (ci := 2) (v := .int a_people) (C := RX8) (T := TX8) (N := 11) hx hb ht i_X8 hown hK hP 0 rfl rfl 8 (by decide) (ht _ kw_1_55) (fun _ h9 => h9) rfl dX2_blocks_11 ?_
      refine lv_icmp_ge (tgt := 51) hx hb dX2_blocks_14 (by decide) (fun c5 => ?_) (fun c5 => ?_)
      · have hv := if_y c5 hv
        refine lv_iload_n hx hb dX2_blocks_51 rfl (lv_at hl 1 rfl) ?_
        exact W.iret (v := x4) hx hb hr (fun t h9 _ => ⟨rv_i hv, h9⟩) (fun q h => absurd h List.not_mem_nil) dX2_blocks_52 hlk
      · have hv := if_n c5 hv
        refine lv_iload_n hx hb dX2_blocks_17 rfl (lv_at hl 2 rfl) ?_
        refine lv_iload_n hx hb dX2_blocks_18 rfl (lv_at hl 0 rfl) ?_
        obtain ⟨r6, h7, hv⟩ := ob_s hv
        refine rdSN (rest := []) (st1 := [.int r6]) (w := []) hC q_X9_isIn (List.mem_of_getElem? (i := 6) rfl) (c_X9_isIn l E r1 x3 r6 h7) ⟨rfl, rfl⟩ ⟨Nat.le_of_ble_eq_true rfl, Nat.le_of_ble_eq_true rfl⟩ ⟨Nat.zero_le _, Nat.zero_le _⟩ (hP.sub (ws' := []) [] rfl) hG rfl hl.1 rfl (Nat.le_of_ble_eq_true rfl) dX2_blocks_19 rfl ?_
        refine lv_if_eq (tgt := 45) hx hb dX2_blocks_22 (by decide) (fun c8 => ?_) (fun c8 => ?_)
        · have hv := if_y c8 hv
          refine lv_iinc (v := (x3 + (1 : Int32))) (lv' := [(3, .int (x3 + (1 : Int32))), (2, .int x4), (1, .int r1), (0, .ref a_h)]) hx hb dX2_blocks_45 hl (k := 0) rfl rfl (by decide) rfl (fun ls hl => ?_)
          refine lv_goto (tgt := 9) hx hb dX2_blocks_48 (by decide) ?_
          exact ih9 (x3 + (1 : Int32)) x4 _ (lv_sub hl [0, 1, 2, 3] rfl) hv
        · have hv := if_n c8 hv
          refine lv_aload_n hx hb dX2_blocks_25 rfl (lv_at hl 3 rfl) ?_
          refine lv_iload_n hx hb dX2_blocks_26 rfl (lv_at hl 2 rfl) ?_
          refine lv_iconst (v := (1 : Int32)) hx hb dX2_blocks_27 (by decide) ?_
          refine lv_iload_n hx hb dX2_blocks_28 rfl (lv_at hl 0 rfl) ?_
          refine lv_ishl hx hb dX2_blocks_29 ?_
          refine lv_iconst (v := (-1 : Int32)) hx hb dX2_blocks_30 (by decide) ?_
          refine lv_ixor hx hb dX2_blocks_31 ?_
          refine lv_iand hx hb dX2_blocks_32 ?_
          obtain ⟨r9, h10, hv⟩ := ob_s hv
          refine rdS (rest := []) (st1 := [.int r9]) (w := [oSt a_h a_a0 a_a1 a_a2 a_a3 a_a4 a_a5 a_moving a_shut a_people a_needed a_day, ai E a_a0 10 a_height, ai E a_a1 7 a_kind, ai E a_a2 7 a_figure, ai E a_a3 7 a_rail, ai E a_a4 7 a_mood, ai E a_a5 7 a_sight]) hC q_X2_isEnough kw_2_210 (c_X2_isEnough l E a_h a_a0 a_a1 a_a2 a_a3 a_a4 a_a5 a_height a_kind a_figure a_rail a_mood a_sight a_moving a_shut a_people a_needed a_day (r1 &&& (((1 : Int32) <<< (x3 &&& 31)) ^^^ (-1 : Int32))) N r9 h10) ⟨rfl, rfl⟩ ⟨Nat.le_of_ble_eq_true rfl, Nat.le_of_ble_eq_true rfl⟩ ⟨Nat.zero_le _, Nat.zero_le _⟩ hP hG rfl hl.1 rfl (Nat.le_of_ble_eq_true rfl) dX2_blocks_33 rfl ?_
          refine lv_if_ne (tgt := 45) hx hb dX2_blocks_36 (by decide) (fun c11 => ?_) (fun c11 => ?_)
          · have hv := if_n c11 hv
            refine lv_iinc (v := (x3 + (1 : Int32))) (lv' := [(3, .int (x3 + (1 : Int32))), (2, .int x4), (1, .int r1), (0, .ref a_h)]) hx hb dX2_blocks_45 hl (k := 0) rfl rfl (by decide) rfl (fun ls hl => ?_)
            refine lv_goto (tgt := 9) hx hb dX2_blocks_48 (by decide) ?_
            exact ih9 (x3 + (1 : Int32)) x4 _ (lv_sub hl [0, 1, 2, 3] rfl) hv
          · have hv := if_y c11 hv
            refine lv_iload_n hx hb dX2_blocks_39 rfl (lv_at hl 1 rfl) ?_
            refine lv_iconst (v := (1 : Int32)) hx hb dX2_blocks_40 (by decide) ?_
            refine lv_iload_n hx hb dX2_blocks_41 rfl (lv_at hl 0 rfl) ?_
            refine lv_ishl hx hb dX2_blocks_42 ?_
            refine lv_ior hx hb dX2_blocks_43 ?_
            refine lv_topi (fun z12 ez12 => ?_)
            have hv := nm_s ez12 hv
            refine lv_istore_n (lv' := [(2, .int z12), (3, .int x3), (1, .int r1), (0, .ref a_h)]) hx hb dX2_blocks_44 rfl hl (by decide) rfl (fun ls hl => ?_)
            refine lv_iinc (v := (x3 + (1 : Int32))) (lv' := [(3, .int (x3 + (1 : Int32))), (2, .int z12), (1, .int r1), (0, .ref a_h)]) hx hb dX2_blocks_45 hl (k := 1) rfl rfl (by decide) rfl (fun ls hl => ?_)
            refine lv_goto (tgt := 9) hx hb dX2_blocks_48 (by decide) ?_
            exact ih9 (x3 + (1 : Int32)) z12 _ (lv_sub hl [0, 1, 2, 3] rfl) hv
  exact hL9 N (0 : Int32) (0 : Int32) _ (lv_sub hl [0, 1, 2, 3] rfl) hv
theorem dX2_turnedGroups_0 : decode cX2_turnedGroups 0 = .ok (.aload_n 0, 1) := by decide +kernel
theorem dX2_turnedGroups_1 : decode cX2_turnedGroups 1 = .ok (.invokevirtual 40, 3) := by decide +kernel
theorem dX2_turnedGroups_4 : decode cX2_turnedGroups 4 = .ok (.istore_n 2, 1) := by decide +kernel
theorem dX2_turnedGroups_5 : decode cX2_turnedGroups 5 = .ok (.iconst 0, 1) := by decide +kernel
theorem dX2_turnedGroups_6 : decode cX2_turnedGroups 6 = .ok (.istore_n 3, 1) := by decide +kernel
theorem dX2_turnedGroups_7 : decode cX2_turnedGroups 7 = .ok (.iconst 0, 1) := by decide +kernel
theorem dX2_turnedGroups_8 : decode cX2_turnedGroups 8 = .ok (.istore 4, 2) := by decide +kernel
theorem dX2_turnedGroups_10 : decode cX2_turnedGroups 10 = .ok (.iload 4, 2) := by decide +kernel
theorem dX2_turnedGroups_12 : decode cX2_turnedGroups 12 = .ok (.iload_n 2, 1) := by decide +kernel
theorem dX2_turnedGroups_13 : decode cX2_turnedGroups 13 = .ok (.if_icmp .gt 31, 3) := by decide +kernel
theorem dX2_turnedGroups_16 : decode cX2_turnedGroups 16 = .ok (.iload 4, 2) := by decide +kernel
theorem dX2_turnedGroups_18 : decode cX2_turnedGroups 18 = .ok (.iload_n 2, 1) := by decide +kernel
theorem dX2_turnedGroups_19 : decode cX2_turnedGroups 19 = .ok (.iconst (-1), 1) := by decide +kernel
theorem dX2_turnedGroups_20 : decode cX2_turnedGroups 20 = .ok (.ixor, 1) := by decide +kernel
theorem dX2_turnedGroups_21 : decode cX2_turnedGroups 21 = .ok (.iand, 1) := by decide +kernel
theorem dX2_turnedGroups_22 : decode cX2_turnedGroups 22 = .ok (.ifCond .ne 16, 3) := by decide +kernel
theorem dX2_turnedGroups_25 : decode cX2_turnedGroups 25 = .ok (.aload_n 0, 1) := by decide +kernel
theorem dX2_turnedGroups_26 : decode cX2_turnedGroups 26 = .ok (.iload 4, 2) := by decide +kernel
theorem dX2_turnedGroups_28 : decode cX2_turnedGroups 28 = .ok (.iload_n 1, 1) := by decide +kernel
theorem dX2_turnedGroups_29 : decode cX2_turnedGroups 29 = .ok (.invokestatic 53, 3) := by decide +kernel
theorem dX2_turnedGroups_32 : decode cX2_turnedGroups 32 = .ok (.ifCond .eq 6, 3) := by decide +kernel
theorem dX2_turnedGroups_35 : decode cX2_turnedGroups 35 = .ok (.iinc 3 1, 3) := by decide +kernel
theorem dX2_turnedGroups_38 : decode cX2_turnedGroups 38 = .ok (.iinc 4 1, 3) := by decide +kernel
theorem dX2_turnedGroups_41 : decode cX2_turnedGroups 41 = .ok (.goto (-31), 3) := by decide +kernel
theorem dX2_turnedGroups_44 : decode cX2_turnedGroups 44 = .ok (.iload_n 3, 1) := by decide +kernel
theorem dX2_turnedGroups_45 : decode cX2_turnedGroups 45 = .ok (.ireturn, 1) := by decide +kernel
def L_X2_turnedGroups_10 (N : Nat) (a_height : Nat → Int32) (a_kind : Nat → Int32) (a_figure : Nat → Int32) (a_rail : Nat → Int32) (a_people : Int32) (a_needed : Int32) (p1 : Int32) (r1 : Int32) : Nat → Int32 → Int32 → Option (Int32)
  | 0, _, _ => none
  | n10 + 1, x3, x4 => if r1 < x3 then some x4 else if (x3 &&& (r1 ^^^ (-1 : Int32))) = 0 then ob (f_X2_isTurnedBy N a_height a_kind a_figure a_rail a_people a_needed x3 p1) (fun r7 => if r7 = 0 then L_X2_turnedGroups_10 N a_height a_kind a_figure a_rail a_people a_needed p1 r1 n10 (x3 + (1 : Int32)) x4 else L_X2_turnedGroups_10 N a_height a_kind a_figure a_rail a_people a_needed p1 r1 n10 (x3 + (1 : Int32)) (x4 + (1 : Int32))) else L_X2_turnedGroups_10 N a_height a_kind a_figure a_rail a_people a_needed p1 r1 n10 (x3 + (1 : Int32)) x4
def f_X2_turnedGroups (N : Nat) (a_height : Nat → Int32) (a_kind : Nat → Int32) (a_figure : Nat → Int32) (a_rail : Nat → Int32) (a_shut : Int32) (a_people : Int32) (a_needed : Int32) (p1 : Int32) : Option (Int32) := ob (f_X8_heardOnes N a_rail a_shut a_people) (fun r1 => L_X2_turnedGroups_10 N a_height a_kind a_figure a_rail a_people a_needed p1 r1 N (0 : Int32) (0 : Int32))
set_option maxHeartbeats 4000000 in
set_option maxRecDepth 100000 in
theorem c_X2_turnedGroups (l : Launch) (E : EE) (a_h : Nat) (a_a0 : Nat) (a_a1 : Nat) (a_a2 : Nat) (a_a3 : Nat) (a_a4 : Nat) (a_a5 : Nat) (a_height : Nat → Int32) (a_kind : Nat → Int32) (a_figure : Nat → Int32) (a_rail : Nat → Int32) (a_mood : Nat → Int32) (a_sight : Nat → Int32) (a_moving : Int32) (a_shut : Int32) (a_people : Int32) (a_needed : Int32) (a_day : Int32) (p1 : Int32) (N : Nat) (res : Int32) (hv : f_X2_turnedGroups N a_height a_kind a_figure a_rail a_shut a_people a_needed p1 = some res) : Rd l E yX2_turnedGroups cX2_turnedGroups 5 (some .int) ({ frames := 5, cells := 0, slots := 0, locals := 109 }) [.ref a_h, .int p1] [oSt a_h a_a0 a_a1 a_a2 a_a3 a_a4 a_a5 a_moving a_shut a_people a_needed a_day, ai E a_a0 10 a_height, ai E a_a1 7 a_kind, ai E a_a2 7 a_figure, ai E a_a3 7 a_rail, ai E a_a4 7 a_mood, ai E a_a5 7 a_sight] (some (.int res)) := by
  refine Rd.intro RX2 (by decide) rfl (Nat.le_of_ble_eq_true rfl) ?_
  intro p e s m below meth c ls hC hr hlk hP hG hl
  obtain ⟨hx, hb, hml, hown, ht⟩ := id hC
  have hK := hG.1
  have hl : lv_has ls 5 [(0, .ref a_h), (1, .int p1)] := hl
  rw [f_X2_turnedGroups] at hv
  refine lv_aload_n hx hb dX2_turnedGroups_0 rfl (lv_at hl 0 rfl) ?_
  obtain ⟨r1, h2, hv⟩ := ob_s hv
  refine rdV 2 0 (As := []) (rest := []) (st1 := [.int r1]) (w := [oSt a_h a_a0 a_a1 a_a2 a_a3 a_a4 a_a5 a_moving a_shut a_people a_needed a_day, ai E a_a0 10 a_height, ai E a_a1 7 a_kind, ai E a_a2 7 a_figure, ai E a_a3 7 a_rail, ai E a_a4 7 a_mood, ai E a_a5 7 a_sight]) hC q_X8_heardOnes kw_2_204 (c_X8_heardOnes l E a_h a_a0 a_a1 a_a2 a_a3 a_a4 a_a5 a_height a_kind a_figure a_rail a_mood a_sight a_moving a_shut a_people a_needed a_day N r1 h2) ⟨rfl, rfl⟩ ⟨Nat.le_of_ble_eq_true rfl, Nat.le_of_ble_eq_true rfl⟩ ⟨Nat.zero_le _, Nat.zero_le _⟩ hP rfl rfl rfl hG rfl hl.1 rfl (Nat.le_of_ble_eq_true rfl) dX2_turnedGroups_1 rfl ?_
  refine lv_istore_n (lv' := [(2, .int r1), (0, .ref a_h), (1, .int p1)]) hx hb dX2_turnedGroups_4 rfl hl (by decide) rfl (fun ls hl => ?_)
  refine lv_iconst (v := (0 : Int32)) hx hb dX2_turnedGroups_5 (by decide) ?_
  refine lv_istore_n (lv' := [(3, .int (0 : Int32)), (2, .int r1), (0, .ref a_h), (1, .int p1)]) hx hb dX2_turnedGroups_6 rfl hl (by decide) rfl (fun ls hl => ?_)
  refine lv_iconst (v := (0 : Int32)) hx hb dX2_turnedGroups_7 (by decide) ?_
  refine lv_istore (lv' := [(4, .int (0 : Int32)), (3, .int (0 : Int32)), (2, .int r1), (0, .ref a_h), (1, .int p1)]) hx hb dX2_turnedGroups_8 hl (by decide) rfl (fun ls hl => ?_)
  have hL10 : ∀ (n : Nat) (x3 : Int32) (x4 : Int32) (ls : Array Slot), lv_has ls 5 [(4, .int x3), (3, .int x4), (2, .int r1), (0, .ref a_h), (1, .int p1)] → L_X2_turnedGroups_10 N a_height a_kind a_figure a_rail a_people a_needed p1 r1 n x3 x4 = some res → W p l e ({ frames := 5, cells := 0, slots := 0, locals := 109 }) s m [.ref a_h, .int p1].toArray below meth c s.heap [] 0 0 (MQ below (RdQ (some (.int res))) [.ref a_h, .int p1].toArray s 0 0 (fun _ => False)) (F0 m 10 ls []) := by
    intro n
    induction n with
    | zero => intro x3 x4 ls hl hv; cases hv
    | succ n10 ih10 =>
      intro x3 x4 ls hl hv
      rw [L_X2_turnedGroups_10] at hv
      refine lv_iload hx hb dX2_turnedGroups_10 (lv_at hl 0 rfl) ?_
      refine lv_iload_n hx hb dX2_turnedGroups_12 rfl (lv_at hl 2 rfl) ?_
      refine lv_icmp_gt (tgt := 44) hx hb dX2_turnedGroups_13 (by decide) (fun c5 => ?_) (fun c5 => ?_)
      · have hv := if_y c5 hv
        refine lv_iload_n hx hb dX2_turnedGroups_44 rfl (lv_at hl 1 rfl) ?_
        exact W.iret (v := x4) hx hb hr (fun t h9 _ => ⟨rv_i hv, h9⟩) (fun q h => absurd h List.not_mem_nil) dX2_turnedGroups_45 hlk
      · have hv := if_n c5 hv
        refine lv_iload hx hb dX2_turnedGroups_16 (lv_at hl 0 rfl) ?_
        refine lv_iload_n hx hb dX2_turnedGroups_18 rfl (lv_at hl 2 rfl) ?_
        refine lv_iconst (v := (-1 : Int32)) hx hb dX2_turnedGroups_19 (by decide) ?_
        refine lv_ixor hx hb dX2_turnedGroups_20 ?_
        refine lv_iand hx hb dX2_turnedGroups_21 ?_
        refine lv_if_ne (tgt := 38) hx hb dX2_turnedGroups_22 (by decide) (fun c6 => ?_) (fun c6 => ?_)
        · have hv := if_n c6 hv
          refine lv_iinc (v := (x3 + (1 : Int32))) (lv' := [(4, .int (x3 + (1 : Int32))), (3, .int x4), (2, .int r1), (0, .ref a_h), (1, .int p1)]) hx hb dX2_turnedGroups_38 hl (k := 0) rfl rfl (by decide) rfl (fun ls hl => ?_)
          refine lv_goto (tgt := 10) hx hb dX2_turnedGroups_41 (by decide) ?_
          exact ih10 (x3 + (1 : Int32)) x4 _ (lv_sub hl [0, 1, 2, 3, 4] rfl) hv
        · have hv := if_y c6 hv
          refine lv_aload_n hx hb dX2_turnedGroups_25 rfl (lv_at hl 3 rfl) ?_
          refine lv_iload hx hb dX2_turnedGroups_26 (lv_at hl 0 rfl) ?_
          refine lv_iload_n hx hb dX2_turnedGroups_28 rfl (lv_at hl 4 rfl) ?_
          obtain ⟨r7, h8, hv⟩ := ob_s hv
          refine rdS (rest := []) (st1 := [.int r7]) (w := [oSt a_h a_a0 a_a1 a_a2 a_a3 a_a4 a_a5 a_moving a_shut a_people a_needed a_day, ai E a_a0 10 a_height, ai E a_a1 7 a_kind, ai E a_a2 7 a_figure, ai E a_a3 7 a_rail, ai E a_a4 7 a_mood, ai E a_a5 7 a_sight]) hC q_X2_isTurnedBy kw_2_206 (c_X2_isTurnedBy l E a_h a_a0 a_a1 a_a2 a_a3 a_a4 a_a5 a_height a_kind a_figure a_rail a_mood a_sight a_moving a_shut a_people a_needed a_day x3 p1 N r7 h8) ⟨rfl, rfl⟩ ⟨Nat.le_of_ble_eq_true rfl, Nat.le_of_ble_eq_true rfl⟩ ⟨Nat.zero_le _, Nat.zero_le _⟩ hP hG rfl hl.1 rfl (Nat.le_of_ble_eq_true rfl) dX2_turnedGroups_29 rfl ?_
          refine lv_if_eq (tgt := 38) hx hb dX2_turnedGroups_32 (by decide) (fun c9 => ?_) (fun c9 => ?_)
          · have hv := if_y c9 hv
            refine lv_iinc (v := (x3 + (1 : Int32))) (lv' := [(4, .int (x3 + (1 : Int32))), (3, .int x4), (2, .int r1), (0, .ref a_h), (1, .int p1)]) hx hb dX2_turnedGroups_38 hl (k := 0) rfl rfl (by decide) rfl (fun ls hl => ?_)
            refine lv_goto (tgt := 10) hx hb dX2_turnedGroups_41 (by decide) ?_
            exact ih10 (x3 + (1 : Int32)) x4 _ (lv_sub hl [0, 1, 2, 3, 4] rfl) hv
          · have hv := if_n c9 hv
            refine lv_iinc (v := (x4 + (1 : Int32))) (lv' := [(3, .int (x4 + (1 : Int32))), (4, .int x3), (2, .int r1), (0, .ref a_h), (1, .int p1)]) hx hb dX2_turnedGroups_35 hl (k := 1) rfl rfl (by decide) rfl (fun ls hl => ?_)
            refine lv_iinc (v := (x3 + (1 : Int32))) (lv' := [(4, .int (x3 + (1 : Int32))), (3, .int (x4 + (1 : Int32))), (2, .int r1), (0, .ref a_h), (1, .int p1)]) hx hb dX2_turnedGroups_38 hl (k := 1) rfl rfl (by decide) rfl (fun ls hl => ?_)
            refine lv_goto (tgt := 10) hx hb dX2_turnedGroups_41 (by decide) ?_
            exact ih10 (x3 + (1 : Int32)) (x4 + (1 : Int32)) _ (lv_sub hl [0, 1, 2, 3, 4] rfl) hv
  exact hL10 N (0 : Int32) (0 : Int32) _ (lv_sub hl [0, 1, 2, 3, 4] rfl) hv
theorem dX2_ordersTurned_0 : decode cX2_ordersTurned 0 = .ok (.aload_n 0, 1) := by decide +kernel
theorem dX2_ordersTurned_1 : decode cX2_ordersTurned 1 = .ok (.invokevirtual 40, 3) := by decide +kernel
theorem dX2_ordersTurned_4 : decode cX2_ordersTurned 4 = .ok (.istore_n 2, 1) := by decide +kernel
theorem dX2_ordersTurned_5 : decode cX2_ordersTurned 5 = .ok (.iload_n 2, 1) := by decide +kernel
theorem dX2_ordersTurned_6 : decode cX2_ordersTurned 6 = .ok (.invokestatic 35, 3) := by decide +kernel
theorem dX2_ordersTurned_9 : decode cX2_ordersTurned 9 = .ok (.istore_n 3, 1) := by decide +kernel
theorem dX2_ordersTurned_10 : decode cX2_ordersTurned 10 = .ok (.lconst 0, 1) := by decide +kernel
theorem dX2_ordersTurned_11 : decode cX2_ordersTurned 11 = .ok (.lstore 4, 2) := by decide +kernel
theorem dX2_ordersTurned_13 : decode cX2_ordersTurned 13 = .ok (.iconst 0, 1) := by decide +kernel
theorem dX2_ordersTurned_14 : decode cX2_ordersTurned 14 = .ok (.istore 6, 2) := by decide +kernel
theorem dX2_ordersTurned_16 : decode cX2_ordersTurned 16 = .ok (.iload 6, 2) := by decide +kernel
theorem dX2_ordersTurned_18 : decode cX2_ordersTurned 18 = .ok (.iload_n 2, 1) := by decide +kernel
theorem dX2_ordersTurned_19 : decode cX2_ordersTurned 19 = .ok (.if_icmp .gt 55, 3) := by decide +kernel
theorem dX2_ordersTurned_22 : decode cX2_ordersTurned 22 = .ok (.iload 6, 2) := by decide +kernel
theorem dX2_ordersTurned_24 : decode cX2_ordersTurned 24 = .ok (.iload_n 2, 1) := by decide +kernel
theorem dX2_ordersTurned_25 : decode cX2_ordersTurned 25 = .ok (.iconst (-1), 1) := by decide +kernel
theorem dX2_ordersTurned_26 : decode cX2_ordersTurned 26 = .ok (.ixor, 1) := by decide +kernel
theorem dX2_ordersTurned_27 : decode cX2_ordersTurned 27 = .ok (.iand, 1) := by decide +kernel
theorem dX2_ordersTurned_28 : decode cX2_ordersTurned 28 = .ok (.ifCond .ne 40, 3) := by decide +kernel
theorem dX2_ordersTurned_31 : decode cX2_ordersTurned 31 = .ok (.aload_n 0, 1) := by decide +kernel
theorem dX2_ordersTurned_32 : decode cX2_ordersTurned 32 = .ok (.iload 6, 2) := by decide +kernel
theorem dX2_ordersTurned_34 : decode cX2_ordersTurned 34 = .ok (.iload_n 1, 1) := by decide +kernel
theorem dX2_ordersTurned_35 : decode cX2_ordersTurned 35 = .ok (.invokestatic 53, 3) := by decide +kernel
theorem dX2_ordersTurned_38 : decode cX2_ordersTurned 38 = .ok (.ifCond .eq 30, 3) := by decide +kernel
theorem dX2_ordersTurned_41 : decode cX2_ordersTurned 41 = .ok (.iload 6, 2) := by decide +kernel
theorem dX2_ordersTurned_43 : decode cX2_ordersTurned 43 = .ok (.invokestatic 35, 3) := by decide +kernel
theorem dX2_ordersTurned_46 : decode cX2_ordersTurned 46 = .ok (.istore 7, 2) := by decide +kernel
theorem dX2_ordersTurned_48 : decode cX2_ordersTurned 48 = .ok (.lload 4, 2) := by decide +kernel
theorem dX2_ordersTurned_50 : decode cX2_ordersTurned 50 = .ok (.iload 7, 2) := by decide +kernel
theorem dX2_ordersTurned_52 : decode cX2_ordersTurned 52 = .ok (.iconst 1, 1) := by decide +kernel
theorem dX2_ordersTurned_53 : decode cX2_ordersTurned 53 = .ok (.isub, 1) := by decide +kernel
theorem dX2_ordersTurned_54 : decode cX2_ordersTurned 54 = .ok (.invokestatic 57, 3) := by decide +kernel
theorem dX2_ordersTurned_57 : decode cX2_ordersTurned 57 = .ok (.iload_n 3, 1) := by decide +kernel
theorem dX2_ordersTurned_58 : decode cX2_ordersTurned 58 = .ok (.iload 7, 2) := by decide +kernel
theorem dX2_ordersTurned_60 : decode cX2_ordersTurned 60 = .ok (.isub, 1) := by decide +kernel
theorem dX2_ordersTurned_61 : decode cX2_ordersTurned 61 = .ok (.invokestatic 57, 3) := by decide +kernel
theorem dX2_ordersTurned_64 : decode cX2_ordersTurned 64 = .ok (.lmul, 1) := by decide +kernel
theorem dX2_ordersTurned_65 : decode cX2_ordersTurned 65 = .ok (.ladd, 1) := by decide +kernel
theorem dX2_ordersTurned_66 : decode cX2_ordersTurned 66 = .ok (.lstore 4, 2) := by decide +kernel
theorem dX2_ordersTurned_68 : decode cX2_ordersTurned 68 = .ok (.iinc 6 1, 3) := by decide +kernel
theorem dX2_ordersTurned_71 : decode cX2_ordersTurned 71 = .ok (.goto (-55), 3) := by decide +kernel
theorem dX2_ordersTurned_74 : decode cX2_ordersTurned 74 = .ok (.lload 4, 2) := by decide +kernel
theorem dX2_ordersTurned_76 : decode cX2_ordersTurned 76 = .ok (.lreturn, 1) := by decide +kernel
def L_X2_ordersTurned_16 (N : Nat) (a_height : Nat → Int32) (a_kind : Nat → Int32) (a_figure : Nat → Int32) (a_rail : Nat → Int32) (a_people : Int32) (a_needed : Int32) (p1 : Int32) (r1 : Int32) (r3 : Int32) : Nat → Int32 → Int64 → Option (Int64)
  | 0, _, _ => none
  | n16 + 1, x5, x6 => if r1 < x5 then some x6 else if (x5 &&& (r1 ^^^ (-1 : Int32))) = 0 then ob (f_X2_isTurnedBy N a_height a_kind a_figure a_rail a_people a_needed x5 p1) (fun r9 => if r9 = 0 then L_X2_ordersTurned_16 N a_height a_kind a_figure a_rail a_people a_needed p1 r1 r3 n16 (x5 + (1 : Int32)) x6 else ob (f_J6_bitCount_0f7a4 x5) (fun r12 => ob (f_X2_ordersOf N (r12 - (1 : Int32))) (fun r14 => ob (f_X2_ordersOf N (r3 - r12)) (fun r16 => L_X2_ordersTurned_16 N a_height a_kind a_figure a_rail a_people a_needed p1 r1 r3 n16 (x5 + (1 : Int32)) (x6 + (r14 * r16)))))) else L_X2_ordersTurned_16 N a_height a_kind a_figure a_rail a_people a_needed p1 r1 r3 n16 (x5 + (1 : Int32)) x6
def f_X2_ordersTurned (N : Nat) (a_height : Nat → Int32) (a_kind : Nat → Int32) (a_figure : Nat → Int32) (a_rail : Nat → Int32) (a_shut : Int32) (a_people : Int32) (a_needed : Int32) (p1 : Int32) : Option (Int64) := ob (f_X8_heardOnes N a_rail a_shut a_people) (fun r1 => ob (f_J6_bitCount_0f7a4 r1) (fun r3 => L_X2_ordersTurned_16 N a_height a_kind a_figure a_rail a_people a_needed p1 r1 r3 N (0 : Int32) (0 : Int64)))
set_option maxHeartbeats 4000000 in
set_option maxRecDepth 100000 in
theorem c_X2_ordersTurned (l : Launch) (E : EE) (a_h : Nat) (a_a0 : Nat) (a_a1 : Nat) (a_a2 : Nat) (a_a3 : Nat) (a_a4 : Nat) (a_a5 : Nat) (a_height : Nat → Int32) (a_kind : Nat → Int32) (a_figure : Nat → Int32) (a_rail : Nat → Int32) (a_mood : Nat → Int32) (a_sight : Nat → Int32) (a_moving : Int32) (a_shut : Int32) (a_people : Int32) (a_needed : Int32) (a_day : Int32) (p1 : Int32) (N : Nat) (res : Int64) (hv : f_X2_ordersTurned N a_height a_kind a_figure a_rail a_shut a_people a_needed p1 = some res) : Rd l E yX2_ordersTurned cX2_ordersTurned 8 (some .long) ({ frames := 5, cells := 0, slots := 0, locals := 109 }) [.ref a_h, .int p1] [oSt a_h a_a0 a_a1 a_a2 a_a3 a_a4 a_a5 a_moving a_shut a_people a_needed a_day, ai E a_a0 10 a_height, ai E a_a1 7 a_kind, ai E a_a2 7 a_figure, ai E a_a3 7 a_rail, ai E a_a4 7 a_mood, ai E a_a5 7 a_sight] (some (.long res)) := by
  refine Rd.intro RX2 (by decide) rfl (Nat.le_of_ble_eq_true rfl) ?_
  intro p e s m below meth c ls hC hr hlk hP hG hl
  obtain ⟨hx, hb, hml, hown, ht⟩ := id hC
  have hK := hG.1
  have hl : lv_has ls 8 [(0, .ref a_h), (1, .int p1)] := hl
  rw [f_X2_ordersTurned] at hv
  refine lv_aload_n hx hb dX2_ordersTurned_0 rfl (lv_at hl 0 rfl) ?_
  obtain ⟨r1, h2, hv⟩ := ob_s hv
  refine rdV 2 0 (As := []) (rest := []) (st1 := [.int r1]) (w := [oSt a_h a_a0 a_a1 a_a2 a_a3 a_a4 a_a5 a_moving a_shut a_people a_needed a_day, ai E a_a0 10 a_height, ai E a_a1 7 a_kind, ai E a_a2 7 a_figure, ai E a_a3 7 a_rail, ai E a_a4 7 a_mood, ai E a_a5 7 a_sight]) hC q_X8_heardOnes kw_2_204 (c_X8_heardOnes l E a_h a_a0 a_a1 a_a2 a_a3 a_a4 a_a5 a_height a_kind a_figure a_rail a_mood a_sight a_moving a_shut a_people a_needed a_day N r1 h2) ⟨rfl, rfl⟩ ⟨Nat.le_of_ble_eq_true rfl, Nat.le_of_ble_eq_true rfl⟩ ⟨Nat.zero_le _, Nat.zero_le _⟩ hP rfl rfl rfl hG rfl hl.1 rfl (Nat.le_of_ble_eq_true rfl) dX2_ordersTurned_1 rfl ?_
  refine lv_istore_n (lv' := [(2, .int r1), (0, .ref a_h), (1, .int p1)]) hx hb dX2_ordersTurned_4 rfl hl (by decide) rfl (fun ls hl => ?_)
  refine lv_iload_n hx hb dX2_ordersTurned_5 rfl (lv_at hl 0 rfl) ?_
  obtain ⟨r3, h4, hv⟩ := ob_s hv
  refine rdS (rest := []) (st1 := [.int r3]) (w := []) hC q_J6_bitCount_0f7a4 kw_2_205 (c_J6_bitCount_0f7a4 l E r1 r3 h4) ⟨rfl, rfl⟩ ⟨Nat.le_of_ble_eq_true rfl, Nat.le_of_ble_eq_true rfl⟩ ⟨Nat.zero_le _, Nat.zero_le _⟩ (hP.sub (ws' := []) [] rfl) hG rfl hl.1 rfl (Nat.le_of_ble_eq_true rfl) dX2_ordersTurned_6 rfl ?_
  refine lv_istore_n (lv' := [(3, .int r3), (2, .int r1), (0, .ref a_h), (1, .int p1)]) hx hb dX2_ordersTurned_9 rfl hl (by decide) rfl (fun ls hl => ?_)
  refine lv_lconst (v := (0 : Int64)) hx hb dX2_ordersTurned_10 (by decide) ?_
  refine lv_lstore (lv' := [(4, .long (0 : Int64)), (3, .int r3), (2, .int r1), (0, .ref a_h), (1, .int p1)]) hx hb dX2_ordersTurned_11 hl (by decide) rfl (fun ls hl => ?_)
  refine lv_iconst (v := (0 : Int32)) hx hb dX2_ordersTurned_13 (by decide) ?_
  refine lv_istore (lv' := [(6, .int (0 : Int32)), (4, .long (0 : Int64)), (3, .int r3), (2, .int r1), (0, .ref a_h), (1, .int p1)]) hx hb dX2_ordersTurned_14 hl (by decide) rfl (fun ls hl => ?_)
  have hL16 : ∀ (n : Nat) (x5 : Int32) (x6 : Int64) (ls : Array Slot), lv_has ls 8 [(6, .int x5), (4, .long x6), (3, .int r3), (2, .int r1), (0, .ref a_h), (1, .int p1)] → L_X2_ordersTurned_16 N a_height a_kind a_figure a_rail a_people a_needed p1 r1 r3 n x5 x6 = some res → W p l e ({ frames := 5, cells := 0, slots := 0, locals := 109 }) s m [.ref a_h, .int p1].toArray below meth c s.heap [] 0 0 (MQ below (RdQ (some (.long res))) [.ref a_h, .int p1].toArray s 0 0 (fun _ => False)) (F0 m 16 ls []) := by
    intro n
    induction n with
    | zero => intro x5 x6 ls hl hv; cases hv
    | succ n16 ih16 =>
      intro x5 x6 ls hl hv
      rw [L_X2_ordersTurned_16] at hv
      refine lv_iload hx hb dX2_ordersTurned_16 (lv_at hl 0 rfl) ?_
      refine lv_iload_n hx hb dX2_ordersTurned_18 rfl (lv_at hl 3 rfl) ?_
      refine lv_icmp_gt (tgt := 74) hx hb dX2_ordersTurned_19 (by decide) (fun c7 => ?_) (fun c7 => ?_)
      · have hv := if_y c7 hv
        refine lv_lload hx hb dX2_ordersTurned_74 (lv_at hl 1 rfl) ?_
        exact W.lret (v := x6) hx hb hr (fun t h9 _ => ⟨rv_l hv, h9⟩) (fun q h => absurd h List.not_mem_nil) dX2_ordersTurned_76 hlk
      · have hv := if_n c7 hv
        refine lv_iload hx hb dX2_ordersTurned_22 (lv_at hl 0 rfl) ?_
        refine lv_iload_n hx hb dX2_ordersTurned_24 rfl (lv_at hl 3 rfl) ?_
        refine lv_iconst (v := (-1 : Int32)) hx hb dX2_ordersTurned_25 (by decide) ?_
        refine lv_ixor hx hb dX2_ordersTurned_26 ?_
        refine lv_iand hx hb dX2_ordersTurned_27 ?_
        refine lv_if_ne (tgt := 68) hx hb dX2_ordersTurned_28 (by decide) (fun c8 => ?_) (fun c8 => ?_)
        · have hv := if_n c8 hv
          refine lv_iinc (v := (x5 + (1 : Int32))) (lv' := [(6, .int (x5 + (1 : Int32))), (4, .long x6), (3, .int r3), (2, .int r1), (0, .ref a_h), (1, .int p1)]) hx hb dX2_ordersTurned_68 hl (k := 0) rfl rfl (by decide) rfl (fun ls hl => ?_)
          refine lv_goto (tgt := 16) hx hb dX2_ordersTurned_71 (by decide) ?_
          exact ih16 (x5 + (1 : Int32)) x6 _ (lv_sub hl [0, 1, 2, 3, 4, 5] rfl) hv
        · have hv := if_y c8 hv
          refine lv_aload_n hx hb dX2_ordersTurned_31 rfl (lv_at hl 4 rfl) ?_
          refine lv_iload hx hb dX2_ordersTurned_32 (lv_at hl 0 rfl) ?_
          refine lv_iload_n hx hb dX2_ordersTurned_34 rfl (lv_at hl 5 rfl) ?_
          obtain ⟨r9, h10, hv⟩ := ob_s hv
          refine rdS (rest := []) (st1 := [.int r9]) (w := [oSt a_h a_a0 a_a1 a_a2 a_a3 a_a4 a_a5 a_moving a_shut a_people a_needed a_day, ai E a_a0 10 a_height, ai E a_a1 7 a_kind, ai E a_a2 7 a_figure, ai E a_a3 7 a_rail, ai E a_a4 7 a_mood, ai E a_a5 7 a_sight]) hC q_X2_isTurnedBy kw_2_206 (c_X2_isTurnedBy l E a_h a_a0 a_a1 a_a2 a_a3 a_a4 a_a5 a_height a_kind a_figure a_rail a_mood a_sight a_moving a_shut a_people a_needed a_day x5 p1 N r9 h10) ⟨rfl, rfl⟩ ⟨Nat.le_of_ble_eq_true rfl, Nat.le_of_ble_eq_true rfl⟩ ⟨Nat.zero_le _, Nat.zero_le _⟩ hP hG rfl hl.1 rfl (Nat.le_of_ble_eq_true rfl) dX2_ordersTurned_35 rfl ?_
          refine lv_if_eq (tgt := 68) hx hb dX2_ordersTurned_38 (by decide) (fun c11 => ?_) (fun c11 => ?_)
          · have hv := if_y c11 hv
            refine lv_iinc (v := (x5 + (1 : Int32))) (lv' := [(6, .int (x5 + (1 : Int32))), (4, .long x6), (3, .int r3), (2, .int r1), (0, .ref a_h), (1, .int p1)]) hx hb dX2_ordersTurned_68 hl (k := 0) rfl rfl (by decide) rfl (fun ls hl => ?_)
            refine lv_goto (tgt := 16) hx hb dX2_ordersTurned_71 (by decide) ?_
            exact ih16 (x5 + (1 : Int32)) x6 _ (lv_sub hl [0, 1, 2, 3, 4, 5] rfl) hv
          · have hv := if_n c11 hv
            refine lv_iload hx hb dX2_ordersTurned_41 (lv_at hl 0 rfl) ?_
            obtain ⟨r12, h13, hv⟩ := ob_s hv
            refine rdS (rest := []) (st1 := [.int r12]) (w := []) hC q_J6_bitCount_0f7a4 kw_2_205 (c_J6_bitCount_0f7a4 l E x5 r12 h13) ⟨rfl, rfl⟩ ⟨Nat.le_of_ble_eq_true rfl, Nat.le_of_ble_eq_true rfl⟩ ⟨Nat.zero_le _, Nat.zero_le _⟩ (hP.sub (ws' := []) [] rfl) hG rfl hl.1 rfl (Nat.le_of_ble_eq_true rfl) dX2_ordersTurned_43 rfl ?_
            refine lv_istore (lv' := [(7, .int r12), (6, .int x5), (4, .long x6), (3, .int r3), (2, .int r1), (0, .ref a_h), (1, .int p1)]) hx hb dX2_ordersTurned_46 hl (by decide) rfl (fun ls hl => ?_)
            refine lv_lload hx hb dX2_ordersTurned_48 (lv_at hl 2 rfl) ?_
            refine lv_iload hx hb dX2_ordersTurned_50 (lv_at hl 0 rfl) ?_
            refine lv_iconst (v := (1 : Int32)) hx hb dX2_ordersTurned_52 (by decide) ?_
            refine lv_isub hx hb dX2_ordersTurned_53 ?_
            obtain ⟨r14, h15, hv⟩ := ob_s hv
            refine rdS (rest := [.long x6]) (st1 := [.long r14, .long x6]) (w := []) hC q_X2_ordersOf kw_2_211 (c_X2_ordersOf l E (r12 - (1 : Int32)) N r14 h15) ⟨rfl, rfl⟩ ⟨Nat.le_of_ble_eq_true rfl, Nat.le_of_ble_eq_true rfl⟩ ⟨Nat.zero_le _, Nat.zero_le _⟩ (hP.sub (ws' := []) [] rfl) hG rfl hl.1 rfl (Nat.le_of_ble_eq_true rfl) dX2_ordersTurned_54 rfl ?_
            refine lv_iload_n hx hb dX2_ordersTurned_57 rfl (lv_at hl 3 rfl) ?_
            refine lv_iload hx hb dX2_ordersTurned_58 (lv_at hl 0 rfl) ?_
            refine lv_isub hx hb dX2_ordersTurned_60 ?_
            obtain ⟨r16, h17, hv⟩ := ob_s hv
            refine rdS (rest := [.long r14, .long x6]) (st1 := [.long r16, .long r14, .long x6]) (w := []) hC q_X2_ordersOf kw_2_211 (c_X2_ordersOf l E (r3 - r12) N r16 h17) ⟨rfl, rfl⟩ ⟨Nat.le_of_ble_eq_true rfl, Nat.le_of_ble_eq_true rfl⟩ ⟨Nat.zero_le _, Nat.zero_le _⟩ (hP.sub (ws' := []) [] rfl) hG rfl hl.1 rfl (Nat.le_of_ble_eq_true rfl) dX2_ordersTurned_61 rfl ?_
            refine lv_lmul hx hb dX2_ordersTurned_64 ?_
            refine lv_ladd hx hb dX2_ordersTurned_65 ?_
            refine lv_lstore (lv' := [(4, .long (x6 + (r14 * r16))), (7, .int r12), (6, .int x5), (3, .int r3), (2, .int r1), (0, .ref a_h), (1, .int p1)]) hx hb dX2_ordersTurned_66 hl (by decide) rfl (fun ls hl => ?_)
            refine lv_iinc (v := (x5 + (1 : Int32))) (lv' := [(6, .int (x5 + (1 : Int32))), (4, .long (x6 + (r14 * r16))), (7, .int r12), (3, .int r3), (2, .int r1), (0, .ref a_h), (1, .int p1)]) hx hb dX2_ordersTurned_68 hl (k := 2) rfl rfl (by decide) rfl (fun ls hl => ?_)
            refine lv_goto (tgt := 16) hx hb dX2_ordersTurned_71 (by decide) ?_
            exact ih16 (x5 + (1 : Int32)) (x6 + (r14 * r16)) _ (lv_sub hl [0, 1, 3, 4, 5, 6] rfl) hv
  exact hL16 N (0 : Int32) (0 : Int64) _ (lv_sub hl [0, 1, 2, 3, 4, 5] rfl) hv
theorem dX2_ordersOfHeard_0 : decode cX2_ordersOfHeard 0 = .ok (.aload_n 0, 1) := by decide +kernel
theorem dX2_ordersOfHeard_1 : decode cX2_ordersOfHeard 1 = .ok (.invokevirtual 40, 3) := by decide +kernel
theorem dX2_ordersOfHeard_4 : decode cX2_ordersOfHeard 4 = .ok (.invokestatic 35, 3) := by decide +kernel
theorem dX2_ordersOfHeard_7 : decode cX2_ordersOfHeard 7 = .ok (.invokestatic 57, 3) := by decide +kernel
theorem dX2_ordersOfHeard_10 : decode cX2_ordersOfHeard 10 = .ok (.lreturn, 1) := by decide +kernel
def f_X2_ordersOfHeard (N : Nat) (a_rail : Nat → Int32) (a_shut : Int32) (a_people : Int32) : Option (Int64) := ob (f_X8_heardOnes N a_rail a_shut a_people) (fun r1 => ob (f_J6_bitCount_0f7a4 r1) (fun r3 => ob (f_X2_ordersOf N r3) (fun r5 => some r5)))
set_option maxHeartbeats 4000000 in
set_option maxRecDepth 100000 in
theorem c_X2_ordersOfHeard (l : Launch) (E : EE) (a_h : Nat) (a_a0 : Nat) (a_a1 : Nat) (a_a2 : Nat) (a_a3 : Nat) (a_a4 : Nat) (a_a5 : Nat) (a_height : Nat → Int32) (a_kind : Nat → Int32) (a_figure : Nat → Int32) (a_rail : Nat → Int32) (a_mood : Nat → Int32) (a_sight : Nat → Int32) (a_moving : Int32) (a_shut : Int32) (a_people : Int32) (a_needed : Int32) (a_day : Int32) (N : Nat) (res : Int64) (hv : f_X2_ordersOfHeard N a_rail a_shut a_people = some res) : Rd l E yX2_ordersOfHeard cX2_ordersOfHeard 1 (some .long) ({ frames := 3, cells := 0, slots := 0, locals := 64 }) [.ref a_h] [oSt a_h a_a0 a_a1 a_a2 a_a3 a_a4 a_a5 a_moving a_shut a_people a_needed a_day, ai E a_a0 10 a_height, ai E a_a1 7 a_kind, ai E a_a2 7 a_figure, ai E a_a3 7 a_rail, ai E a_a4 7 a_mood, ai E a_a5 7 a_sight] (some (.long res)) := by
  refine Rd.intro RX2 (by decide) rfl (Nat.le_of_ble_eq_true rfl) ?_
  intro p e s m below meth c ls hC hr hlk hP hG hl
  obtain ⟨hx, hb, hml, hown, ht⟩ := id hC
  have hK := hG.1
  have hl : lv_has ls 1 [(0, .ref a_h)] := hl
  rw [f_X2_ordersOfHeard] at hv
  refine lv_aload_n hx hb dX2_ordersOfHeard_0 rfl (lv_at hl 0 rfl) ?_
  obtain ⟨r1, h2, hv⟩ := ob_s hv
  refine rdV 2 0 (As := []) (rest := []) (st1 := [.int r1]) (w := [oSt a_h a_a0 a_a1 a_a2 a_a3 a_a4 a_a5 a_moving a_shut a_people a_needed a_day, ai E a_a0 10 a_height, ai E a_a1 7 a_kind, ai E a_a2 7 a_figure, ai E a_a3 7 a_rail, ai E a_a4 7 a_mood, ai E a_a5 7 a_sight]) hC q_X8_heardOnes kw_2_204 (c_X8_heardOnes l E a_h a_a0 a_a1 a_a2 a_a3 a_a4 a_a5 a_height a_kind a_figure a_rail a_mood a_sight a_moving a_shut a_people a_needed a_day N r1 h2) ⟨rfl, rfl⟩ ⟨Nat.le_of_ble_eq_true rfl, Nat.le_of_ble_eq_true rfl⟩ ⟨Nat.zero_le _, Nat.zero_le _⟩ hP rfl rfl rfl hG rfl hl.1 rfl (Nat.le_of_ble_eq_true rfl) dX2_ordersOfHeard_1 rfl ?_
  obtain ⟨r3, h4, hv⟩ := ob_s hv
  refine rdS (rest := []) (st1 := [.int r3]) (w := []) hC q_J6_bitCount_0f7a4 kw_2_205 (c_J6_bitCount_0f7a4 l E r1 r3 h4) ⟨rfl, rfl⟩ ⟨Nat.le_of_ble_eq_true rfl, Nat.le_of_ble_eq_true rfl⟩ ⟨Nat.zero_le _, Nat.zero_le _⟩ (hP.sub (ws' := []) [] rfl) hG rfl hl.1 rfl (Nat.le_of_ble_eq_true rfl) dX2_ordersOfHeard_4 rfl ?_
  obtain ⟨r5, h6, hv⟩ := ob_s hv
  refine rdS (rest := []) (st1 := [.long r5]) (w := []) hC q_X2_ordersOf kw_2_211 (c_X2_ordersOf l E r3 N r5 h6) ⟨rfl, rfl⟩ ⟨Nat.le_of_ble_eq_true rfl, Nat.le_of_ble_eq_true rfl⟩ ⟨Nat.zero_le _, Nat.zero_le _⟩ (hP.sub (ws' := []) [] rfl) hG rfl hl.1 rfl (Nat.le_of_ble_eq_true rfl) dX2_ordersOfHeard_7 rfl ?_
  exact W.lret (v := r5) hx hb hr (fun t h9 _ => ⟨rv_l hv, h9⟩) (fun q h => absurd h List.not_mem_nil) dX2_ordersOfHeard_10 hlk
theorem dX4_isTold_0 : decode cX4_isTold 0 = .ok (.aload_n 0, 1) := by decide +kernel
theorem dX4_isTold_1 : decode cX4_isTold 1 = .ok (.getfield 9, 3) := by decide +kernel
theorem dX4_isTold_4 : decode cX4_isTold 4 = .ok (.iconst 2, 1) := by decide +kernel
theorem dX4_isTold_5 : decode cX4_isTold 5 = .ok (.irem, 1) := by decide +kernel
theorem dX4_isTold_6 : decode cX4_isTold 6 = .ok (.ifCond .eq 5, 3) := by decide +kernel
theorem dX4_isTold_9 : decode cX4_isTold 9 = .ok (.iconst 0, 1) := by decide +kernel
theorem dX4_isTold_10 : decode cX4_isTold 10 = .ok (.ireturn, 1) := by decide +kernel
theorem dX4_isTold_11 : decode cX4_isTold 11 = .ok (.iconst 0, 1) := by decide +kernel
theorem dX4_isTold_12 : decode cX4_isTold 12 = .ok (.istore_n 2, 1) := by decide +kernel
theorem dX4_isTold_13 : decode cX4_isTold 13 = .ok (.iload_n 2, 1) := by decide +kernel
theorem dX4_isTold_14 : decode cX4_isTold 14 = .ok (.aload_n 0, 1) := by decide +kernel
theorem dX4_isTold_15 : decode cX4_isTold 15 = .ok (.getfield 9, 3) := by decide +kernel
theorem dX4_isTold_18 : decode cX4_isTold 18 = .ok (.if_icmp .ge 38, 3) := by decide +kernel
theorem dX4_isTold_21 : decode cX4_isTold 21 = .ok (.aload_n 1, 1) := by decide +kernel
theorem dX4_isTold_22 : decode cX4_isTold 22 = .ok (.aload_n 0, 1) := by decide +kernel
theorem dX4_isTold_23 : decode cX4_isTold 23 = .ok (.iload_n 2, 1) := by decide +kernel
theorem dX4_isTold_24 : decode cX4_isTold 24 = .ok (.invokevirtual 15, 3) := by decide +kernel
theorem dX4_isTold_27 : decode cX4_isTold 27 = .ok (.invokevirtual 19, 3) := by decide +kernel
theorem dX4_isTold_30 : decode cX4_isTold 30 = .ok (.ifCond .eq 18, 3) := by decide +kernel
theorem dX4_isTold_33 : decode cX4_isTold 33 = .ok (.aload_n 0, 1) := by decide +kernel
theorem dX4_isTold_34 : decode cX4_isTold 34 = .ok (.iload_n 2, 1) := by decide +kernel
theorem dX4_isTold_35 : decode cX4_isTold 35 = .ok (.iconst 1, 1) := by decide +kernel
theorem dX4_isTold_36 : decode cX4_isTold 36 = .ok (.iadd, 1) := by decide +kernel
theorem dX4_isTold_37 : decode cX4_isTold 37 = .ok (.invokevirtual 15, 3) := by decide +kernel
theorem dX4_isTold_40 : decode cX4_isTold 40 = .ok (.iconst 0, 1) := by decide +kernel
theorem dX4_isTold_41 : decode cX4_isTold 41 = .ok (.iconst 1, 1) := by decide +kernel
theorem dX4_isTold_42 : decode cX4_isTold 42 = .ok (.invokestatic 25, 3) := by decide +kernel
theorem dX4_isTold_45 : decode cX4_isTold 45 = .ok (.ifCond .ne 5, 3) := by decide +kernel
theorem dX4_isTold_48 : decode cX4_isTold 48 = .ok (.iconst 0, 1) := by decide +kernel
theorem dX4_isTold_49 : decode cX4_isTold 49 = .ok (.ireturn, 1) := by decide +kernel
theorem dX4_isTold_50 : decode cX4_isTold 50 = .ok (.iinc 2 2, 3) := by decide +kernel
theorem dX4_isTold_53 : decode cX4_isTold 53 = .ok (.goto (-40), 3) := by decide +kernel
theorem dX4_isTold_56 : decode cX4_isTold 56 = .ok (.iconst 1, 1) := by decide +kernel
theorem dX4_isTold_57 : decode cX4_isTold 57 = .ok (.ireturn, 1) := by decide +kernel
def L_X4_isTold_13 (q_elements : Nat → Int32) (q_size : Int32) (a_people : Int32) : Nat → Int32 → Option (Int32)
  | 0, _ => none
  | n13 + 1, x2 => if q_size ≤ x2 then some (1 : Int32) else ob (f_X7_at q_elements q_size x2) (fun r4 => ob (f_X8_areThere a_people r4) (fun r6 => if r6 = 0 then some (0 : Int32) else ob (f_X7_at q_elements q_size (x2 + (1 : Int32))) (fun r9 => ob (f_X9_isWithin r9 (0 : Int32) (1 : Int32)) (fun r11 => if r11 = 0 then some (0 : Int32) else L_X4_isTold_13 q_elements q_size a_people n13 (x2 + (2 : Int32))))))
def f_X4_isTold (N : Nat) (q_elements : Nat → Int32) (q_size : Int32) (a_people : Int32) : Option (Int32) := if (q_size - q_size / (2 : Int32) * (2 : Int32)) = 0 then L_X4_isTold_13 q_elements q_size a_people N (0 : Int32) else some (0 : Int32)
set_option maxHeartbeats 4000000 in
set_option maxRecDepth 100000 in
theorem c_X4_isTold (l : Launch) (E : EE) (q_h : Nat) (q_a0 : Nat) (a_h : Nat) (a_a0 : Nat) (a_a1 : Nat) (a_a2 : Nat) (a_a3 : Nat) (a_a4 : Nat) (a_a5 : Nat) (q_elements : Nat → Int32) (q_holds : Int32) (q_kind : Int32) (q_figure : Int32) (q_sort : Int32) (q_size : Int32) (a_height : Nat → Int32) (a_kind : Nat → Int32) (a_figure : Nat → Int32) (a_rail : Nat → Int32) (a_mood : Nat → Int32) (a_sight : Nat → Int32) (a_moving : Int32) (a_shut : Int32) (a_people : Int32) (a_needed : Int32) (a_day : Int32) (N : Nat) (res : Int32) (hv : f_X4_isTold N q_elements q_size a_people = some res) : Rd l E yX4_isTold cX4_isTold 3 (some .boolean) ({ frames := 2, cells := 0, slots := 0, locals := 42 }) [.ref q_h, .ref a_h] [oSh q_h q_a0 q_holds q_kind q_figure q_sort q_size, ai E q_a0 100 q_elements, oSt a_h a_a0 a_a1 a_a2 a_a3 a_a4 a_a5 a_moving a_shut a_people a_needed a_day, ai E a_a0 10 a_height, ai E a_a1 7 a_kind, ai E a_a2 7 a_figure, ai E a_a3 7 a_rail, ai E a_a4 7 a_mood, ai E a_a5 7 a_sight] (some (.int res)) := by
  refine Rd.intro RX4 (by decide) rfl (Nat.le_of_ble_eq_true rfl) ?_
  intro p e s m below meth c ls hC hr hlk hP hG hl
  obtain ⟨hx, hb, hml, hown, ht⟩ := id hC
  have hK := hG.1
  have hl : lv_has ls 3 [(0, .ref q_h), (1, .ref a_h)] := hl
  rw [f_X4_isTold] at hv
  refine lv_aload_n hx hb dX4_isTold_0 rfl (lv_at hl 0 rfl) ?_
  refine va_get (D := E.1) (ci := 1) (v := .int q_size) (C := RX7) (T := TX7) (N := 6) hx hb ht i_X7 hown hK hP 0 rfl rfl 5 (by decide) (ht _ kw_1_121) (fun _ h9 => h9) rfl dX4_isTold_1 ?_
  refine lv_iconst (v := (2 : Int32)) hx hb dX4_isTold_4 (by decide) ?_
  refine lv_irem hx hb dX4_isTold_5 (by decide) ?_
  refine lv_if_eq (tgt := 11) hx hb dX4_isTold_6 (by decide) (fun c1 => ?_) (fun c1 => ?_)
  · have hv := if_y c1 hv
    refine lv_iconst (v := (0 : Int32)) hx hb dX4_isTold_11 (by decide) ?_
    refine lv_istore_n (lv' := [(2, .int (0 : Int32)), (0, .ref q_h), (1, .ref a_h)]) hx hb dX4_isTold_12 rfl hl (by decide) rfl (fun ls hl => ?_)
    have hL13 : ∀ (n : Nat) (x2 : Int32) (ls : Array Slot), lv_has ls 3 [(2, .int x2), (0, .ref q_h), (1, .ref a_h)] → L_X4_isTold_13 q_elements q_size a_people n x2 = some res → W p l e ({ frames := 2, cells := 0, slots := 0, locals := 42 }) s m [.ref q_h, .ref a_h].toArray below meth c s.heap [] 0 0 (MQ below (RdQ (some (.int res))) [.ref q_h, .ref a_h].toArray s 0 0 (fun _ => False)) (F0 m 13 ls []) := by
      intro n
      induction n with
      | zero => intro x2 ls hl hv; cases hv
      | succ n13 ih13 =>
        intro x2 ls hl hv
        rw [L_X4_isTold_13] at hv
        refine lv_iload_n hx hb dX4_isTold_13 rfl (lv_at hl 0 rfl) ?_
        refine lv_aload_n hx hb dX4_isTold_14 rfl (lv_at hl 1 rfl) ?_
        refine va_get (D := E.1) (ci := 1) (v := .int q_size) (C := RX7) (T := TX7) (N := 6) hx hb ht i_X7 hown hK hP 0 rfl rfl 5 (by decide) (ht _ kw_1_121) (fun _ h9 => h9) rfl dX4_isTold_15 ?_
        refine lv_icmp_ge (tgt := 56) hx hb dX4_isTold_18 (by decide) (fun c3 => ?_) (fun c3 => ?_)
        · have hv := if_y c3 hv
          refine lv_iconst (v := (1 : Int32)) hx hb dX4_isTold_56 (by decide) ?_
          exact W.zret (v := (1 : Int32)) hx hb hr rfl (fun t h9 _ => ⟨rv_i hv, h9⟩) (fun q h => absurd h List.not_mem_nil) dX4_isTold_57 hlk
        · have hv := if_n c3 hv
          refine lv_aload_n hx hb dX4_isTold_21 rfl (lv_at hl 2 rfl) ?_
          refine lv_aload_n hx hb dX4_isTold_22 rfl (lv_at hl 1 rfl) ?_
          refine lv_iload_n hx hb dX4_isTold_23 rfl (lv_at hl 0 rfl) ?_
          obtain ⟨r4, h5, hv⟩ := ob_s hv
          refine rdV 1 0 (As := [.int x2]) (rest := [.ref a_h]) (st1 := [.int r4, .ref a_h]) (w := [oSh q_h q_a0 q_holds q_kind q_figure q_sort q_size, ai E q_a0 100 q_elements]) hC q_X7_at kw_3_97 (c_X7_at l E q_h q_a0 q_elements q_holds q_kind q_figure q_sort q_size x2 r4 h5) ⟨rfl, rfl⟩ ⟨Nat.le_of_ble_eq_true rfl, Nat.le_of_ble_eq_true rfl⟩ ⟨Nat.zero_le _, Nat.zero_le _⟩ (hP.sub (ws' := [oSh q_h q_a0 q_holds q_kind q_figure q_sort q_size, ai E q_a0 100 q_elements]) [0, 1] rfl) rfl rfl rfl hG rfl hl.1 rfl (Nat.le_of_ble_eq_true rfl) dX4_isTold_24 rfl ?_
          obtain ⟨r6, h7, hv⟩ := ob_s hv
          refine rdV 2 0 (As := [.int r4]) (rest := []) (st1 := [.int r6]) (w := [oSt a_h a_a0 a_a1 a_a2 a_a3 a_a4 a_a5 a_moving a_shut a_people a_needed a_day, ai E a_a0 10 a_height, ai E a_a1 7 a_kind, ai E a_a2 7 a_figure, ai E a_a3 7 a_rail, ai E a_a4 7 a_mood, ai E a_a5 7 a_sight]) hC q_X8_areThere kw_3_98 (c_X8_areThere l E a_h a_a0 a_a1 a_a2 a_a3 a_a4 a_a5 a_height a_kind a_figure a_rail a_mood a_sight a_moving a_shut a_people a_needed a_day r4 r6 h7) ⟨rfl, rfl⟩ ⟨Nat.le_of_ble_eq_true rfl, Nat.le_of_ble_eq_true rfl⟩ ⟨Nat.zero_le _, Nat.zero_le _⟩ (hP.sub (ws' := [oSt a_h a_a0 a_a1 a_a2 a_a3 a_a4 a_a5 a_moving a_shut a_people a_needed a_day, ai E a_a0 10 a_height, ai E a_a1 7 a_kind, ai E a_a2 7 a_figure, ai E a_a3 7 a_rail, ai E a_a4 7 a_mood, ai E a_a5 7 a_sight]) [2, 3, 4, 5, 6, 7, 8] rfl) rfl rfl rfl hG rfl hl.1 rfl (Nat.le_of_ble_eq_true rfl) dX4_isTold_27 rfl ?_
          refine lv_if_eq (tgt := 48) hx hb dX4_isTold_30 (by decide) (fun c8 => ?_) (fun c8 => ?_)
          · have hv := if_y c8 hv
            refine lv_iconst (v := (0 : Int32)) hx hb dX4_isTold_48 (by decide) ?_
            exact W.zret (v := (0 : Int32)) hx hb hr rfl (fun t h9 _ => ⟨rv_i hv, h9⟩) (fun q h => absurd h List.not_mem_nil) dX4_isTold_49 hlk
          · have hv := if_n c8 hv
            refine lv_aload_n hx hb dX4_isTold_33 rfl (lv_at hl 1 rfl) ?_
            refine lv_iload_n hx hb dX4_isTold_34 rfl (lv_at hl 0 rfl) ?_
            refine lv_iconst (v := (1 : Int32)) hx hb dX4_isTold_35 (by decide) ?_
            refine lv_iadd hx hb dX4_isTold_36 ?_
            obtain ⟨r9, h10, hv⟩ := ob_s hv
            refine rdV 1 0 (As := [.int (x2 + (1 : Int32))]) (rest := []) (st1 := [.int r9]) (w := [oSh q_h q_a0 q_holds q_kind q_figure q_sort q_size, ai E q_a0 100 q_elements]) hC q_X7_at kw_3_97 (c_X7_at l E q_h q_a0 q_elements q_holds q_kind q_figure q_sort q_size (x2 + (1 : Int32)) r9 h10) ⟨rfl, rfl⟩ ⟨Nat.le_of_ble_eq_true rfl, Nat.le_of_ble_eq_true rfl⟩ ⟨Nat.zero_le _, Nat.zero_le _⟩ (hP.sub (ws' := [oSh q_h q_a0 q_holds q_kind q_figure q_sort q_size, ai E q_a0 100 q_elements]) [0, 1] rfl) rfl rfl rfl hG rfl hl.1 rfl (Nat.le_of_ble_eq_true rfl) dX4_isTold_37 rfl ?_
            refine lv_iconst (v := (0 : Int32)) hx hb dX4_isTold_40 (by decide) ?_
            refine lv_iconst (v := (1 : Int32)) hx hb dX4_isTold_41 (by decide) ?_
            obtain ⟨r11, h12, hv⟩ := ob_s hv
            refine rdSN (rest := []) (st1 := [.int r11]) (w := []) hC q_X9_isWithin (List.mem_of_getElem? (i := 8) rfl) (c_X9_isWithin l E r9 (0 : Int32) (1 : Int32) r11 h12) ⟨rfl, rfl⟩ ⟨Nat.le_of_ble_eq_true rfl, Nat.le_of_ble_eq_true rfl⟩ ⟨Nat.zero_le _, Nat.zero_le _⟩ (hP.sub (ws' := []) [] rfl) hG rfl hl.1 rfl (Nat.le_of_ble_eq_true rfl) dX4_isTold_42 rfl ?_
            refine lv_if_ne (tgt := 50) hx hb dX4_isTold_45 (by decide) (fun c13 => ?_) (fun c13 => ?_)
            · have hv := if_n c13 hv
              refine lv_iinc (v := (x2 + (2 : Int32))) (lv' := [(2, .int (x2 + (2 : Int32))), (0, .ref q_h), (1, .ref a_h)]) hx hb dX4_isTold_50 hl (k := 0) rfl rfl (by decide) rfl (fun ls hl => ?_)
              refine lv_goto (tgt := 13) hx hb dX4_isTold_53 (by decide) ?_
              exact ih13 (x2 + (2 : Int32)) _ (lv_sub hl [0, 1, 2] rfl) hv
            · have hv := if_y c13 hv
              refine lv_iconst (v := (0 : Int32)) hx hb dX4_isTold_48 (by decide) ?_
              exact W.zret (v := (0 : Int32)) hx hb hr rfl (fun t h9 _ => ⟨rv_i hv, h9⟩) (fun q h => absurd h List.not_mem_nil) dX4_isTold_49 hlk
    exact hL13 N (0 : Int32) _ (lv_sub hl [0, 1, 2] rfl) hv
  · have hv := if_n c1 hv
    refine lv_iconst (v := (0 : Int32)) hx hb dX4_isTold_9 (by decide) ?_
    exact W.zret (v := (0 : Int32)) hx hb hr rfl (fun t h9 _ => ⟨rv_i hv, h9⟩) (fun q h => absurd h List.not_mem_nil) dX4_isTold_10 hlk
theorem dX4_leastQuota_0 : decode cX4_leastQuota 0 = .ok (.aload_n 1, 1) := by decide +kernel
theorem dX4_leastQuota_1 : decode cX4_leastQuota 1 = .ok (.invokevirtual 29, 3) := by decide +kernel
theorem dX4_leastQuota_4 : decode cX4_leastQuota 4 = .ok (.istore_n 2, 1) := by decide +kernel
theorem dX4_leastQuota_5 : decode cX4_leastQuota 5 = .ok (.iconst 1, 1) := by decide +kernel
theorem dX4_leastQuota_6 : decode cX4_leastQuota 6 = .ok (.istore_n 3, 1) := by decide +kernel
theorem dX4_leastQuota_7 : decode cX4_leastQuota 7 = .ok (.iconst 0, 1) := by decide +kernel
theorem dX4_leastQuota_8 : decode cX4_leastQuota 8 = .ok (.istore 4, 2) := by decide +kernel
theorem dX4_leastQuota_10 : decode cX4_leastQuota 10 = .ok (.iload 4, 2) := by decide +kernel
theorem dX4_leastQuota_12 : decode cX4_leastQuota 12 = .ok (.aload_n 0, 1) := by decide +kernel
theorem dX4_leastQuota_13 : decode cX4_leastQuota 13 = .ok (.getfield 9, 3) := by decide +kernel
theorem dX4_leastQuota_16 : decode cX4_leastQuota 16 = .ok (.if_icmp .ge 52, 3) := by decide +kernel
theorem dX4_leastQuota_19 : decode cX4_leastQuota 19 = .ok (.aload_n 0, 1) := by decide +kernel
theorem dX4_leastQuota_20 : decode cX4_leastQuota 20 = .ok (.iload 4, 2) := by decide +kernel
theorem dX4_leastQuota_22 : decode cX4_leastQuota 22 = .ok (.invokevirtual 15, 3) := by decide +kernel
theorem dX4_leastQuota_25 : decode cX4_leastQuota 25 = .ok (.iload_n 2, 1) := by decide +kernel
theorem dX4_leastQuota_26 : decode cX4_leastQuota 26 = .ok (.iand, 1) := by decide +kernel
theorem dX4_leastQuota_27 : decode cX4_leastQuota 27 = .ok (.istore 5, 2) := by decide +kernel
theorem dX4_leastQuota_29 : decode cX4_leastQuota 29 = .ok (.aload_n 0, 1) := by decide +kernel
theorem dX4_leastQuota_30 : decode cX4_leastQuota 30 = .ok (.iload 4, 2) := by decide +kernel
theorem dX4_leastQuota_32 : decode cX4_leastQuota 32 = .ok (.iconst 1, 1) := by decide +kernel
theorem dX4_leastQuota_33 : decode cX4_leastQuota 33 = .ok (.iadd, 1) := by decide +kernel
theorem dX4_leastQuota_34 : decode cX4_leastQuota 34 = .ok (.invokevirtual 15, 3) := by decide +kernel
theorem dX4_leastQuota_37 : decode cX4_leastQuota 37 = .ok (.ifCond .ne 25, 3) := by decide +kernel
theorem dX4_leastQuota_40 : decode cX4_leastQuota 40 = .ok (.aload_n 1, 1) := by decide +kernel
theorem dX4_leastQuota_41 : decode cX4_leastQuota 41 = .ok (.iload 5, 2) := by decide +kernel
theorem dX4_leastQuota_43 : decode cX4_leastQuota 43 = .ok (.invokestatic 33, 3) := by decide +kernel
theorem dX4_leastQuota_46 : decode cX4_leastQuota 46 = .ok (.ifCond .eq 16, 3) := by decide +kernel
theorem dX4_leastQuota_49 : decode cX4_leastQuota 49 = .ok (.iload_n 3, 1) := by decide +kernel
theorem dX4_leastQuota_50 : decode cX4_leastQuota 50 = .ok (.aload_n 1, 1) := by decide +kernel
theorem dX4_leastQuota_51 : decode cX4_leastQuota 51 = .ok (.iload 5, 2) := by decide +kernel
theorem dX4_leastQuota_53 : decode cX4_leastQuota 53 = .ok (.invokevirtual 39, 3) := by decide +kernel
theorem dX4_leastQuota_56 : decode cX4_leastQuota 56 = .ok (.iconst 1, 1) := by decide +kernel
theorem dX4_leastQuota_57 : decode cX4_leastQuota 57 = .ok (.iadd, 1) := by decide +kernel
theorem dX4_leastQuota_58 : decode cX4_leastQuota 58 = .ok (.invokestatic 42, 3) := by decide +kernel
theorem dX4_leastQuota_61 : decode cX4_leastQuota 61 = .ok (.istore_n 3, 1) := by decide +kernel
theorem dX4_leastQuota_62 : decode cX4_leastQuota 62 = .ok (.iinc 4 2, 3) := by decide +kernel
theorem dX4_leastQuota_65 : decode cX4_leastQuota 65 = .ok (.goto (-55), 3) := by decide +kernel
theorem dX4_leastQuota_68 : decode cX4_leastQuota 68 = .ok (.iload_n 3, 1) := by decide +kernel
theorem dX4_leastQuota_69 : decode cX4_leastQuota 69 = .ok (.ireturn, 1) := by decide +kernel
def L_X4_leastQuota_10 (N : Nat) (q_elements : Nat → Int32) (q_size : Int32) (a_height : Nat → Int32) (a_kind : Nat → Int32) (a_figure : Nat → Int32) (a_rail : Nat → Int32) (a_people : Int32) (r1 : Int32) : Nat → Int32 → Int32 → Option (Int32)
  | 0, _, _ => none
  | n10 + 1, x3, x4 => if q_size ≤ x3 then some x4 else ob (f_X7_at q_elements q_size x3) (fun r6 => ob (f_X7_at q_elements q_size (x3 + (1 : Int32))) (fun r8 => if r8 = 0 then ob (f_X2_isCrossing N a_rail a_people (r6 &&& r1)) (fun r11 => if r11 = 0 then L_X4_leastQuota_10 N q_elements q_size a_height a_kind a_figure a_rail a_people r1 n10 (x3 + (2 : Int32)) x4 else ob (f_X8_weightOfAll N a_height a_kind a_figure a_rail a_people (r6 &&& r1)) (fun r14 => nm (if x4 < (r14 + (1 : Int32)) then (r14 + (1 : Int32)) else x4) (fun z16 => L_X4_leastQuota_10 N q_elements q_size a_height a_kind a_figure a_rail a_people r1 n10 (x3 + (2 : Int32)) z16))) else L_X4_leastQuota_10 N q_elements q_size a_height a_kind a_figure a_rail a_people r1 n10 (x3 + (2 : Int32)) x4))
def f_X4_leastQuota (N : Nat) (q_elements : Nat → Int32) (q_size : Int32) (a_height : Nat → Int32) (a_kind : Nat → Int32) (a_figure : Nat → Int32) (a_rail : Nat → Int32) (a_shut : Int32) (a_people : Int32) : Option (Int32) := ob (f_X8_heardOnes N a_rail a_shut a_people) (fun r1 => L_X4_leastQuota_10 N q_elements q_size a_height a_kind a_figure a_rail a_people r1 N (0 : Int32) (1 : Int32))
set_option maxHeartbeats 4000000 in
set_option maxRecDepth 100000 in
theorem c_X4_leastQuota (l : Launch) (E : EE) (q_h : Nat) (q_a0 : Nat) (a_h : Nat) (a_a0 : Nat) (a_a1 : Nat) (a_a2 : Nat) (a_a3 : Nat) (a_a4 : Nat) (a_a5 : Nat) (q_elements : Nat → Int32) (q_holds : Int32) (q_kind : Int32) (q_figure : Int32) (q_sort : Int32) (q_size : Int32) (a_height : Nat → Int32) (a_kind : Nat → Int32) (a_figure : Nat → Int32) (a_rail : Nat → Int32) (a_mood : Nat → Int32) (a_sight : Nat → Int32) (a_moving : Int32) (a_shut : Int32) (a_people : Int32) (a_needed : Int32) (a_day : Int32) (N : Nat) (res : Int32) (hv : f_X4_leastQuota N q_elements q_size a_height a_kind a_figure a_rail a_shut a_people = some res) : Rd l E yX4_leastQuota cX4_leastQuota 6 (some .int) ({ frames := 3, cells := 0, slots := 0, locals := 66 }) [.ref q_h, .ref a_h] [oSh q_h q_a0 q_holds q_kind q_figure q_sort q_size, ai E q_a0 100 q_elements, oSt a_h a_a0 a_a1 a_a2 a_a3 a_a4 a_a5 a_moving a_shut a_people a_needed a_day, ai E a_a0 10 a_height, ai E a_a1 7 a_kind, ai E a_a2 7 a_figure, ai E a_a3 7 a_rail, ai E a_a4 7 a_mood, ai E a_a5 7 a_sight] (some (.int res)) := by
  refine Rd.intro RX4 (by decide) rfl (Nat.le_of_ble_eq_true rfl) ?_
  intro p e s m below meth c ls hC hr hlk hP hG hl
  obtain ⟨hx, hb, hml, hown, ht⟩ := id hC
  have hK := hG.1
  have hl : lv_has ls 6 [(0, .ref q_h), (1, .ref a_h)] := hl
  rw [f_X4_leastQuota] at hv
  refine lv_aload_n hx hb dX4_leastQuota_0 rfl (lv_at hl 1 rfl) ?_
  obtain ⟨r1, h2, hv⟩ := ob_s hv
  refine rdV 2 0 (As := []) (rest := []) (st1 := [.int r1]) (w := [oSt a_h a_a0 a_a1 a_a2 a_a3 a_a4 a_a5 a_moving a_shut a_people a_needed a_day, ai E a_a0 10 a_height, ai E a_a1 7 a_kind, ai E a_a2 7 a_figure, ai E a_a3 7 a_rail, ai E a_a4 7 a_mood, ai E a_a5 7 a_sight]) hC q_X8_heardOnes kw_3_103 (c_X8_heardOnes l E a_h a_a0 a_a1 a_a2 a_a3 a_a4 a_a5 a_height a_kind a_figure a_rail a_mood a_sight a_moving a_shut a_people a_needed a_day N r1 h2) ⟨rfl, rfl⟩ ⟨Nat.le_of_ble_eq_true rfl, Nat.le_of_ble_eq_true rfl⟩ ⟨Nat.zero_le _, Nat.zero_le _⟩ (hP.sub (ws' := [oSt a_h a_a0 a_a1 a_a2 a_a3 a_a4 a_a5 a_moving a_shut a_people a_needed a_day, ai E a_a0 10 a_height, ai E a_a1 7 a_kind, ai E a_a2 7 a_figure, ai E a_a3 7 a_rail, ai E a_a4 7 a_mood, ai E a_a5 7 a_sight]) [2, 3, 4, 5, 6, 7, 8] rfl) rfl rfl rfl hG rfl hl.1 rfl (Nat.le_of_ble_eq_true rfl) dX4_leastQuota_1 rfl ?_
  refine lv_istore_n (lv' := [(2, .int r1), (0, .ref q_h), (1, .ref a_h)]) hx hb dX4_leastQuota_4 rfl hl (by decide) rfl (fun ls hl => ?_)
  refine lv_iconst (v := (1 : Int32)) hx hb dX4_leastQuota_5 (by decide) ?_
  refine lv_istore_n (lv' := [(3, .int (1 : Int32)), (2, .int r1), (0, .ref q_h), (1, .ref a_h)]) hx hb dX4_leastQuota_6 rfl hl (by decide) rfl (fun ls hl => ?_)
  refine lv_iconst (v := (0 : Int32)) hx hb dX4_leastQuota_7 (by decide) ?_
  refine lv_istore (lv' := [(4, .int (0 : Int32)), (3, .int (1 : Int32)), (2, .int r1), (0, .ref q_h), (1, .ref a_h)]) hx hb dX4_leastQuota_8 hl (by decide) rfl (fun ls hl => ?_)
  have hL10 : ∀ (n : Nat) (x3 : Int32) (x4 : Int32) (ls : Array Slot), lv_has ls 6 [(4, .int x3), (3, .int x4), (2, .int r1), (0, .ref q_h), (1, .ref a_h)] → L_X4_leastQuota_10 N q_elements q_size a_height a_kind a_figure a_rail a_people r1 n x3 x4 = some res → W p l e ({ frames := 3, cells := 0, slots := 0, locals := 66 }) s m [.ref q_h, .ref a_h].toArray below meth c s.heap [] 0 0 (MQ below (RdQ (some (.int res))) [.ref q_h, .ref a_h].toArray s 0 0 (fun _ => False)) (F0 m 10 ls []) := by
    intro n
    induction n with
    | zero => intro x3 x4 ls hl hv; cases hv
    | succ n10 ih10 =>
      intro x3 x4 ls hl hv
      rw [L_X4_leastQuota_10] at hv
      refine lv_iload hx hb dX4_leastQuota_10 (lv_at hl 0 rfl) ?_
      refine lv_aload_n hx hb dX4_leastQuota_12 rfl (lv_at hl 3 rfl) ?_
      refine va_get (D := E.1) (ci := 1) (v := .int q_size) (C := RX7) (T := TX7) (N := 6) hx hb ht i_X7 hown hK hP 0 rfl rfl 5 (by decide) (ht _ kw_1_121) (fun _ h9 => h9) rfl dX4_leastQuota_13 ?_
      refine lv_icmp_ge (tgt := 68) hx hb dX4_leastQuota_16 (by decide) (fun c5 => ?_) (fun c5 => ?_)
      · have hv := if_y c5 hv
        refine lv_iload_n hx hb dX4_leastQuota_68 rfl (lv_at hl 1 rfl) ?_
        exact W.iret (v := x4) hx hb hr (fun t h9 _ => ⟨rv_i hv, h9⟩) (fun q h => absurd h List.not_mem_nil) dX4_leastQuota_69 hlk
      · have hv := if_n c5 hv
        refine lv_aload_n hx hb dX4_leastQuota_19 rfl (lv_at hl 3 rfl) ?_
        refine lv_iload hx hb dX4_leastQuota_20 (lv_at hl 0 rfl) ?_
        obtain ⟨r6, h7, hv⟩ := ob_s hv
        refine rdV 1 0 (As := [.int x3]) (rest := []) (st1 := [.int r6]) (w := [oSh q_h q_a0 q_holds q_kind q_figure q_sort q_size, ai E q_a0 100 q_elements]) hC q_X7_at kw_3_97 (c_X7_at l E q_h q_a0 q_elements q_holds q_kind q_figure q_sort q_size x3 r6 h7) ⟨rfl, rfl⟩ ⟨Nat.le_of_ble_eq_true rfl, Nat.le_of_ble_eq_true rfl⟩ ⟨Nat.zero_le _, Nat.zero_le _⟩ (hP.sub (ws' := [oSh q_h q_a0 q_holds q_kind q_figure q_sort q_size, ai E q_a0 100 q_elements]) [0, 1] rfl) rfl rfl rfl hG rfl hl.1 rfl (Nat.le_of_ble_eq_true rfl) dX4_leastQuota_22 rfl ?_
        refine lv_iload_n hx hb dX4_leastQuota_25 rfl (lv_at hl 2 rfl) ?_
        refine lv_iand hx hb dX4_leastQuota_26 ?_
        refine lv_istore (lv' := [(5, .int (r6 &&& r1)), (4, .int x3), (3, .int x4), (2, .int r1), (0, .ref q_h), (1, .ref a_h)]) hx hb dX4_leastQuota_27 hl (by decide) rfl (fun ls hl => ?_)
        refine lv_aload_n hx hb dX4_leastQuota_29 rfl (lv_at hl 4 rfl) ?_
        refine lv_iload hx hb dX4_leastQuota_30 (lv_at hl 1 rfl) ?_
        refine lv_iconst (v := (1 : Int32)) hx hb dX4_leastQuota_32 (by decide) ?_
        refine lv_iadd hx hb dX4_leastQuota_33 ?_
        obtain ⟨r8, h9, hv⟩ := ob_s hv
        refine rdV 1 0 (As := [.int (x3 + (1 : Int32))]) (rest := []) (st1 := [.int r8]) (w := [oSh q_h q_a0 q_holds q_kind q_figure q_sort q_size, ai E q_a0 100 q_elements]) hC q_X7_at kw_3_97 (c_X7_at l E q_h q_a0 q_elements q_holds q_kind q_figure q_sort q_size (x3 + (1 : Int32)) r8 h9) ⟨rfl, rfl⟩ ⟨Nat.le_of_ble_eq_true rfl, Nat.le_of_ble_eq_true rfl⟩ ⟨Nat.zero_le _, Nat.zero_le _⟩ (hP.sub (ws' := [oSh q_h q_a0 q_holds q_kind q_figure q_sort q_size, ai E q_a0 100 q_elements]) [0, 1] rfl) rfl rfl rfl hG rfl hl.1 rfl (Nat.le_of_ble_eq_true rfl) dX4_leastQuota_34 rfl ?_
        refine lv_if_ne (tgt := 62) hx hb dX4_leastQuota_37 (by decide) (fun c10 => ?_) (fun c10 => ?_)
        · have hv := if_n c10 hv
          refine lv_iinc (v := (x3 + (2 : Int32))) (lv' := [(4, .int (x3 + (2 : Int32))), (5, .int (r6 &&& r1)), (3, .int x4), (2, .int r1), (0, .ref q_h), (1, .ref a_h)]) hx hb dX4_leastQuota_62 hl (k := 1) rfl rfl (by decide) rfl (fun ls hl => ?_)
          refine lv_goto (tgt := 10) hx hb dX4_leastQuota_65 (by decide) ?_
          exact ih10 (x3 + (2 : Int32)) x4 _ (lv_sub hl [0, 2, 3, 4, 5] rfl) hv
        · have hv := if_y c10 hv
          refine lv_aload_n hx hb dX4_leastQuota_40 rfl (lv_at hl 5 rfl) ?_
          refine lv_iload hx hb dX4_leastQuota_41 (lv_at hl 0 rfl) ?_
          obtain ⟨r11, h12, hv⟩ := ob_s hv
          refine rdS (rest := []) (st1 := [.int r11]) (w := [oSt a_h a_a0 a_a1 a_a2 a_a3 a_a4 a_a5 a_moving a_shut a_people a_needed a_day, ai E a_a0 10 a_height, ai E a_a1 7 a_kind, ai E a_a2 7 a_figure, ai E a_a3 7 a_rail, ai E a_a4 7 a_mood, ai E a_a5 7 a_sight]) hC q_X2_isCrossing kw_3_104 (c_X2_isCrossing l E a_h a_a0 a_a1 a_a2 a_a3 a_a4 a_a5 a_height a_kind a_figure a_rail a_mood a_sight a_moving a_shut a_people a_needed a_day (r6 &&& r1) N r11 h12) ⟨rfl, rfl⟩ ⟨Nat.le_of_ble_eq_true rfl, Nat.le_of_ble_eq_true rfl⟩ ⟨Nat.zero_le _, Nat.zero_le _⟩ (hP.sub (ws' := [oSt a_h a_a0 a_a1 a_a2 a_a3 a_a4 a_a5 a_moving a_shut a_people a_needed a_day, ai E a_a0 10 a_height, ai E a_a1 7 a_kind, ai E a_a2 7 a_figure, ai E a_a3 7 a_rail, ai E a_a4 7 a_mood, ai E a_a5 7 a_sight]) [2, 3, 4, 5, 6, 7, 8] rfl) hG rfl hl.1 rfl (Nat.le_of_ble_eq_true rfl) dX4_leastQuota_43 rfl ?_
          refine lv_if_eq (tgt := 62) hx hb dX4_leastQuota_46 (by decide) (fun c13 => ?_) (fun c13 => ?_)
          · have hv := if_y c13 hv
            refine lv_iinc (v := (x3 + (2 : Int32))) (lv' := [(4, .int (x3 + (2 : Int32))), (5, .int (r6 &&& r1)), (3, .int x4), (2, .int r1), (0, .ref q_h), (1, .ref a_h)]) hx hb dX4_leastQuota_62 hl (k := 1) rfl rfl (by decide) rfl (fun ls hl => ?_)
            refine lv_goto (tgt := 10) hx hb dX4_leastQuota_65 (by decide) ?_
            exact ih10 (x3 + (2 : Int32)) x4 _ (lv_sub hl [0, 2, 3, 4, 5] rfl) hv
          · have hv := if_n c13 hv
            refine lv_iload_n hx hb dX4_leastQuota_49 rfl (lv_at hl 2 rfl) ?_
            refine lv_aload_n hx hb dX4_leastQuota_50 rfl (lv_at hl 5 rfl) ?_
            refine lv_iload hx hb dX4_leastQuota_51 (lv_at hl 0 rfl) ?_
            obtain ⟨r14, h15, hv⟩ := ob_s hv
            refine rdV 2 0 (As := [.int (r6 &&& r1)]) (rest := [.int x4]) (st1 := [.int r14, .int x4]) (w := [oSt a_h a_a0 a_a1 a_a2 a_a3 a_a4 a_a5 a_moving a_shut a_people a_needed a_day, ai E a_a0 10 a_height, ai E a_a1 7 a_kind, ai E a_a2 7 a_figure, ai E a_a3 7 a_rail, ai E a_a4 7 a_mood, ai E a_a5 7 a_sight]) hC q_X8_weightOfAll kw_3_105 (c_X8_weightOfAll l E a_h a_a0 a_a1 a_a2 a_a3 a_a4 a_a5 a_height a_kind a_figure a_rail a_mood a_sight a_moving a_shut a_people a_needed a_day (r6 &&& r1) N r14 h15) ⟨rfl, rfl⟩ ⟨Nat.le_of_ble_eq_true rfl, Nat.le_of_ble_eq_true rfl⟩ ⟨Nat.zero_le _, Nat.zero_le _⟩ (hP.sub (ws' := [oSt a_h a_a0 a_a1 a_a2 a_a3 a_a4 a_a5 a_moving a_shut a_people a_needed a_day, ai E a_a0 10 a_height, ai E a_a1 7 a_kind, ai E a_a2 7 a_figure, ai E a_a3 7 a_rail, ai E a_a4 7 a_mood, ai E a_a5 7 a_sight]) [2, 3, 4, 5, 6, 7, 8] rfl) rfl rfl rfl hG rfl hl.1 rfl (Nat.le_of_ble_eq_true rfl) dX4_leastQuota_53 rfl ?_
            refine lv_iconst (v := (1 : Int32)) hx hb dX4_leastQuota_56 (by decide) ?_
            refine lv_iadd hx hb dX4_leastQuota_57 ?_
            refine va_mmax hx hb (by rw [hml]; exact hl.1.symm) hown (ht _ kw_3_106) (ht _ kw_2_44) (ht _ kw_1_8) (ht _ kw_2_45) (Nat.le_of_ble_eq_true rfl) (Nat.le_of_ble_eq_true rfl) (Nat.zero_le _) (Nat.zero_le _) dX4_leastQuota_58 ?_
            refine lv_topi (fun z16 ez16 => ?_)
            have hv := nm_s ez16 hv
            refine lv_istore_n (lv' := [(3, .int z16), (5, .int (r6 &&& r1)), (4, .int x3), (2, .int r1), (0, .ref q_h), (1, .ref a_h)]) hx hb dX4_leastQuota_61 rfl hl (by decide) rfl (fun ls hl => ?_)
            refine lv_iinc (v := (x3 + (2 : Int32))) (lv' := [(4, .int (x3 + (2 : Int32))), (3, .int z16), (5, .int (r6 &&& r1)), (2, .int r1), (0, .ref q_h), (1, .ref a_h)]) hx hb dX4_leastQuota_62 hl (k := 2) rfl rfl (by decide) rfl (fun ls hl => ?_)
            refine lv_goto (tgt := 10) hx hb dX4_leastQuota_65 (by decide) ?_
            exact ih10 (x3 + (2 : Int32)) z16 _ (lv_sub hl [0, 1, 3, 4, 5] rfl) hv
  exact hL10 N (0 : Int32) (1 : Int32) _ (lv_sub hl [0, 1, 2, 3, 4] rfl) hv
theorem dX4_greatestQuota_0 : decode cX4_greatestQuota 0 = .ok (.aload_n 1, 1) := by decide +kernel
theorem dX4_greatestQuota_1 : decode cX4_greatestQuota 1 = .ok (.invokevirtual 29, 3) := by decide +kernel
theorem dX4_greatestQuota_4 : decode cX4_greatestQuota 4 = .ok (.istore_n 2, 1) := by decide +kernel
theorem dX4_greatestQuota_5 : decode cX4_greatestQuota 5 = .ok (.bipush 99, 2) := by decide +kernel
theorem dX4_greatestQuota_7 : decode cX4_greatestQuota 7 = .ok (.istore_n 3, 1) := by decide +kernel
theorem dX4_greatestQuota_8 : decode cX4_greatestQuota 8 = .ok (.iconst 0, 1) := by decide +kernel
theorem dX4_greatestQuota_9 : decode cX4_greatestQuota 9 = .ok (.istore 4, 2) := by decide +kernel
theorem dX4_greatestQuota_11 : decode cX4_greatestQuota 11 = .ok (.iload 4, 2) := by decide +kernel
theorem dX4_greatestQuota_13 : decode cX4_greatestQuota 13 = .ok (.aload_n 0, 1) := by decide +kernel
theorem dX4_greatestQuota_14 : decode cX4_greatestQuota 14 = .ok (.getfield 9, 3) := by decide +kernel
theorem dX4_greatestQuota_17 : decode cX4_greatestQuota 17 = .ok (.if_icmp .ge 59, 3) := by decide +kernel
theorem dX4_greatestQuota_20 : decode cX4_greatestQuota 20 = .ok (.aload_n 0, 1) := by decide +kernel
theorem dX4_greatestQuota_21 : decode cX4_greatestQuota 21 = .ok (.iload 4, 2) := by decide +kernel
theorem dX4_greatestQuota_23 : decode cX4_greatestQuota 23 = .ok (.invokevirtual 15, 3) := by decide +kernel
theorem dX4_greatestQuota_26 : decode cX4_greatestQuota 26 = .ok (.iload_n 2, 1) := by decide +kernel
theorem dX4_greatestQuota_27 : decode cX4_greatestQuota 27 = .ok (.iand, 1) := by decide +kernel
theorem dX4_greatestQuota_28 : decode cX4_greatestQuota 28 = .ok (.istore 5, 2) := by decide +kernel
theorem dX4_greatestQuota_30 : decode cX4_greatestQuota 30 = .ok (.aload_n 0, 1) := by decide +kernel
theorem dX4_greatestQuota_31 : decode cX4_greatestQuota 31 = .ok (.iload 4, 2) := by decide +kernel
theorem dX4_greatestQuota_33 : decode cX4_greatestQuota 33 = .ok (.iconst 1, 1) := by decide +kernel
theorem dX4_greatestQuota_34 : decode cX4_greatestQuota 34 = .ok (.iadd, 1) := by decide +kernel
theorem dX4_greatestQuota_35 : decode cX4_greatestQuota 35 = .ok (.invokevirtual 15, 3) := by decide +kernel
theorem dX4_greatestQuota_38 : decode cX4_greatestQuota 38 = .ok (.iconst 1, 1) := by decide +kernel
theorem dX4_greatestQuota_39 : decode cX4_greatestQuota 39 = .ok (.if_icmp .ne 31, 3) := by decide +kernel
theorem dX4_greatestQuota_42 : decode cX4_greatestQuota 42 = .ok (.aload_n 1, 1) := by decide +kernel
theorem dX4_greatestQuota_43 : decode cX4_greatestQuota 43 = .ok (.iload 5, 2) := by decide +kernel
theorem dX4_greatestQuota_45 : decode cX4_greatestQuota 45 = .ok (.invokestatic 33, 3) := by decide +kernel
theorem dX4_greatestQuota_48 : decode cX4_greatestQuota 48 = .ok (.ifCond .eq 12, 3) := by decide +kernel
theorem dX4_greatestQuota_51 : decode cX4_greatestQuota 51 = .ok (.aload_n 1, 1) := by decide +kernel
theorem dX4_greatestQuota_52 : decode cX4_greatestQuota 52 = .ok (.iload 5, 2) := by decide +kernel
theorem dX4_greatestQuota_54 : decode cX4_greatestQuota 54 = .ok (.invokevirtual 39, 3) := by decide +kernel
theorem dX4_greatestQuota_57 : decode cX4_greatestQuota 57 = .ok (.goto 4, 3) := by decide +kernel
theorem dX4_greatestQuota_60 : decode cX4_greatestQuota 60 = .ok (.iconst 0, 1) := by decide +kernel
theorem dX4_greatestQuota_61 : decode cX4_greatestQuota 61 = .ok (.istore 6, 2) := by decide +kernel
theorem dX4_greatestQuota_63 : decode cX4_greatestQuota 63 = .ok (.iload_n 3, 1) := by decide +kernel
theorem dX4_greatestQuota_64 : decode cX4_greatestQuota 64 = .ok (.iload 6, 2) := by decide +kernel
theorem dX4_greatestQuota_66 : decode cX4_greatestQuota 66 = .ok (.invokestatic 48, 3) := by decide +kernel
theorem dX4_greatestQuota_69 : decode cX4_greatestQuota 69 = .ok (.istore_n 3, 1) := by decide +kernel
theorem dX4_greatestQuota_70 : decode cX4_greatestQuota 70 = .ok (.iinc 4 2, 3) := by decide +kernel
theorem dX4_greatestQuota_73 : decode cX4_greatestQuota 73 = .ok (.goto (-62), 3) := by decide +kernel
theorem dX4_greatestQuota_76 : decode cX4_greatestQuota 76 = .ok (.iload_n 3, 1) := by decide +kernel
theorem dX4_greatestQuota_77 : decode cX4_greatestQuota 77 = .ok (.ireturn, 1) := by decide +kernel
def L_X4_greatestQuota_11 (N : Nat) (q_elements : Nat → Int32) (q_size : Int32) (a_height : Nat → Int32) (a_kind : Nat → Int32) (a_figure : Nat → Int32) (a_rail : Nat → Int32) (a_people : Int32) (r1 : Int32) : Nat → Int32 → Int32 → Option (Int32)
  | 0, _, _ => none
  | n11 + 1, x3, x4 => if q_size ≤ x3 then some x4 else ob (f_X7_at q_elements q_size x3) (fun r6 => ob (f_X7_at q_elements q_size (x3 + (1 : Int32))) (fun r8 => if r8 = (1 : Int32) then ob (f_X2_isCrossing N a_rail a_people (r6 &&& r1)) (fun r11 => if r11 = 0 then nm (if (0 : Int32) < x4 then (0 : Int32) else x4) (fun z14 => L_X4_greatestQuota_11 N q_elements q_size a_height a_kind a_figure a_rail a_people r1 n11 (x3 + (2 : Int32)) z14) else ob (f_X8_weightOfAll N a_height a_kind a_figure a_rail a_people (r6 &&& r1)) (fun r15 => L_X4_greatestQuota_11 N q_elements q_size a_height a_kind a_figure a_rail a_people r1 n11 (x3 + (2 : Int32)) (if r15 < x4 then r15 else x4))) else L_X4_greatestQuota_11 N q_elements q_size a_height a_kind a_figure a_rail a_people r1 n11 (x3 + (2 : Int32)) x4))
def f_X4_greatestQuota (N : Nat) (q_elements : Nat → Int32) (q_size : Int32) (a_height : Nat → Int32) (a_kind : Nat → Int32) (a_figure : Nat → Int32) (a_rail : Nat → Int32) (a_shut : Int32) (a_people : Int32) : Option (Int32) := ob (f_X8_heardOnes N a_rail a_shut a_people) (fun r1 => L_X4_greatestQuota_11 N q_elements q_size a_height a_kind a_figure a_rail a_people r1 N (0 : Int32) (99 : Int32))
set_option maxHeartbeats 4000000 in
set_option maxRecDepth 100000 in
theorem c_X4_greatestQuota (l : Launch) (E : EE) (q_h : Nat) (q_a0 : Nat) (a_h : Nat) (a_a0 : Nat) (a_a1 : Nat) (a_a2 : Nat) (a_a3 : Nat) (a_a4 : Nat) (a_a5 : Nat) (q_elements : Nat → Int32) (q_holds : Int32) (q_kind : Int32) (q_figure : Int32) (q_sort : Int32) (q_size : Int32) (a_height : Nat → Int32) (a_kind : Nat → Int32) (a_figure : Nat → Int32) (a_rail : Nat → Int32) (a_mood : Nat → Int32) (a_sight : Nat → Int32) (a_moving : Int32) (a_shut : Int32) (a_people : Int32) (a_needed : Int32) (a_day : Int32) (N : Nat) (res : Int32) (hv : f_X4_greatestQuota N q_elements q_size a_height a_kind a_figure a_rail a_shut a_people = some res) : Rd l E yX4_greatestQuota cX4_greatestQuota 7 (some .int) ({ frames := 3, cells := 0, slots := 0, locals := 66 }) [.ref q_h, .ref a_h] [oSh q_h q_a0 q_holds q_kind q_figure q_sort q_size, ai E q_a0 100 q_elements, oSt a_h a_a0 a_a1 a_a2 a_a3 a_a4 a_a5 a_moving a_shut a_people a_needed a_day, ai E a_a0 10 a_height, ai E a_a1 7 a_kind, ai E a_a2 7 a_figure, ai E a_a3 7 a_rail, ai E a_a4 7 a_mood, ai E a_a5 7 a_sight] (some (.int res)) := by
  refine Rd.intro RX4 (by decide) rfl (Nat.le_of_ble_eq_true rfl) ?_
  intro p e s m below meth c ls hC hr hlk hP hG hl
  obtain ⟨hx, hb, hml, hown, ht⟩ := id hC
  have hK := hG.1
  have hl : lv_has ls 7 [(0, .ref q_h), (1, .ref a_h)] := hl
  rw [f_X4_greatestQuota] at hv
  refine lv_aload_n hx hb dX4_greatestQuota_0 rfl (lv_at hl 1 rfl) ?_
  obtain ⟨r1, h2, hv⟩ := ob_s hv
  refine rdV 2 0 (As := []) (rest := []) (st1 := [.int r1]) (w := [oSt a_h a_a0 a_a1 a_a2 a_a3 a_a4 a_a5 a_moving a_shut a_people a_needed a_day, ai E a_a0 10 a_height, ai E a_a1 7 a_kind, ai E a_a2 7 a_figure, ai E a_a3 7 a_rail, ai E a_a4 7 a_mood, ai E a_a5 7 a_sight]) hC q_X8_heardOnes kw_3_103 (c_X8_heardOnes l E a_h a_a0 a_a1 a_a2 a_a3 a_a4 a_a5 a_height a_kind a_figure a_rail a_mood a_sight a_moving a_shut a_people a_needed a_day N r1 h2) ⟨rfl, rfl⟩ ⟨Nat.le_of_ble_eq_true rfl, Nat.le_of_ble_eq_true rfl⟩ ⟨Nat.zero_le _, Nat.zero_le _⟩ (hP.sub (ws' := [oSt a_h a_a0 a_a1 a_a2 a_a3 a_a4 a_a5 a_moving a_shut a_people a_needed a_day, ai E a_a0 10 a_height, ai E a_a1 7 a_kind, ai E a_a2 7 a_figure, ai E a_a3 7 a_rail, ai E a_a4 7 a_mood, ai E a_a5 7 a_sight]) [2, 3, 4, 5, 6, 7, 8] rfl) rfl rfl rfl hG rfl hl.1 rfl (Nat.le_of_ble_eq_true rfl) dX4_greatestQuota_1 rfl ?_
  refine lv_istore_n (lv' := [(2, .int r1), (0, .ref q_h), (1, .ref a_h)]) hx hb dX4_greatestQuota_4 rfl hl (by decide) rfl (fun ls hl => ?_)
  refine lv_bipush (v := (99 : Int32)) hx hb dX4_greatestQuota_5 (by decide) ?_
  refine lv_istore_n (lv' := [(3, .int (99 : Int32)), (2, .int r1), (0, .ref q_h), (1, .ref a_h)]) hx hb dX4_greatestQuota_7 rfl hl (by decide) rfl (fun ls hl => ?_)
  refine lv_iconst (v := (0 : Int32)) hx hb dX4_greatestQuota_8 (by decide) ?_
  refine lv_istore (lv' := [(4, .int (0 : Int32)), (3, .int (99 : Int32)), (2, .int r1), (0, .ref q_h), (1, .ref a_h)]) hx hb dX4_greatestQuota_9 hl (by decide) rfl (fun ls hl => ?_)
  have hL11 : ∀ (n : Nat) (x3 : Int32) (x4 : Int32) (ls : Array Slot), lv_has ls 7 [(4, .int x3), (3, .int x4), (2, .int r1), (0, .ref q_h), (1, .ref a_h)] → L_X4_greatestQuota_11 N q_elements q_size a_height a_kind a_figure a_rail a_people r1 n x3 x4 = some res → W p l e ({ frames := 3, cells := 0, slots := 0, locals := 66 }) s m [.ref q_h, .ref a_h].toArray below meth c s.heap [] 0 0 (MQ below (RdQ (some (.int res))) [.ref q_h, .ref a_h].toArray s 0 0 (fun _ => False)) (F0 m 11 ls []) := by
    intro n
    induction n with
    | zero => intro x3 x4 ls hl hv; cases hv
    | succ n11 ih11 =>
      intro x3 x4 ls hl hv
      rw [L_X4_greatestQuota_11] at hv
      refine lv_iload hx hb dX4_greatestQuota_11 (lv_at hl 0 rfl) ?_
      refine lv_aload_n hx hb dX4_greatestQuota_13 rfl (lv_at hl 3 rfl) ?_
      refine va_get (D := E.1) (ci := 1) (v := .int q_size) (C := RX7) (T := TX7) (N := 6) hx hb ht i_X7 hown hK hP 0 rfl rfl 5 (by decide) (ht _ kw_1_121) (fun _ h9 => h9) rfl dX4_greatestQuota_14 ?_
      refine lv_icmp_ge (tgt := 76) hx hb dX4_greatestQuota_17 (by decide) (fun c5 => ?_) (fun c5 => ?_)
      · have hv := if_y c5 hv
        refine lv_iload_n hx hb dX4_greatestQuota_76 rfl (lv_at hl 1 rfl) ?_
        exact W.iret (v := x4) hx hb hr (fun t h9 _ => ⟨rv_i hv, h9⟩) (fun q h => absurd h List.not_mem_nil) dX4_greatestQuota_77 hlk
      · have hv := if_n c5 hv
        refine lv_aload_n hx hb dX4_greatestQuota_20 rfl (lv_at hl 3 rfl) ?_
        refine lv_iload hx hb dX4_greatestQuota_21 (lv_at hl 0 rfl) ?_
        obtain ⟨r6, h7, hv⟩ := ob_s hv
        refine rdV 1 0 (As := [.int x3]) (rest := []) (st1 := [.int r6]) (w := [oSh q_h q_a0 q_holds q_kind q_figure q_sort q_size, ai E q_a0 100 q_elements]) hC q_X7_at kw_3_97 (c_X7_at l E q_h q_a0 q_elements q_holds q_kind q_figure q_sort q_size x3 r6 h7) ⟨rfl, rfl⟩ ⟨Nat.le_of_ble_eq_true rfl, Nat.le_of_ble_eq_true rfl⟩ ⟨Nat.zero_le _, Nat.zero_le _⟩ (hP.sub (ws' := [oSh q_h q_a0 q_holds q_kind q_figure q_sort q_size, ai E q_a0 100 q_elements]) [0, 1] rfl) rfl rfl rfl hG rfl hl.1 rfl (Nat.le_of_ble_eq_true rfl) dX4_greatestQuota_23 rfl ?_
        refine lv_iload_n hx hb dX4_greatestQuota_26 rfl (lv_at hl 2 rfl) ?_
        refine lv_iand hx hb dX4_greatestQuota_27 ?_
        refine lv_istore (lv' := [(5, .int (r6 &&& r1)), (4, .int x3), (3, .int x4), (2, .int r1), (0, .ref q_h), (1, .ref a_h)]) hx hb dX4_greatestQuota_28 hl (by decide) rfl (fun ls hl => ?_)
        refine lv_aload_n hx hb dX4_greatestQuota_30 rfl (lv_at hl 4 rfl) ?_
        refine lv_iload hx hb dX4_greatestQuota_31 (lv_at hl 1 rfl) ?_
        refine lv_iconst (v := (1 : Int32)) hx hb dX4_greatestQuota_33 (by decide) ?_
        refine lv_iadd hx hb dX4_greatestQuota_34 ?_
        obtain ⟨r8, h9, hv⟩ := ob_s hv
        refine rdV 1 0 (As := [.int (x3 + (1 : Int32))]) (rest := []) (st1 := [.int r8]) (w := [oSh q_h q_a0 q_holds q_kind q_figure q_sort q_size, ai E q_a0 100 q_elements]) hC q_X7_at kw_3_97 (c_X7_at l E q_h q_a0 q_elements q_holds q_kind q_figure q_sort q_size (x3 + (1 : Int32)) r8 h9) ⟨rfl, rfl⟩ ⟨Nat.le_of_ble_eq_true rfl, Nat.le_of_ble_eq_true rfl⟩ ⟨Nat.zero_le _, Nat.zero_le _⟩ (hP.sub (ws' := [oSh q_h q_a0 q_holds q_kind q_figure q_sort q_size, ai E q_a0 100 q_elements]) [0, 1] rfl) rfl rfl rfl hG rfl hl.1 rfl (Nat.le_of_ble_eq_true rfl) dX4_greatestQuota_35 rfl ?_
        refine lv_iconst (v := (1 : Int32)) hx hb dX4_greatestQuota_38 (by decide) ?_
        refine lv_icmp_ne (tgt := 70) hx hb dX4_greatestQuota_39 (by decide) (fun c10 => ?_) (fun c10 => ?_)
        · have hv := if_n c10 hv
          refine lv_iinc (v := (x3 + (2 : Int32))) (lv' := [(4, .int (x3 + (2 : Int32))), (5, .int (r6 &&& r1)), (3, .int x4), (2, .int r1), (0, .ref q_h), (1, .ref a_h)]) hx hb dX4_greatestQuota_70 hl (k := 1) rfl rfl (by decide) rfl (fun ls hl => ?_)
          refine lv_goto (tgt := 11) hx hb dX4_greatestQuota_73 (by decide) ?_
          exact ih11 (x3 + (2 : Int32)) x4 _ (lv_sub hl [0, 2, 3, 4, 5] rfl) hv
        · have hv := if_y c10 hv
          refine lv_aload_n hx hb dX4_greatestQuota_42 rfl (lv_at hl 5 rfl) ?_
          refine lv_iload hx hb dX4_greatestQuota_43 (lv_at hl 0 rfl) ?_
          obtain ⟨r11, h12, hv⟩ := ob_s hv
          refine rdS (rest := []) (st1 := [.int r11]) (w := [oSt a_h a_a0 a_a1 a_a2 a_a3 a_a4 a_a5 a_moving a_shut a_people a_needed a_day, ai E a_a0 10 a_height, ai E a_a1 7 a_kind, ai E a_a2 7 a_figure, ai E a_a3 7 a_rail, ai E a_a4 7 a_mood, ai E a_a5 7 a_sight]) hC q_X2_isCrossing kw_3_104 (c_X2_isCrossing l E a_h a_a0 a_a1 a_a2 a_a3 a_a4 a_a5 a_height a_kind a_figure a_rail a_mood a_sight a_moving a_shut a_people a_needed a_day (r6 &&& r1) N r11 h12) ⟨rfl, rfl⟩ ⟨Nat.le_of_ble_eq_true rfl, Nat.le_of_ble_eq_true rfl⟩ ⟨Nat.zero_le _, Nat.zero_le _⟩ (hP.sub (ws' := [oSt a_h a_a0 a_a1 a_a2 a_a3 a_a4 a_a5 a_moving a_shut a_people a_needed a_day, ai E a_a0 10 a_height, ai E a_a1 7 a_kind, ai E a_a2 7 a_figure, ai E a_a3 7 a_rail, ai E a_a4 7 a_mood, ai E a_a5 7 a_sight]) [2, 3, 4, 5, 6, 7, 8] rfl) hG rfl hl.1 rfl (Nat.le_of_ble_eq_true rfl) dX4_greatestQuota_45 rfl ?_
          refine lv_if_eq (tgt := 60) hx hb dX4_greatestQuota_48 (by decide) (fun c13 => ?_) (fun c13 => ?_)
          · have hv := if_y c13 hv
            refine lv_iconst (v := (0 : Int32)) hx hb dX4_greatestQuota_60 (by decide) ?_
            refine lv_istore (lv' := [(6, .int (0 : Int32)), (5, .int (r6 &&& r1)), (4, .int x3), (3, .int x4), (2, .int r1), (0, .ref q_h), (1, .ref a_h)]) hx hb dX4_greatestQuota_61 hl (by decide) rfl (fun ls hl => ?_)
            refine lv_iload_n hx hb dX4_greatestQuota_63 rfl (lv_at hl 3 rfl) ?_
            refine lv_iload hx hb dX4_greatestQuota_64 (lv_at hl 0 rfl) ?_
            refine va_mmin hx hb (by rw [hml]; exact hl.1.symm) hown (ht _ kw_3_110) (ht _ kw_2_41) (ht _ kw_1_8) (ht _ kw_2_42) (Nat.le_of_ble_eq_true rfl) (Nat.le_of_ble_eq_true rfl) (Nat.zero_le _) (Nat.zero_le _) dX4_greatestQuota_66 ?_
            refine lv_topi (fun z14 ez14 => ?_)
            have hv := nm_s ez14 hv
            refine lv_istore_n (lv' := [(3, .int z14), (6, .int (0 : Int32)), (5, .int (r6 &&& r1)), (4, .int x3), (2, .int r1), (0, .ref q_h), (1, .ref a_h)]) hx hb dX4_greatestQuota_69 rfl hl (by decide) rfl (fun ls hl => ?_)
            refine lv_iinc (v := (x3 + (2 : Int32))) (lv' := [(4, .int (x3 + (2 : Int32))), (3, .int z14), (6, .int (0 : Int32)), (5, .int (r6 &&& r1)), (2, .int r1), (0, .ref q_h), (1, .ref a_h)]) hx hb dX4_greatestQuota_70 hl (k := 3) rfl rfl (by decide) rfl (fun ls hl => ?_)
            refine lv_goto (tgt := 11) hx hb dX4_greatestQuota_73 (by decide) ?_
            exact ih11 (x3 + (2 : Int32)) z14 _ (lv_sub hl [0, 1, 4, 5, 6] rfl) hv
          · have hv := if_n c13 hv
            refine lv_aload_n hx hb dX4_greatestQuota_51 rfl (lv_at hl 5 rfl) ?_
            refine lv_iload hx hb dX4_greatestQuota_52 (lv_at hl 0 rfl) ?_
            obtain ⟨r15, h16, hv⟩ := ob_s hv
            refine rdV 2 0 (As := [.int (r6 &&& r1)]) (rest := []) (st1 := [.int r15]) (w := [oSt a_h a_a0 a_a1 a_a2 a_a3 a_a4 a_a5 a_moving a_shut a_people a_needed a_day, ai E a_a0 10 a_height, ai E a_a1 7 a_kind, ai E a_a2 7 a_figure, ai E a_a3 7 a_rail, ai E a_a4 7 a_mood, ai E a_a5 7 a_sight]) hC q_X8_weightOfAll kw_3_105 (c_X8_weightOfAll l E a_h a_a0 a_a1 a_a2 a_a3 a_a4 a_a5 a_height a_kind a_figure a_rail a_mood a_sight a_moving a_shut a_people a_needed a_day (r6 &&& r1) N r15 h16) ⟨rfl, rfl⟩ ⟨Nat.le_of_ble_eq_true rfl, Nat.le_of_ble_eq_true rfl⟩ ⟨Nat.zero_le _, Nat.zero_le _⟩ (hP.sub (ws' := [oSt a_h a_a0 a_a1 a_a2 a_a3 a_a4 a_a5 a_moving a_shut a_people a_needed a_day, ai E a_a0 10 a_height, ai E a_a1 7 a_kind, ai E a_a2 7 a_figure, ai E a_a3 7 a_rail, ai E a_a4 7 a_mood, ai E a_a5 7 a_sight]) [2, 3, 4, 5, 6, 7, 8] rfl) rfl rfl rfl hG rfl hl.1 rfl (Nat.le_of_ble_eq_true rfl) dX4_greatestQuota_54 rfl ?_
            refine lv_goto (tgt := 61) hx hb dX4_greatestQuota_57 (by decide) ?_
            refine lv_istore (lv' := [(6, .int r15), (5, .int (r6 &&& r1)), (4, .int x3), (3, .int x4), (2, .int r1), (0, .ref q_h), (1, .ref a_h)]) hx hb dX4_greatestQuota_61 hl (by decide) rfl (fun ls hl => ?_)
            refine lv_iload_n hx hb dX4_greatestQuota_63 rfl (lv_at hl 3 rfl) ?_
            refine lv_iload hx hb dX4_greatestQuota_64 (lv_at hl 0 rfl) ?_
            refine va_mmin hx hb (by rw [hml]; exact hl.1.symm) hown (ht _ kw_3_110) (ht _ kw_2_41) (ht _ kw_1_8) (ht _ kw_2_42) (Nat.le_of_ble_eq_true rfl) (Nat.le_of_ble_eq_true rfl) (Nat.zero_le _) (Nat.zero_le _) dX4_greatestQuota_66 ?_
            refine lv_istore_n (lv' := [(3, .int (if r15 < x4 then r15 else x4)), (6, .int r15), (5, .int (r6 &&& r1)), (4, .int x3), (2, .int r1), (0, .ref q_h), (1, .ref a_h)]) hx hb dX4_greatestQuota_69 rfl hl (by decide) rfl (fun ls hl => ?_)
            refine lv_iinc (v := (x3 + (2 : Int32))) (lv' := [(4, .int (x3 + (2 : Int32))), (3, .int (if r15 < x4 then r15 else x4)), (6, .int r15), (5, .int (r6 &&& r1)), (2, .int r1), (0, .ref q_h), (1, .ref a_h)]) hx hb dX4_greatestQuota_70 hl (k := 3) rfl rfl (by decide) rfl (fun ls hl => ?_)
            refine lv_goto (tgt := 11) hx hb dX4_greatestQuota_73 (by decide) ?_
            exact ih11 (x3 + (2 : Int32)) (if r15 < x4 then r15 else x4) _ (lv_sub hl [0, 1, 4, 5, 6] rfl) hv
  exact hL11 N (0 : Int32) (99 : Int32) _ (lv_sub hl [0, 1, 2, 3, 4] rfl) hv
