theorem dX8_isThere_0 : decode cX8_isThere 0 = .ok (.iload_n 1, 1) := by decide +kernel
theorem dX8_isThere_1 : decode cX8_isThere 1 = .ok (.ifCond .lt 15, 3) := by decide +kernel
theorem dX8_isThere_4 : decode cX8_isThere 4 = .ok (.iload_n 1, 1) := by decide +kernel
theorem dX8_isThere_5 : decode cX8_isThere 5 = .ok (.aload_n 0, 1) := by decide +kernel
theorem dX8_isThere_6 : decode cX8_isThere 6 = .ok (.getfield 43, 3) := by decide +kernel
theorem dX8_isThere_9 : decode cX8_isThere 9 = .ok (.if_icmp .ge 7, 3) := by decide +kernel
theorem dX8_isThere_12 : decode cX8_isThere 12 = .ok (.iconst 1, 1) := by decide +kernel
theorem dX8_isThere_13 : decode cX8_isThere 13 = .ok (.goto 4, 3) := by decide +kernel
theorem dX8_isThere_16 : decode cX8_isThere 16 = .ok (.iconst 0, 1) := by decide +kernel
theorem dX8_isThere_17 : decode cX8_isThere 17 = .ok (.ireturn, 1) := by decide +kernel
def f_X8_isThere (t_people : Int32) (p1 : Int32) : Option (Int32) := if p1 < 0 then some (0 : Int32) else if t_people ≤ p1 then some (0 : Int32) else some (1 : Int32)
set_option maxHeartbeats 4000000 in
set_option maxRecDepth 100000 in
theorem c_X8_isThere (l : Launch) (E : EE) (t_h : Nat) (t_a0 : Nat) (t_a1 : Nat) (t_a2 : Nat) (t_a3 : Nat) (t_a4 : Nat) (t_a5 : Nat) (t_height : Nat → Int32) (t_kind : Nat → Int32) (t_figure : Nat → Int32) (t_rail : Nat → Int32) (t_mood : Nat → Int32) (t_sight : Nat → Int32) (t_moving : Int32) (t_shut : Int32) (t_people : Int32) (t_needed : Int32) (t_day : Int32) (p1 : Int32) (res : Int32) (hv : f_X8_isThere t_people p1 = some res) : Rd l E yX8_isThere cX8_isThere 2 (some .boolean) ({ frames := 0, cells := 0, slots := 0, locals := 0 }) [.ref t_h, .int p1] [oSt t_h t_a0 t_a1 t_a2 t_a3 t_a4 t_a5 t_moving t_shut t_people t_needed t_day, ai E t_a0 10 t_height, ai E t_a1 7 t_kind, ai E t_a2 7 t_figure, ai E t_a3 7 t_rail, ai E t_a4 7 t_mood, ai E t_a5 7 t_sight] (some (.int res)) := by
  refine Rd.intro RX8 (by decide) rfl (Nat.le_of_ble_eq_true rfl) ?_
  intro p e s m below meth c ls hC hr hlk hP hG hl
  obtain ⟨hx, hb, hml, hown, ht⟩ := id hC
  have hK := hG.1
  have hl : lv_has ls 2 [(0, .ref t_h), (1, .int p1)] := hl
  rw [f_X8_isThere] at hv
  refine lv_iload_n hx hb dX8_isThere_0 rfl (lv_at hl 1 rfl) ?_
  refine lv_if_lt (tgt := 16) hx hb dX8_isThere_1 (by decide) (fun c1 => ?_) (fun c1 => ?_)
  · have hv := if_y c1 hv
    refine lv_iconst (v := (0 : Int32)) hx hb dX8_isThere_16 (by decide) ?_
    exact W.zret (v := (0 : Int32)) hx hb hr rfl (fun t h9 _ => ⟨rv_i hv, h9⟩) (fun q h => absurd h List.not_mem_nil) dX8_isThere_17 hlk
  · have hv := if_n c1 hv
    refine lv_iload_n hx hb dX8_isThere_4 rfl (lv_at hl 1 rfl) ?_
    refine lv_aload_n hx hb dX8_isThere_5 rfl (lv_at hl 0 rfl) ?_
    refine va_get (D := E.1) (ci := 2) (v := .int t_people) (C := RX8) (T := TX8) (N := 11) hx hb ht i_X8 hown hK hP 0 rfl rfl 8 (by decide) (ht _ kw_1_53) (fun _ h9 => h9) rfl dX8_isThere_6 ?_
    refine lv_icmp_ge (tgt := 16) hx hb dX8_isThere_9 (by decide) (fun c2 => ?_) (fun c2 => ?_)
    · have hv := if_y c2 hv
      refine lv_iconst (v := (0 : Int32)) hx hb dX8_isThere_16 (by decide) ?_
      exact W.zret (v := (0 : Int32)) hx hb hr rfl (fun t h9 _ => ⟨rv_i hv, h9⟩) (fun q h => absurd h List.not_mem_nil) dX8_isThere_17 hlk
    · have hv := if_n c2 hv
      refine lv_iconst (v := (1 : Int32)) hx hb dX8_isThere_12 (by decide) ?_
      refine lv_goto (tgt := 17) hx hb dX8_isThere_13 (by decide) ?_
      exact W.zret (v := (1 : Int32)) hx hb hr rfl (fun t h9 _ => ⟨rv_i hv, h9⟩) (fun q h => absurd h List.not_mem_nil) dX8_isThere_17 hlk
theorem dX8_areThere_0 : decode cX8_areThere 0 = .ok (.iload_n 1, 1) := by decide +kernel
theorem dX8_areThere_1 : decode cX8_areThere 1 = .ok (.ifCond .lt 17, 3) := by decide +kernel
theorem dX8_areThere_4 : decode cX8_areThere 4 = .ok (.iload_n 1, 1) := by decide +kernel
theorem dX8_areThere_5 : decode cX8_areThere 5 = .ok (.iconst 1, 1) := by decide +kernel
theorem dX8_areThere_6 : decode cX8_areThere 6 = .ok (.aload_n 0, 1) := by decide +kernel
theorem dX8_areThere_7 : decode cX8_areThere 7 = .ok (.getfield 43, 3) := by decide +kernel
theorem dX8_areThere_10 : decode cX8_areThere 10 = .ok (.ishl, 1) := by decide +kernel
theorem dX8_areThere_11 : decode cX8_areThere 11 = .ok (.if_icmp .ge 7, 3) := by decide +kernel
theorem dX8_areThere_14 : decode cX8_areThere 14 = .ok (.iconst 1, 1) := by decide +kernel
theorem dX8_areThere_15 : decode cX8_areThere 15 = .ok (.goto 4, 3) := by decide +kernel
theorem dX8_areThere_18 : decode cX8_areThere 18 = .ok (.iconst 0, 1) := by decide +kernel
theorem dX8_areThere_19 : decode cX8_areThere 19 = .ok (.ireturn, 1) := by decide +kernel
def f_X8_areThere (t_people : Int32) (p1 : Int32) : Option (Int32) := if p1 < 0 then some (0 : Int32) else if ((1 : Int32) <<< (t_people &&& 31)) ≤ p1 then some (0 : Int32) else some (1 : Int32)
set_option maxHeartbeats 4000000 in
set_option maxRecDepth 100000 in
theorem c_X8_areThere (l : Launch) (E : EE) (t_h : Nat) (t_a0 : Nat) (t_a1 : Nat) (t_a2 : Nat) (t_a3 : Nat) (t_a4 : Nat) (t_a5 : Nat) (t_height : Nat → Int32) (t_kind : Nat → Int32) (t_figure : Nat → Int32) (t_rail : Nat → Int32) (t_mood : Nat → Int32) (t_sight : Nat → Int32) (t_moving : Int32) (t_shut : Int32) (t_people : Int32) (t_needed : Int32) (t_day : Int32) (p1 : Int32) (res : Int32) (hv : f_X8_areThere t_people p1 = some res) : Rd l E yX8_areThere cX8_areThere 2 (some .boolean) ({ frames := 0, cells := 0, slots := 0, locals := 0 }) [.ref t_h, .int p1] [oSt t_h t_a0 t_a1 t_a2 t_a3 t_a4 t_a5 t_moving t_shut t_people t_needed t_day, ai E t_a0 10 t_height, ai E t_a1 7 t_kind, ai E t_a2 7 t_figure, ai E t_a3 7 t_rail, ai E t_a4 7 t_mood, ai E t_a5 7 t_sight] (some (.int res)) := by
  refine Rd.intro RX8 (by decide) rfl (Nat.le_of_ble_eq_true rfl) ?_
  intro p e s m below meth c ls hC hr hlk hP hG hl
  obtain ⟨hx, hb, hml, hown, ht⟩ := id hC
  have hK := hG.1
  have hl : lv_has ls 2 [(0, .ref t_h), (1, .int p1)] := hl
  rw [f_X8_areThere] at hv
  refine lv_iload_n hx hb dX8_areThere_0 rfl (lv_at hl 1 rfl) ?_
  refine lv_if_lt (tgt := 18) hx hb dX8_areThere_1 (by decide) (fun c1 => ?_) (fun c1 => ?_)
  · have hv := if_y c1 hv
    refine lv_iconst (v := (0 : Int32)) hx hb dX8_areThere_18 (by decide) ?_
    exact W.zret (v := (0 : Int32)) hx hb hr rfl (fun t h9 _ => ⟨rv_i hv, h9⟩) (fun q h => absurd h List.not_mem_nil) dX8_areThere_19 hlk
  · have hv := if_n c1 hv
    refine lv_iload_n hx hb dX8_areThere_4 rfl (lv_at hl 1 rfl) ?_
    refine lv_iconst (v := (1 : Int32)) hx hb dX8_areThere_5 (by decide) ?_
    refine lv_aload_n hx hb dX8_areThere_6 rfl (lv_at hl 0 rfl) ?_
    refine va_get (D := E.1) (ci := 2) (v := .int t_people) (C := RX8) (T := TX8) (N := 11) hx hb ht i_X8 hown hK hP 0 rfl rfl 8 (by decide) (ht _ kw_1_53) (fun _ h9 => h9) rfl dX8_areThere_7 ?_
    refine lv_ishl hx hb dX8_areThere_10 ?_
    refine lv_icmp_ge (tgt := 18) hx hb dX8_areThere_11 (by decide) (fun c2 => ?_) (fun c2 => ?_)
    · have hv := if_y c2 hv
      refine lv_iconst (v := (0 : Int32)) hx hb dX8_areThere_18 (by decide) ?_
      exact W.zret (v := (0 : Int32)) hx hb hr rfl (fun t h9 _ => ⟨rv_i hv, h9⟩) (fun q h => absurd h List.not_mem_nil) dX8_areThere_19 hlk
    · have hv := if_n c2 hv
      refine lv_iconst (v := (1 : Int32)) hx hb dX8_areThere_14 (by decide) ?_
      refine lv_goto (tgt := 19) hx hb dX8_areThere_15 (by decide) ?_
      exact W.zret (v := (1 : Int32)) hx hb hr rfl (fun t h9 _ => ⟨rv_i hv, h9⟩) (fun q h => absurd h List.not_mem_nil) dX8_areThere_19 hlk
theorem dX8_hasRoom_0 : decode cX8_hasRoom 0 = .ok (.aload_n 0, 1) := by decide +kernel
theorem dX8_hasRoom_1 : decode cX8_hasRoom 1 = .ok (.getfield 43, 3) := by decide +kernel
theorem dX8_hasRoom_4 : decode cX8_hasRoom 4 = .ok (.bipush 7, 2) := by decide +kernel
theorem dX8_hasRoom_6 : decode cX8_hasRoom 6 = .ok (.if_icmp .ge 7, 3) := by decide +kernel
theorem dX8_hasRoom_9 : decode cX8_hasRoom 9 = .ok (.iconst 1, 1) := by decide +kernel
theorem dX8_hasRoom_10 : decode cX8_hasRoom 10 = .ok (.goto 4, 3) := by decide +kernel
theorem dX8_hasRoom_13 : decode cX8_hasRoom 13 = .ok (.iconst 0, 1) := by decide +kernel
theorem dX8_hasRoom_14 : decode cX8_hasRoom 14 = .ok (.ireturn, 1) := by decide +kernel
def f_X8_hasRoom (t_people : Int32) : Option (Int32) := if (7 : Int32) ≤ t_people then some (0 : Int32) else some (1 : Int32)
set_option maxHeartbeats 4000000 in
set_option maxRecDepth 100000 in
theorem c_X8_hasRoom (l : Launch) (E : EE) (t_h : Nat) (t_a0 : Nat) (t_a1 : Nat) (t_a2 : Nat) (t_a3 : Nat) (t_a4 : Nat) (t_a5 : Nat) (t_height : Nat → Int32) (t_kind : Nat → Int32) (t_figure : Nat → Int32) (t_rail : Nat → Int32) (t_mood : Nat → Int32) (t_sight : Nat → Int32) (t_moving : Int32) (t_shut : Int32) (t_people : Int32) (t_needed : Int32) (t_day : Int32) (res : Int32) (hv : f_X8_hasRoom t_people = some res) : Rd l E yX8_hasRoom cX8_hasRoom 1 (some .boolean) ({ frames := 0, cells := 0, slots := 0, locals := 0 }) [.ref t_h] [oSt t_h t_a0 t_a1 t_a2 t_a3 t_a4 t_a5 t_moving t_shut t_people t_needed t_day, ai E t_a0 10 t_height, ai E t_a1 7 t_kind, ai E t_a2 7 t_figure, ai E t_a3 7 t_rail, ai E t_a4 7 t_mood, ai E t_a5 7 t_sight] (some (.int res)) := by
  refine Rd.intro RX8 (by decide) rfl (Nat.le_of_ble_eq_true rfl) ?_
  intro p e s m below meth c ls hC hr hlk hP hG hl
  obtain ⟨hx, hb, hml, hown, ht⟩ := id hC
  have hK := hG.1
  have hl : lv_has ls 1 [(0, .ref t_h)] := hl
  rw [f_X8_hasRoom] at hv
  refine lv_aload_n hx hb dX8_hasRoom_0 rfl (lv_at hl 0 rfl) ?_
  refine va_get (D := E.1) (ci := 2) (v := .int t_people) (C := RX8) (T := TX8) (N := 11) hx hb ht i_X8 hown hK hP 0 rfl rfl 8 (by decide) (ht _ kw_1_53) (fun _ h9 => h9) rfl dX8_hasRoom_1 ?_
  refine lv_bipush (v := (7 : Int32)) hx hb dX8_hasRoom_4 (by decide) ?_
  refine lv_icmp_ge (tgt := 13) hx hb dX8_hasRoom_6 (by decide) (fun c1 => ?_) (fun c1 => ?_)
  · have hv := if_y c1 hv
    refine lv_iconst (v := (0 : Int32)) hx hb dX8_hasRoom_13 (by decide) ?_
    exact W.zret (v := (0 : Int32)) hx hb hr rfl (fun t h9 _ => ⟨rv_i hv, h9⟩) (fun q h => absurd h List.not_mem_nil) dX8_hasRoom_14 hlk
  · have hv := if_n c1 hv
    refine lv_iconst (v := (1 : Int32)) hx hb dX8_hasRoom_9 (by decide) ?_
    refine lv_goto (tgt := 14) hx hb dX8_hasRoom_10 (by decide) ?_
    exact W.zret (v := (1 : Int32)) hx hb hr rfl (fun t h9 _ => ⟨rv_i hv, h9⟩) (fun q h => absurd h List.not_mem_nil) dX8_hasRoom_14 hlk
theorem dX8_hasDaysLeft_0 : decode cX8_hasDaysLeft 0 = .ok (.aload_n 0, 1) := by decide +kernel
theorem dX8_hasDaysLeft_1 : decode cX8_hasDaysLeft 1 = .ok (.getfield 46, 3) := by decide +kernel
theorem dX8_hasDaysLeft_4 : decode cX8_hasDaysLeft 4 = .ok (.iload_n 1, 1) := by decide +kernel
theorem dX8_hasDaysLeft_5 : decode cX8_hasDaysLeft 5 = .ok (.iadd, 1) := by decide +kernel
theorem dX8_hasDaysLeft_6 : decode cX8_hasDaysLeft 6 = .ok (.sipush 999, 3) := by decide +kernel
theorem dX8_hasDaysLeft_9 : decode cX8_hasDaysLeft 9 = .ok (.if_icmp .gt 7, 3) := by decide +kernel
theorem dX8_hasDaysLeft_12 : decode cX8_hasDaysLeft 12 = .ok (.iconst 1, 1) := by decide +kernel
theorem dX8_hasDaysLeft_13 : decode cX8_hasDaysLeft 13 = .ok (.goto 4, 3) := by decide +kernel
theorem dX8_hasDaysLeft_16 : decode cX8_hasDaysLeft 16 = .ok (.iconst 0, 1) := by decide +kernel
theorem dX8_hasDaysLeft_17 : decode cX8_hasDaysLeft 17 = .ok (.ireturn, 1) := by decide +kernel
def f_X8_hasDaysLeft (t_day : Int32) (p1 : Int32) : Option (Int32) := if (999 : Int32) < (t_day + p1) then some (0 : Int32) else some (1 : Int32)
set_option maxHeartbeats 4000000 in
set_option maxRecDepth 100000 in
theorem c_X8_hasDaysLeft (l : Launch) (E : EE) (t_h : Nat) (t_a0 : Nat) (t_a1 : Nat) (t_a2 : Nat) (t_a3 : Nat) (t_a4 : Nat) (t_a5 : Nat) (t_height : Nat → Int32) (t_kind : Nat → Int32) (t_figure : Nat → Int32) (t_rail : Nat → Int32) (t_mood : Nat → Int32) (t_sight : Nat → Int32) (t_moving : Int32) (t_shut : Int32) (t_people : Int32) (t_needed : Int32) (t_day : Int32) (p1 : Int32) (res : Int32) (hv : f_X8_hasDaysLeft t_day p1 = some res) : Rd l E yX8_hasDaysLeft cX8_hasDaysLeft 2 (some .boolean) ({ frames := 0, cells := 0, slots := 0, locals := 0 }) [.ref t_h, .int p1] [oSt t_h t_a0 t_a1 t_a2 t_a3 t_a4 t_a5 t_moving t_shut t_people t_needed t_day, ai E t_a0 10 t_height, ai E t_a1 7 t_kind, ai E t_a2 7 t_figure, ai E t_a3 7 t_rail, ai E t_a4 7 t_mood, ai E t_a5 7 t_sight] (some (.int res)) := by
  refine Rd.intro RX8 (by decide) rfl (Nat.le_of_ble_eq_true rfl) ?_
  intro p e s m below meth c ls hC hr hlk hP hG hl
  obtain ⟨hx, hb, hml, hown, ht⟩ := id hC
  have hK := hG.1
  have hl : lv_has ls 2 [(0, .ref t_h), (1, .int p1)] := hl
  rw [f_X8_hasDaysLeft] at hv
  refine lv_aload_n hx hb dX8_hasDaysLeft_0 rfl (lv_at hl 0 rfl) ?_
  refine va_get (D := E.1) (ci := 2) (v := .int t_day) (C := RX8) (T := TX8) (N := 11) hx hb ht i_X8 hown hK hP 0 rfl rfl 10 (by decide) (ht _ kw_1_60) (fun _ h9 => h9) rfl dX8_hasDaysLeft_1 ?_
  refine lv_iload_n hx hb dX8_hasDaysLeft_4 rfl (lv_at hl 1 rfl) ?_
  refine lv_iadd hx hb dX8_hasDaysLeft_5 ?_
  refine lv_sipush (v := (999 : Int32)) hx hb dX8_hasDaysLeft_6 (by decide) ?_
  refine lv_icmp_gt (tgt := 16) hx hb dX8_hasDaysLeft_9 (by decide) (fun c1 => ?_) (fun c1 => ?_)
  · have hv := if_y c1 hv
    refine lv_iconst (v := (0 : Int32)) hx hb dX8_hasDaysLeft_16 (by decide) ?_
    exact W.zret (v := (0 : Int32)) hx hb hr rfl (fun t h9 _ => ⟨rv_i hv, h9⟩) (fun q h => absurd h List.not_mem_nil) dX8_hasDaysLeft_17 hlk
  · have hv := if_n c1 hv
    refine lv_iconst (v := (1 : Int32)) hx hb dX8_hasDaysLeft_12 (by decide) ?_
    refine lv_goto (tgt := 17) hx hb dX8_hasDaysLeft_13 (by decide) ?_
    exact W.zret (v := (1 : Int32)) hx hb hr rfl (fun t h9 _ => ⟨rv_i hv, h9⟩) (fun q h => absurd h List.not_mem_nil) dX8_hasDaysLeft_17 hlk
theorem dX8_isShut_0 : decode cX8_isShut 0 = .ok (.aload_n 0, 1) := by decide +kernel
theorem dX8_isShut_1 : decode cX8_isShut 1 = .ok (.getfield 40, 3) := by decide +kernel
theorem dX8_isShut_4 : decode cX8_isShut 4 = .ok (.iload_n 1, 1) := by decide +kernel
theorem dX8_isShut_5 : decode cX8_isShut 5 = .ok (.invokestatic 53, 3) := by decide +kernel
theorem dX8_isShut_8 : decode cX8_isShut 8 = .ok (.ireturn, 1) := by decide +kernel
def f_X8_isShut (t_shut : Int32) (p1 : Int32) : Option (Int32) := ob (f_X9_isIn t_shut p1) (fun r1 => gd (bz r1) (some r1))
set_option maxHeartbeats 4000000 in
set_option maxRecDepth 100000 in
theorem c_X8_isShut (l : Launch) (E : EE) (t_h : Nat) (t_a0 : Nat) (t_a1 : Nat) (t_a2 : Nat) (t_a3 : Nat) (t_a4 : Nat) (t_a5 : Nat) (t_height : Nat → Int32) (t_kind : Nat → Int32) (t_figure : Nat → Int32) (t_rail : Nat → Int32) (t_mood : Nat → Int32) (t_sight : Nat → Int32) (t_moving : Int32) (t_shut : Int32) (t_people : Int32) (t_needed : Int32) (t_day : Int32) (p1 : Int32) (res : Int32) (hv : f_X8_isShut t_shut p1 = some res) : Rd l E yX8_isShut cX8_isShut 2 (some .boolean) ({ frames := 1, cells := 0, slots := 0, locals := 21 }) [.ref t_h, .int p1] [oSt t_h t_a0 t_a1 t_a2 t_a3 t_a4 t_a5 t_moving t_shut t_people t_needed t_day, ai E t_a0 10 t_height, ai E t_a1 7 t_kind, ai E t_a2 7 t_figure, ai E t_a3 7 t_rail, ai E t_a4 7 t_mood, ai E t_a5 7 t_sight] (some (.int res)) := by
  refine Rd.intro RX8 (by decide) rfl (Nat.le_of_ble_eq_true rfl) ?_
  intro p e s m below meth c ls hC hr hlk hP hG hl
  obtain ⟨hx, hb, hml, hown, ht⟩ := id hC
  have hK := hG.1
  have hl : lv_has ls 2 [(0, .ref t_h), (1, .int p1)] := hl
  rw [f_X8_isShut] at hv
  refine lv_aload_n hx hb dX8_isShut_0 rfl (lv_at hl 0 rfl) ?_
  refine va_get (D := E.1) (ci := 2) (v := .int t_shut) (C := RX8) (T := TX8) (N := 11) hx hb ht i_X8 hown hK hP 0 rfl rfl 7 (by decide) (ht _ kw_1_50) (fun _ h9 => h9) rfl dX8_isShut_1 ?_
  refine lv_iload_n hx hb dX8_isShut_4 rfl (lv_at hl 1 rfl) ?_
  obtain ⟨r1, h2, hv⟩ := ob_s hv
  refine rdSN (rest := []) (st1 := [.int r1]) (w := []) hC q_X9_isIn (List.mem_of_getElem? (i := 4) rfl) (c_X9_isIn l E t_shut p1 r1 h2) ⟨rfl, rfl⟩ ⟨Nat.le_of_ble_eq_true rfl, Nat.le_of_ble_eq_true rfl⟩ ⟨Nat.zero_le _, Nat.zero_le _⟩ (hP.sub (ws' := []) [] rfl) hG rfl hl.1 rfl (Nat.le_of_ble_eq_true rfl) dX8_isShut_5 rfl ?_
  obtain ⟨g3, hv⟩ := gd_s hv
  exact W.zret (v := r1) hx hb hr (bz_s g3) (fun t h9 _ => ⟨rv_i hv, h9⟩) (fun q h => absurd h List.not_mem_nil) dX8_isShut_8 hlk
theorem dX8_isHeard_0 : decode cX8_isHeard 0 = .ok (.aload_n 0, 1) := by decide +kernel
theorem dX8_isHeard_1 : decode cX8_isHeard 1 = .ok (.getfield 40, 3) := by decide +kernel
theorem dX8_isHeard_4 : decode cX8_isHeard 4 = .ok (.aload_n 0, 1) := by decide +kernel
theorem dX8_isHeard_5 : decode cX8_isHeard 5 = .ok (.getfield 21, 3) := by decide +kernel
theorem dX8_isHeard_8 : decode cX8_isHeard 8 = .ok (.iload_n 1, 1) := by decide +kernel
theorem dX8_isHeard_9 : decode cX8_isHeard 9 = .ok (.iaload, 1) := by decide +kernel
theorem dX8_isHeard_10 : decode cX8_isHeard 10 = .ok (.invokestatic 53, 3) := by decide +kernel
theorem dX8_isHeard_13 : decode cX8_isHeard 13 = .ok (.ifCond .ne 7, 3) := by decide +kernel
theorem dX8_isHeard_16 : decode cX8_isHeard 16 = .ok (.iconst 1, 1) := by decide +kernel
theorem dX8_isHeard_17 : decode cX8_isHeard 17 = .ok (.goto 4, 3) := by decide +kernel
theorem dX8_isHeard_20 : decode cX8_isHeard 20 = .ok (.iconst 0, 1) := by decide +kernel
theorem dX8_isHeard_21 : decode cX8_isHeard 21 = .ok (.ireturn, 1) := by decide +kernel
def f_X8_isHeard (t_rail : Nat → Int32) (t_shut : Int32) (p1 : Int32) : Option (Int32) := gd (ix p1 7) (ob (f_X9_isIn t_shut (t_rail p1.toNatClampNeg)) (fun r2 => if r2 = 0 then some (1 : Int32) else some (0 : Int32)))
set_option maxHeartbeats 4000000 in
set_option maxRecDepth 100000 in
theorem c_X8_isHeard (l : Launch) (E : EE) (t_h : Nat) (t_a0 : Nat) (t_a1 : Nat) (t_a2 : Nat) (t_a3 : Nat) (t_a4 : Nat) (t_a5 : Nat) (t_height : Nat → Int32) (t_kind : Nat → Int32) (t_figure : Nat → Int32) (t_rail : Nat → Int32) (t_mood : Nat → Int32) (t_sight : Nat → Int32) (t_moving : Int32) (t_shut : Int32) (t_people : Int32) (t_needed : Int32) (t_day : Int32) (p1 : Int32) (res : Int32) (hv : f_X8_isHeard t_rail t_shut p1 = some res) : Rd l E yX8_isHeard cX8_isHeard 2 (some .boolean) ({ frames := 1, cells := 0, slots := 0, locals := 21 }) [.ref t_h, .int p1] [oSt t_h t_a0 t_a1 t_a2 t_a3 t_a4 t_a5 t_moving t_shut t_people t_needed t_day, ai E t_a0 10 t_height, ai E t_a1 7 t_kind, ai E t_a2 7 t_figure, ai E t_a3 7 t_rail, ai E t_a4 7 t_mood, ai E t_a5 7 t_sight] (some (.int res)) := by
  refine Rd.intro RX8 (by decide) rfl (Nat.le_of_ble_eq_true rfl) ?_
  intro p e s m below meth c ls hC hr hlk hP hG hl
  obtain ⟨hx, hb, hml, hown, ht⟩ := id hC
  have hK := hG.1
  have hl : lv_has ls 2 [(0, .ref t_h), (1, .int p1)] := hl
  rw [f_X8_isHeard] at hv
  refine lv_aload_n hx hb dX8_isHeard_0 rfl (lv_at hl 0 rfl) ?_
  refine va_get (D := E.1) (ci := 2) (v := .int t_shut) (C := RX8) (T := TX8) (N := 11) hx hb ht i_X8 hown hK hP 0 rfl rfl 7 (by decide) (ht _ kw_1_50) (fun _ h9 => h9) rfl dX8_isHeard_1 ?_
  refine lv_aload_n hx hb dX8_isHeard_4 rfl (lv_at hl 0 rfl) ?_
  refine va_get (D := E.1) (ci := 2) (v := .ref t_a3) (C := RX8) (T := TX8) (N := 11) hx hb ht i_X8 hown hK hP 0 rfl rfl 3 (by decide) (ht _ kw_1_43) (fun _ h9 => h9) rfl dX8_isHeard_5 ?_
  refine lv_iload_n hx hb dX8_isHeard_8 rfl (lv_at hl 1 rfl) ?_
  obtain ⟨g1, hv⟩ := gd_s hv
  refine va_iald hx hb hK hP 4 0 rfl rfl (ix_s g1) dX8_isHeard_9 ?_
  obtain ⟨r2, h3, hv⟩ := ob_s hv
  refine rdSN (rest := []) (st1 := [.int r2]) (w := []) hC q_X9_isIn (List.mem_of_getElem? (i := 4) rfl) (c_X9_isIn l E t_shut (t_rail p1.toNatClampNeg) r2 h3) ⟨rfl, rfl⟩ ⟨Nat.le_of_ble_eq_true rfl, Nat.le_of_ble_eq_true rfl⟩ ⟨Nat.zero_le _, Nat.zero_le _⟩ (hP.sub (ws' := []) [] rfl) hG rfl hl.1 rfl (Nat.le_of_ble_eq_true rfl) dX8_isHeard_10 rfl ?_
  refine lv_if_ne (tgt := 20) hx hb dX8_isHeard_13 (by decide) (fun c4 => ?_) (fun c4 => ?_)
  · have hv := if_n c4 hv
    refine lv_iconst (v := (0 : Int32)) hx hb dX8_isHeard_20 (by decide) ?_
    exact W.zret (v := (0 : Int32)) hx hb hr rfl (fun t h9 _ => ⟨rv_i hv, h9⟩) (fun q h => absurd h List.not_mem_nil) dX8_isHeard_21 hlk
  · have hv := if_y c4 hv
    refine lv_iconst (v := (1 : Int32)) hx hb dX8_isHeard_16 (by decide) ?_
    refine lv_goto (tgt := 21) hx hb dX8_isHeard_17 (by decide) ?_
    exact W.zret (v := (1 : Int32)) hx hb hr rfl (fun t h9 _ => ⟨rv_i hv, h9⟩) (fun q h => absurd h List.not_mem_nil) dX8_isHeard_21 hlk
theorem dX8_weightOf_0 : decode cX8_weightOf 0 = .ok (.aload_n 0, 1) := by decide +kernel
theorem dX8_weightOf_1 : decode cX8_weightOf 1 = .ok (.getfield 15, 3) := by decide +kernel
theorem dX8_weightOf_4 : decode cX8_weightOf 4 = .ok (.iload_n 1, 1) := by decide +kernel
theorem dX8_weightOf_5 : decode cX8_weightOf 5 = .ok (.iaload, 1) := by decide +kernel
theorem dX8_weightOf_6 : decode cX8_weightOf 6 = .ok (.aload_n 0, 1) := by decide +kernel
theorem dX8_weightOf_7 : decode cX8_weightOf 7 = .ok (.getfield 18, 3) := by decide +kernel
theorem dX8_weightOf_10 : decode cX8_weightOf 10 = .ok (.iload_n 1, 1) := by decide +kernel
theorem dX8_weightOf_11 : decode cX8_weightOf 11 = .ok (.iaload, 1) := by decide +kernel
theorem dX8_weightOf_12 : decode cX8_weightOf 12 = .ok (.aload_n 0, 1) := by decide +kernel
theorem dX8_weightOf_13 : decode cX8_weightOf 13 = .ok (.getfield 9, 3) := by decide +kernel
theorem dX8_weightOf_16 : decode cX8_weightOf 16 = .ok (.aload_n 0, 1) := by decide +kernel
theorem dX8_weightOf_17 : decode cX8_weightOf 17 = .ok (.getfield 21, 3) := by decide +kernel
theorem dX8_weightOf_20 : decode cX8_weightOf 20 = .ok (.iload_n 1, 1) := by decide +kernel
theorem dX8_weightOf_21 : decode cX8_weightOf 21 = .ok (.iaload, 1) := by decide +kernel
theorem dX8_weightOf_22 : decode cX8_weightOf 22 = .ok (.iaload, 1) := by decide +kernel
theorem dX8_weightOf_23 : decode cX8_weightOf 23 = .ok (.invokestatic 57, 3) := by decide +kernel
theorem dX8_weightOf_26 : decode cX8_weightOf 26 = .ok (.ireturn, 1) := by decide +kernel
def f_X8_weightOf (t_height : Nat → Int32) (t_kind : Nat → Int32) (t_figure : Nat → Int32) (t_rail : Nat → Int32) (p1 : Int32) : Option (Int32) := gd (ix p1 7) (gd (ix p1 7) (gd (ix p1 7) (gd (ix (t_rail p1.toNatClampNeg) 10) (ob (f_X3_weightOf (t_kind p1.toNatClampNeg) (t_figure p1.toNatClampNeg) (t_height (t_rail p1.toNatClampNeg).toNatClampNeg)) (fun r5 => some r5)))))
set_option maxHeartbeats 4000000 in
set_option maxRecDepth 100000 in
theorem c_X8_weightOf (l : Launch) (E : EE) (t_h : Nat) (t_a0 : Nat) (t_a1 : Nat) (t_a2 : Nat) (t_a3 : Nat) (t_a4 : Nat) (t_a5 : Nat) (t_height : Nat → Int32) (t_kind : Nat → Int32) (t_figure : Nat → Int32) (t_rail : Nat → Int32) (t_mood : Nat → Int32) (t_sight : Nat → Int32) (t_moving : Int32) (t_shut : Int32) (t_people : Int32) (t_needed : Int32) (t_day : Int32) (p1 : Int32) (res : Int32) (hv : f_X8_weightOf t_height t_kind t_figure t_rail p1 = some res) : Rd l E yX8_weightOf cX8_weightOf 2 (some .int) ({ frames := 1, cells := 0, slots := 0, locals := 22 }) [.ref t_h, .int p1] [oSt t_h t_a0 t_a1 t_a2 t_a3 t_a4 t_a5 t_moving t_shut t_people t_needed t_day, ai E t_a0 10 t_height, ai E t_a1 7 t_kind, ai E t_a2 7 t_figure, ai E t_a3 7 t_rail, ai E t_a4 7 t_mood, ai E t_a5 7 t_sight] (some (.int res)) := by
  refine Rd.intro RX8 (by decide) rfl (Nat.le_of_ble_eq_true rfl) ?_
  intro p e s m below meth c ls hC hr hlk hP hG hl
  obtain ⟨hx, hb, hml, hown, ht⟩ := id hC
  have hK := hG.1
  have hl : lv_has ls 2 [(0, .ref t_h), (1, .int p1)] := hl
  rw [f_X8_weightOf] at hv
  refine lv_aload_n hx hb dX8_weightOf_0 rfl (lv_at hl 0 rfl) ?_
  refine va_get (D := E.1) (ci := 2) (v := .ref t_a1) (C := RX8) (T := TX8) (N := 11) hx hb ht i_X8 hown hK hP 0 rfl rfl 1 (by decide) (ht _ kw_1_39) (fun _ h9 => h9) rfl dX8_weightOf_1 ?_
  refine lv_iload_n hx hb dX8_weightOf_4 rfl (lv_at hl 1 rfl) ?_
  obtain ⟨g1, hv⟩ := gd_s hv
  refine va_iald hx hb hK hP 2 0 rfl rfl (ix_s g1) dX8_weightOf_5 ?_
  refine lv_aload_n hx hb dX8_weightOf_6 rfl (lv_at hl 0 rfl) ?_
  refine va_get (D := E.1) (ci := 2) (v := .ref t_a2) (C := RX8) (T := TX8) (N := 11) hx hb ht i_X8 hown hK hP 0 rfl rfl 2 (by decide) (ht _ kw_1_41) (fun _ h9 => h9) rfl dX8_weightOf_7 ?_
  refine lv_iload_n hx hb dX8_weightOf_10 rfl (lv_at hl 1 rfl) ?_
  obtain ⟨g2, hv⟩ := gd_s hv
  refine va_iald hx hb hK hP 3 0 rfl rfl (ix_s g2) dX8_weightOf_11 ?_
  refine lv_aload_n hx hb dX8_weightOf_12 rfl (lv_at hl 0 rfl) ?_
  refine va_get (D := E.1) (ci := 2) (v := .ref t_a0) (C := RX8) (T := TX8) (N := 11) hx hb ht i_X8 hown hK hP 0 rfl rfl 0 (by decide) (ht _ kw_1_35) (fun _ h9 => h9) rfl dX8_weightOf_13 ?_
  refine lv_aload_n hx hb dX8_weightOf_16 rfl (lv_at hl 0 rfl) ?_
  refine va_get (D := E.1) (ci := 2) (v := .ref t_a3) (C := RX8) (T := TX8) (N := 11) hx hb ht i_X8 hown hK hP 0 rfl rfl 3 (by decide) (ht _ kw_1_43) (fun _ h9 => h9) rfl dX8_weightOf_17 ?_
  refine lv_iload_n hx hb dX8_weightOf_20 rfl (lv_at hl 1 rfl) ?_
  obtain ⟨g3, hv⟩ := gd_s hv
  refine va_iald hx hb hK hP 4 0 rfl rfl (ix_s g3) dX8_weightOf_21 ?_
  obtain ⟨g4, hv⟩ := gd_s hv
  refine va_iald hx hb hK hP 1 0 rfl rfl (ix_s g4) dX8_weightOf_22 ?_
  obtain ⟨r5, h6, hv⟩ := ob_s hv
  refine rdS (rest := []) (st1 := [.int r5]) (w := []) hC q_X3_weightOf kw_2_55 (c_X3_weightOf l E (t_kind p1.toNatClampNeg) (t_figure p1.toNatClampNeg) (t_height (t_rail p1.toNatClampNeg).toNatClampNeg) r5 h6) ⟨rfl, rfl⟩ ⟨Nat.le_of_ble_eq_true rfl, Nat.le_of_ble_eq_true rfl⟩ ⟨Nat.zero_le _, Nat.zero_le _⟩ (hP.sub (ws' := []) [] rfl) hG rfl hl.1 rfl (Nat.le_of_ble_eq_true rfl) dX8_weightOf_23 rfl ?_
  exact W.iret (v := r5) hx hb hr (fun t h9 _ => ⟨rv_i hv, h9⟩) (fun q h => absurd h List.not_mem_nil) dX8_weightOf_26 hlk
theorem dX8_weightAt_0 : decode cX8_weightAt 0 = .ok (.aload_n 0, 1) := by decide +kernel
theorem dX8_weightAt_1 : decode cX8_weightAt 1 = .ok (.getfield 15, 3) := by decide +kernel
theorem dX8_weightAt_4 : decode cX8_weightAt 4 = .ok (.iload_n 1, 1) := by decide +kernel
theorem dX8_weightAt_5 : decode cX8_weightAt 5 = .ok (.iaload, 1) := by decide +kernel
theorem dX8_weightAt_6 : decode cX8_weightAt 6 = .ok (.aload_n 0, 1) := by decide +kernel
theorem dX8_weightAt_7 : decode cX8_weightAt 7 = .ok (.getfield 18, 3) := by decide +kernel
theorem dX8_weightAt_10 : decode cX8_weightAt 10 = .ok (.iload_n 1, 1) := by decide +kernel
theorem dX8_weightAt_11 : decode cX8_weightAt 11 = .ok (.iaload, 1) := by decide +kernel
theorem dX8_weightAt_12 : decode cX8_weightAt 12 = .ok (.iload_n 2, 1) := by decide +kernel
theorem dX8_weightAt_13 : decode cX8_weightAt 13 = .ok (.invokestatic 57, 3) := by decide +kernel
theorem dX8_weightAt_16 : decode cX8_weightAt 16 = .ok (.ireturn, 1) := by decide +kernel
def f_X8_weightAt (t_kind : Nat → Int32) (t_figure : Nat → Int32) (p1 : Int32) (p2 : Int32) : Option (Int32) := gd (ix p1 7) (gd (ix p1 7) (ob (f_X3_weightOf (t_kind p1.toNatClampNeg) (t_figure p1.toNatClampNeg) p2) (fun r3 => some r3)))
set_option maxHeartbeats 4000000 in
set_option maxRecDepth 100000 in
theorem c_X8_weightAt (l : Launch) (E : EE) (t_h : Nat) (t_a0 : Nat) (t_a1 : Nat) (t_a2 : Nat) (t_a3 : Nat) (t_a4 : Nat) (t_a5 : Nat) (t_height : Nat → Int32) (t_kind : Nat → Int32) (t_figure : Nat → Int32) (t_rail : Nat → Int32) (t_mood : Nat → Int32) (t_sight : Nat → Int32) (t_moving : Int32) (t_shut : Int32) (t_people : Int32) (t_needed : Int32) (t_day : Int32) (p1 : Int32) (p2 : Int32) (res : Int32) (hv : f_X8_weightAt t_kind t_figure p1 p2 = some res) : Rd l E yX8_weightAt cX8_weightAt 3 (some .int) ({ frames := 1, cells := 0, slots := 0, locals := 22 }) [.ref t_h, .int p1, .int p2] [oSt t_h t_a0 t_a1 t_a2 t_a3 t_a4 t_a5 t_moving t_shut t_people t_needed t_day, ai E t_a0 10 t_height, ai E t_a1 7 t_kind, ai E t_a2 7 t_figure, ai E t_a3 7 t_rail, ai E t_a4 7 t_mood, ai E t_a5 7 t_sight] (some (.int res)) := by
  refine Rd.intro RX8 (by decide) rfl (Nat.le_of_ble_eq_true rfl) ?_
  intro p e s m below meth c ls hC hr hlk hP hG hl
  obtain ⟨hx, hb, hml, hown, ht⟩ := id hC
  have hK := hG.1
  have hl : lv_has ls 3 [(0, .ref t_h), (1, .int p1), (2, .int p2)] := hl
  rw [f_X8_weightAt] at hv
  refine lv_aload_n hx hb dX8_weightAt_0 rfl (lv_at hl 0 rfl) ?_
  refine va_get (D := E.1) (ci := 2) (v := .ref t_a1) (C := RX8) (T := TX8) (N := 11) hx hb ht i_X8 hown hK hP 0 rfl rfl 1 (by decide) (ht _ kw_1_39) (fun _ h9 => h9) rfl dX8_weightAt_1 ?_
  refine lv_iload_n hx hb dX8_weightAt_4 rfl (lv_at hl 1 rfl) ?_
  obtain ⟨g1, hv⟩ := gd_s hv
  refine va_iald hx hb hK hP 2 0 rfl rfl (ix_s g1) dX8_weightAt_5 ?_
  refine lv_aload_n hx hb dX8_weightAt_6 rfl (lv_at hl 0 rfl) ?_
  refine va_get (D := E.1) (ci := 2) (v := .ref t_a2) (C := RX8) (T := TX8) (N := 11) hx hb ht i_X8 hown hK hP 0 rfl rfl 2 (by decide) (ht _ kw_1_41) (fun _ h9 => h9) rfl dX8_weightAt_7 ?_
  refine lv_iload_n hx hb dX8_weightAt_10 rfl (lv_at hl 1 rfl) ?_
  obtain ⟨g2, hv⟩ := gd_s hv
  refine va_iald hx hb hK hP 3 0 rfl rfl (ix_s g2) dX8_weightAt_11 ?_
  refine lv_iload_n hx hb dX8_weightAt_12 rfl (lv_at hl 2 rfl) ?_
  obtain ⟨r3, h4, hv⟩ := ob_s hv
  refine rdS (rest := []) (st1 := [.int r3]) (w := []) hC q_X3_weightOf kw_2_55 (c_X3_weightOf l E (t_kind p1.toNatClampNeg) (t_figure p1.toNatClampNeg) p2 r3 h4) ⟨rfl, rfl⟩ ⟨Nat.le_of_ble_eq_true rfl, Nat.le_of_ble_eq_true rfl⟩ ⟨Nat.zero_le _, Nat.zero_le _⟩ (hP.sub (ws' := []) [] rfl) hG rfl hl.1 rfl (Nat.le_of_ble_eq_true rfl) dX8_weightAt_13 rfl ?_
  exact W.iret (v := r3) hx hb hr (fun t h9 _ => ⟨rv_i hv, h9⟩) (fun q h => absurd h List.not_mem_nil) dX8_weightAt_16 hlk
theorem dX8_onesOn_0 : decode cX8_onesOn 0 = .ok (.iconst 0, 1) := by decide +kernel
theorem dX8_onesOn_1 : decode cX8_onesOn 1 = .ok (.istore_n 2, 1) := by decide +kernel
theorem dX8_onesOn_2 : decode cX8_onesOn 2 = .ok (.iconst 0, 1) := by decide +kernel
theorem dX8_onesOn_3 : decode cX8_onesOn 3 = .ok (.istore_n 3, 1) := by decide +kernel
theorem dX8_onesOn_4 : decode cX8_onesOn 4 = .ok (.iload_n 3, 1) := by decide +kernel
theorem dX8_onesOn_5 : decode cX8_onesOn 5 = .ok (.aload_n 0, 1) := by decide +kernel
theorem dX8_onesOn_6 : decode cX8_onesOn 6 = .ok (.getfield 43, 3) := by decide +kernel
theorem dX8_onesOn_9 : decode cX8_onesOn 9 = .ok (.if_icmp .ge 25, 3) := by decide +kernel
theorem dX8_onesOn_12 : decode cX8_onesOn 12 = .ok (.aload_n 0, 1) := by decide +kernel
theorem dX8_onesOn_13 : decode cX8_onesOn 13 = .ok (.getfield 21, 3) := by decide +kernel
theorem dX8_onesOn_16 : decode cX8_onesOn 16 = .ok (.iload_n 3, 1) := by decide +kernel
theorem dX8_onesOn_17 : decode cX8_onesOn 17 = .ok (.iaload, 1) := by decide +kernel
theorem dX8_onesOn_18 : decode cX8_onesOn 18 = .ok (.iload_n 1, 1) := by decide +kernel
theorem dX8_onesOn_19 : decode cX8_onesOn 19 = .ok (.if_icmp .ne 9, 3) := by decide +kernel
theorem dX8_onesOn_22 : decode cX8_onesOn 22 = .ok (.iload_n 2, 1) := by decide +kernel
theorem dX8_onesOn_23 : decode cX8_onesOn 23 = .ok (.iconst 1, 1) := by decide +kernel
theorem dX8_onesOn_24 : decode cX8_onesOn 24 = .ok (.iload_n 3, 1) := by decide +kernel
theorem dX8_onesOn_25 : decode cX8_onesOn 25 = .ok (.ishl, 1) := by decide +kernel
theorem dX8_onesOn_26 : decode cX8_onesOn 26 = .ok (.ior, 1) := by decide +kernel
theorem dX8_onesOn_27 : decode cX8_onesOn 27 = .ok (.istore_n 2, 1) := by decide +kernel
theorem dX8_onesOn_28 : decode cX8_onesOn 28 = .ok (.iinc 3 1, 3) := by decide +kernel
theorem dX8_onesOn_31 : decode cX8_onesOn 31 = .ok (.goto (-27), 3) := by decide +kernel
theorem dX8_onesOn_34 : decode cX8_onesOn 34 = .ok (.iload_n 2, 1) := by decide +kernel
theorem dX8_onesOn_35 : decode cX8_onesOn 35 = .ok (.ireturn, 1) := by decide +kernel
def L_X8_onesOn_4 (t_rail : Nat → Int32) (t_people : Int32) (p1 : Int32) : Nat → Int32 → Int32 → Option (Int32)
  | 0, _, _ => none
  | n4 + 1, x1, x2 => if t_people ≤ x1 then some x2 else gd (ix x1 7) (if (t_rail x1.toNatClampNeg) = p1 then nm (x2 ||| ((1 : Int32) <<< (x1 &&& 31))) (fun z6 => L_X8_onesOn_4 t_rail t_people p1 n4 (x1 + (1 : Int32)) z6) else L_X8_onesOn_4 t_rail t_people p1 n4 (x1 + (1 : Int32)) x2)
def f_X8_onesOn (N : Nat) (t_rail : Nat → Int32) (t_people : Int32) (p1 : Int32) : Option (Int32) := L_X8_onesOn_4 t_rail t_people p1 N (0 : Int32) (0 : Int32)
set_option maxHeartbeats 4000000 in
set_option maxRecDepth 100000 in
theorem c_X8_onesOn (l : Launch) (E : EE) (t_h : Nat) (t_a0 : Nat) (t_a1 : Nat) (t_a2 : Nat) (t_a3 : Nat) (t_a4 : Nat) (t_a5 : Nat) (t_height : Nat → Int32) (t_kind : Nat → Int32) (t_figure : Nat → Int32) (t_rail : Nat → Int32) (t_mood : Nat → Int32) (t_sight : Nat → Int32) (t_moving : Int32) (t_shut : Int32) (t_people : Int32) (t_needed : Int32) (t_day : Int32) (p1 : Int32) (N : Nat) (res : Int32) (hv : f_X8_onesOn N t_rail t_people p1 = some res) : Rd l E yX8_onesOn cX8_onesOn 4 (some .int) ({ frames := 0, cells := 0, slots := 0, locals := 0 }) [.ref t_h, .int p1] [oSt t_h t_a0 t_a1 t_a2 t_a3 t_a4 t_a5 t_moving t_shut t_people t_needed t_day, ai E t_a0 10 t_height, ai E t_a1 7 t_kind, ai E t_a2 7 t_figure, ai E t_a3 7 t_rail, ai E t_a4 7 t_mood, ai E t_a5 7 t_sight] (some (.int res)) := by
  refine Rd.intro RX8 (by decide) rfl (Nat.le_of_ble_eq_true rfl) ?_
  intro p e s m below meth c ls hC hr hlk hP hG hl
  obtain ⟨hx, hb, hml, hown, ht⟩ := id hC
  have hK := hG.1
  have hl : lv_has ls 4 [(0, .ref t_h), (1, .int p1)] := hl
  rw [f_X8_onesOn] at hv
  refine lv_iconst (v := (0 : Int32)) hx hb dX8_onesOn_0 (by decide) ?_
  refine lv_istore_n (lv' := [(2, .int (0 : Int32)), (0, .ref t_h), (1, .int p1)]) hx hb dX8_onesOn_1 rfl hl (by decide) rfl (fun ls hl => ?_)
  refine lv_iconst (v := (0 : Int32)) hx hb dX8_onesOn_2 (by decide) ?_
  refine lv_istore_n (lv' := [(3, .int (0 : Int32)), (2, .int (0 : Int32)), (0, .ref t_h), (1, .int p1)]) hx hb dX8_onesOn_3 rfl hl (by decide) rfl (fun ls hl => ?_)
  have hL4 : ∀ (n : Nat) (x1 : Int32) (x2 : Int32) (ls : Array Slot), lv_has ls 4 [(3, .int x1), (2, .int x2), (0, .ref t_h), (1, .int p1)] → L_X8_onesOn_4 t_rail t_people p1 n x1 x2 = some res → W p l e ({ frames := 0, cells := 0, slots := 0, locals := 0 }) s m [.ref t_h, .int p1].toArray below meth c s.heap [] 0 0 (MQ below (RdQ (some (.int res))) [.ref t_h, .int p1].toArray s 0 0 (fun _ => False)) (F0 m 4 ls []) := by
    intro n
    induction n with
    | zero => intro x1 x2 ls hl hv; cases hv
    | succ n4 ih4 =>
      intro x1 x2 ls hl hv
      rw [L_X8_onesOn_4] at hv
      refine lv_iload_n hx hb dX8_onesOn_4 rfl (lv_at hl 0 rfl) ?_
      refine lv_aload_n hx hb dX8_onesOn_5 rfl (lv_at hl 2 rfl) ?_
      refine va_get (D := E.1) (ci := 2) (v := .int t_people) (C := RX8) (T := TX8) (N := 11) hx hb ht i_X8 hown hK hP 0 rfl rfl 8 (by decide) (ht _ kw_1_53) (fun _ h9 => h9) rfl dX8_onesOn_6 ?_
      refine lv_icmp_ge (tgt := 34) hx hb dX8_onesOn_9 (by decide) (fun c3 => ?_) (fun c3 => ?_)
      · have hv := if_y c3 hv
        refine lv_iload_n hx hb dX8_onesOn_34 rfl (lv_at hl 1 rfl) ?_
        exact W.iret (v := x2) hx hb hr (fun t h9 _ => ⟨rv_i hv, h9⟩) (fun q h => absurd h List.not_mem_nil) dX8_onesOn_35 hlk
      · have hv := if_n c3 hv
        refine lv_aload_n hx hb dX8_onesOn_12 rfl (lv_at hl 2 rfl) ?_
        refine va_get (D := E.1) (ci := 2) (v := .ref t_a3) (C := RX8) (T := TX8) (N := 11) hx hb ht i_X8 hown hK hP 0 rfl rfl 3 (by decide) (ht _ kw_1_43) (fun _ h9 => h9) rfl dX8_onesOn_13 ?_
        refine lv_iload_n hx hb dX8_onesOn_16 rfl (lv_at hl 0 rfl) ?_
        obtain ⟨g4, hv⟩ := gd_s hv
        refine va_iald hx hb hK hP 4 0 rfl rfl (ix_s g4) dX8_onesOn_17 ?_
        refine lv_iload_n hx hb dX8_onesOn_18 rfl (lv_at hl 3 rfl) ?_
        refine lv_icmp_ne (tgt := 28) hx hb dX8_onesOn_19 (by decide) (fun c5 => ?_) (fun c5 => ?_)
        · have hv := if_n c5 hv
          refine lv_iinc (v := (x1 + (1 : Int32))) (lv' := [(3, .int (x1 + (1 : Int32))), (2, .int x2), (0, .ref t_h), (1, .int p1)]) hx hb dX8_onesOn_28 hl (k := 0) rfl rfl (by decide) rfl (fun ls hl => ?_)
          refine lv_goto (tgt := 4) hx hb dX8_onesOn_31 (by decide) ?_
          exact ih4 (x1 + (1 : Int32)) x2 _ (lv_sub hl [0, 1, 2, 3] rfl) hv
        · have hv := if_y c5 hv
          refine lv_iload_n hx hb dX8_onesOn_22 rfl (lv_at hl 1 rfl) ?_
          refine lv_iconst (v := (1 : Int32)) hx hb dX8_onesOn_23 (by decide) ?_
          refine lv_iload_n hx hb dX8_onesOn_24 rfl (lv_at hl 0 rfl) ?_
          refine lv_ishl hx hb dX8_onesOn_25 ?_
          refine lv_ior hx hb dX8_onesOn_26 ?_
          refine lv_topi (fun z6 ez6 => ?_)
          have hv := nm_s ez6 hv
          refine lv_istore_n (lv' := [(2, .int z6), (3, .int x1), (0, .ref t_h), (1, .int p1)]) hx hb dX8_onesOn_27 rfl hl (by decide) rfl (fun ls hl => ?_)
          refine lv_iinc (v := (x1 + (1 : Int32))) (lv' := [(3, .int (x1 + (1 : Int32))), (2, .int z6), (0, .ref t_h), (1, .int p1)]) hx hb dX8_onesOn_28 hl (k := 1) rfl rfl (by decide) rfl (fun ls hl => ?_)
          refine lv_goto (tgt := 4) hx hb dX8_onesOn_31 (by decide) ?_
          exact ih4 (x1 + (1 : Int32)) z6 _ (lv_sub hl [0, 1, 2, 3] rfl) hv
  exact hL4 N (0 : Int32) (0 : Int32) _ (lv_sub hl [0, 1, 2, 3] rfl) hv
theorem dX8_heardOnes_0 : decode cX8_heardOnes 0 = .ok (.iconst 0, 1) := by decide +kernel
theorem dX8_heardOnes_1 : decode cX8_heardOnes 1 = .ok (.istore_n 1, 1) := by decide +kernel
theorem dX8_heardOnes_2 : decode cX8_heardOnes 2 = .ok (.iconst 0, 1) := by decide +kernel
theorem dX8_heardOnes_3 : decode cX8_heardOnes 3 = .ok (.istore_n 2, 1) := by decide +kernel
theorem dX8_heardOnes_4 : decode cX8_heardOnes 4 = .ok (.iload_n 2, 1) := by decide +kernel
theorem dX8_heardOnes_5 : decode cX8_heardOnes 5 = .ok (.aload_n 0, 1) := by decide +kernel
theorem dX8_heardOnes_6 : decode cX8_heardOnes 6 = .ok (.getfield 43, 3) := by decide +kernel
theorem dX8_heardOnes_9 : decode cX8_heardOnes 9 = .ok (.if_icmp .ge 23, 3) := by decide +kernel
theorem dX8_heardOnes_12 : decode cX8_heardOnes 12 = .ok (.aload_n 0, 1) := by decide +kernel
theorem dX8_heardOnes_13 : decode cX8_heardOnes 13 = .ok (.iload_n 2, 1) := by decide +kernel
theorem dX8_heardOnes_14 : decode cX8_heardOnes 14 = .ok (.invokevirtual 63, 3) := by decide +kernel
theorem dX8_heardOnes_17 : decode cX8_heardOnes 17 = .ok (.ifCond .eq 9, 3) := by decide +kernel
theorem dX8_heardOnes_20 : decode cX8_heardOnes 20 = .ok (.iload_n 1, 1) := by decide +kernel
theorem dX8_heardOnes_21 : decode cX8_heardOnes 21 = .ok (.iconst 1, 1) := by decide +kernel
theorem dX8_heardOnes_22 : decode cX8_heardOnes 22 = .ok (.iload_n 2, 1) := by decide +kernel
theorem dX8_heardOnes_23 : decode cX8_heardOnes 23 = .ok (.ishl, 1) := by decide +kernel
theorem dX8_heardOnes_24 : decode cX8_heardOnes 24 = .ok (.ior, 1) := by decide +kernel
theorem dX8_heardOnes_25 : decode cX8_heardOnes 25 = .ok (.istore_n 1, 1) := by decide +kernel
theorem dX8_heardOnes_26 : decode cX8_heardOnes 26 = .ok (.iinc 2 1, 3) := by decide +kernel
theorem dX8_heardOnes_29 : decode cX8_heardOnes 29 = .ok (.goto (-25), 3) := by decide +kernel
theorem dX8_heardOnes_32 : decode cX8_heardOnes 32 = .ok (.iload_n 1, 1) := by decide +kernel
theorem dX8_heardOnes_33 : decode cX8_heardOnes 33 = .ok (.ireturn, 1) := by decide +kernel
def L_X8_heardOnes_4 (t_rail : Nat → Int32) (t_shut : Int32) (t_people : Int32) : Nat → Int32 → Int32 → Option (Int32)
  | 0, _, _ => none
  | n4 + 1, x1, x2 => if t_people ≤ x1 then some x2 else ob (f_X8_isHeard t_rail t_shut x1) (fun r4 => if r4 = 0 then L_X8_heardOnes_4 t_rail t_shut t_people n4 (x1 + (1 : Int32)) x2 else nm (x2 ||| ((1 : Int32) <<< (x1 &&& 31))) (fun z7 => L_X8_heardOnes_4 t_rail t_shut t_people n4 (x1 + (1 : Int32)) z7))
def f_X8_heardOnes (N : Nat) (t_rail : Nat → Int32) (t_shut : Int32) (t_people : Int32) : Option (Int32) := L_X8_heardOnes_4 t_rail t_shut t_people N (0 : Int32) (0 : Int32)
set_option maxHeartbeats 4000000 in
set_option maxRecDepth 100000 in
theorem c_X8_heardOnes (l : Launch) (E : EE) (t_h : Nat) (t_a0 : Nat) (t_a1 : Nat) (t_a2 : Nat) (t_a3 : Nat) (t_a4 : Nat) (t_a5 : Nat) (t_height : Nat → Int32) (t_kind : Nat → Int32) (t_figure : Nat → Int32) (t_rail : Nat → Int32) (t_mood : Nat → Int32) (t_sight : Nat → Int32) (t_moving : Int32) (t_shut : Int32) (t_people : Int32) (t_needed : Int32) (t_day : Int32) (N : Nat) (res : Int32) (hv : f_X8_heardOnes N t_rail t_shut t_people = some res) : Rd l E yX8_heardOnes cX8_heardOnes 3 (some .int) ({ frames := 2, cells := 0, slots := 0, locals := 42 }) [.ref t_h] [oSt t_h t_a0 t_a1 t_a2 t_a3 t_a4 t_a5 t_moving t_shut t_people t_needed t_day, ai E t_a0 10 t_height, ai E t_a1 7 t_kind, ai E t_a2 7 t_figure, ai E t_a3 7 t_rail, ai E t_a4 7 t_mood, ai E t_a5 7 t_sight] (some (.int res)) := by
  refine Rd.intro RX8 (by decide) rfl (Nat.le_of_ble_eq_true rfl) ?_
  intro p e s m below meth c ls hC hr hlk hP hG hl
  obtain ⟨hx, hb, hml, hown, ht⟩ := id hC
  have hK := hG.1
  have hl : lv_has ls 3 [(0, .ref t_h)] := hl
  rw [f_X8_heardOnes] at hv
  refine lv_iconst (v := (0 : Int32)) hx hb dX8_heardOnes_0 (by decide) ?_
  refine lv_istore_n (lv' := [(1, .int (0 : Int32)), (0, .ref t_h)]) hx hb dX8_heardOnes_1 rfl hl (by decide) rfl (fun ls hl => ?_)
  refine lv_iconst (v := (0 : Int32)) hx hb dX8_heardOnes_2 (by decide) ?_
  refine lv_istore_n (lv' := [(2, .int (0 : Int32)), (1, .int (0 : Int32)), (0, .ref t_h)]) hx hb dX8_heardOnes_3 rfl hl (by decide) rfl (fun ls hl => ?_)
  have hL4 : ∀ (n : Nat) (x1 : Int32) (x2 : Int32) (ls : Array Slot), lv_has ls 3 [(2, .int x1), (1, .int x2), (0, .ref t_h)] → L_X8_heardOnes_4 t_rail t_shut t_people n x1 x2 = some res → W p l e ({ frames := 2, cells := 0, slots := 0, locals := 42 }) s m [.ref t_h].toArray below meth c s.heap [] 0 0 (MQ below (RdQ (some (.int res))) [.ref t_h].toArray s 0 0 (fun _ => False)) (F0 m 4 ls []) := by
    intro n
    induction n with
    | zero => intro x1 x2 ls hl hv; cases hv
    | succ n4 ih4 =>
      intro x1 x2 ls hl hv
      rw [L_X8_heardOnes_4] at hv
      refine lv_iload_n hx hb dX8_heardOnes_4 rfl (lv_at hl 0 rfl) ?_
      refine lv_aload_n hx hb dX8_heardOnes_5 rfl (lv_at hl 2 rfl) ?_
      refine va_get (D := E.1) (ci := 2) (v := .int t_people) (C := RX8) (T := TX8) (N := 11) hx hb ht i_X8 hown hK hP 0 rfl rfl 8 (by decide) (ht _ kw_1_53) (fun _ h9 => h9) rfl dX8_heardOnes_6 ?_
      refine lv_icmp_ge (tgt := 32) hx hb dX8_heardOnes_9 (by decide) (fun c3 => ?_) (fun c3 => ?_)
      · have hv := if_y c3 hv
        refine lv_iload_n hx hb dX8_heardOnes_32 rfl (lv_at hl 1 rfl) ?_
        exact W.iret (v := x2) hx hb hr (fun t h9 _ => ⟨rv_i hv, h9⟩) (fun q h => absurd h List.not_mem_nil) dX8_heardOnes_33 hlk
      · have hv := if_n c3 hv
        refine lv_aload_n hx hb dX8_heardOnes_12 rfl (lv_at hl 2 rfl) ?_
        refine lv_iload_n hx hb dX8_heardOnes_13 rfl (lv_at hl 0 rfl) ?_
        obtain ⟨r4, h5, hv⟩ := ob_s hv
        refine rdV 2 0 (As := [.int x1]) (rest := []) (st1 := [.int r4]) (w := [oSt t_h t_a0 t_a1 t_a2 t_a3 t_a4 t_a5 t_moving t_shut t_people t_needed t_day, ai E t_a0 10 t_height, ai E t_a1 7 t_kind, ai E t_a2 7 t_figure, ai E t_a3 7 t_rail, ai E t_a4 7 t_mood, ai E t_a5 7 t_sight]) hC q_X8_isHeard kw_2_9 (c_X8_isHeard l E t_h t_a0 t_a1 t_a2 t_a3 t_a4 t_a5 t_height t_kind t_figure t_rail t_mood t_sight t_moving t_shut t_people t_needed t_day x1 r4 h5) ⟨rfl, rfl⟩ ⟨Nat.le_of_ble_eq_true rfl, Nat.le_of_ble_eq_true rfl⟩ ⟨Nat.zero_le _, Nat.zero_le _⟩ hP rfl rfl rfl hG rfl hl.1 rfl (Nat.le_of_ble_eq_true rfl) dX8_heardOnes_14 rfl ?_
        refine lv_if_eq (tgt := 26) hx hb dX8_heardOnes_17 (by decide) (fun c6 => ?_) (fun c6 => ?_)
        · have hv := if_y c6 hv
          refine lv_iinc (v := (x1 + (1 : Int32))) (lv' := [(2, .int (x1 + (1 : Int32))), (1, .int x2), (0, .ref t_h)]) hx hb dX8_heardOnes_26 hl (k := 0) rfl rfl (by decide) rfl (fun ls hl => ?_)
          refine lv_goto (tgt := 4) hx hb dX8_heardOnes_29 (by decide) ?_
          exact ih4 (x1 + (1 : Int32)) x2 _ (lv_sub hl [0, 1, 2] rfl) hv
        · have hv := if_n c6 hv
          refine lv_iload_n hx hb dX8_heardOnes_20 rfl (lv_at hl 1 rfl) ?_
          refine lv_iconst (v := (1 : Int32)) hx hb dX8_heardOnes_21 (by decide) ?_
          refine lv_iload_n hx hb dX8_heardOnes_22 rfl (lv_at hl 0 rfl) ?_
          refine lv_ishl hx hb dX8_heardOnes_23 ?_
          refine lv_ior hx hb dX8_heardOnes_24 ?_
          refine lv_topi (fun z7 ez7 => ?_)
          have hv := nm_s ez7 hv
          refine lv_istore_n (lv' := [(1, .int z7), (2, .int x1), (0, .ref t_h)]) hx hb dX8_heardOnes_25 rfl hl (by decide) rfl (fun ls hl => ?_)
          refine lv_iinc (v := (x1 + (1 : Int32))) (lv' := [(2, .int (x1 + (1 : Int32))), (1, .int z7), (0, .ref t_h)]) hx hb dX8_heardOnes_26 hl (k := 1) rfl rfl (by decide) rfl (fun ls hl => ?_)
          refine lv_goto (tgt := 4) hx hb dX8_heardOnes_29 (by decide) ?_
          exact ih4 (x1 + (1 : Int32)) z7 _ (lv_sub hl [0, 1, 2] rfl) hv
  exact hL4 N (0 : Int32) (0 : Int32) _ (lv_sub hl [0, 1, 2] rfl) hv
theorem dX8_onesFor_0 : decode cX8_onesFor 0 = .ok (.iconst 0, 1) := by decide +kernel
theorem dX8_onesFor_1 : decode cX8_onesFor 1 = .ok (.istore_n 1, 1) := by decide +kernel
theorem dX8_onesFor_2 : decode cX8_onesFor 2 = .ok (.iconst 0, 1) := by decide +kernel
theorem dX8_onesFor_3 : decode cX8_onesFor 3 = .ok (.istore_n 2, 1) := by decide +kernel
theorem dX8_onesFor_4 : decode cX8_onesFor 4 = .ok (.iload_n 2, 1) := by decide +kernel
theorem dX8_onesFor_5 : decode cX8_onesFor 5 = .ok (.aload_n 0, 1) := by decide +kernel
theorem dX8_onesFor_6 : decode cX8_onesFor 6 = .ok (.getfield 43, 3) := by decide +kernel
theorem dX8_onesFor_9 : decode cX8_onesFor 9 = .ok (.if_icmp .ge 24, 3) := by decide +kernel
theorem dX8_onesFor_12 : decode cX8_onesFor 12 = .ok (.aload_n 0, 1) := by decide +kernel
theorem dX8_onesFor_13 : decode cX8_onesFor 13 = .ok (.getfield 24, 3) := by decide +kernel
theorem dX8_onesFor_16 : decode cX8_onesFor 16 = .ok (.iload_n 2, 1) := by decide +kernel
theorem dX8_onesFor_17 : decode cX8_onesFor 17 = .ok (.iaload, 1) := by decide +kernel
theorem dX8_onesFor_18 : decode cX8_onesFor 18 = .ok (.ifCond .le 9, 3) := by decide +kernel
theorem dX8_onesFor_21 : decode cX8_onesFor 21 = .ok (.iload_n 1, 1) := by decide +kernel
theorem dX8_onesFor_22 : decode cX8_onesFor 22 = .ok (.iconst 1, 1) := by decide +kernel
theorem dX8_onesFor_23 : decode cX8_onesFor 23 = .ok (.iload_n 2, 1) := by decide +kernel
theorem dX8_onesFor_24 : decode cX8_onesFor 24 = .ok (.ishl, 1) := by decide +kernel
theorem dX8_onesFor_25 : decode cX8_onesFor 25 = .ok (.ior, 1) := by decide +kernel
theorem dX8_onesFor_26 : decode cX8_onesFor 26 = .ok (.istore_n 1, 1) := by decide +kernel
theorem dX8_onesFor_27 : decode cX8_onesFor 27 = .ok (.iinc 2 1, 3) := by decide +kernel
theorem dX8_onesFor_30 : decode cX8_onesFor 30 = .ok (.goto (-26), 3) := by decide +kernel
theorem dX8_onesFor_33 : decode cX8_onesFor 33 = .ok (.iload_n 1, 1) := by decide +kernel
theorem dX8_onesFor_34 : decode cX8_onesFor 34 = .ok (.ireturn, 1) := by decide +kernel
def L_X8_onesFor_4 (t_mood : Nat → Int32) (t_people : Int32) : Nat → Int32 → Int32 → Option (Int32)
  | 0, _, _ => none
  | n4 + 1, x1, x2 => if t_people ≤ x1 then some x2 else gd (ix x1 7) (if (t_mood x1.toNatClampNeg) ≤ 0 then L_X8_onesFor_4 t_mood t_people n4 (x1 + (1 : Int32)) x2 else nm (x2 ||| ((1 : Int32) <<< (x1 &&& 31))) (fun z6 => L_X8_onesFor_4 t_mood t_people n4 (x1 + (1 : Int32)) z6))
def f_X8_onesFor (N : Nat) (t_mood : Nat → Int32) (t_people : Int32) : Option (Int32) := L_X8_onesFor_4 t_mood t_people N (0 : Int32) (0 : Int32)
set_option maxHeartbeats 4000000 in
set_option maxRecDepth 100000 in
theorem c_X8_onesFor (l : Launch) (E : EE) (t_h : Nat) (t_a0 : Nat) (t_a1 : Nat) (t_a2 : Nat) (t_a3 : Nat) (t_a4 : Nat) (t_a5 : Nat) (t_height : Nat → Int32) (t_kind : Nat → Int32) (t_figure : Nat → Int32) (t_rail : Nat → Int32) (t_mood : Nat → Int32) (t_sight : Nat → Int32) (t_moving : Int32) (t_shut : Int32) (t_people : Int32) (t_needed : Int32) (t_day : Int32) (N : Nat) (res : Int32) (hv : f_X8_onesFor N t_mood t_people = some res) : Rd l E yX8_onesFor cX8_onesFor 3 (some .int) ({ frames := 0, cells := 0, slots := 0, locals := 0 }) [.ref t_h] [oSt t_h t_a0 t_a1 t_a2 t_a3 t_a4 t_a5 t_moving t_shut t_people t_needed t_day, ai E t_a0 10 t_height, ai E t_a1 7 t_kind, ai E t_a2 7 t_figure, ai E t_a3 7 t_rail, ai E t_a4 7 t_mood, ai E t_a5 7 t_sight] (some (.int res)) := by
  refine Rd.intro RX8 (by decide) rfl (Nat.le_of_ble_eq_true rfl) ?_
  intro p e s m below meth c ls hC hr hlk hP hG hl
  obtain ⟨hx, hb, hml, hown, ht⟩ := id hC
  have hK := hG.1
  have hl : lv_has ls 3 [(0, .ref t_h)] := hl
  rw [f_X8_onesFor] at hv
  refine lv_iconst (v := (0 : Int32)) hx hb dX8_onesFor_0 (by decide) ?_
  refine lv_istore_n (lv' := [(1, .int (0 : Int32)), (0, .ref t_h)]) hx hb dX8_onesFor_1 rfl hl (by decide) rfl (fun ls hl => ?_)
  refine lv_iconst (v := (0 : Int32)) hx hb dX8_onesFor_2 (by decide) ?_
  refine lv_istore_n (lv' := [(2, .int (0 : Int32)), (1, .int (0 : Int32)), (0, .ref t_h)]) hx hb dX8_onesFor_3 rfl hl (by decide) rfl (fun ls hl => ?_)
  have hL4 : ∀ (n : Nat) (x1 : Int32) (x2 : Int32) (ls : Array Slot), lv_has ls 3 [(2, .int x1), (1, .int x2), (0, .ref t_h)] → L_X8_onesFor_4 t_mood t_people n x1 x2 = some res → W p l e ({ frames := 0, cells := 0, slots := 0, locals := 0 }) s m [.ref t_h].toArray below meth c s.heap [] 0 0 (MQ below (RdQ (some (.int res))) [.ref t_h].toArray s 0 0 (fun _ => False)) (F0 m 4 ls []) := by
    intro n
    induction n with
    | zero => intro x1 x2 ls hl hv; cases hv
    | succ n4 ih4 =>
      intro x1 x2 ls hl hv
      rw [L_X8_onesFor_4] at hv
      refine lv_iload_n hx hb dX8_onesFor_4 rfl (lv_at hl 0 rfl) ?_
      refine lv_aload_n hx hb dX8_onesFor_5 rfl (lv_at hl 2 rfl) ?_
      refine va_get (D := E.1) (ci := 2) (v := .int t_people) (C := RX8) (T := TX8) (N := 11) hx hb ht i_X8 hown hK hP 0 rfl rfl 8 (by decide) (ht _ kw_1_53) (fun _ h9 => h9) rfl dX8_onesFor_6 ?_
      refine lv_icmp_ge (tgt := 33) hx hb dX8_onesFor_9 (by decide) (fun c3 => ?_) (fun c3 => ?_)
      · have hv := if_y c3 hv
        refine lv_iload_n hx hb dX8_onesFor_33 rfl (lv_at hl 1 rfl) ?_
        exact W.iret (v := x2) hx hb hr (fun t h9 _ => ⟨rv_i hv, h9⟩) (fun q h => absurd h List.not_mem_nil) dX8_onesFor_34 hlk
      · have hv := if_n c3 hv
        refine lv_aload_n hx hb dX8_onesFor_12 rfl (lv_at hl 2 rfl) ?_
        refine va_get (D := E.1) (ci := 2) (v := .ref t_a4) (C := RX8) (T := TX8) (N := 11) hx hb ht i_X8 hown hK hP 0 rfl rfl 4 (by decide) (ht _ kw_1_45) (fun _ h9 => h9) rfl dX8_onesFor_13 ?_
        refine lv_iload_n hx hb dX8_onesFor_16 rfl (lv_at hl 0 rfl) ?_
        obtain ⟨g4, hv⟩ := gd_s hv
        refine va_iald hx hb hK hP 5 0 rfl rfl (ix_s g4) dX8_onesFor_17 ?_
        refine lv_if_le (tgt := 27) hx hb dX8_onesFor_18 (by decide) (fun c5 => ?_) (fun c5 => ?_)
        · have hv := if_y c5 hv
          refine lv_iinc (v := (x1 + (1 : Int32))) (lv' := [(2, .int (x1 + (1 : Int32))), (1, .int x2), (0, .ref t_h)]) hx hb dX8_onesFor_27 hl (k := 0) rfl rfl (by decide) rfl (fun ls hl => ?_)
          refine lv_goto (tgt := 4) hx hb dX8_onesFor_30 (by decide) ?_
          exact ih4 (x1 + (1 : Int32)) x2 _ (lv_sub hl [0, 1, 2] rfl) hv
        · have hv := if_n c5 hv
          refine lv_iload_n hx hb dX8_onesFor_21 rfl (lv_at hl 1 rfl) ?_
          refine lv_iconst (v := (1 : Int32)) hx hb dX8_onesFor_22 (by decide) ?_
          refine lv_iload_n hx hb dX8_onesFor_23 rfl (lv_at hl 0 rfl) ?_
          refine lv_ishl hx hb dX8_onesFor_24 ?_
          refine lv_ior hx hb dX8_onesFor_25 ?_
          refine lv_topi (fun z6 ez6 => ?_)
          have hv := nm_s ez6 hv
          refine lv_istore_n (lv' := [(1, .int z6), (2, .int x1), (0, .ref t_h)]) hx hb dX8_onesFor_26 rfl hl (by decide) rfl (fun ls hl => ?_)
          refine lv_iinc (v := (x1 + (1 : Int32))) (lv' := [(2, .int (x1 + (1 : Int32))), (1, .int z6), (0, .ref t_h)]) hx hb dX8_onesFor_27 hl (k := 1) rfl rfl (by decide) rfl (fun ls hl => ?_)
          refine lv_goto (tgt := 4) hx hb dX8_onesFor_30 (by decide) ?_
          exact ih4 (x1 + (1 : Int32)) z6 _ (lv_sub hl [0, 1, 2] rfl) hv
  exact hL4 N (0 : Int32) (0 : Int32) _ (lv_sub hl [0, 1, 2] rfl) hv
theorem dX8_onesAgainst_0 : decode cX8_onesAgainst 0 = .ok (.iconst 0, 1) := by decide +kernel
theorem dX8_onesAgainst_1 : decode cX8_onesAgainst 1 = .ok (.istore_n 1, 1) := by decide +kernel
theorem dX8_onesAgainst_2 : decode cX8_onesAgainst 2 = .ok (.iconst 0, 1) := by decide +kernel
theorem dX8_onesAgainst_3 : decode cX8_onesAgainst 3 = .ok (.istore_n 2, 1) := by decide +kernel
theorem dX8_onesAgainst_4 : decode cX8_onesAgainst 4 = .ok (.iload_n 2, 1) := by decide +kernel
theorem dX8_onesAgainst_5 : decode cX8_onesAgainst 5 = .ok (.aload_n 0, 1) := by decide +kernel
theorem dX8_onesAgainst_6 : decode cX8_onesAgainst 6 = .ok (.getfield 43, 3) := by decide +kernel
theorem dX8_onesAgainst_9 : decode cX8_onesAgainst 9 = .ok (.if_icmp .ge 24, 3) := by decide +kernel
theorem dX8_onesAgainst_12 : decode cX8_onesAgainst 12 = .ok (.aload_n 0, 1) := by decide +kernel
theorem dX8_onesAgainst_13 : decode cX8_onesAgainst 13 = .ok (.getfield 24, 3) := by decide +kernel
theorem dX8_onesAgainst_16 : decode cX8_onesAgainst 16 = .ok (.iload_n 2, 1) := by decide +kernel
theorem dX8_onesAgainst_17 : decode cX8_onesAgainst 17 = .ok (.iaload, 1) := by decide +kernel
theorem dX8_onesAgainst_18 : decode cX8_onesAgainst 18 = .ok (.ifCond .ge 9, 3) := by decide +kernel
theorem dX8_onesAgainst_21 : decode cX8_onesAgainst 21 = .ok (.iload_n 1, 1) := by decide +kernel
theorem dX8_onesAgainst_22 : decode cX8_onesAgainst 22 = .ok (.iconst 1, 1) := by decide +kernel
theorem dX8_onesAgainst_23 : decode cX8_onesAgainst 23 = .ok (.iload_n 2, 1) := by decide +kernel
theorem dX8_onesAgainst_24 : decode cX8_onesAgainst 24 = .ok (.ishl, 1) := by decide +kernel
theorem dX8_onesAgainst_25 : decode cX8_onesAgainst 25 = .ok (.ior, 1) := by decide +kernel
theorem dX8_onesAgainst_26 : decode cX8_onesAgainst 26 = .ok (.istore_n 1, 1) := by decide +kernel
theorem dX8_onesAgainst_27 : decode cX8_onesAgainst 27 = .ok (.iinc 2 1, 3) := by decide +kernel
theorem dX8_onesAgainst_30 : decode cX8_onesAgainst 30 = .ok (.goto (-26), 3) := by decide +kernel
theorem dX8_onesAgainst_33 : decode cX8_onesAgainst 33 = .ok (.iload_n 1, 1) := by decide +kernel
theorem dX8_onesAgainst_34 : decode cX8_onesAgainst 34 = .ok (.ireturn, 1) := by decide +kernel
def L_X8_onesAgainst_4 (t_mood : Nat → Int32) (t_people : Int32) : Nat → Int32 → Int32 → Option (Int32)
  | 0, _, _ => none
  | n4 + 1, x1, x2 => if t_people ≤ x1 then some x2 else gd (ix x1 7) (if 0 ≤ (t_mood x1.toNatClampNeg) then L_X8_onesAgainst_4 t_mood t_people n4 (x1 + (1 : Int32)) x2 else nm (x2 ||| ((1 : Int32) <<< (x1 &&& 31))) (fun z6 => L_X8_onesAgainst_4 t_mood t_people n4 (x1 + (1 : Int32)) z6))
def f_X8_onesAgainst (N : Nat) (t_mood : Nat → Int32) (t_people : Int32) : Option (Int32) := L_X8_onesAgainst_4 t_mood t_people N (0 : Int32) (0 : Int32)
set_option maxHeartbeats 4000000 in
set_option maxRecDepth 100000 in
theorem c_X8_onesAgainst (l : Launch) (E : EE) (t_h : Nat) (t_a0 : Nat) (t_a1 : Nat) (t_a2 : Nat) (t_a3 : Nat) (t_a4 : Nat) (t_a5 : Nat) (t_height : Nat → Int32) (t_kind : Nat → Int32) (t_figure : Nat → Int32) (t_rail : Nat → Int32) (t_mood : Nat → Int32) (t_sight : Nat → Int32) (t_moving : Int32) (t_shut : Int32) (t_people : Int32) (t_needed : Int32) (t_day : Int32) (N : Nat) (res : Int32) (hv : f_X8_onesAgainst N t_mood t_people = some res) : Rd l E yX8_onesAgainst cX8_onesAgainst 3 (some .int) ({ frames := 0, cells := 0, slots := 0, locals := 0 }) [.ref t_h] [oSt t_h t_a0 t_a1 t_a2 t_a3 t_a4 t_a5 t_moving t_shut t_people t_needed t_day, ai E t_a0 10 t_height, ai E t_a1 7 t_kind, ai E t_a2 7 t_figure, ai E t_a3 7 t_rail, ai E t_a4 7 t_mood, ai E t_a5 7 t_sight] (some (.int res)) := by
  refine Rd.intro RX8 (by decide) rfl (Nat.le_of_ble_eq_true rfl) ?_
  intro p e s m below meth c ls hC hr hlk hP hG hl
  obtain ⟨hx, hb, hml, hown, ht⟩ := id hC
  have hK := hG.1
  have hl : lv_has ls 3 [(0, .ref t_h)] := hl
  rw [f_X8_onesAgainst] at hv
  refine lv_iconst (v := (0 : Int32)) hx hb dX8_onesAgainst_0 (by decide) ?_
  refine lv_istore_n (lv' := [(1, .int (0 : Int32)), (0, .ref t_h)]) hx hb dX8_onesAgainst_1 rfl hl (by decide) rfl (fun ls hl => ?_)
  refine lv_iconst (v := (0 : Int32)) hx hb dX8_onesAgainst_2 (by decide) ?_
  refine lv_istore_n (lv' := [(2, .int (0 : Int32)), (1, .int (0 : Int32)), (0, .ref t_h)]) hx hb dX8_onesAgainst_3 rfl hl (by decide) rfl (fun ls hl => ?_)
  have hL4 : ∀ (n : Nat) (x1 : Int32) (x2 : Int32) (ls : Array Slot), lv_has ls 3 [(2, .int x1), (1, .int x2), (0, .ref t_h)] → L_X8_onesAgainst_4 t_mood t_people n x1 x2 = some res → W p l e ({ frames := 0, cells := 0, slots := 0, locals := 0 }) s m [.ref t_h].toArray below meth c s.heap [] 0 0 (MQ below (RdQ (some (.int res))) [.ref t_h].toArray s 0 0 (fun _ => False)) (F0 m 4 ls []) := by
    intro n
    induction n with
    | zero => intro x1 x2 ls hl hv; cases hv
    | succ n4 ih4 =>
      intro x1 x2 ls hl hv
      rw [L_X8_onesAgainst_4] at hv
      refine lv_iload_n hx hb dX8_onesAgainst_4 rfl (lv_at hl 0 rfl) ?_
      refine lv_aload_n hx hb dX8_onesAgainst_5 rfl (lv_at hl 2 rfl) ?_
      refine va_get (D := E.1) (ci := 2) (v := .int t_people) (C := RX8) (T := TX8) (N := 11) hx hb ht i_X8 hown hK hP 0 rfl rfl 8 (by decide) (ht _ kw_1_53) (fun _ h9 => h9) rfl dX8_onesAgainst_6 ?_
      refine lv_icmp_ge (tgt := 33) hx hb dX8_onesAgainst_9 (by decide) (fun c3 => ?_) (fun c3 => ?_)
      · have hv := if_y c3 hv
        refine lv_iload_n hx hb dX8_onesAgainst_33 rfl (lv_at hl 1 rfl) ?_
        exact W.iret (v := x2) hx hb hr (fun t h9 _ => ⟨rv_i hv, h9⟩) (fun q h => absurd h List.not_mem_nil) dX8_onesAgainst_34 hlk
      · have hv := if_n c3 hv
        refine lv_aload_n hx hb dX8_onesAgainst_12 rfl (lv_at hl 2 rfl) ?_
        refine va_get (D := E.1) (ci := 2) (v := .ref t_a4) (C := RX8) (T := TX8) (N := 11) hx hb ht i_X8 hown hK hP 0 rfl rfl 4 (by decide) (ht _ kw_1_45) (fun _ h9 => h9) rfl dX8_onesAgainst_13 ?_
        refine lv_iload_n hx hb dX8_onesAgainst_16 rfl (lv_at hl 0 rfl) ?_
        obtain ⟨g4, hv⟩ := gd_s hv
        refine va_iald hx hb hK hP 5 0 rfl rfl (ix_s g4) dX8_onesAgainst_17 ?_
        refine lv_if_ge (tgt := 27) hx hb dX8_onesAgainst_18 (by decide) (fun c5 => ?_) (fun c5 => ?_)
        · have hv := if_y c5 hv
          refine lv_iinc (v := (x1 + (1 : Int32))) (lv' := [(2, .int (x1 + (1 : Int32))), (1, .int x2), (0, .ref t_h)]) hx hb dX8_onesAgainst_27 hl (k := 0) rfl rfl (by decide) rfl (fun ls hl => ?_)
          refine lv_goto (tgt := 4) hx hb dX8_onesAgainst_30 (by decide) ?_
          exact ih4 (x1 + (1 : Int32)) x2 _ (lv_sub hl [0, 1, 2] rfl) hv
        · have hv := if_n c5 hv
          refine lv_iload_n hx hb dX8_onesAgainst_21 rfl (lv_at hl 1 rfl) ?_
          refine lv_iconst (v := (1 : Int32)) hx hb dX8_onesAgainst_22 (by decide) ?_
          refine lv_iload_n hx hb dX8_onesAgainst_23 rfl (lv_at hl 0 rfl) ?_
          refine lv_ishl hx hb dX8_onesAgainst_24 ?_
          refine lv_ior hx hb dX8_onesAgainst_25 ?_
          refine lv_topi (fun z6 ez6 => ?_)
          have hv := nm_s ez6 hv
          refine lv_istore_n (lv' := [(1, .int z6), (2, .int x1), (0, .ref t_h)]) hx hb dX8_onesAgainst_26 rfl hl (by decide) rfl (fun ls hl => ?_)
          refine lv_iinc (v := (x1 + (1 : Int32))) (lv' := [(2, .int (x1 + (1 : Int32))), (1, .int z6), (0, .ref t_h)]) hx hb dX8_onesAgainst_27 hl (k := 1) rfl rfl (by decide) rfl (fun ls hl => ?_)
          refine lv_goto (tgt := 4) hx hb dX8_onesAgainst_30 (by decide) ?_
          exact ih4 (x1 + (1 : Int32)) z6 _ (lv_sub hl [0, 1, 2] rfl) hv
  exact hL4 N (0 : Int32) (0 : Int32) _ (lv_sub hl [0, 1, 2] rfl) hv
theorem dX8_weightOfAll_0 : decode cX8_weightOfAll 0 = .ok (.iconst 0, 1) := by decide +kernel
theorem dX8_weightOfAll_1 : decode cX8_weightOfAll 1 = .ok (.istore_n 2, 1) := by decide +kernel
theorem dX8_weightOfAll_2 : decode cX8_weightOfAll 2 = .ok (.iconst 0, 1) := by decide +kernel
theorem dX8_weightOfAll_3 : decode cX8_weightOfAll 3 = .ok (.istore_n 3, 1) := by decide +kernel
theorem dX8_weightOfAll_4 : decode cX8_weightOfAll 4 = .ok (.iload_n 3, 1) := by decide +kernel
theorem dX8_weightOfAll_5 : decode cX8_weightOfAll 5 = .ok (.aload_n 0, 1) := by decide +kernel
theorem dX8_weightOfAll_6 : decode cX8_weightOfAll 6 = .ok (.getfield 43, 3) := by decide +kernel
theorem dX8_weightOfAll_9 : decode cX8_weightOfAll 9 = .ok (.if_icmp .ge 25, 3) := by decide +kernel
theorem dX8_weightOfAll_12 : decode cX8_weightOfAll 12 = .ok (.iload_n 1, 1) := by decide +kernel
theorem dX8_weightOfAll_13 : decode cX8_weightOfAll 13 = .ok (.iload_n 3, 1) := by decide +kernel
theorem dX8_weightOfAll_14 : decode cX8_weightOfAll 14 = .ok (.invokestatic 53, 3) := by decide +kernel
theorem dX8_weightOfAll_17 : decode cX8_weightOfAll 17 = .ok (.ifCond .eq 11, 3) := by decide +kernel
theorem dX8_weightOfAll_20 : decode cX8_weightOfAll 20 = .ok (.iload_n 2, 1) := by decide +kernel
theorem dX8_weightOfAll_21 : decode cX8_weightOfAll 21 = .ok (.aload_n 0, 1) := by decide +kernel
theorem dX8_weightOfAll_22 : decode cX8_weightOfAll 22 = .ok (.iload_n 3, 1) := by decide +kernel
theorem dX8_weightOfAll_23 : decode cX8_weightOfAll 23 = .ok (.invokevirtual 67, 3) := by decide +kernel
theorem dX8_weightOfAll_26 : decode cX8_weightOfAll 26 = .ok (.iadd, 1) := by decide +kernel
theorem dX8_weightOfAll_27 : decode cX8_weightOfAll 27 = .ok (.istore_n 2, 1) := by decide +kernel
theorem dX8_weightOfAll_28 : decode cX8_weightOfAll 28 = .ok (.iinc 3 1, 3) := by decide +kernel
theorem dX8_weightOfAll_31 : decode cX8_weightOfAll 31 = .ok (.goto (-27), 3) := by decide +kernel
theorem dX8_weightOfAll_34 : decode cX8_weightOfAll 34 = .ok (.iload_n 2, 1) := by decide +kernel
theorem dX8_weightOfAll_35 : decode cX8_weightOfAll 35 = .ok (.ireturn, 1) := by decide +kernel
def L_X8_weightOfAll_4 (t_height : Nat → Int32) (t_kind : Nat → Int32) (t_figure : Nat → Int32) (t_rail : Nat → Int32) (t_people : Int32) (p1 : Int32) : Nat → Int32 → Int32 → Option (Int32)
  | 0, _, _ => none
  | n4 + 1, x1, x2 => if t_people ≤ x1 then some x2 else ob (f_X9_isIn p1 x1) (fun r4 => if r4 = 0 then L_X8_weightOfAll_4 t_height t_kind t_figure t_rail t_people p1 n4 (x1 + (1 : Int32)) x2 else ob (f_X8_weightOf t_height t_kind t_figure t_rail x1) (fun r7 => L_X8_weightOfAll_4 t_height t_kind t_figure t_rail t_people p1 n4 (x1 + (1 : Int32)) (x2 + r7)))
def f_X8_weightOfAll (N : Nat) (t_height : Nat → Int32) (t_kind : Nat → Int32) (t_figure : Nat → Int32) (t_rail : Nat → Int32) (t_people : Int32) (p1 : Int32) : Option (Int32) := L_X8_weightOfAll_4 t_height t_kind t_figure t_rail t_people p1 N (0 : Int32) (0 : Int32)
set_option maxHeartbeats 4000000 in
set_option maxRecDepth 100000 in
theorem c_X8_weightOfAll (l : Launch) (E : EE) (t_h : Nat) (t_a0 : Nat) (t_a1 : Nat) (t_a2 : Nat) (t_a3 : Nat) (t_a4 : Nat) (t_a5 : Nat) (t_height : Nat → Int32) (t_kind : Nat → Int32) (t_figure : Nat → Int32) (t_rail : Nat → Int32) (t_mood : Nat → Int32) (t_sight : Nat → Int32) (t_moving : Int32) (t_shut : Int32) (t_people : Int32) (t_needed : Int32) (t_day : Int32) (p1 : Int32) (N : Nat) (res : Int32) (hv : f_X8_weightOfAll N t_height t_kind t_figure t_rail t_people p1 = some res) : Rd l E yX8_weightOfAll cX8_weightOfAll 4 (some .int) ({ frames := 2, cells := 0, slots := 0, locals := 43 }) [.ref t_h, .int p1] [oSt t_h t_a0 t_a1 t_a2 t_a3 t_a4 t_a5 t_moving t_shut t_people t_needed t_day, ai E t_a0 10 t_height, ai E t_a1 7 t_kind, ai E t_a2 7 t_figure, ai E t_a3 7 t_rail, ai E t_a4 7 t_mood, ai E t_a5 7 t_sight] (some (.int res)) := by
  refine Rd.intro RX8 (by decide) rfl (Nat.le_of_ble_eq_true rfl) ?_
  intro p e s m below meth c ls hC hr hlk hP hG hl
  obtain ⟨hx, hb, hml, hown, ht⟩ := id hC
  have hK := hG.1
  have hl : lv_has ls 4 [(0, .ref t_h), (1, .int p1)] := hl
  rw [f_X8_weightOfAll] at hv
  refine lv_iconst (v := (0 : Int32)) hx hb dX8_weightOfAll_0 (by decide) ?_
  refine lv_istore_n (lv' := [(2, .int (0 : Int32)), (0, .ref t_h), (1, .int p1)]) hx hb dX8_weightOfAll_1 rfl hl (by decide) rfl (fun ls hl => ?_)
  refine lv_iconst (v := (0 : Int32)) hx hb dX8_weightOfAll_2 (by decide) ?_
  refine lv_istore_n (lv' := [(3, .int (0 : Int32)), (2, .int (0 : Int32)), (0, .ref t_h), (1, .int p1)]) hx hb dX8_weightOfAll_3 rfl hl (by decide) rfl (fun ls hl => ?_)
  have hL4 : ∀ (n : Nat) (x1 : Int32) (x2 : Int32) (ls : Array Slot), lv_has ls 4 [(3, .int x1), (2, .int x2), (0, .ref t_h), (1, .int p1)] → L_X8_weightOfAll_4 t_height t_kind t_figure t_rail t_people p1 n x1 x2 = some res → W p l e ({ frames := 2, cells := 0, slots := 0, locals := 43 }) s m [.ref t_h, .int p1].toArray below meth c s.heap [] 0 0 (MQ below (RdQ (some (.int res))) [.ref t_h, .int p1].toArray s 0 0 (fun _ => False)) (F0 m 4 ls []) := by
    intro n
    induction n with
    | zero => intro x1 x2 ls hl hv; cases hv
    | succ n4 ih4 =>
      intro x1 x2 ls hl hv
      rw [L_X8_weightOfAll_4] at hv
      refine lv_iload_n hx hb dX8_weightOfAll_4 rfl (lv_at hl 0 rfl) ?_
      refine lv_aload_n hx hb dX8_weightOfAll_5 rfl (lv_at hl 2 rfl) ?_
      refine va_get (D := E.1) (ci := 2) (v := .int t_people) (C := RX8) (T := TX8) (N := 11) hx hb ht i_X8 hown hK hP 0 rfl rfl 8 (by decide) (ht _ kw_1_53) (fun _ h9 => h9) rfl dX8_weightOfAll_6 ?_
      refine lv_icmp_ge (tgt := 34) hx hb dX8_weightOfAll_9 (by decide) (fun c3 => ?_) (fun c3 => ?_)
      · have hv := if_y c3 hv
        refine lv_iload_n hx hb dX8_weightOfAll_34 rfl (lv_at hl 1 rfl) ?_
        exact W.iret (v := x2) hx hb hr (fun t h9 _ => ⟨rv_i hv, h9⟩) (fun q h => absurd h List.not_mem_nil) dX8_weightOfAll_35 hlk
      · have hv := if_n c3 hv
        refine lv_iload_n hx hb dX8_weightOfAll_12 rfl (lv_at hl 3 rfl) ?_
        refine lv_iload_n hx hb dX8_weightOfAll_13 rfl (lv_at hl 0 rfl) ?_
        obtain ⟨r4, h5, hv⟩ := ob_s hv
        refine rdSN (rest := []) (st1 := [.int r4]) (w := []) hC q_X9_isIn (List.mem_of_getElem? (i := 4) rfl) (c_X9_isIn l E p1 x1 r4 h5) ⟨rfl, rfl⟩ ⟨Nat.le_of_ble_eq_true rfl, Nat.le_of_ble_eq_true rfl⟩ ⟨Nat.zero_le _, Nat.zero_le _⟩ (hP.sub (ws' := []) [] rfl) hG rfl hl.1 rfl (Nat.le_of_ble_eq_true rfl) dX8_weightOfAll_14 rfl ?_
        refine lv_if_eq (tgt := 28) hx hb dX8_weightOfAll_17 (by decide) (fun c6 => ?_) (fun c6 => ?_)
        · have hv := if_y c6 hv
          refine lv_iinc (v := (x1 + (1 : Int32))) (lv' := [(3, .int (x1 + (1 : Int32))), (2, .int x2), (0, .ref t_h), (1, .int p1)]) hx hb dX8_weightOfAll_28 hl (k := 0) rfl rfl (by decide) rfl (fun ls hl => ?_)
          refine lv_goto (tgt := 4) hx hb dX8_weightOfAll_31 (by decide) ?_
          exact ih4 (x1 + (1 : Int32)) x2 _ (lv_sub hl [0, 1, 2, 3] rfl) hv
        · have hv := if_n c6 hv
          refine lv_iload_n hx hb dX8_weightOfAll_20 rfl (lv_at hl 1 rfl) ?_
          refine lv_aload_n hx hb dX8_weightOfAll_21 rfl (lv_at hl 2 rfl) ?_
          refine lv_iload_n hx hb dX8_weightOfAll_22 rfl (lv_at hl 0 rfl) ?_
          obtain ⟨r7, h8, hv⟩ := ob_s hv
          refine rdV 2 0 (As := [.int x1]) (rest := [.int x2]) (st1 := [.int r7, .int x2]) (w := [oSt t_h t_a0 t_a1 t_a2 t_a3 t_a4 t_a5 t_moving t_shut t_people t_needed t_day, ai E t_a0 10 t_height, ai E t_a1 7 t_kind, ai E t_a2 7 t_figure, ai E t_a3 7 t_rail, ai E t_a4 7 t_mood, ai E t_a5 7 t_sight]) hC q_X8_weightOf kw_2_134 (c_X8_weightOf l E t_h t_a0 t_a1 t_a2 t_a3 t_a4 t_a5 t_height t_kind t_figure t_rail t_mood t_sight t_moving t_shut t_people t_needed t_day x1 r7 h8) ⟨rfl, rfl⟩ ⟨Nat.le_of_ble_eq_true rfl, Nat.le_of_ble_eq_true rfl⟩ ⟨Nat.zero_le _, Nat.zero_le _⟩ hP rfl rfl rfl hG rfl hl.1 rfl (Nat.le_of_ble_eq_true rfl) dX8_weightOfAll_23 rfl ?_
          refine lv_iadd hx hb dX8_weightOfAll_26 ?_
          refine lv_istore_n (lv' := [(2, .int (x2 + r7)), (3, .int x1), (0, .ref t_h), (1, .int p1)]) hx hb dX8_weightOfAll_27 rfl hl (by decide) rfl (fun ls hl => ?_)
          refine lv_iinc (v := (x1 + (1 : Int32))) (lv' := [(3, .int (x1 + (1 : Int32))), (2, .int (x2 + r7)), (0, .ref t_h), (1, .int p1)]) hx hb dX8_weightOfAll_28 hl (k := 1) rfl rfl (by decide) rfl (fun ls hl => ?_)
          refine lv_goto (tgt := 4) hx hb dX8_weightOfAll_31 (by decide) ?_
          exact ih4 (x1 + (1 : Int32)) (x2 + r7) _ (lv_sub hl [0, 1, 2, 3] rfl) hv
  exact hL4 N (0 : Int32) (0 : Int32) _ (lv_sub hl [0, 1, 2, 3] rfl) hv
theorem dX8_sidesOf_0 : decode cX8_sidesOf 0 = .ok (.iconst 0, 1) := by decide +kernel
theorem dX8_sidesOf_1 : decode cX8_sidesOf 1 = .ok (.istore_n 2, 1) := by decide +kernel
theorem dX8_sidesOf_2 : decode cX8_sidesOf 2 = .ok (.iconst 0, 1) := by decide +kernel
theorem dX8_sidesOf_3 : decode cX8_sidesOf 3 = .ok (.istore_n 3, 1) := by decide +kernel
theorem dX8_sidesOf_4 : decode cX8_sidesOf 4 = .ok (.iload_n 3, 1) := by decide +kernel
theorem dX8_sidesOf_5 : decode cX8_sidesOf 5 = .ok (.aload_n 0, 1) := by decide +kernel
theorem dX8_sidesOf_6 : decode cX8_sidesOf 6 = .ok (.getfield 43, 3) := by decide +kernel
theorem dX8_sidesOf_9 : decode cX8_sidesOf 9 = .ok (.if_icmp .ge 30, 3) := by decide +kernel
theorem dX8_sidesOf_12 : decode cX8_sidesOf 12 = .ok (.iload_n 1, 1) := by decide +kernel
theorem dX8_sidesOf_13 : decode cX8_sidesOf 13 = .ok (.iload_n 3, 1) := by decide +kernel
theorem dX8_sidesOf_14 : decode cX8_sidesOf 14 = .ok (.invokestatic 53, 3) := by decide +kernel
theorem dX8_sidesOf_17 : decode cX8_sidesOf 17 = .ok (.ifCond .eq 16, 3) := by decide +kernel
theorem dX8_sidesOf_20 : decode cX8_sidesOf 20 = .ok (.iload_n 2, 1) := by decide +kernel
theorem dX8_sidesOf_21 : decode cX8_sidesOf 21 = .ok (.iconst 1, 1) := by decide +kernel
theorem dX8_sidesOf_22 : decode cX8_sidesOf 22 = .ok (.aload_n 0, 1) := by decide +kernel
theorem dX8_sidesOf_23 : decode cX8_sidesOf 23 = .ok (.getfield 21, 3) := by decide +kernel
theorem dX8_sidesOf_26 : decode cX8_sidesOf 26 = .ok (.iload_n 3, 1) := by decide +kernel
theorem dX8_sidesOf_27 : decode cX8_sidesOf 27 = .ok (.iaload, 1) := by decide +kernel
theorem dX8_sidesOf_28 : decode cX8_sidesOf 28 = .ok (.iconst 2, 1) := by decide +kernel
theorem dX8_sidesOf_29 : decode cX8_sidesOf 29 = .ok (.irem, 1) := by decide +kernel
theorem dX8_sidesOf_30 : decode cX8_sidesOf 30 = .ok (.ishl, 1) := by decide +kernel
theorem dX8_sidesOf_31 : decode cX8_sidesOf 31 = .ok (.ior, 1) := by decide +kernel
theorem dX8_sidesOf_32 : decode cX8_sidesOf 32 = .ok (.istore_n 2, 1) := by decide +kernel
theorem dX8_sidesOf_33 : decode cX8_sidesOf 33 = .ok (.iinc 3 1, 3) := by decide +kernel
theorem dX8_sidesOf_36 : decode cX8_sidesOf 36 = .ok (.goto (-32), 3) := by decide +kernel
theorem dX8_sidesOf_39 : decode cX8_sidesOf 39 = .ok (.iload_n 2, 1) := by decide +kernel
theorem dX8_sidesOf_40 : decode cX8_sidesOf 40 = .ok (.ireturn, 1) := by decide +kernel
def L_X8_sidesOf_4 (t_rail : Nat → Int32) (t_people : Int32) (p1 : Int32) : Nat → Int32 → Int32 → Option (Int32)
  | 0, _, _ => none
  | n4 + 1, x1, x2 => if t_people ≤ x1 then some x2 else ob (f_X9_isIn p1 x1) (fun r4 => if r4 = 0 then L_X8_sidesOf_4 t_rail t_people p1 n4 (x1 + (1 : Int32)) x2 else gd (ix x1 7) (nm (x2 ||| ((1 : Int32) <<< (((t_rail x1.toNatClampNeg) - (t_rail x1.toNatClampNeg) / (2 : Int32) * (2 : Int32)) &&& 31))) (fun z8 => L_X8_sidesOf_4 t_rail t_people p1 n4 (x1 + (1 : Int32)) z8)))
def f_X8_sidesOf (N : Nat) (t_rail : Nat → Int32) (t_people : Int32) (p1 : Int32) : Option (Int32) := L_X8_sidesOf_4 t_rail t_people p1 N (0 : Int32) (0 : Int32)
set_option maxHeartbeats 4000000 in
set_option maxRecDepth 100000 in
theorem c_X8_sidesOf (l : Launch) (E : EE) (t_h : Nat) (t_a0 : Nat) (t_a1 : Nat) (t_a2 : Nat) (t_a3 : Nat) (t_a4 : Nat) (t_a5 : Nat) (t_height : Nat → Int32) (t_kind : Nat → Int32) (t_figure : Nat → Int32) (t_rail : Nat → Int32) (t_mood : Nat → Int32) (t_sight : Nat → Int32) (t_moving : Int32) (t_shut : Int32) (t_people : Int32) (t_needed : Int32) (t_day : Int32) (p1 : Int32) (N : Nat) (res : Int32) (hv : f_X8_sidesOf N t_rail t_people p1 = some res) : Rd l E yX8_sidesOf cX8_sidesOf 4 (some .int) ({ frames := 1, cells := 0, slots := 0, locals := 21 }) [.ref t_h, .int p1] [oSt t_h t_a0 t_a1 t_a2 t_a3 t_a4 t_a5 t_moving t_shut t_people t_needed t_day, ai E t_a0 10 t_height, ai E t_a1 7 t_kind, ai E t_a2 7 t_figure, ai E t_a3 7 t_rail, ai E t_a4 7 t_mood, ai E t_a5 7 t_sight] (some (.int res)) := by
  refine Rd.intro RX8 (by decide) rfl (Nat.le_of_ble_eq_true rfl) ?_
  intro p e s m below meth c ls hC hr hlk hP hG hl
  obtain ⟨hx, hb, hml, hown, ht⟩ := id hC
  have hK := hG.1
  have hl : lv_has ls 4 [(0, .ref t_h), (1, .int p1)] := hl
  rw [f_X8_sidesOf] at hv
  refine lv_iconst (v := (0 : Int32)) hx hb dX8_sidesOf_0 (by decide) ?_
  refine lv_istore_n (lv' := [(2, .int (0 : Int32)), (0, .ref t_h), (1, .int p1)]) hx hb dX8_sidesOf_1 rfl hl (by decide) rfl (fun ls hl => ?_)
  refine lv_iconst (v := (0 : Int32)) hx hb dX8_sidesOf_2 (by decide) ?_
  refine lv_istore_n (lv' := [(3, .int (0 : Int32)), (2, .int (0 : Int32)), (0, .ref t_h), (1, .int p1)]) hx hb dX8_sidesOf_3 rfl hl (by decide) rfl (fun ls hl => ?_)
  have hL4 : ∀ (n : Nat) (x1 : Int32) (x2 : Int32) (ls : Array Slot), lv_has ls 4 [(3, .int x1), (2, .int x2), (0, .ref t_h), (1, .int p1)] → L_X8_sidesOf_4 t_rail t_people p1 n x1 x2 = some res → W p l e ({ frames := 1, cells := 0, slots := 0, locals := 21 }) s m [.ref t_h, .int p1].toArray below meth c s.heap [] 0 0 (MQ below (RdQ (some (.int res))) [.ref t_h, .int p1].toArray s 0 0 (fun _ => False)) (F0 m 4 ls []) := by
    intro n
    induction n with
    | zero => intro x1 x2 ls hl hv; cases hv
    | succ n4 ih4 =>
      intro x1 x2 ls hl hv
      rw [L_X8_sidesOf_4] at hv
      refine lv_iload_n hx hb dX8_sidesOf_4 rfl (lv_at hl 0 rfl) ?_
      refine lv_aload_n hx hb dX8_sidesOf_5 rfl (lv_at hl 2 rfl) ?_
      refine va_get (D := E.1) (ci := 2) (v := .int t_people) (C := RX8) (T := TX8) (N := 11) hx hb ht i_X8 hown hK hP 0 rfl rfl 8 (by decide) (ht _ kw_1_53) (fun _ h9 => h9) rfl dX8_sidesOf_6 ?_
      refine lv_icmp_ge (tgt := 39) hx hb dX8_sidesOf_9 (by decide) (fun c3 => ?_) (fun c3 => ?_)
      · have hv := if_y c3 hv
        refine lv_iload_n hx hb dX8_sidesOf_39 rfl (lv_at hl 1 rfl) ?_
        exact W.iret (v := x2) hx hb hr (fun t h9 _ => ⟨rv_i hv, h9⟩) (fun q h => absurd h List.not_mem_nil) dX8_sidesOf_40 hlk
      · have hv := if_n c3 hv
        refine lv_iload_n hx hb dX8_sidesOf_12 rfl (lv_at hl 3 rfl) ?_
        refine lv_iload_n hx hb dX8_sidesOf_13 rfl (lv_at hl 0 rfl) ?_
        obtain ⟨r4, h5, hv⟩ := ob_s hv
        refine rdSN (rest := []) (st1 := [.int r4]) (w := []) hC q_X9_isIn (List.mem_of_getElem? (i := 4) rfl) (c_X9_isIn l E p1 x1 r4 h5) ⟨rfl, rfl⟩ ⟨Nat.le_of_ble_eq_true rfl, Nat.le_of_ble_eq_true rfl⟩ ⟨Nat.zero_le _, Nat.zero_le _⟩ (hP.sub (ws' := []) [] rfl) hG rfl hl.1 rfl (Nat.le_of_ble_eq_true rfl) dX8_sidesOf_14 rfl ?_
        refine lv_if_eq (tgt := 33) hx hb dX8_sidesOf_17 (by decide) (fun c6 => ?_) (fun c6 => ?_)
        · have hv := if_y c6 hv
          refine lv_iinc (v := (x1 + (1 : Int32))) (lv' := [(3, .int (x1 + (1 : Int32))), (2, .int x2), (0, .ref t_h), (1, .int p1)]) hx hb dX8_sidesOf_33 hl (k := 0) rfl rfl (by decide) rfl (fun ls hl => ?_)
          refine lv_goto (tgt := 4) hx hb dX8_sidesOf_36 (by decide) ?_
          exact ih4 (x1 + (1 : Int32)) x2 _ (lv_sub hl [0, 1, 2, 3] rfl) hv
        · have hv := if_n c6 hv
          refine lv_iload_n hx hb dX8_sidesOf_20 rfl (lv_at hl 1 rfl) ?_
          refine lv_iconst (v := (1 : Int32)) hx hb dX8_sidesOf_21 (by decide) ?_
          refine lv_aload_n hx hb dX8_sidesOf_22 rfl (lv_at hl 2 rfl) ?_
          refine va_get (D := E.1) (ci := 2) (v := .ref t_a3) (C := RX8) (T := TX8) (N := 11) hx hb ht i_X8 hown hK hP 0 rfl rfl 3 (by decide) (ht _ kw_1_43) (fun _ h9 => h9) rfl dX8_sidesOf_23 ?_
          refine lv_iload_n hx hb dX8_sidesOf_26 rfl (lv_at hl 0 rfl) ?_
          obtain ⟨g7, hv⟩ := gd_s hv
          refine va_iald hx hb hK hP 4 0 rfl rfl (ix_s g7) dX8_sidesOf_27 ?_
          refine lv_iconst (v := (2 : Int32)) hx hb dX8_sidesOf_28 (by decide) ?_
          refine lv_irem hx hb dX8_sidesOf_29 (by decide) ?_
          refine lv_ishl hx hb dX8_sidesOf_30 ?_
          refine lv_ior hx hb dX8_sidesOf_31 ?_
          refine lv_topi (fun z8 ez8 => ?_)
          have hv := nm_s ez8 hv
          refine lv_istore_n (lv' := [(2, .int z8), (3, .int x1), (0, .ref t_h), (1, .int p1)]) hx hb dX8_sidesOf_32 rfl hl (by decide) rfl (fun ls hl => ?_)
          refine lv_iinc (v := (x1 + (1 : Int32))) (lv' := [(3, .int (x1 + (1 : Int32))), (2, .int z8), (0, .ref t_h), (1, .int p1)]) hx hb dX8_sidesOf_33 hl (k := 1) rfl rfl (by decide) rfl (fun ls hl => ?_)
          refine lv_goto (tgt := 4) hx hb dX8_sidesOf_36 (by decide) ?_
          exact ih4 (x1 + (1 : Int32)) z8 _ (lv_sub hl [0, 1, 2, 3] rfl) hv
  exact hL4 N (0 : Int32) (0 : Int32) _ (lv_sub hl [0, 1, 2, 3] rfl) hv
theorem dX8_weightFor_0 : decode cX8_weightFor 0 = .ok (.aload_n 0, 1) := by decide +kernel
theorem dX8_weightFor_1 : decode cX8_weightFor 1 = .ok (.iload_n 1, 1) := by decide +kernel
theorem dX8_weightFor_2 : decode cX8_weightFor 2 = .ok (.aload_n 0, 1) := by decide +kernel
theorem dX8_weightFor_3 : decode cX8_weightFor 3 = .ok (.invokevirtual 70, 3) := by decide +kernel
theorem dX8_weightFor_6 : decode cX8_weightFor 6 = .ok (.iand, 1) := by decide +kernel
theorem dX8_weightFor_7 : decode cX8_weightFor 7 = .ok (.invokevirtual 74, 3) := by decide +kernel
theorem dX8_weightFor_10 : decode cX8_weightFor 10 = .ok (.ireturn, 1) := by decide +kernel
def f_X8_weightFor (N : Nat) (t_height : Nat → Int32) (t_kind : Nat → Int32) (t_figure : Nat → Int32) (t_rail : Nat → Int32) (t_mood : Nat → Int32) (t_people : Int32) (p1 : Int32) : Option (Int32) := ob (f_X8_onesFor N t_mood t_people) (fun r1 => ob (f_X8_weightOfAll N t_height t_kind t_figure t_rail t_people (p1 &&& r1)) (fun r3 => some r3))
set_option maxHeartbeats 4000000 in
set_option maxRecDepth 100000 in
theorem c_X8_weightFor (l : Launch) (E : EE) (t_h : Nat) (t_a0 : Nat) (t_a1 : Nat) (t_a2 : Nat) (t_a3 : Nat) (t_a4 : Nat) (t_a5 : Nat) (t_height : Nat → Int32) (t_kind : Nat → Int32) (t_figure : Nat → Int32) (t_rail : Nat → Int32) (t_mood : Nat → Int32) (t_sight : Nat → Int32) (t_moving : Int32) (t_shut : Int32) (t_people : Int32) (t_needed : Int32) (t_day : Int32) (p1 : Int32) (N : Nat) (res : Int32) (hv : f_X8_weightFor N t_height t_kind t_figure t_rail t_mood t_people p1 = some res) : Rd l E yX8_weightFor cX8_weightFor 2 (some .int) ({ frames := 3, cells := 0, slots := 0, locals := 66 }) [.ref t_h, .int p1] [oSt t_h t_a0 t_a1 t_a2 t_a3 t_a4 t_a5 t_moving t_shut t_people t_needed t_day, ai E t_a0 10 t_height, ai E t_a1 7 t_kind, ai E t_a2 7 t_figure, ai E t_a3 7 t_rail, ai E t_a4 7 t_mood, ai E t_a5 7 t_sight] (some (.int res)) := by
  refine Rd.intro RX8 (by decide) rfl (Nat.le_of_ble_eq_true rfl) ?_
  intro p e s m below meth c ls hC hr hlk hP hG hl
  obtain ⟨hx, hb, hml, hown, ht⟩ := id hC
  have hK := hG.1
  have hl : lv_has ls 2 [(0, .ref t_h), (1, .int p1)] := hl
  rw [f_X8_weightFor] at hv
  refine lv_aload_n hx hb dX8_weightFor_0 rfl (lv_at hl 0 rfl) ?_
  refine lv_iload_n hx hb dX8_weightFor_1 rfl (lv_at hl 1 rfl) ?_
  refine lv_aload_n hx hb dX8_weightFor_2 rfl (lv_at hl 0 rfl) ?_
  obtain ⟨r1, h2, hv⟩ := ob_s hv
  refine rdV 2 0 (As := []) (rest := [.int p1, .ref t_h]) (st1 := [.int r1, .int p1, .ref t_h]) (w := [oSt t_h t_a0 t_a1 t_a2 t_a3 t_a4 t_a5 t_moving t_shut t_people t_needed t_day, ai E t_a0 10 t_height, ai E t_a1 7 t_kind, ai E t_a2 7 t_figure, ai E t_a3 7 t_rail, ai E t_a4 7 t_mood, ai E t_a5 7 t_sight]) hC q_X8_onesFor kw_2_122 (c_X8_onesFor l E t_h t_a0 t_a1 t_a2 t_a3 t_a4 t_a5 t_height t_kind t_figure t_rail t_mood t_sight t_moving t_shut t_people t_needed t_day N r1 h2) ⟨rfl, rfl⟩ ⟨Nat.le_of_ble_eq_true rfl, Nat.le_of_ble_eq_true rfl⟩ ⟨Nat.zero_le _, Nat.zero_le _⟩ hP rfl rfl rfl hG rfl hl.1 rfl (Nat.le_of_ble_eq_true rfl) dX8_weightFor_3 rfl ?_
  refine lv_iand hx hb dX8_weightFor_6 ?_
  obtain ⟨r3, h4, hv⟩ := ob_s hv
  refine rdV 2 0 (As := [.int (p1 &&& r1)]) (rest := []) (st1 := [.int r3]) (w := [oSt t_h t_a0 t_a1 t_a2 t_a3 t_a4 t_a5 t_moving t_shut t_people t_needed t_day, ai E t_a0 10 t_height, ai E t_a1 7 t_kind, ai E t_a2 7 t_figure, ai E t_a3 7 t_rail, ai E t_a4 7 t_mood, ai E t_a5 7 t_sight]) hC q_X8_weightOfAll kw_2_130 (c_X8_weightOfAll l E t_h t_a0 t_a1 t_a2 t_a3 t_a4 t_a5 t_height t_kind t_figure t_rail t_mood t_sight t_moving t_shut t_people t_needed t_day (p1 &&& r1) N r3 h4) ⟨rfl, rfl⟩ ⟨Nat.le_of_ble_eq_true rfl, Nat.le_of_ble_eq_true rfl⟩ ⟨Nat.zero_le _, Nat.zero_le _⟩ hP rfl rfl rfl hG rfl hl.1 rfl (Nat.le_of_ble_eq_true rfl) dX8_weightFor_7 rfl ?_
  exact W.iret (v := r3) hx hb hr (fun t h9 _ => ⟨rv_i hv, h9⟩) (fun q h => absurd h List.not_mem_nil) dX8_weightFor_10 hlk
theorem dX8_isVetoed_0 : decode cX8_isVetoed 0 = .ok (.iconst 0, 1) := by decide +kernel
theorem dX8_isVetoed_1 : decode cX8_isVetoed 1 = .ok (.istore_n 2, 1) := by decide +kernel
theorem dX8_isVetoed_2 : decode cX8_isVetoed 2 = .ok (.iload_n 2, 1) := by decide +kernel
theorem dX8_isVetoed_3 : decode cX8_isVetoed 3 = .ok (.aload_n 0, 1) := by decide +kernel
theorem dX8_isVetoed_4 : decode cX8_isVetoed 4 = .ok (.getfield 43, 3) := by decide +kernel
theorem dX8_isVetoed_7 : decode cX8_isVetoed 7 = .ok (.if_icmp .ge 37, 3) := by decide +kernel
theorem dX8_isVetoed_10 : decode cX8_isVetoed 10 = .ok (.iload_n 1, 1) := by decide +kernel
theorem dX8_isVetoed_11 : decode cX8_isVetoed 11 = .ok (.iload_n 2, 1) := by decide +kernel
theorem dX8_isVetoed_12 : decode cX8_isVetoed 12 = .ok (.invokestatic 53, 3) := by decide +kernel
theorem dX8_isVetoed_15 : decode cX8_isVetoed 15 = .ok (.ifCond .eq 23, 3) := by decide +kernel
theorem dX8_isVetoed_18 : decode cX8_isVetoed 18 = .ok (.aload_n 0, 1) := by decide +kernel
theorem dX8_isVetoed_19 : decode cX8_isVetoed 19 = .ok (.getfield 15, 3) := by decide +kernel
theorem dX8_isVetoed_22 : decode cX8_isVetoed 22 = .ok (.iload_n 2, 1) := by decide +kernel
theorem dX8_isVetoed_23 : decode cX8_isVetoed 23 = .ok (.iaload, 1) := by decide +kernel
theorem dX8_isVetoed_24 : decode cX8_isVetoed 24 = .ok (.aload_n 0, 1) := by decide +kernel
theorem dX8_isVetoed_25 : decode cX8_isVetoed 25 = .ok (.getfield 24, 3) := by decide +kernel
theorem dX8_isVetoed_28 : decode cX8_isVetoed 28 = .ok (.iload_n 2, 1) := by decide +kernel
theorem dX8_isVetoed_29 : decode cX8_isVetoed 29 = .ok (.iaload, 1) := by decide +kernel
theorem dX8_isVetoed_30 : decode cX8_isVetoed 30 = .ok (.invokestatic 83, 3) := by decide +kernel
theorem dX8_isVetoed_33 : decode cX8_isVetoed 33 = .ok (.ifCond .eq 5, 3) := by decide +kernel
theorem dX8_isVetoed_36 : decode cX8_isVetoed 36 = .ok (.iconst 1, 1) := by decide +kernel
theorem dX8_isVetoed_37 : decode cX8_isVetoed 37 = .ok (.ireturn, 1) := by decide +kernel
theorem dX8_isVetoed_38 : decode cX8_isVetoed 38 = .ok (.iinc 2 1, 3) := by decide +kernel
theorem dX8_isVetoed_41 : decode cX8_isVetoed 41 = .ok (.goto (-39), 3) := by decide +kernel
theorem dX8_isVetoed_44 : decode cX8_isVetoed 44 = .ok (.iconst 0, 1) := by decide +kernel
theorem dX8_isVetoed_45 : decode cX8_isVetoed 45 = .ok (.ireturn, 1) := by decide +kernel
def L_X8_isVetoed_2 (t_kind : Nat → Int32) (t_mood : Nat → Int32) (t_people : Int32) (p1 : Int32) : Nat → Int32 → Option (Int32)
  | 0, _ => none
  | n2 + 1, x1 => if t_people ≤ x1 then some (0 : Int32) else ob (f_X9_isIn p1 x1) (fun r3 => if r3 = 0 then L_X8_isVetoed_2 t_kind t_mood t_people p1 n2 (x1 + (1 : Int32)) else gd (ix x1 7) (gd (ix x1 7) (ob (f_X3_isVeto (t_kind x1.toNatClampNeg) (t_mood x1.toNatClampNeg)) (fun r8 => if r8 = 0 then L_X8_isVetoed_2 t_kind t_mood t_people p1 n2 (x1 + (1 : Int32)) else some (1 : Int32)))))
def f_X8_isVetoed (N : Nat) (t_kind : Nat → Int32) (t_mood : Nat → Int32) (t_people : Int32) (p1 : Int32) : Option (Int32) := L_X8_isVetoed_2 t_kind t_mood t_people p1 N (0 : Int32)
set_option maxHeartbeats 4000000 in
set_option maxRecDepth 100000 in
theorem c_X8_isVetoed (l : Launch) (E : EE) (t_h : Nat) (t_a0 : Nat) (t_a1 : Nat) (t_a2 : Nat) (t_a3 : Nat) (t_a4 : Nat) (t_a5 : Nat) (t_height : Nat → Int32) (t_kind : Nat → Int32) (t_figure : Nat → Int32) (t_rail : Nat → Int32) (t_mood : Nat → Int32) (t_sight : Nat → Int32) (t_moving : Int32) (t_shut : Int32) (t_people : Int32) (t_needed : Int32) (t_day : Int32) (p1 : Int32) (N : Nat) (res : Int32) (hv : f_X8_isVetoed N t_kind t_mood t_people p1 = some res) : Rd l E yX8_isVetoed cX8_isVetoed 3 (some .boolean) ({ frames := 1, cells := 0, slots := 0, locals := 21 }) [.ref t_h, .int p1] [oSt t_h t_a0 t_a1 t_a2 t_a3 t_a4 t_a5 t_moving t_shut t_people t_needed t_day, ai E t_a0 10 t_height, ai E t_a1 7 t_kind, ai E t_a2 7 t_figure, ai E t_a3 7 t_rail, ai E t_a4 7 t_mood, ai E t_a5 7 t_sight] (some (.int res)) := by
  refine Rd.intro RX8 (by decide) rfl (Nat.le_of_ble_eq_true rfl) ?_
  intro p e s m below meth c ls hC hr hlk hP hG hl
  obtain ⟨hx, hb, hml, hown, ht⟩ := id hC
  have hK := hG.1
  have hl : lv_has ls 3 [(0, .ref t_h), (1, .int p1)] := hl
  rw [f_X8_isVetoed] at hv
  refine lv_iconst (v := (0 : Int32)) hx hb dX8_isVetoed_0 (by decide) ?_
  refine lv_istore_n (lv' := [(2, .int (0 : Int32)), (0, .ref t_h), (1, .int p1)]) hx hb dX8_isVetoed_1 rfl hl (by decide) rfl (fun ls hl => ?_)
  have hL2 : ∀ (n : Nat) (x1 : Int32) (ls : Array Slot), lv_has ls 3 [(2, .int x1), (0, .ref t_h), (1, .int p1)] → L_X8_isVetoed_2 t_kind t_mood t_people p1 n x1 = some res → W p l e ({ frames := 1, cells := 0, slots := 0, locals := 21 }) s m [.ref t_h, .int p1].toArray below meth c s.heap [] 0 0 (MQ below (RdQ (some (.int res))) [.ref t_h, .int p1].toArray s 0 0 (fun _ => False)) (F0 m 2 ls []) := by
    intro n
    induction n with
    | zero => intro x1 ls hl hv; cases hv
    | succ n2 ih2 =>
      intro x1 ls hl hv
      rw [L_X8_isVetoed_2] at hv
      refine lv_iload_n hx hb dX8_isVetoed_2 rfl (lv_at hl 0 rfl) ?_
      refine lv_aload_n hx hb dX8_isVetoed_3 rfl (lv_at hl 1 rfl) ?_
      refine va_get (D := E.1) (ci := 2) (v := .int t_people) (C := RX8) (T := TX8) (N := 11) hx hb ht i_X8 hown hK hP 0 rfl rfl 8 (by decide) (ht _ kw_1_53) (fun _ h9 => h9) rfl dX8_isVetoed_4 ?_
      refine lv_icmp_ge (tgt := 44) hx hb dX8_isVetoed_7 (by decide) (fun c2 => ?_) (fun c2 => ?_)
      · have hv := if_y c2 hv
        refine lv_iconst (v := (0 : Int32)) hx hb dX8_isVetoed_44 (by decide) ?_
        exact W.zret (v := (0 : Int32)) hx hb hr rfl (fun t h9 _ => ⟨rv_i hv, h9⟩) (fun q h => absurd h List.not_mem_nil) dX8_isVetoed_45 hlk
      · have hv := if_n c2 hv
        refine lv_iload_n hx hb dX8_isVetoed_10 rfl (lv_at hl 2 rfl) ?_
        refine lv_iload_n hx hb dX8_isVetoed_11 rfl (lv_at hl 0 rfl) ?_
        obtain ⟨r3, h4, hv⟩ := ob_s hv
        refine rdSN (rest := []) (st1 := [.int r3]) (w := []) hC q_X9_isIn (List.mem_of_getElem? (i := 4) rfl) (c_X9_isIn l E p1 x1 r3 h4) ⟨rfl, rfl⟩ ⟨Nat.le_of_ble_eq_true rfl, Nat.le_of_ble_eq_true rfl⟩ ⟨Nat.zero_le _, Nat.zero_le _⟩ (hP.sub (ws' := []) [] rfl) hG rfl hl.1 rfl (Nat.le_of_ble_eq_true rfl) dX8_isVetoed_12 rfl ?_
        refine lv_if_eq (tgt := 38) hx hb dX8_isVetoed_15 (by decide) (fun c5 => ?_) (fun c5 => ?_)
        · have hv := if_y c5 hv
          refine lv_iinc (v := (x1 + (1 : Int32))) (lv' := [(2, .int (x1 + (1 : Int32))), (0, .ref t_h), (1, .int p1)]) hx hb dX8_isVetoed_38 hl (k := 0) rfl rfl (by decide) rfl (fun ls hl => ?_)
          refine lv_goto (tgt := 2) hx hb dX8_isVetoed_41 (by decide) ?_
          exact ih2 (x1 + (1 : Int32)) _ (lv_sub hl [0, 1, 2] rfl) hv
        · have hv := if_n c5 hv
          refine lv_aload_n hx hb dX8_isVetoed_18 rfl (lv_at hl 1 rfl) ?_
          refine va_get (D := E.1) (ci := 2) (v := .ref t_a1) (C := RX8) (T := TX8) (N := 11) hx hb ht i_X8 hown hK hP 0 rfl rfl 1 (by decide) (ht _ kw_1_39) (fun _ h9 => h9) rfl dX8_isVetoed_19 ?_
          refine lv_iload_n hx hb dX8_isVetoed_22 rfl (lv_at hl 0 rfl) ?_
          obtain ⟨g6, hv⟩ := gd_s hv
          refine va_iald hx hb hK hP 2 0 rfl rfl (ix_s g6) dX8_isVetoed_23 ?_
          refine lv_aload_n hx hb dX8_isVetoed_24 rfl (lv_at hl 1 rfl) ?_
          refine va_get (D := E.1) (ci := 2) (v := .ref t_a4) (C := RX8) (T := TX8) (N := 11) hx hb ht i_X8 hown hK hP 0 rfl rfl 4 (by decide) (ht _ kw_1_45) (fun _ h9 => h9) rfl dX8_isVetoed_25 ?_
          refine lv_iload_n hx hb dX8_isVetoed_28 rfl (lv_at hl 0 rfl) ?_
          obtain ⟨g7, hv⟩ := gd_s hv
          refine va_iald hx hb hK hP 5 0 rfl rfl (ix_s g7) dX8_isVetoed_29 ?_
          obtain ⟨r8, h9, hv⟩ := ob_s hv
          refine rdS (rest := []) (st1 := [.int r8]) (w := []) hC q_X3_isVeto kw_2_139 (c_X3_isVeto l E (t_kind x1.toNatClampNeg) (t_mood x1.toNatClampNeg) r8 h9) ⟨rfl, rfl⟩ ⟨Nat.le_of_ble_eq_true rfl, Nat.le_of_ble_eq_true rfl⟩ ⟨Nat.zero_le _, Nat.zero_le _⟩ (hP.sub (ws' := []) [] rfl) hG rfl hl.1 rfl (Nat.le_of_ble_eq_true rfl) dX8_isVetoed_30 rfl ?_
          refine lv_if_eq (tgt := 38) hx hb dX8_isVetoed_33 (by decide) (fun c10 => ?_) (fun c10 => ?_)
          · have hv := if_y c10 hv
            refine lv_iinc (v := (x1 + (1 : Int32))) (lv' := [(2, .int (x1 + (1 : Int32))), (0, .ref t_h), (1, .int p1)]) hx hb dX8_isVetoed_38 hl (k := 0) rfl rfl (by decide) rfl (fun ls hl => ?_)
            refine lv_goto (tgt := 2) hx hb dX8_isVetoed_41 (by decide) ?_
            exact ih2 (x1 + (1 : Int32)) _ (lv_sub hl [0, 1, 2] rfl) hv
          · have hv := if_n c10 hv
            refine lv_iconst (v := (1 : Int32)) hx hb dX8_isVetoed_36 (by decide) ?_
            exact W.zret (v := (1 : Int32)) hx hb hr rfl (fun t h9 _ => ⟨rv_i hv, h9⟩) (fun q h => absurd h List.not_mem_nil) dX8_isVetoed_37 hlk
  exact hL2 N (0 : Int32) _ (lv_sub hl [0, 1, 2] rfl) hv
theorem dX8_whyNot_0 : decode cX8_whyNot 0 = .ok (.iload_n 1, 1) := by decide +kernel
theorem dX8_whyNot_1 : decode cX8_whyNot 1 = .ok (.aload_n 0, 1) := by decide +kernel
theorem dX8_whyNot_2 : decode cX8_whyNot 2 = .ok (.invokevirtual 70, 3) := by decide +kernel
theorem dX8_whyNot_5 : decode cX8_whyNot 5 = .ok (.iand, 1) := by decide +kernel
theorem dX8_whyNot_6 : decode cX8_whyNot 6 = .ok (.istore_n 2, 1) := by decide +kernel
theorem dX8_whyNot_7 : decode cX8_whyNot 7 = .ok (.aload_n 0, 1) := by decide +kernel
theorem dX8_whyNot_8 : decode cX8_whyNot 8 = .ok (.iload_n 2, 1) := by decide +kernel
theorem dX8_whyNot_9 : decode cX8_whyNot 9 = .ok (.invokevirtual 77, 3) := by decide +kernel
theorem dX8_whyNot_12 : decode cX8_whyNot 12 = .ok (.istore_n 3, 1) := by decide +kernel
theorem dX8_whyNot_13 : decode cX8_whyNot 13 = .ok (.iload_n 3, 1) := by decide +kernel
theorem dX8_whyNot_14 : decode cX8_whyNot 14 = .ok (.iconst 1, 1) := by decide +kernel
theorem dX8_whyNot_15 : decode cX8_whyNot 15 = .ok (.iand, 1) := by decide +kernel
theorem dX8_whyNot_16 : decode cX8_whyNot 16 = .ok (.ifCond .ne 5, 3) := by decide +kernel
theorem dX8_whyNot_19 : decode cX8_whyNot 19 = .ok (.iconst 1, 1) := by decide +kernel
theorem dX8_whyNot_20 : decode cX8_whyNot 20 = .ok (.ireturn, 1) := by decide +kernel
theorem dX8_whyNot_21 : decode cX8_whyNot 21 = .ok (.iload_n 3, 1) := by decide +kernel
theorem dX8_whyNot_22 : decode cX8_whyNot 22 = .ok (.iconst 2, 1) := by decide +kernel
theorem dX8_whyNot_23 : decode cX8_whyNot 23 = .ok (.iand, 1) := by decide +kernel
theorem dX8_whyNot_24 : decode cX8_whyNot 24 = .ok (.ifCond .ne 5, 3) := by decide +kernel
theorem dX8_whyNot_27 : decode cX8_whyNot 27 = .ok (.iconst 2, 1) := by decide +kernel
theorem dX8_whyNot_28 : decode cX8_whyNot 28 = .ok (.ireturn, 1) := by decide +kernel
theorem dX8_whyNot_29 : decode cX8_whyNot 29 = .ok (.aload_n 0, 1) := by decide +kernel
theorem dX8_whyNot_30 : decode cX8_whyNot 30 = .ok (.iload_n 2, 1) := by decide +kernel
theorem dX8_whyNot_31 : decode cX8_whyNot 31 = .ok (.invokevirtual 74, 3) := by decide +kernel
theorem dX8_whyNot_34 : decode cX8_whyNot 34 = .ok (.aload_n 0, 1) := by decide +kernel
theorem dX8_whyNot_35 : decode cX8_whyNot 35 = .ok (.getfield 30, 3) := by decide +kernel
theorem dX8_whyNot_38 : decode cX8_whyNot 38 = .ok (.if_icmp .ge 5, 3) := by decide +kernel
theorem dX8_whyNot_41 : decode cX8_whyNot 41 = .ok (.iconst 3, 1) := by decide +kernel
theorem dX8_whyNot_42 : decode cX8_whyNot 42 = .ok (.ireturn, 1) := by decide +kernel
theorem dX8_whyNot_43 : decode cX8_whyNot 43 = .ok (.aload_n 0, 1) := by decide +kernel
theorem dX8_whyNot_44 : decode cX8_whyNot 44 = .ok (.iload_n 1, 1) := by decide +kernel
theorem dX8_whyNot_45 : decode cX8_whyNot 45 = .ok (.invokevirtual 80, 3) := by decide +kernel
theorem dX8_whyNot_48 : decode cX8_whyNot 48 = .ok (.ifCond .eq 7, 3) := by decide +kernel
theorem dX8_whyNot_51 : decode cX8_whyNot 51 = .ok (.iconst 4, 1) := by decide +kernel
theorem dX8_whyNot_52 : decode cX8_whyNot 52 = .ok (.goto 4, 3) := by decide +kernel
theorem dX8_whyNot_55 : decode cX8_whyNot 55 = .ok (.iconst 0, 1) := by decide +kernel
theorem dX8_whyNot_56 : decode cX8_whyNot 56 = .ok (.ireturn, 1) := by decide +kernel
def f_X8_whyNot (N : Nat) (t_height : Nat → Int32) (t_kind : Nat → Int32) (t_figure : Nat → Int32) (t_rail : Nat → Int32) (t_mood : Nat → Int32) (t_people : Int32) (t_needed : Int32) (p1 : Int32) : Option (Int32) := ob (f_X8_onesFor N t_mood t_people) (fun r1 => ob (f_X8_sidesOf N t_rail t_people (p1 &&& r1)) (fun r3 => if (r3 &&& (1 : Int32)) = 0 then some (1 : Int32) else if (r3 &&& (2 : Int32)) = 0 then some (2 : Int32) else ob (f_X8_weightOfAll N t_height t_kind t_figure t_rail t_people (p1 &&& r1)) (fun r7 => if t_needed ≤ r7 then ob (f_X8_isVetoed N t_kind t_mood t_people p1) (fun r10 => if r10 = 0 then some (0 : Int32) else some (4 : Int32)) else some (3 : Int32))))
set_option maxHeartbeats 4000000 in
set_option maxRecDepth 100000 in
theorem c_X8_whyNot (l : Launch) (E : EE) (t_h : Nat) (t_a0 : Nat) (t_a1 : Nat) (t_a2 : Nat) (t_a3 : Nat) (t_a4 : Nat) (t_a5 : Nat) (t_height : Nat → Int32) (t_kind : Nat → Int32) (t_figure : Nat → Int32) (t_rail : Nat → Int32) (t_mood : Nat → Int32) (t_sight : Nat → Int32) (t_moving : Int32) (t_shut : Int32) (t_people : Int32) (t_needed : Int32) (t_day : Int32) (p1 : Int32) (N : Nat) (res : Int32) (hv : f_X8_whyNot N t_height t_kind t_figure t_rail t_mood t_people t_needed p1 = some res) : Rd l E yX8_whyNot cX8_whyNot 4 (some .int) ({ frames := 3, cells := 0, slots := 0, locals := 66 }) [.ref t_h, .int p1] [oSt t_h t_a0 t_a1 t_a2 t_a3 t_a4 t_a5 t_moving t_shut t_people t_needed t_day, ai E t_a0 10 t_height, ai E t_a1 7 t_kind, ai E t_a2 7 t_figure, ai E t_a3 7 t_rail, ai E t_a4 7 t_mood, ai E t_a5 7 t_sight] (some (.int res)) := by
  refine Rd.intro RX8 (by decide) rfl (Nat.le_of_ble_eq_true rfl) ?_
  intro p e s m below meth c ls hC hr hlk hP hG hl
  obtain ⟨hx, hb, hml, hown, ht⟩ := id hC
  have hK := hG.1
  have hl : lv_has ls 4 [(0, .ref t_h), (1, .int p1)] := hl
  rw [f_X8_whyNot] at hv
  refine lv_iload_n hx hb dX8_whyNot_0 rfl (lv_at hl 1 rfl) ?_
  refine lv_aload_n hx hb dX8_whyNot_1 rfl (lv_at hl 0 rfl) ?_
  obtain ⟨r1, h2, hv⟩ := ob_s hv
  refine rdV 2 0 (As := []) (rest := [.int p1]) (st1 := [.int r1, .int p1]) (w := [oSt t_h t_a0 t_a1 t_a2 t_a3 t_a4 t_a5 t_moving t_shut t_people t_needed t_day, ai E t_a0 10 t_height, ai E t_a1 7 t_kind, ai E t_a2 7 t_figure, ai E t_a3 7 t_rail, ai E t_a4 7 t_mood, ai E t_a5 7 t_sight]) hC q_X8_onesFor kw_2_122 (c_X8_onesFor l E t_h t_a0 t_a1 t_a2 t_a3 t_a4 t_a5 t_height t_kind t_figure t_rail t_mood t_sight t_moving t_shut t_people t_needed t_day N r1 h2) ⟨rfl, rfl⟩ ⟨Nat.le_of_ble_eq_true rfl, Nat.le_of_ble_eq_true rfl⟩ ⟨Nat.zero_le _, Nat.zero_le _⟩ hP rfl rfl rfl hG rfl hl.1 rfl (Nat.le_of_ble_eq_true rfl) dX8_whyNot_2 rfl ?_
  refine lv_iand hx hb dX8_whyNot_5 ?_
  refine lv_istore_n (lv' := [(2, .int (p1 &&& r1)), (0, .ref t_h), (1, .int p1)]) hx hb dX8_whyNot_6 rfl hl (by decide) rfl (fun ls hl => ?_)
  refine lv_aload_n hx hb dX8_whyNot_7 rfl (lv_at hl 1 rfl) ?_
  refine lv_iload_n hx hb dX8_whyNot_8 rfl (lv_at hl 0 rfl) ?_
  obtain ⟨r3, h4, hv⟩ := ob_s hv
  refine rdV 2 0 (As := [.int (p1 &&& r1)]) (rest := []) (st1 := [.int r3]) (w := [oSt t_h t_a0 t_a1 t_a2 t_a3 t_a4 t_a5 t_moving t_shut t_people t_needed t_day, ai E t_a0 10 t_height, ai E t_a1 7 t_kind, ai E t_a2 7 t_figure, ai E t_a3 7 t_rail, ai E t_a4 7 t_mood, ai E t_a5 7 t_sight]) hC q_X8_sidesOf kw_2_126 (c_X8_sidesOf l E t_h t_a0 t_a1 t_a2 t_a3 t_a4 t_a5 t_height t_kind t_figure t_rail t_mood t_sight t_moving t_shut t_people t_needed t_day (p1 &&& r1) N r3 h4) ⟨rfl, rfl⟩ ⟨Nat.le_of_ble_eq_true rfl, Nat.le_of_ble_eq_true rfl⟩ ⟨Nat.zero_le _, Nat.zero_le _⟩ hP rfl rfl rfl hG rfl hl.1 rfl (Nat.le_of_ble_eq_true rfl) dX8_whyNot_9 rfl ?_
  refine lv_istore_n (lv' := [(3, .int r3), (2, .int (p1 &&& r1)), (0, .ref t_h), (1, .int p1)]) hx hb dX8_whyNot_12 rfl hl (by decide) rfl (fun ls hl => ?_)
  refine lv_iload_n hx hb dX8_whyNot_13 rfl (lv_at hl 0 rfl) ?_
  refine lv_iconst (v := (1 : Int32)) hx hb dX8_whyNot_14 (by decide) ?_
  refine lv_iand hx hb dX8_whyNot_15 ?_
  refine lv_if_ne (tgt := 21) hx hb dX8_whyNot_16 (by decide) (fun c5 => ?_) (fun c5 => ?_)
  · have hv := if_n c5 hv
    refine lv_iload_n hx hb dX8_whyNot_21 rfl (lv_at hl 0 rfl) ?_
    refine lv_iconst (v := (2 : Int32)) hx hb dX8_whyNot_22 (by decide) ?_
    refine lv_iand hx hb dX8_whyNot_23 ?_
    refine lv_if_ne (tgt := 29) hx hb dX8_whyNot_24 (by decide) (fun c6 => ?_) (fun c6 => ?_)
    · have hv := if_n c6 hv
      refine lv_aload_n hx hb dX8_whyNot_29 rfl (lv_at hl 2 rfl) ?_
      refine lv_iload_n hx hb dX8_whyNot_30 rfl (lv_at hl 1 rfl) ?_
      obtain ⟨r7, h8, hv⟩ := ob_s hv
      refine rdV 2 0 (As := [.int (p1 &&& r1)]) (rest := []) (st1 := [.int r7]) (w := [oSt t_h t_a0 t_a1 t_a2 t_a3 t_a4 t_a5 t_moving t_shut t_people t_needed t_day, ai E t_a0 10 t_height, ai E t_a1 7 t_kind, ai E t_a2 7 t_figure, ai E t_a3 7 t_rail, ai E t_a4 7 t_mood, ai E t_a5 7 t_sight]) hC q_X8_weightOfAll kw_2_130 (c_X8_weightOfAll l E t_h t_a0 t_a1 t_a2 t_a3 t_a4 t_a5 t_height t_kind t_figure t_rail t_mood t_sight t_moving t_shut t_people t_needed t_day (p1 &&& r1) N r7 h8) ⟨rfl, rfl⟩ ⟨Nat.le_of_ble_eq_true rfl, Nat.le_of_ble_eq_true rfl⟩ ⟨Nat.zero_le _, Nat.zero_le _⟩ hP rfl rfl rfl hG rfl hl.1 rfl (Nat.le_of_ble_eq_true rfl) dX8_whyNot_31 rfl ?_
      refine lv_aload_n hx hb dX8_whyNot_34 rfl (lv_at hl 2 rfl) ?_
      refine va_get (D := E.1) (ci := 2) (v := .int t_needed) (C := RX8) (T := TX8) (N := 11) hx hb ht i_X8 hown hK hP 0 rfl rfl 9 (by decide) (ht _ kw_1_56) (fun _ h9 => h9) rfl dX8_whyNot_35 ?_
      refine lv_icmp_ge (tgt := 43) hx hb dX8_whyNot_38 (by decide) (fun c9 => ?_) (fun c9 => ?_)
      · have hv := if_y c9 hv
        refine lv_aload_n hx hb dX8_whyNot_43 rfl (lv_at hl 2 rfl) ?_
        refine lv_iload_n hx hb dX8_whyNot_44 rfl (lv_at hl 3 rfl) ?_
        obtain ⟨r10, h11, hv⟩ := ob_s hv
        refine rdV 2 0 (As := [.int p1]) (rest := []) (st1 := [.int r10]) (w := [oSt t_h t_a0 t_a1 t_a2 t_a3 t_a4 t_a5 t_moving t_shut t_people t_needed t_day, ai E t_a0 10 t_height, ai E t_a1 7 t_kind, ai E t_a2 7 t_figure, ai E t_a3 7 t_rail, ai E t_a4 7 t_mood, ai E t_a5 7 t_sight]) hC q_X8_isVetoed kw_2_135 (c_X8_isVetoed l E t_h t_a0 t_a1 t_a2 t_a3 t_a4 t_a5 t_height t_kind t_figure t_rail t_mood t_sight t_moving t_shut t_people t_needed t_day p1 N r10 h11) ⟨rfl, rfl⟩ ⟨Nat.le_of_ble_eq_true rfl, Nat.le_of_ble_eq_true rfl⟩ ⟨Nat.zero_le _, Nat.zero_le _⟩ hP rfl rfl rfl hG rfl hl.1 rfl (Nat.le_of_ble_eq_true rfl) dX8_whyNot_45 rfl ?_
        refine lv_if_eq (tgt := 55) hx hb dX8_whyNot_48 (by decide) (fun c12 => ?_) (fun c12 => ?_)
        · have hv := if_y c12 hv
          refine lv_iconst (v := (0 : Int32)) hx hb dX8_whyNot_55 (by decide) ?_
          exact W.iret (v := (0 : Int32)) hx hb hr (fun t h9 _ => ⟨rv_i hv, h9⟩) (fun q h => absurd h List.not_mem_nil) dX8_whyNot_56 hlk
        · have hv := if_n c12 hv
          refine lv_iconst (v := (4 : Int32)) hx hb dX8_whyNot_51 (by decide) ?_
          refine lv_goto (tgt := 56) hx hb dX8_whyNot_52 (by decide) ?_
          exact W.iret (v := (4 : Int32)) hx hb hr (fun t h9 _ => ⟨rv_i hv, h9⟩) (fun q h => absurd h List.not_mem_nil) dX8_whyNot_56 hlk
      · have hv := if_n c9 hv
        refine lv_iconst (v := (3 : Int32)) hx hb dX8_whyNot_41 (by decide) ?_
        exact W.iret (v := (3 : Int32)) hx hb hr (fun t h9 _ => ⟨rv_i hv, h9⟩) (fun q h => absurd h List.not_mem_nil) dX8_whyNot_42 hlk
    · have hv := if_y c6 hv
      refine lv_iconst (v := (2 : Int32)) hx hb dX8_whyNot_27 (by decide) ?_
      exact W.iret (v := (2 : Int32)) hx hb hr (fun t h9 _ => ⟨rv_i hv, h9⟩) (fun q h => absurd h List.not_mem_nil) dX8_whyNot_28 hlk
  · have hv := if_y c5 hv
    refine lv_iconst (v := (1 : Int32)) hx hb dX8_whyNot_19 (by decide) ?_
    exact W.iret (v := (1 : Int32)) hx hb hr (fun t h9 _ => ⟨rv_i hv, h9⟩) (fun q h => absurd h List.not_mem_nil) dX8_whyNot_20 hlk
theorem dX8_isCarried_0 : decode cX8_isCarried 0 = .ok (.aload_n 0, 1) := by decide +kernel
theorem dX8_isCarried_1 : decode cX8_isCarried 1 = .ok (.aload_n 0, 1) := by decide +kernel
theorem dX8_isCarried_2 : decode cX8_isCarried 2 = .ok (.invokevirtual 86, 3) := by decide +kernel
theorem dX8_isCarried_5 : decode cX8_isCarried 5 = .ok (.invokevirtual 89, 3) := by decide +kernel
theorem dX8_isCarried_8 : decode cX8_isCarried 8 = .ok (.ifCond .ne 7, 3) := by decide +kernel
theorem dX8_isCarried_11 : decode cX8_isCarried 11 = .ok (.iconst 1, 1) := by decide +kernel
theorem dX8_isCarried_12 : decode cX8_isCarried 12 = .ok (.goto 4, 3) := by decide +kernel
theorem dX8_isCarried_15 : decode cX8_isCarried 15 = .ok (.iconst 0, 1) := by decide +kernel
theorem dX8_isCarried_16 : decode cX8_isCarried 16 = .ok (.ireturn, 1) := by decide +kernel
def f_X8_isCarried (N : Nat) (t_height : Nat → Int32) (t_kind : Nat → Int32) (t_figure : Nat → Int32) (t_rail : Nat → Int32) (t_mood : Nat → Int32) (t_shut : Int32) (t_people : Int32) (t_needed : Int32) : Option (Int32) := ob (f_X8_heardOnes N t_rail t_shut t_people) (fun r1 => ob (f_X8_whyNot N t_height t_kind t_figure t_rail t_mood t_people t_needed r1) (fun r3 => if r3 = 0 then some (1 : Int32) else some (0 : Int32)))
set_option maxHeartbeats 4000000 in
set_option maxRecDepth 100000 in
theorem c_X8_isCarried (l : Launch) (E : EE) (t_h : Nat) (t_a0 : Nat) (t_a1 : Nat) (t_a2 : Nat) (t_a3 : Nat) (t_a4 : Nat) (t_a5 : Nat) (t_height : Nat → Int32) (t_kind : Nat → Int32) (t_figure : Nat → Int32) (t_rail : Nat → Int32) (t_mood : Nat → Int32) (t_sight : Nat → Int32) (t_moving : Int32) (t_shut : Int32) (t_people : Int32) (t_needed : Int32) (t_day : Int32) (N : Nat) (res : Int32) (hv : f_X8_isCarried N t_height t_kind t_figure t_rail t_mood t_shut t_people t_needed = some res) : Rd l E yX8_isCarried cX8_isCarried 1 (some .boolean) ({ frames := 4, cells := 0, slots := 0, locals := 89 }) [.ref t_h] [oSt t_h t_a0 t_a1 t_a2 t_a3 t_a4 t_a5 t_moving t_shut t_people t_needed t_day, ai E t_a0 10 t_height, ai E t_a1 7 t_kind, ai E t_a2 7 t_figure, ai E t_a3 7 t_rail, ai E t_a4 7 t_mood, ai E t_a5 7 t_sight] (some (.int res)) := by
  refine Rd.intro RX8 (by decide) rfl (Nat.le_of_ble_eq_true rfl) ?_
  intro p e s m below meth c ls hC hr hlk hP hG hl
  obtain ⟨hx, hb, hml, hown, ht⟩ := id hC
  have hK := hG.1
  have hl : lv_has ls 1 [(0, .ref t_h)] := hl
  rw [f_X8_isCarried] at hv
  refine lv_aload_n hx hb dX8_isCarried_0 rfl (lv_at hl 0 rfl) ?_
  refine lv_aload_n hx hb dX8_isCarried_1 rfl (lv_at hl 0 rfl) ?_
  obtain ⟨r1, h2, hv⟩ := ob_s hv
  refine rdV 2 0 (As := []) (rest := [.ref t_h]) (st1 := [.int r1, .ref t_h]) (w := [oSt t_h t_a0 t_a1 t_a2 t_a3 t_a4 t_a5 t_moving t_shut t_people t_needed t_day, ai E t_a0 10 t_height, ai E t_a1 7 t_kind, ai E t_a2 7 t_figure, ai E t_a3 7 t_rail, ai E t_a4 7 t_mood, ai E t_a5 7 t_sight]) hC q_X8_heardOnes kw_2_114 (c_X8_heardOnes l E t_h t_a0 t_a1 t_a2 t_a3 t_a4 t_a5 t_height t_kind t_figure t_rail t_mood t_sight t_moving t_shut t_people t_needed t_day N r1 h2) ⟨rfl, rfl⟩ ⟨Nat.le_of_ble_eq_true rfl, Nat.le_of_ble_eq_true rfl⟩ ⟨Nat.zero_le _, Nat.zero_le _⟩ hP rfl rfl rfl hG rfl hl.1 rfl (Nat.le_of_ble_eq_true rfl) dX8_isCarried_2 rfl ?_
  obtain ⟨r3, h4, hv⟩ := ob_s hv
  refine rdV 2 0 (As := [.int r1]) (rest := []) (st1 := [.int r3]) (w := [oSt t_h t_a0 t_a1 t_a2 t_a3 t_a4 t_a5 t_moving t_shut t_people t_needed t_day, ai E t_a0 10 t_height, ai E t_a1 7 t_kind, ai E t_a2 7 t_figure, ai E t_a3 7 t_rail, ai E t_a4 7 t_mood, ai E t_a5 7 t_sight]) hC q_X8_whyNot kw_2_118 (c_X8_whyNot l E t_h t_a0 t_a1 t_a2 t_a3 t_a4 t_a5 t_height t_kind t_figure t_rail t_mood t_sight t_moving t_shut t_people t_needed t_day r1 N r3 h4) ⟨rfl, rfl⟩ ⟨Nat.le_of_ble_eq_true rfl, Nat.le_of_ble_eq_true rfl⟩ ⟨Nat.zero_le _, Nat.zero_le _⟩ hP rfl rfl rfl hG rfl hl.1 rfl (Nat.le_of_ble_eq_true rfl) dX8_isCarried_5 rfl ?_
  refine lv_if_ne (tgt := 15) hx hb dX8_isCarried_8 (by decide) (fun c5 => ?_) (fun c5 => ?_)
  · have hv := if_n c5 hv
    refine lv_iconst (v := (0 : Int32)) hx hb dX8_isCarried_15 (by decide) ?_
    exact W.zret (v := (0 : Int32)) hx hb hr rfl (fun t h9 _ => ⟨rv_i hv, h9⟩) (fun q h => absurd h List.not_mem_nil) dX8_isCarried_16 hlk
  · have hv := if_y c5 hv
    refine lv_iconst (v := (1 : Int32)) hx hb dX8_isCarried_11 (by decide) ?_
    refine lv_goto (tgt := 16) hx hb dX8_isCarried_12 (by decide) ?_
    exact W.zret (v := (1 : Int32)) hx hb hr rfl (fun t h9 _ => ⟨rv_i hv, h9⟩) (fun q h => absurd h List.not_mem_nil) dX8_isCarried_16 hlk
theorem dX8_isInSight_0 : decode cX8_isInSight 0 = .ok (.aload_n 0, 1) := by decide +kernel
theorem dX8_isInSight_1 : decode cX8_isInSight 1 = .ok (.getfield 9, 3) := by decide +kernel
theorem dX8_isInSight_4 : decode cX8_isInSight 4 = .ok (.aload_n 0, 1) := by decide +kernel
theorem dX8_isInSight_5 : decode cX8_isInSight 5 = .ok (.getfield 21, 3) := by decide +kernel
theorem dX8_isInSight_8 : decode cX8_isInSight 8 = .ok (.iload_n 1, 1) := by decide +kernel
theorem dX8_isInSight_9 : decode cX8_isInSight 9 = .ok (.iaload, 1) := by decide +kernel
theorem dX8_isInSight_10 : decode cX8_isInSight 10 = .ok (.iaload, 1) := by decide +kernel
theorem dX8_isInSight_11 : decode cX8_isInSight 11 = .ok (.aload_n 0, 1) := by decide +kernel
theorem dX8_isInSight_12 : decode cX8_isInSight 12 = .ok (.getfield 9, 3) := by decide +kernel
theorem dX8_isInSight_15 : decode cX8_isInSight 15 = .ok (.aload_n 0, 1) := by decide +kernel
theorem dX8_isInSight_16 : decode cX8_isInSight 16 = .ok (.getfield 21, 3) := by decide +kernel
theorem dX8_isInSight_19 : decode cX8_isInSight 19 = .ok (.iload_n 2, 1) := by decide +kernel
theorem dX8_isInSight_20 : decode cX8_isInSight 20 = .ok (.iaload, 1) := by decide +kernel
theorem dX8_isInSight_21 : decode cX8_isInSight 21 = .ok (.iaload, 1) := by decide +kernel
theorem dX8_isInSight_22 : decode cX8_isInSight 22 = .ok (.isub, 1) := by decide +kernel
theorem dX8_isInSight_23 : decode cX8_isInSight 23 = .ok (.invokestatic 92, 3) := by decide +kernel
theorem dX8_isInSight_26 : decode cX8_isInSight 26 = .ok (.istore_n 3, 1) := by decide +kernel
theorem dX8_isInSight_27 : decode cX8_isInSight 27 = .ok (.aload_n 0, 1) := by decide +kernel
theorem dX8_isInSight_28 : decode cX8_isInSight 28 = .ok (.getfield 21, 3) := by decide +kernel
theorem dX8_isInSight_31 : decode cX8_isInSight 31 = .ok (.iload_n 1, 1) := by decide +kernel
theorem dX8_isInSight_32 : decode cX8_isInSight 32 = .ok (.iaload, 1) := by decide +kernel
theorem dX8_isInSight_33 : decode cX8_isInSight 33 = .ok (.iconst 2, 1) := by decide +kernel
theorem dX8_isInSight_34 : decode cX8_isInSight 34 = .ok (.irem, 1) := by decide +kernel
theorem dX8_isInSight_35 : decode cX8_isInSight 35 = .ok (.aload_n 0, 1) := by decide +kernel
theorem dX8_isInSight_36 : decode cX8_isInSight 36 = .ok (.getfield 21, 3) := by decide +kernel
theorem dX8_isInSight_39 : decode cX8_isInSight 39 = .ok (.iload_n 2, 1) := by decide +kernel
theorem dX8_isInSight_40 : decode cX8_isInSight 40 = .ok (.iaload, 1) := by decide +kernel
theorem dX8_isInSight_41 : decode cX8_isInSight 41 = .ok (.iconst 2, 1) := by decide +kernel
theorem dX8_isInSight_42 : decode cX8_isInSight 42 = .ok (.irem, 1) := by decide +kernel
theorem dX8_isInSight_43 : decode cX8_isInSight 43 = .ok (.if_icmp .eq 12, 3) := by decide +kernel
theorem dX8_isInSight_46 : decode cX8_isInSight 46 = .ok (.iload_n 3, 1) := by decide +kernel
theorem dX8_isInSight_47 : decode cX8_isInSight 47 = .ok (.iconst 1, 1) := by decide +kernel
theorem dX8_isInSight_48 : decode cX8_isInSight 48 = .ok (.if_icmp .gt 7, 3) := by decide +kernel
theorem dX8_isInSight_51 : decode cX8_isInSight 51 = .ok (.iconst 1, 1) := by decide +kernel
theorem dX8_isInSight_52 : decode cX8_isInSight 52 = .ok (.goto 4, 3) := by decide +kernel
theorem dX8_isInSight_55 : decode cX8_isInSight 55 = .ok (.iconst 0, 1) := by decide +kernel
theorem dX8_isInSight_56 : decode cX8_isInSight 56 = .ok (.ireturn, 1) := by decide +kernel
def f_X8_isInSight (t_height : Nat → Int32) (t_rail : Nat → Int32) (p1 : Int32) (p2 : Int32) : Option (Int32) := gd (ix p1 7) (gd (ix (t_rail p1.toNatClampNeg) 10) (gd (ix p2 7) (gd (ix (t_rail p2.toNatClampNeg) 10) (nm (if 0 ≤ ((t_height (t_rail p1.toNatClampNeg).toNatClampNeg) - (t_height (t_rail p2.toNatClampNeg).toNatClampNeg)) then ((t_height (t_rail p1.toNatClampNeg).toNatClampNeg) - (t_height (t_rail p2.toNatClampNeg).toNatClampNeg)) else 0 - ((t_height (t_rail p1.toNatClampNeg).toNatClampNeg) - (t_height (t_rail p2.toNatClampNeg).toNatClampNeg))) (fun z5 => gd (ix p1 7) (gd (ix p2 7) (if ((t_rail p1.toNatClampNeg) - (t_rail p1.toNatClampNeg) / (2 : Int32) * (2 : Int32)) = ((t_rail p2.toNatClampNeg) - (t_rail p2.toNatClampNeg) / (2 : Int32) * (2 : Int32)) then some (0 : Int32) else if (1 : Int32) < z5 then some (0 : Int32) else some (1 : Int32))))))))
set_option maxHeartbeats 4000000 in
set_option maxRecDepth 100000 in
theorem c_X8_isInSight (l : Launch) (E : EE) (t_h : Nat) (t_a0 : Nat) (t_a1 : Nat) (t_a2 : Nat) (t_a3 : Nat) (t_a4 : Nat) (t_a5 : Nat) (t_height : Nat → Int32) (t_kind : Nat → Int32) (t_figure : Nat → Int32) (t_rail : Nat → Int32) (t_mood : Nat → Int32) (t_sight : Nat → Int32) (t_moving : Int32) (t_shut : Int32) (t_people : Int32) (t_needed : Int32) (t_day : Int32) (p1 : Int32) (p2 : Int32) (res : Int32) (hv : f_X8_isInSight t_height t_rail p1 p2 = some res) : Rd l E yX8_isInSight cX8_isInSight 4 (some .boolean) ({ frames := 1, cells := 0, slots := 0, locals := 13 }) [.ref t_h, .int p1, .int p2] [oSt t_h t_a0 t_a1 t_a2 t_a3 t_a4 t_a5 t_moving t_shut t_people t_needed t_day, ai E t_a0 10 t_height, ai E t_a1 7 t_kind, ai E t_a2 7 t_figure, ai E t_a3 7 t_rail, ai E t_a4 7 t_mood, ai E t_a5 7 t_sight] (some (.int res)) := by
  refine Rd.intro RX8 (by decide) rfl (Nat.le_of_ble_eq_true rfl) ?_
  intro p e s m below meth c ls hC hr hlk hP hG hl
  obtain ⟨hx, hb, hml, hown, ht⟩ := id hC
  have hK := hG.1
  have hl : lv_has ls 4 [(0, .ref t_h), (1, .int p1), (2, .int p2)] := hl
  rw [f_X8_isInSight] at hv
  refine lv_aload_n hx hb dX8_isInSight_0 rfl (lv_at hl 0 rfl) ?_
  refine va_get (D := E.1) (ci := 2) (v := .ref t_a0) (C := RX8) (T := TX8) (N := 11) hx hb ht i_X8 hown hK hP 0 rfl rfl 0 (by decide) (ht _ kw_1_35) (fun _ h9 => h9) rfl dX8_isInSight_1 ?_
  refine lv_aload_n hx hb dX8_isInSight_4 rfl (lv_at hl 0 rfl) ?_
  refine va_get (D := E.1) (ci := 2) (v := .ref t_a3) (C := RX8) (T := TX8) (N := 11) hx hb ht i_X8 hown hK hP 0 rfl rfl 3 (by decide) (ht _ kw_1_43) (fun _ h9 => h9) rfl dX8_isInSight_5 ?_
  refine lv_iload_n hx hb dX8_isInSight_8 rfl (lv_at hl 1 rfl) ?_
  obtain ⟨g1, hv⟩ := gd_s hv
  refine va_iald hx hb hK hP 4 0 rfl rfl (ix_s g1) dX8_isInSight_9 ?_
  obtain ⟨g2, hv⟩ := gd_s hv
  refine va_iald hx hb hK hP 1 0 rfl rfl (ix_s g2) dX8_isInSight_10 ?_
  refine lv_aload_n hx hb dX8_isInSight_11 rfl (lv_at hl 0 rfl) ?_
  refine va_get (D := E.1) (ci := 2) (v := .ref t_a0) (C := RX8) (T := TX8) (N := 11) hx hb ht i_X8 hown hK hP 0 rfl rfl 0 (by decide) (ht _ kw_1_35) (fun _ h9 => h9) rfl dX8_isInSight_12 ?_
  refine lv_aload_n hx hb dX8_isInSight_15 rfl (lv_at hl 0 rfl) ?_
  refine va_get (D := E.1) (ci := 2) (v := .ref t_a3) (C := RX8) (T := TX8) (N := 11) hx hb ht i_X8 hown hK hP 0 rfl rfl 3 (by decide) (ht _ kw_1_43) (fun _ h9 => h9) rfl dX8_isInSight_16 ?_
  refine lv_iload_n hx hb dX8_isInSight_19 rfl (lv_at hl 2 rfl) ?_
  obtain ⟨g3, hv⟩ := gd_s hv
  refine va_iald hx hb hK hP 4 0 rfl rfl (ix_s g3) dX8_isInSight_20 ?_
  obtain ⟨g4, hv⟩ := gd_s hv
  refine va_iald hx hb hK hP 1 0 rfl rfl (ix_s g4) dX8_isInSight_21 ?_
  refine lv_isub hx hb dX8_isInSight_22 ?_
  refine va_mabs hx hb (by rw [hml]; exact hl.1.symm) hown (ht _ kw_2_20) (ht _ kw_2_21) (ht _ kw_1_8) (ht _ kw_2_22) (Nat.le_of_ble_eq_true rfl) (Nat.le_of_ble_eq_true rfl) (Nat.zero_le _) (Nat.zero_le _) dX8_isInSight_23 ?_
  refine lv_topi (fun z5 ez5 => ?_)
  have hv := nm_s ez5 hv
  refine lv_istore_n (lv' := [(3, .int z5), (0, .ref t_h), (1, .int p1), (2, .int p2)]) hx hb dX8_isInSight_26 rfl hl (by decide) rfl (fun ls hl => ?_)
  refine lv_aload_n hx hb dX8_isInSight_27 rfl (lv_at hl 1 rfl) ?_
  refine va_get (D := E.1) (ci := 2) (v := .ref t_a3) (C := RX8) (T := TX8) (N := 11) hx hb ht i_X8 hown hK hP 0 rfl rfl 3 (by decide) (ht _ kw_1_43) (fun _ h9 => h9) rfl dX8_isInSight_28 ?_
  refine lv_iload_n hx hb dX8_isInSight_31 rfl (lv_at hl 2 rfl) ?_
  obtain ⟨g6, hv⟩ := gd_s hv
  refine va_iald hx hb hK hP 4 0 rfl rfl (ix_s g6) dX8_isInSight_32 ?_
  refine lv_iconst (v := (2 : Int32)) hx hb dX8_isInSight_33 (by decide) ?_
  refine lv_irem hx hb dX8_isInSight_34 (by decide) ?_
  refine lv_aload_n hx hb dX8_isInSight_35 rfl (lv_at hl 1 rfl) ?_
  refine va_get (D := E.1) (ci := 2) (v := .ref t_a3) (C := RX8) (T := TX8) (N := 11) hx hb ht i_X8 hown hK hP 0 rfl rfl 3 (by decide) (ht _ kw_1_43) (fun _ h9 => h9) rfl dX8_isInSight_36 ?_
  refine lv_iload_n hx hb dX8_isInSight_39 rfl (lv_at hl 3 rfl) ?_
  obtain ⟨g7, hv⟩ := gd_s hv
  refine va_iald hx hb hK hP 4 0 rfl rfl (ix_s g7) dX8_isInSight_40 ?_
  refine lv_iconst (v := (2 : Int32)) hx hb dX8_isInSight_41 (by decide) ?_
  refine lv_irem hx hb dX8_isInSight_42 (by decide) ?_
  refine lv_icmp_eq (tgt := 55) hx hb dX8_isInSight_43 (by decide) (fun c8 => ?_) (fun c8 => ?_)
  · have hv := if_y c8 hv
    refine lv_iconst (v := (0 : Int32)) hx hb dX8_isInSight_55 (by decide) ?_
    exact W.zret (v := (0 : Int32)) hx hb hr rfl (fun t h9 _ => ⟨rv_i hv, h9⟩) (fun q h => absurd h List.not_mem_nil) dX8_isInSight_56 hlk
  · have hv := if_n c8 hv
    refine lv_iload_n hx hb dX8_isInSight_46 rfl (lv_at hl 0 rfl) ?_
    refine lv_iconst (v := (1 : Int32)) hx hb dX8_isInSight_47 (by decide) ?_
    refine lv_icmp_gt (tgt := 55) hx hb dX8_isInSight_48 (by decide) (fun c9 => ?_) (fun c9 => ?_)
    · have hv := if_y c9 hv
      refine lv_iconst (v := (0 : Int32)) hx hb dX8_isInSight_55 (by decide) ?_
      exact W.zret (v := (0 : Int32)) hx hb hr rfl (fun t h9 _ => ⟨rv_i hv, h9⟩) (fun q h => absurd h List.not_mem_nil) dX8_isInSight_56 hlk
    · have hv := if_n c9 hv
      refine lv_iconst (v := (1 : Int32)) hx hb dX8_isInSight_51 (by decide) ?_
      refine lv_goto (tgt := 56) hx hb dX8_isInSight_52 (by decide) ?_
      exact W.zret (v := (1 : Int32)) hx hb hr rfl (fun t h9 _ => ⟨rv_i hv, h9⟩) (fun q h => absurd h List.not_mem_nil) dX8_isInSight_56 hlk
theorem dX8_twosInSight_0 : decode cX8_twosInSight 0 = .ok (.iconst 0, 1) := by decide +kernel
theorem dX8_twosInSight_1 : decode cX8_twosInSight 1 = .ok (.istore_n 1, 1) := by decide +kernel
theorem dX8_twosInSight_2 : decode cX8_twosInSight 2 = .ok (.iconst 0, 1) := by decide +kernel
theorem dX8_twosInSight_3 : decode cX8_twosInSight 3 = .ok (.istore_n 2, 1) := by decide +kernel
theorem dX8_twosInSight_4 : decode cX8_twosInSight 4 = .ok (.iload_n 2, 1) := by decide +kernel
theorem dX8_twosInSight_5 : decode cX8_twosInSight 5 = .ok (.aload_n 0, 1) := by decide +kernel
theorem dX8_twosInSight_6 : decode cX8_twosInSight 6 = .ok (.getfield 43, 3) := by decide +kernel
theorem dX8_twosInSight_9 : decode cX8_twosInSight 9 = .ok (.if_icmp .ge 39, 3) := by decide +kernel
theorem dX8_twosInSight_12 : decode cX8_twosInSight 12 = .ok (.iload_n 2, 1) := by decide +kernel
theorem dX8_twosInSight_13 : decode cX8_twosInSight 13 = .ok (.iconst 1, 1) := by decide +kernel
theorem dX8_twosInSight_14 : decode cX8_twosInSight 14 = .ok (.iadd, 1) := by decide +kernel
theorem dX8_twosInSight_15 : decode cX8_twosInSight 15 = .ok (.istore_n 3, 1) := by decide +kernel
theorem dX8_twosInSight_16 : decode cX8_twosInSight 16 = .ok (.iload_n 3, 1) := by decide +kernel
theorem dX8_twosInSight_17 : decode cX8_twosInSight 17 = .ok (.aload_n 0, 1) := by decide +kernel
theorem dX8_twosInSight_18 : decode cX8_twosInSight 18 = .ok (.getfield 43, 3) := by decide +kernel
theorem dX8_twosInSight_21 : decode cX8_twosInSight 21 = .ok (.if_icmp .ge 21, 3) := by decide +kernel
theorem dX8_twosInSight_24 : decode cX8_twosInSight 24 = .ok (.aload_n 0, 1) := by decide +kernel
theorem dX8_twosInSight_25 : decode cX8_twosInSight 25 = .ok (.iload_n 2, 1) := by decide +kernel
theorem dX8_twosInSight_26 : decode cX8_twosInSight 26 = .ok (.iload_n 3, 1) := by decide +kernel
theorem dX8_twosInSight_27 : decode cX8_twosInSight 27 = .ok (.invokevirtual 97, 3) := by decide +kernel
theorem dX8_twosInSight_30 : decode cX8_twosInSight 30 = .ok (.ifCond .eq 6, 3) := by decide +kernel
theorem dX8_twosInSight_33 : decode cX8_twosInSight 33 = .ok (.iinc 1 1, 3) := by decide +kernel
theorem dX8_twosInSight_36 : decode cX8_twosInSight 36 = .ok (.iinc 3 1, 3) := by decide +kernel
theorem dX8_twosInSight_39 : decode cX8_twosInSight 39 = .ok (.goto (-23), 3) := by decide +kernel
theorem dX8_twosInSight_42 : decode cX8_twosInSight 42 = .ok (.iinc 2 1, 3) := by decide +kernel
theorem dX8_twosInSight_45 : decode cX8_twosInSight 45 = .ok (.goto (-41), 3) := by decide +kernel
theorem dX8_twosInSight_48 : decode cX8_twosInSight 48 = .ok (.iload_n 1, 1) := by decide +kernel
theorem dX8_twosInSight_49 : decode cX8_twosInSight 49 = .ok (.ireturn, 1) := by decide +kernel
def L_X8_twosInSight_16 (t_height : Nat → Int32) (t_rail : Nat → Int32) (t_people : Int32) (x1 : Int32) (k_16 : Int32 → Int32 → Option (Int32)) : Nat → Int32 → Int32 → Option (Int32)
  | 0, _, _ => none
  | n16 + 1, x4, x5 => if t_people ≤ x4 then k_16 x4 x5 else ob (f_X8_isInSight t_height t_rail x1 x4) (fun r7 => if r7 = 0 then L_X8_twosInSight_16 t_height t_rail t_people x1 k_16 n16 (x4 + (1 : Int32)) x5 else L_X8_twosInSight_16 t_height t_rail t_people x1 k_16 n16 (x4 + (1 : Int32)) (x5 + (1 : Int32)))
def L_X8_twosInSight_4 (N : Nat) (t_height : Nat → Int32) (t_rail : Nat → Int32) (t_people : Int32) : Nat → Int32 → Int32 → Option (Int32)
  | 0, _, _ => none
  | n4 + 1, x1, x2 => if t_people ≤ x1 then some x2 else L_X8_twosInSight_16 t_height t_rail t_people x1 (fun x10 x11 => L_X8_twosInSight_4 N t_height t_rail t_people n4 (x1 + (1 : Int32)) x11) N (x1 + (1 : Int32)) x2
def f_X8_twosInSight (N : Nat) (t_height : Nat → Int32) (t_rail : Nat → Int32) (t_people : Int32) : Option (Int32) := L_X8_twosInSight_4 N t_height t_rail t_people N (0 : Int32) (0 : Int32)
set_option maxHeartbeats 4000000 in
set_option maxRecDepth 100000 in
theorem c_X8_twosInSight (l : Launch) (E : EE) (t_h : Nat) (t_a0 : Nat) (t_a1 : Nat) (t_a2 : Nat) (t_a3 : Nat) (t_a4 : Nat) (t_a5 : Nat) (t_height : Nat → Int32) (t_kind : Nat → Int32) (t_figure : Nat → Int32) (t_rail : Nat → Int32) (t_mood : Nat → Int32) (t_sight : Nat → Int32) (t_moving : Int32) (t_shut : Int32) (t_people : Int32) (t_needed : Int32) (t_day : Int32) (N : Nat) (res : Int32) (hv : f_X8_twosInSight N t_height t_rail t_people = some res) : Rd l E yX8_twosInSight cX8_twosInSight 4 (some .int) ({ frames := 2, cells := 0, slots := 0, locals := 36 }) [.ref t_h] [oSt t_h t_a0 t_a1 t_a2 t_a3 t_a4 t_a5 t_moving t_shut t_people t_needed t_day, ai E t_a0 10 t_height, ai E t_a1 7 t_kind, ai E t_a2 7 t_figure, ai E t_a3 7 t_rail, ai E t_a4 7 t_mood, ai E t_a5 7 t_sight] (some (.int res)) := by
  refine Rd.intro RX8 (by decide) rfl (Nat.le_of_ble_eq_true rfl) ?_
  intro p e s m below meth c ls hC hr hlk hP hG hl
  obtain ⟨hx, hb, hml, hown, ht⟩ := id hC
  have hK := hG.1
  have hl : lv_has ls 4 [(0, .ref t_h)] := hl
  rw [f_X8_twosInSight] at hv
  refine lv_iconst (v := (0 : Int32)) hx hb dX8_twosInSight_0 (by decide) ?_
  refine lv_istore_n (lv' := [(1, .int (0 : Int32)), (0, .ref t_h)]) hx hb dX8_twosInSight_1 rfl hl (by decide) rfl (fun ls hl => ?_)
  refine lv_iconst (v := (0 : Int32)) hx hb dX8_twosInSight_2 (by decide) ?_
  refine lv_istore_n (lv' := [(2, .int (0 : Int32)), (1, .int (0 : Int32)), (0, .ref t_h)]) hx hb dX8_twosInSight_3 rfl hl (by decide) rfl (fun ls hl => ?_)
  have hL4 : ∀ (n : Nat) (x1 : Int32) (x2 : Int32) (ls : Array Slot), lv_has ls 4 [(2, .int x1), (1, .int x2), (0, .ref t_h)] → L_X8_twosInSight_4 N t_height t_rail t_people n x1 x2 = some res → W p l e ({ frames := 2, cells := 0, slots := 0, locals := 36 }) s m [.ref t_h].toArray below meth c s.heap [] 0 0 (MQ below (RdQ (some (.int res))) [.ref t_h].toArray s 0 0 (fun _ => False)) (F0 m 4 ls []) := by
    intro n
    induction n with
    | zero => intro x1 x2 ls hl hv; cases hv
    | succ n4 ih4 =>
      intro x1 x2 ls hl hv
      rw [L_X8_twosInSight_4] at hv
      refine lv_iload_n hx hb dX8_twosInSight_4 rfl (lv_at hl 0 rfl) ?_
      refine lv_aload_n hx hb dX8_twosInSight_5 rfl (lv_at hl 2 rfl) ?_
      refine va_get (D := E.1) (ci := 2) (v := .int t_people) (C := RX8) (T := TX8) (N := 11) hx hb ht i_X8 hown hK hP 0 rfl rfl 8 (by decide) (ht _ kw_1_53) (fun _ h9 => h9) rfl dX8_twosInSight_6 ?_
      refine lv_icmp_ge (tgt := 48) hx hb dX8_twosInSight_9 (by decide) (fun c3 => ?_) (fun c3 => ?_)
      · have hv := if_y c3 hv
        refine lv_iload_n hx hb dX8_twosInSight_48 rfl (lv_at hl 1 rfl) ?_
        exact W.iret (v := x2) hx hb hr (fun t h9 _ => ⟨rv_i hv, h9⟩) (fun q h => absurd h List.not_mem_nil) dX8_twosInSight_49 hlk
      · have hv := if_n c3 hv
        refine lv_iload_n hx hb dX8_twosInSight_12 rfl (lv_at hl 0 rfl) ?_
        refine lv_iconst (v := (1 : Int32)) hx hb dX8_twosInSight_13 (by decide) ?_
        refine lv_iadd hx hb dX8_twosInSight_14 ?_
        refine lv_istore_n (lv' := [(3, .int (x1 + (1 : Int32))), (2, .int x1), (1, .int x2), (0, .ref t_h)]) hx hb dX8_twosInSight_15 rfl hl (by decide) rfl (fun ls hl => ?_)
        have hL16 : ∀ (k_16 : Int32 → Int32 → Option (Int32)), (∀ (x4 : Int32) (x5 : Int32) (ls : Array Slot), lv_has ls 4 [(3, .int x4), (2, .int x1), (1, .int x5), (0, .ref t_h)] → k_16 x4 x5 = some res → W p l e ({ frames := 2, cells := 0, slots := 0, locals := 36 }) s m [.ref t_h].toArray below meth c s.heap [] 0 0 (MQ below (RdQ (some (.int res))) [.ref t_h].toArray s 0 0 (fun _ => False)) (F0 m 42 ls [])) → ∀ (n : Nat) (x4 : Int32) (x5 : Int32) (ls : Array Slot), lv_has ls 4 [(3, .int x4), (2, .int x1), (1, .int x5), (0, .ref t_h)] → L_X8_twosInSight_16 t_height t_rail t_people x1 k_16 n x4 x5 = some res → W p l e ({ frames := 2, cells := 0, slots := 0, locals := 36 }) s m [.ref t_h].toArray below meth c s.heap [] 0 0 (MQ below (RdQ (some (.int res))) [.ref t_h].toArray s 0 0 (fun _ => False)) (F0 m 16 ls []) := by
          intro k_16 hk_16 n
          induction n with
          | zero => intro x4 x5 ls hl hv; cases hv
          | succ n16 ih16 =>
            intro x4 x5 ls hl hv
            rw [L_X8_twosInSight_16] at hv
            refine lv_iload_n hx hb dX8_twosInSight_16 rfl (lv_at hl 0 rfl) ?_
            refine lv_aload_n hx hb dX8_twosInSight_17 rfl (lv_at hl 3 rfl) ?_
            refine va_get (D := E.1) (ci := 2) (v := .int t_people) (C := RX8) (T := TX8) (N := 11) hx hb ht i_X8 hown hK hP 0 rfl rfl 8 (by decide) (ht _ kw_1_53) (fun _ h9 => h9) rfl dX8_twosInSight_18 ?_
            refine lv_icmp_ge (tgt := 42) hx hb dX8_twosInSight_21 (by decide) (fun c6 => ?_) (fun c6 => ?_)
            · have hv := if_y c6 hv
              exact hk_16 x4 x5 _ (lv_sub hl [0, 1, 2, 3] rfl) hv
            · have hv := if_n c6 hv
              refine lv_aload_n hx hb dX8_twosInSight_24 rfl (lv_at hl 3 rfl) ?_
              refine lv_iload_n hx hb dX8_twosInSight_25 rfl (lv_at hl 1 rfl) ?_
              refine lv_iload_n hx hb dX8_twosInSight_26 rfl (lv_at hl 0 rfl) ?_
              obtain ⟨r7, h8, hv⟩ := ob_s hv
              refine rdV 2 0 (As := [.int x1, .int x4]) (rest := []) (st1 := [.int r7]) (w := [oSt t_h t_a0 t_a1 t_a2 t_a3 t_a4 t_a5 t_moving t_shut t_people t_needed t_day, ai E t_a0 10 t_height, ai E t_a1 7 t_kind, ai E t_a2 7 t_figure, ai E t_a3 7 t_rail, ai E t_a4 7 t_mood, ai E t_a5 7 t_sight]) hC q_X8_isInSight kw_2_16 (c_X8_isInSight l E t_h t_a0 t_a1 t_a2 t_a3 t_a4 t_a5 t_height t_kind t_figure t_rail t_mood t_sight t_moving t_shut t_people t_needed t_day x1 x4 r7 h8) ⟨rfl, rfl⟩ ⟨Nat.le_of_ble_eq_true rfl, Nat.le_of_ble_eq_true rfl⟩ ⟨Nat.zero_le _, Nat.zero_le _⟩ hP rfl rfl rfl hG rfl hl.1 rfl (Nat.le_of_ble_eq_true rfl) dX8_twosInSight_27 rfl ?_
              refine lv_if_eq (tgt := 36) hx hb dX8_twosInSight_30 (by decide) (fun c9 => ?_) (fun c9 => ?_)
              · have hv := if_y c9 hv
                refine lv_iinc (v := (x4 + (1 : Int32))) (lv' := [(3, .int (x4 + (1 : Int32))), (2, .int x1), (1, .int x5), (0, .ref t_h)]) hx hb dX8_twosInSight_36 hl (k := 0) rfl rfl (by decide) rfl (fun ls hl => ?_)
                refine lv_goto (tgt := 16) hx hb dX8_twosInSight_39 (by decide) ?_
                exact ih16 (x4 + (1 : Int32)) x5 _ (lv_sub hl [0, 1, 2, 3] rfl) hv
              · have hv := if_n c9 hv
                refine lv_iinc (v := (x5 + (1 : Int32))) (lv' := [(1, .int (x5 + (1 : Int32))), (3, .int x4), (2, .int x1), (0, .ref t_h)]) hx hb dX8_twosInSight_33 hl (k := 2) rfl rfl (by decide) rfl (fun ls hl => ?_)
                refine lv_iinc (v := (x4 + (1 : Int32))) (lv' := [(3, .int (x4 + (1 : Int32))), (1, .int (x5 + (1 : Int32))), (2, .int x1), (0, .ref t_h)]) hx hb dX8_twosInSight_36 hl (k := 1) rfl rfl (by decide) rfl (fun ls hl => ?_)
                refine lv_goto (tgt := 16) hx hb dX8_twosInSight_39 (by decide) ?_
                exact ih16 (x4 + (1 : Int32)) (x5 + (1 : Int32)) _ (lv_sub hl [0, 2, 1, 3] rfl) hv
        refine hL16 _ (fun x10 x11 ls hl hv => ?_) N (x1 + (1 : Int32)) x2 _ (lv_sub hl [0, 1, 2, 3] rfl) hv
        refine lv_iinc (v := (x1 + (1 : Int32))) (lv' := [(2, .int (x1 + (1 : Int32))), (3, .int x10), (1, .int x11), (0, .ref t_h)]) hx hb dX8_twosInSight_42 hl (k := 1) rfl rfl (by decide) rfl (fun ls hl => ?_)
        refine lv_goto (tgt := 4) hx hb dX8_twosInSight_45 (by decide) ?_
        exact ih4 (x1 + (1 : Int32)) x11 _ (lv_sub hl [0, 2, 3] rfl) hv
  exact hL4 N (0 : Int32) (0 : Int32) _ (lv_sub hl [0, 1, 2] rfl) hv
theorem dX8_loudest_0 : decode cX8_loudest 0 = .ok (.bipush (-4), 2) := by decide +kernel
theorem dX8_loudest_2 : decode cX8_loudest 2 = .ok (.istore_n 1, 1) := by decide +kernel
theorem dX8_loudest_3 : decode cX8_loudest 3 = .ok (.iconst (-1), 1) := by decide +kernel
theorem dX8_loudest_4 : decode cX8_loudest 4 = .ok (.istore_n 2, 1) := by decide +kernel
theorem dX8_loudest_5 : decode cX8_loudest 5 = .ok (.iconst 0, 1) := by decide +kernel
theorem dX8_loudest_6 : decode cX8_loudest 6 = .ok (.istore_n 3, 1) := by decide +kernel
theorem dX8_loudest_7 : decode cX8_loudest 7 = .ok (.iload_n 3, 1) := by decide +kernel
theorem dX8_loudest_8 : decode cX8_loudest 8 = .ok (.aload_n 0, 1) := by decide +kernel
theorem dX8_loudest_9 : decode cX8_loudest 9 = .ok (.getfield 43, 3) := by decide +kernel
theorem dX8_loudest_12 : decode cX8_loudest 12 = .ok (.if_icmp .ge 34, 3) := by decide +kernel
theorem dX8_loudest_15 : decode cX8_loudest 15 = .ok (.aload_n 0, 1) := by decide +kernel
theorem dX8_loudest_16 : decode cX8_loudest 16 = .ok (.iload_n 3, 1) := by decide +kernel
theorem dX8_loudest_17 : decode cX8_loudest 17 = .ok (.invokevirtual 63, 3) := by decide +kernel
theorem dX8_loudest_20 : decode cX8_loudest 20 = .ok (.ifCond .eq 20, 3) := by decide +kernel
theorem dX8_loudest_23 : decode cX8_loudest 23 = .ok (.aload_n 0, 1) := by decide +kernel
theorem dX8_loudest_24 : decode cX8_loudest 24 = .ok (.iload_n 3, 1) := by decide +kernel
theorem dX8_loudest_25 : decode cX8_loudest 25 = .ok (.invokevirtual 67, 3) := by decide +kernel
theorem dX8_loudest_28 : decode cX8_loudest 28 = .ok (.iload_n 2, 1) := by decide +kernel
theorem dX8_loudest_29 : decode cX8_loudest 29 = .ok (.if_icmp .le 11, 3) := by decide +kernel
theorem dX8_loudest_32 : decode cX8_loudest 32 = .ok (.iload_n 3, 1) := by decide +kernel
theorem dX8_loudest_33 : decode cX8_loudest 33 = .ok (.istore_n 1, 1) := by decide +kernel
theorem dX8_loudest_34 : decode cX8_loudest 34 = .ok (.aload_n 0, 1) := by decide +kernel
theorem dX8_loudest_35 : decode cX8_loudest 35 = .ok (.iload_n 3, 1) := by decide +kernel
theorem dX8_loudest_36 : decode cX8_loudest 36 = .ok (.invokevirtual 67, 3) := by decide +kernel
theorem dX8_loudest_39 : decode cX8_loudest 39 = .ok (.istore_n 2, 1) := by decide +kernel
theorem dX8_loudest_40 : decode cX8_loudest 40 = .ok (.iinc 3 1, 3) := by decide +kernel
theorem dX8_loudest_43 : decode cX8_loudest 43 = .ok (.goto (-36), 3) := by decide +kernel
theorem dX8_loudest_46 : decode cX8_loudest 46 = .ok (.iload_n 1, 1) := by decide +kernel
theorem dX8_loudest_47 : decode cX8_loudest 47 = .ok (.ireturn, 1) := by decide +kernel
def L_X8_loudest_7 (t_height : Nat → Int32) (t_kind : Nat → Int32) (t_figure : Nat → Int32) (t_rail : Nat → Int32) (t_shut : Int32) (t_people : Int32) : Nat → Int32 → Int32 → Int32 → Option (Int32)
  | 0, _, _, _ => none
  | n7 + 1, x1, x2, x3 => if t_people ≤ x1 then some x3 else ob (f_X8_isHeard t_rail t_shut x1) (fun r5 => if r5 = 0 then L_X8_loudest_7 t_height t_kind t_figure t_rail t_shut t_people n7 (x1 + (1 : Int32)) x2 x3 else ob (f_X8_weightOf t_height t_kind t_figure t_rail x1) (fun r8 => if r8 ≤ x2 then L_X8_loudest_7 t_height t_kind t_figure t_rail t_shut t_people n7 (x1 + (1 : Int32)) x2 x3 else ob (f_X8_weightOf t_height t_kind t_figure t_rail x1) (fun r11 => L_X8_loudest_7 t_height t_kind t_figure t_rail t_shut t_people n7 (x1 + (1 : Int32)) r11 x1)))
def f_X8_loudest (N : Nat) (t_height : Nat → Int32) (t_kind : Nat → Int32) (t_figure : Nat → Int32) (t_rail : Nat → Int32) (t_shut : Int32) (t_people : Int32) : Option (Int32) := L_X8_loudest_7 t_height t_kind t_figure t_rail t_shut t_people N (0 : Int32) (-1 : Int32) (-4 : Int32)
set_option maxHeartbeats 4000000 in
set_option maxRecDepth 100000 in
theorem c_X8_loudest (l : Launch) (E : EE) (t_h : Nat) (t_a0 : Nat) (t_a1 : Nat) (t_a2 : Nat) (t_a3 : Nat) (t_a4 : Nat) (t_a5 : Nat) (t_height : Nat → Int32) (t_kind : Nat → Int32) (t_figure : Nat → Int32) (t_rail : Nat → Int32) (t_mood : Nat → Int32) (t_sight : Nat → Int32) (t_moving : Int32) (t_shut : Int32) (t_people : Int32) (t_needed : Int32) (t_day : Int32) (N : Nat) (res : Int32) (hv : f_X8_loudest N t_height t_kind t_figure t_rail t_shut t_people = some res) : Rd l E yX8_loudest cX8_loudest 4 (some .int) ({ frames := 2, cells := 0, slots := 0, locals := 43 }) [.ref t_h] [oSt t_h t_a0 t_a1 t_a2 t_a3 t_a4 t_a5 t_moving t_shut t_people t_needed t_day, ai E t_a0 10 t_height, ai E t_a1 7 t_kind, ai E t_a2 7 t_figure, ai E t_a3 7 t_rail, ai E t_a4 7 t_mood, ai E t_a5 7 t_sight] (some (.int res)) := by
  refine Rd.intro RX8 (by decide) rfl (Nat.le_of_ble_eq_true rfl) ?_
  intro p e s m below meth c ls hC hr hlk hP hG hl
  obtain ⟨hx, hb, hml, hown, ht⟩ := id hC
  have hK := hG.1
  have hl : lv_has ls 4 [(0, .ref t_h)] := hl
  rw [f_X8_loudest] at hv
  refine lv_bipush (v := (-4 : Int32)) hx hb dX8_loudest_0 (by decide) ?_
  refine lv_istore_n (lv' := [(1, .int (-4 : Int32)), (0, .ref t_h)]) hx hb dX8_loudest_2 rfl hl (by decide) rfl (fun ls hl => ?_)
  refine lv_iconst (v := (-1 : Int32)) hx hb dX8_loudest_3 (by decide) ?_
  refine lv_istore_n (lv' := [(2, .int (-1 : Int32)), (1, .int (-4 : Int32)), (0, .ref t_h)]) hx hb dX8_loudest_4 rfl hl (by decide) rfl (fun ls hl => ?_)
  refine lv_iconst (v := (0 : Int32)) hx hb dX8_loudest_5 (by decide) ?_
  refine lv_istore_n (lv' := [(3, .int (0 : Int32)), (2, .int (-1 : Int32)), (1, .int (-4 : Int32)), (0, .ref t_h)]) hx hb dX8_loudest_6 rfl hl (by decide) rfl (fun ls hl => ?_)
  have hL7 : ∀ (n : Nat) (x1 : Int32) (x2 : Int32) (x3 : Int32) (ls : Array Slot), lv_has ls 4 [(3, .int x1), (2, .int x2), (1, .int x3), (0, .ref t_h)] → L_X8_loudest_7 t_height t_kind t_figure t_rail t_shut t_people n x1 x2 x3 = some res → W p l e ({ frames := 2, cells := 0, slots := 0, locals := 43 }) s m [.ref t_h].toArray below meth c s.heap [] 0 0 (MQ below (RdQ (some (.int res))) [.ref t_h].toArray s 0 0 (fun _ => False)) (F0 m 7 ls []) := by
    intro n
    induction n with
    | zero => intro x1 x2 x3 ls hl hv; cases hv
    | succ n7 ih7 =>
      intro x1 x2 x3 ls hl hv
      rw [L_X8_loudest_7] at hv
      refine lv_iload_n hx hb dX8_loudest_7 rfl (lv_at hl 0 rfl) ?_
      refine lv_aload_n hx hb dX8_loudest_8 rfl (lv_at hl 3 rfl) ?_
      refine va_get (D := E.1) (ci := 2) (v := .int t_people) (C := RX8) (T := TX8) (N := 11) hx hb ht i_X8 hown hK hP 0 rfl rfl 8 (by decide) (ht _ kw_1_53) (fun _ h9 => h9) rfl dX8_loudest_9 ?_
      refine lv_icmp_ge (tgt := 46) hx hb dX8_loudest_12 (by decide) (fun c4 => ?_) (fun c4 => ?_)
      · have hv := if_y c4 hv
        refine lv_iload_n hx hb dX8_loudest_46 rfl (lv_at hl 2 rfl) ?_
        exact W.iret (v := x3) hx hb hr (fun t h9 _ => ⟨rv_i hv, h9⟩) (fun q h => absurd h List.not_mem_nil) dX8_loudest_47 hlk
      · have hv := if_n c4 hv
        refine lv_aload_n hx hb dX8_loudest_15 rfl (lv_at hl 3 rfl) ?_
        refine lv_iload_n hx hb dX8_loudest_16 rfl (lv_at hl 0 rfl) ?_
        obtain ⟨r5, h6, hv⟩ := ob_s hv
        refine rdV 2 0 (As := [.int x1]) (rest := []) (st1 := [.int r5]) (w := [oSt t_h t_a0 t_a1 t_a2 t_a3 t_a4 t_a5 t_moving t_shut t_people t_needed t_day, ai E t_a0 10 t_height, ai E t_a1 7 t_kind, ai E t_a2 7 t_figure, ai E t_a3 7 t_rail, ai E t_a4 7 t_mood, ai E t_a5 7 t_sight]) hC q_X8_isHeard kw_2_9 (c_X8_isHeard l E t_h t_a0 t_a1 t_a2 t_a3 t_a4 t_a5 t_height t_kind t_figure t_rail t_mood t_sight t_moving t_shut t_people t_needed t_day x1 r5 h6) ⟨rfl, rfl⟩ ⟨Nat.le_of_ble_eq_true rfl, Nat.le_of_ble_eq_true rfl⟩ ⟨Nat.zero_le _, Nat.zero_le _⟩ hP rfl rfl rfl hG rfl hl.1 rfl (Nat.le_of_ble_eq_true rfl) dX8_loudest_17 rfl ?_
        refine lv_if_eq (tgt := 40) hx hb dX8_loudest_20 (by decide) (fun c7 => ?_) (fun c7 => ?_)
        · have hv := if_y c7 hv
          refine lv_iinc (v := (x1 + (1 : Int32))) (lv' := [(3, .int (x1 + (1 : Int32))), (2, .int x2), (1, .int x3), (0, .ref t_h)]) hx hb dX8_loudest_40 hl (k := 0) rfl rfl (by decide) rfl (fun ls hl => ?_)
          refine lv_goto (tgt := 7) hx hb dX8_loudest_43 (by decide) ?_
          exact ih7 (x1 + (1 : Int32)) x2 x3 _ (lv_sub hl [0, 1, 2, 3] rfl) hv
        · have hv := if_n c7 hv
          refine lv_aload_n hx hb dX8_loudest_23 rfl (lv_at hl 3 rfl) ?_
          refine lv_iload_n hx hb dX8_loudest_24 rfl (lv_at hl 0 rfl) ?_
          obtain ⟨r8, h9, hv⟩ := ob_s hv
          refine rdV 2 0 (As := [.int x1]) (rest := []) (st1 := [.int r8]) (w := [oSt t_h t_a0 t_a1 t_a2 t_a3 t_a4 t_a5 t_moving t_shut t_people t_needed t_day, ai E t_a0 10 t_height, ai E t_a1 7 t_kind, ai E t_a2 7 t_figure, ai E t_a3 7 t_rail, ai E t_a4 7 t_mood, ai E t_a5 7 t_sight]) hC q_X8_weightOf kw_2_134 (c_X8_weightOf l E t_h t_a0 t_a1 t_a2 t_a3 t_a4 t_a5 t_height t_kind t_figure t_rail t_mood t_sight t_moving t_shut t_people t_needed t_day x1 r8 h9) ⟨rfl, rfl⟩ ⟨Nat.le_of_ble_eq_true rfl, Nat.le_of_ble_eq_true rfl⟩ ⟨Nat.zero_le _, Nat.zero_le _⟩ hP rfl rfl rfl hG rfl hl.1 rfl (Nat.le_of_ble_eq_true rfl) dX8_loudest_25 rfl ?_
          refine lv_iload_n hx hb dX8_loudest_28 rfl (lv_at hl 1 rfl) ?_
          refine lv_icmp_le (tgt := 40) hx hb dX8_loudest_29 (by decide) (fun c10 => ?_) (fun c10 => ?_)
          · have hv := if_y c10 hv
            refine lv_iinc (v := (x1 + (1 : Int32))) (lv' := [(3, .int (x1 + (1 : Int32))), (2, .int x2), (1, .int x3), (0, .ref t_h)]) hx hb dX8_loudest_40 hl (k := 0) rfl rfl (by decide) rfl (fun ls hl => ?_)
            refine lv_goto (tgt := 7) hx hb dX8_loudest_43 (by decide) ?_
            exact ih7 (x1 + (1 : Int32)) x2 x3 _ (lv_sub hl [0, 1, 2, 3] rfl) hv
          · have hv := if_n c10 hv
            refine lv_iload_n hx hb dX8_loudest_32 rfl (lv_at hl 0 rfl) ?_
            refine lv_istore_n (lv' := [(1, .int x1), (3, .int x1), (2, .int x2), (0, .ref t_h)]) hx hb dX8_loudest_33 rfl hl (by decide) rfl (fun ls hl => ?_)
            refine lv_aload_n hx hb dX8_loudest_34 rfl (lv_at hl 3 rfl) ?_
            refine lv_iload_n hx hb dX8_loudest_35 rfl (lv_at hl 1 rfl) ?_
            obtain ⟨r11, h12, hv⟩ := ob_s hv
            refine rdV 2 0 (As := [.int x1]) (rest := []) (st1 := [.int r11]) (w := [oSt t_h t_a0 t_a1 t_a2 t_a3 t_a4 t_a5 t_moving t_shut t_people t_needed t_day, ai E t_a0 10 t_height, ai E t_a1 7 t_kind, ai E t_a2 7 t_figure, ai E t_a3 7 t_rail, ai E t_a4 7 t_mood, ai E t_a5 7 t_sight]) hC q_X8_weightOf kw_2_134 (c_X8_weightOf l E t_h t_a0 t_a1 t_a2 t_a3 t_a4 t_a5 t_height t_kind t_figure t_rail t_mood t_sight t_moving t_shut t_people t_needed t_day x1 r11 h12) ⟨rfl, rfl⟩ ⟨Nat.le_of_ble_eq_true rfl, Nat.le_of_ble_eq_true rfl⟩ ⟨Nat.zero_le _, Nat.zero_le _⟩ hP rfl rfl rfl hG rfl hl.1 rfl (Nat.le_of_ble_eq_true rfl) dX8_loudest_36 rfl ?_
            refine lv_istore_n (lv' := [(2, .int r11), (1, .int x1), (3, .int x1), (0, .ref t_h)]) hx hb dX8_loudest_39 rfl hl (by decide) rfl (fun ls hl => ?_)
            refine lv_iinc (v := (x1 + (1 : Int32))) (lv' := [(3, .int (x1 + (1 : Int32))), (2, .int r11), (1, .int x1), (0, .ref t_h)]) hx hb dX8_loudest_40 hl (k := 2) rfl rfl (by decide) rfl (fun ls hl => ?_)
            refine lv_goto (tgt := 7) hx hb dX8_loudest_43 (by decide) ?_
            exact ih7 (x1 + (1 : Int32)) r11 x1 _ (lv_sub hl [0, 1, 2, 3] rfl) hv
  exact hL7 N (0 : Int32) (-1 : Int32) (-4 : Int32) _ (lv_sub hl [0, 1, 2, 3] rfl) hv
theorem dX8_moodBehindLook_0 : decode cX8_moodBehindLook 0 = .ok (.aload_n 0, 1) := by decide +kernel
theorem dX8_moodBehindLook_1 : decode cX8_moodBehindLook 1 = .ok (.getfield 27, 3) := by decide +kernel
theorem dX8_moodBehindLook_4 : decode cX8_moodBehindLook 4 = .ok (.iload_n 1, 1) := by decide +kernel
theorem dX8_moodBehindLook_5 : decode cX8_moodBehindLook 5 = .ok (.iaload, 1) := by decide +kernel
theorem dX8_moodBehindLook_6 : decode cX8_moodBehindLook 6 = .ok (.invokestatic 107, 3) := by decide +kernel
theorem dX8_moodBehindLook_9 : decode cX8_moodBehindLook 9 = .ok (.istore_n 2, 1) := by decide +kernel
theorem dX8_moodBehindLook_10 : decode cX8_moodBehindLook 10 = .ok (.iload_n 2, 1) := by decide +kernel
theorem dX8_moodBehindLook_11 : decode cX8_moodBehindLook 11 = .ok (.ifCond .ne 10, 3) := by decide +kernel
theorem dX8_moodBehindLook_14 : decode cX8_moodBehindLook 14 = .ok (.aload_n 0, 1) := by decide +kernel
theorem dX8_moodBehindLook_15 : decode cX8_moodBehindLook 15 = .ok (.getfield 24, 3) := by decide +kernel
theorem dX8_moodBehindLook_18 : decode cX8_moodBehindLook 18 = .ok (.iload_n 1, 1) := by decide +kernel
theorem dX8_moodBehindLook_19 : decode cX8_moodBehindLook 19 = .ok (.iaload, 1) := by decide +kernel
theorem dX8_moodBehindLook_20 : decode cX8_moodBehindLook 20 = .ok (.ireturn, 1) := by decide +kernel
theorem dX8_moodBehindLook_21 : decode cX8_moodBehindLook 21 = .ok (.iconst 0, 1) := by decide +kernel
theorem dX8_moodBehindLook_22 : decode cX8_moodBehindLook 22 = .ok (.istore_n 3, 1) := by decide +kernel
theorem dX8_moodBehindLook_23 : decode cX8_moodBehindLook 23 = .ok (.iconst 0, 1) := by decide +kernel
theorem dX8_moodBehindLook_24 : decode cX8_moodBehindLook 24 = .ok (.istore 4, 2) := by decide +kernel
theorem dX8_moodBehindLook_26 : decode cX8_moodBehindLook 26 = .ok (.iload 4, 2) := by decide +kernel
theorem dX8_moodBehindLook_28 : decode cX8_moodBehindLook 28 = .ok (.aload_n 0, 1) := by decide +kernel
theorem dX8_moodBehindLook_29 : decode cX8_moodBehindLook 29 = .ok (.getfield 43, 3) := by decide +kernel
theorem dX8_moodBehindLook_32 : decode cX8_moodBehindLook 32 = .ok (.if_icmp .ge 33, 3) := by decide +kernel
theorem dX8_moodBehindLook_35 : decode cX8_moodBehindLook 35 = .ok (.aload_n 0, 1) := by decide +kernel
theorem dX8_moodBehindLook_36 : decode cX8_moodBehindLook 36 = .ok (.getfield 27, 3) := by decide +kernel
theorem dX8_moodBehindLook_39 : decode cX8_moodBehindLook 39 = .ok (.iload_n 1, 1) := by decide +kernel
theorem dX8_moodBehindLook_40 : decode cX8_moodBehindLook 40 = .ok (.iaload, 1) := by decide +kernel
theorem dX8_moodBehindLook_41 : decode cX8_moodBehindLook 41 = .ok (.iload 4, 2) := by decide +kernel
theorem dX8_moodBehindLook_43 : decode cX8_moodBehindLook 43 = .ok (.invokestatic 53, 3) := by decide +kernel
theorem dX8_moodBehindLook_46 : decode cX8_moodBehindLook 46 = .ok (.ifCond .eq 13, 3) := by decide +kernel
theorem dX8_moodBehindLook_49 : decode cX8_moodBehindLook 49 = .ok (.iload_n 3, 1) := by decide +kernel
theorem dX8_moodBehindLook_50 : decode cX8_moodBehindLook 50 = .ok (.aload_n 0, 1) := by decide +kernel
theorem dX8_moodBehindLook_51 : decode cX8_moodBehindLook 51 = .ok (.getfield 24, 3) := by decide +kernel
theorem dX8_moodBehindLook_54 : decode cX8_moodBehindLook 54 = .ok (.iload 4, 2) := by decide +kernel
theorem dX8_moodBehindLook_56 : decode cX8_moodBehindLook 56 = .ok (.iaload, 1) := by decide +kernel
theorem dX8_moodBehindLook_57 : decode cX8_moodBehindLook 57 = .ok (.iadd, 1) := by decide +kernel
theorem dX8_moodBehindLook_58 : decode cX8_moodBehindLook 58 = .ok (.istore_n 3, 1) := by decide +kernel
theorem dX8_moodBehindLook_59 : decode cX8_moodBehindLook 59 = .ok (.iinc 4 1, 3) := by decide +kernel
theorem dX8_moodBehindLook_62 : decode cX8_moodBehindLook 62 = .ok (.goto (-36), 3) := by decide +kernel
theorem dX8_moodBehindLook_65 : decode cX8_moodBehindLook 65 = .ok (.aload_n 0, 1) := by decide +kernel
theorem dX8_moodBehindLook_66 : decode cX8_moodBehindLook 66 = .ok (.getfield 15, 3) := by decide +kernel
theorem dX8_moodBehindLook_69 : decode cX8_moodBehindLook 69 = .ok (.iload_n 1, 1) := by decide +kernel
theorem dX8_moodBehindLook_70 : decode cX8_moodBehindLook 70 = .ok (.iaload, 1) := by decide +kernel
theorem dX8_moodBehindLook_71 : decode cX8_moodBehindLook 71 = .ok (.aload_n 0, 1) := by decide +kernel
theorem dX8_moodBehindLook_72 : decode cX8_moodBehindLook 72 = .ok (.getfield 18, 3) := by decide +kernel
theorem dX8_moodBehindLook_75 : decode cX8_moodBehindLook 75 = .ok (.iload_n 1, 1) := by decide +kernel
theorem dX8_moodBehindLook_76 : decode cX8_moodBehindLook 76 = .ok (.iaload, 1) := by decide +kernel
theorem dX8_moodBehindLook_77 : decode cX8_moodBehindLook 77 = .ok (.invokestatic 112, 3) := by decide +kernel
theorem dX8_moodBehindLook_80 : decode cX8_moodBehindLook 80 = .ok (.istore 4, 2) := by decide +kernel
theorem dX8_moodBehindLook_82 : decode cX8_moodBehindLook 82 = .ok (.aload_n 0, 1) := by decide +kernel
theorem dX8_moodBehindLook_83 : decode cX8_moodBehindLook 83 = .ok (.getfield 24, 3) := by decide +kernel
theorem dX8_moodBehindLook_86 : decode cX8_moodBehindLook 86 = .ok (.iload_n 1, 1) := by decide +kernel
theorem dX8_moodBehindLook_87 : decode cX8_moodBehindLook 87 = .ok (.iaload, 1) := by decide +kernel
theorem dX8_moodBehindLook_88 : decode cX8_moodBehindLook 88 = .ok (.iload 4, 2) := by decide +kernel
theorem dX8_moodBehindLook_90 : decode cX8_moodBehindLook 90 = .ok (.ineg, 1) := by decide +kernel
theorem dX8_moodBehindLook_91 : decode cX8_moodBehindLook 91 = .ok (.iload 4, 2) := by decide +kernel
theorem dX8_moodBehindLook_93 : decode cX8_moodBehindLook 93 = .ok (.iload_n 3, 1) := by decide +kernel
theorem dX8_moodBehindLook_94 : decode cX8_moodBehindLook 94 = .ok (.iload_n 2, 1) := by decide +kernel
theorem dX8_moodBehindLook_95 : decode cX8_moodBehindLook 95 = .ok (.idiv, 1) := by decide +kernel
theorem dX8_moodBehindLook_96 : decode cX8_moodBehindLook 96 = .ok (.aload_n 0, 1) := by decide +kernel
theorem dX8_moodBehindLook_97 : decode cX8_moodBehindLook 97 = .ok (.getfield 24, 3) := by decide +kernel
theorem dX8_moodBehindLook_100 : decode cX8_moodBehindLook 100 = .ok (.iload_n 1, 1) := by decide +kernel
theorem dX8_moodBehindLook_101 : decode cX8_moodBehindLook 101 = .ok (.iaload, 1) := by decide +kernel
theorem dX8_moodBehindLook_102 : decode cX8_moodBehindLook 102 = .ok (.isub, 1) := by decide +kernel
theorem dX8_moodBehindLook_103 : decode cX8_moodBehindLook 103 = .ok (.invokestatic 116, 3) := by decide +kernel
theorem dX8_moodBehindLook_106 : decode cX8_moodBehindLook 106 = .ok (.invokestatic 119, 3) := by decide +kernel
theorem dX8_moodBehindLook_109 : decode cX8_moodBehindLook 109 = .ok (.iadd, 1) := by decide +kernel
theorem dX8_moodBehindLook_110 : decode cX8_moodBehindLook 110 = .ok (.ireturn, 1) := by decide +kernel
def L_X8_moodBehindLook_26 (t_kind : Nat → Int32) (t_figure : Nat → Int32) (t_mood : Nat → Int32) (t_sight : Nat → Int32) (t_people : Int32) (p1 : Int32) (r2 : Int32) : Nat → Int32 → Int32 → Option (Int32)
  | 0, _, _ => none
  | n26 + 1, x5, x6 => if t_people ≤ x5 then gd (ix p1 7) (gd (ix p1 7) (ob (f_X3_swayOf (t_kind p1.toNatClampNeg) (t_figure p1.toNatClampNeg)) (fun r10 => gd (ix p1 7) (gd (nz r2) (gd (ix p1 7) (some ((t_mood p1.toNatClampNeg) + (if (-r10) < (if ((x6 / r2) - (t_mood p1.toNatClampNeg)) < r10 then ((x6 / r2) - (t_mood p1.toNatClampNeg)) else r10) then (if ((x6 / r2) - (t_mood p1.toNatClampNeg)) < r10 then ((x6 / r2) - (t_mood p1.toNatClampNeg)) else r10) else (-r10))))))))) else gd (ix p1 7) (ob (f_X9_isIn (t_sight p1.toNatClampNeg) x5) (fun r16 => if r16 = 0 then L_X8_moodBehindLook_26 t_kind t_figure t_mood t_sight t_people p1 r2 n26 (x5 + (1 : Int32)) x6 else gd (ix x5 7) (L_X8_moodBehindLook_26 t_kind t_figure t_mood t_sight t_people p1 r2 n26 (x5 + (1 : Int32)) (x6 + (t_mood x5.toNatClampNeg)))))
def f_X8_moodBehindLook (N : Nat) (t_kind : Nat → Int32) (t_figure : Nat → Int32) (t_mood : Nat → Int32) (t_sight : Nat → Int32) (t_people : Int32) (p1 : Int32) : Option (Int32) := gd (ix p1 7) (ob (f_J6_bitCount_0f7a4 (t_sight p1.toNatClampNeg)) (fun r2 => if r2 = 0 then gd (ix p1 7) (some (t_mood p1.toNatClampNeg)) else L_X8_moodBehindLook_26 t_kind t_figure t_mood t_sight t_people p1 r2 N (0 : Int32) (0 : Int32)))
set_option maxHeartbeats 4000000 in
set_option maxRecDepth 100000 in
theorem c_X8_moodBehindLook (l : Launch) (E : EE) (t_h : Nat) (t_a0 : Nat) (t_a1 : Nat) (t_a2 : Nat) (t_a3 : Nat) (t_a4 : Nat) (t_a5 : Nat) (t_height : Nat → Int32) (t_kind : Nat → Int32) (t_figure : Nat → Int32) (t_rail : Nat → Int32) (t_mood : Nat → Int32) (t_sight : Nat → Int32) (t_moving : Int32) (t_shut : Int32) (t_people : Int32) (t_needed : Int32) (t_day : Int32) (p1 : Int32) (N : Nat) (res : Int32) (hv : f_X8_moodBehindLook N t_kind t_figure t_mood t_sight t_people p1 = some res) : Rd l E yX8_moodBehindLook cX8_moodBehindLook 5 (some .int) ({ frames := 1, cells := 0, slots := 0, locals := 21 }) [.ref t_h, .int p1] [oSt t_h t_a0 t_a1 t_a2 t_a3 t_a4 t_a5 t_moving t_shut t_people t_needed t_day, ai E t_a0 10 t_height, ai E t_a1 7 t_kind, ai E t_a2 7 t_figure, ai E t_a3 7 t_rail, ai E t_a4 7 t_mood, ai E t_a5 7 t_sight] (some (.int res)) := by
  refine Rd.intro RX8 (by decide) rfl (Nat.le_of_ble_eq_true rfl) ?_
  intro p e s m below meth c ls hC hr hlk hP hG hl
  obtain ⟨hx, hb, hml, hown, ht⟩ := id hC
  have hK := hG.1
  have hl : lv_has ls 5 [(0, .ref t_h), (1, .int p1)] := hl
  rw [f_X8_moodBehindLook] at hv
  refine lv_aload_n hx hb dX8_moodBehindLook_0 rfl (lv_at hl 0 rfl) ?_
  refine va_get (D := E.1) (ci := 2) (v := .ref t_a5) (C := RX8) (T := TX8) (N := 11) hx hb ht i_X8 hown hK hP 0 rfl rfl 5 (by decide) (ht _ kw_1_48) (fun _ h9 => h9) rfl dX8_moodBehindLook_1 ?_
  refine lv_iload_n hx hb dX8_moodBehindLook_4 rfl (lv_at hl 1 rfl) ?_
  obtain ⟨g1, hv⟩ := gd_s hv
  refine va_iald hx hb hK hP 6 0 rfl rfl (ix_s g1) dX8_moodBehindLook_5 ?_
  obtain ⟨r2, h3, hv⟩ := ob_s hv
  refine rdS (rest := []) (st1 := [.int r2]) (w := []) hC q_J6_bitCount_0f7a4 kw_2_31 (c_J6_bitCount_0f7a4 l E (t_sight p1.toNatClampNeg) r2 h3) ⟨rfl, rfl⟩ ⟨Nat.le_of_ble_eq_true rfl, Nat.le_of_ble_eq_true rfl⟩ ⟨Nat.zero_le _, Nat.zero_le _⟩ (hP.sub (ws' := []) [] rfl) hG rfl hl.1 rfl (Nat.le_of_ble_eq_true rfl) dX8_moodBehindLook_6 rfl ?_
  refine lv_istore_n (lv' := [(2, .int r2), (0, .ref t_h), (1, .int p1)]) hx hb dX8_moodBehindLook_9 rfl hl (by decide) rfl (fun ls hl => ?_)
  refine lv_iload_n hx hb dX8_moodBehindLook_10 rfl (lv_at hl 0 rfl) ?_
  refine lv_if_ne (tgt := 21) hx hb dX8_moodBehindLook_11 (by decide) (fun c4 => ?_) (fun c4 => ?_)
  · have hv := if_n c4 hv
    refine lv_iconst (v := (0 : Int32)) hx hb dX8_moodBehindLook_21 (by decide) ?_
    refine lv_istore_n (lv' := [(3, .int (0 : Int32)), (2, .int r2), (0, .ref t_h), (1, .int p1)]) hx hb dX8_moodBehindLook_22 rfl hl (by decide) rfl (fun ls hl => ?_)
    refine lv_iconst (v := (0 : Int32)) hx hb dX8_moodBehindLook_23 (by decide) ?_
    refine lv_istore (lv' := [(4, .int (0 : Int32)), (3, .int (0 : Int32)), (2, .int r2), (0, .ref t_h), (1, .int p1)]) hx hb dX8_moodBehindLook_24 hl (by decide) rfl (fun ls hl => ?_)
    have hL26 : ∀ (n : Nat) (x5 : Int32) (x6 : Int32) (ls : Array Slot), lv_has ls 5 [(4, .int x5), (3, .int x6), (2, .int r2), (0, .ref t_h), (1, .int p1)] → L_X8_moodBehindLook_26 t_kind t_figure t_mood t_sight t_people p1 r2 n x5 x6 = some res → W p l e ({ frames := 1, cells := 0, slots := 0, locals := 21 }) s m [.ref t_h, .int p1].toArray below meth c s.heap [] 0 0 (MQ below (RdQ (some (.int res))) [.ref t_h, .int p1].toArray s 0 0 (fun _ => False)) (F0 m 26 ls []) := by
      intro n
      induction n with
      | zero => intro x5 x6 ls hl hv; cases hv
      | succ n26 ih26 =>
        intro x5 x6 ls hl hv
        rw [L_X8_moodBehindLook_26] at hv
        refine lv_iload hx hb dX8_moodBehindLook_26 (lv_at hl 0 rfl) ?_
        refine lv_aload_n hx hb dX8_moodBehindLook_28 rfl (lv_at hl 3 rfl) ?_
        refine va_get (D := E.1) (ci := 2) (v := .int t_people) (C := RX8) (T := TX8) (N := 11) hx hb ht i_X8 hown hK hP 0 rfl rfl 8 (by decide) (ht _ kw_1_53) (fun _ h9 => h9) rfl dX8_moodBehindLook_29 ?_
        refine lv_icmp_ge (tgt := 65) hx hb dX8_moodBehindLook_32 (by decide) (fun c7 => ?_) (fun c7 => ?_)
        · have hv := if_y c7 hv
          refine lv_aload_n hx hb dX8_moodBehindLook_65 rfl (lv_at hl 3 rfl) ?_
          refine va_get (D := E.1) (ci := 2) (v := .ref t_a1) (C := RX8) (T := TX8) (N := 11) hx hb ht i_X8 hown hK hP 0 rfl rfl 1 (by decide) (ht _ kw_1_39) (fun _ h9 => h9) rfl dX8_moodBehindLook_66 ?_
          refine lv_iload_n hx hb dX8_moodBehindLook_69 rfl (lv_at hl 4 rfl) ?_
          obtain ⟨g8, hv⟩ := gd_s hv
          refine va_iald hx hb hK hP 2 0 rfl rfl (ix_s g8) dX8_moodBehindLook_70 ?_
          refine lv_aload_n hx hb dX8_moodBehindLook_71 rfl (lv_at hl 3 rfl) ?_
          refine va_get (D := E.1) (ci := 2) (v := .ref t_a2) (C := RX8) (T := TX8) (N := 11) hx hb ht i_X8 hown hK hP 0 rfl rfl 2 (by decide) (ht _ kw_1_41) (fun _ h9 => h9) rfl dX8_moodBehindLook_72 ?_
          refine lv_iload_n hx hb dX8_moodBehindLook_75 rfl (lv_at hl 4 rfl) ?_
          obtain ⟨g9, hv⟩ := gd_s hv
          refine va_iald hx hb hK hP 3 0 rfl rfl (ix_s g9) dX8_moodBehindLook_76 ?_
          obtain ⟨r10, h11, hv⟩ := ob_s hv
          refine rdS (rest := []) (st1 := [.int r10]) (w := []) hC q_X3_swayOf kw_2_37 (c_X3_swayOf l E (t_kind p1.toNatClampNeg) (t_figure p1.toNatClampNeg) r10 h11) ⟨rfl, rfl⟩ ⟨Nat.le_of_ble_eq_true rfl, Nat.le_of_ble_eq_true rfl⟩ ⟨Nat.zero_le _, Nat.zero_le _⟩ (hP.sub (ws' := []) [] rfl) hG rfl hl.1 rfl (Nat.le_of_ble_eq_true rfl) dX8_moodBehindLook_77 rfl ?_
          refine lv_istore (lv' := [(4, .int r10), (3, .int x6), (2, .int r2), (0, .ref t_h), (1, .int p1)]) hx hb dX8_moodBehindLook_80 hl (by decide) rfl (fun ls hl => ?_)
          refine lv_aload_n hx hb dX8_moodBehindLook_82 rfl (lv_at hl 3 rfl) ?_
          refine va_get (D := E.1) (ci := 2) (v := .ref t_a4) (C := RX8) (T := TX8) (N := 11) hx hb ht i_X8 hown hK hP 0 rfl rfl 4 (by decide) (ht _ kw_1_45) (fun _ h9 => h9) rfl dX8_moodBehindLook_83 ?_
          refine lv_iload_n hx hb dX8_moodBehindLook_86 rfl (lv_at hl 4 rfl) ?_
          obtain ⟨g12, hv⟩ := gd_s hv
          refine va_iald hx hb hK hP 5 0 rfl rfl (ix_s g12) dX8_moodBehindLook_87 ?_
          refine lv_iload hx hb dX8_moodBehindLook_88 (lv_at hl 0 rfl) ?_
          refine lv_ineg hx hb dX8_moodBehindLook_90 ?_
          refine lv_iload hx hb dX8_moodBehindLook_91 (lv_at hl 0 rfl) ?_
          refine lv_iload_n hx hb dX8_moodBehindLook_93 rfl (lv_at hl 1 rfl) ?_
          refine lv_iload_n hx hb dX8_moodBehindLook_94 rfl (lv_at hl 2 rfl) ?_
          obtain ⟨g13, hv⟩ := gd_s hv
          refine lv_idiv hx hb dX8_moodBehindLook_95 (nz_s g13) ?_
          refine lv_aload_n hx hb dX8_moodBehindLook_96 rfl (lv_at hl 3 rfl) ?_
          refine va_get (D := E.1) (ci := 2) (v := .ref t_a4) (C := RX8) (T := TX8) (N := 11) hx hb ht i_X8 hown hK hP 0 rfl rfl 4 (by decide) (ht _ kw_1_45) (fun _ h9 => h9) rfl dX8_moodBehindLook_97 ?_
          refine lv_iload_n hx hb dX8_moodBehindLook_100 rfl (lv_at hl 4 rfl) ?_
          obtain ⟨g14, hv⟩ := gd_s hv
          refine va_iald hx hb hK hP 5 0 rfl rfl (ix_s g14) dX8_moodBehindLook_101 ?_
          refine lv_isub hx hb dX8_moodBehindLook_102 ?_
          refine va_mmin hx hb (by rw [hml]; exact hl.1.symm) hown (ht _ kw_2_40) (ht _ kw_2_41) (ht _ kw_1_8) (ht _ kw_2_42) (Nat.le_of_ble_eq_true rfl) (Nat.le_of_ble_eq_true rfl) (Nat.zero_le _) (Nat.zero_le _) dX8_moodBehindLook_103 ?_
          refine va_mmax hx hb (by rw [hml]; exact hl.1.symm) hown (ht _ kw_2_43) (ht _ kw_2_44) (ht _ kw_1_8) (ht _ kw_2_45) (Nat.le_of_ble_eq_true rfl) (Nat.le_of_ble_eq_true rfl) (Nat.zero_le _) (Nat.zero_le _) dX8_moodBehindLook_106 ?_
          refine lv_iadd hx hb dX8_moodBehindLook_109 ?_
          exact W.iret (v := ((t_mood p1.toNatClampNeg) + (if (-r10) < (if ((x6 / r2) - (t_mood p1.toNatClampNeg)) < r10 then ((x6 / r2) - (t_mood p1.toNatClampNeg)) else r10) then (if ((x6 / r2) - (t_mood p1.toNatClampNeg)) < r10 then ((x6 / r2) - (t_mood p1.toNatClampNeg)) else r10) else (-r10)))) hx hb hr (fun t h9 _ => ⟨rv_i hv, h9⟩) (fun q h => absurd h List.not_mem_nil) dX8_moodBehindLook_110 hlk
        · have hv := if_n c7 hv
          refine lv_aload_n hx hb dX8_moodBehindLook_35 rfl (lv_at hl 3 rfl) ?_
          refine va_get (D := E.1) (ci := 2) (v := .ref t_a5) (C := RX8) (T := TX8) (N := 11) hx hb ht i_X8 hown hK hP 0 rfl rfl 5 (by decide) (ht _ kw_1_48) (fun _ h9 => h9) rfl dX8_moodBehindLook_36 ?_
          refine lv_iload_n hx hb dX8_moodBehindLook_39 rfl (lv_at hl 4 rfl) ?_
          obtain ⟨g15, hv⟩ := gd_s hv
          refine va_iald hx hb hK hP 6 0 rfl rfl (ix_s g15) dX8_moodBehindLook_40 ?_
          refine lv_iload hx hb dX8_moodBehindLook_41 (lv_at hl 0 rfl) ?_
          obtain ⟨r16, h17, hv⟩ := ob_s hv
          refine rdSN (rest := []) (st1 := [.int r16]) (w := []) hC q_X9_isIn (List.mem_of_getElem? (i := 4) rfl) (c_X9_isIn l E (t_sight p1.toNatClampNeg) x5 r16 h17) ⟨rfl, rfl⟩ ⟨Nat.le_of_ble_eq_true rfl, Nat.le_of_ble_eq_true rfl⟩ ⟨Nat.zero_le _, Nat.zero_le _⟩ (hP.sub (ws' := []) [] rfl) hG rfl hl.1 rfl (Nat.le_of_ble_eq_true rfl) dX8_moodBehindLook_43 rfl ?_
          refine lv_if_eq (tgt := 59) hx hb dX8_moodBehindLook_46 (by decide) (fun c18 => ?_) (fun c18 => ?_)
          · have hv := if_y c18 hv
            refine lv_iinc (v := (x5 + (1 : Int32))) (lv' := [(4, .int (x5 + (1 : Int32))), (3, .int x6), (2, .int r2), (0, .ref t_h), (1, .int p1)]) hx hb dX8_moodBehindLook_59 hl (k := 0) rfl rfl (by decide) rfl (fun ls hl => ?_)
            refine lv_goto (tgt := 26) hx hb dX8_moodBehindLook_62 (by decide) ?_
            exact ih26 (x5 + (1 : Int32)) x6 _ (lv_sub hl [0, 1, 2, 3, 4] rfl) hv
          · have hv := if_n c18 hv
            refine lv_iload_n hx hb dX8_moodBehindLook_49 rfl (lv_at hl 1 rfl) ?_
            refine lv_aload_n hx hb dX8_moodBehindLook_50 rfl (lv_at hl 3 rfl) ?_
            refine va_get (D := E.1) (ci := 2) (v := .ref t_a4) (C := RX8) (T := TX8) (N := 11) hx hb ht i_X8 hown hK hP 0 rfl rfl 4 (by decide) (ht _ kw_1_45) (fun _ h9 => h9) rfl dX8_moodBehindLook_51 ?_
            refine lv_iload hx hb dX8_moodBehindLook_54 (lv_at hl 0 rfl) ?_
            obtain ⟨g19, hv⟩ := gd_s hv
            refine va_iald hx hb hK hP 5 0 rfl rfl (ix_s g19) dX8_moodBehindLook_56 ?_
            refine lv_iadd hx hb dX8_moodBehindLook_57 ?_
            refine lv_istore_n (lv' := [(3, .int (x6 + (t_mood x5.toNatClampNeg))), (4, .int x5), (2, .int r2), (0, .ref t_h), (1, .int p1)]) hx hb dX8_moodBehindLook_58 rfl hl (by decide) rfl (fun ls hl => ?_)
            refine lv_iinc (v := (x5 + (1 : Int32))) (lv' := [(4, .int (x5 + (1 : Int32))), (3, .int (x6 + (t_mood x5.toNatClampNeg))), (2, .int r2), (0, .ref t_h), (1, .int p1)]) hx hb dX8_moodBehindLook_59 hl (k := 1) rfl rfl (by decide) rfl (fun ls hl => ?_)
            refine lv_goto (tgt := 26) hx hb dX8_moodBehindLook_62 (by decide) ?_
            exact ih26 (x5 + (1 : Int32)) (x6 + (t_mood x5.toNatClampNeg)) _ (lv_sub hl [0, 1, 2, 3, 4] rfl) hv
    exact hL26 N (0 : Int32) (0 : Int32) _ (lv_sub hl [0, 1, 2, 3, 4] rfl) hv
  · have hv := if_y c4 hv
    refine lv_aload_n hx hb dX8_moodBehindLook_14 rfl (lv_at hl 1 rfl) ?_
    refine va_get (D := E.1) (ci := 2) (v := .ref t_a4) (C := RX8) (T := TX8) (N := 11) hx hb ht i_X8 hown hK hP 0 rfl rfl 4 (by decide) (ht _ kw_1_45) (fun _ h9 => h9) rfl dX8_moodBehindLook_15 ?_
    refine lv_iload_n hx hb dX8_moodBehindLook_18 rfl (lv_at hl 2 rfl) ?_
    obtain ⟨g20, hv⟩ := gd_s hv
    refine va_iald hx hb hK hP 5 0 rfl rfl (ix_s g20) dX8_moodBehindLook_19 ?_
    exact W.iret (v := (t_mood p1.toNatClampNeg)) hx hb hr (fun t h9 _ => ⟨rv_i hv, h9⟩) (fun q h => absurd h List.not_mem_nil) dX8_moodBehindLook_20 hlk
