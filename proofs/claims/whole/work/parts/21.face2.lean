theorem dX9_moodThen_0 : decode cX9_moodThen 0 = .ok (.aload_n 0, 1) := by decide +kernel
theorem dX9_moodThen_1 : decode cX9_moodThen 1 = .ok (.getfield 12, 3) := by decide +kernel
theorem dX9_moodThen_4 : decode cX9_moodThen 4 = .ok (.iload_n 1, 1) := by decide +kernel
theorem dX9_moodThen_5 : decode cX9_moodThen 5 = .ok (.invokevirtual 58, 3) := by decide +kernel
theorem dX9_moodThen_8 : decode cX9_moodThen 8 = .ok (.ifCond .eq 10, 3) := by decide +kernel
theorem dX9_moodThen_11 : decode cX9_moodThen 11 = .ok (.iload_n 2, 1) := by decide +kernel
theorem dX9_moodThen_12 : decode cX9_moodThen 12 = .ok (.invokestatic 154, 3) := by decide +kernel
theorem dX9_moodThen_15 : decode cX9_moodThen 15 = .ok (.ifCond .ne 6, 3) := by decide +kernel
theorem dX9_moodThen_18 : decode cX9_moodThen 18 = .ok (.ldc 126, 2) := by decide +kernel
theorem dX9_moodThen_20 : decode cX9_moodThen 20 = .ok (.ireturn, 1) := by decide +kernel
theorem dX9_moodThen_21 : decode cX9_moodThen 21 = .ok (.aload_n 0, 1) := by decide +kernel
theorem dX9_moodThen_22 : decode cX9_moodThen 22 = .ok (.getfield 16, 3) := by decide +kernel
theorem dX9_moodThen_25 : decode cX9_moodThen 25 = .ok (.aload_n 0, 1) := by decide +kernel
theorem dX9_moodThen_26 : decode cX9_moodThen 26 = .ok (.getfield 12, 3) := by decide +kernel
theorem dX9_moodThen_29 : decode cX9_moodThen 29 = .ok (.invokevirtual 48, 3) := by decide +kernel
theorem dX9_moodThen_32 : decode cX9_moodThen 32 = .ok (.aload_n 0, 1) := by decide +kernel
theorem dX9_moodThen_33 : decode cX9_moodThen 33 = .ok (.getfield 16, 3) := by decide +kernel
theorem dX9_moodThen_36 : decode cX9_moodThen 36 = .ok (.iload_n 2, 1) := by decide +kernel
theorem dX9_moodThen_37 : decode cX9_moodThen 37 = .ok (.invokevirtual 133, 3) := by decide +kernel
theorem dX9_moodThen_40 : decode cX9_moodThen 40 = .ok (.aload_n 0, 1) := by decide +kernel
theorem dX9_moodThen_41 : decode cX9_moodThen 41 = .ok (.getfield 16, 3) := by decide +kernel
theorem dX9_moodThen_44 : decode cX9_moodThen 44 = .ok (.getfield 72, 3) := by decide +kernel
theorem dX9_moodThen_47 : decode cX9_moodThen 47 = .ok (.iload_n 1, 1) := by decide +kernel
theorem dX9_moodThen_48 : decode cX9_moodThen 48 = .ok (.iaload, 1) := by decide +kernel
theorem dX9_moodThen_49 : decode cX9_moodThen 49 = .ok (.ireturn, 1) := by decide +kernel
def f_X9_moodThen (N : Nat) (now_height : Nat → Int32) (now_kind : Nat → Int32) (now_figure : Nat → Int32) (now_rail : Nat → Int32) (now_mood : Nat → Int32) (now_shut : Int32) (now_people : Int32) (now_needed : Int32) (now_day : Int32) (mind_height : Nat → Int32) (mind_kind : Nat → Int32) (mind_figure : Nat → Int32) (mind_rail : Nat → Int32) (mind_mood : Nat → Int32) (mind_sight : Nat → Int32) (mind_moving : Int32) (mind_shut : Int32) (mind_people : Int32) (mind_needed : Int32) (mind_day : Int32) (p1 : Int32) (p2 : Int32) : Option (Int32 × Int32 × Int32 × Int32 × Int32 × Int32 × (Nat → Int32) × (Nat → Int32) × (Nat → Int32) × (Nat → Int32) × (Nat → Int32) × (Nat → Int32)) := ob (f_X8_isThere now_people p1) (fun r1 => if r1 = 0 then nm (1000000001 : Int32) (fun z4 => some (z4, mind_moving, mind_shut, mind_people, mind_needed, mind_day, mind_height, mind_kind, mind_figure, mind_rail, mind_mood, mind_sight)) else ob (f_X9_isSpan p2) (fun r5 => if r5 = 0 then nm (1000000001 : Int32) (fun z25 => some (z25, mind_moving, mind_shut, mind_people, mind_needed, mind_day, mind_height, mind_kind, mind_figure, mind_rail, mind_mood, mind_sight)) else ob (f_X8_become now_height now_kind now_figure now_rail now_mood now_shut now_people now_needed now_day) (fun (y8, y9, y10, y11, y12, y13, y14, y15, y16) => ob (f_X8_live N y12 y13 y14 y15 y16 mind_sight y8 y9 y11 p2) (fun (y18, y19, y20, y21) => gd (ix p1 7) (nm (y20 p1.toNatClampNeg) (fun z24 => some (z24, y18, y8, y9, y10, y19, y12, y13, y14, y15, y20, y21)))))))
set_option maxHeartbeats 4000000 in
set_option maxRecDepth 100000 in
theorem c_X9_moodThen (l : Launch) (E : EE) (b_h : Nat) (now_h : Nat) (mind_h : Nat) (kept_h : Nat) (rails_h : Nat) (sa_h : Nat) (now_a0 : Nat) (now_a1 : Nat) (now_a2 : Nat) (now_a3 : Nat) (now_a4 : Nat) (now_a5 : Nat) (mind_a0 : Nat) (mind_a1 : Nat) (mind_a2 : Nat) (mind_a3 : Nat) (mind_a4 : Nat) (mind_a5 : Nat) (b_img : Int32) (now_height : Nat → Int32) (now_kind : Nat → Int32) (now_figure : Nat → Int32) (now_rail : Nat → Int32) (now_mood : Nat → Int32) (now_sight : Nat → Int32) (now_moving : Int32) (now_shut : Int32) (now_people : Int32) (now_needed : Int32) (now_day : Int32) (mind_height : Nat → Int32) (mind_kind : Nat → Int32) (mind_figure : Nat → Int32) (mind_rail : Nat → Int32) (mind_mood : Nat → Int32) (mind_sight : Nat → Int32) (mind_moving : Int32) (mind_shut : Int32) (mind_people : Int32) (mind_needed : Int32) (mind_day : Int32) (p1 : Int32) (p2 : Int32) (N : Nat) (res : Int32) (w_mind_moving : Int32) (w_mind_shut : Int32) (w_mind_people : Int32) (w_mind_needed : Int32) (w_mind_day : Int32) (w_mind_height : Nat → Int32) (w_mind_kind : Nat → Int32) (w_mind_figure : Nat → Int32) (w_mind_rail : Nat → Int32) (w_mind_mood : Nat → Int32) (w_mind_sight : Nat → Int32) (hv : f_X9_moodThen N now_height now_kind now_figure now_rail now_mood now_shut now_people now_needed now_day mind_height mind_kind mind_figure mind_rail mind_mood mind_sight mind_moving mind_shut mind_people mind_needed mind_day p1 p2 = some (res, w_mind_moving, w_mind_shut, w_mind_people, w_mind_needed, w_mind_day, w_mind_height, w_mind_kind, w_mind_figure, w_mind_rail, w_mind_mood, w_mind_sight)) : Wr l E yX9_moodThen cX9_moodThen 3 (some .int) ({ frames := 4, cells := 0, slots := 0, locals := 89 }) [.ref b_h, .int p1, .int p2] [oBp b_h now_h mind_h kept_h b_img rails_h sa_h, oSt now_h now_a0 now_a1 now_a2 now_a3 now_a4 now_a5 now_moving now_shut now_people now_needed now_day, ai E now_a0 10 now_height, ai E now_a1 7 now_kind, ai E now_a2 7 now_figure, ai E now_a3 7 now_rail, ai E now_a4 7 now_mood, ai E now_a5 7 now_sight, oSt mind_h mind_a0 mind_a1 mind_a2 mind_a3 mind_a4 mind_a5 mind_moving mind_shut mind_people mind_needed mind_day, ai E mind_a0 10 mind_height, ai E mind_a1 7 mind_kind, ai E mind_a2 7 mind_figure, ai E mind_a3 7 mind_rail, ai E mind_a4 7 mind_mood, ai E mind_a5 7 mind_sight] [oBp b_h now_h mind_h kept_h b_img rails_h sa_h, oSt now_h now_a0 now_a1 now_a2 now_a3 now_a4 now_a5 now_moving now_shut now_people now_needed now_day, ai E now_a0 10 now_height, ai E now_a1 7 now_kind, ai E now_a2 7 now_figure, ai E now_a3 7 now_rail, ai E now_a4 7 now_mood, ai E now_a5 7 now_sight, oSt mind_h mind_a0 mind_a1 mind_a2 mind_a3 mind_a4 mind_a5 w_mind_moving w_mind_shut w_mind_people w_mind_needed w_mind_day, ai E mind_a0 10 w_mind_height, ai E mind_a1 7 w_mind_kind, ai E mind_a2 7 w_mind_figure, ai E mind_a3 7 w_mind_rail, ai E mind_a4 7 w_mind_mood, ai E mind_a5 7 w_mind_sight] (some (.int res)) := by
  refine Wr.intro RX9 (by decide) rfl (Nat.le_of_ble_eq_true rfl) ?_
  intro p e s m below meth c ls A hC hr hlk hmn hP hD hS hA hG hl
  obtain ⟨hx, hb, hml, hown, ht⟩ := id hC
  have hK := hG.1
  have hl : lv_has ls 3 [(0, .ref b_h), (1, .int p1), (2, .int p2)] := hl
  rw [f_X9_moodThen] at hv
  refine lv_aload_n hx hb dX9_moodThen_0 rfl (lv_at hl 0 rfl) ?_
  refine va_get (D := E.1) (ci := 3) (v := .ref now_h) (C := RX9) (T := TX9) (N := 6) hx hb ht i_X9 hown hK hP 0 rfl rfl 0 (by decide) (ht _ kw_1_138) (fun _ h9 => h9) rfl dX9_moodThen_1 ?_
  refine lv_iload_n hx hb dX9_moodThen_4 rfl (lv_at hl 1 rfl) ?_
  obtain ⟨r1, h2, hv⟩ := ob_s hv
  refine rdV 2 0 (As := [.int p1]) (rest := []) (st1 := [.int r1]) (w := [oSt now_h now_a0 now_a1 now_a2 now_a3 now_a4 now_a5 now_moving now_shut now_people now_needed now_day, ai E now_a0 10 now_height, ai E now_a1 7 now_kind, ai E now_a2 7 now_figure, ai E now_a3 7 now_rail, ai E now_a4 7 now_mood, ai E now_a5 7 now_sight]) hC q_X8_isThere kw_2_50 (c_X8_isThere l E now_h now_a0 now_a1 now_a2 now_a3 now_a4 now_a5 now_height now_kind now_figure now_rail now_mood now_sight now_moving now_shut now_people now_needed now_day p1 r1 h2) ⟨rfl, rfl⟩ ⟨Nat.le_of_ble_eq_true rfl, Nat.le_of_ble_eq_true rfl⟩ ⟨Nat.zero_le _, Nat.zero_le _⟩ (hP.sub (ws' := [oSt now_h now_a0 now_a1 now_a2 now_a3 now_a4 now_a5 now_moving now_shut now_people now_needed now_day, ai E now_a0 10 now_height, ai E now_a1 7 now_kind, ai E now_a2 7 now_figure, ai E now_a3 7 now_rail, ai E now_a4 7 now_mood, ai E now_a5 7 now_sight]) [1, 2, 3, 4, 5, 6, 7] rfl) rfl rfl rfl hG rfl hl.1 rfl (Nat.le_of_ble_eq_true rfl) dX9_moodThen_5 rfl ?_
  refine lv_if_eq (tgt := 18) hx hb dX9_moodThen_8 (by decide) (fun c3 => ?_) (fun c3 => ?_)
  · have hv := if_y c3 hv
    refine lv_ldc (v := (1000000001 : Int32)) hx hb hown (ht _ kw_2_95) dX9_moodThen_18 ?_
    refine lv_topi (fun z4 ez4 => ?_)
    have hv := nm_s ez4 hv
    cases hv
    exact W.iret hx hb hr (fun t h9 _ => ⟨rfl, by rw [h9]; exact hP, hS.F h9⟩) hS.2.2 dX9_moodThen_20 hlk
  · have hv := if_n c3 hv
    refine lv_iload_n hx hb dX9_moodThen_11 rfl (lv_at hl 2 rfl) ?_
    obtain ⟨r5, h6, hv⟩ := ob_s hv
    refine rdS (rest := []) (st1 := [.int r5]) (w := []) hC q_X9_isSpan kw_2_157 (c_X9_isSpan l E p2 r5 h6) ⟨rfl, rfl⟩ ⟨Nat.le_of_ble_eq_true rfl, Nat.le_of_ble_eq_true rfl⟩ ⟨Nat.zero_le _, Nat.zero_le _⟩ (hP.sub (ws' := []) [] rfl) hG rfl hl.1 rfl (Nat.le_of_ble_eq_true rfl) dX9_moodThen_12 rfl ?_
    refine lv_if_ne (tgt := 21) hx hb dX9_moodThen_15 (by decide) (fun c7 => ?_) (fun c7 => ?_)
    · have hv := if_n c7 hv
      refine lv_aload_n hx hb dX9_moodThen_21 rfl (lv_at hl 0 rfl) ?_
      refine va_get (D := E.1) (ci := 3) (v := .ref mind_h) (C := RX9) (T := TX9) (N := 6) hx hb ht i_X9 hown hK hP 0 rfl rfl 1 (by decide) (ht _ kw_1_139) (fun _ h9 => h9) rfl dX9_moodThen_22 ?_
      refine lv_aload_n hx hb dX9_moodThen_25 rfl (lv_at hl 0 rfl) ?_
      refine va_get (D := E.1) (ci := 3) (v := .ref now_h) (C := RX9) (T := TX9) (N := 6) hx hb ht i_X9 hown hK hP 0 rfl rfl 0 (by decide) (ht _ kw_1_138) (fun _ h9 => h9) rfl dX9_moodThen_26 ?_
      obtain ⟨⟨y8, y9, y10, y11, y12, y13, y14, y15, y16⟩, h17, hv⟩ := ob_s hv
      refine wrV (as := [b_h, now_h, now_a0, now_a1, now_a2, now_a3, now_a4, now_a5, mind_h, mind_a0, mind_a1, mind_a2, mind_a3, mind_a4, mind_a5]) (wr := [oBp b_h now_h mind_h kept_h b_img rails_h sa_h]) [8, 9, 10, 11, 12, 13, 14, 1, 2, 3, 4, 5, 6, 7] [0] 2 0 (ws := [oBp b_h now_h mind_h kept_h b_img rails_h sa_h, oSt now_h now_a0 now_a1 now_a2 now_a3 now_a4 now_a5 now_moving now_shut now_people now_needed now_day, ai E now_a0 10 now_height, ai E now_a1 7 now_kind, ai E now_a2 7 now_figure, ai E now_a3 7 now_rail, ai E now_a4 7 now_mood, ai E now_a5 7 now_sight, oSt mind_h mind_a0 mind_a1 mind_a2 mind_a3 mind_a4 mind_a5 mind_moving mind_shut mind_people mind_needed mind_day, ai E mind_a0 10 mind_height, ai E mind_a1 7 mind_kind, ai E mind_a2 7 mind_figure, ai E mind_a3 7 mind_rail, ai E mind_a4 7 mind_mood, ai E mind_a5 7 mind_sight]) (ws' := [oBp b_h now_h mind_h kept_h b_img rails_h sa_h, oSt now_h now_a0 now_a1 now_a2 now_a3 now_a4 now_a5 now_moving now_shut now_people now_needed now_day, ai E now_a0 10 now_height, ai E now_a1 7 now_kind, ai E now_a2 7 now_figure, ai E now_a3 7 now_rail, ai E now_a4 7 now_mood, ai E now_a5 7 now_sight, oSt mind_h mind_a0 mind_a1 mind_a2 mind_a3 mind_a4 mind_a5 mind_moving y8 y9 y10 y11, ai E mind_a0 10 y12, ai E mind_a1 7 y13, ai E mind_a2 7 y14, ai E mind_a3 7 y15, ai E mind_a4 7 y16, ai E mind_a5 7 mind_sight]) (As := [.ref now_h]) (rest := []) (st1 := []) hC q_X8_become kw_1_171 (c_X8_become l E mind_h mind_a0 mind_a1 mind_a2 mind_a3 mind_a4 mind_a5 now_h now_a0 now_a1 now_a2 now_a3 now_a4 now_a5 mind_height mind_kind mind_figure mind_rail mind_mood mind_sight mind_moving mind_shut mind_people mind_needed mind_day now_height now_kind now_figure now_rail now_mood now_sight now_moving now_shut now_people now_needed now_day y8 y9 y10 y11 y12 y13 y14 y15 y16 h17) ⟨rfl, rfl⟩ ⟨Nat.le_of_ble_eq_true rfl, Nat.le_of_ble_eq_true rfl⟩ ⟨Nat.zero_le _, Nat.zero_le _⟩ hP hD hS hA rfl rfl rfl hG (by decide) rfl rfl rfl rfl rfl rfl rfl rfl hl.1 rfl (Nat.le_of_ble_eq_true rfl) dX9_moodThen_29 rfl (fun H locs hP hD hS => ?_)
      refine lv_aload_n hx hb dX9_moodThen_32 rfl (lv_at hl 0 rfl) ?_
      refine va_get (D := E.1) (ci := 3) (v := .ref mind_h) (C := RX9) (T := TX9) (N := 6) hx hb ht i_X9 hown hK hP 0 rfl rfl 1 (by decide) (ht _ kw_1_139) (fun _ h9 => h9) rfl dX9_moodThen_33 ?_
      refine lv_iload_n hx hb dX9_moodThen_36 rfl (lv_at hl 2 rfl) ?_
      obtain ⟨⟨y18, y19, y20, y21⟩, h22, hv⟩ := ob_s hv
      refine wrV (as := [b_h, now_h, now_a0, now_a1, now_a2, now_a3, now_a4, now_a5, mind_h, mind_a0, mind_a1, mind_a2, mind_a3, mind_a4, mind_a5]) (wr := [oBp b_h now_h mind_h kept_h b_img rails_h sa_h, oSt now_h now_a0 now_a1 now_a2 now_a3 now_a4 now_a5 now_moving now_shut now_people now_needed now_day, ai E now_a0 10 now_height, ai E now_a1 7 now_kind, ai E now_a2 7 now_figure, ai E now_a3 7 now_rail, ai E now_a4 7 now_mood, ai E now_a5 7 now_sight]) [8, 9, 10, 11, 12, 13, 14] [0, 1, 2, 3, 4, 5, 6, 7] 2 0 (ws := [oBp b_h now_h mind_h kept_h b_img rails_h sa_h, oSt now_h now_a0 now_a1 now_a2 now_a3 now_a4 now_a5 now_moving now_shut now_people now_needed now_day, ai E now_a0 10 now_height, ai E now_a1 7 now_kind, ai E now_a2 7 now_figure, ai E now_a3 7 now_rail, ai E now_a4 7 now_mood, ai E now_a5 7 now_sight, oSt mind_h mind_a0 mind_a1 mind_a2 mind_a3 mind_a4 mind_a5 mind_moving y8 y9 y10 y11, ai E mind_a0 10 y12, ai E mind_a1 7 y13, ai E mind_a2 7 y14, ai E mind_a3 7 y15, ai E mind_a4 7 y16, ai E mind_a5 7 mind_sight]) (ws' := [oBp b_h now_h mind_h kept_h b_img rails_h sa_h, oSt now_h now_a0 now_a1 now_a2 now_a3 now_a4 now_a5 now_moving now_shut now_people now_needed now_day, ai E now_a0 10 now_height, ai E now_a1 7 now_kind, ai E now_a2 7 now_figure, ai E now_a3 7 now_rail, ai E now_a4 7 now_mood, ai E now_a5 7 now_sight, oSt mind_h mind_a0 mind_a1 mind_a2 mind_a3 mind_a4 mind_a5 y18 y8 y9 y10 y19, ai E mind_a0 10 y12, ai E mind_a1 7 y13, ai E mind_a2 7 y14, ai E mind_a3 7 y15, ai E mind_a4 7 y20, ai E mind_a5 7 y21]) (As := [.int p2]) (rest := []) (st1 := []) hC q_X8_live kw_2_109 (c_X8_live l E mind_h mind_a0 mind_a1 mind_a2 mind_a3 mind_a4 mind_a5 y12 y13 y14 y15 y16 mind_sight mind_moving y8 y9 y10 y11 p2 N y18 y19 y20 y21 h22) ⟨rfl, rfl⟩ ⟨Nat.le_of_ble_eq_true rfl, Nat.le_of_ble_eq_true rfl⟩ ⟨Nat.zero_le _, Nat.zero_le _⟩ hP hD hS hA rfl rfl rfl hG (by decide) rfl rfl rfl rfl rfl rfl rfl rfl hl.1 rfl (Nat.le_of_ble_eq_true rfl) dX9_moodThen_37 rfl (fun H locs hP hD hS => ?_)
      refine lv_aload_n hx hb dX9_moodThen_40 rfl (lv_at hl 0 rfl) ?_
      refine va_get (D := E.1) (ci := 3) (v := .ref mind_h) (C := RX9) (T := TX9) (N := 6) hx hb ht i_X9 hown hK hP 0 rfl rfl 1 (by decide) (ht _ kw_1_139) (fun _ h9 => h9) rfl dX9_moodThen_41 ?_
      refine va_get (D := E.1) (ci := 2) (v := .ref mind_a4) (C := RX8) (T := TX8) (N := 11) hx hb ht i_X8 hown hK hP 8 rfl rfl 4 (by decide) (ht _ kw_1_46) (fun _ h9 => h9) rfl dX9_moodThen_44 ?_
      refine lv_iload_n hx hb dX9_moodThen_47 rfl (lv_at hl 1 rfl) ?_
      obtain ⟨g23, hv⟩ := gd_s hv
      refine va_iald hx hb hK hP 13 0 rfl rfl (ix_s g23) dX9_moodThen_48 ?_
      refine lv_topi (fun z24 ez24 => ?_)
      have hv := nm_s ez24 hv
      cases hv
      exact W.iret hx hb hr (fun t h9 _ => ⟨rfl, by rw [h9]; exact hP, hS.F h9⟩) hS.2.2 dX9_moodThen_49 hlk
    · have hv := if_y c7 hv
      refine lv_ldc (v := (1000000001 : Int32)) hx hb hown (ht _ kw_2_95) dX9_moodThen_18 ?_
      refine lv_topi (fun z25 ez25 => ?_)
      have hv := nm_s ez25 hv
      cases hv
      exact W.iret hx hb hr (fun t h9 _ => ⟨rfl, by rw [h9]; exact hP, hS.F h9⟩) hS.2.2 dX9_moodThen_20 hlk
theorem dX9_then_0 : decode cX9_then 0 = .ok (.iload_n 1, 1) := by decide +kernel
theorem dX9_then_1 : decode cX9_then 1 = .ok (.invokestatic 154, 3) := by decide +kernel
theorem dX9_then_4 : decode cX9_then 4 = .ok (.ifCond .eq 12, 3) := by decide +kernel
theorem dX9_then_7 : decode cX9_then 7 = .ok (.iload_n 2, 1) := by decide +kernel
theorem dX9_then_8 : decode cX9_then 8 = .ok (.iconst 0, 1) := by decide +kernel
theorem dX9_then_9 : decode cX9_then 9 = .ok (.iconst 1, 1) := by decide +kernel
theorem dX9_then_10 : decode cX9_then 10 = .ok (.invokestatic 118, 3) := by decide +kernel
theorem dX9_then_13 : decode cX9_then 13 = .ok (.ifCond .ne 5, 3) := by decide +kernel
theorem dX9_then_16 : decode cX9_then 16 = .ok (.iconst (-1), 1) := by decide +kernel
theorem dX9_then_17 : decode cX9_then 17 = .ok (.ireturn, 1) := by decide +kernel
theorem dX9_then_18 : decode cX9_then 18 = .ok (.aload_n 0, 1) := by decide +kernel
theorem dX9_then_19 : decode cX9_then 19 = .ok (.getfield 16, 3) := by decide +kernel
theorem dX9_then_22 : decode cX9_then 22 = .ok (.aload_n 0, 1) := by decide +kernel
theorem dX9_then_23 : decode cX9_then 23 = .ok (.getfield 12, 3) := by decide +kernel
theorem dX9_then_26 : decode cX9_then 26 = .ok (.invokevirtual 48, 3) := by decide +kernel
theorem dX9_then_29 : decode cX9_then 29 = .ok (.aload_n 0, 1) := by decide +kernel
theorem dX9_then_30 : decode cX9_then 30 = .ok (.getfield 16, 3) := by decide +kernel
theorem dX9_then_33 : decode cX9_then 33 = .ok (.iload_n 1, 1) := by decide +kernel
theorem dX9_then_34 : decode cX9_then 34 = .ok (.invokevirtual 133, 3) := by decide +kernel
theorem dX9_then_37 : decode cX9_then 37 = .ok (.iload_n 2, 1) := by decide +kernel
theorem dX9_then_38 : decode cX9_then 38 = .ok (.ifCond .ne 16, 3) := by decide +kernel
theorem dX9_then_41 : decode cX9_then 41 = .ok (.aload_n 0, 1) := by decide +kernel
theorem dX9_then_42 : decode cX9_then 42 = .ok (.getfield 16, 3) := by decide +kernel
theorem dX9_then_45 : decode cX9_then 45 = .ok (.invokevirtual 136, 3) := by decide +kernel
theorem dX9_then_48 : decode cX9_then 48 = .ok (.invokestatic 82, 3) := by decide +kernel
theorem dX9_then_51 : decode cX9_then 51 = .ok (.goto 17, 3) := by decide +kernel
theorem dX9_then_54 : decode cX9_then 54 = .ok (.aload_n 0, 1) := by decide +kernel
theorem dX9_then_55 : decode cX9_then 55 = .ok (.getfield 16, 3) := by decide +kernel
theorem dX9_then_58 : decode cX9_then 58 = .ok (.aload_n 0, 1) := by decide +kernel
theorem dX9_then_59 : decode cX9_then 59 = .ok (.getfield 16, 3) := by decide +kernel
theorem dX9_then_62 : decode cX9_then 62 = .ok (.invokevirtual 139, 3) := by decide +kernel
theorem dX9_then_65 : decode cX9_then 65 = .ok (.invokevirtual 143, 3) := by decide +kernel
theorem dX9_then_68 : decode cX9_then 68 = .ok (.ireturn, 1) := by decide +kernel
def f_X9_then (N : Nat) (now_height : Nat → Int32) (now_kind : Nat → Int32) (now_figure : Nat → Int32) (now_rail : Nat → Int32) (now_mood : Nat → Int32) (now_shut : Int32) (now_people : Int32) (now_needed : Int32) (now_day : Int32) (mind_height : Nat → Int32) (mind_kind : Nat → Int32) (mind_figure : Nat → Int32) (mind_rail : Nat → Int32) (mind_mood : Nat → Int32) (mind_sight : Nat → Int32) (mind_moving : Int32) (mind_shut : Int32) (mind_people : Int32) (mind_needed : Int32) (mind_day : Int32) (p1 : Int32) (p2 : Int32) : Option (Int32 × Int32 × Int32 × Int32 × Int32 × Int32 × (Nat → Int32) × (Nat → Int32) × (Nat → Int32) × (Nat → Int32) × (Nat → Int32) × (Nat → Int32)) := ob (f_X9_isSpan p1) (fun r1 => if r1 = 0 then nm (-1 : Int32) (fun z4 => some (z4, mind_moving, mind_shut, mind_people, mind_needed, mind_day, mind_height, mind_kind, mind_figure, mind_rail, mind_mood, mind_sight)) else ob (f_X9_isWithin p2 (0 : Int32) (1 : Int32)) (fun r5 => if r5 = 0 then nm (-1 : Int32) (fun z32 => some (z32, mind_moving, mind_shut, mind_people, mind_needed, mind_day, mind_height, mind_kind, mind_figure, mind_rail, mind_mood, mind_sight)) else ob (f_X8_become now_height now_kind now_figure now_rail now_mood now_shut now_people now_needed now_day) (fun (y8, y9, y10, y11, y12, y13, y14, y15, y16) => ob (f_X8_live N y12 y13 y14 y15 y16 mind_sight y8 y9 y11 p1) (fun (y18, y19, y20, y21) => if p2 = 0 then ob (f_X8_isCarried N y12 y13 y14 y15 y20 y8 y9 y10) (fun r28 => ob (f_X9_oneIf r28) (fun r30 => some (r30, y18, y8, y9, y10, y19, y12, y13, y14, y15, y20, y21))) else ob (f_X8_heardOnes N y15 y8 y9) (fun r24 => ob (f_X8_weightFor N y12 y13 y14 y15 y20 y9 r24) (fun r26 => some (r26, y18, y8, y9, y10, y19, y12, y13, y14, y15, y20, y21)))))))
set_option maxHeartbeats 4000000 in
set_option maxRecDepth 100000 in
theorem c_X9_then (l : Launch) (E : EE) (b_h : Nat) (now_h : Nat) (mind_h : Nat) (kept_h : Nat) (rails_h : Nat) (sa_h : Nat) (now_a0 : Nat) (now_a1 : Nat) (now_a2 : Nat) (now_a3 : Nat) (now_a4 : Nat) (now_a5 : Nat) (mind_a0 : Nat) (mind_a1 : Nat) (mind_a2 : Nat) (mind_a3 : Nat) (mind_a4 : Nat) (mind_a5 : Nat) (b_img : Int32) (now_height : Nat → Int32) (now_kind : Nat → Int32) (now_figure : Nat → Int32) (now_rail : Nat → Int32) (now_mood : Nat → Int32) (now_sight : Nat → Int32) (now_moving : Int32) (now_shut : Int32) (now_people : Int32) (now_needed : Int32) (now_day : Int32) (mind_height : Nat → Int32) (mind_kind : Nat → Int32) (mind_figure : Nat → Int32) (mind_rail : Nat → Int32) (mind_mood : Nat → Int32) (mind_sight : Nat → Int32) (mind_moving : Int32) (mind_shut : Int32) (mind_people : Int32) (mind_needed : Int32) (mind_day : Int32) (p1 : Int32) (p2 : Int32) (N : Nat) (res : Int32) (w_mind_moving : Int32) (w_mind_shut : Int32) (w_mind_people : Int32) (w_mind_needed : Int32) (w_mind_day : Int32) (w_mind_height : Nat → Int32) (w_mind_kind : Nat → Int32) (w_mind_figure : Nat → Int32) (w_mind_rail : Nat → Int32) (w_mind_mood : Nat → Int32) (w_mind_sight : Nat → Int32) (hv : f_X9_then N now_height now_kind now_figure now_rail now_mood now_shut now_people now_needed now_day mind_height mind_kind mind_figure mind_rail mind_mood mind_sight mind_moving mind_shut mind_people mind_needed mind_day p1 p2 = some (res, w_mind_moving, w_mind_shut, w_mind_people, w_mind_needed, w_mind_day, w_mind_height, w_mind_kind, w_mind_figure, w_mind_rail, w_mind_mood, w_mind_sight)) : Wr l E yX9_then cX9_then 3 (some .int) ({ frames := 5, cells := 0, slots := 0, locals := 109 }) [.ref b_h, .int p1, .int p2] [oBp b_h now_h mind_h kept_h b_img rails_h sa_h, oSt now_h now_a0 now_a1 now_a2 now_a3 now_a4 now_a5 now_moving now_shut now_people now_needed now_day, ai E now_a0 10 now_height, ai E now_a1 7 now_kind, ai E now_a2 7 now_figure, ai E now_a3 7 now_rail, ai E now_a4 7 now_mood, ai E now_a5 7 now_sight, oSt mind_h mind_a0 mind_a1 mind_a2 mind_a3 mind_a4 mind_a5 mind_moving mind_shut mind_people mind_needed mind_day, ai E mind_a0 10 mind_height, ai E mind_a1 7 mind_kind, ai E mind_a2 7 mind_figure, ai E mind_a3 7 mind_rail, ai E mind_a4 7 mind_mood, ai E mind_a5 7 mind_sight] [oBp b_h now_h mind_h kept_h b_img rails_h sa_h, oSt now_h now_a0 now_a1 now_a2 now_a3 now_a4 now_a5 now_moving now_shut now_people now_needed now_day, ai E now_a0 10 now_height, ai E now_a1 7 now_kind, ai E now_a2 7 now_figure, ai E now_a3 7 now_rail, ai E now_a4 7 now_mood, ai E now_a5 7 now_sight, oSt mind_h mind_a0 mind_a1 mind_a2 mind_a3 mind_a4 mind_a5 w_mind_moving w_mind_shut w_mind_people w_mind_needed w_mind_day, ai E mind_a0 10 w_mind_height, ai E mind_a1 7 w_mind_kind, ai E mind_a2 7 w_mind_figure, ai E mind_a3 7 w_mind_rail, ai E mind_a4 7 w_mind_mood, ai E mind_a5 7 w_mind_sight] (some (.int res)) := by
  refine Wr.intro RX9 (by decide) rfl (Nat.le_of_ble_eq_true rfl) ?_
  intro p e s m below meth c ls A hC hr hlk hmn hP hD hS hA hG hl
  obtain ⟨hx, hb, hml, hown, ht⟩ := id hC
  have hK := hG.1
  have hl : lv_has ls 3 [(0, .ref b_h), (1, .int p1), (2, .int p2)] := hl
  rw [f_X9_then] at hv
  refine lv_iload_n hx hb dX9_then_0 rfl (lv_at hl 1 rfl) ?_
  obtain ⟨r1, h2, hv⟩ := ob_s hv
  refine rdS (rest := []) (st1 := [.int r1]) (w := []) hC q_X9_isSpan kw_2_157 (c_X9_isSpan l E p1 r1 h2) ⟨rfl, rfl⟩ ⟨Nat.le_of_ble_eq_true rfl, Nat.le_of_ble_eq_true rfl⟩ ⟨Nat.zero_le _, Nat.zero_le _⟩ (hP.sub (ws' := []) [] rfl) hG rfl hl.1 rfl (Nat.le_of_ble_eq_true rfl) dX9_then_1 rfl ?_
  refine lv_if_eq (tgt := 16) hx hb dX9_then_4 (by decide) (fun c3 => ?_) (fun c3 => ?_)
  · have hv := if_y c3 hv
    refine lv_iconst (v := (-1 : Int32)) hx hb dX9_then_16 (by decide) ?_
    refine lv_topi (fun z4 ez4 => ?_)
    have hv := nm_s ez4 hv
    cases hv
    exact W.iret hx hb hr (fun t h9 _ => ⟨rfl, by rw [h9]; exact hP, hS.F h9⟩) hS.2.2 dX9_then_17 hlk
  · have hv := if_n c3 hv
    refine lv_iload_n hx hb dX9_then_7 rfl (lv_at hl 2 rfl) ?_
    refine lv_iconst (v := (0 : Int32)) hx hb dX9_then_8 (by decide) ?_
    refine lv_iconst (v := (1 : Int32)) hx hb dX9_then_9 (by decide) ?_
    obtain ⟨r5, h6, hv⟩ := ob_s hv
    refine rdS (rest := []) (st1 := [.int r5]) (w := []) hC q_X9_isWithin kw_1_168 (c_X9_isWithin l E p2 (0 : Int32) (1 : Int32) r5 h6) ⟨rfl, rfl⟩ ⟨Nat.le_of_ble_eq_true rfl, Nat.le_of_ble_eq_true rfl⟩ ⟨Nat.zero_le _, Nat.zero_le _⟩ (hP.sub (ws' := []) [] rfl) hG rfl hl.1 rfl (Nat.le_of_ble_eq_true rfl) dX9_then_10 rfl ?_
    refine lv_if_ne (tgt := 18) hx hb dX9_then_13 (by decide) (fun c7 => ?_) (fun c7 => ?_)
    · have hv := if_n c7 hv
      refine lv_aload_n hx hb dX9_then_18 rfl (lv_at hl 0 rfl) ?_
      refine va_get (D := E.1) (ci := 3) (v := .ref mind_h) (C := RX9) (T := TX9) (N := 6) hx hb ht i_X9 hown hK hP 0 rfl rfl 1 (by decide) (ht _ kw_1_139) (fun _ h9 => h9) rfl dX9_then_19 ?_
      refine lv_aload_n hx hb dX9_then_22 rfl (lv_at hl 0 rfl) ?_
      refine va_get (D := E.1) (ci := 3) (v := .ref now_h) (C := RX9) (T := TX9) (N := 6) hx hb ht i_X9 hown hK hP 0 rfl rfl 0 (by decide) (ht _ kw_1_138) (fun _ h9 => h9) rfl dX9_then_23 ?_
      obtain ⟨⟨y8, y9, y10, y11, y12, y13, y14, y15, y16⟩, h17, hv⟩ := ob_s hv
      refine wrV (as := [b_h, now_h, now_a0, now_a1, now_a2, now_a3, now_a4, now_a5, mind_h, mind_a0, mind_a1, mind_a2, mind_a3, mind_a4, mind_a5]) (wr := [oBp b_h now_h mind_h kept_h b_img rails_h sa_h]) [8, 9, 10, 11, 12, 13, 14, 1, 2, 3, 4, 5, 6, 7] [0] 2 0 (ws := [oBp b_h now_h mind_h kept_h b_img rails_h sa_h, oSt now_h now_a0 now_a1 now_a2 now_a3 now_a4 now_a5 now_moving now_shut now_people now_needed now_day, ai E now_a0 10 now_height, ai E now_a1 7 now_kind, ai E now_a2 7 now_figure, ai E now_a3 7 now_rail, ai E now_a4 7 now_mood, ai E now_a5 7 now_sight, oSt mind_h mind_a0 mind_a1 mind_a2 mind_a3 mind_a4 mind_a5 mind_moving mind_shut mind_people mind_needed mind_day, ai E mind_a0 10 mind_height, ai E mind_a1 7 mind_kind, ai E mind_a2 7 mind_figure, ai E mind_a3 7 mind_rail, ai E mind_a4 7 mind_mood, ai E mind_a5 7 mind_sight]) (ws' := [oBp b_h now_h mind_h kept_h b_img rails_h sa_h, oSt now_h now_a0 now_a1 now_a2 now_a3 now_a4 now_a5 now_moving now_shut now_people now_needed now_day, ai E now_a0 10 now_height, ai E now_a1 7 now_kind, ai E now_a2 7 now_figure, ai E now_a3 7 now_rail, ai E now_a4 7 now_mood, ai E now_a5 7 now_sight, oSt mind_h mind_a0 mind_a1 mind_a2 mind_a3 mind_a4 mind_a5 mind_moving y8 y9 y10 y11, ai E mind_a0 10 y12, ai E mind_a1 7 y13, ai E mind_a2 7 y14, ai E mind_a3 7 y15, ai E mind_a4 7 y16, ai E mind_a5 7 mind_sight]) (As := [.ref now_h]) (rest := []) (st1 := []) hC q_X8_become kw_1_171 (c_X8_become l E mind_h mind_a0 mind_a1 mind_a2 mind_a3 mind_a4 mind_a5 now_h now_a0 now_a1 now_a2 now_a3 now_a4 now_a5 mind_height mind_kind mind_figure mind_rail mind_mood mind_sight mind_moving mind_shut mind_people mind_needed mind_day now_height now_kind now_figure now_rail now_mood now_sight now_moving now_shut now_people now_needed now_day y8 y9 y10 y11 y12 y13 y14 y15 y16 h17) ⟨rfl, rfl⟩ ⟨Nat.le_of_ble_eq_true rfl, Nat.le_of_ble_eq_true rfl⟩ ⟨Nat.zero_le _, Nat.zero_le _⟩ hP hD hS hA rfl rfl rfl hG (by decide) rfl rfl rfl rfl rfl rfl rfl rfl hl.1 rfl (Nat.le_of_ble_eq_true rfl) dX9_then_26 rfl (fun H locs hP hD hS => ?_)
      refine lv_aload_n hx hb dX9_then_29 rfl (lv_at hl 0 rfl) ?_
      refine va_get (D := E.1) (ci := 3) (v := .ref mind_h) (C := RX9) (T := TX9) (N := 6) hx hb ht i_X9 hown hK hP 0 rfl rfl 1 (by decide) (ht _ kw_1_139) (fun _ h9 => h9) rfl dX9_then_30 ?_
      refine lv_iload_n hx hb dX9_then_33 rfl (lv_at hl 1 rfl) ?_
      obtain ⟨⟨y18, y19, y20, y21⟩, h22, hv⟩ := ob_s hv
      refine wrV (as := [b_h, now_h, now_a0, now_a1, now_a2, now_a3, now_a4, now_a5, mind_h, mind_a0, mind_a1, mind_a2, mind_a3, mind_a4, mind_a5]) (wr := [oBp b_h now_h mind_h kept_h b_img rails_h sa_h, oSt now_h now_a0 now_a1 now_a2 now_a3 now_a4 now_a5 now_moving now_shut now_people now_needed now_day, ai E now_a0 10 now_height, ai E now_a1 7 now_kind, ai E now_a2 7 now_figure, ai E now_a3 7 now_rail, ai E now_a4 7 now_mood, ai E now_a5 7 now_sight]) [8, 9, 10, 11, 12, 13, 14] [0, 1, 2, 3, 4, 5, 6, 7] 2 0 (ws := [oBp b_h now_h mind_h kept_h b_img rails_h sa_h, oSt now_h now_a0 now_a1 now_a2 now_a3 now_a4 now_a5 now_moving now_shut now_people now_needed now_day, ai E now_a0 10 now_height, ai E now_a1 7 now_kind, ai E now_a2 7 now_figure, ai E now_a3 7 now_rail, ai E now_a4 7 now_mood, ai E now_a5 7 now_sight, oSt mind_h mind_a0 mind_a1 mind_a2 mind_a3 mind_a4 mind_a5 mind_moving y8 y9 y10 y11, ai E mind_a0 10 y12, ai E mind_a1 7 y13, ai E mind_a2 7 y14, ai E mind_a3 7 y15, ai E mind_a4 7 y16, ai E mind_a5 7 mind_sight]) (ws' := [oBp b_h now_h mind_h kept_h b_img rails_h sa_h, oSt now_h now_a0 now_a1 now_a2 now_a3 now_a4 now_a5 now_moving now_shut now_people now_needed now_day, ai E now_a0 10 now_height, ai E now_a1 7 now_kind, ai E now_a2 7 now_figure, ai E now_a3 7 now_rail, ai E now_a4 7 now_mood, ai E now_a5 7 now_sight, oSt mind_h mind_a0 mind_a1 mind_a2 mind_a3 mind_a4 mind_a5 y18 y8 y9 y10 y19, ai E mind_a0 10 y12, ai E mind_a1 7 y13, ai E mind_a2 7 y14, ai E mind_a3 7 y15, ai E mind_a4 7 y20, ai E mind_a5 7 y21]) (As := [.int p1]) (rest := []) (st1 := []) hC q_X8_live kw_2_109 (c_X8_live l E mind_h mind_a0 mind_a1 mind_a2 mind_a3 mind_a4 mind_a5 y12 y13 y14 y15 y16 mind_sight mind_moving y8 y9 y10 y11 p1 N y18 y19 y20 y21 h22) ⟨rfl, rfl⟩ ⟨Nat.le_of_ble_eq_true rfl, Nat.le_of_ble_eq_true rfl⟩ ⟨Nat.zero_le _, Nat.zero_le _⟩ hP hD hS hA rfl rfl rfl hG (by decide) rfl rfl rfl rfl rfl rfl rfl rfl hl.1 rfl (Nat.le_of_ble_eq_true rfl) dX9_then_34 rfl (fun H locs hP hD hS => ?_)
      refine lv_iload_n hx hb dX9_then_37 rfl (lv_at hl 2 rfl) ?_
      refine lv_if_ne (tgt := 54) hx hb dX9_then_38 (by decide) (fun c23 => ?_) (fun c23 => ?_)
      · have hv := if_n c23 hv
        refine lv_aload_n hx hb dX9_then_54 rfl (lv_at hl 0 rfl) ?_
        refine va_get (D := E.1) (ci := 3) (v := .ref mind_h) (C := RX9) (T := TX9) (N := 6) hx hb ht i_X9 hown hK hP 0 rfl rfl 1 (by decide) (ht _ kw_1_139) (fun _ h9 => h9) rfl dX9_then_55 ?_
        refine lv_aload_n hx hb dX9_then_58 rfl (lv_at hl 0 rfl) ?_
        refine va_get (D := E.1) (ci := 3) (v := .ref mind_h) (C := RX9) (T := TX9) (N := 6) hx hb ht i_X9 hown hK hP 0 rfl rfl 1 (by decide) (ht _ kw_1_139) (fun _ h9 => h9) rfl dX9_then_59 ?_
        obtain ⟨r24, h25, hv⟩ := ob_s hv
        refine rdV 2 0 (As := []) (rest := [.ref mind_h]) (st1 := [.int r24, .ref mind_h]) (w := [oSt mind_h mind_a0 mind_a1 mind_a2 mind_a3 mind_a4 mind_a5 y18 y8 y9 y10 y19, ai E mind_a0 10 y12, ai E mind_a1 7 y13, ai E mind_a2 7 y14, ai E mind_a3 7 y15, ai E mind_a4 7 y20, ai E mind_a5 7 y21]) hC q_X8_heardOnes kw_2_146 (c_X8_heardOnes l E mind_h mind_a0 mind_a1 mind_a2 mind_a3 mind_a4 mind_a5 y12 y13 y14 y15 y20 y21 y18 y8 y9 y10 y19 N r24 h25) ⟨rfl, rfl⟩ ⟨Nat.le_of_ble_eq_true rfl, Nat.le_of_ble_eq_true rfl⟩ ⟨Nat.zero_le _, Nat.zero_le _⟩ (hP.sub (ws' := [oSt mind_h mind_a0 mind_a1 mind_a2 mind_a3 mind_a4 mind_a5 y18 y8 y9 y10 y19, ai E mind_a0 10 y12, ai E mind_a1 7 y13, ai E mind_a2 7 y14, ai E mind_a3 7 y15, ai E mind_a4 7 y20, ai E mind_a5 7 y21]) [8, 9, 10, 11, 12, 13, 14] rfl) rfl rfl rfl hG rfl hl.1 rfl (Nat.le_of_ble_eq_true rfl) dX9_then_62 rfl ?_
        obtain ⟨r26, h27, hv⟩ := ob_s hv
        refine rdV 2 0 (As := [.int r24]) (rest := []) (st1 := [.int r26]) (w := [oSt mind_h mind_a0 mind_a1 mind_a2 mind_a3 mind_a4 mind_a5 y18 y8 y9 y10 y19, ai E mind_a0 10 y12, ai E mind_a1 7 y13, ai E mind_a2 7 y14, ai E mind_a3 7 y15, ai E mind_a4 7 y20, ai E mind_a5 7 y21]) hC q_X8_weightFor kw_2_147 (c_X8_weightFor l E mind_h mind_a0 mind_a1 mind_a2 mind_a3 mind_a4 mind_a5 y12 y13 y14 y15 y20 y21 y18 y8 y9 y10 y19 r24 N r26 h27) ⟨rfl, rfl⟩ ⟨Nat.le_of_ble_eq_true rfl, Nat.le_of_ble_eq_true rfl⟩ ⟨Nat.zero_le _, Nat.zero_le _⟩ (hP.sub (ws' := [oSt mind_h mind_a0 mind_a1 mind_a2 mind_a3 mind_a4 mind_a5 y18 y8 y9 y10 y19, ai E mind_a0 10 y12, ai E mind_a1 7 y13, ai E mind_a2 7 y14, ai E mind_a3 7 y15, ai E mind_a4 7 y20, ai E mind_a5 7 y21]) [8, 9, 10, 11, 12, 13, 14] rfl) rfl rfl rfl hG rfl hl.1 rfl (Nat.le_of_ble_eq_true rfl) dX9_then_65 rfl ?_
        cases hv
        exact W.iret hx hb hr (fun t h9 _ => ⟨rfl, by rw [h9]; exact hP, hS.F h9⟩) hS.2.2 dX9_then_68 hlk
      · have hv := if_y c23 hv
        refine lv_aload_n hx hb dX9_then_41 rfl (lv_at hl 0 rfl) ?_
        refine va_get (D := E.1) (ci := 3) (v := .ref mind_h) (C := RX9) (T := TX9) (N := 6) hx hb ht i_X9 hown hK hP 0 rfl rfl 1 (by decide) (ht _ kw_1_139) (fun _ h9 => h9) rfl dX9_then_42 ?_
        obtain ⟨r28, h29, hv⟩ := ob_s hv
        refine rdV 2 0 (As := []) (rest := []) (st1 := [.int r28]) (w := [oSt mind_h mind_a0 mind_a1 mind_a2 mind_a3 mind_a4 mind_a5 y18 y8 y9 y10 y19, ai E mind_a0 10 y12, ai E mind_a1 7 y13, ai E mind_a2 7 y14, ai E mind_a3 7 y15, ai E mind_a4 7 y20, ai E mind_a5 7 y21]) hC q_X8_isCarried kw_2_110 (c_X8_isCarried l E mind_h mind_a0 mind_a1 mind_a2 mind_a3 mind_a4 mind_a5 y12 y13 y14 y15 y20 y21 y18 y8 y9 y10 y19 N r28 h29) ⟨rfl, rfl⟩ ⟨Nat.le_of_ble_eq_true rfl, Nat.le_of_ble_eq_true rfl⟩ ⟨Nat.zero_le _, Nat.zero_le _⟩ (hP.sub (ws' := [oSt mind_h mind_a0 mind_a1 mind_a2 mind_a3 mind_a4 mind_a5 y18 y8 y9 y10 y19, ai E mind_a0 10 y12, ai E mind_a1 7 y13, ai E mind_a2 7 y14, ai E mind_a3 7 y15, ai E mind_a4 7 y20, ai E mind_a5 7 y21]) [8, 9, 10, 11, 12, 13, 14] rfl) rfl rfl rfl hG rfl hl.1 rfl (Nat.le_of_ble_eq_true rfl) dX9_then_45 rfl ?_
        obtain ⟨r30, h31, hv⟩ := ob_s hv
        refine rdS (rest := []) (st1 := [.int r30]) (w := []) hC q_X9_oneIf kw_2_59 (c_X9_oneIf l E r28 r30 h31) ⟨rfl, rfl⟩ ⟨Nat.le_of_ble_eq_true rfl, Nat.le_of_ble_eq_true rfl⟩ ⟨Nat.zero_le _, Nat.zero_le _⟩ (hP.sub (ws' := []) [] rfl) hG rfl hl.1 rfl (Nat.le_of_ble_eq_true rfl) dX9_then_48 rfl ?_
        refine lv_goto (tgt := 68) hx hb dX9_then_51 (by decide) ?_
        cases hv
        exact W.iret hx hb hr (fun t h9 _ => ⟨rfl, by rw [h9]; exact hP, hS.F h9⟩) hS.2.2 dX9_then_68 hlk
    · have hv := if_y c7 hv
      refine lv_iconst (v := (-1 : Int32)) hx hb dX9_then_16 (by decide) ?_
      refine lv_topi (fun z32 ez32 => ?_)
      have hv := nm_s ez32 hv
      cases hv
      exact W.iret hx hb hr (fun t h9 _ => ⟨rfl, by rw [h9]; exact hP, hS.F h9⟩) hS.2.2 dX9_then_17 hlk
theorem dX9_when_0 : decode cX9_when 0 = .ok (.aload_n 0, 1) := by decide +kernel
theorem dX9_when_1 : decode cX9_when 1 = .ok (.getfield 16, 3) := by decide +kernel
theorem dX9_when_4 : decode cX9_when 4 = .ok (.aload_n 0, 1) := by decide +kernel
theorem dX9_when_5 : decode cX9_when 5 = .ok (.getfield 12, 3) := by decide +kernel
theorem dX9_when_8 : decode cX9_when 8 = .ok (.invokevirtual 48, 3) := by decide +kernel
theorem dX9_when_11 : decode cX9_when 11 = .ok (.aload_n 0, 1) := by decide +kernel
theorem dX9_when_12 : decode cX9_when 12 = .ok (.getfield 16, 3) := by decide +kernel
theorem dX9_when_15 : decode cX9_when 15 = .ok (.invokevirtual 157, 3) := by decide +kernel
theorem dX9_when_18 : decode cX9_when 18 = .ok (.iconst 1, 1) := by decide +kernel
theorem dX9_when_19 : decode cX9_when 19 = .ok (.istore_n 1, 1) := by decide +kernel
theorem dX9_when_20 : decode cX9_when 20 = .ok (.iconst 0, 1) := by decide +kernel
theorem dX9_when_21 : decode cX9_when 21 = .ok (.istore_n 2, 1) := by decide +kernel
theorem dX9_when_22 : decode cX9_when 22 = .ok (.iload_n 2, 1) := by decide +kernel
theorem dX9_when_23 : decode cX9_when 23 = .ok (.bipush 60, 2) := by decide +kernel
theorem dX9_when_25 : decode cX9_when 25 = .ok (.if_icmp .gt 33, 3) := by decide +kernel
theorem dX9_when_28 : decode cX9_when 28 = .ok (.iload_n 1, 1) := by decide +kernel
theorem dX9_when_29 : decode cX9_when 29 = .ok (.ifCond .eq 29, 3) := by decide +kernel
theorem dX9_when_32 : decode cX9_when 32 = .ok (.aload_n 0, 1) := by decide +kernel
theorem dX9_when_33 : decode cX9_when 33 = .ok (.getfield 16, 3) := by decide +kernel
theorem dX9_when_36 : decode cX9_when 36 = .ok (.invokevirtual 136, 3) := by decide +kernel
theorem dX9_when_39 : decode cX9_when 39 = .ok (.ifCond .eq 5, 3) := by decide +kernel
theorem dX9_when_42 : decode cX9_when 42 = .ok (.iload_n 2, 1) := by decide +kernel
theorem dX9_when_43 : decode cX9_when 43 = .ok (.ireturn, 1) := by decide +kernel
theorem dX9_when_44 : decode cX9_when 44 = .ok (.aload_n 0, 1) := by decide +kernel
theorem dX9_when_45 : decode cX9_when 45 = .ok (.getfield 16, 3) := by decide +kernel
theorem dX9_when_48 : decode cX9_when 48 = .ok (.invokevirtual 160, 3) := by decide +kernel
theorem dX9_when_51 : decode cX9_when 51 = .ok (.istore_n 1, 1) := by decide +kernel
theorem dX9_when_52 : decode cX9_when 52 = .ok (.iinc 2 1, 3) := by decide +kernel
theorem dX9_when_55 : decode cX9_when 55 = .ok (.goto (-33), 3) := by decide +kernel
theorem dX9_when_58 : decode cX9_when 58 = .ok (.bipush (-4), 2) := by decide +kernel
theorem dX9_when_60 : decode cX9_when 60 = .ok (.ireturn, 1) := by decide +kernel
def L_X9_when_22 (N : Nat) (y1 : Int32) (y2 : Int32) (y3 : Int32) (y5 : Nat → Int32) (y6 : Nat → Int32) (y7 : Nat → Int32) (y8 : Nat → Int32) (y12 : Nat → Int32) : Nat → Int32 → Int32 → Int32 → Int32 → (Nat → Int32) → Option (Int32 × Int32 × Int32 × Int32 × Int32 × Int32 × (Nat → Int32) × (Nat → Int32) × (Nat → Int32) × (Nat → Int32) × (Nat → Int32) × (Nat → Int32))
  | 0, _, _, _, _, _ => none
  | n22 + 1, x14, x15, y16, y17, y18 => if (60 : Int32) < x14 then nm (-4 : Int32) (fun z20 => some (z20, y16, y1, y2, y3, y17, y5, y6, y7, y8, y18, y12)) else if x15 = 0 then nm (-4 : Int32) (fun z22 => some (z22, y16, y1, y2, y3, y17, y5, y6, y7, y8, y18, y12)) else ob (f_X8_isCarried N y5 y6 y7 y8 y18 y1 y2 y3) (fun r23 => if r23 = 0 then ob (f_X8_nextDay N y6 y7 y18 y12 y16 y2 y17) (fun (r26, y27, y28, y29) => L_X9_when_22 N y1 y2 y3 y5 y6 y7 y8 y12 n22 (x14 + (1 : Int32)) r26 y27 y28 y29) else some (x14, y16, y1, y2, y3, y17, y5, y6, y7, y8, y18, y12))
def f_X9_when (N : Nat) (now_height : Nat → Int32) (now_kind : Nat → Int32) (now_figure : Nat → Int32) (now_rail : Nat → Int32) (now_mood : Nat → Int32) (now_shut : Int32) (now_people : Int32) (now_needed : Int32) (now_day : Int32) (mind_sight : Nat → Int32) : Option (Int32 × Int32 × Int32 × Int32 × Int32 × Int32 × (Nat → Int32) × (Nat → Int32) × (Nat → Int32) × (Nat → Int32) × (Nat → Int32) × (Nat → Int32)) := ob (f_X8_become now_height now_kind now_figure now_rail now_mood now_shut now_people now_needed now_day) (fun (y1, y2, y3, y4, y5, y6, y7, y8, y9) => ob (f_X8_startDays N y5 y8 mind_sight y1 y2) (fun (y11, y12) => L_X9_when_22 N y1 y2 y3 y5 y6 y7 y8 y12 N (0 : Int32) (1 : Int32) y11 y4 y9))
set_option maxHeartbeats 4000000 in
set_option maxRecDepth 100000 in
theorem c_X9_when (l : Launch) (E : EE) (b_h : Nat) (now_h : Nat) (mind_h : Nat) (kept_h : Nat) (rails_h : Nat) (sa_h : Nat) (now_a0 : Nat) (now_a1 : Nat) (now_a2 : Nat) (now_a3 : Nat) (now_a4 : Nat) (now_a5 : Nat) (mind_a0 : Nat) (mind_a1 : Nat) (mind_a2 : Nat) (mind_a3 : Nat) (mind_a4 : Nat) (mind_a5 : Nat) (b_img : Int32) (now_height : Nat → Int32) (now_kind : Nat → Int32) (now_figure : Nat → Int32) (now_rail : Nat → Int32) (now_mood : Nat → Int32) (now_sight : Nat → Int32) (now_moving : Int32) (now_shut : Int32) (now_people : Int32) (now_needed : Int32) (now_day : Int32) (mind_height : Nat → Int32) (mind_kind : Nat → Int32) (mind_figure : Nat → Int32) (mind_rail : Nat → Int32) (mind_mood : Nat → Int32) (mind_sight : Nat → Int32) (mind_moving : Int32) (mind_shut : Int32) (mind_people : Int32) (mind_needed : Int32) (mind_day : Int32) (N : Nat) (res : Int32) (w_mind_moving : Int32) (w_mind_shut : Int32) (w_mind_people : Int32) (w_mind_needed : Int32) (w_mind_day : Int32) (w_mind_height : Nat → Int32) (w_mind_kind : Nat → Int32) (w_mind_figure : Nat → Int32) (w_mind_rail : Nat → Int32) (w_mind_mood : Nat → Int32) (w_mind_sight : Nat → Int32) (hv : f_X9_when N now_height now_kind now_figure now_rail now_mood now_shut now_people now_needed now_day mind_sight = some (res, w_mind_moving, w_mind_shut, w_mind_people, w_mind_needed, w_mind_day, w_mind_height, w_mind_kind, w_mind_figure, w_mind_rail, w_mind_mood, w_mind_sight)) : Wr l E yX9_when cX9_when 3 (some .int) ({ frames := 5, cells := 0, slots := 0, locals := 109 }) [.ref b_h] [oBp b_h now_h mind_h kept_h b_img rails_h sa_h, oSt now_h now_a0 now_a1 now_a2 now_a3 now_a4 now_a5 now_moving now_shut now_people now_needed now_day, ai E now_a0 10 now_height, ai E now_a1 7 now_kind, ai E now_a2 7 now_figure, ai E now_a3 7 now_rail, ai E now_a4 7 now_mood, ai E now_a5 7 now_sight, oSt mind_h mind_a0 mind_a1 mind_a2 mind_a3 mind_a4 mind_a5 mind_moving mind_shut mind_people mind_needed mind_day, ai E mind_a0 10 mind_height, ai E mind_a1 7 mind_kind, ai E mind_a2 7 mind_figure, ai E mind_a3 7 mind_rail, ai E mind_a4 7 mind_mood, ai E mind_a5 7 mind_sight] [oBp b_h now_h mind_h kept_h b_img rails_h sa_h, oSt now_h now_a0 now_a1 now_a2 now_a3 now_a4 now_a5 now_moving now_shut now_people now_needed now_day, ai E now_a0 10 now_height, ai E now_a1 7 now_kind, ai E now_a2 7 now_figure, ai E now_a3 7 now_rail, ai E now_a4 7 now_mood, ai E now_a5 7 now_sight, oSt mind_h mind_a0 mind_a1 mind_a2 mind_a3 mind_a4 mind_a5 w_mind_moving w_mind_shut w_mind_people w_mind_needed w_mind_day, ai E mind_a0 10 w_mind_height, ai E mind_a1 7 w_mind_kind, ai E mind_a2 7 w_mind_figure, ai E mind_a3 7 w_mind_rail, ai E mind_a4 7 w_mind_mood, ai E mind_a5 7 w_mind_sight] (some (.int res)) := by
  refine Wr.intro RX9 (by decide) rfl (Nat.le_of_ble_eq_true rfl) ?_
  intro p e s m below meth c ls A hC hr hlk hmn hP hD hS hA hG hl
  obtain ⟨hx, hb, hml, hown, ht⟩ := id hC
  have hK := hG.1
  have hl : lv_has ls 3 [(0, .ref b_h)] := hl
  rw [f_X9_when] at hv
  refine lv_aload_n hx hb dX9_when_0 rfl (lv_at hl 0 rfl) ?_
  refine va_get (D := E.1) (ci := 3) (v := .ref mind_h) (C := RX9) (T := TX9) (N := 6) hx hb ht i_X9 hown hK hP 0 rfl rfl 1 (by decide) (ht _ kw_1_139) (fun _ h9 => h9) rfl dX9_when_1 ?_
  refine lv_aload_n hx hb dX9_when_4 rfl (lv_at hl 0 rfl) ?_
  refine va_get (D := E.1) (ci := 3) (v := .ref now_h) (C := RX9) (T := TX9) (N := 6) hx hb ht i_X9 hown hK hP 0 rfl rfl 0 (by decide) (ht _ kw_1_138) (fun _ h9 => h9) rfl dX9_when_5 ?_
  obtain ⟨⟨y1, y2, y3, y4, y5, y6, y7, y8, y9⟩, h10, hv⟩ := ob_s hv
  refine wrV (as := [b_h, now_h, now_a0, now_a1, now_a2, now_a3, now_a4, now_a5, mind_h, mind_a0, mind_a1, mind_a2, mind_a3, mind_a4, mind_a5]) (wr := [oBp b_h now_h mind_h kept_h b_img rails_h sa_h]) [8, 9, 10, 11, 12, 13, 14, 1, 2, 3, 4, 5, 6, 7] [0] 2 0 (ws := [oBp b_h now_h mind_h kept_h b_img rails_h sa_h, oSt now_h now_a0 now_a1 now_a2 now_a3 now_a4 now_a5 now_moving now_shut now_people now_needed now_day, ai E now_a0 10 now_height, ai E now_a1 7 now_kind, ai E now_a2 7 now_figure, ai E now_a3 7 now_rail, ai E now_a4 7 now_mood, ai E now_a5 7 now_sight, oSt mind_h mind_a0 mind_a1 mind_a2 mind_a3 mind_a4 mind_a5 mind_moving mind_shut mind_people mind_needed mind_day, ai E mind_a0 10 mind_height, ai E mind_a1 7 mind_kind, ai E mind_a2 7 mind_figure, ai E mind_a3 7 mind_rail, ai E mind_a4 7 mind_mood, ai E mind_a5 7 mind_sight]) (ws' := [oBp b_h now_h mind_h kept_h b_img rails_h sa_h, oSt now_h now_a0 now_a1 now_a2 now_a3 now_a4 now_a5 now_moving now_shut now_people now_needed now_day, ai E now_a0 10 now_height, ai E now_a1 7 now_kind, ai E now_a2 7 now_figure, ai E now_a3 7 now_rail, ai E now_a4 7 now_mood, ai E now_a5 7 now_sight, oSt mind_h mind_a0 mind_a1 mind_a2 mind_a3 mind_a4 mind_a5 mind_moving y1 y2 y3 y4, ai E mind_a0 10 y5, ai E mind_a1 7 y6, ai E mind_a2 7 y7, ai E mind_a3 7 y8, ai E mind_a4 7 y9, ai E mind_a5 7 mind_sight]) (As := [.ref now_h]) (rest := []) (st1 := []) hC q_X8_become kw_1_171 (c_X8_become l E mind_h mind_a0 mind_a1 mind_a2 mind_a3 mind_a4 mind_a5 now_h now_a0 now_a1 now_a2 now_a3 now_a4 now_a5 mind_height mind_kind mind_figure mind_rail mind_mood mind_sight mind_moving mind_shut mind_people mind_needed mind_day now_height now_kind now_figure now_rail now_mood now_sight now_moving now_shut now_people now_needed now_day y1 y2 y3 y4 y5 y6 y7 y8 y9 h10) ⟨rfl, rfl⟩ ⟨Nat.le_of_ble_eq_true rfl, Nat.le_of_ble_eq_true rfl⟩ ⟨Nat.zero_le _, Nat.zero_le _⟩ hP hD hS hA rfl rfl rfl hG (by decide) rfl rfl rfl rfl rfl rfl rfl rfl hl.1 rfl (Nat.le_of_ble_eq_true rfl) dX9_when_8 rfl (fun H locs hP hD hS => ?_)
  refine lv_aload_n hx hb dX9_when_11 rfl (lv_at hl 0 rfl) ?_
  refine va_get (D := E.1) (ci := 3) (v := .ref mind_h) (C := RX9) (T := TX9) (N := 6) hx hb ht i_X9 hown hK hP 0 rfl rfl 1 (by decide) (ht _ kw_1_139) (fun _ h9 => h9) rfl dX9_when_12 ?_
  obtain ⟨⟨y11, y12⟩, h13, hv⟩ := ob_s hv
  refine wrV (as := [b_h, now_h, now_a0, now_a1, now_a2, now_a3, now_a4, now_a5, mind_h, mind_a0, mind_a1, mind_a2, mind_a3, mind_a4, mind_a5]) (wr := [oBp b_h now_h mind_h kept_h b_img rails_h sa_h, oSt now_h now_a0 now_a1 now_a2 now_a3 now_a4 now_a5 now_moving now_shut now_people now_needed now_day, ai E now_a0 10 now_height, ai E now_a1 7 now_kind, ai E now_a2 7 now_figure, ai E now_a3 7 now_rail, ai E now_a4 7 now_mood, ai E now_a5 7 now_sight]) [8, 9, 10, 11, 12, 13, 14] [0, 1, 2, 3, 4, 5, 6, 7] 2 0 (ws := [oBp b_h now_h mind_h kept_h b_img rails_h sa_h, oSt now_h now_a0 now_a1 now_a2 now_a3 now_a4 now_a5 now_moving now_shut now_people now_needed now_day, ai E now_a0 10 now_height, ai E now_a1 7 now_kind, ai E now_a2 7 now_figure, ai E now_a3 7 now_rail, ai E now_a4 7 now_mood, ai E now_a5 7 now_sight, oSt mind_h mind_a0 mind_a1 mind_a2 mind_a3 mind_a4 mind_a5 mind_moving y1 y2 y3 y4, ai E mind_a0 10 y5, ai E mind_a1 7 y6, ai E mind_a2 7 y7, ai E mind_a3 7 y8, ai E mind_a4 7 y9, ai E mind_a5 7 mind_sight]) (ws' := [oBp b_h now_h mind_h kept_h b_img rails_h sa_h, oSt now_h now_a0 now_a1 now_a2 now_a3 now_a4 now_a5 now_moving now_shut now_people now_needed now_day, ai E now_a0 10 now_height, ai E now_a1 7 now_kind, ai E now_a2 7 now_figure, ai E now_a3 7 now_rail, ai E now_a4 7 now_mood, ai E now_a5 7 now_sight, oSt mind_h mind_a0 mind_a1 mind_a2 mind_a3 mind_a4 mind_a5 y11 y1 y2 y3 y4, ai E mind_a0 10 y5, ai E mind_a1 7 y6, ai E mind_a2 7 y7, ai E mind_a3 7 y8, ai E mind_a4 7 y9, ai E mind_a5 7 y12]) (As := []) (rest := []) (st1 := []) hC q_X8_startDays kw_2_168 (c_X8_startDays l E mind_h mind_a0 mind_a1 mind_a2 mind_a3 mind_a4 mind_a5 y5 y6 y7 y8 y9 mind_sight mind_moving y1 y2 y3 y4 N y11 y12 h13) ⟨rfl, rfl⟩ ⟨Nat.le_of_ble_eq_true rfl, Nat.le_of_ble_eq_true rfl⟩ ⟨Nat.zero_le _, Nat.zero_le _⟩ hP hD hS hA rfl rfl rfl hG (by decide) rfl rfl rfl rfl rfl rfl rfl rfl hl.1 rfl (Nat.le_of_ble_eq_true rfl) dX9_when_15 rfl (fun H locs hP hD hS => ?_)
  refine lv_iconst (v := (1 : Int32)) hx hb dX9_when_18 (by decide) ?_
  refine lv_istore_n (lv' := [(1, .int (1 : Int32)), (0, .ref b_h)]) hx hb dX9_when_19 rfl hl (by decide) rfl (fun ls hl => ?_)
  refine lv_iconst (v := (0 : Int32)) hx hb dX9_when_20 (by decide) ?_
  refine lv_istore_n (lv' := [(2, .int (0 : Int32)), (1, .int (1 : Int32)), (0, .ref b_h)]) hx hb dX9_when_21 rfl hl (by decide) rfl (fun ls hl => ?_)
  have hL22 : ∀ (n : Nat) (x14 : Int32) (x15 : Int32) (y16 : Int32) (y17 : Int32) (y18 : Nat → Int32) (H : Heap) (locs : List Loc) (ls : Array Slot), va_P E.1 vwCl [oBp b_h now_h mind_h kept_h b_img rails_h sa_h, oSt now_h now_a0 now_a1 now_a2 now_a3 now_a4 now_a5 now_moving now_shut now_people now_needed now_day, ai E now_a0 10 now_height, ai E now_a1 7 now_kind, ai E now_a2 7 now_figure, ai E now_a3 7 now_rail, ai E now_a4 7 now_mood, ai E now_a5 7 now_sight, oSt mind_h mind_a0 mind_a1 mind_a2 mind_a3 mind_a4 mind_a5 y16 y1 y2 y3 y17, ai E mind_a0 10 y5, ai E mind_a1 7 y6, ai E mind_a2 7 y7, ai E mind_a3 7 y8, ai E mind_a4 7 y18, ai E mind_a5 7 y12] H → va_D A [oBp b_h now_h mind_h kept_h b_img rails_h sa_h, oSt now_h now_a0 now_a1 now_a2 now_a3 now_a4 now_a5 now_moving now_shut now_people now_needed now_day, ai E now_a0 10 now_height, ai E now_a1 7 now_kind, ai E now_a2 7 now_figure, ai E now_a3 7 now_rail, ai E now_a4 7 now_mood, ai E now_a5 7 now_sight, oSt mind_h mind_a0 mind_a1 mind_a2 mind_a3 mind_a4 mind_a5 y16 y1 y2 y3 y17, ai E mind_a0 10 y5, ai E mind_a1 7 y6, ai E mind_a2 7 y7, ai E mind_a3 7 y8, ai E mind_a4 7 y18, ai E mind_a5 7 y12] → va_S A s.heap H locs → lv_has ls 3 [(2, .int x14), (1, .int x15), (0, .ref b_h)] → L_X9_when_22 N y1 y2 y3 y5 y6 y7 y8 y12 n x14 x15 y16 y17 y18 = some (res, w_mind_moving, w_mind_shut, w_mind_people, w_mind_needed, w_mind_day, w_mind_height, w_mind_kind, w_mind_figure, w_mind_rail, w_mind_mood, w_mind_sight) → W p l e ({ frames := 5, cells := 0, slots := 0, locals := 109 }) s m [.ref b_h].toArray below meth c H locs 0 0 (MQ below (fun _ st oc t => oc = .returned (some (.int res)) ∧ va_P E.1 vwCl [oBp b_h now_h mind_h kept_h b_img rails_h sa_h, oSt now_h now_a0 now_a1 now_a2 now_a3 now_a4 now_a5 now_moving now_shut now_people now_needed now_day, ai E now_a0 10 now_height, ai E now_a1 7 now_kind, ai E now_a2 7 now_figure, ai E now_a3 7 now_rail, ai E now_a4 7 now_mood, ai E now_a5 7 now_sight, oSt mind_h mind_a0 mind_a1 mind_a2 mind_a3 mind_a4 mind_a5 w_mind_moving w_mind_shut w_mind_people w_mind_needed w_mind_day, ai E mind_a0 10 w_mind_height, ai E mind_a1 7 w_mind_kind, ai E mind_a2 7 w_mind_figure, ai E mind_a3 7 w_mind_rail, ai E mind_a4 7 w_mind_mood, ai E mind_a5 7 w_mind_sight] t.heap ∧ va_F A st t) [.ref b_h].toArray s 0 0 A) (F0 m 22 ls []) := by
    intro n
    induction n with
    | zero => intro x14 x15 y16 y17 y18 H locs ls hP hD hS hl hv; cases hv
    | succ n22 ih22 =>
      intro x14 x15 y16 y17 y18 H locs ls hP hD hS hl hv
      rw [L_X9_when_22] at hv
      refine lv_iload_n hx hb dX9_when_22 rfl (lv_at hl 0 rfl) ?_
      refine lv_bipush (v := (60 : Int32)) hx hb dX9_when_23 (by decide) ?_
      refine lv_icmp_gt (tgt := 58) hx hb dX9_when_25 (by decide) (fun c19 => ?_) (fun c19 => ?_)
      · have hv := if_y c19 hv
        refine lv_bipush (v := (-4 : Int32)) hx hb dX9_when_58 (by decide) ?_
        refine lv_topi (fun z20 ez20 => ?_)
        have hv := nm_s ez20 hv
        cases hv
        exact W.iret hx hb hr (fun t h9 _ => ⟨rfl, by rw [h9]; exact hP, hS.F h9⟩) hS.2.2 dX9_when_60 hlk
      · have hv := if_n c19 hv
        refine lv_iload_n hx hb dX9_when_28 rfl (lv_at hl 1 rfl) ?_
        refine lv_if_eq (tgt := 58) hx hb dX9_when_29 (by decide) (fun c21 => ?_) (fun c21 => ?_)
        · have hv := if_y c21 hv
          refine lv_bipush (v := (-4 : Int32)) hx hb dX9_when_58 (by decide) ?_
          refine lv_topi (fun z22 ez22 => ?_)
          have hv := nm_s ez22 hv
          cases hv
          exact W.iret hx hb hr (fun t h9 _ => ⟨rfl, by rw [h9]; exact hP, hS.F h9⟩) hS.2.2 dX9_when_60 hlk
        · have hv := if_n c21 hv
          refine lv_aload_n hx hb dX9_when_32 rfl (lv_at hl 2 rfl) ?_
          refine va_get (D := E.1) (ci := 3) (v := .ref mind_h) (C := RX9) (T := TX9) (N := 6) hx hb ht i_X9 hown hK hP 0 rfl rfl 1 (by decide) (ht _ kw_1_139) (fun _ h9 => h9) rfl dX9_when_33 ?_
          obtain ⟨r23, h24, hv⟩ := ob_s hv
          refine rdV 2 0 (As := []) (rest := []) (st1 := [.int r23]) (w := [oSt mind_h mind_a0 mind_a1 mind_a2 mind_a3 mind_a4 mind_a5 y16 y1 y2 y3 y17, ai E mind_a0 10 y5, ai E mind_a1 7 y6, ai E mind_a2 7 y7, ai E mind_a3 7 y8, ai E mind_a4 7 y18, ai E mind_a5 7 y12]) hC q_X8_isCarried kw_2_110 (c_X8_isCarried l E mind_h mind_a0 mind_a1 mind_a2 mind_a3 mind_a4 mind_a5 y5 y6 y7 y8 y18 y12 y16 y1 y2 y3 y17 N r23 h24) ⟨rfl, rfl⟩ ⟨Nat.le_of_ble_eq_true rfl, Nat.le_of_ble_eq_true rfl⟩ ⟨Nat.zero_le _, Nat.zero_le _⟩ (hP.sub (ws' := [oSt mind_h mind_a0 mind_a1 mind_a2 mind_a3 mind_a4 mind_a5 y16 y1 y2 y3 y17, ai E mind_a0 10 y5, ai E mind_a1 7 y6, ai E mind_a2 7 y7, ai E mind_a3 7 y8, ai E mind_a4 7 y18, ai E mind_a5 7 y12]) [8, 9, 10, 11, 12, 13, 14] rfl) rfl rfl rfl hG rfl hl.1 rfl (Nat.le_of_ble_eq_true rfl) dX9_when_36 rfl ?_
          refine lv_if_eq (tgt := 44) hx hb dX9_when_39 (by decide) (fun c25 => ?_) (fun c25 => ?_)
          · have hv := if_y c25 hv
            refine lv_aload_n hx hb dX9_when_44 rfl (lv_at hl 2 rfl) ?_
            refine va_get (D := E.1) (ci := 3) (v := .ref mind_h) (C := RX9) (T := TX9) (N := 6) hx hb ht i_X9 hown hK hP 0 rfl rfl 1 (by decide) (ht _ kw_1_139) (fun _ h9 => h9) rfl dX9_when_45 ?_
            obtain ⟨⟨r26, y27, y28, y29⟩, h30, hv⟩ := ob_s hv
            refine wrV (as := [b_h, now_h, now_a0, now_a1, now_a2, now_a3, now_a4, now_a5, mind_h, mind_a0, mind_a1, mind_a2, mind_a3, mind_a4, mind_a5]) (wr := [oBp b_h now_h mind_h kept_h b_img rails_h sa_h, oSt now_h now_a0 now_a1 now_a2 now_a3 now_a4 now_a5 now_moving now_shut now_people now_needed now_day, ai E now_a0 10 now_height, ai E now_a1 7 now_kind, ai E now_a2 7 now_figure, ai E now_a3 7 now_rail, ai E now_a4 7 now_mood, ai E now_a5 7 now_sight]) [8, 9, 10, 11, 12, 13, 14] [0, 1, 2, 3, 4, 5, 6, 7] 2 0 (ws := [oBp b_h now_h mind_h kept_h b_img rails_h sa_h, oSt now_h now_a0 now_a1 now_a2 now_a3 now_a4 now_a5 now_moving now_shut now_people now_needed now_day, ai E now_a0 10 now_height, ai E now_a1 7 now_kind, ai E now_a2 7 now_figure, ai E now_a3 7 now_rail, ai E now_a4 7 now_mood, ai E now_a5 7 now_sight, oSt mind_h mind_a0 mind_a1 mind_a2 mind_a3 mind_a4 mind_a5 y16 y1 y2 y3 y17, ai E mind_a0 10 y5, ai E mind_a1 7 y6, ai E mind_a2 7 y7, ai E mind_a3 7 y8, ai E mind_a4 7 y18, ai E mind_a5 7 y12]) (ws' := [oBp b_h now_h mind_h kept_h b_img rails_h sa_h, oSt now_h now_a0 now_a1 now_a2 now_a3 now_a4 now_a5 now_moving now_shut now_people now_needed now_day, ai E now_a0 10 now_height, ai E now_a1 7 now_kind, ai E now_a2 7 now_figure, ai E now_a3 7 now_rail, ai E now_a4 7 now_mood, ai E now_a5 7 now_sight, oSt mind_h mind_a0 mind_a1 mind_a2 mind_a3 mind_a4 mind_a5 y27 y1 y2 y3 y28, ai E mind_a0 10 y5, ai E mind_a1 7 y6, ai E mind_a2 7 y7, ai E mind_a3 7 y8, ai E mind_a4 7 y29, ai E mind_a5 7 y12]) (As := []) (rest := []) (st1 := [.int r26]) hC q_X8_nextDay kw_2_169 (c_X8_nextDay l E mind_h mind_a0 mind_a1 mind_a2 mind_a3 mind_a4 mind_a5 y5 y6 y7 y8 y18 y12 y16 y1 y2 y3 y17 N r26 y27 y28 y29 h30) ⟨rfl, rfl⟩ ⟨Nat.le_of_ble_eq_true rfl, Nat.le_of_ble_eq_true rfl⟩ ⟨Nat.zero_le _, Nat.zero_le _⟩ hP hD hS hA rfl rfl rfl hG (by decide) rfl rfl rfl rfl rfl rfl rfl rfl hl.1 rfl (Nat.le_of_ble_eq_true rfl) dX9_when_48 rfl (fun H locs hP hD hS => ?_)
            refine lv_istore_n (lv' := [(1, .int r26), (2, .int x14), (0, .ref b_h)]) hx hb dX9_when_51 rfl hl (by decide) rfl (fun ls hl => ?_)
            refine lv_iinc (v := (x14 + (1 : Int32))) (lv' := [(2, .int (x14 + (1 : Int32))), (1, .int r26), (0, .ref b_h)]) hx hb dX9_when_52 hl (k := 1) rfl rfl (by decide) rfl (fun ls hl => ?_)
            refine lv_goto (tgt := 22) hx hb dX9_when_55 (by decide) ?_
            exact ih22 (x14 + (1 : Int32)) r26 y27 y28 y29 _ _ _ hP hD hS (lv_sub hl [0, 1, 2] rfl) hv
          · have hv := if_n c25 hv
            refine lv_iload_n hx hb dX9_when_42 rfl (lv_at hl 0 rfl) ?_
            cases hv
            exact W.iret hx hb hr (fun t h9 _ => ⟨rfl, by rw [h9]; exact hP, hS.F h9⟩) hS.2.2 dX9_when_43 hlk
  exact hL22 N (0 : Int32) (1 : Int32) y11 y4 y9 _ _ _ hP hD hS (lv_sub hl [0, 1, 2] rfl) hv
theorem dX9_holds_0 : decode cX9_holds 0 = .ok (.iload_n 1, 1) := by decide +kernel
theorem dX9_holds_1 : decode cX9_holds 1 = .ok (.invokestatic 154, 3) := by decide +kernel
theorem dX9_holds_4 : decode cX9_holds 4 = .ok (.ifCond .ne 5, 3) := by decide +kernel
theorem dX9_holds_7 : decode cX9_holds 7 = .ok (.iconst (-1), 1) := by decide +kernel
theorem dX9_holds_8 : decode cX9_holds 8 = .ok (.ireturn, 1) := by decide +kernel
theorem dX9_holds_9 : decode cX9_holds 9 = .ok (.aload_n 0, 1) := by decide +kernel
theorem dX9_holds_10 : decode cX9_holds 10 = .ok (.getfield 16, 3) := by decide +kernel
theorem dX9_holds_13 : decode cX9_holds 13 = .ok (.aload_n 0, 1) := by decide +kernel
theorem dX9_holds_14 : decode cX9_holds 14 = .ok (.getfield 12, 3) := by decide +kernel
theorem dX9_holds_17 : decode cX9_holds 17 = .ok (.invokevirtual 48, 3) := by decide +kernel
theorem dX9_holds_20 : decode cX9_holds 20 = .ok (.aload_n 0, 1) := by decide +kernel
theorem dX9_holds_21 : decode cX9_holds 21 = .ok (.getfield 16, 3) := by decide +kernel
theorem dX9_holds_24 : decode cX9_holds 24 = .ok (.iload_n 1, 1) := by decide +kernel
theorem dX9_holds_25 : decode cX9_holds 25 = .ok (.invokevirtual 163, 3) := by decide +kernel
theorem dX9_holds_28 : decode cX9_holds 28 = .ok (.ireturn, 1) := by decide +kernel
def f_X9_holds (N : Nat) (now_height : Nat → Int32) (now_kind : Nat → Int32) (now_figure : Nat → Int32) (now_rail : Nat → Int32) (now_mood : Nat → Int32) (now_shut : Int32) (now_people : Int32) (now_needed : Int32) (now_day : Int32) (mind_height : Nat → Int32) (mind_kind : Nat → Int32) (mind_figure : Nat → Int32) (mind_rail : Nat → Int32) (mind_mood : Nat → Int32) (mind_sight : Nat → Int32) (mind_moving : Int32) (mind_shut : Int32) (mind_people : Int32) (mind_needed : Int32) (mind_day : Int32) (p1 : Int32) : Option (Int32 × Int32 × Int32 × Int32 × Int32 × Int32 × (Nat → Int32) × (Nat → Int32) × (Nat → Int32) × (Nat → Int32) × (Nat → Int32) × (Nat → Int32)) := ob (f_X9_isSpan p1) (fun r1 => if r1 = 0 then nm (-1 : Int32) (fun z20 => some (z20, mind_moving, mind_shut, mind_people, mind_needed, mind_day, mind_height, mind_kind, mind_figure, mind_rail, mind_mood, mind_sight)) else ob (f_X8_become now_height now_kind now_figure now_rail now_mood now_shut now_people now_needed now_day) (fun (y4, y5, y6, y7, y8, y9, y10, y11, y12) => ob (f_X8_carriedDays N y8 y9 y10 y11 y12 mind_sight y4 y5 y6 y7 p1) (fun (r14, y15, y16, y17, y18) => some (r14, y15, y4, y5, y6, y16, y8, y9, y10, y11, y17, y18))))
set_option maxHeartbeats 4000000 in
set_option maxRecDepth 100000 in
theorem c_X9_holds (l : Launch) (E : EE) (b_h : Nat) (now_h : Nat) (mind_h : Nat) (kept_h : Nat) (rails_h : Nat) (sa_h : Nat) (now_a0 : Nat) (now_a1 : Nat) (now_a2 : Nat) (now_a3 : Nat) (now_a4 : Nat) (now_a5 : Nat) (mind_a0 : Nat) (mind_a1 : Nat) (mind_a2 : Nat) (mind_a3 : Nat) (mind_a4 : Nat) (mind_a5 : Nat) (b_img : Int32) (now_height : Nat → Int32) (now_kind : Nat → Int32) (now_figure : Nat → Int32) (now_rail : Nat → Int32) (now_mood : Nat → Int32) (now_sight : Nat → Int32) (now_moving : Int32) (now_shut : Int32) (now_people : Int32) (now_needed : Int32) (now_day : Int32) (mind_height : Nat → Int32) (mind_kind : Nat → Int32) (mind_figure : Nat → Int32) (mind_rail : Nat → Int32) (mind_mood : Nat → Int32) (mind_sight : Nat → Int32) (mind_moving : Int32) (mind_shut : Int32) (mind_people : Int32) (mind_needed : Int32) (mind_day : Int32) (p1 : Int32) (N : Nat) (res : Int32) (w_mind_moving : Int32) (w_mind_shut : Int32) (w_mind_people : Int32) (w_mind_needed : Int32) (w_mind_day : Int32) (w_mind_height : Nat → Int32) (w_mind_kind : Nat → Int32) (w_mind_figure : Nat → Int32) (w_mind_rail : Nat → Int32) (w_mind_mood : Nat → Int32) (w_mind_sight : Nat → Int32) (hv : f_X9_holds N now_height now_kind now_figure now_rail now_mood now_shut now_people now_needed now_day mind_height mind_kind mind_figure mind_rail mind_mood mind_sight mind_moving mind_shut mind_people mind_needed mind_day p1 = some (res, w_mind_moving, w_mind_shut, w_mind_people, w_mind_needed, w_mind_day, w_mind_height, w_mind_kind, w_mind_figure, w_mind_rail, w_mind_mood, w_mind_sight)) : Wr l E yX9_holds cX9_holds 2 (some .int) ({ frames := 6, cells := 0, slots := 0, locals := 133 }) [.ref b_h, .int p1] [oBp b_h now_h mind_h kept_h b_img rails_h sa_h, oSt now_h now_a0 now_a1 now_a2 now_a3 now_a4 now_a5 now_moving now_shut now_people now_needed now_day, ai E now_a0 10 now_height, ai E now_a1 7 now_kind, ai E now_a2 7 now_figure, ai E now_a3 7 now_rail, ai E now_a4 7 now_mood, ai E now_a5 7 now_sight, oSt mind_h mind_a0 mind_a1 mind_a2 mind_a3 mind_a4 mind_a5 mind_moving mind_shut mind_people mind_needed mind_day, ai E mind_a0 10 mind_height, ai E mind_a1 7 mind_kind, ai E mind_a2 7 mind_figure, ai E mind_a3 7 mind_rail, ai E mind_a4 7 mind_mood, ai E mind_a5 7 mind_sight] [oBp b_h now_h mind_h kept_h b_img rails_h sa_h, oSt now_h now_a0 now_a1 now_a2 now_a3 now_a4 now_a5 now_moving now_shut now_people now_needed now_day, ai E now_a0 10 now_height, ai E now_a1 7 now_kind, ai E now_a2 7 now_figure, ai E now_a3 7 now_rail, ai E now_a4 7 now_mood, ai E now_a5 7 now_sight, oSt mind_h mind_a0 mind_a1 mind_a2 mind_a3 mind_a4 mind_a5 w_mind_moving w_mind_shut w_mind_people w_mind_needed w_mind_day, ai E mind_a0 10 w_mind_height, ai E mind_a1 7 w_mind_kind, ai E mind_a2 7 w_mind_figure, ai E mind_a3 7 w_mind_rail, ai E mind_a4 7 w_mind_mood, ai E mind_a5 7 w_mind_sight] (some (.int res)) := by
  refine Wr.intro RX9 (by decide) rfl (Nat.le_of_ble_eq_true rfl) ?_
  intro p e s m below meth c ls A hC hr hlk hmn hP hD hS hA hG hl
  obtain ⟨hx, hb, hml, hown, ht⟩ := id hC
  have hK := hG.1
  have hl : lv_has ls 2 [(0, .ref b_h), (1, .int p1)] := hl
  rw [f_X9_holds] at hv
  refine lv_iload_n hx hb dX9_holds_0 rfl (lv_at hl 1 rfl) ?_
  obtain ⟨r1, h2, hv⟩ := ob_s hv
  refine rdS (rest := []) (st1 := [.int r1]) (w := []) hC q_X9_isSpan kw_2_157 (c_X9_isSpan l E p1 r1 h2) ⟨rfl, rfl⟩ ⟨Nat.le_of_ble_eq_true rfl, Nat.le_of_ble_eq_true rfl⟩ ⟨Nat.zero_le _, Nat.zero_le _⟩ (hP.sub (ws' := []) [] rfl) hG rfl hl.1 rfl (Nat.le_of_ble_eq_true rfl) dX9_holds_1 rfl ?_
  refine lv_if_ne (tgt := 9) hx hb dX9_holds_4 (by decide) (fun c3 => ?_) (fun c3 => ?_)
  · have hv := if_n c3 hv
    refine lv_aload_n hx hb dX9_holds_9 rfl (lv_at hl 0 rfl) ?_
    refine va_get (D := E.1) (ci := 3) (v := .ref mind_h) (C := RX9) (T := TX9) (N := 6) hx hb ht i_X9 hown hK hP 0 rfl rfl 1 (by decide) (ht _ kw_1_139) (fun _ h9 => h9) rfl dX9_holds_10 ?_
    refine lv_aload_n hx hb dX9_holds_13 rfl (lv_at hl 0 rfl) ?_
    refine va_get (D := E.1) (ci := 3) (v := .ref now_h) (C := RX9) (T := TX9) (N := 6) hx hb ht i_X9 hown hK hP 0 rfl rfl 0 (by decide) (ht _ kw_1_138) (fun _ h9 => h9) rfl dX9_holds_14 ?_
    obtain ⟨⟨y4, y5, y6, y7, y8, y9, y10, y11, y12⟩, h13, hv⟩ := ob_s hv
    refine wrV (as := [b_h, now_h, now_a0, now_a1, now_a2, now_a3, now_a4, now_a5, mind_h, mind_a0, mind_a1, mind_a2, mind_a3, mind_a4, mind_a5]) (wr := [oBp b_h now_h mind_h kept_h b_img rails_h sa_h]) [8, 9, 10, 11, 12, 13, 14, 1, 2, 3, 4, 5, 6, 7] [0] 2 0 (ws := [oBp b_h now_h mind_h kept_h b_img rails_h sa_h, oSt now_h now_a0 now_a1 now_a2 now_a3 now_a4 now_a5 now_moving now_shut now_people now_needed now_day, ai E now_a0 10 now_height, ai E now_a1 7 now_kind, ai E now_a2 7 now_figure, ai E now_a3 7 now_rail, ai E now_a4 7 now_mood, ai E now_a5 7 now_sight, oSt mind_h mind_a0 mind_a1 mind_a2 mind_a3 mind_a4 mind_a5 mind_moving mind_shut mind_people mind_needed mind_day, ai E mind_a0 10 mind_height, ai E mind_a1 7 mind_kind, ai E mind_a2 7 mind_figure, ai E mind_a3 7 mind_rail, ai E mind_a4 7 mind_mood, ai E mind_a5 7 mind_sight]) (ws' := [oBp b_h now_h mind_h kept_h b_img rails_h sa_h, oSt now_h now_a0 now_a1 now_a2 now_a3 now_a4 now_a5 now_moving now_shut now_people now_needed now_day, ai E now_a0 10 now_height, ai E now_a1 7 now_kind, ai E now_a2 7 now_figure, ai E now_a3 7 now_rail, ai E now_a4 7 now_mood, ai E now_a5 7 now_sight, oSt mind_h mind_a0 mind_a1 mind_a2 mind_a3 mind_a4 mind_a5 mind_moving y4 y5 y6 y7, ai E mind_a0 10 y8, ai E mind_a1 7 y9, ai E mind_a2 7 y10, ai E mind_a3 7 y11, ai E mind_a4 7 y12, ai E mind_a5 7 mind_sight]) (As := [.ref now_h]) (rest := []) (st1 := []) hC q_X8_become kw_1_171 (c_X8_become l E mind_h mind_a0 mind_a1 mind_a2 mind_a3 mind_a4 mind_a5 now_h now_a0 now_a1 now_a2 now_a3 now_a4 now_a5 mind_height mind_kind mind_figure mind_rail mind_mood mind_sight mind_moving mind_shut mind_people mind_needed mind_day now_height now_kind now_figure now_rail now_mood now_sight now_moving now_shut now_people now_needed now_day y4 y5 y6 y7 y8 y9 y10 y11 y12 h13) ⟨rfl, rfl⟩ ⟨Nat.le_of_ble_eq_true rfl, Nat.le_of_ble_eq_true rfl⟩ ⟨Nat.zero_le _, Nat.zero_le _⟩ hP hD hS hA rfl rfl rfl hG (by decide) rfl rfl rfl rfl rfl rfl rfl rfl hl.1 rfl (Nat.le_of_ble_eq_true rfl) dX9_holds_17 rfl (fun H locs hP hD hS => ?_)
    refine lv_aload_n hx hb dX9_holds_20 rfl (lv_at hl 0 rfl) ?_
    refine va_get (D := E.1) (ci := 3) (v := .ref mind_h) (C := RX9) (T := TX9) (N := 6) hx hb ht i_X9 hown hK hP 0 rfl rfl 1 (by decide) (ht _ kw_1_139) (fun _ h9 => h9) rfl dX9_holds_21 ?_
    refine lv_iload_n hx hb dX9_holds_24 rfl (lv_at hl 1 rfl) ?_
    obtain ⟨⟨r14, y15, y16, y17, y18⟩, h19, hv⟩ := ob_s hv
    refine wrV (as := [b_h, now_h, now_a0, now_a1, now_a2, now_a3, now_a4, now_a5, mind_h, mind_a0, mind_a1, mind_a2, mind_a3, mind_a4, mind_a5]) (wr := [oBp b_h now_h mind_h kept_h b_img rails_h sa_h, oSt now_h now_a0 now_a1 now_a2 now_a3 now_a4 now_a5 now_moving now_shut now_people now_needed now_day, ai E now_a0 10 now_height, ai E now_a1 7 now_kind, ai E now_a2 7 now_figure, ai E now_a3 7 now_rail, ai E now_a4 7 now_mood, ai E now_a5 7 now_sight]) [8, 9, 10, 11, 12, 13, 14] [0, 1, 2, 3, 4, 5, 6, 7] 2 0 (ws := [oBp b_h now_h mind_h kept_h b_img rails_h sa_h, oSt now_h now_a0 now_a1 now_a2 now_a3 now_a4 now_a5 now_moving now_shut now_people now_needed now_day, ai E now_a0 10 now_height, ai E now_a1 7 now_kind, ai E now_a2 7 now_figure, ai E now_a3 7 now_rail, ai E now_a4 7 now_mood, ai E now_a5 7 now_sight, oSt mind_h mind_a0 mind_a1 mind_a2 mind_a3 mind_a4 mind_a5 mind_moving y4 y5 y6 y7, ai E mind_a0 10 y8, ai E mind_a1 7 y9, ai E mind_a2 7 y10, ai E mind_a3 7 y11, ai E mind_a4 7 y12, ai E mind_a5 7 mind_sight]) (ws' := [oBp b_h now_h mind_h kept_h b_img rails_h sa_h, oSt now_h now_a0 now_a1 now_a2 now_a3 now_a4 now_a5 now_moving now_shut now_people now_needed now_day, ai E now_a0 10 now_height, ai E now_a1 7 now_kind, ai E now_a2 7 now_figure, ai E now_a3 7 now_rail, ai E now_a4 7 now_mood, ai E now_a5 7 now_sight, oSt mind_h mind_a0 mind_a1 mind_a2 mind_a3 mind_a4 mind_a5 y15 y4 y5 y6 y16, ai E mind_a0 10 y8, ai E mind_a1 7 y9, ai E mind_a2 7 y10, ai E mind_a3 7 y11, ai E mind_a4 7 y17, ai E mind_a5 7 y18]) (As := [.int p1]) (rest := []) (st1 := [.int r14]) hC q_X8_carriedDays kw_2_174 (c_X8_carriedDays l E mind_h mind_a0 mind_a1 mind_a2 mind_a3 mind_a4 mind_a5 y8 y9 y10 y11 y12 mind_sight mind_moving y4 y5 y6 y7 p1 N r14 y15 y16 y17 y18 h19) ⟨rfl, rfl⟩ ⟨Nat.le_of_ble_eq_true rfl, Nat.le_of_ble_eq_true rfl⟩ ⟨Nat.zero_le _, Nat.zero_le _⟩ hP hD hS hA rfl rfl rfl hG (by decide) rfl rfl rfl rfl rfl rfl rfl rfl hl.1 rfl (Nat.le_of_ble_eq_true rfl) dX9_holds_25 rfl (fun H locs hP hD hS => ?_)
    cases hv
    exact W.iret hx hb hr (fun t h9 _ => ⟨rfl, by rw [h9]; exact hP, hS.F h9⟩) hS.2.2 dX9_holds_28 hlk
  · have hv := if_y c3 hv
    refine lv_iconst (v := (-1 : Int32)) hx hb dX9_holds_7 (by decide) ?_
    refine lv_topi (fun z20 ez20 => ?_)
    have hv := nm_s ez20 hv
    cases hv
    exact W.iret hx hb hr (fun t h9 _ => ⟨rfl, by rw [h9]; exact hP, hS.F h9⟩) hS.2.2 dX9_holds_8 hlk
theorem dX9_fewestOfMood_0 : decode cX9_fewestOfMood 0 = .ok (.aload_n 0, 1) := by decide +kernel
theorem dX9_fewestOfMood_1 : decode cX9_fewestOfMood 1 = .ok (.getfield 12, 3) := by decide +kernel
theorem dX9_fewestOfMood_4 : decode cX9_fewestOfMood 4 = .ok (.invokevirtual 139, 3) := by decide +kernel
theorem dX9_fewestOfMood_7 : decode cX9_fewestOfMood 7 = .ok (.istore_n 3, 1) := by decide +kernel
theorem dX9_fewestOfMood_8 : decode cX9_fewestOfMood 8 = .ok (.bipush (-4), 2) := by decide +kernel
theorem dX9_fewestOfMood_10 : decode cX9_fewestOfMood 10 = .ok (.istore 4, 2) := by decide +kernel
theorem dX9_fewestOfMood_12 : decode cX9_fewestOfMood 12 = .ok (.iconst 0, 1) := by decide +kernel
theorem dX9_fewestOfMood_13 : decode cX9_fewestOfMood 13 = .ok (.istore 5, 2) := by decide +kernel
theorem dX9_fewestOfMood_15 : decode cX9_fewestOfMood 15 = .ok (.iload 5, 2) := by decide +kernel
theorem dX9_fewestOfMood_17 : decode cX9_fewestOfMood 17 = .ok (.iload_n 3, 1) := by decide +kernel
theorem dX9_fewestOfMood_18 : decode cX9_fewestOfMood 18 = .ok (.if_icmp .gt 64, 3) := by decide +kernel
theorem dX9_fewestOfMood_21 : decode cX9_fewestOfMood 21 = .ok (.iload 5, 2) := by decide +kernel
theorem dX9_fewestOfMood_23 : decode cX9_fewestOfMood 23 = .ok (.iload_n 3, 1) := by decide +kernel
theorem dX9_fewestOfMood_24 : decode cX9_fewestOfMood 24 = .ok (.iconst (-1), 1) := by decide +kernel
theorem dX9_fewestOfMood_25 : decode cX9_fewestOfMood 25 = .ok (.ixor, 1) := by decide +kernel
theorem dX9_fewestOfMood_26 : decode cX9_fewestOfMood 26 = .ok (.iand, 1) := by decide +kernel
theorem dX9_fewestOfMood_27 : decode cX9_fewestOfMood 27 = .ok (.ifCond .ne 49, 3) := by decide +kernel
theorem dX9_fewestOfMood_30 : decode cX9_fewestOfMood 30 = .ok (.iload 5, 2) := by decide +kernel
theorem dX9_fewestOfMood_32 : decode cX9_fewestOfMood 32 = .ok (.iload 4, 2) := by decide +kernel
theorem dX9_fewestOfMood_34 : decode cX9_fewestOfMood 34 = .ok (.invokestatic 337, 3) := by decide +kernel
theorem dX9_fewestOfMood_37 : decode cX9_fewestOfMood 37 = .ok (.ifCond .eq 39, 3) := by decide +kernel
theorem dX9_fewestOfMood_40 : decode cX9_fewestOfMood 40 = .ok (.aload_n 0, 1) := by decide +kernel
theorem dX9_fewestOfMood_41 : decode cX9_fewestOfMood 41 = .ok (.getfield 16, 3) := by decide +kernel
theorem dX9_fewestOfMood_44 : decode cX9_fewestOfMood 44 = .ok (.aload_n 0, 1) := by decide +kernel
theorem dX9_fewestOfMood_45 : decode cX9_fewestOfMood 45 = .ok (.getfield 12, 3) := by decide +kernel
theorem dX9_fewestOfMood_48 : decode cX9_fewestOfMood 48 = .ok (.invokevirtual 48, 3) := by decide +kernel
theorem dX9_fewestOfMood_51 : decode cX9_fewestOfMood 51 = .ok (.aload_n 0, 1) := by decide +kernel
theorem dX9_fewestOfMood_52 : decode cX9_fewestOfMood 52 = .ok (.getfield 16, 3) := by decide +kernel
theorem dX9_fewestOfMood_55 : decode cX9_fewestOfMood 55 = .ok (.iload 5, 2) := by decide +kernel
theorem dX9_fewestOfMood_57 : decode cX9_fewestOfMood 57 = .ok (.iload_n 1, 1) := by decide +kernel
theorem dX9_fewestOfMood_58 : decode cX9_fewestOfMood 58 = .ok (.invokevirtual 340, 3) := by decide +kernel
theorem dX9_fewestOfMood_61 : decode cX9_fewestOfMood 61 = .ok (.aload_n 0, 1) := by decide +kernel
theorem dX9_fewestOfMood_62 : decode cX9_fewestOfMood 62 = .ok (.getfield 16, 3) := by decide +kernel
theorem dX9_fewestOfMood_65 : decode cX9_fewestOfMood 65 = .ok (.invokevirtual 136, 3) := by decide +kernel
theorem dX9_fewestOfMood_68 : decode cX9_fewestOfMood 68 = .ok (.iload_n 2, 1) := by decide +kernel
theorem dX9_fewestOfMood_69 : decode cX9_fewestOfMood 69 = .ok (.if_icmp .ne 7, 3) := by decide +kernel
theorem dX9_fewestOfMood_72 : decode cX9_fewestOfMood 72 = .ok (.iload 5, 2) := by decide +kernel
theorem dX9_fewestOfMood_74 : decode cX9_fewestOfMood 74 = .ok (.istore 4, 2) := by decide +kernel
theorem dX9_fewestOfMood_76 : decode cX9_fewestOfMood 76 = .ok (.iinc 5 1, 3) := by decide +kernel
theorem dX9_fewestOfMood_79 : decode cX9_fewestOfMood 79 = .ok (.goto (-64), 3) := by decide +kernel
theorem dX9_fewestOfMood_82 : decode cX9_fewestOfMood 82 = .ok (.iload 4, 2) := by decide +kernel
theorem dX9_fewestOfMood_84 : decode cX9_fewestOfMood 84 = .ok (.ireturn, 1) := by decide +kernel
def L_X9_fewestOfMood_15 (N : Nat) (now_height : Nat → Int32) (now_kind : Nat → Int32) (now_figure : Nat → Int32) (now_rail : Nat → Int32) (now_mood : Nat → Int32) (now_shut : Int32) (now_people : Int32) (now_needed : Int32) (now_day : Int32) (p1 : Int32) (p2 : Int32) (r1 : Int32) : Nat → Int32 → Int32 → Int32 → Int32 → Int32 → Int32 → (Nat → Int32) → (Nat → Int32) → (Nat → Int32) → (Nat → Int32) → (Nat → Int32) → Option (Int32 × Int32 × Int32 × Int32 × Int32 × (Nat → Int32) × (Nat → Int32) × (Nat → Int32) × (Nat → Int32) × (Nat → Int32))
  | 0, _, _, _, _, _, _, _, _, _, _, _ => none
  | n15 + 1, x3, x4, y5, y6, y7, y8, y9, y10, y11, y12, y13 => if r1 < x3 then some (x4, y5, y6, y7, y8, y9, y10, y11, y12, y13) else if (x3 &&& (r1 ^^^ (-1 : Int32))) = 0 then ob (f_X2_isFewer x3 x4) (fun r16 => if r16 = 0 then L_X9_fewestOfMood_15 N now_height now_kind now_figure now_rail now_mood now_shut now_people now_needed now_day p1 p2 r1 n15 (x3 + (1 : Int32)) x4 y5 y6 y7 y8 y9 y10 y11 y12 y13 else ob (f_X8_become now_height now_kind now_figure now_rail now_mood now_shut now_people now_needed now_day) (fun (y19, y20, y21, y22, y23, y24, y25, y26, y27) => ob (f_X8_think N y27 y20 x3 p1) (fun y29 => ob (f_X8_isCarried N y23 y24 y25 y26 y29 y19 y20 y21) (fun r31 => if r31 = p2 then L_X9_fewestOfMood_15 N now_height now_kind now_figure now_rail now_mood now_shut now_people now_needed now_day p1 p2 r1 n15 (x3 + (1 : Int32)) x3 y19 y20 y21 y22 y23 y24 y25 y26 y29 else L_X9_fewestOfMood_15 N now_height now_kind now_figure now_rail now_mood now_shut now_people now_needed now_day p1 p2 r1 n15 (x3 + (1 : Int32)) x4 y19 y20 y21 y22 y23 y24 y25 y26 y29)))) else L_X9_fewestOfMood_15 N now_height now_kind now_figure now_rail now_mood now_shut now_people now_needed now_day p1 p2 r1 n15 (x3 + (1 : Int32)) x4 y5 y6 y7 y8 y9 y10 y11 y12 y13
def f_X9_fewestOfMood (N : Nat) (now_height : Nat → Int32) (now_kind : Nat → Int32) (now_figure : Nat → Int32) (now_rail : Nat → Int32) (now_mood : Nat → Int32) (now_shut : Int32) (now_people : Int32) (now_needed : Int32) (now_day : Int32) (mind_height : Nat → Int32) (mind_kind : Nat → Int32) (mind_figure : Nat → Int32) (mind_rail : Nat → Int32) (mind_mood : Nat → Int32) (mind_shut : Int32) (mind_people : Int32) (mind_needed : Int32) (mind_day : Int32) (p1 : Int32) (p2 : Int32) : Option (Int32 × Int32 × Int32 × Int32 × Int32 × (Nat → Int32) × (Nat → Int32) × (Nat → Int32) × (Nat → Int32) × (Nat → Int32)) := ob (f_X8_heardOnes N now_rail now_shut now_people) (fun r1 => L_X9_fewestOfMood_15 N now_height now_kind now_figure now_rail now_mood now_shut now_people now_needed now_day p1 p2 r1 N (0 : Int32) (-4 : Int32) mind_shut mind_people mind_needed mind_day mind_height mind_kind mind_figure mind_rail mind_mood)
set_option maxHeartbeats 4000000 in
set_option maxRecDepth 100000 in
theorem c_X9_fewestOfMood (l : Launch) (E : EE) (b_h : Nat) (now_h : Nat) (mind_h : Nat) (kept_h : Nat) (rails_h : Nat) (sa_h : Nat) (now_a0 : Nat) (now_a1 : Nat) (now_a2 : Nat) (now_a3 : Nat) (now_a4 : Nat) (now_a5 : Nat) (mind_a0 : Nat) (mind_a1 : Nat) (mind_a2 : Nat) (mind_a3 : Nat) (mind_a4 : Nat) (mind_a5 : Nat) (b_img : Int32) (now_height : Nat → Int32) (now_kind : Nat → Int32) (now_figure : Nat → Int32) (now_rail : Nat → Int32) (now_mood : Nat → Int32) (now_sight : Nat → Int32) (now_moving : Int32) (now_shut : Int32) (now_people : Int32) (now_needed : Int32) (now_day : Int32) (mind_height : Nat → Int32) (mind_kind : Nat → Int32) (mind_figure : Nat → Int32) (mind_rail : Nat → Int32) (mind_mood : Nat → Int32) (mind_sight : Nat → Int32) (mind_moving : Int32) (mind_shut : Int32) (mind_people : Int32) (mind_needed : Int32) (mind_day : Int32) (p1 : Int32) (p2 : Int32) (N : Nat) (res : Int32) (w_mind_shut : Int32) (w_mind_people : Int32) (w_mind_needed : Int32) (w_mind_day : Int32) (w_mind_height : Nat → Int32) (w_mind_kind : Nat → Int32) (w_mind_figure : Nat → Int32) (w_mind_rail : Nat → Int32) (w_mind_mood : Nat → Int32) (hv : f_X9_fewestOfMood N now_height now_kind now_figure now_rail now_mood now_shut now_people now_needed now_day mind_height mind_kind mind_figure mind_rail mind_mood mind_shut mind_people mind_needed mind_day p1 p2 = some (res, w_mind_shut, w_mind_people, w_mind_needed, w_mind_day, w_mind_height, w_mind_kind, w_mind_figure, w_mind_rail, w_mind_mood)) : Wr l E yX9_fewestOfMood cX9_fewestOfMood 6 (some .int) ({ frames := 5, cells := 0, slots := 0, locals := 109 }) [.ref b_h, .int p1, .int p2] [oBp b_h now_h mind_h kept_h b_img rails_h sa_h, oSt now_h now_a0 now_a1 now_a2 now_a3 now_a4 now_a5 now_moving now_shut now_people now_needed now_day, ai E now_a0 10 now_height, ai E now_a1 7 now_kind, ai E now_a2 7 now_figure, ai E now_a3 7 now_rail, ai E now_a4 7 now_mood, ai E now_a5 7 now_sight, oSt mind_h mind_a0 mind_a1 mind_a2 mind_a3 mind_a4 mind_a5 mind_moving mind_shut mind_people mind_needed mind_day, ai E mind_a0 10 mind_height, ai E mind_a1 7 mind_kind, ai E mind_a2 7 mind_figure, ai E mind_a3 7 mind_rail, ai E mind_a4 7 mind_mood, ai E mind_a5 7 mind_sight] [oBp b_h now_h mind_h kept_h b_img rails_h sa_h, oSt now_h now_a0 now_a1 now_a2 now_a3 now_a4 now_a5 now_moving now_shut now_people now_needed now_day, ai E now_a0 10 now_height, ai E now_a1 7 now_kind, ai E now_a2 7 now_figure, ai E now_a3 7 now_rail, ai E now_a4 7 now_mood, ai E now_a5 7 now_sight, oSt mind_h mind_a0 mind_a1 mind_a2 mind_a3 mind_a4 mind_a5 mind_moving w_mind_shut w_mind_people w_mind_needed w_mind_day, ai E mind_a0 10 w_mind_height, ai E mind_a1 7 w_mind_kind, ai E mind_a2 7 w_mind_figure, ai E mind_a3 7 w_mind_rail, ai E mind_a4 7 w_mind_mood, ai E mind_a5 7 mind_sight] (some (.int res)) := by
  refine Wr.intro RX9 (by decide) rfl (Nat.le_of_ble_eq_true rfl) ?_
  intro p e s m below meth c ls A hC hr hlk hmn hP hD hS hA hG hl
  obtain ⟨hx, hb, hml, hown, ht⟩ := id hC
  have hK := hG.1
  have hl : lv_has ls 6 [(0, .ref b_h), (1, .int p1), (2, .int p2)] := hl
  rw [f_X9_fewestOfMood] at hv
  refine lv_aload_n hx hb dX9_fewestOfMood_0 rfl (lv_at hl 0 rfl) ?_
  refine va_get (D := E.1) (ci := 3) (v := .ref now_h) (C := RX9) (T := TX9) (N := 6) hx hb ht i_X9 hown hK hP 0 rfl rfl 0 (by decide) (ht _ kw_1_138) (fun _ h9 => h9) rfl dX9_fewestOfMood_1 ?_
  obtain ⟨r1, h2, hv⟩ := ob_s hv
  refine rdV 2 0 (As := []) (rest := []) (st1 := [.int r1]) (w := [oSt now_h now_a0 now_a1 now_a2 now_a3 now_a4 now_a5 now_moving now_shut now_people now_needed now_day, ai E now_a0 10 now_height, ai E now_a1 7 now_kind, ai E now_a2 7 now_figure, ai E now_a3 7 now_rail, ai E now_a4 7 now_mood, ai E now_a5 7 now_sight]) hC q_X8_heardOnes kw_2_146 (c_X8_heardOnes l E now_h now_a0 now_a1 now_a2 now_a3 now_a4 now_a5 now_height now_kind now_figure now_rail now_mood now_sight now_moving now_shut now_people now_needed now_day N r1 h2) ⟨rfl, rfl⟩ ⟨Nat.le_of_ble_eq_true rfl, Nat.le_of_ble_eq_true rfl⟩ ⟨Nat.zero_le _, Nat.zero_le _⟩ (hP.sub (ws' := [oSt now_h now_a0 now_a1 now_a2 now_a3 now_a4 now_a5 now_moving now_shut now_people now_needed now_day, ai E now_a0 10 now_height, ai E now_a1 7 now_kind, ai E now_a2 7 now_figure, ai E now_a3 7 now_rail, ai E now_a4 7 now_mood, ai E now_a5 7 now_sight]) [1, 2, 3, 4, 5, 6, 7] rfl) rfl rfl rfl hG rfl hl.1 rfl (Nat.le_of_ble_eq_true rfl) dX9_fewestOfMood_4 rfl ?_
  refine lv_istore_n (lv' := [(3, .int r1), (0, .ref b_h), (1, .int p1), (2, .int p2)]) hx hb dX9_fewestOfMood_7 rfl hl (by decide) rfl (fun ls hl => ?_)
  refine lv_bipush (v := (-4 : Int32)) hx hb dX9_fewestOfMood_8 (by decide) ?_
  refine lv_istore (lv' := [(4, .int (-4 : Int32)), (3, .int r1), (0, .ref b_h), (1, .int p1), (2, .int p2)]) hx hb dX9_fewestOfMood_10 hl (by decide) rfl (fun ls hl => ?_)
  refine lv_iconst (v := (0 : Int32)) hx hb dX9_fewestOfMood_12 (by decide) ?_
  refine lv_istore (lv' := [(5, .int (0 : Int32)), (4, .int (-4 : Int32)), (3, .int r1), (0, .ref b_h), (1, .int p1), (2, .int p2)]) hx hb dX9_fewestOfMood_13 hl (by decide) rfl (fun ls hl => ?_)
  have hL15 : ∀ (n : Nat) (x3 : Int32) (x4 : Int32) (y5 : Int32) (y6 : Int32) (y7 : Int32) (y8 : Int32) (y9 : Nat → Int32) (y10 : Nat → Int32) (y11 : Nat → Int32) (y12 : Nat → Int32) (y13 : Nat → Int32) (H : Heap) (locs : List Loc) (ls : Array Slot), va_P E.1 vwCl [oBp b_h now_h mind_h kept_h b_img rails_h sa_h, oSt now_h now_a0 now_a1 now_a2 now_a3 now_a4 now_a5 now_moving now_shut now_people now_needed now_day, ai E now_a0 10 now_height, ai E now_a1 7 now_kind, ai E now_a2 7 now_figure, ai E now_a3 7 now_rail, ai E now_a4 7 now_mood, ai E now_a5 7 now_sight, oSt mind_h mind_a0 mind_a1 mind_a2 mind_a3 mind_a4 mind_a5 mind_moving y5 y6 y7 y8, ai E mind_a0 10 y9, ai E mind_a1 7 y10, ai E mind_a2 7 y11, ai E mind_a3 7 y12, ai E mind_a4 7 y13, ai E mind_a5 7 mind_sight] H → va_D A [oBp b_h now_h mind_h kept_h b_img rails_h sa_h, oSt now_h now_a0 now_a1 now_a2 now_a3 now_a4 now_a5 now_moving now_shut now_people now_needed now_day, ai E now_a0 10 now_height, ai E now_a1 7 now_kind, ai E now_a2 7 now_figure, ai E now_a3 7 now_rail, ai E now_a4 7 now_mood, ai E now_a5 7 now_sight, oSt mind_h mind_a0 mind_a1 mind_a2 mind_a3 mind_a4 mind_a5 mind_moving y5 y6 y7 y8, ai E mind_a0 10 y9, ai E mind_a1 7 y10, ai E mind_a2 7 y11, ai E mind_a3 7 y12, ai E mind_a4 7 y13, ai E mind_a5 7 mind_sight] → va_S A s.heap H locs → lv_has ls 6 [(5, .int x3), (4, .int x4), (3, .int r1), (0, .ref b_h), (1, .int p1), (2, .int p2)] → L_X9_fewestOfMood_15 N now_height now_kind now_figure now_rail now_mood now_shut now_people now_needed now_day p1 p2 r1 n x3 x4 y5 y6 y7 y8 y9 y10 y11 y12 y13 = some (res, w_mind_shut, w_mind_people, w_mind_needed, w_mind_day, w_mind_height, w_mind_kind, w_mind_figure, w_mind_rail, w_mind_mood) → W p l e ({ frames := 5, cells := 0, slots := 0, locals := 109 }) s m [.ref b_h, .int p1, .int p2].toArray below meth c H locs 0 0 (MQ below (fun _ st oc t => oc = .returned (some (.int res)) ∧ va_P E.1 vwCl [oBp b_h now_h mind_h kept_h b_img rails_h sa_h, oSt now_h now_a0 now_a1 now_a2 now_a3 now_a4 now_a5 now_moving now_shut now_people now_needed now_day, ai E now_a0 10 now_height, ai E now_a1 7 now_kind, ai E now_a2 7 now_figure, ai E now_a3 7 now_rail, ai E now_a4 7 now_mood, ai E now_a5 7 now_sight, oSt mind_h mind_a0 mind_a1 mind_a2 mind_a3 mind_a4 mind_a5 mind_moving w_mind_shut w_mind_people w_mind_needed w_mind_day, ai E mind_a0 10 w_mind_height, ai E mind_a1 7 w_mind_kind, ai E mind_a2 7 w_mind_figure, ai E mind_a3 7 w_mind_rail, ai E mind_a4 7 w_mind_mood, ai E mind_a5 7 mind_sight] t.heap ∧ va_F A st t) [.ref b_h, .int p1, .int p2].toArray s 0 0 A) (F0 m 15 ls []) := by
    intro n
    induction n with
    | zero => intro x3 x4 y5 y6 y7 y8 y9 y10 y11 y12 y13 H locs ls hP hD hS hl hv; cases hv
    | succ n15 ih15 =>
      intro x3 x4 y5 y6 y7 y8 y9 y10 y11 y12 y13 H locs ls hP hD hS hl hv
      rw [L_X9_fewestOfMood_15] at hv
      refine lv_iload hx hb dX9_fewestOfMood_15 (lv_at hl 0 rfl) ?_
      refine lv_iload_n hx hb dX9_fewestOfMood_17 rfl (lv_at hl 2 rfl) ?_
      refine lv_icmp_gt (tgt := 82) hx hb dX9_fewestOfMood_18 (by decide) (fun c14 => ?_) (fun c14 => ?_)
      · have hv := if_y c14 hv
        refine lv_iload hx hb dX9_fewestOfMood_82 (lv_at hl 1 rfl) ?_
        cases hv
        exact W.iret hx hb hr (fun t h9 _ => ⟨rfl, by rw [h9]; exact hP, hS.F h9⟩) hS.2.2 dX9_fewestOfMood_84 hlk
      · have hv := if_n c14 hv
        refine lv_iload hx hb dX9_fewestOfMood_21 (lv_at hl 0 rfl) ?_
        refine lv_iload_n hx hb dX9_fewestOfMood_23 rfl (lv_at hl 2 rfl) ?_
        refine lv_iconst (v := (-1 : Int32)) hx hb dX9_fewestOfMood_24 (by decide) ?_
        refine lv_ixor hx hb dX9_fewestOfMood_25 ?_
        refine lv_iand hx hb dX9_fewestOfMood_26 ?_
        refine lv_if_ne (tgt := 76) hx hb dX9_fewestOfMood_27 (by decide) (fun c15 => ?_) (fun c15 => ?_)
        · have hv := if_n c15 hv
          refine lv_iinc (v := (x3 + (1 : Int32))) (lv' := [(5, .int (x3 + (1 : Int32))), (4, .int x4), (3, .int r1), (0, .ref b_h), (1, .int p1), (2, .int p2)]) hx hb dX9_fewestOfMood_76 hl (k := 0) rfl rfl (by decide) rfl (fun ls hl => ?_)
          refine lv_goto (tgt := 15) hx hb dX9_fewestOfMood_79 (by decide) ?_
          exact ih15 (x3 + (1 : Int32)) x4 y5 y6 y7 y8 y9 y10 y11 y12 y13 _ _ _ hP hD hS (lv_sub hl [0, 1, 2, 3, 4, 5] rfl) hv
        · have hv := if_y c15 hv
          refine lv_iload hx hb dX9_fewestOfMood_30 (lv_at hl 0 rfl) ?_
          refine lv_iload hx hb dX9_fewestOfMood_32 (lv_at hl 1 rfl) ?_
          obtain ⟨r16, h17, hv⟩ := ob_s hv
          refine rdS (rest := []) (st1 := [.int r16]) (w := []) hC q_X2_isFewer kw_3_20 (c_X2_isFewer l E x3 x4 r16 h17) ⟨rfl, rfl⟩ ⟨Nat.le_of_ble_eq_true rfl, Nat.le_of_ble_eq_true rfl⟩ ⟨Nat.zero_le _, Nat.zero_le _⟩ (hP.sub (ws' := []) [] rfl) hG rfl hl.1 rfl (Nat.le_of_ble_eq_true rfl) dX9_fewestOfMood_34 rfl ?_
          refine lv_if_eq (tgt := 76) hx hb dX9_fewestOfMood_37 (by decide) (fun c18 => ?_) (fun c18 => ?_)
          · have hv := if_y c18 hv
            refine lv_iinc (v := (x3 + (1 : Int32))) (lv' := [(5, .int (x3 + (1 : Int32))), (4, .int x4), (3, .int r1), (0, .ref b_h), (1, .int p1), (2, .int p2)]) hx hb dX9_fewestOfMood_76 hl (k := 0) rfl rfl (by decide) rfl (fun ls hl => ?_)
            refine lv_goto (tgt := 15) hx hb dX9_fewestOfMood_79 (by decide) ?_
            exact ih15 (x3 + (1 : Int32)) x4 y5 y6 y7 y8 y9 y10 y11 y12 y13 _ _ _ hP hD hS (lv_sub hl [0, 1, 2, 3, 4, 5] rfl) hv
          · have hv := if_n c18 hv
            refine lv_aload_n hx hb dX9_fewestOfMood_40 rfl (lv_at hl 3 rfl) ?_
            refine va_get (D := E.1) (ci := 3) (v := .ref mind_h) (C := RX9) (T := TX9) (N := 6) hx hb ht i_X9 hown hK hP 0 rfl rfl 1 (by decide) (ht _ kw_1_139) (fun _ h9 => h9) rfl dX9_fewestOfMood_41 ?_
            refine lv_aload_n hx hb dX9_fewestOfMood_44 rfl (lv_at hl 3 rfl) ?_
            refine va_get (D := E.1) (ci := 3) (v := .ref now_h) (C := RX9) (T := TX9) (N := 6) hx hb ht i_X9 hown hK hP 0 rfl rfl 0 (by decide) (ht _ kw_1_138) (fun _ h9 => h9) rfl dX9_fewestOfMood_45 ?_
            obtain ⟨⟨y19, y20, y21, y22, y23, y24, y25, y26, y27⟩, h28, hv⟩ := ob_s hv
            refine wrV (as := [b_h, now_h, now_a0, now_a1, now_a2, now_a3, now_a4, now_a5, mind_h, mind_a0, mind_a1, mind_a2, mind_a3, mind_a4, mind_a5]) (wr := [oBp b_h now_h mind_h kept_h b_img rails_h sa_h]) [8, 9, 10, 11, 12, 13, 14, 1, 2, 3, 4, 5, 6, 7] [0] 2 0 (ws := [oBp b_h now_h mind_h kept_h b_img rails_h sa_h, oSt now_h now_a0 now_a1 now_a2 now_a3 now_a4 now_a5 now_moving now_shut now_people now_needed now_day, ai E now_a0 10 now_height, ai E now_a1 7 now_kind, ai E now_a2 7 now_figure, ai E now_a3 7 now_rail, ai E now_a4 7 now_mood, ai E now_a5 7 now_sight, oSt mind_h mind_a0 mind_a1 mind_a2 mind_a3 mind_a4 mind_a5 mind_moving y5 y6 y7 y8, ai E mind_a0 10 y9, ai E mind_a1 7 y10, ai E mind_a2 7 y11, ai E mind_a3 7 y12, ai E mind_a4 7 y13, ai E mind_a5 7 mind_sight]) (ws' := [oBp b_h now_h mind_h kept_h b_img rails_h sa_h, oSt now_h now_a0 now_a1 now_a2 now_a3 now_a4 now_a5 now_moving now_shut now_people now_needed now_day, ai E now_a0 10 now_height, ai E now_a1 7 now_kind, ai E now_a2 7 now_figure, ai E now_a3 7 now_rail, ai E now_a4 7 now_mood, ai E now_a5 7 now_sight, oSt mind_h mind_a0 mind_a1 mind_a2 mind_a3 mind_a4 mind_a5 mind_moving y19 y20 y21 y22, ai E mind_a0 10 y23, ai E mind_a1 7 y24, ai E mind_a2 7 y25, ai E mind_a3 7 y26, ai E mind_a4 7 y27, ai E mind_a5 7 mind_sight]) (As := [.ref now_h]) (rest := []) (st1 := []) hC q_X8_become kw_1_171 (c_X8_become l E mind_h mind_a0 mind_a1 mind_a2 mind_a3 mind_a4 mind_a5 now_h now_a0 now_a1 now_a2 now_a3 now_a4 now_a5 y9 y10 y11 y12 y13 mind_sight mind_moving y5 y6 y7 y8 now_height now_kind now_figure now_rail now_mood now_sight now_moving now_shut now_people now_needed now_day y19 y20 y21 y22 y23 y24 y25 y26 y27 h28) ⟨rfl, rfl⟩ ⟨Nat.le_of_ble_eq_true rfl, Nat.le_of_ble_eq_true rfl⟩ ⟨Nat.zero_le _, Nat.zero_le _⟩ hP hD hS hA rfl rfl rfl hG (by decide) rfl rfl rfl rfl rfl rfl rfl rfl hl.1 rfl (Nat.le_of_ble_eq_true rfl) dX9_fewestOfMood_48 rfl (fun H locs hP hD hS => ?_)
            refine lv_aload_n hx hb dX9_fewestOfMood_51 rfl (lv_at hl 3 rfl) ?_
            refine va_get (D := E.1) (ci := 3) (v := .ref mind_h) (C := RX9) (T := TX9) (N := 6) hx hb ht i_X9 hown hK hP 0 rfl rfl 1 (by decide) (ht _ kw_1_139) (fun _ h9 => h9) rfl dX9_fewestOfMood_52 ?_
            refine lv_iload hx hb dX9_fewestOfMood_55 (lv_at hl 0 rfl) ?_
            refine lv_iload_n hx hb dX9_fewestOfMood_57 rfl (lv_at hl 4 rfl) ?_
            obtain ⟨y29, h30, hv⟩ := ob_s hv
            refine wrV (as := [b_h, now_h, now_a0, now_a1, now_a2, now_a3, now_a4, now_a5, mind_h, mind_a0, mind_a1, mind_a2, mind_a3, mind_a4, mind_a5]) (wr := [oBp b_h now_h mind_h kept_h b_img rails_h sa_h, oSt now_h now_a0 now_a1 now_a2 now_a3 now_a4 now_a5 now_moving now_shut now_people now_needed now_day, ai E now_a0 10 now_height, ai E now_a1 7 now_kind, ai E now_a2 7 now_figure, ai E now_a3 7 now_rail, ai E now_a4 7 now_mood, ai E now_a5 7 now_sight]) [8, 9, 10, 11, 12, 13, 14] [0, 1, 2, 3, 4, 5, 6, 7] 2 0 (ws := [oBp b_h now_h mind_h kept_h b_img rails_h sa_h, oSt now_h now_a0 now_a1 now_a2 now_a3 now_a4 now_a5 now_moving now_shut now_people now_needed now_day, ai E now_a0 10 now_height, ai E now_a1 7 now_kind, ai E now_a2 7 now_figure, ai E now_a3 7 now_rail, ai E now_a4 7 now_mood, ai E now_a5 7 now_sight, oSt mind_h mind_a0 mind_a1 mind_a2 mind_a3 mind_a4 mind_a5 mind_moving y19 y20 y21 y22, ai E mind_a0 10 y23, ai E mind_a1 7 y24, ai E mind_a2 7 y25, ai E mind_a3 7 y26, ai E mind_a4 7 y27, ai E mind_a5 7 mind_sight]) (ws' := [oBp b_h now_h mind_h kept_h b_img rails_h sa_h, oSt now_h now_a0 now_a1 now_a2 now_a3 now_a4 now_a5 now_moving now_shut now_people now_needed now_day, ai E now_a0 10 now_height, ai E now_a1 7 now_kind, ai E now_a2 7 now_figure, ai E now_a3 7 now_rail, ai E now_a4 7 now_mood, ai E now_a5 7 now_sight, oSt mind_h mind_a0 mind_a1 mind_a2 mind_a3 mind_a4 mind_a5 mind_moving y19 y20 y21 y22, ai E mind_a0 10 y23, ai E mind_a1 7 y24, ai E mind_a2 7 y25, ai E mind_a3 7 y26, ai E mind_a4 7 y29, ai E mind_a5 7 mind_sight]) (As := [.int x3, .int p1]) (rest := []) (st1 := []) hC q_X8_think kw_3_21 (c_X8_think l E mind_h mind_a0 mind_a1 mind_a2 mind_a3 mind_a4 mind_a5 y23 y24 y25 y26 y27 mind_sight mind_moving y19 y20 y21 y22 x3 p1 N y29 h30) ⟨rfl, rfl⟩ ⟨Nat.le_of_ble_eq_true rfl, Nat.le_of_ble_eq_true rfl⟩ ⟨Nat.zero_le _, Nat.zero_le _⟩ hP hD hS hA rfl rfl rfl hG (by decide) rfl rfl rfl rfl rfl rfl rfl rfl hl.1 rfl (Nat.le_of_ble_eq_true rfl) dX9_fewestOfMood_58 rfl (fun H locs hP hD hS => ?_)
            refine lv_aload_n hx hb dX9_fewestOfMood_61 rfl (lv_at hl 3 rfl) ?_
            refine va_get (D := E.1) (ci := 3) (v := .ref mind_h) (C := RX9) (T := TX9) (N := 6) hx hb ht i_X9 hown hK hP 0 rfl rfl 1 (by decide) (ht _ kw_1_139) (fun _ h9 => h9) rfl dX9_fewestOfMood_62 ?_
            obtain ⟨r31, h32, hv⟩ := ob_s hv
            refine rdV 2 0 (As := []) (rest := []) (st1 := [.int r31]) (w := [oSt mind_h mind_a0 mind_a1 mind_a2 mind_a3 mind_a4 mind_a5 mind_moving y19 y20 y21 y22, ai E mind_a0 10 y23, ai E mind_a1 7 y24, ai E mind_a2 7 y25, ai E mind_a3 7 y26, ai E mind_a4 7 y29, ai E mind_a5 7 mind_sight]) hC q_X8_isCarried kw_2_110 (c_X8_isCarried l E mind_h mind_a0 mind_a1 mind_a2 mind_a3 mind_a4 mind_a5 y23 y24 y25 y26 y29 mind_sight mind_moving y19 y20 y21 y22 N r31 h32) ⟨rfl, rfl⟩ ⟨Nat.le_of_ble_eq_true rfl, Nat.le_of_ble_eq_true rfl⟩ ⟨Nat.zero_le _, Nat.zero_le _⟩ (hP.sub (ws' := [oSt mind_h mind_a0 mind_a1 mind_a2 mind_a3 mind_a4 mind_a5 mind_moving y19 y20 y21 y22, ai E mind_a0 10 y23, ai E mind_a1 7 y24, ai E mind_a2 7 y25, ai E mind_a3 7 y26, ai E mind_a4 7 y29, ai E mind_a5 7 mind_sight]) [8, 9, 10, 11, 12, 13, 14] rfl) rfl rfl rfl hG rfl hl.1 rfl (Nat.le_of_ble_eq_true rfl) dX9_fewestOfMood_65 rfl ?_
            refine lv_iload_n hx hb dX9_fewestOfMood_68 rfl (lv_at hl 5 rfl) ?_
            refine lv_icmp_ne (tgt := 76) hx hb dX9_fewestOfMood_69 (by decide) (fun c33 => ?_) (fun c33 => ?_)
            · have hv := if_n c33 hv
              refine lv_iinc (v := (x3 + (1 : Int32))) (lv' := [(5, .int (x3 + (1 : Int32))), (4, .int x4), (3, .int r1), (0, .ref b_h), (1, .int p1), (2, .int p2)]) hx hb dX9_fewestOfMood_76 hl (k := 0) rfl rfl (by decide) rfl (fun ls hl => ?_)
              refine lv_goto (tgt := 15) hx hb dX9_fewestOfMood_79 (by decide) ?_
              exact ih15 (x3 + (1 : Int32)) x4 y19 y20 y21 y22 y23 y24 y25 y26 y29 _ _ _ hP hD hS (lv_sub hl [0, 1, 2, 3, 4, 5] rfl) hv
            · have hv := if_y c33 hv
              refine lv_iload hx hb dX9_fewestOfMood_72 (lv_at hl 0 rfl) ?_
              refine lv_istore (lv' := [(4, .int x3), (5, .int x3), (3, .int r1), (0, .ref b_h), (1, .int p1), (2, .int p2)]) hx hb dX9_fewestOfMood_74 hl (by decide) rfl (fun ls hl => ?_)
              refine lv_iinc (v := (x3 + (1 : Int32))) (lv' := [(5, .int (x3 + (1 : Int32))), (4, .int x3), (3, .int r1), (0, .ref b_h), (1, .int p1), (2, .int p2)]) hx hb dX9_fewestOfMood_76 hl (k := 1) rfl rfl (by decide) rfl (fun ls hl => ?_)
              refine lv_goto (tgt := 15) hx hb dX9_fewestOfMood_79 (by decide) ?_
              exact ih15 (x3 + (1 : Int32)) x3 y19 y20 y21 y22 y23 y24 y25 y26 y29 _ _ _ hP hD hS (lv_sub hl [0, 1, 2, 3, 4, 5] rfl) hv
  exact hL15 N (0 : Int32) (-4 : Int32) mind_shut mind_people mind_needed mind_day mind_height mind_kind mind_figure mind_rail mind_mood _ _ _ hP hD hS (lv_sub hl [0, 1, 2, 3, 4, 5] rfl) hv
theorem dX9_win_0 : decode cX9_win 0 = .ok (.iload_n 1, 1) := by decide +kernel
theorem dX9_win_1 : decode cX9_win 1 = .ok (.iconst 0, 1) := by decide +kernel
theorem dX9_win_2 : decode cX9_win 2 = .ok (.iconst 1, 1) := by decide +kernel
theorem dX9_win_3 : decode cX9_win 3 = .ok (.invokestatic 118, 3) := by decide +kernel
theorem dX9_win_6 : decode cX9_win 6 = .ok (.ifCond .ne 5, 3) := by decide +kernel
theorem dX9_win_9 : decode cX9_win 9 = .ok (.iconst (-1), 1) := by decide +kernel
theorem dX9_win_10 : decode cX9_win 10 = .ok (.ireturn, 1) := by decide +kernel
theorem dX9_win_11 : decode cX9_win 11 = .ok (.iload_n 1, 1) := by decide +kernel
theorem dX9_win_12 : decode cX9_win 12 = .ok (.ifCond .ne 7, 3) := by decide +kernel
theorem dX9_win_15 : decode cX9_win 15 = .ok (.iconst 1, 1) := by decide +kernel
theorem dX9_win_16 : decode cX9_win 16 = .ok (.goto 4, 3) := by decide +kernel
theorem dX9_win_19 : decode cX9_win 19 = .ok (.iconst 0, 1) := by decide +kernel
theorem dX9_win_20 : decode cX9_win 20 = .ok (.istore_n 2, 1) := by decide +kernel
theorem dX9_win_21 : decode cX9_win 21 = .ok (.aload_n 0, 1) := by decide +kernel
theorem dX9_win_22 : decode cX9_win 22 = .ok (.iload_n 2, 1) := by decide +kernel
theorem dX9_win_23 : decode cX9_win 23 = .ok (.ifCond .eq 8, 3) := by decide +kernel
theorem dX9_win_26 : decode cX9_win 26 = .ok (.bipush 9, 2) := by decide +kernel
theorem dX9_win_28 : decode cX9_win 28 = .ok (.goto 5, 3) := by decide +kernel
theorem dX9_win_31 : decode cX9_win 31 = .ok (.bipush (-9), 2) := by decide +kernel
theorem dX9_win_33 : decode cX9_win 33 = .ok (.iload_n 2, 1) := by decide +kernel
theorem dX9_win_34 : decode cX9_win 34 = .ok (.invokevirtual 205, 3) := by decide +kernel
theorem dX9_win_37 : decode cX9_win 37 = .ok (.ireturn, 1) := by decide +kernel
def f_X9_win (N : Nat) (now_height : Nat → Int32) (now_kind : Nat → Int32) (now_figure : Nat → Int32) (now_rail : Nat → Int32) (now_mood : Nat → Int32) (now_shut : Int32) (now_people : Int32) (now_needed : Int32) (now_day : Int32) (mind_height : Nat → Int32) (mind_kind : Nat → Int32) (mind_figure : Nat → Int32) (mind_rail : Nat → Int32) (mind_mood : Nat → Int32) (mind_shut : Int32) (mind_people : Int32) (mind_needed : Int32) (mind_day : Int32) (p1 : Int32) : Option (Int32 × Int32 × Int32 × Int32 × Int32 × (Nat → Int32) × (Nat → Int32) × (Nat → Int32) × (Nat → Int32) × (Nat → Int32)) := ob (f_X9_isWithin p1 (0 : Int32) (1 : Int32)) (fun r1 => if r1 = 0 then nm (-1 : Int32) (fun z51 => some (z51, mind_shut, mind_people, mind_needed, mind_day, mind_height, mind_kind, mind_figure, mind_rail, mind_mood)) else if p1 = 0 then if (1 : Int32) = 0 then ob (f_X9_fewestOfMood N now_height now_kind now_figure now_rail now_mood now_shut now_people now_needed now_day mind_height mind_kind mind_figure mind_rail mind_mood mind_shut mind_people mind_needed mind_day (-9 : Int32) (1 : Int32)) (fun (r29, y30, y31, y32, y33, y34, y35, y36, y37, y38) => some (r29, y30, y31, y32, y33, y34, y35, y36, y37, y38)) else ob (f_X9_fewestOfMood N now_height now_kind now_figure now_rail now_mood now_shut now_people now_needed now_day mind_height mind_kind mind_figure mind_rail mind_mood mind_shut mind_people mind_needed mind_day (9 : Int32) (1 : Int32)) (fun (r40, y41, y42, y43, y44, y45, y46, y47, y48, y49) => some (r40, y41, y42, y43, y44, y45, y46, y47, y48, y49)) else if (0 : Int32) = 0 then ob (f_X9_fewestOfMood N now_height now_kind now_figure now_rail now_mood now_shut now_people now_needed now_day mind_height mind_kind mind_figure mind_rail mind_mood mind_shut mind_people mind_needed mind_day (-9 : Int32) (0 : Int32)) (fun (r6, y7, y8, y9, y10, y11, y12, y13, y14, y15) => some (r6, y7, y8, y9, y10, y11, y12, y13, y14, y15)) else ob (f_X9_fewestOfMood N now_height now_kind now_figure now_rail now_mood now_shut now_people now_needed now_day mind_height mind_kind mind_figure mind_rail mind_mood mind_shut mind_people mind_needed mind_day (9 : Int32) (0 : Int32)) (fun (r17, y18, y19, y20, y21, y22, y23, y24, y25, y26) => some (r17, y18, y19, y20, y21, y22, y23, y24, y25, y26)))
set_option maxHeartbeats 4000000 in
set_option maxRecDepth 100000 in
theorem c_X9_win (l : Launch) (E : EE) (b_h : Nat) (now_h : Nat) (mind_h : Nat) (kept_h : Nat) (rails_h : Nat) (sa_h : Nat) (now_a0 : Nat) (now_a1 : Nat) (now_a2 : Nat) (now_a3 : Nat) (now_a4 : Nat) (now_a5 : Nat) (mind_a0 : Nat) (mind_a1 : Nat) (mind_a2 : Nat) (mind_a3 : Nat) (mind_a4 : Nat) (mind_a5 : Nat) (b_img : Int32) (now_height : Nat → Int32) (now_kind : Nat → Int32) (now_figure : Nat → Int32) (now_rail : Nat → Int32) (now_mood : Nat → Int32) (now_sight : Nat → Int32) (now_moving : Int32) (now_shut : Int32) (now_people : Int32) (now_needed : Int32) (now_day : Int32) (mind_height : Nat → Int32) (mind_kind : Nat → Int32) (mind_figure : Nat → Int32) (mind_rail : Nat → Int32) (mind_mood : Nat → Int32) (mind_sight : Nat → Int32) (mind_moving : Int32) (mind_shut : Int32) (mind_people : Int32) (mind_needed : Int32) (mind_day : Int32) (p1 : Int32) (N : Nat) (res : Int32) (w_mind_shut : Int32) (w_mind_people : Int32) (w_mind_needed : Int32) (w_mind_day : Int32) (w_mind_height : Nat → Int32) (w_mind_kind : Nat → Int32) (w_mind_figure : Nat → Int32) (w_mind_rail : Nat → Int32) (w_mind_mood : Nat → Int32) (hv : f_X9_win N now_height now_kind now_figure now_rail now_mood now_shut now_people now_needed now_day mind_height mind_kind mind_figure mind_rail mind_mood mind_shut mind_people mind_needed mind_day p1 = some (res, w_mind_shut, w_mind_people, w_mind_needed, w_mind_day, w_mind_height, w_mind_kind, w_mind_figure, w_mind_rail, w_mind_mood)) : Wr l E yX9_win cX9_win 3 (some .int) ({ frames := 6, cells := 0, slots := 0, locals := 134 }) [.ref b_h, .int p1] [oBp b_h now_h mind_h kept_h b_img rails_h sa_h, oSt now_h now_a0 now_a1 now_a2 now_a3 now_a4 now_a5 now_moving now_shut now_people now_needed now_day, ai E now_a0 10 now_height, ai E now_a1 7 now_kind, ai E now_a2 7 now_figure, ai E now_a3 7 now_rail, ai E now_a4 7 now_mood, ai E now_a5 7 now_sight, oSt mind_h mind_a0 mind_a1 mind_a2 mind_a3 mind_a4 mind_a5 mind_moving mind_shut mind_people mind_needed mind_day, ai E mind_a0 10 mind_height, ai E mind_a1 7 mind_kind, ai E mind_a2 7 mind_figure, ai E mind_a3 7 mind_rail, ai E mind_a4 7 mind_mood, ai E mind_a5 7 mind_sight] [oBp b_h now_h mind_h kept_h b_img rails_h sa_h, oSt now_h now_a0 now_a1 now_a2 now_a3 now_a4 now_a5 now_moving now_shut now_people now_needed now_day, ai E now_a0 10 now_height, ai E now_a1 7 now_kind, ai E now_a2 7 now_figure, ai E now_a3 7 now_rail, ai E now_a4 7 now_mood, ai E now_a5 7 now_sight, oSt mind_h mind_a0 mind_a1 mind_a2 mind_a3 mind_a4 mind_a5 mind_moving w_mind_shut w_mind_people w_mind_needed w_mind_day, ai E mind_a0 10 w_mind_height, ai E mind_a1 7 w_mind_kind, ai E mind_a2 7 w_mind_figure, ai E mind_a3 7 w_mind_rail, ai E mind_a4 7 w_mind_mood, ai E mind_a5 7 mind_sight] (some (.int res)) := by
  refine Wr.intro RX9 (by decide) rfl (Nat.le_of_ble_eq_true rfl) ?_
  intro p e s m below meth c ls A hC hr hlk hmn hP hD hS hA hG hl
  obtain ⟨hx, hb, hml, hown, ht⟩ := id hC
  have hK := hG.1
  have hl : lv_has ls 3 [(0, .ref b_h), (1, .int p1)] := hl
  rw [f_X9_win] at hv
  refine lv_iload_n hx hb dX9_win_0 rfl (lv_at hl 1 rfl) ?_
  refine lv_iconst (v := (0 : Int32)) hx hb dX9_win_1 (by decide) ?_
  refine lv_iconst (v := (1 : Int32)) hx hb dX9_win_2 (by decide) ?_
  obtain ⟨r1, h2, hv⟩ := ob_s hv
  refine rdS (rest := []) (st1 := [.int r1]) (w := []) hC q_X9_isWithin kw_1_168 (c_X9_isWithin l E p1 (0 : Int32) (1 : Int32) r1 h2) ⟨rfl, rfl⟩ ⟨Nat.le_of_ble_eq_true rfl, Nat.le_of_ble_eq_true rfl⟩ ⟨Nat.zero_le _, Nat.zero_le _⟩ (hP.sub (ws' := []) [] rfl) hG rfl hl.1 rfl (Nat.le_of_ble_eq_true rfl) dX9_win_3 rfl ?_
  refine lv_if_ne (tgt := 11) hx hb dX9_win_6 (by decide) (fun c3 => ?_) (fun c3 => ?_)
  · have hv := if_n c3 hv
    refine lv_iload_n hx hb dX9_win_11 rfl (lv_at hl 1 rfl) ?_
    refine lv_if_ne (tgt := 19) hx hb dX9_win_12 (by decide) (fun c4 => ?_) (fun c4 => ?_)
    · have hv := if_n c4 hv
      refine lv_iconst (v := (0 : Int32)) hx hb dX9_win_19 (by decide) ?_
      refine lv_istore_n (lv' := [(2, .int (0 : Int32)), (0, .ref b_h), (1, .int p1)]) hx hb dX9_win_20 rfl hl (by decide) rfl (fun ls hl => ?_)
      refine lv_aload_n hx hb dX9_win_21 rfl (lv_at hl 1 rfl) ?_
      refine lv_iload_n hx hb dX9_win_22 rfl (lv_at hl 0 rfl) ?_
      refine lv_if_eq (tgt := 31) hx hb dX9_win_23 (by decide) (fun c5 => ?_) (fun c5 => ?_)
      · have hv := if_y c5 hv
        refine lv_bipush (v := (-9 : Int32)) hx hb dX9_win_31 (by decide) ?_
        refine lv_iload_n hx hb dX9_win_33 rfl (lv_at hl 0 rfl) ?_
        obtain ⟨⟨r6, y7, y8, y9, y10, y11, y12, y13, y14, y15⟩, h16, hv⟩ := ob_s hv
        refine wrV (as := [b_h, now_h, now_a0, now_a1, now_a2, now_a3, now_a4, now_a5, mind_h, mind_a0, mind_a1, mind_a2, mind_a3, mind_a4, mind_a5]) (wr := []) [0, 1, 2, 3, 4, 5, 6, 7, 8, 9, 10, 11, 12, 13, 14] [] 3 0 (ws := [oBp b_h now_h mind_h kept_h b_img rails_h sa_h, oSt now_h now_a0 now_a1 now_a2 now_a3 now_a4 now_a5 now_moving now_shut now_people now_needed now_day, ai E now_a0 10 now_height, ai E now_a1 7 now_kind, ai E now_a2 7 now_figure, ai E now_a3 7 now_rail, ai E now_a4 7 now_mood, ai E now_a5 7 now_sight, oSt mind_h mind_a0 mind_a1 mind_a2 mind_a3 mind_a4 mind_a5 mind_moving mind_shut mind_people mind_needed mind_day, ai E mind_a0 10 mind_height, ai E mind_a1 7 mind_kind, ai E mind_a2 7 mind_figure, ai E mind_a3 7 mind_rail, ai E mind_a4 7 mind_mood, ai E mind_a5 7 mind_sight]) (ws' := [oBp b_h now_h mind_h kept_h b_img rails_h sa_h, oSt now_h now_a0 now_a1 now_a2 now_a3 now_a4 now_a5 now_moving now_shut now_people now_needed now_day, ai E now_a0 10 now_height, ai E now_a1 7 now_kind, ai E now_a2 7 now_figure, ai E now_a3 7 now_rail, ai E now_a4 7 now_mood, ai E now_a5 7 now_sight, oSt mind_h mind_a0 mind_a1 mind_a2 mind_a3 mind_a4 mind_a5 mind_moving y7 y8 y9 y10, ai E mind_a0 10 y11, ai E mind_a1 7 y12, ai E mind_a2 7 y13, ai E mind_a3 7 y14, ai E mind_a4 7 y15, ai E mind_a5 7 mind_sight]) (As := [.int (-9 : Int32), .int (0 : Int32)]) (rest := []) (st1 := [.int r6]) hC q_X9_fewestOfMood kw_3_16 (c_X9_fewestOfMood l E b_h now_h mind_h kept_h rails_h sa_h now_a0 now_a1 now_a2 now_a3 now_a4 now_a5 mind_a0 mind_a1 mind_a2 mind_a3 mind_a4 mind_a5 b_img now_height now_kind now_figure now_rail now_mood now_sight now_moving now_shut now_people now_needed now_day mind_height mind_kind mind_figure mind_rail mind_mood mind_sight mind_moving mind_shut mind_people mind_needed mind_day (-9 : Int32) (0 : Int32) N r6 y7 y8 y9 y10 y11 y12 y13 y14 y15 h16) ⟨rfl, rfl⟩ ⟨Nat.le_of_ble_eq_true rfl, Nat.le_of_ble_eq_true rfl⟩ ⟨Nat.zero_le _, Nat.zero_le _⟩ hP hD hS hA rfl rfl rfl hG (by decide) rfl rfl rfl rfl rfl rfl rfl rfl hl.1 rfl (Nat.le_of_ble_eq_true rfl) dX9_win_34 rfl (fun H locs hP hD hS => ?_)
        cases hv
        exact W.iret hx hb hr (fun t h9 _ => ⟨rfl, by rw [h9]; exact hP, hS.F h9⟩) hS.2.2 dX9_win_37 hlk
      · have hv := if_n c5 hv
        refine lv_bipush (v := (9 : Int32)) hx hb dX9_win_26 (by decide) ?_
        refine lv_goto (tgt := 33) hx hb dX9_win_28 (by decide) ?_
        refine lv_iload_n hx hb dX9_win_33 rfl (lv_at hl 0 rfl) ?_
        obtain ⟨⟨r17, y18, y19, y20, y21, y22, y23, y24, y25, y26⟩, h27, hv⟩ := ob_s hv
        refine wrV (as := [b_h, now_h, now_a0, now_a1, now_a2, now_a3, now_a4, now_a5, mind_h, mind_a0, mind_a1, mind_a2, mind_a3, mind_a4, mind_a5]) (wr := []) [0, 1, 2, 3, 4, 5, 6, 7, 8, 9, 10, 11, 12, 13, 14] [] 3 0 (ws := [oBp b_h now_h mind_h kept_h b_img rails_h sa_h, oSt now_h now_a0 now_a1 now_a2 now_a3 now_a4 now_a5 now_moving now_shut now_people now_needed now_day, ai E now_a0 10 now_height, ai E now_a1 7 now_kind, ai E now_a2 7 now_figure, ai E now_a3 7 now_rail, ai E now_a4 7 now_mood, ai E now_a5 7 now_sight, oSt mind_h mind_a0 mind_a1 mind_a2 mind_a3 mind_a4 mind_a5 mind_moving mind_shut mind_people mind_needed mind_day, ai E mind_a0 10 mind_height, ai E mind_a1 7 mind_kind, ai E mind_a2 7 mind_figure, ai E mind_a3 7 mind_rail, ai E mind_a4 7 mind_mood, ai E mind_a5 7 mind_sight]) (ws' := [oBp b_h now_h mind_h kept_h b_img rails_h sa_h, oSt now_h now_a0 now_a1 now_a2 now_a3 now_a4 now_a5 now_moving now_shut now_people now_needed now_day, ai E now_a0 10 now_height, ai E now_a1 7 now_kind, ai E now_a2 7 now_figure, ai E now_a3 7 now_rail, ai E now_a4 7 now_mood, ai E now_a5 7 now_sight, oSt mind_h mind_a0 mind_a1 mind_a2 mind_a3 mind_a4 mind_a5 mind_moving y18 y19 y20 y21, ai E mind_a0 10 y22, ai E mind_a1 7 y23, ai E mind_a2 7 y24, ai E mind_a3 7 y25, ai E mind_a4 7 y26, ai E mind_a5 7 mind_sight]) (As := [.int (9 : Int32), .int (0 : Int32)]) (rest := []) (st1 := [.int r17]) hC q_X9_fewestOfMood kw_3_16 (c_X9_fewestOfMood l E b_h now_h mind_h kept_h rails_h sa_h now_a0 now_a1 now_a2 now_a3 now_a4 now_a5 mind_a0 mind_a1 mind_a2 mind_a3 mind_a4 mind_a5 b_img now_height now_kind now_figure now_rail now_mood now_sight now_moving now_shut now_people now_needed now_day mind_height mind_kind mind_figure mind_rail mind_mood mind_sight mind_moving mind_shut mind_people mind_needed mind_day (9 : Int32) (0 : Int32) N r17 y18 y19 y20 y21 y22 y23 y24 y25 y26 h27) ⟨rfl, rfl⟩ ⟨Nat.le_of_ble_eq_true rfl, Nat.le_of_ble_eq_true rfl⟩ ⟨Nat.zero_le _, Nat.zero_le _⟩ hP hD hS hA rfl rfl rfl hG (by decide) rfl rfl rfl rfl rfl rfl rfl rfl hl.1 rfl (Nat.le_of_ble_eq_true rfl) dX9_win_34 rfl (fun H locs hP hD hS => ?_)
        cases hv
        exact W.iret hx hb hr (fun t h9 _ => ⟨rfl, by rw [h9]; exact hP, hS.F h9⟩) hS.2.2 dX9_win_37 hlk
    · have hv := if_y c4 hv
      refine lv_iconst (v := (1 : Int32)) hx hb dX9_win_15 (by decide) ?_
      refine lv_goto (tgt := 20) hx hb dX9_win_16 (by decide) ?_
      refine lv_istore_n (lv' := [(2, .int (1 : Int32)), (0, .ref b_h), (1, .int p1)]) hx hb dX9_win_20 rfl hl (by decide) rfl (fun ls hl => ?_)
      refine lv_aload_n hx hb dX9_win_21 rfl (lv_at hl 1 rfl) ?_
      refine lv_iload_n hx hb dX9_win_22 rfl (lv_at hl 0 rfl) ?_
      refine lv_if_eq (tgt := 31) hx hb dX9_win_23 (by decide) (fun c28 => ?_) (fun c28 => ?_)
      · have hv := if_y c28 hv
        refine lv_bipush (v := (-9 : Int32)) hx hb dX9_win_31 (by decide) ?_
        refine lv_iload_n hx hb dX9_win_33 rfl (lv_at hl 0 rfl) ?_
        obtain ⟨⟨r29, y30, y31, y32, y33, y34, y35, y36, y37, y38⟩, h39, hv⟩ := ob_s hv
        refine wrV (as := [b_h, now_h, now_a0, now_a1, now_a2, now_a3, now_a4, now_a5, mind_h, mind_a0, mind_a1, mind_a2, mind_a3, mind_a4, mind_a5]) (wr := []) [0, 1, 2, 3, 4, 5, 6, 7, 8, 9, 10, 11, 12, 13, 14] [] 3 0 (ws := [oBp b_h now_h mind_h kept_h b_img rails_h sa_h, oSt now_h now_a0 now_a1 now_a2 now_a3 now_a4 now_a5 now_moving now_shut now_people now_needed now_day, ai E now_a0 10 now_height, ai E now_a1 7 now_kind, ai E now_a2 7 now_figure, ai E now_a3 7 now_rail, ai E now_a4 7 now_mood, ai E now_a5 7 now_sight, oSt mind_h mind_a0 mind_a1 mind_a2 mind_a3 mind_a4 mind_a5 mind_moving mind_shut mind_people mind_needed mind_day, ai E mind_a0 10 mind_height, ai E mind_a1 7 mind_kind, ai E mind_a2 7 mind_figure, ai E mind_a3 7 mind_rail, ai E mind_a4 7 mind_mood, ai E mind_a5 7 mind_sight]) (ws' := [oBp b_h now_h mind_h kept_h b_img rails_h sa_h, oSt now_h now_a0 now_a1 now_a2 now_a3 now_a4 now_a5 now_moving now_shut now_people now_needed now_day, ai E now_a0 10 now_height, ai E now_a1 7 now_kind, ai E now_a2 7 now_figure, ai E now_a3 7 now_rail, ai E now_a4 7 now_mood, ai E now_a5 7 now_sight, oSt mind_h mind_a0 mind_a1 mind_a2 mind_a3 mind_a4 mind_a5 mind_moving y30 y31 y32 y33, ai E mind_a0 10 y34, ai E mind_a1 7 y35, ai E mind_a2 7 y36, ai E mind_a3 7 y37, ai E mind_a4 7 y38, ai E mind_a5 7 mind_sight]) (As := [.int (-9 : Int32), .int (1 : Int32)]) (rest := []) (st1 := [.int r29]) hC q_X9_fewestOfMood kw_3_16 (c_X9_fewestOfMood l E b_h now_h mind_h kept_h rails_h sa_h now_a0 now_a1 now_a2 now_a3 now_a4 now_a5 mind_a0 mind_a1 mind_a2 mind_a3 mind_a4 mind_a5 b_img now_height now_kind now_figure now_rail now_mood now_sight now_moving now_shut now_people now_needed now_day mind_height mind_kind mind_figure mind_rail mind_mood mind_sight mind_moving mind_shut mind_people mind_needed mind_day (-9 : Int32) (1 : Int32) N r29 y30 y31 y32 y33 y34 y35 y36 y37 y38 h39) ⟨rfl, rfl⟩ ⟨Nat.le_of_ble_eq_true rfl, Nat.le_of_ble_eq_true rfl⟩ ⟨Nat.zero_le _, Nat.zero_le _⟩ hP hD hS hA rfl rfl rfl hG (by decide) rfl rfl rfl rfl rfl rfl rfl rfl hl.1 rfl (Nat.le_of_ble_eq_true rfl) dX9_win_34 rfl (fun H locs hP hD hS => ?_)
        cases hv
        exact W.iret hx hb hr (fun t h9 _ => ⟨rfl, by rw [h9]; exact hP, hS.F h9⟩) hS.2.2 dX9_win_37 hlk
      · have hv := if_n c28 hv
        refine lv_bipush (v := (9 : Int32)) hx hb dX9_win_26 (by decide) ?_
        refine lv_goto (tgt := 33) hx hb dX9_win_28 (by decide) ?_
        refine lv_iload_n hx hb dX9_win_33 rfl (lv_at hl 0 rfl) ?_
        obtain ⟨⟨r40, y41, y42, y43, y44, y45, y46, y47, y48, y49⟩, h50, hv⟩ := ob_s hv
        refine wrV (as := [b_h, now_h, now_a0, now_a1, now_a2, now_a3, now_a4, now_a5, mind_h, mind_a0, mind_a1, mind_a2, mind_a3, mind_a4, mind_a5]) (wr := []) [0, 1, 2, 3, 4, 5, 6, 7, 8, 9, 10, 11, 12, 13, 14] [] 3 0 (ws := [oBp b_h now_h mind_h kept_h b_img rails_h sa_h, oSt now_h now_a0 now_a1 now_a2 now_a3 now_a4 now_a5 now_moving now_shut now_people now_needed now_day, ai E now_a0 10 now_height, ai E now_a1 7 now_kind, ai E now_a2 7 now_figure, ai E now_a3 7 now_rail, ai E now_a4 7 now_mood, ai E now_a5 7 now_sight, oSt mind_h mind_a0 mind_a1 mind_a2 mind_a3 mind_a4 mind_a5 mind_moving mind_shut mind_people mind_needed mind_day, ai E mind_a0 10 mind_height, ai E mind_a1 7 mind_kind, ai E mind_a2 7 mind_figure, ai E mind_a3 7 mind_rail, ai E mind_a4 7 mind_mood, ai E mind_a5 7 mind_sight]) (ws' := [oBp b_h now_h mind_h kept_h b_img rails_h sa_h, oSt now_h now_a0 now_a1 now_a2 now_a3 now_a4 now_a5 now_moving now_shut now_people now_needed now_day, ai E now_a0 10 now_height, ai E now_a1 7 now_kind, ai E now_a2 7 now_figure, ai E now_a3 7 now_rail, ai E now_a4 7 now_mood, ai E now_a5 7 now_sight, oSt mind_h mind_a0 mind_a1 mind_a2 mind_a3 mind_a4 mind_a5 mind_moving y41 y42 y43 y44, ai E mind_a0 10 y45, ai E mind_a1 7 y46, ai E mind_a2 7 y47, ai E mind_a3 7 y48, ai E mind_a4 7 y49, ai E mind_a5 7 mind_sight]) (As := [.int (9 : Int32), .int (1 : Int32)]) (rest := []) (st1 := [.int r40]) hC q_X9_fewestOfMood kw_3_16 (c_X9_fewestOfMood l E b_h now_h mind_h kept_h rails_h sa_h now_a0 now_a1 now_a2 now_a3 now_a4 now_a5 mind_a0 mind_a1 mind_a2 mind_a3 mind_a4 mind_a5 b_img now_height now_kind now_figure now_rail now_mood now_sight now_moving now_shut now_people now_needed now_day mind_height mind_kind mind_figure mind_rail mind_mood mind_sight mind_moving mind_shut mind_people mind_needed mind_day (9 : Int32) (1 : Int32) N r40 y41 y42 y43 y44 y45 y46 y47 y48 y49 h50) ⟨rfl, rfl⟩ ⟨Nat.le_of_ble_eq_true rfl, Nat.le_of_ble_eq_true rfl⟩ ⟨Nat.zero_le _, Nat.zero_le _⟩ hP hD hS hA rfl rfl rfl hG (by decide) rfl rfl rfl rfl rfl rfl rfl rfl hl.1 rfl (Nat.le_of_ble_eq_true rfl) dX9_win_34 rfl (fun H locs hP hD hS => ?_)
        cases hv
        exact W.iret hx hb hr (fun t h9 _ => ⟨rfl, by rw [h9]; exact hP, hS.F h9⟩) hS.2.2 dX9_win_37 hlk
  · have hv := if_y c3 hv
    refine lv_iconst (v := (-1 : Int32)) hx hb dX9_win_9 (by decide) ?_
    refine lv_topi (fun z51 ez51 => ?_)
    have hv := nm_s ez51 hv
    cases hv
    exact W.iret hx hb hr (fun t h9 _ => ⟨rfl, by rw [h9]; exact hP, hS.F h9⟩) hS.2.2 dX9_win_10 hlk
theorem dX9_guest_0 : decode cX9_guest 0 = .ok (.aload_n 0, 1) := by decide +kernel
theorem dX9_guest_1 : decode cX9_guest 1 = .ok (.getfield 12, 3) := by decide +kernel
theorem dX9_guest_4 : decode cX9_guest 4 = .ok (.iload_n 1, 1) := by decide +kernel
theorem dX9_guest_5 : decode cX9_guest 5 = .ok (.invokevirtual 58, 3) := by decide +kernel
theorem dX9_guest_8 : decode cX9_guest 8 = .ok (.ifCond .eq 19, 3) := by decide +kernel
theorem dX9_guest_11 : decode cX9_guest 11 = .ok (.iload_n 2, 1) := by decide +kernel
theorem dX9_guest_12 : decode cX9_guest 12 = .ok (.invokestatic 154, 3) := by decide +kernel
theorem dX9_guest_15 : decode cX9_guest 15 = .ok (.ifCond .eq 12, 3) := by decide +kernel
theorem dX9_guest_18 : decode cX9_guest 18 = .ok (.iload_n 3, 1) := by decide +kernel
theorem dX9_guest_19 : decode cX9_guest 19 = .ok (.iconst 0, 1) := by decide +kernel
theorem dX9_guest_20 : decode cX9_guest 20 = .ok (.iconst 1, 1) := by decide +kernel
theorem dX9_guest_21 : decode cX9_guest 21 = .ok (.invokestatic 118, 3) := by decide +kernel
theorem dX9_guest_24 : decode cX9_guest 24 = .ok (.ifCond .ne 5, 3) := by decide +kernel
theorem dX9_guest_27 : decode cX9_guest 27 = .ok (.iconst (-1), 1) := by decide +kernel
theorem dX9_guest_28 : decode cX9_guest 28 = .ok (.ireturn, 1) := by decide +kernel
theorem dX9_guest_29 : decode cX9_guest 29 = .ok (.iconst 0, 1) := by decide +kernel
theorem dX9_guest_30 : decode cX9_guest 30 = .ok (.istore 4, 2) := by decide +kernel
theorem dX9_guest_32 : decode cX9_guest 32 = .ok (.iconst (-1), 1) := by decide +kernel
theorem dX9_guest_33 : decode cX9_guest 33 = .ok (.istore 5, 2) := by decide +kernel
theorem dX9_guest_35 : decode cX9_guest 35 = .ok (.iconst 0, 1) := by decide +kernel
theorem dX9_guest_36 : decode cX9_guest 36 = .ok (.istore 6, 2) := by decide +kernel
theorem dX9_guest_38 : decode cX9_guest 38 = .ok (.iload 6, 2) := by decide +kernel
theorem dX9_guest_40 : decode cX9_guest 40 = .ok (.bipush 10, 2) := by decide +kernel
theorem dX9_guest_42 : decode cX9_guest 42 = .ok (.if_icmp .ge 56, 3) := by decide +kernel
theorem dX9_guest_45 : decode cX9_guest 45 = .ok (.aload_n 0, 1) := by decide +kernel
theorem dX9_guest_46 : decode cX9_guest 46 = .ok (.getfield 16, 3) := by decide +kernel
theorem dX9_guest_49 : decode cX9_guest 49 = .ok (.aload_n 0, 1) := by decide +kernel
theorem dX9_guest_50 : decode cX9_guest 50 = .ok (.getfield 12, 3) := by decide +kernel
theorem dX9_guest_53 : decode cX9_guest 53 = .ok (.invokevirtual 48, 3) := by decide +kernel
theorem dX9_guest_56 : decode cX9_guest 56 = .ok (.aload_n 0, 1) := by decide +kernel
theorem dX9_guest_57 : decode cX9_guest 57 = .ok (.getfield 16, 3) := by decide +kernel
theorem dX9_guest_60 : decode cX9_guest 60 = .ok (.getfield 69, 3) := by decide +kernel
theorem dX9_guest_63 : decode cX9_guest 63 = .ok (.iload_n 1, 1) := by decide +kernel
theorem dX9_guest_64 : decode cX9_guest 64 = .ok (.iload 6, 2) := by decide +kernel
theorem dX9_guest_66 : decode cX9_guest 66 = .ok (.iastore, 1) := by decide +kernel
theorem dX9_guest_67 : decode cX9_guest 67 = .ok (.aload_n 0, 1) := by decide +kernel
theorem dX9_guest_68 : decode cX9_guest 68 = .ok (.getfield 16, 3) := by decide +kernel
theorem dX9_guest_71 : decode cX9_guest 71 = .ok (.iload_n 2, 1) := by decide +kernel
theorem dX9_guest_72 : decode cX9_guest 72 = .ok (.invokevirtual 163, 3) := by decide +kernel
theorem dX9_guest_75 : decode cX9_guest 75 = .ok (.istore 7, 2) := by decide +kernel
theorem dX9_guest_77 : decode cX9_guest 77 = .ok (.iload 7, 2) := by decide +kernel
theorem dX9_guest_79 : decode cX9_guest 79 = .ok (.iload 5, 2) := by decide +kernel
theorem dX9_guest_81 : decode cX9_guest 81 = .ok (.if_icmp .le 11, 3) := by decide +kernel
theorem dX9_guest_84 : decode cX9_guest 84 = .ok (.iload 7, 2) := by decide +kernel
theorem dX9_guest_86 : decode cX9_guest 86 = .ok (.istore 5, 2) := by decide +kernel
theorem dX9_guest_88 : decode cX9_guest 88 = .ok (.iload 6, 2) := by decide +kernel
theorem dX9_guest_90 : decode cX9_guest 90 = .ok (.istore 4, 2) := by decide +kernel
theorem dX9_guest_92 : decode cX9_guest 92 = .ok (.iinc 6 1, 3) := by decide +kernel
theorem dX9_guest_95 : decode cX9_guest 95 = .ok (.goto (-57), 3) := by decide +kernel
theorem dX9_guest_98 : decode cX9_guest 98 = .ok (.iload_n 3, 1) := by decide +kernel
theorem dX9_guest_99 : decode cX9_guest 99 = .ok (.ifCond .ne 8, 3) := by decide +kernel
theorem dX9_guest_102 : decode cX9_guest 102 = .ok (.iload 4, 2) := by decide +kernel
theorem dX9_guest_104 : decode cX9_guest 104 = .ok (.goto 5, 3) := by decide +kernel
theorem dX9_guest_107 : decode cX9_guest 107 = .ok (.iload 5, 2) := by decide +kernel
theorem dX9_guest_109 : decode cX9_guest 109 = .ok (.ireturn, 1) := by decide +kernel
def L_X9_guest_38 (N : Nat) (now_height : Nat → Int32) (now_kind : Nat → Int32) (now_figure : Nat → Int32) (now_rail : Nat → Int32) (now_mood : Nat → Int32) (now_shut : Int32) (now_people : Int32) (now_needed : Int32) (now_day : Int32) (p1 : Int32) (p2 : Int32) (p3 : Int32) : Nat → Int32 → Int32 → Int32 → Int32 → Int32 → Int32 → Int32 → Int32 → (Nat → Int32) → (Nat → Int32) → (Nat → Int32) → (Nat → Int32) → (Nat → Int32) → (Nat → Int32) → Option (Int32 × Int32 × Int32 × Int32 × Int32 × Int32 × (Nat → Int32) × (Nat → Int32) × (Nat → Int32) × (Nat → Int32) × (Nat → Int32) × (Nat → Int32))
  | 0, _, _, _, _, _, _, _, _, _, _, _, _, _, _ => none
  | n38 + 1, x12, x13, x14, y15, y16, y17, y18, y19, y20, y21, y22, y23, y24, y25 => if (10 : Int32) ≤ x12 then if p3 = 0 then some (x14, y15, y16, y17, y18, y19, y20, y21, y22, y23, y24, y25) else some (x13, y15, y16, y17, y18, y19, y20, y21, y22, y23, y24, y25) else ob (f_X8_become now_height now_kind now_figure now_rail now_mood now_shut now_people now_needed now_day) (fun (y28, y29, y30, y31, y32, y33, y34, y35, y36) => gd (ix p1 7) (nm (upd y35 p1.toNatClampNeg x12) (fun f39 => ob (f_X8_carriedDays N y32 y33 y34 f39 y36 y25 y28 y29 y30 y31 p2) (fun (r40, y41, y42, y43, y44) => if r40 ≤ x13 then L_X9_guest_38 N now_height now_kind now_figure now_rail now_mood now_shut now_people now_needed now_day p1 p2 p3 n38 (x12 + (1 : Int32)) x13 x14 y41 y28 y29 y30 y42 y32 y33 y34 f39 y43 y44 else L_X9_guest_38 N now_height now_kind now_figure now_rail now_mood now_shut now_people now_needed now_day p1 p2 p3 n38 (x12 + (1 : Int32)) r40 x12 y41 y28 y29 y30 y42 y32 y33 y34 f39 y43 y44))))
def f_X9_guest (N : Nat) (now_height : Nat → Int32) (now_kind : Nat → Int32) (now_figure : Nat → Int32) (now_rail : Nat → Int32) (now_mood : Nat → Int32) (now_shut : Int32) (now_people : Int32) (now_needed : Int32) (now_day : Int32) (mind_height : Nat → Int32) (mind_kind : Nat → Int32) (mind_figure : Nat → Int32) (mind_rail : Nat → Int32) (mind_mood : Nat → Int32) (mind_sight : Nat → Int32) (mind_moving : Int32) (mind_shut : Int32) (mind_people : Int32) (mind_needed : Int32) (mind_day : Int32) (p1 : Int32) (p2 : Int32) (p3 : Int32) : Option (Int32 × Int32 × Int32 × Int32 × Int32 × Int32 × (Nat → Int32) × (Nat → Int32) × (Nat → Int32) × (Nat → Int32) × (Nat → Int32) × (Nat → Int32)) := ob (f_X8_isThere now_people p1) (fun r1 => if r1 = 0 then nm (-1 : Int32) (fun z4 => some (z4, mind_moving, mind_shut, mind_people, mind_needed, mind_day, mind_height, mind_kind, mind_figure, mind_rail, mind_mood, mind_sight)) else ob (f_X9_isSpan p2) (fun r5 => if r5 = 0 then nm (-1 : Int32) (fun z8 => some (z8, mind_moving, mind_shut, mind_people, mind_needed, mind_day, mind_height, mind_kind, mind_figure, mind_rail, mind_mood, mind_sight)) else ob (f_X9_isWithin p3 (0 : Int32) (1 : Int32)) (fun r9 => if r9 = 0 then nm (-1 : Int32) (fun z47 => some (z47, mind_moving, mind_shut, mind_people, mind_needed, mind_day, mind_height, mind_kind, mind_figure, mind_rail, mind_mood, mind_sight)) else L_X9_guest_38 N now_height now_kind now_figure now_rail now_mood now_shut now_people now_needed now_day p1 p2 p3 N (0 : Int32) (-1 : Int32) (0 : Int32) mind_moving mind_shut mind_people mind_needed mind_day mind_height mind_kind mind_figure mind_rail mind_mood mind_sight)))
set_option maxHeartbeats 4000000 in
set_option maxRecDepth 100000 in
theorem c_X9_guest (l : Launch) (E : EE) (b_h : Nat) (now_h : Nat) (mind_h : Nat) (kept_h : Nat) (rails_h : Nat) (sa_h : Nat) (now_a0 : Nat) (now_a1 : Nat) (now_a2 : Nat) (now_a3 : Nat) (now_a4 : Nat) (now_a5 : Nat) (mind_a0 : Nat) (mind_a1 : Nat) (mind_a2 : Nat) (mind_a3 : Nat) (mind_a4 : Nat) (mind_a5 : Nat) (b_img : Int32) (now_height : Nat → Int32) (now_kind : Nat → Int32) (now_figure : Nat → Int32) (now_rail : Nat → Int32) (now_mood : Nat → Int32) (now_sight : Nat → Int32) (now_moving : Int32) (now_shut : Int32) (now_people : Int32) (now_needed : Int32) (now_day : Int32) (mind_height : Nat → Int32) (mind_kind : Nat → Int32) (mind_figure : Nat → Int32) (mind_rail : Nat → Int32) (mind_mood : Nat → Int32) (mind_sight : Nat → Int32) (mind_moving : Int32) (mind_shut : Int32) (mind_people : Int32) (mind_needed : Int32) (mind_day : Int32) (p1 : Int32) (p2 : Int32) (p3 : Int32) (N : Nat) (res : Int32) (w_mind_moving : Int32) (w_mind_shut : Int32) (w_mind_people : Int32) (w_mind_needed : Int32) (w_mind_day : Int32) (w_mind_height : Nat → Int32) (w_mind_kind : Nat → Int32) (w_mind_figure : Nat → Int32) (w_mind_rail : Nat → Int32) (w_mind_mood : Nat → Int32) (w_mind_sight : Nat → Int32) (hv : f_X9_guest N now_height now_kind now_figure now_rail now_mood now_shut now_people now_needed now_day mind_height mind_kind mind_figure mind_rail mind_mood mind_sight mind_moving mind_shut mind_people mind_needed mind_day p1 p2 p3 = some (res, w_mind_moving, w_mind_shut, w_mind_people, w_mind_needed, w_mind_day, w_mind_height, w_mind_kind, w_mind_figure, w_mind_rail, w_mind_mood, w_mind_sight)) : Wr l E yX9_guest cX9_guest 8 (some .int) ({ frames := 6, cells := 0, slots := 0, locals := 133 }) [.ref b_h, .int p1, .int p2, .int p3] [oBp b_h now_h mind_h kept_h b_img rails_h sa_h, oSt now_h now_a0 now_a1 now_a2 now_a3 now_a4 now_a5 now_moving now_shut now_people now_needed now_day, ai E now_a0 10 now_height, ai E now_a1 7 now_kind, ai E now_a2 7 now_figure, ai E now_a3 7 now_rail, ai E now_a4 7 now_mood, ai E now_a5 7 now_sight, oSt mind_h mind_a0 mind_a1 mind_a2 mind_a3 mind_a4 mind_a5 mind_moving mind_shut mind_people mind_needed mind_day, ai E mind_a0 10 mind_height, ai E mind_a1 7 mind_kind, ai E mind_a2 7 mind_figure, ai E mind_a3 7 mind_rail, ai E mind_a4 7 mind_mood, ai E mind_a5 7 mind_sight] [oBp b_h now_h mind_h kept_h b_img rails_h sa_h, oSt now_h now_a0 now_a1 now_a2 now_a3 now_a4 now_a5 now_moving now_shut now_people now_needed now_day, ai E now_a0 10 now_height, ai E now_a1 7 now_kind, ai E now_a2 7 now_figure, ai E now_a3 7 now_rail, ai E now_a4 7 now_mood, ai E now_a5 7 now_sight, oSt mind_h mind_a0 mind_a1 mind_a2 mind_a3 mind_a4 mind_a5 w_mind_moving w_mind_shut w_mind_people w_mind_needed w_mind_day, ai E mind_a0 10 w_mind_height, ai E mind_a1 7 w_mind_kind, ai E mind_a2 7 w_mind_figure, ai E mind_a3 7 w_mind_rail, ai E mind_a4 7 w_mind_mood, ai E mind_a5 7 w_mind_sight] (some (.int res)) := by
  refine Wr.intro RX9 (by decide) rfl (Nat.le_of_ble_eq_true rfl) ?_
  intro p e s m below meth c ls A hC hr hlk hmn hP hD hS hA hG hl
  obtain ⟨hx, hb, hml, hown, ht⟩ := id hC
  have hK := hG.1
  have hl : lv_has ls 8 [(0, .ref b_h), (1, .int p1), (2, .int p2), (3, .int p3)] := hl
  rw [f_X9_guest] at hv
  refine lv_aload_n hx hb dX9_guest_0 rfl (lv_at hl 0 rfl) ?_
  refine va_get (D := E.1) (ci := 3) (v := .ref now_h) (C := RX9) (T := TX9) (N := 6) hx hb ht i_X9 hown hK hP 0 rfl rfl 0 (by decide) (ht _ kw_1_138) (fun _ h9 => h9) rfl dX9_guest_1 ?_
  refine lv_iload_n hx hb dX9_guest_4 rfl (lv_at hl 1 rfl) ?_
  obtain ⟨r1, h2, hv⟩ := ob_s hv
  refine rdV 2 0 (As := [.int p1]) (rest := []) (st1 := [.int r1]) (w := [oSt now_h now_a0 now_a1 now_a2 now_a3 now_a4 now_a5 now_moving now_shut now_people now_needed now_day, ai E now_a0 10 now_height, ai E now_a1 7 now_kind, ai E now_a2 7 now_figure, ai E now_a3 7 now_rail, ai E now_a4 7 now_mood, ai E now_a5 7 now_sight]) hC q_X8_isThere kw_2_50 (c_X8_isThere l E now_h now_a0 now_a1 now_a2 now_a3 now_a4 now_a5 now_height now_kind now_figure now_rail now_mood now_sight now_moving now_shut now_people now_needed now_day p1 r1 h2) ⟨rfl, rfl⟩ ⟨Nat.le_of_ble_eq_true rfl, Nat.le_of_ble_eq_true rfl⟩ ⟨Nat.zero_le _, Nat.zero_le _⟩ (hP.sub (ws' := [oSt now_h now_a0 now_a1 now_a2 now_a3 now_a4 now_a5 now_moving now_shut now_people now_needed now_day, ai E now_a0 10 now_height, ai E now_a1 7 now_kind, ai E now_a2 7 now_figure, ai E now_a3 7 now_rail, ai E now_a4 7 now_mood, ai E now_a5 7 now_sight]) [1, 2, 3, 4, 5, 6, 7] rfl) rfl rfl rfl hG rfl hl.1 rfl (Nat.le_of_ble_eq_true rfl) dX9_guest_5 rfl ?_
  refine lv_if_eq (tgt := 27) hx hb dX9_guest_8 (by decide) (fun c3 => ?_) (fun c3 => ?_)
  · have hv := if_y c3 hv
    refine lv_iconst (v := (-1 : Int32)) hx hb dX9_guest_27 (by decide) ?_
    refine lv_topi (fun z4 ez4 => ?_)
    have hv := nm_s ez4 hv
    cases hv
    exact W.iret hx hb hr (fun t h9 _ => ⟨rfl, by rw [h9]; exact hP, hS.F h9⟩) hS.2.2 dX9_guest_28 hlk
  · have hv := if_n c3 hv
    refine lv_iload_n hx hb dX9_guest_11 rfl (lv_at hl 2 rfl) ?_
    obtain ⟨r5, h6, hv⟩ := ob_s hv
    refine rdS (rest := []) (st1 := [.int r5]) (w := []) hC q_X9_isSpan kw_2_157 (c_X9_isSpan l E p2 r5 h6) ⟨rfl, rfl⟩ ⟨Nat.le_of_ble_eq_true rfl, Nat.le_of_ble_eq_true rfl⟩ ⟨Nat.zero_le _, Nat.zero_le _⟩ (hP.sub (ws' := []) [] rfl) hG rfl hl.1 rfl (Nat.le_of_ble_eq_true rfl) dX9_guest_12 rfl ?_
    refine lv_if_eq (tgt := 27) hx hb dX9_guest_15 (by decide) (fun c7 => ?_) (fun c7 => ?_)
    · have hv := if_y c7 hv
      refine lv_iconst (v := (-1 : Int32)) hx hb dX9_guest_27 (by decide) ?_
      refine lv_topi (fun z8 ez8 => ?_)
      have hv := nm_s ez8 hv
      cases hv
      exact W.iret hx hb hr (fun t h9 _ => ⟨rfl, by rw [h9]; exact hP, hS.F h9⟩) hS.2.2 dX9_guest_28 hlk
    · have hv := if_n c7 hv
      refine lv_iload_n hx hb dX9_guest_18 rfl (lv_at hl 3 rfl) ?_
      refine lv_iconst (v := (0 : Int32)) hx hb dX9_guest_19 (by decide) ?_
      refine lv_iconst (v := (1 : Int32)) hx hb dX9_guest_20 (by decide) ?_
      obtain ⟨r9, h10, hv⟩ := ob_s hv
      refine rdS (rest := []) (st1 := [.int r9]) (w := []) hC q_X9_isWithin kw_1_168 (c_X9_isWithin l E p3 (0 : Int32) (1 : Int32) r9 h10) ⟨rfl, rfl⟩ ⟨Nat.le_of_ble_eq_true rfl, Nat.le_of_ble_eq_true rfl⟩ ⟨Nat.zero_le _, Nat.zero_le _⟩ (hP.sub (ws' := []) [] rfl) hG rfl hl.1 rfl (Nat.le_of_ble_eq_true rfl) dX9_guest_21 rfl ?_
      refine lv_if_ne (tgt := 29) hx hb dX9_guest_24 (by decide) (fun c11 => ?_) (fun c11 => ?_)
      · have hv := if_n c11 hv
        refine lv_iconst (v := (0 : Int32)) hx hb dX9_guest_29 (by decide) ?_
        refine lv_istore (lv' := [(4, .int (0 : Int32)), (0, .ref b_h), (1, .int p1), (2, .int p2), (3, .int p3)]) hx hb dX9_guest_30 hl (by decide) rfl (fun ls hl => ?_)
        refine lv_iconst (v := (-1 : Int32)) hx hb dX9_guest_32 (by decide) ?_
        refine lv_istore (lv' := [(5, .int (-1 : Int32)), (4, .int (0 : Int32)), (0, .ref b_h), (1, .int p1), (2, .int p2), (3, .int p3)]) hx hb dX9_guest_33 hl (by decide) rfl (fun ls hl => ?_)
        refine lv_iconst (v := (0 : Int32)) hx hb dX9_guest_35 (by decide) ?_
        refine lv_istore (lv' := [(6, .int (0 : Int32)), (5, .int (-1 : Int32)), (4, .int (0 : Int32)), (0, .ref b_h), (1, .int p1), (2, .int p2), (3, .int p3)]) hx hb dX9_guest_36 hl (by decide) rfl (fun ls hl => ?_)
        have hL38 : ∀ (n : Nat) (x12 : Int32) (x13 : Int32) (x14 : Int32) (y15 : Int32) (y16 : Int32) (y17 : Int32) (y18 : Int32) (y19 : Int32) (y20 : Nat → Int32) (y21 : Nat → Int32) (y22 : Nat → Int32) (y23 : Nat → Int32) (y24 : Nat → Int32) (y25 : Nat → Int32) (H : Heap) (locs : List Loc) (ls : Array Slot), va_P E.1 vwCl [oBp b_h now_h mind_h kept_h b_img rails_h sa_h, oSt now_h now_a0 now_a1 now_a2 now_a3 now_a4 now_a5 now_moving now_shut now_people now_needed now_day, ai E now_a0 10 now_height, ai E now_a1 7 now_kind, ai E now_a2 7 now_figure, ai E now_a3 7 now_rail, ai E now_a4 7 now_mood, ai E now_a5 7 now_sight, oSt mind_h mind_a0 mind_a1 mind_a2 mind_a3 mind_a4 mind_a5 y15 y16 y17 y18 y19, ai E mind_a0 10 y20, ai E mind_a1 7 y21, ai E mind_a2 7 y22, ai E mind_a3 7 y23, ai E mind_a4 7 y24, ai E mind_a5 7 y25] H → va_D A [oBp b_h now_h mind_h kept_h b_img rails_h sa_h, oSt now_h now_a0 now_a1 now_a2 now_a3 now_a4 now_a5 now_moving now_shut now_people now_needed now_day, ai E now_a0 10 now_height, ai E now_a1 7 now_kind, ai E now_a2 7 now_figure, ai E now_a3 7 now_rail, ai E now_a4 7 now_mood, ai E now_a5 7 now_sight, oSt mind_h mind_a0 mind_a1 mind_a2 mind_a3 mind_a4 mind_a5 y15 y16 y17 y18 y19, ai E mind_a0 10 y20, ai E mind_a1 7 y21, ai E mind_a2 7 y22, ai E mind_a3 7 y23, ai E mind_a4 7 y24, ai E mind_a5 7 y25] → va_S A s.heap H locs → lv_has ls 8 [(6, .int x12), (5, .int x13), (4, .int x14), (0, .ref b_h), (1, .int p1), (2, .int p2), (3, .int p3)] → L_X9_guest_38 N now_height now_kind now_figure now_rail now_mood now_shut now_people now_needed now_day p1 p2 p3 n x12 x13 x14 y15 y16 y17 y18 y19 y20 y21 y22 y23 y24 y25 = some (res, w_mind_moving, w_mind_shut, w_mind_people, w_mind_needed, w_mind_day, w_mind_height, w_mind_kind, w_mind_figure, w_mind_rail, w_mind_mood, w_mind_sight) → W p l e ({ frames := 6, cells := 0, slots := 0, locals := 133 }) s m [.ref b_h, .int p1, .int p2, .int p3].toArray below meth c H locs 0 0 (MQ below (fun _ st oc t => oc = .returned (some (.int res)) ∧ va_P E.1 vwCl [oBp b_h now_h mind_h kept_h b_img rails_h sa_h, oSt now_h now_a0 now_a1 now_a2 now_a3 now_a4 now_a5 now_moving now_shut now_people now_needed now_day, ai E now_a0 10 now_height, ai E now_a1 7 now_kind, ai E now_a2 7 now_figure, ai E now_a3 7 now_rail, ai E now_a4 7 now_mood, ai E now_a5 7 now_sight, oSt mind_h mind_a0 mind_a1 mind_a2 mind_a3 mind_a4 mind_a5 w_mind_moving w_mind_shut w_mind_people w_mind_needed w_mind_day, ai E mind_a0 10 w_mind_height, ai E mind_a1 7 w_mind_kind, ai E mind_a2 7 w_mind_figure, ai E mind_a3 7 w_mind_rail, ai E mind_a4 7 w_mind_mood, ai E mind_a5 7 w_mind_sight] t.heap ∧ va_F A st t) [.ref b_h, .int p1, .int p2, .int p3].toArray s 0 0 A) (F0 m 38 ls []) := by
          intro n
          induction n with
          | zero => intro x12 x13 x14 y15 y16 y17 y18 y19 y20 y21 y22 y23 y24 y25 H locs ls hP hD hS hl hv; cases hv
          | succ n38 ih38 =>
            intro x12 x13 x14 y15 y16 y17 y18 y19 y20 y21 y22 y23 y24 y25 H locs ls hP hD hS hl hv
            rw [L_X9_guest_38] at hv
            refine lv_iload hx hb dX9_guest_38 (lv_at hl 0 rfl) ?_
            refine lv_bipush (v := (10 : Int32)) hx hb dX9_guest_40 (by decide) ?_
            refine lv_icmp_ge (tgt := 98) hx hb dX9_guest_42 (by decide) (fun c26 => ?_) (fun c26 => ?_)
            · have hv := if_y c26 hv
              refine lv_iload_n hx hb dX9_guest_98 rfl (lv_at hl 6 rfl) ?_
              refine lv_if_ne (tgt := 107) hx hb dX9_guest_99 (by decide) (fun c27 => ?_) (fun c27 => ?_)
              · have hv := if_n c27 hv
                refine lv_iload hx hb dX9_guest_107 (lv_at hl 1 rfl) ?_
                cases hv
                exact W.iret hx hb hr (fun t h9 _ => ⟨rfl, by rw [h9]; exact hP, hS.F h9⟩) hS.2.2 dX9_guest_109 hlk
              · have hv := if_y c27 hv
                refine lv_iload hx hb dX9_guest_102 (lv_at hl 2 rfl) ?_
                refine lv_goto (tgt := 109) hx hb dX9_guest_104 (by decide) ?_
                cases hv
                exact W.iret hx hb hr (fun t h9 _ => ⟨rfl, by rw [h9]; exact hP, hS.F h9⟩) hS.2.2 dX9_guest_109 hlk
            · have hv := if_n c26 hv
              refine lv_aload_n hx hb dX9_guest_45 rfl (lv_at hl 3 rfl) ?_
              refine va_get (D := E.1) (ci := 3) (v := .ref mind_h) (C := RX9) (T := TX9) (N := 6) hx hb ht i_X9 hown hK hP 0 rfl rfl 1 (by decide) (ht _ kw_1_139) (fun _ h9 => h9) rfl dX9_guest_46 ?_
              refine lv_aload_n hx hb dX9_guest_49 rfl (lv_at hl 3 rfl) ?_
              refine va_get (D := E.1) (ci := 3) (v := .ref now_h) (C := RX9) (T := TX9) (N := 6) hx hb ht i_X9 hown hK hP 0 rfl rfl 0 (by decide) (ht _ kw_1_138) (fun _ h9 => h9) rfl dX9_guest_50 ?_
              obtain ⟨⟨y28, y29, y30, y31, y32, y33, y34, y35, y36⟩, h37, hv⟩ := ob_s hv
              refine wrV (as := [b_h, now_h, now_a0, now_a1, now_a2, now_a3, now_a4, now_a5, mind_h, mind_a0, mind_a1, mind_a2, mind_a3, mind_a4, mind_a5]) (wr := [oBp b_h now_h mind_h kept_h b_img rails_h sa_h]) [8, 9, 10, 11, 12, 13, 14, 1, 2, 3, 4, 5, 6, 7] [0] 2 0 (ws := [oBp b_h now_h mind_h kept_h b_img rails_h sa_h, oSt now_h now_a0 now_a1 now_a2 now_a3 now_a4 now_a5 now_moving now_shut now_people now_needed now_day, ai E now_a0 10 now_height, ai E now_a1 7 now_kind, ai E now_a2 7 now_figure, ai E now_a3 7 now_rail, ai E now_a4 7 now_mood, ai E now_a5 7 now_sight, oSt mind_h mind_a0 mind_a1 mind_a2 mind_a3 mind_a4 mind_a5 y15 y16 y17 y18 y19, ai E mind_a0 10 y20, ai E mind_a1 7 y21, ai E mind_a2 7 y22, ai E mind_a3 7 y23, ai E mind_a4 7 y24, ai E mind_a5 7 y25]) (ws' := [oBp b_h now_h mind_h kept_h b_img rails_h sa_h, oSt now_h now_a0 now_a1 now_a2 now_a3 now_a4 now_a5 now_moving now_shut now_people now_needed now_day, ai E now_a0 10 now_height, ai E now_a1 7 now_kind, ai E now_a2 7 now_figure, ai E now_a3 7 now_rail, ai E now_a4 7 now_mood, ai E now_a5 7 now_sight, oSt mind_h mind_a0 mind_a1 mind_a2 mind_a3 mind_a4 mind_a5 y15 y28 y29 y30 y31, ai E mind_a0 10 y32, ai E mind_a1 7 y33, ai E mind_a2 7 y34, ai E mind_a3 7 y35, ai E mind_a4 7 y36, ai E mind_a5 7 y25]) (As := [.ref now_h]) (rest := []) (st1 := []) hC q_X8_become kw_1_171 (c_X8_become l E mind_h mind_a0 mind_a1 mind_a2 mind_a3 mind_a4 mind_a5 now_h now_a0 now_a1 now_a2 now_a3 now_a4 now_a5 y20 y21 y22 y23 y24 y25 y15 y16 y17 y18 y19 now_height now_kind now_figure now_rail now_mood now_sight now_moving now_shut now_people now_needed now_day y28 y29 y30 y31 y32 y33 y34 y35 y36 h37) ⟨rfl, rfl⟩ ⟨Nat.le_of_ble_eq_true rfl, Nat.le_of_ble_eq_true rfl⟩ ⟨Nat.zero_le _, Nat.zero_le _⟩ hP hD hS hA rfl rfl rfl hG (by decide) rfl rfl rfl rfl rfl rfl rfl rfl hl.1 rfl (Nat.le_of_ble_eq_true rfl) dX9_guest_53 rfl (fun H locs hP hD hS => ?_)
              refine lv_aload_n hx hb dX9_guest_56 rfl (lv_at hl 3 rfl) ?_
              refine va_get (D := E.1) (ci := 3) (v := .ref mind_h) (C := RX9) (T := TX9) (N := 6) hx hb ht i_X9 hown hK hP 0 rfl rfl 1 (by decide) (ht _ kw_1_139) (fun _ h9 => h9) rfl dX9_guest_57 ?_
              refine va_get (D := E.1) (ci := 2) (v := .ref mind_a3) (C := RX8) (T := TX8) (N := 11) hx hb ht i_X8 hown hK hP 8 rfl rfl 3 (by decide) (ht _ kw_1_44) (fun _ h9 => h9) rfl dX9_guest_60 ?_
              refine lv_iload_n hx hb dX9_guest_63 rfl (lv_at hl 4 rfl) ?_
              refine lv_iload hx hb dX9_guest_64 (lv_at hl 0 rfl) ?_
              obtain ⟨g38, hv⟩ := gd_s hv
              refine va_iast hx hb hK hP hD hS 12 0 rfl rfl (ix_s g38) dX9_guest_66 (fun H locs hP hD hS => ?_)
              have hP : va_P E.1 vwCl [oBp b_h now_h mind_h kept_h b_img rails_h sa_h, oSt now_h now_a0 now_a1 now_a2 now_a3 now_a4 now_a5 now_moving now_shut now_people now_needed now_day, ai E now_a0 10 now_height, ai E now_a1 7 now_kind, ai E now_a2 7 now_figure, ai E now_a3 7 now_rail, ai E now_a4 7 now_mood, ai E now_a5 7 now_sight, oSt mind_h mind_a0 mind_a1 mind_a2 mind_a3 mind_a4 mind_a5 y15 y28 y29 y30 y31, ai E mind_a0 10 y32, ai E mind_a1 7 y33, ai E mind_a2 7 y34, ai E mind_a3 7 (upd y35 p1.toNatClampNeg x12), ai E mind_a4 7 y36, ai E mind_a5 7 y25] H := hP
              have hD : va_D A [oBp b_h now_h mind_h kept_h b_img rails_h sa_h, oSt now_h now_a0 now_a1 now_a2 now_a3 now_a4 now_a5 now_moving now_shut now_people now_needed now_day, ai E now_a0 10 now_height, ai E now_a1 7 now_kind, ai E now_a2 7 now_figure, ai E now_a3 7 now_rail, ai E now_a4 7 now_mood, ai E now_a5 7 now_sight, oSt mind_h mind_a0 mind_a1 mind_a2 mind_a3 mind_a4 mind_a5 y15 y28 y29 y30 y31, ai E mind_a0 10 y32, ai E mind_a1 7 y33, ai E mind_a2 7 y34, ai E mind_a3 7 (upd y35 p1.toNatClampNeg x12), ai E mind_a4 7 y36, ai E mind_a5 7 y25] := hD
              obtain ⟨f39, ef39⟩ : ∃ z, z = (upd y35 p1.toNatClampNeg x12) := ⟨_, rfl⟩
              rw [← ef39] at hP hD
              have hv := nm_s ef39 hv
              refine lv_aload_n hx hb dX9_guest_67 rfl (lv_at hl 3 rfl) ?_
              refine va_get (D := E.1) (ci := 3) (v := .ref mind_h) (C := RX9) (T := TX9) (N := 6) hx hb ht i_X9 hown hK hP 0 rfl rfl 1 (by decide) (ht _ kw_1_139) (fun _ h9 => h9) rfl dX9_guest_68 ?_
              refine lv_iload_n hx hb dX9_guest_71 rfl (lv_at hl 5 rfl) ?_
              obtain ⟨⟨r40, y41, y42, y43, y44⟩, h45, hv⟩ := ob_s hv
              refine wrV (as := [b_h, now_h, now_a0, now_a1, now_a2, now_a3, now_a4, now_a5, mind_h, mind_a0, mind_a1, mind_a2, mind_a3, mind_a4, mind_a5]) (wr := [oBp b_h now_h mind_h kept_h b_img rails_h sa_h, oSt now_h now_a0 now_a1 now_a2 now_a3 now_a4 now_a5 now_moving now_shut now_people now_needed now_day, ai E now_a0 10 now_height, ai E now_a1 7 now_kind, ai E now_a2 7 now_figure, ai E now_a3 7 now_rail, ai E now_a4 7 now_mood, ai E now_a5 7 now_sight]) [8, 9, 10, 11, 12, 13, 14] [0, 1, 2, 3, 4, 5, 6, 7] 2 0 (ws := [oBp b_h now_h mind_h kept_h b_img rails_h sa_h, oSt now_h now_a0 now_a1 now_a2 now_a3 now_a4 now_a5 now_moving now_shut now_people now_needed now_day, ai E now_a0 10 now_height, ai E now_a1 7 now_kind, ai E now_a2 7 now_figure, ai E now_a3 7 now_rail, ai E now_a4 7 now_mood, ai E now_a5 7 now_sight, oSt mind_h mind_a0 mind_a1 mind_a2 mind_a3 mind_a4 mind_a5 y15 y28 y29 y30 y31, ai E mind_a0 10 y32, ai E mind_a1 7 y33, ai E mind_a2 7 y34, ai E mind_a3 7 f39, ai E mind_a4 7 y36, ai E mind_a5 7 y25]) (ws' := [oBp b_h now_h mind_h kept_h b_img rails_h sa_h, oSt now_h now_a0 now_a1 now_a2 now_a3 now_a4 now_a5 now_moving now_shut now_people now_needed now_day, ai E now_a0 10 now_height, ai E now_a1 7 now_kind, ai E now_a2 7 now_figure, ai E now_a3 7 now_rail, ai E now_a4 7 now_mood, ai E now_a5 7 now_sight, oSt mind_h mind_a0 mind_a1 mind_a2 mind_a3 mind_a4 mind_a5 y41 y28 y29 y30 y42, ai E mind_a0 10 y32, ai E mind_a1 7 y33, ai E mind_a2 7 y34, ai E mind_a3 7 f39, ai E mind_a4 7 y43, ai E mind_a5 7 y44]) (As := [.int p2]) (rest := []) (st1 := [.int r40]) hC q_X8_carriedDays kw_2_174 (c_X8_carriedDays l E mind_h mind_a0 mind_a1 mind_a2 mind_a3 mind_a4 mind_a5 y32 y33 y34 f39 y36 y25 y15 y28 y29 y30 y31 p2 N r40 y41 y42 y43 y44 h45) ⟨rfl, rfl⟩ ⟨Nat.le_of_ble_eq_true rfl, Nat.le_of_ble_eq_true rfl⟩ ⟨Nat.zero_le _, Nat.zero_le _⟩ hP hD hS hA rfl rfl rfl hG (by decide) rfl rfl rfl rfl rfl rfl rfl rfl hl.1 rfl (Nat.le_of_ble_eq_true rfl) dX9_guest_72 rfl (fun H locs hP hD hS => ?_)
              refine lv_istore (lv' := [(7, .int r40), (6, .int x12), (5, .int x13), (4, .int x14), (0, .ref b_h), (1, .int p1), (2, .int p2), (3, .int p3)]) hx hb dX9_guest_75 hl (by decide) rfl (fun ls hl => ?_)
              refine lv_iload hx hb dX9_guest_77 (lv_at hl 0 rfl) ?_
              refine lv_iload hx hb dX9_guest_79 (lv_at hl 2 rfl) ?_
              refine lv_icmp_le (tgt := 92) hx hb dX9_guest_81 (by decide) (fun c46 => ?_) (fun c46 => ?_)
              · have hv := if_y c46 hv
                refine lv_iinc (v := (x12 + (1 : Int32))) (lv' := [(6, .int (x12 + (1 : Int32))), (7, .int r40), (5, .int x13), (4, .int x14), (0, .ref b_h), (1, .int p1), (2, .int p2), (3, .int p3)]) hx hb dX9_guest_92 hl (k := 1) rfl rfl (by decide) rfl (fun ls hl => ?_)
                refine lv_goto (tgt := 38) hx hb dX9_guest_95 (by decide) ?_
                exact ih38 (x12 + (1 : Int32)) x13 x14 y41 y28 y29 y30 y42 y32 y33 y34 f39 y43 y44 _ _ _ hP hD hS (lv_sub hl [0, 2, 3, 4, 5, 6, 7] rfl) hv
              · have hv := if_n c46 hv
                refine lv_iload hx hb dX9_guest_84 (lv_at hl 0 rfl) ?_
                refine lv_istore (lv' := [(5, .int r40), (7, .int r40), (6, .int x12), (4, .int x14), (0, .ref b_h), (1, .int p1), (2, .int p2), (3, .int p3)]) hx hb dX9_guest_86 hl (by decide) rfl (fun ls hl => ?_)
                refine lv_iload hx hb dX9_guest_88 (lv_at hl 2 rfl) ?_
                refine lv_istore (lv' := [(4, .int x12), (5, .int r40), (7, .int r40), (6, .int x12), (0, .ref b_h), (1, .int p1), (2, .int p2), (3, .int p3)]) hx hb dX9_guest_90 hl (by decide) rfl (fun ls hl => ?_)
                refine lv_iinc (v := (x12 + (1 : Int32))) (lv' := [(6, .int (x12 + (1 : Int32))), (4, .int x12), (5, .int r40), (7, .int r40), (0, .ref b_h), (1, .int p1), (2, .int p2), (3, .int p3)]) hx hb dX9_guest_92 hl (k := 3) rfl rfl (by decide) rfl (fun ls hl => ?_)
                refine lv_goto (tgt := 38) hx hb dX9_guest_95 (by decide) ?_
                exact ih38 (x12 + (1 : Int32)) r40 x12 y41 y28 y29 y30 y42 y32 y33 y34 f39 y43 y44 _ _ _ hP hD hS (lv_sub hl [0, 2, 1, 4, 5, 6, 7] rfl) hv
        exact hL38 N (0 : Int32) (-1 : Int32) (0 : Int32) mind_moving mind_shut mind_people mind_needed mind_day mind_height mind_kind mind_figure mind_rail mind_mood mind_sight _ _ _ hP hD hS (lv_sub hl [0, 1, 2, 3, 4, 5, 6] rfl) hv
      · have hv := if_y c11 hv
        refine lv_iconst (v := (-1 : Int32)) hx hb dX9_guest_27 (by decide) ?_
        refine lv_topi (fun z47 ez47 => ?_)
        have hv := nm_s ez47 hv
        cases hv
        exact W.iret hx hb hr (fun t h9 _ => ⟨rfl, by rw [h9]; exact hP, hS.F h9⟩) hS.2.2 dX9_guest_28 hlk
theorem dX9_shutter_0 : decode cX9_shutter 0 = .ok (.iload_n 1, 1) := by decide +kernel
theorem dX9_shutter_1 : decode cX9_shutter 1 = .ok (.invokestatic 154, 3) := by decide +kernel
theorem dX9_shutter_4 : decode cX9_shutter 4 = .ok (.ifCond .ne 5, 3) := by decide +kernel
theorem dX9_shutter_7 : decode cX9_shutter 7 = .ok (.iconst (-1), 1) := by decide +kernel
theorem dX9_shutter_8 : decode cX9_shutter 8 = .ok (.ireturn, 1) := by decide +kernel
theorem dX9_shutter_9 : decode cX9_shutter 9 = .ok (.aload_n 0, 1) := by decide +kernel
theorem dX9_shutter_10 : decode cX9_shutter 10 = .ok (.getfield 16, 3) := by decide +kernel
theorem dX9_shutter_13 : decode cX9_shutter 13 = .ok (.aload_n 0, 1) := by decide +kernel
theorem dX9_shutter_14 : decode cX9_shutter 14 = .ok (.getfield 12, 3) := by decide +kernel
theorem dX9_shutter_17 : decode cX9_shutter 17 = .ok (.invokevirtual 48, 3) := by decide +kernel
theorem dX9_shutter_20 : decode cX9_shutter 20 = .ok (.aload_n 0, 1) := by decide +kernel
theorem dX9_shutter_21 : decode cX9_shutter 21 = .ok (.getfield 16, 3) := by decide +kernel
theorem dX9_shutter_24 : decode cX9_shutter 24 = .ok (.iload_n 1, 1) := by decide +kernel
theorem dX9_shutter_25 : decode cX9_shutter 25 = .ok (.invokevirtual 163, 3) := by decide +kernel
theorem dX9_shutter_28 : decode cX9_shutter 28 = .ok (.istore_n 2, 1) := by decide +kernel
theorem dX9_shutter_29 : decode cX9_shutter 29 = .ok (.bipush (-4), 2) := by decide +kernel
theorem dX9_shutter_31 : decode cX9_shutter 31 = .ok (.istore_n 3, 1) := by decide +kernel
theorem dX9_shutter_32 : decode cX9_shutter 32 = .ok (.iconst 0, 1) := by decide +kernel
theorem dX9_shutter_33 : decode cX9_shutter 33 = .ok (.istore 4, 2) := by decide +kernel
theorem dX9_shutter_35 : decode cX9_shutter 35 = .ok (.iload 4, 2) := by decide +kernel
theorem dX9_shutter_37 : decode cX9_shutter 37 = .ok (.bipush 10, 2) := by decide +kernel
theorem dX9_shutter_39 : decode cX9_shutter 39 = .ok (.if_icmp .ge 51, 3) := by decide +kernel
theorem dX9_shutter_42 : decode cX9_shutter 42 = .ok (.aload_n 0, 1) := by decide +kernel
theorem dX9_shutter_43 : decode cX9_shutter 43 = .ok (.getfield 16, 3) := by decide +kernel
theorem dX9_shutter_46 : decode cX9_shutter 46 = .ok (.aload_n 0, 1) := by decide +kernel
theorem dX9_shutter_47 : decode cX9_shutter 47 = .ok (.getfield 12, 3) := by decide +kernel
theorem dX9_shutter_50 : decode cX9_shutter 50 = .ok (.invokevirtual 48, 3) := by decide +kernel
theorem dX9_shutter_53 : decode cX9_shutter 53 = .ok (.aload_n 0, 1) := by decide +kernel
theorem dX9_shutter_54 : decode cX9_shutter 54 = .ok (.getfield 16, 3) := by decide +kernel
theorem dX9_shutter_57 : decode cX9_shutter 57 = .ok (.iload 4, 2) := by decide +kernel
theorem dX9_shutter_59 : decode cX9_shutter 59 = .ok (.invokevirtual 122, 3) := by decide +kernel
theorem dX9_shutter_62 : decode cX9_shutter 62 = .ok (.aload_n 0, 1) := by decide +kernel
theorem dX9_shutter_63 : decode cX9_shutter 63 = .ok (.getfield 16, 3) := by decide +kernel
theorem dX9_shutter_66 : decode cX9_shutter 66 = .ok (.iload_n 1, 1) := by decide +kernel
theorem dX9_shutter_67 : decode cX9_shutter 67 = .ok (.invokevirtual 163, 3) := by decide +kernel
theorem dX9_shutter_70 : decode cX9_shutter 70 = .ok (.istore 5, 2) := by decide +kernel
theorem dX9_shutter_72 : decode cX9_shutter 72 = .ok (.iload 5, 2) := by decide +kernel
theorem dX9_shutter_74 : decode cX9_shutter 74 = .ok (.iload_n 2, 1) := by decide +kernel
theorem dX9_shutter_75 : decode cX9_shutter 75 = .ok (.if_icmp .le 9, 3) := by decide +kernel
theorem dX9_shutter_78 : decode cX9_shutter 78 = .ok (.iload 5, 2) := by decide +kernel
theorem dX9_shutter_80 : decode cX9_shutter 80 = .ok (.istore_n 2, 1) := by decide +kernel
theorem dX9_shutter_81 : decode cX9_shutter 81 = .ok (.iload 4, 2) := by decide +kernel
theorem dX9_shutter_83 : decode cX9_shutter 83 = .ok (.istore_n 3, 1) := by decide +kernel
theorem dX9_shutter_84 : decode cX9_shutter 84 = .ok (.iinc 4 1, 3) := by decide +kernel
theorem dX9_shutter_87 : decode cX9_shutter 87 = .ok (.goto (-52), 3) := by decide +kernel
theorem dX9_shutter_90 : decode cX9_shutter 90 = .ok (.iload_n 3, 1) := by decide +kernel
theorem dX9_shutter_91 : decode cX9_shutter 91 = .ok (.ireturn, 1) := by decide +kernel
def L_X9_shutter_35 (N : Nat) (now_height : Nat → Int32) (now_kind : Nat → Int32) (now_figure : Nat → Int32) (now_rail : Nat → Int32) (now_mood : Nat → Int32) (now_shut : Int32) (now_people : Int32) (now_needed : Int32) (now_day : Int32) (p1 : Int32) : Nat → Int32 → Int32 → Int32 → Int32 → Int32 → Int32 → Int32 → Int32 → (Nat → Int32) → (Nat → Int32) → (Nat → Int32) → (Nat → Int32) → (Nat → Int32) → (Nat → Int32) → Option (Int32 × Int32 × Int32 × Int32 × Int32 × Int32 × (Nat → Int32) × (Nat → Int32) × (Nat → Int32) × (Nat → Int32) × (Nat → Int32) × (Nat → Int32))
  | 0, _, _, _, _, _, _, _, _, _, _, _, _, _, _ => none
  | n35 + 1, x20, x21, x22, y23, y24, y25, y26, y27, y28, y29, y30, y31, y32, y33 => if (10 : Int32) ≤ x20 then some (x21, y23, y24, y25, y26, y27, y28, y29, y30, y31, y32, y33) else ob (f_X8_become now_height now_kind now_figure now_rail now_mood now_shut now_people now_needed now_day) (fun (y35, y36, y37, y38, y39, y40, y41, y42, y43) => ob (f_X8_turnShutter y35 x20) (fun y45 => ob (f_X8_carriedDays N y39 y40 y41 y42 y43 y33 y45 y36 y37 y38 p1) (fun (r47, y48, y49, y50, y51) => if r47 ≤ x22 then L_X9_shutter_35 N now_height now_kind now_figure now_rail now_mood now_shut now_people now_needed now_day p1 n35 (x20 + (1 : Int32)) x21 x22 y48 y45 y36 y37 y49 y39 y40 y41 y42 y50 y51 else L_X9_shutter_35 N now_height now_kind now_figure now_rail now_mood now_shut now_people now_needed now_day p1 n35 (x20 + (1 : Int32)) x20 r47 y48 y45 y36 y37 y49 y39 y40 y41 y42 y50 y51)))
def f_X9_shutter (N : Nat) (now_height : Nat → Int32) (now_kind : Nat → Int32) (now_figure : Nat → Int32) (now_rail : Nat → Int32) (now_mood : Nat → Int32) (now_shut : Int32) (now_people : Int32) (now_needed : Int32) (now_day : Int32) (mind_height : Nat → Int32) (mind_kind : Nat → Int32) (mind_figure : Nat → Int32) (mind_rail : Nat → Int32) (mind_mood : Nat → Int32) (mind_sight : Nat → Int32) (mind_moving : Int32) (mind_shut : Int32) (mind_people : Int32) (mind_needed : Int32) (mind_day : Int32) (p1 : Int32) : Option (Int32 × Int32 × Int32 × Int32 × Int32 × Int32 × (Nat → Int32) × (Nat → Int32) × (Nat → Int32) × (Nat → Int32) × (Nat → Int32) × (Nat → Int32)) := ob (f_X9_isSpan p1) (fun r1 => if r1 = 0 then nm (-1 : Int32) (fun z54 => some (z54, mind_moving, mind_shut, mind_people, mind_needed, mind_day, mind_height, mind_kind, mind_figure, mind_rail, mind_mood, mind_sight)) else ob (f_X8_become now_height now_kind now_figure now_rail now_mood now_shut now_people now_needed now_day) (fun (y4, y5, y6, y7, y8, y9, y10, y11, y12) => ob (f_X8_carriedDays N y8 y9 y10 y11 y12 mind_sight y4 y5 y6 y7 p1) (fun (r14, y15, y16, y17, y18) => L_X9_shutter_35 N now_height now_kind now_figure now_rail now_mood now_shut now_people now_needed now_day p1 N (0 : Int32) (-4 : Int32) r14 y15 y4 y5 y6 y16 y8 y9 y10 y11 y17 y18)))
set_option maxHeartbeats 4000000 in
set_option maxRecDepth 100000 in
theorem c_X9_shutter (l : Launch) (E : EE) (b_h : Nat) (now_h : Nat) (mind_h : Nat) (kept_h : Nat) (rails_h : Nat) (sa_h : Nat) (now_a0 : Nat) (now_a1 : Nat) (now_a2 : Nat) (now_a3 : Nat) (now_a4 : Nat) (now_a5 : Nat) (mind_a0 : Nat) (mind_a1 : Nat) (mind_a2 : Nat) (mind_a3 : Nat) (mind_a4 : Nat) (mind_a5 : Nat) (b_img : Int32) (now_height : Nat → Int32) (now_kind : Nat → Int32) (now_figure : Nat → Int32) (now_rail : Nat → Int32) (now_mood : Nat → Int32) (now_sight : Nat → Int32) (now_moving : Int32) (now_shut : Int32) (now_people : Int32) (now_needed : Int32) (now_day : Int32) (mind_height : Nat → Int32) (mind_kind : Nat → Int32) (mind_figure : Nat → Int32) (mind_rail : Nat → Int32) (mind_mood : Nat → Int32) (mind_sight : Nat → Int32) (mind_moving : Int32) (mind_shut : Int32) (mind_people : Int32) (mind_needed : Int32) (mind_day : Int32) (p1 : Int32) (N : Nat) (res : Int32) (w_mind_moving : Int32) (w_mind_shut : Int32) (w_mind_people : Int32) (w_mind_needed : Int32) (w_mind_day : Int32) (w_mind_height : Nat → Int32) (w_mind_kind : Nat → Int32) (w_mind_figure : Nat → Int32) (w_mind_rail : Nat → Int32) (w_mind_mood : Nat → Int32) (w_mind_sight : Nat → Int32) (hv : f_X9_shutter N now_height now_kind now_figure now_rail now_mood now_shut now_people now_needed now_day mind_height mind_kind mind_figure mind_rail mind_mood mind_sight mind_moving mind_shut mind_people mind_needed mind_day p1 = some (res, w_mind_moving, w_mind_shut, w_mind_people, w_mind_needed, w_mind_day, w_mind_height, w_mind_kind, w_mind_figure, w_mind_rail, w_mind_mood, w_mind_sight)) : Wr l E yX9_shutter cX9_shutter 6 (some .int) ({ frames := 6, cells := 0, slots := 0, locals := 133 }) [.ref b_h, .int p1] [oBp b_h now_h mind_h kept_h b_img rails_h sa_h, oSt now_h now_a0 now_a1 now_a2 now_a3 now_a4 now_a5 now_moving now_shut now_people now_needed now_day, ai E now_a0 10 now_height, ai E now_a1 7 now_kind, ai E now_a2 7 now_figure, ai E now_a3 7 now_rail, ai E now_a4 7 now_mood, ai E now_a5 7 now_sight, oSt mind_h mind_a0 mind_a1 mind_a2 mind_a3 mind_a4 mind_a5 mind_moving mind_shut mind_people mind_needed mind_day, ai E mind_a0 10 mind_height, ai E mind_a1 7 mind_kind, ai E mind_a2 7 mind_figure, ai E mind_a3 7 mind_rail, ai E mind_a4 7 mind_mood, ai E mind_a5 7 mind_sight] [oBp b_h now_h mind_h kept_h b_img rails_h sa_h, oSt now_h now_a0 now_a1 now_a2 now_a3 now_a4 now_a5 now_moving now_shut now_people now_needed now_day, ai E now_a0 10 now_height, ai E now_a1 7 now_kind, ai E now_a2 7 now_figure, ai E now_a3 7 now_rail, ai E now_a4 7 now_mood, ai E now_a5 7 now_sight, oSt mind_h mind_a0 mind_a1 mind_a2 mind_a3 mind_a4 mind_a5 w_mind_moving w_mind_shut w_mind_people w_mind_needed w_mind_day, ai E mind_a0 10 w_mind_height, ai E mind_a1 7 w_mind_kind, ai E mind_a2 7 w_mind_figure, ai E mind_a3 7 w_mind_rail, ai E mind_a4 7 w_mind_mood, ai E mind_a5 7 w_mind_sight] (some (.int res)) := by
  refine Wr.intro RX9 (by decide) rfl (Nat.le_of_ble_eq_true rfl) ?_
  intro p e s m below meth c ls A hC hr hlk hmn hP hD hS hA hG hl
  obtain ⟨hx, hb, hml, hown, ht⟩ := id hC
  have hK := hG.1
  have hl : lv_has ls 6 [(0, .ref b_h), (1, .int p1)] := hl
  rw [f_X9_shutter] at hv
  refine lv_iload_n hx hb dX9_shutter_0 rfl (lv_at hl 1 rfl) ?_
  obtain ⟨r1, h2, hv⟩ := ob_s hv
  refine rdS (rest := []) (st1 := [.int r1]) (w := []) hC q_X9_isSpan kw_2_157 (c_X9_isSpan l E p1 r1 h2) ⟨rfl, rfl⟩ ⟨Nat.le_of_ble_eq_true rfl, Nat.le_of_ble_eq_true rfl⟩ ⟨Nat.zero_le _, Nat.zero_le _⟩ (hP.sub (ws' := []) [] rfl) hG rfl hl.1 rfl (Nat.le_of_ble_eq_true rfl) dX9_shutter_1 rfl ?_
  refine lv_if_ne (tgt := 9) hx hb dX9_shutter_4 (by decide) (fun c3 => ?_) (fun c3 => ?_)
  · have hv := if_n c3 hv
    refine lv_aload_n hx hb dX9_shutter_9 rfl (lv_at hl 0 rfl) ?_
    refine va_get (D := E.1) (ci := 3) (v := .ref mind_h) (C := RX9) (T := TX9) (N := 6) hx hb ht i_X9 hown hK hP 0 rfl rfl 1 (by decide) (ht _ kw_1_139) (fun _ h9 => h9) rfl dX9_shutter_10 ?_
    refine lv_aload_n hx hb dX9_shutter_13 rfl (lv_at hl 0 rfl) ?_
    refine va_get (D := E.1) (ci := 3) (v := .ref now_h) (C := RX9) (T := TX9) (N := 6) hx hb ht i_X9 hown hK hP 0 rfl rfl 0 (by decide) (ht _ kw_1_138) (fun _ h9 => h9) rfl dX9_shutter_14 ?_
    obtain ⟨⟨y4, y5, y6, y7, y8, y9, y10, y11, y12⟩, h13, hv⟩ := ob_s hv
    refine wrV (as := [b_h, now_h, now_a0, now_a1, now_a2, now_a3, now_a4, now_a5, mind_h, mind_a0, mind_a1, mind_a2, mind_a3, mind_a4, mind_a5]) (wr := [oBp b_h now_h mind_h kept_h b_img rails_h sa_h]) [8, 9, 10, 11, 12, 13, 14, 1, 2, 3, 4, 5, 6, 7] [0] 2 0 (ws := [oBp b_h now_h mind_h kept_h b_img rails_h sa_h, oSt now_h now_a0 now_a1 now_a2 now_a3 now_a4 now_a5 now_moving now_shut now_people now_needed now_day, ai E now_a0 10 now_height, ai E now_a1 7 now_kind, ai E now_a2 7 now_figure, ai E now_a3 7 now_rail, ai E now_a4 7 now_mood, ai E now_a5 7 now_sight, oSt mind_h mind_a0 mind_a1 mind_a2 mind_a3 mind_a4 mind_a5 mind_moving mind_shut mind_people mind_needed mind_day, ai E mind_a0 10 mind_height, ai E mind_a1 7 mind_kind, ai E mind_a2 7 mind_figure, ai E mind_a3 7 mind_rail, ai E mind_a4 7 mind_mood, ai E mind_a5 7 mind_sight]) (ws' := [oBp b_h now_h mind_h kept_h b_img rails_h sa_h, oSt now_h now_a0 now_a1 now_a2 now_a3 now_a4 now_a5 now_moving now_shut now_people now_needed now_day, ai E now_a0 10 now_height, ai E now_a1 7 now_kind, ai E now_a2 7 now_figure, ai E now_a3 7 now_rail, ai E now_a4 7 now_mood, ai E now_a5 7 now_sight, oSt mind_h mind_a0 mind_a1 mind_a2 mind_a3 mind_a4 mind_a5 mind_moving y4 y5 y6 y7, ai E mind_a0 10 y8, ai E mind_a1 7 y9, ai E mind_a2 7 y10, ai E mind_a3 7 y11, ai E mind_a4 7 y12, ai E mind_a5 7 mind_sight]) (As := [.ref now_h]) (rest := []) (st1 := []) hC q_X8_become kw_1_171 (c_X8_become l E mind_h mind_a0 mind_a1 mind_a2 mind_a3 mind_a4 mind_a5 now_h now_a0 now_a1 now_a2 now_a3 now_a4 now_a5 mind_height mind_kind mind_figure mind_rail mind_mood mind_sight mind_moving mind_shut mind_people mind_needed mind_day now_height now_kind now_figure now_rail now_mood now_sight now_moving now_shut now_people now_needed now_day y4 y5 y6 y7 y8 y9 y10 y11 y12 h13) ⟨rfl, rfl⟩ ⟨Nat.le_of_ble_eq_true rfl, Nat.le_of_ble_eq_true rfl⟩ ⟨Nat.zero_le _, Nat.zero_le _⟩ hP hD hS hA rfl rfl rfl hG (by decide) rfl rfl rfl rfl rfl rfl rfl rfl hl.1 rfl (Nat.le_of_ble_eq_true rfl) dX9_shutter_17 rfl (fun H locs hP hD hS => ?_)
    refine lv_aload_n hx hb dX9_shutter_20 rfl (lv_at hl 0 rfl) ?_
    refine va_get (D := E.1) (ci := 3) (v := .ref mind_h) (C := RX9) (T := TX9) (N := 6) hx hb ht i_X9 hown hK hP 0 rfl rfl 1 (by decide) (ht _ kw_1_139) (fun _ h9 => h9) rfl dX9_shutter_21 ?_
    refine lv_iload_n hx hb dX9_shutter_24 rfl (lv_at hl 1 rfl) ?_
    obtain ⟨⟨r14, y15, y16, y17, y18⟩, h19, hv⟩ := ob_s hv
    refine wrV (as := [b_h, now_h, now_a0, now_a1, now_a2, now_a3, now_a4, now_a5, mind_h, mind_a0, mind_a1, mind_a2, mind_a3, mind_a4, mind_a5]) (wr := [oBp b_h now_h mind_h kept_h b_img rails_h sa_h, oSt now_h now_a0 now_a1 now_a2 now_a3 now_a4 now_a5 now_moving now_shut now_people now_needed now_day, ai E now_a0 10 now_height, ai E now_a1 7 now_kind, ai E now_a2 7 now_figure, ai E now_a3 7 now_rail, ai E now_a4 7 now_mood, ai E now_a5 7 now_sight]) [8, 9, 10, 11, 12, 13, 14] [0, 1, 2, 3, 4, 5, 6, 7] 2 0 (ws := [oBp b_h now_h mind_h kept_h b_img rails_h sa_h, oSt now_h now_a0 now_a1 now_a2 now_a3 now_a4 now_a5 now_moving now_shut now_people now_needed now_day, ai E now_a0 10 now_height, ai E now_a1 7 now_kind, ai E now_a2 7 now_figure, ai E now_a3 7 now_rail, ai E now_a4 7 now_mood, ai E now_a5 7 now_sight, oSt mind_h mind_a0 mind_a1 mind_a2 mind_a3 mind_a4 mind_a5 mind_moving y4 y5 y6 y7, ai E mind_a0 10 y8, ai E mind_a1 7 y9, ai E mind_a2 7 y10, ai E mind_a3 7 y11, ai E mind_a4 7 y12, ai E mind_a5 7 mind_sight]) (ws' := [oBp b_h now_h mind_h kept_h b_img rails_h sa_h, oSt now_h now_a0 now_a1 now_a2 now_a3 now_a4 now_a5 now_moving now_shut now_people now_needed now_day, ai E now_a0 10 now_height, ai E now_a1 7 now_kind, ai E now_a2 7 now_figure, ai E now_a3 7 now_rail, ai E now_a4 7 now_mood, ai E now_a5 7 now_sight, oSt mind_h mind_a0 mind_a1 mind_a2 mind_a3 mind_a4 mind_a5 y15 y4 y5 y6 y16, ai E mind_a0 10 y8, ai E mind_a1 7 y9, ai E mind_a2 7 y10, ai E mind_a3 7 y11, ai E mind_a4 7 y17, ai E mind_a5 7 y18]) (As := [.int p1]) (rest := []) (st1 := [.int r14]) hC q_X8_carriedDays kw_2_174 (c_X8_carriedDays l E mind_h mind_a0 mind_a1 mind_a2 mind_a3 mind_a4 mind_a5 y8 y9 y10 y11 y12 mind_sight mind_moving y4 y5 y6 y7 p1 N r14 y15 y16 y17 y18 h19) ⟨rfl, rfl⟩ ⟨Nat.le_of_ble_eq_true rfl, Nat.le_of_ble_eq_true rfl⟩ ⟨Nat.zero_le _, Nat.zero_le _⟩ hP hD hS hA rfl rfl rfl hG (by decide) rfl rfl rfl rfl rfl rfl rfl rfl hl.1 rfl (Nat.le_of_ble_eq_true rfl) dX9_shutter_25 rfl (fun H locs hP hD hS => ?_)
    refine lv_istore_n (lv' := [(2, .int r14), (0, .ref b_h), (1, .int p1)]) hx hb dX9_shutter_28 rfl hl (by decide) rfl (fun ls hl => ?_)
    refine lv_bipush (v := (-4 : Int32)) hx hb dX9_shutter_29 (by decide) ?_
    refine lv_istore_n (lv' := [(3, .int (-4 : Int32)), (2, .int r14), (0, .ref b_h), (1, .int p1)]) hx hb dX9_shutter_31 rfl hl (by decide) rfl (fun ls hl => ?_)
    refine lv_iconst (v := (0 : Int32)) hx hb dX9_shutter_32 (by decide) ?_
    refine lv_istore (lv' := [(4, .int (0 : Int32)), (3, .int (-4 : Int32)), (2, .int r14), (0, .ref b_h), (1, .int p1)]) hx hb dX9_shutter_33 hl (by decide) rfl (fun ls hl => ?_)
    have hL35 : ∀ (n : Nat) (x20 : Int32) (x21 : Int32) (x22 : Int32) (y23 : Int32) (y24 : Int32) (y25 : Int32) (y26 : Int32) (y27 : Int32) (y28 : Nat → Int32) (y29 : Nat → Int32) (y30 : Nat → Int32) (y31 : Nat → Int32) (y32 : Nat → Int32) (y33 : Nat → Int32) (H : Heap) (locs : List Loc) (ls : Array Slot), va_P E.1 vwCl [oBp b_h now_h mind_h kept_h b_img rails_h sa_h, oSt now_h now_a0 now_a1 now_a2 now_a3 now_a4 now_a5 now_moving now_shut now_people now_needed now_day, ai E now_a0 10 now_height, ai E now_a1 7 now_kind, ai E now_a2 7 now_figure, ai E now_a3 7 now_rail, ai E now_a4 7 now_mood, ai E now_a5 7 now_sight, oSt mind_h mind_a0 mind_a1 mind_a2 mind_a3 mind_a4 mind_a5 y23 y24 y25 y26 y27, ai E mind_a0 10 y28, ai E mind_a1 7 y29, ai E mind_a2 7 y30, ai E mind_a3 7 y31, ai E mind_a4 7 y32, ai E mind_a5 7 y33] H → va_D A [oBp b_h now_h mind_h kept_h b_img rails_h sa_h, oSt now_h now_a0 now_a1 now_a2 now_a3 now_a4 now_a5 now_moving now_shut now_people now_needed now_day, ai E now_a0 10 now_height, ai E now_a1 7 now_kind, ai E now_a2 7 now_figure, ai E now_a3 7 now_rail, ai E now_a4 7 now_mood, ai E now_a5 7 now_sight, oSt mind_h mind_a0 mind_a1 mind_a2 mind_a3 mind_a4 mind_a5 y23 y24 y25 y26 y27, ai E mind_a0 10 y28, ai E mind_a1 7 y29, ai E mind_a2 7 y30, ai E mind_a3 7 y31, ai E mind_a4 7 y32, ai E mind_a5 7 y33] → va_S A s.heap H locs → lv_has ls 6 [(4, .int x20), (3, .int x21), (2, .int x22), (0, .ref b_h), (1, .int p1)] → L_X9_shutter_35 N now_height now_kind now_figure now_rail now_mood now_shut now_people now_needed now_day p1 n x20 x21 x22 y23 y24 y25 y26 y27 y28 y29 y30 y31 y32 y33 = some (res, w_mind_moving, w_mind_shut, w_mind_people, w_mind_needed, w_mind_day, w_mind_height, w_mind_kind, w_mind_figure, w_mind_rail, w_mind_mood, w_mind_sight) → W p l e ({ frames := 6, cells := 0, slots := 0, locals := 133 }) s m [.ref b_h, .int p1].toArray below meth c H locs 0 0 (MQ below (fun _ st oc t => oc = .returned (some (.int res)) ∧ va_P E.1 vwCl [oBp b_h now_h mind_h kept_h b_img rails_h sa_h, oSt now_h now_a0 now_a1 now_a2 now_a3 now_a4 now_a5 now_moving now_shut now_people now_needed now_day, ai E now_a0 10 now_height, ai E now_a1 7 now_kind, ai E now_a2 7 now_figure, ai E now_a3 7 now_rail, ai E now_a4 7 now_mood, ai E now_a5 7 now_sight, oSt mind_h mind_a0 mind_a1 mind_a2 mind_a3 mind_a4 mind_a5 w_mind_moving w_mind_shut w_mind_people w_mind_needed w_mind_day, ai E mind_a0 10 w_mind_height, ai E mind_a1 7 w_mind_kind, ai E mind_a2 7 w_mind_figure, ai E mind_a3 7 w_mind_rail, ai E mind_a4 7 w_mind_mood, ai E mind_a5 7 w_mind_sight] t.heap ∧ va_F A st t) [.ref b_h, .int p1].toArray s 0 0 A) (F0 m 35 ls []) := by
      intro n
      induction n with
      | zero => intro x20 x21 x22 y23 y24 y25 y26 y27 y28 y29 y30 y31 y32 y33 H locs ls hP hD hS hl hv; cases hv
      | succ n35 ih35 =>
        intro x20 x21 x22 y23 y24 y25 y26 y27 y28 y29 y30 y31 y32 y33 H locs ls hP hD hS hl hv
        rw [L_X9_shutter_35] at hv
        refine lv_iload hx hb dX9_shutter_35 (lv_at hl 0 rfl) ?_
        refine lv_bipush (v := (10 : Int32)) hx hb dX9_shutter_37 (by decide) ?_
        refine lv_icmp_ge (tgt := 90) hx hb dX9_shutter_39 (by decide) (fun c34 => ?_) (fun c34 => ?_)
        · have hv := if_y c34 hv
          refine lv_iload_n hx hb dX9_shutter_90 rfl (lv_at hl 1 rfl) ?_
          cases hv
          exact W.iret hx hb hr (fun t h9 _ => ⟨rfl, by rw [h9]; exact hP, hS.F h9⟩) hS.2.2 dX9_shutter_91 hlk
        · have hv := if_n c34 hv
          refine lv_aload_n hx hb dX9_shutter_42 rfl (lv_at hl 3 rfl) ?_
          refine va_get (D := E.1) (ci := 3) (v := .ref mind_h) (C := RX9) (T := TX9) (N := 6) hx hb ht i_X9 hown hK hP 0 rfl rfl 1 (by decide) (ht _ kw_1_139) (fun _ h9 => h9) rfl dX9_shutter_43 ?_
          refine lv_aload_n hx hb dX9_shutter_46 rfl (lv_at hl 3 rfl) ?_
          refine va_get (D := E.1) (ci := 3) (v := .ref now_h) (C := RX9) (T := TX9) (N := 6) hx hb ht i_X9 hown hK hP 0 rfl rfl 0 (by decide) (ht _ kw_1_138) (fun _ h9 => h9) rfl dX9_shutter_47 ?_
          obtain ⟨⟨y35, y36, y37, y38, y39, y40, y41, y42, y43⟩, h44, hv⟩ := ob_s hv
          refine wrV (as := [b_h, now_h, now_a0, now_a1, now_a2, now_a3, now_a4, now_a5, mind_h, mind_a0, mind_a1, mind_a2, mind_a3, mind_a4, mind_a5]) (wr := [oBp b_h now_h mind_h kept_h b_img rails_h sa_h]) [8, 9, 10, 11, 12, 13, 14, 1, 2, 3, 4, 5, 6, 7] [0] 2 0 (ws := [oBp b_h now_h mind_h kept_h b_img rails_h sa_h, oSt now_h now_a0 now_a1 now_a2 now_a3 now_a4 now_a5 now_moving now_shut now_people now_needed now_day, ai E now_a0 10 now_height, ai E now_a1 7 now_kind, ai E now_a2 7 now_figure, ai E now_a3 7 now_rail, ai E now_a4 7 now_mood, ai E now_a5 7 now_sight, oSt mind_h mind_a0 mind_a1 mind_a2 mind_a3 mind_a4 mind_a5 y23 y24 y25 y26 y27, ai E mind_a0 10 y28, ai E mind_a1 7 y29, ai E mind_a2 7 y30, ai E mind_a3 7 y31, ai E mind_a4 7 y32, ai E mind_a5 7 y33]) (ws' := [oBp b_h now_h mind_h kept_h b_img rails_h sa_h, oSt now_h now_a0 now_a1 now_a2 now_a3 now_a4 now_a5 now_moving now_shut now_people now_needed now_day, ai E now_a0 10 now_height, ai E now_a1 7 now_kind, ai E now_a2 7 now_figure, ai E now_a3 7 now_rail, ai E now_a4 7 now_mood, ai E now_a5 7 now_sight, oSt mind_h mind_a0 mind_a1 mind_a2 mind_a3 mind_a4 mind_a5 y23 y35 y36 y37 y38, ai E mind_a0 10 y39, ai E mind_a1 7 y40, ai E mind_a2 7 y41, ai E mind_a3 7 y42, ai E mind_a4 7 y43, ai E mind_a5 7 y33]) (As := [.ref now_h]) (rest := []) (st1 := []) hC q_X8_become kw_1_171 (c_X8_become l E mind_h mind_a0 mind_a1 mind_a2 mind_a3 mind_a4 mind_a5 now_h now_a0 now_a1 now_a2 now_a3 now_a4 now_a5 y28 y29 y30 y31 y32 y33 y23 y24 y25 y26 y27 now_height now_kind now_figure now_rail now_mood now_sight now_moving now_shut now_people now_needed now_day y35 y36 y37 y38 y39 y40 y41 y42 y43 h44) ⟨rfl, rfl⟩ ⟨Nat.le_of_ble_eq_true rfl, Nat.le_of_ble_eq_true rfl⟩ ⟨Nat.zero_le _, Nat.zero_le _⟩ hP hD hS hA rfl rfl rfl hG (by decide) rfl rfl rfl rfl rfl rfl rfl rfl hl.1 rfl (Nat.le_of_ble_eq_true rfl) dX9_shutter_50 rfl (fun H locs hP hD hS => ?_)
          refine lv_aload_n hx hb dX9_shutter_53 rfl (lv_at hl 3 rfl) ?_
          refine va_get (D := E.1) (ci := 3) (v := .ref mind_h) (C := RX9) (T := TX9) (N := 6) hx hb ht i_X9 hown hK hP 0 rfl rfl 1 (by decide) (ht _ kw_1_139) (fun _ h9 => h9) rfl dX9_shutter_54 ?_
          refine lv_iload hx hb dX9_shutter_57 (lv_at hl 0 rfl) ?_
          obtain ⟨y45, h46, hv⟩ := ob_s hv
          refine wrV (as := [b_h, now_h, now_a0, now_a1, now_a2, now_a3, now_a4, now_a5, mind_h, mind_a0, mind_a1, mind_a2, mind_a3, mind_a4, mind_a5]) (wr := [oBp b_h now_h mind_h kept_h b_img rails_h sa_h, oSt now_h now_a0 now_a1 now_a2 now_a3 now_a4 now_a5 now_moving now_shut now_people now_needed now_day, ai E now_a0 10 now_height, ai E now_a1 7 now_kind, ai E now_a2 7 now_figure, ai E now_a3 7 now_rail, ai E now_a4 7 now_mood, ai E now_a5 7 now_sight]) [8, 9, 10, 11, 12, 13, 14] [0, 1, 2, 3, 4, 5, 6, 7] 2 0 (ws := [oBp b_h now_h mind_h kept_h b_img rails_h sa_h, oSt now_h now_a0 now_a1 now_a2 now_a3 now_a4 now_a5 now_moving now_shut now_people now_needed now_day, ai E now_a0 10 now_height, ai E now_a1 7 now_kind, ai E now_a2 7 now_figure, ai E now_a3 7 now_rail, ai E now_a4 7 now_mood, ai E now_a5 7 now_sight, oSt mind_h mind_a0 mind_a1 mind_a2 mind_a3 mind_a4 mind_a5 y23 y35 y36 y37 y38, ai E mind_a0 10 y39, ai E mind_a1 7 y40, ai E mind_a2 7 y41, ai E mind_a3 7 y42, ai E mind_a4 7 y43, ai E mind_a5 7 y33]) (ws' := [oBp b_h now_h mind_h kept_h b_img rails_h sa_h, oSt now_h now_a0 now_a1 now_a2 now_a3 now_a4 now_a5 now_moving now_shut now_people now_needed now_day, ai E now_a0 10 now_height, ai E now_a1 7 now_kind, ai E now_a2 7 now_figure, ai E now_a3 7 now_rail, ai E now_a4 7 now_mood, ai E now_a5 7 now_sight, oSt mind_h mind_a0 mind_a1 mind_a2 mind_a3 mind_a4 mind_a5 y23 y45 y36 y37 y38, ai E mind_a0 10 y39, ai E mind_a1 7 y40, ai E mind_a2 7 y41, ai E mind_a3 7 y42, ai E mind_a4 7 y43, ai E mind_a5 7 y33]) (As := [.int x20]) (rest := []) (st1 := []) hC q_X8_turnShutter kw_2_90 (c_X8_turnShutter l E mind_h mind_a0 mind_a1 mind_a2 mind_a3 mind_a4 mind_a5 y39 y40 y41 y42 y43 y33 y23 y35 y36 y37 y38 x20 y45 h46) ⟨rfl, rfl⟩ ⟨Nat.le_of_ble_eq_true rfl, Nat.le_of_ble_eq_true rfl⟩ ⟨Nat.zero_le _, Nat.zero_le _⟩ hP hD hS hA rfl rfl rfl hG (by decide) rfl rfl rfl rfl rfl rfl rfl rfl hl.1 rfl (Nat.le_of_ble_eq_true rfl) dX9_shutter_59 rfl (fun H locs hP hD hS => ?_)
          refine lv_aload_n hx hb dX9_shutter_62 rfl (lv_at hl 3 rfl) ?_
          refine va_get (D := E.1) (ci := 3) (v := .ref mind_h) (C := RX9) (T := TX9) (N := 6) hx hb ht i_X9 hown hK hP 0 rfl rfl 1 (by decide) (ht _ kw_1_139) (fun _ h9 => h9) rfl dX9_shutter_63 ?_
          refine lv_iload_n hx hb dX9_shutter_66 rfl (lv_at hl 4 rfl) ?_
          obtain ⟨⟨r47, y48, y49, y50, y51⟩, h52, hv⟩ := ob_s hv
          refine wrV (as := [b_h, now_h, now_a0, now_a1, now_a2, now_a3, now_a4, now_a5, mind_h, mind_a0, mind_a1, mind_a2, mind_a3, mind_a4, mind_a5]) (wr := [oBp b_h now_h mind_h kept_h b_img rails_h sa_h, oSt now_h now_a0 now_a1 now_a2 now_a3 now_a4 now_a5 now_moving now_shut now_people now_needed now_day, ai E now_a0 10 now_height, ai E now_a1 7 now_kind, ai E now_a2 7 now_figure, ai E now_a3 7 now_rail, ai E now_a4 7 now_mood, ai E now_a5 7 now_sight]) [8, 9, 10, 11, 12, 13, 14] [0, 1, 2, 3, 4, 5, 6, 7] 2 0 (ws := [oBp b_h now_h mind_h kept_h b_img rails_h sa_h, oSt now_h now_a0 now_a1 now_a2 now_a3 now_a4 now_a5 now_moving now_shut now_people now_needed now_day, ai E now_a0 10 now_height, ai E now_a1 7 now_kind, ai E now_a2 7 now_figure, ai E now_a3 7 now_rail, ai E now_a4 7 now_mood, ai E now_a5 7 now_sight, oSt mind_h mind_a0 mind_a1 mind_a2 mind_a3 mind_a4 mind_a5 y23 y45 y36 y37 y38, ai E mind_a0 10 y39, ai E mind_a1 7 y40, ai E mind_a2 7 y41, ai E mind_a3 7 y42, ai E mind_a4 7 y43, ai E mind_a5 7 y33]) (ws' := [oBp b_h now_h mind_h kept_h b_img rails_h sa_h, oSt now_h now_a0 now_a1 now_a2 now_a3 now_a4 now_a5 now_moving now_shut now_people now_needed now_day, ai E now_a0 10 now_height, ai E now_a1 7 now_kind, ai E now_a2 7 now_figure, ai E now_a3 7 now_rail, ai E now_a4 7 now_mood, ai E now_a5 7 now_sight, oSt mind_h mind_a0 mind_a1 mind_a2 mind_a3 mind_a4 mind_a5 y48 y45 y36 y37 y49, ai E mind_a0 10 y39, ai E mind_a1 7 y40, ai E mind_a2 7 y41, ai E mind_a3 7 y42, ai E mind_a4 7 y50, ai E mind_a5 7 y51]) (As := [.int p1]) (rest := []) (st1 := [.int r47]) hC q_X8_carriedDays kw_2_174 (c_X8_carriedDays l E mind_h mind_a0 mind_a1 mind_a2 mind_a3 mind_a4 mind_a5 y39 y40 y41 y42 y43 y33 y23 y45 y36 y37 y38 p1 N r47 y48 y49 y50 y51 h52) ⟨rfl, rfl⟩ ⟨Nat.le_of_ble_eq_true rfl, Nat.le_of_ble_eq_true rfl⟩ ⟨Nat.zero_le _, Nat.zero_le _⟩ hP hD hS hA rfl rfl rfl hG (by decide) rfl rfl rfl rfl rfl rfl rfl rfl hl.1 rfl (Nat.le_of_ble_eq_true rfl) dX9_shutter_67 rfl (fun H locs hP hD hS => ?_)
          refine lv_istore (lv' := [(5, .int r47), (4, .int x20), (3, .int x21), (2, .int x22), (0, .ref b_h), (1, .int p1)]) hx hb dX9_shutter_70 hl (by decide) rfl (fun ls hl => ?_)
          refine lv_iload hx hb dX9_shutter_72 (lv_at hl 0 rfl) ?_
          refine lv_iload_n hx hb dX9_shutter_74 rfl (lv_at hl 3 rfl) ?_
          refine lv_icmp_le (tgt := 84) hx hb dX9_shutter_75 (by decide) (fun c53 => ?_) (fun c53 => ?_)
          · have hv := if_y c53 hv
            refine lv_iinc (v := (x20 + (1 : Int32))) (lv' := [(4, .int (x20 + (1 : Int32))), (5, .int r47), (3, .int x21), (2, .int x22), (0, .ref b_h), (1, .int p1)]) hx hb dX9_shutter_84 hl (k := 1) rfl rfl (by decide) rfl (fun ls hl => ?_)
            refine lv_goto (tgt := 35) hx hb dX9_shutter_87 (by decide) ?_
            exact ih35 (x20 + (1 : Int32)) x21 x22 y48 y45 y36 y37 y49 y39 y40 y41 y42 y50 y51 _ _ _ hP hD hS (lv_sub hl [0, 2, 3, 4, 5] rfl) hv
          · have hv := if_n c53 hv
            refine lv_iload hx hb dX9_shutter_78 (lv_at hl 0 rfl) ?_
            refine lv_istore_n (lv' := [(2, .int r47), (5, .int r47), (4, .int x20), (3, .int x21), (0, .ref b_h), (1, .int p1)]) hx hb dX9_shutter_80 rfl hl (by decide) rfl (fun ls hl => ?_)
            refine lv_iload hx hb dX9_shutter_81 (lv_at hl 2 rfl) ?_
            refine lv_istore_n (lv' := [(3, .int x20), (2, .int r47), (5, .int r47), (4, .int x20), (0, .ref b_h), (1, .int p1)]) hx hb dX9_shutter_83 rfl hl (by decide) rfl (fun ls hl => ?_)
            refine lv_iinc (v := (x20 + (1 : Int32))) (lv' := [(4, .int (x20 + (1 : Int32))), (3, .int x20), (2, .int r47), (5, .int r47), (0, .ref b_h), (1, .int p1)]) hx hb dX9_shutter_84 hl (k := 3) rfl rfl (by decide) rfl (fun ls hl => ?_)
            refine lv_goto (tgt := 35) hx hb dX9_shutter_87 (by decide) ?_
            exact ih35 (x20 + (1 : Int32)) x20 r47 y48 y45 y36 y37 y49 y39 y40 y41 y42 y50 y51 _ _ _ hP hD hS (lv_sub hl [0, 1, 2, 4, 5] rfl) hv
    exact hL35 N (0 : Int32) (-4 : Int32) r14 y15 y4 y5 y6 y16 y8 y9 y10 y11 y17 y18 _ _ _ hP hD hS (lv_sub hl [0, 1, 2, 3, 4] rfl) hv
  · have hv := if_y c3 hv
    refine lv_iconst (v := (-1 : Int32)) hx hb dX9_shutter_7 (by decide) ?_
    refine lv_topi (fun z54 ez54 => ?_)
    have hv := nm_s ez54 hv
    cases hv
    exact W.iret hx hb hr (fun t h9 _ => ⟨rfl, by rw [h9]; exact hP, hS.F h9⟩) hS.2.2 dX9_shutter_8 hlk
theorem dX9_quotaMost_0 : decode cX9_quotaMost 0 = .ok (.aload_n 0, 1) := by decide +kernel
theorem dX9_quotaMost_1 : decode cX9_quotaMost 1 = .ok (.getfield 12, 3) := by decide +kernel
theorem dX9_quotaMost_4 : decode cX9_quotaMost 4 = .ok (.invokevirtual 139, 3) := by decide +kernel
theorem dX9_quotaMost_7 : decode cX9_quotaMost 7 = .ok (.istore_n 1, 1) := by decide +kernel
theorem dX9_quotaMost_8 : decode cX9_quotaMost 8 = .ok (.aload_n 0, 1) := by decide +kernel
theorem dX9_quotaMost_9 : decode cX9_quotaMost 9 = .ok (.getfield 16, 3) := by decide +kernel
theorem dX9_quotaMost_12 : decode cX9_quotaMost 12 = .ok (.aload_n 0, 1) := by decide +kernel
theorem dX9_quotaMost_13 : decode cX9_quotaMost 13 = .ok (.getfield 12, 3) := by decide +kernel
theorem dX9_quotaMost_16 : decode cX9_quotaMost 16 = .ok (.invokevirtual 48, 3) := by decide +kernel
theorem dX9_quotaMost_19 : decode cX9_quotaMost 19 = .ok (.aload_n 0, 1) := by decide +kernel
theorem dX9_quotaMost_20 : decode cX9_quotaMost 20 = .ok (.getfield 16, 3) := by decide +kernel
theorem dX9_quotaMost_23 : decode cX9_quotaMost 23 = .ok (.iconst 1, 1) := by decide +kernel
theorem dX9_quotaMost_24 : decode cX9_quotaMost 24 = .ok (.bipush 99, 2) := by decide +kernel
theorem dX9_quotaMost_26 : decode cX9_quotaMost 26 = .ok (.aload_n 0, 1) := by decide +kernel
theorem dX9_quotaMost_27 : decode cX9_quotaMost 27 = .ok (.getfield 12, 3) := by decide +kernel
theorem dX9_quotaMost_30 : decode cX9_quotaMost 30 = .ok (.iload_n 1, 1) := by decide +kernel
theorem dX9_quotaMost_31 : decode cX9_quotaMost 31 = .ok (.invokevirtual 143, 3) := by decide +kernel
theorem dX9_quotaMost_34 : decode cX9_quotaMost 34 = .ok (.invokestatic 209, 3) := by decide +kernel
theorem dX9_quotaMost_37 : decode cX9_quotaMost 37 = .ok (.invokestatic 146, 3) := by decide +kernel
theorem dX9_quotaMost_40 : decode cX9_quotaMost 40 = .ok (.putfield 127, 3) := by decide +kernel
theorem dX9_quotaMost_43 : decode cX9_quotaMost 43 = .ok (.aload_n 0, 1) := by decide +kernel
theorem dX9_quotaMost_44 : decode cX9_quotaMost 44 = .ok (.getfield 16, 3) := by decide +kernel
theorem dX9_quotaMost_47 : decode cX9_quotaMost 47 = .ok (.invokevirtual 136, 3) := by decide +kernel
theorem dX9_quotaMost_50 : decode cX9_quotaMost 50 = .ok (.ifCond .eq 13, 3) := by decide +kernel
theorem dX9_quotaMost_53 : decode cX9_quotaMost 53 = .ok (.aload_n 0, 1) := by decide +kernel
theorem dX9_quotaMost_54 : decode cX9_quotaMost 54 = .ok (.getfield 16, 3) := by decide +kernel
theorem dX9_quotaMost_57 : decode cX9_quotaMost 57 = .ok (.getfield 127, 3) := by decide +kernel
theorem dX9_quotaMost_60 : decode cX9_quotaMost 60 = .ok (.goto 5, 3) := by decide +kernel
theorem dX9_quotaMost_63 : decode cX9_quotaMost 63 = .ok (.bipush (-4), 2) := by decide +kernel
theorem dX9_quotaMost_65 : decode cX9_quotaMost 65 = .ok (.ireturn, 1) := by decide +kernel
def f_X9_quotaMost (N : Nat) (now_height : Nat → Int32) (now_kind : Nat → Int32) (now_figure : Nat → Int32) (now_rail : Nat → Int32) (now_mood : Nat → Int32) (now_shut : Int32) (now_people : Int32) (now_needed : Int32) (now_day : Int32) : Option (Int32 × Int32 × Int32 × Int32 × Int32 × (Nat → Int32) × (Nat → Int32) × (Nat → Int32) × (Nat → Int32) × (Nat → Int32)) := ob (f_X8_heardOnes N now_rail now_shut now_people) (fun r1 => ob (f_X8_become now_height now_kind now_figure now_rail now_mood now_shut now_people now_needed now_day) (fun (y3, y4, y5, y6, y7, y8, y9, y10, y11) => ob (f_X8_weightFor N now_height now_kind now_figure now_rail now_mood now_people r1) (fun r13 => nm (if (1 : Int32) < (if r13 < (99 : Int32) then r13 else (99 : Int32)) then (if r13 < (99 : Int32) then r13 else (99 : Int32)) else (1 : Int32)) (fun z15 => ob (f_X8_isCarried N y7 y8 y9 y10 y11 y3 y4 z15) (fun r16 => if r16 = 0 then nm (-4 : Int32) (fun z19 => some (z19, y3, y4, z15, y6, y7, y8, y9, y10, y11)) else some (z15, y3, y4, z15, y6, y7, y8, y9, y10, y11))))))
set_option maxHeartbeats 4000000 in
set_option maxRecDepth 100000 in
theorem c_X9_quotaMost (l : Launch) (E : EE) (b_h : Nat) (now_h : Nat) (mind_h : Nat) (kept_h : Nat) (rails_h : Nat) (sa_h : Nat) (now_a0 : Nat) (now_a1 : Nat) (now_a2 : Nat) (now_a3 : Nat) (now_a4 : Nat) (now_a5 : Nat) (mind_a0 : Nat) (mind_a1 : Nat) (mind_a2 : Nat) (mind_a3 : Nat) (mind_a4 : Nat) (mind_a5 : Nat) (b_img : Int32) (now_height : Nat → Int32) (now_kind : Nat → Int32) (now_figure : Nat → Int32) (now_rail : Nat → Int32) (now_mood : Nat → Int32) (now_sight : Nat → Int32) (now_moving : Int32) (now_shut : Int32) (now_people : Int32) (now_needed : Int32) (now_day : Int32) (mind_height : Nat → Int32) (mind_kind : Nat → Int32) (mind_figure : Nat → Int32) (mind_rail : Nat → Int32) (mind_mood : Nat → Int32) (mind_sight : Nat → Int32) (mind_moving : Int32) (mind_shut : Int32) (mind_people : Int32) (mind_needed : Int32) (mind_day : Int32) (N : Nat) (res : Int32) (w_mind_shut : Int32) (w_mind_people : Int32) (w_mind_needed : Int32) (w_mind_day : Int32) (w_mind_height : Nat → Int32) (w_mind_kind : Nat → Int32) (w_mind_figure : Nat → Int32) (w_mind_rail : Nat → Int32) (w_mind_mood : Nat → Int32) (hv : f_X9_quotaMost N now_height now_kind now_figure now_rail now_mood now_shut now_people now_needed now_day = some (res, w_mind_shut, w_mind_people, w_mind_needed, w_mind_day, w_mind_height, w_mind_kind, w_mind_figure, w_mind_rail, w_mind_mood)) : Wr l E yX9_quotaMost cX9_quotaMost 2 (some .int) ({ frames := 5, cells := 0, slots := 0, locals := 109 }) [.ref b_h] [oBp b_h now_h mind_h kept_h b_img rails_h sa_h, oSt now_h now_a0 now_a1 now_a2 now_a3 now_a4 now_a5 now_moving now_shut now_people now_needed now_day, ai E now_a0 10 now_height, ai E now_a1 7 now_kind, ai E now_a2 7 now_figure, ai E now_a3 7 now_rail, ai E now_a4 7 now_mood, ai E now_a5 7 now_sight, oSt mind_h mind_a0 mind_a1 mind_a2 mind_a3 mind_a4 mind_a5 mind_moving mind_shut mind_people mind_needed mind_day, ai E mind_a0 10 mind_height, ai E mind_a1 7 mind_kind, ai E mind_a2 7 mind_figure, ai E mind_a3 7 mind_rail, ai E mind_a4 7 mind_mood, ai E mind_a5 7 mind_sight] [oBp b_h now_h mind_h kept_h b_img rails_h sa_h, oSt now_h now_a0 now_a1 now_a2 now_a3 now_a4 now_a5 now_moving now_shut now_people now_needed now_day, ai E now_a0 10 now_height, ai E now_a1 7 now_kind, ai E now_a2 7 now_figure, ai E now_a3 7 now_rail, ai E now_a4 7 now_mood, ai E now_a5 7 now_sight, oSt mind_h mind_a0 mind_a1 mind_a2 mind_a3 mind_a4 mind_a5 mind_moving w_mind_shut w_mind_people w_mind_needed w_mind_day, ai E mind_a0 10 w_mind_height, ai E mind_a1 7 w_mind_kind, ai E mind_a2 7 w_mind_figure, ai E mind_a3 7 w_mind_rail, ai E mind_a4 7 w_mind_mood, ai E mind_a5 7 mind_sight] (some (.int res)) := by
  refine Wr.intro RX9 (by decide) rfl (Nat.le_of_ble_eq_true rfl) ?_
  intro p e s m below meth c ls A hC hr hlk hmn hP hD hS hA hG hl
  obtain ⟨hx, hb, hml, hown, ht⟩ := id hC
  have hK := hG.1
  have hl : lv_has ls 2 [(0, .ref b_h)] := hl
  rw [f_X9_quotaMost] at hv
  refine lv_aload_n hx hb dX9_quotaMost_0 rfl (lv_at hl 0 rfl) ?_
  refine va_get (D := E.1) (ci := 3) (v := .ref now_h) (C := RX9) (T := TX9) (N := 6) hx hb ht i_X9 hown hK hP 0 rfl rfl 0 (by decide) (ht _ kw_1_138) (fun _ h9 => h9) rfl dX9_quotaMost_1 ?_
  obtain ⟨r1, h2, hv⟩ := ob_s hv
  refine rdV 2 0 (As := []) (rest := []) (st1 := [.int r1]) (w := [oSt now_h now_a0 now_a1 now_a2 now_a3 now_a4 now_a5 now_moving now_shut now_people now_needed now_day, ai E now_a0 10 now_height, ai E now_a1 7 now_kind, ai E now_a2 7 now_figure, ai E now_a3 7 now_rail, ai E now_a4 7 now_mood, ai E now_a5 7 now_sight]) hC q_X8_heardOnes kw_2_146 (c_X8_heardOnes l E now_h now_a0 now_a1 now_a2 now_a3 now_a4 now_a5 now_height now_kind now_figure now_rail now_mood now_sight now_moving now_shut now_people now_needed now_day N r1 h2) ⟨rfl, rfl⟩ ⟨Nat.le_of_ble_eq_true rfl, Nat.le_of_ble_eq_true rfl⟩ ⟨Nat.zero_le _, Nat.zero_le _⟩ (hP.sub (ws' := [oSt now_h now_a0 now_a1 now_a2 now_a3 now_a4 now_a5 now_moving now_shut now_people now_needed now_day, ai E now_a0 10 now_height, ai E now_a1 7 now_kind, ai E now_a2 7 now_figure, ai E now_a3 7 now_rail, ai E now_a4 7 now_mood, ai E now_a5 7 now_sight]) [1, 2, 3, 4, 5, 6, 7] rfl) rfl rfl rfl hG rfl hl.1 rfl (Nat.le_of_ble_eq_true rfl) dX9_quotaMost_4 rfl ?_
  refine lv_istore_n (lv' := [(1, .int r1), (0, .ref b_h)]) hx hb dX9_quotaMost_7 rfl hl (by decide) rfl (fun ls hl => ?_)
  refine lv_aload_n hx hb dX9_quotaMost_8 rfl (lv_at hl 1 rfl) ?_
  refine va_get (D := E.1) (ci := 3) (v := .ref mind_h) (C := RX9) (T := TX9) (N := 6) hx hb ht i_X9 hown hK hP 0 rfl rfl 1 (by decide) (ht _ kw_1_139) (fun _ h9 => h9) rfl dX9_quotaMost_9 ?_
  refine lv_aload_n hx hb dX9_quotaMost_12 rfl (lv_at hl 1 rfl) ?_
  refine va_get (D := E.1) (ci := 3) (v := .ref now_h) (C := RX9) (T := TX9) (N := 6) hx hb ht i_X9 hown hK hP 0 rfl rfl 0 (by decide) (ht _ kw_1_138) (fun _ h9 => h9) rfl dX9_quotaMost_13 ?_
  obtain ⟨⟨y3, y4, y5, y6, y7, y8, y9, y10, y11⟩, h12, hv⟩ := ob_s hv
  refine wrV (as := [b_h, now_h, now_a0, now_a1, now_a2, now_a3, now_a4, now_a5, mind_h, mind_a0, mind_a1, mind_a2, mind_a3, mind_a4, mind_a5]) (wr := [oBp b_h now_h mind_h kept_h b_img rails_h sa_h]) [8, 9, 10, 11, 12, 13, 14, 1, 2, 3, 4, 5, 6, 7] [0] 2 0 (ws := [oBp b_h now_h mind_h kept_h b_img rails_h sa_h, oSt now_h now_a0 now_a1 now_a2 now_a3 now_a4 now_a5 now_moving now_shut now_people now_needed now_day, ai E now_a0 10 now_height, ai E now_a1 7 now_kind, ai E now_a2 7 now_figure, ai E now_a3 7 now_rail, ai E now_a4 7 now_mood, ai E now_a5 7 now_sight, oSt mind_h mind_a0 mind_a1 mind_a2 mind_a3 mind_a4 mind_a5 mind_moving mind_shut mind_people mind_needed mind_day, ai E mind_a0 10 mind_height, ai E mind_a1 7 mind_kind, ai E mind_a2 7 mind_figure, ai E mind_a3 7 mind_rail, ai E mind_a4 7 mind_mood, ai E mind_a5 7 mind_sight]) (ws' := [oBp b_h now_h mind_h kept_h b_img rails_h sa_h, oSt now_h now_a0 now_a1 now_a2 now_a3 now_a4 now_a5 now_moving now_shut now_people now_needed now_day, ai E now_a0 10 now_height, ai E now_a1 7 now_kind, ai E now_a2 7 now_figure, ai E now_a3 7 now_rail, ai E now_a4 7 now_mood, ai E now_a5 7 now_sight, oSt mind_h mind_a0 mind_a1 mind_a2 mind_a3 mind_a4 mind_a5 mind_moving y3 y4 y5 y6, ai E mind_a0 10 y7, ai E mind_a1 7 y8, ai E mind_a2 7 y9, ai E mind_a3 7 y10, ai E mind_a4 7 y11, ai E mind_a5 7 mind_sight]) (As := [.ref now_h]) (rest := []) (st1 := []) hC q_X8_become kw_1_171 (c_X8_become l E mind_h mind_a0 mind_a1 mind_a2 mind_a3 mind_a4 mind_a5 now_h now_a0 now_a1 now_a2 now_a3 now_a4 now_a5 mind_height mind_kind mind_figure mind_rail mind_mood mind_sight mind_moving mind_shut mind_people mind_needed mind_day now_height now_kind now_figure now_rail now_mood now_sight now_moving now_shut now_people now_needed now_day y3 y4 y5 y6 y7 y8 y9 y10 y11 h12) ⟨rfl, rfl⟩ ⟨Nat.le_of_ble_eq_true rfl, Nat.le_of_ble_eq_true rfl⟩ ⟨Nat.zero_le _, Nat.zero_le _⟩ hP hD hS hA rfl rfl rfl hG (by decide) rfl rfl rfl rfl rfl rfl rfl rfl hl.1 rfl (Nat.le_of_ble_eq_true rfl) dX9_quotaMost_16 rfl (fun H locs hP hD hS => ?_)
  refine lv_aload_n hx hb dX9_quotaMost_19 rfl (lv_at hl 1 rfl) ?_
  refine va_get (D := E.1) (ci := 3) (v := .ref mind_h) (C := RX9) (T := TX9) (N := 6) hx hb ht i_X9 hown hK hP 0 rfl rfl 1 (by decide) (ht _ kw_1_139) (fun _ h9 => h9) rfl dX9_quotaMost_20 ?_
  refine lv_iconst (v := (1 : Int32)) hx hb dX9_quotaMost_23 (by decide) ?_
  refine lv_bipush (v := (99 : Int32)) hx hb dX9_quotaMost_24 (by decide) ?_
  refine lv_aload_n hx hb dX9_quotaMost_26 rfl (lv_at hl 1 rfl) ?_
  refine va_get (D := E.1) (ci := 3) (v := .ref now_h) (C := RX9) (T := TX9) (N := 6) hx hb ht i_X9 hown hK hP 0 rfl rfl 0 (by decide) (ht _ kw_1_138) (fun _ h9 => h9) rfl dX9_quotaMost_27 ?_
  refine lv_iload_n hx hb dX9_quotaMost_30 rfl (lv_at hl 0 rfl) ?_
  obtain ⟨r13, h14, hv⟩ := ob_s hv
  refine rdV 2 0 (As := [.int r1]) (rest := [.int (99 : Int32), .int (1 : Int32), .ref mind_h]) (st1 := [.int r13, .int (99 : Int32), .int (1 : Int32), .ref mind_h]) (w := [oSt now_h now_a0 now_a1 now_a2 now_a3 now_a4 now_a5 now_moving now_shut now_people now_needed now_day, ai E now_a0 10 now_height, ai E now_a1 7 now_kind, ai E now_a2 7 now_figure, ai E now_a3 7 now_rail, ai E now_a4 7 now_mood, ai E now_a5 7 now_sight]) hC q_X8_weightFor kw_2_147 (c_X8_weightFor l E now_h now_a0 now_a1 now_a2 now_a3 now_a4 now_a5 now_height now_kind now_figure now_rail now_mood now_sight now_moving now_shut now_people now_needed now_day r1 N r13 h14) ⟨rfl, rfl⟩ ⟨Nat.le_of_ble_eq_true rfl, Nat.le_of_ble_eq_true rfl⟩ ⟨Nat.zero_le _, Nat.zero_le _⟩ (hP.sub (ws' := [oSt now_h now_a0 now_a1 now_a2 now_a3 now_a4 now_a5 now_moving now_shut now_people now_needed now_day, ai E now_a0 10 now_height, ai E now_a1 7 now_kind, ai E now_a2 7 now_figure, ai E now_a3 7 now_rail, ai E now_a4 7 now_mood, ai E now_a5 7 now_sight]) [1, 2, 3, 4, 5, 6, 7] rfl) rfl rfl rfl hG rfl hl.1 rfl (Nat.le_of_ble_eq_true rfl) dX9_quotaMost_31 rfl ?_
  refine va_mmin hx hb (by rw [hml]; exact hl.1.symm) hown (ht _ kw_3_37) (ht _ kw_2_41) (ht _ kw_1_8) (ht _ kw_2_42) (Nat.le_of_ble_eq_true rfl) (Nat.le_of_ble_eq_true rfl) (Nat.zero_le _) (Nat.zero_le _) dX9_quotaMost_34 ?_
  refine va_mmax hx hb (by rw [hml]; exact hl.1.symm) hown (ht _ kw_2_151) (ht _ kw_2_44) (ht _ kw_1_8) (ht _ kw_2_45) (Nat.le_of_ble_eq_true rfl) (Nat.le_of_ble_eq_true rfl) (Nat.zero_le _) (Nat.zero_le _) dX9_quotaMost_37 ?_
  refine lv_topi (fun z15 ez15 => ?_)
  have hv := nm_s ez15 hv
  refine va_put (D := E.1) (ci := 2) (v := .int z15) (ty := .int) (C := RX8) (T := TX8) (N := 11) hx hb ht i_X8 tyX8 tyX8_ok nmX8 hown hK hP hD hS 8 rfl rfl 9 (by decide) (ht _ kw_1_59) (fun _ h9 => h9) rfl (by decide +kernel) rfl rfl (Nat.le_of_ble_eq_true rfl) dX9_quotaMost_40 (fun H locs hP hD hS => ?_)
  have hP : va_P E.1 vwCl [oBp b_h now_h mind_h kept_h b_img rails_h sa_h, oSt now_h now_a0 now_a1 now_a2 now_a3 now_a4 now_a5 now_moving now_shut now_people now_needed now_day, ai E now_a0 10 now_height, ai E now_a1 7 now_kind, ai E now_a2 7 now_figure, ai E now_a3 7 now_rail, ai E now_a4 7 now_mood, ai E now_a5 7 now_sight, oSt mind_h mind_a0 mind_a1 mind_a2 mind_a3 mind_a4 mind_a5 mind_moving y3 y4 z15 y6, ai E mind_a0 10 y7, ai E mind_a1 7 y8, ai E mind_a2 7 y9, ai E mind_a3 7 y10, ai E mind_a4 7 y11, ai E mind_a5 7 mind_sight] H := hP
  have hD : va_D A [oBp b_h now_h mind_h kept_h b_img rails_h sa_h, oSt now_h now_a0 now_a1 now_a2 now_a3 now_a4 now_a5 now_moving now_shut now_people now_needed now_day, ai E now_a0 10 now_height, ai E now_a1 7 now_kind, ai E now_a2 7 now_figure, ai E now_a3 7 now_rail, ai E now_a4 7 now_mood, ai E now_a5 7 now_sight, oSt mind_h mind_a0 mind_a1 mind_a2 mind_a3 mind_a4 mind_a5 mind_moving y3 y4 z15 y6, ai E mind_a0 10 y7, ai E mind_a1 7 y8, ai E mind_a2 7 y9, ai E mind_a3 7 y10, ai E mind_a4 7 y11, ai E mind_a5 7 mind_sight] := hD
  refine lv_aload_n hx hb dX9_quotaMost_43 rfl (lv_at hl 1 rfl) ?_
  refine va_get (D := E.1) (ci := 3) (v := .ref mind_h) (C := RX9) (T := TX9) (N := 6) hx hb ht i_X9 hown hK hP 0 rfl rfl 1 (by decide) (ht _ kw_1_139) (fun _ h9 => h9) rfl dX9_quotaMost_44 ?_
  obtain ⟨r16, h17, hv⟩ := ob_s hv
  refine rdV 2 0 (As := []) (rest := []) (st1 := [.int r16]) (w := [oSt mind_h mind_a0 mind_a1 mind_a2 mind_a3 mind_a4 mind_a5 mind_moving y3 y4 z15 y6, ai E mind_a0 10 y7, ai E mind_a1 7 y8, ai E mind_a2 7 y9, ai E mind_a3 7 y10, ai E mind_a4 7 y11, ai E mind_a5 7 mind_sight]) hC q_X8_isCarried kw_2_110 (c_X8_isCarried l E mind_h mind_a0 mind_a1 mind_a2 mind_a3 mind_a4 mind_a5 y7 y8 y9 y10 y11 mind_sight mind_moving y3 y4 z15 y6 N r16 h17) ⟨rfl, rfl⟩ ⟨Nat.le_of_ble_eq_true rfl, Nat.le_of_ble_eq_true rfl⟩ ⟨Nat.zero_le _, Nat.zero_le _⟩ (hP.sub (ws' := [oSt mind_h mind_a0 mind_a1 mind_a2 mind_a3 mind_a4 mind_a5 mind_moving y3 y4 z15 y6, ai E mind_a0 10 y7, ai E mind_a1 7 y8, ai E mind_a2 7 y9, ai E mind_a3 7 y10, ai E mind_a4 7 y11, ai E mind_a5 7 mind_sight]) [8, 9, 10, 11, 12, 13, 14] rfl) rfl rfl rfl hG rfl hl.1 rfl (Nat.le_of_ble_eq_true rfl) dX9_quotaMost_47 rfl ?_
  refine lv_if_eq (tgt := 63) hx hb dX9_quotaMost_50 (by decide) (fun c18 => ?_) (fun c18 => ?_)
  · have hv := if_y c18 hv
    refine lv_bipush (v := (-4 : Int32)) hx hb dX9_quotaMost_63 (by decide) ?_
    refine lv_topi (fun z19 ez19 => ?_)
    have hv := nm_s ez19 hv
    cases hv
    exact W.iret hx hb hr (fun t h9 _ => ⟨rfl, by rw [h9]; exact hP, hS.F h9⟩) hS.2.2 dX9_quotaMost_65 hlk
  · have hv := if_n c18 hv
    refine lv_aload_n hx hb dX9_quotaMost_53 rfl (lv_at hl 1 rfl) ?_
    refine va_get (D := E.1) (ci := 3) (v := .ref mind_h) (C := RX9) (T := TX9) (N := 6) hx hb ht i_X9 hown hK hP 0 rfl rfl 1 (by decide) (ht _ kw_1_139) (fun _ h9 => h9) rfl dX9_quotaMost_54 ?_
    refine va_get (D := E.1) (ci := 2) (v := .int z15) (C := RX8) (T := TX8) (N := 11) hx hb ht i_X8 hown hK hP 8 rfl rfl 9 (by decide) (ht _ kw_1_59) (fun _ h9 => h9) rfl dX9_quotaMost_57 ?_
    refine lv_goto (tgt := 65) hx hb dX9_quotaMost_60 (by decide) ?_
    cases hv
    exact W.iret hx hb hr (fun t h9 _ => ⟨rfl, by rw [h9]; exact hP, hS.F h9⟩) hS.2.2 dX9_quotaMost_65 hlk
theorem dX9_gainOf_0 : decode cX9_gainOf 0 = .ok (.aload_n 0, 1) := by decide +kernel
theorem dX9_gainOf_1 : decode cX9_gainOf 1 = .ok (.getfield 16, 3) := by decide +kernel
theorem dX9_gainOf_4 : decode cX9_gainOf 4 = .ok (.aload_n 0, 1) := by decide +kernel
theorem dX9_gainOf_5 : decode cX9_gainOf 5 = .ok (.getfield 12, 3) := by decide +kernel
theorem dX9_gainOf_8 : decode cX9_gainOf 8 = .ok (.invokevirtual 48, 3) := by decide +kernel
theorem dX9_gainOf_11 : decode cX9_gainOf 11 = .ok (.aload_n 0, 1) := by decide +kernel
theorem dX9_gainOf_12 : decode cX9_gainOf 12 = .ok (.getfield 16, 3) := by decide +kernel
theorem dX9_gainOf_15 : decode cX9_gainOf 15 = .ok (.getfield 72, 3) := by decide +kernel
theorem dX9_gainOf_18 : decode cX9_gainOf 18 = .ok (.iload_n 1, 1) := by decide +kernel
theorem dX9_gainOf_19 : decode cX9_gainOf 19 = .ok (.bipush 9, 2) := by decide +kernel
theorem dX9_gainOf_21 : decode cX9_gainOf 21 = .ok (.iload_n 2, 1) := by decide +kernel
theorem dX9_gainOf_22 : decode cX9_gainOf 22 = .ok (.imul, 1) := by decide +kernel
theorem dX9_gainOf_23 : decode cX9_gainOf 23 = .ok (.iastore, 1) := by decide +kernel
theorem dX9_gainOf_24 : decode cX9_gainOf 24 = .ok (.aload_n 0, 1) := by decide +kernel
theorem dX9_gainOf_25 : decode cX9_gainOf 25 = .ok (.getfield 16, 3) := by decide +kernel
theorem dX9_gainOf_28 : decode cX9_gainOf 28 = .ok (.getfield 72, 3) := by decide +kernel
theorem dX9_gainOf_31 : decode cX9_gainOf 31 = .ok (.iload_n 3, 1) := by decide +kernel
theorem dX9_gainOf_32 : decode cX9_gainOf 32 = .ok (.bipush 9, 2) := by decide +kernel
theorem dX9_gainOf_34 : decode cX9_gainOf 34 = .ok (.iload 4, 2) := by decide +kernel
theorem dX9_gainOf_36 : decode cX9_gainOf 36 = .ok (.imul, 1) := by decide +kernel
theorem dX9_gainOf_37 : decode cX9_gainOf 37 = .ok (.iastore, 1) := by decide +kernel
theorem dX9_gainOf_38 : decode cX9_gainOf 38 = .ok (.aload_n 0, 1) := by decide +kernel
theorem dX9_gainOf_39 : decode cX9_gainOf 39 = .ok (.getfield 12, 3) := by decide +kernel
theorem dX9_gainOf_42 : decode cX9_gainOf 42 = .ok (.getfield 72, 3) := by decide +kernel
theorem dX9_gainOf_45 : decode cX9_gainOf 45 = .ok (.iload_n 1, 1) := by decide +kernel
theorem dX9_gainOf_46 : decode cX9_gainOf 46 = .ok (.iaload, 1) := by decide +kernel
theorem dX9_gainOf_47 : decode cX9_gainOf 47 = .ok (.ifCond .le 7, 3) := by decide +kernel
theorem dX9_gainOf_50 : decode cX9_gainOf 50 = .ok (.iconst 1, 1) := by decide +kernel
theorem dX9_gainOf_51 : decode cX9_gainOf 51 = .ok (.goto 4, 3) := by decide +kernel
theorem dX9_gainOf_54 : decode cX9_gainOf 54 = .ok (.iconst 0, 1) := by decide +kernel
theorem dX9_gainOf_55 : decode cX9_gainOf 55 = .ok (.istore 5, 2) := by decide +kernel
theorem dX9_gainOf_57 : decode cX9_gainOf 57 = .ok (.aload_n 0, 1) := by decide +kernel
theorem dX9_gainOf_58 : decode cX9_gainOf 58 = .ok (.getfield 16, 3) := by decide +kernel
theorem dX9_gainOf_61 : decode cX9_gainOf 61 = .ok (.invokevirtual 136, 3) := by decide +kernel
theorem dX9_gainOf_64 : decode cX9_gainOf 64 = .ok (.iload 5, 2) := by decide +kernel
theorem dX9_gainOf_66 : decode cX9_gainOf 66 = .ok (.if_icmp .ne 7, 3) := by decide +kernel
theorem dX9_gainOf_69 : decode cX9_gainOf 69 = .ok (.iconst 5, 1) := by decide +kernel
theorem dX9_gainOf_70 : decode cX9_gainOf 70 = .ok (.goto 4, 3) := by decide +kernel
theorem dX9_gainOf_73 : decode cX9_gainOf 73 = .ok (.iconst 0, 1) := by decide +kernel
theorem dX9_gainOf_74 : decode cX9_gainOf 74 = .ok (.iload_n 2, 1) := by decide +kernel
theorem dX9_gainOf_75 : decode cX9_gainOf 75 = .ok (.isub, 1) := by decide +kernel
theorem dX9_gainOf_76 : decode cX9_gainOf 76 = .ok (.ireturn, 1) := by decide +kernel
def f_X9_gainOf (N : Nat) (now_height : Nat → Int32) (now_kind : Nat → Int32) (now_figure : Nat → Int32) (now_rail : Nat → Int32) (now_mood : Nat → Int32) (now_shut : Int32) (now_people : Int32) (now_needed : Int32) (now_day : Int32) (p1 : Int32) (p2 : Int32) (p3 : Int32) (p4 : Int32) : Option (Int32 × Int32 × Int32 × Int32 × Int32 × (Nat → Int32) × (Nat → Int32) × (Nat → Int32) × (Nat → Int32) × (Nat → Int32)) := ob (f_X8_become now_height now_kind now_figure now_rail now_mood now_shut now_people now_needed now_day) (fun (y1, y2, y3, y4, y5, y6, y7, y8, y9) => gd (ix p1 7) (nm (upd y9 p1.toNatClampNeg ((9 : Int32) * p2)) (fun f12 => gd (ix p3 7) (nm (upd f12 p3.toNatClampNeg ((9 : Int32) * p4)) (fun f14 => gd (ix p1 7) (if (now_mood p1.toNatClampNeg) ≤ 0 then ob (f_X8_isCarried N y5 y6 y7 y8 f14 y1 y2 y3) (fun r17 => if r17 = (0 : Int32) then nm ((5 : Int32) - p2) (fun z21 => some (z21, y1, y2, y3, y4, y5, y6, y7, y8, f14)) else nm ((0 : Int32) - p2) (fun z20 => some (z20, y1, y2, y3, y4, y5, y6, y7, y8, f14))) else ob (f_X8_isCarried N y5 y6 y7 y8 f14 y1 y2 y3) (fun r22 => if r22 = (1 : Int32) then nm ((5 : Int32) - p2) (fun z26 => some (z26, y1, y2, y3, y4, y5, y6, y7, y8, f14)) else nm ((0 : Int32) - p2) (fun z25 => some (z25, y1, y2, y3, y4, y5, y6, y7, y8, f14)))))))))
set_option maxHeartbeats 4000000 in
set_option maxRecDepth 100000 in
theorem c_X9_gainOf (l : Launch) (E : EE) (b_h : Nat) (now_h : Nat) (mind_h : Nat) (kept_h : Nat) (rails_h : Nat) (sa_h : Nat) (now_a0 : Nat) (now_a1 : Nat) (now_a2 : Nat) (now_a3 : Nat) (now_a4 : Nat) (now_a5 : Nat) (mind_a0 : Nat) (mind_a1 : Nat) (mind_a2 : Nat) (mind_a3 : Nat) (mind_a4 : Nat) (mind_a5 : Nat) (b_img : Int32) (now_height : Nat → Int32) (now_kind : Nat → Int32) (now_figure : Nat → Int32) (now_rail : Nat → Int32) (now_mood : Nat → Int32) (now_sight : Nat → Int32) (now_moving : Int32) (now_shut : Int32) (now_people : Int32) (now_needed : Int32) (now_day : Int32) (mind_height : Nat → Int32) (mind_kind : Nat → Int32) (mind_figure : Nat → Int32) (mind_rail : Nat → Int32) (mind_mood : Nat → Int32) (mind_sight : Nat → Int32) (mind_moving : Int32) (mind_shut : Int32) (mind_people : Int32) (mind_needed : Int32) (mind_day : Int32) (p1 : Int32) (p2 : Int32) (p3 : Int32) (p4 : Int32) (N : Nat) (res : Int32) (w_mind_shut : Int32) (w_mind_people : Int32) (w_mind_needed : Int32) (w_mind_day : Int32) (w_mind_height : Nat → Int32) (w_mind_kind : Nat → Int32) (w_mind_figure : Nat → Int32) (w_mind_rail : Nat → Int32) (w_mind_mood : Nat → Int32) (hv : f_X9_gainOf N now_height now_kind now_figure now_rail now_mood now_shut now_people now_needed now_day p1 p2 p3 p4 = some (res, w_mind_shut, w_mind_people, w_mind_needed, w_mind_day, w_mind_height, w_mind_kind, w_mind_figure, w_mind_rail, w_mind_mood)) : Wr l E yX9_gainOf cX9_gainOf 6 (some .int) ({ frames := 5, cells := 0, slots := 0, locals := 109 }) [.ref b_h, .int p1, .int p2, .int p3, .int p4] [oBp b_h now_h mind_h kept_h b_img rails_h sa_h, oSt now_h now_a0 now_a1 now_a2 now_a3 now_a4 now_a5 now_moving now_shut now_people now_needed now_day, ai E now_a0 10 now_height, ai E now_a1 7 now_kind, ai E now_a2 7 now_figure, ai E now_a3 7 now_rail, ai E now_a4 7 now_mood, ai E now_a5 7 now_sight, oSt mind_h mind_a0 mind_a1 mind_a2 mind_a3 mind_a4 mind_a5 mind_moving mind_shut mind_people mind_needed mind_day, ai E mind_a0 10 mind_height, ai E mind_a1 7 mind_kind, ai E mind_a2 7 mind_figure, ai E mind_a3 7 mind_rail, ai E mind_a4 7 mind_mood, ai E mind_a5 7 mind_sight] [oBp b_h now_h mind_h kept_h b_img rails_h sa_h, oSt now_h now_a0 now_a1 now_a2 now_a3 now_a4 now_a5 now_moving now_shut now_people now_needed now_day, ai E now_a0 10 now_height, ai E now_a1 7 now_kind, ai E now_a2 7 now_figure, ai E now_a3 7 now_rail, ai E now_a4 7 now_mood, ai E now_a5 7 now_sight, oSt mind_h mind_a0 mind_a1 mind_a2 mind_a3 mind_a4 mind_a5 mind_moving w_mind_shut w_mind_people w_mind_needed w_mind_day, ai E mind_a0 10 w_mind_height, ai E mind_a1 7 w_mind_kind, ai E mind_a2 7 w_mind_figure, ai E mind_a3 7 w_mind_rail, ai E mind_a4 7 w_mind_mood, ai E mind_a5 7 mind_sight] (some (.int res)) := by
  refine Wr.intro RX9 (by decide) rfl (Nat.le_of_ble_eq_true rfl) ?_
  intro p e s m below meth c ls A hC hr hlk hmn hP hD hS hA hG hl
  obtain ⟨hx, hb, hml, hown, ht⟩ := id hC
  have hK := hG.1
  have hl : lv_has ls 6 [(0, .ref b_h), (1, .int p1), (2, .int p2), (3, .int p3), (4, .int p4)] := hl
  rw [f_X9_gainOf] at hv
  refine lv_aload_n hx hb dX9_gainOf_0 rfl (lv_at hl 0 rfl) ?_
  refine va_get (D := E.1) (ci := 3) (v := .ref mind_h) (C := RX9) (T := TX9) (N := 6) hx hb ht i_X9 hown hK hP 0 rfl rfl 1 (by decide) (ht _ kw_1_139) (fun _ h9 => h9) rfl dX9_gainOf_1 ?_
  refine lv_aload_n hx hb dX9_gainOf_4 rfl (lv_at hl 0 rfl) ?_
  refine va_get (D := E.1) (ci := 3) (v := .ref now_h) (C := RX9) (T := TX9) (N := 6) hx hb ht i_X9 hown hK hP 0 rfl rfl 0 (by decide) (ht _ kw_1_138) (fun _ h9 => h9) rfl dX9_gainOf_5 ?_
  obtain ⟨⟨y1, y2, y3, y4, y5, y6, y7, y8, y9⟩, h10, hv⟩ := ob_s hv
  refine wrV (as := [b_h, now_h, now_a0, now_a1, now_a2, now_a3, now_a4, now_a5, mind_h, mind_a0, mind_a1, mind_a2, mind_a3, mind_a4, mind_a5]) (wr := [oBp b_h now_h mind_h kept_h b_img rails_h sa_h]) [8, 9, 10, 11, 12, 13, 14, 1, 2, 3, 4, 5, 6, 7] [0] 2 0 (ws := [oBp b_h now_h mind_h kept_h b_img rails_h sa_h, oSt now_h now_a0 now_a1 now_a2 now_a3 now_a4 now_a5 now_moving now_shut now_people now_needed now_day, ai E now_a0 10 now_height, ai E now_a1 7 now_kind, ai E now_a2 7 now_figure, ai E now_a3 7 now_rail, ai E now_a4 7 now_mood, ai E now_a5 7 now_sight, oSt mind_h mind_a0 mind_a1 mind_a2 mind_a3 mind_a4 mind_a5 mind_moving mind_shut mind_people mind_needed mind_day, ai E mind_a0 10 mind_height, ai E mind_a1 7 mind_kind, ai E mind_a2 7 mind_figure, ai E mind_a3 7 mind_rail, ai E mind_a4 7 mind_mood, ai E mind_a5 7 mind_sight]) (ws' := [oBp b_h now_h mind_h kept_h b_img rails_h sa_h, oSt now_h now_a0 now_a1 now_a2 now_a3 now_a4 now_a5 now_moving now_shut now_people now_needed now_day, ai E now_a0 10 now_height, ai E now_a1 7 now_kind, ai E now_a2 7 now_figure, ai E now_a3 7 now_rail, ai E now_a4 7 now_mood, ai E now_a5 7 now_sight, oSt mind_h mind_a0 mind_a1 mind_a2 mind_a3 mind_a4 mind_a5 mind_moving y1 y2 y3 y4, ai E mind_a0 10 y5, ai E mind_a1 7 y6, ai E mind_a2 7 y7, ai E mind_a3 7 y8, ai E mind_a4 7 y9, ai E mind_a5 7 mind_sight]) (As := [.ref now_h]) (rest := []) (st1 := []) hC q_X8_become kw_1_171 (c_X8_become l E mind_h mind_a0 mind_a1 mind_a2 mind_a3 mind_a4 mind_a5 now_h now_a0 now_a1 now_a2 now_a3 now_a4 now_a5 mind_height mind_kind mind_figure mind_rail mind_mood mind_sight mind_moving mind_shut mind_people mind_needed mind_day now_height now_kind now_figure now_rail now_mood now_sight now_moving now_shut now_people now_needed now_day y1 y2 y3 y4 y5 y6 y7 y8 y9 h10) ⟨rfl, rfl⟩ ⟨Nat.le_of_ble_eq_true rfl, Nat.le_of_ble_eq_true rfl⟩ ⟨Nat.zero_le _, Nat.zero_le _⟩ hP hD hS hA rfl rfl rfl hG (by decide) rfl rfl rfl rfl rfl rfl rfl rfl hl.1 rfl (Nat.le_of_ble_eq_true rfl) dX9_gainOf_8 rfl (fun H locs hP hD hS => ?_)
  refine lv_aload_n hx hb dX9_gainOf_11 rfl (lv_at hl 0 rfl) ?_
  refine va_get (D := E.1) (ci := 3) (v := .ref mind_h) (C := RX9) (T := TX9) (N := 6) hx hb ht i_X9 hown hK hP 0 rfl rfl 1 (by decide) (ht _ kw_1_139) (fun _ h9 => h9) rfl dX9_gainOf_12 ?_
  refine va_get (D := E.1) (ci := 2) (v := .ref mind_a4) (C := RX8) (T := TX8) (N := 11) hx hb ht i_X8 hown hK hP 8 rfl rfl 4 (by decide) (ht _ kw_1_46) (fun _ h9 => h9) rfl dX9_gainOf_15 ?_
  refine lv_iload_n hx hb dX9_gainOf_18 rfl (lv_at hl 1 rfl) ?_
  refine lv_bipush (v := (9 : Int32)) hx hb dX9_gainOf_19 (by decide) ?_
  refine lv_iload_n hx hb dX9_gainOf_21 rfl (lv_at hl 2 rfl) ?_
  refine lv_imul hx hb dX9_gainOf_22 ?_
  obtain ⟨g11, hv⟩ := gd_s hv
  refine va_iast hx hb hK hP hD hS 13 0 rfl rfl (ix_s g11) dX9_gainOf_23 (fun H locs hP hD hS => ?_)
  have hP : va_P E.1 vwCl [oBp b_h now_h mind_h kept_h b_img rails_h sa_h, oSt now_h now_a0 now_a1 now_a2 now_a3 now_a4 now_a5 now_moving now_shut now_people now_needed now_day, ai E now_a0 10 now_height, ai E now_a1 7 now_kind, ai E now_a2 7 now_figure, ai E now_a3 7 now_rail, ai E now_a4 7 now_mood, ai E now_a5 7 now_sight, oSt mind_h mind_a0 mind_a1 mind_a2 mind_a3 mind_a4 mind_a5 mind_moving y1 y2 y3 y4, ai E mind_a0 10 y5, ai E mind_a1 7 y6, ai E mind_a2 7 y7, ai E mind_a3 7 y8, ai E mind_a4 7 (upd y9 p1.toNatClampNeg ((9 : Int32) * p2)), ai E mind_a5 7 mind_sight] H := hP
  have hD : va_D A [oBp b_h now_h mind_h kept_h b_img rails_h sa_h, oSt now_h now_a0 now_a1 now_a2 now_a3 now_a4 now_a5 now_moving now_shut now_people now_needed now_day, ai E now_a0 10 now_height, ai E now_a1 7 now_kind, ai E now_a2 7 now_figure, ai E now_a3 7 now_rail, ai E now_a4 7 now_mood, ai E now_a5 7 now_sight, oSt mind_h mind_a0 mind_a1 mind_a2 mind_a3 mind_a4 mind_a5 mind_moving y1 y2 y3 y4, ai E mind_a0 10 y5, ai E mind_a1 7 y6, ai E mind_a2 7 y7, ai E mind_a3 7 y8, ai E mind_a4 7 (upd y9 p1.toNatClampNeg ((9 : Int32) * p2)), ai E mind_a5 7 mind_sight] := hD
  obtain ⟨f12, ef12⟩ : ∃ z, z = (upd y9 p1.toNatClampNeg ((9 : Int32) * p2)) := ⟨_, rfl⟩
  rw [← ef12] at hP hD
  have hv := nm_s ef12 hv
  refine lv_aload_n hx hb dX9_gainOf_24 rfl (lv_at hl 0 rfl) ?_
  refine va_get (D := E.1) (ci := 3) (v := .ref mind_h) (C := RX9) (T := TX9) (N := 6) hx hb ht i_X9 hown hK hP 0 rfl rfl 1 (by decide) (ht _ kw_1_139) (fun _ h9 => h9) rfl dX9_gainOf_25 ?_
  refine va_get (D := E.1) (ci := 2) (v := .ref mind_a4) (C := RX8) (T := TX8) (N := 11) hx hb ht i_X8 hown hK hP 8 rfl rfl 4 (by decide) (ht _ kw_1_46) (fun _ h9 => h9) rfl dX9_gainOf_28 ?_
  refine lv_iload_n hx hb dX9_gainOf_31 rfl (lv_at hl 3 rfl) ?_
  refine lv_bipush (v := (9 : Int32)) hx hb dX9_gainOf_32 (by decide) ?_
  refine lv_iload hx hb dX9_gainOf_34 (lv_at hl 4 rfl) ?_
  refine lv_imul hx hb dX9_gainOf_36 ?_
  obtain ⟨g13, hv⟩ := gd_s hv
  refine va_iast hx hb hK hP hD hS 13 0 rfl rfl (ix_s g13) dX9_gainOf_37 (fun H locs hP hD hS => ?_)
  have hP : va_P E.1 vwCl [oBp b_h now_h mind_h kept_h b_img rails_h sa_h, oSt now_h now_a0 now_a1 now_a2 now_a3 now_a4 now_a5 now_moving now_shut now_people now_needed now_day, ai E now_a0 10 now_height, ai E now_a1 7 now_kind, ai E now_a2 7 now_figure, ai E now_a3 7 now_rail, ai E now_a4 7 now_mood, ai E now_a5 7 now_sight, oSt mind_h mind_a0 mind_a1 mind_a2 mind_a3 mind_a4 mind_a5 mind_moving y1 y2 y3 y4, ai E mind_a0 10 y5, ai E mind_a1 7 y6, ai E mind_a2 7 y7, ai E mind_a3 7 y8, ai E mind_a4 7 (upd f12 p3.toNatClampNeg ((9 : Int32) * p4)), ai E mind_a5 7 mind_sight] H := hP
  have hD : va_D A [oBp b_h now_h mind_h kept_h b_img rails_h sa_h, oSt now_h now_a0 now_a1 now_a2 now_a3 now_a4 now_a5 now_moving now_shut now_people now_needed now_day, ai E now_a0 10 now_height, ai E now_a1 7 now_kind, ai E now_a2 7 now_figure, ai E now_a3 7 now_rail, ai E now_a4 7 now_mood, ai E now_a5 7 now_sight, oSt mind_h mind_a0 mind_a1 mind_a2 mind_a3 mind_a4 mind_a5 mind_moving y1 y2 y3 y4, ai E mind_a0 10 y5, ai E mind_a1 7 y6, ai E mind_a2 7 y7, ai E mind_a3 7 y8, ai E mind_a4 7 (upd f12 p3.toNatClampNeg ((9 : Int32) * p4)), ai E mind_a5 7 mind_sight] := hD
  obtain ⟨f14, ef14⟩ : ∃ z, z = (upd f12 p3.toNatClampNeg ((9 : Int32) * p4)) := ⟨_, rfl⟩
  rw [← ef14] at hP hD
  have hv := nm_s ef14 hv
  refine lv_aload_n hx hb dX9_gainOf_38 rfl (lv_at hl 0 rfl) ?_
  refine va_get (D := E.1) (ci := 3) (v := .ref now_h) (C := RX9) (T := TX9) (N := 6) hx hb ht i_X9 hown hK hP 0 rfl rfl 0 (by decide) (ht _ kw_1_138) (fun _ h9 => h9) rfl dX9_gainOf_39 ?_
  refine va_get (D := E.1) (ci := 2) (v := .ref now_a4) (C := RX8) (T := TX8) (N := 11) hx hb ht i_X8 hown hK hP 1 rfl rfl 4 (by decide) (ht _ kw_1_46) (fun _ h9 => h9) rfl dX9_gainOf_42 ?_
  refine lv_iload_n hx hb dX9_gainOf_45 rfl (lv_at hl 1 rfl) ?_
  obtain ⟨g15, hv⟩ := gd_s hv
  refine va_iald hx hb hK hP 6 0 rfl rfl (ix_s g15) dX9_gainOf_46 ?_
  refine lv_if_le (tgt := 54) hx hb dX9_gainOf_47 (by decide) (fun c16 => ?_) (fun c16 => ?_)
  · have hv := if_y c16 hv
    refine lv_iconst (v := (0 : Int32)) hx hb dX9_gainOf_54 (by decide) ?_
    refine lv_istore (lv' := [(5, .int (0 : Int32)), (0, .ref b_h), (1, .int p1), (2, .int p2), (3, .int p3), (4, .int p4)]) hx hb dX9_gainOf_55 hl (by decide) rfl (fun ls hl => ?_)
    refine lv_aload_n hx hb dX9_gainOf_57 rfl (lv_at hl 1 rfl) ?_
    refine va_get (D := E.1) (ci := 3) (v := .ref mind_h) (C := RX9) (T := TX9) (N := 6) hx hb ht i_X9 hown hK hP 0 rfl rfl 1 (by decide) (ht _ kw_1_139) (fun _ h9 => h9) rfl dX9_gainOf_58 ?_
    obtain ⟨r17, h18, hv⟩ := ob_s hv
    refine rdV 2 0 (As := []) (rest := []) (st1 := [.int r17]) (w := [oSt mind_h mind_a0 mind_a1 mind_a2 mind_a3 mind_a4 mind_a5 mind_moving y1 y2 y3 y4, ai E mind_a0 10 y5, ai E mind_a1 7 y6, ai E mind_a2 7 y7, ai E mind_a3 7 y8, ai E mind_a4 7 f14, ai E mind_a5 7 mind_sight]) hC q_X8_isCarried kw_2_110 (c_X8_isCarried l E mind_h mind_a0 mind_a1 mind_a2 mind_a3 mind_a4 mind_a5 y5 y6 y7 y8 f14 mind_sight mind_moving y1 y2 y3 y4 N r17 h18) ⟨rfl, rfl⟩ ⟨Nat.le_of_ble_eq_true rfl, Nat.le_of_ble_eq_true rfl⟩ ⟨Nat.zero_le _, Nat.zero_le _⟩ (hP.sub (ws' := [oSt mind_h mind_a0 mind_a1 mind_a2 mind_a3 mind_a4 mind_a5 mind_moving y1 y2 y3 y4, ai E mind_a0 10 y5, ai E mind_a1 7 y6, ai E mind_a2 7 y7, ai E mind_a3 7 y8, ai E mind_a4 7 f14, ai E mind_a5 7 mind_sight]) [8, 9, 10, 11, 12, 13, 14] rfl) rfl rfl rfl hG rfl hl.1 rfl (Nat.le_of_ble_eq_true rfl) dX9_gainOf_61 rfl ?_
    refine lv_iload hx hb dX9_gainOf_64 (lv_at hl 0 rfl) ?_
    refine lv_icmp_ne (tgt := 73) hx hb dX9_gainOf_66 (by decide) (fun c19 => ?_) (fun c19 => ?_)
    · have hv := if_n c19 hv
      refine lv_iconst (v := (0 : Int32)) hx hb dX9_gainOf_73 (by decide) ?_
      refine lv_iload_n hx hb dX9_gainOf_74 rfl (lv_at hl 3 rfl) ?_
      refine lv_isub hx hb dX9_gainOf_75 ?_
      refine lv_topi (fun z20 ez20 => ?_)
      have hv := nm_s ez20 hv
      cases hv
      exact W.iret hx hb hr (fun t h9 _ => ⟨rfl, by rw [h9]; exact hP, hS.F h9⟩) hS.2.2 dX9_gainOf_76 hlk
    · have hv := if_y c19 hv
      refine lv_iconst (v := (5 : Int32)) hx hb dX9_gainOf_69 (by decide) ?_
      refine lv_goto (tgt := 74) hx hb dX9_gainOf_70 (by decide) ?_
      refine lv_iload_n hx hb dX9_gainOf_74 rfl (lv_at hl 3 rfl) ?_
      refine lv_isub hx hb dX9_gainOf_75 ?_
      refine lv_topi (fun z21 ez21 => ?_)
      have hv := nm_s ez21 hv
      cases hv
      exact W.iret hx hb hr (fun t h9 _ => ⟨rfl, by rw [h9]; exact hP, hS.F h9⟩) hS.2.2 dX9_gainOf_76 hlk
  · have hv := if_n c16 hv
    refine lv_iconst (v := (1 : Int32)) hx hb dX9_gainOf_50 (by decide) ?_
    refine lv_goto (tgt := 55) hx hb dX9_gainOf_51 (by decide) ?_
    refine lv_istore (lv' := [(5, .int (1 : Int32)), (0, .ref b_h), (1, .int p1), (2, .int p2), (3, .int p3), (4, .int p4)]) hx hb dX9_gainOf_55 hl (by decide) rfl (fun ls hl => ?_)
    refine lv_aload_n hx hb dX9_gainOf_57 rfl (lv_at hl 1 rfl) ?_
    refine va_get (D := E.1) (ci := 3) (v := .ref mind_h) (C := RX9) (T := TX9) (N := 6) hx hb ht i_X9 hown hK hP 0 rfl rfl 1 (by decide) (ht _ kw_1_139) (fun _ h9 => h9) rfl dX9_gainOf_58 ?_
    obtain ⟨r22, h23, hv⟩ := ob_s hv
    refine rdV 2 0 (As := []) (rest := []) (st1 := [.int r22]) (w := [oSt mind_h mind_a0 mind_a1 mind_a2 mind_a3 mind_a4 mind_a5 mind_moving y1 y2 y3 y4, ai E mind_a0 10 y5, ai E mind_a1 7 y6, ai E mind_a2 7 y7, ai E mind_a3 7 y8, ai E mind_a4 7 f14, ai E mind_a5 7 mind_sight]) hC q_X8_isCarried kw_2_110 (c_X8_isCarried l E mind_h mind_a0 mind_a1 mind_a2 mind_a3 mind_a4 mind_a5 y5 y6 y7 y8 f14 mind_sight mind_moving y1 y2 y3 y4 N r22 h23) ⟨rfl, rfl⟩ ⟨Nat.le_of_ble_eq_true rfl, Nat.le_of_ble_eq_true rfl⟩ ⟨Nat.zero_le _, Nat.zero_le _⟩ (hP.sub (ws' := [oSt mind_h mind_a0 mind_a1 mind_a2 mind_a3 mind_a4 mind_a5 mind_moving y1 y2 y3 y4, ai E mind_a0 10 y5, ai E mind_a1 7 y6, ai E mind_a2 7 y7, ai E mind_a3 7 y8, ai E mind_a4 7 f14, ai E mind_a5 7 mind_sight]) [8, 9, 10, 11, 12, 13, 14] rfl) rfl rfl rfl hG rfl hl.1 rfl (Nat.le_of_ble_eq_true rfl) dX9_gainOf_61 rfl ?_
    refine lv_iload hx hb dX9_gainOf_64 (lv_at hl 0 rfl) ?_
    refine lv_icmp_ne (tgt := 73) hx hb dX9_gainOf_66 (by decide) (fun c24 => ?_) (fun c24 => ?_)
    · have hv := if_n c24 hv
      refine lv_iconst (v := (0 : Int32)) hx hb dX9_gainOf_73 (by decide) ?_
      refine lv_iload_n hx hb dX9_gainOf_74 rfl (lv_at hl 3 rfl) ?_
      refine lv_isub hx hb dX9_gainOf_75 ?_
      refine lv_topi (fun z25 ez25 => ?_)
      have hv := nm_s ez25 hv
      cases hv
      exact W.iret hx hb hr (fun t h9 _ => ⟨rfl, by rw [h9]; exact hP, hS.F h9⟩) hS.2.2 dX9_gainOf_76 hlk
    · have hv := if_y c24 hv
      refine lv_iconst (v := (5 : Int32)) hx hb dX9_gainOf_69 (by decide) ?_
      refine lv_goto (tgt := 74) hx hb dX9_gainOf_70 (by decide) ?_
      refine lv_iload_n hx hb dX9_gainOf_74 rfl (lv_at hl 3 rfl) ?_
      refine lv_isub hx hb dX9_gainOf_75 ?_
      refine lv_topi (fun z26 ez26 => ?_)
      have hv := nm_s ez26 hv
      cases hv
      exact W.iret hx hb hr (fun t h9 _ => ⟨rfl, by rw [h9]; exact hP, hS.F h9⟩) hS.2.2 dX9_gainOf_76 hlk
theorem dX9_isContent_0 : decode cX9_isContent 0 = .ok (.aload_n 0, 1) := by decide +kernel
theorem dX9_isContent_1 : decode cX9_isContent 1 = .ok (.iload_n 1, 1) := by decide +kernel
theorem dX9_isContent_2 : decode cX9_isContent 2 = .ok (.iload_n 2, 1) := by decide +kernel
theorem dX9_isContent_3 : decode cX9_isContent 3 = .ok (.iload_n 3, 1) := by decide +kernel
theorem dX9_isContent_4 : decode cX9_isContent 4 = .ok (.iload 4, 2) := by decide +kernel
theorem dX9_isContent_6 : decode cX9_isContent 6 = .ok (.invokevirtual 343, 3) := by decide +kernel
theorem dX9_isContent_9 : decode cX9_isContent 9 = .ok (.aload_n 0, 1) := by decide +kernel
theorem dX9_isContent_10 : decode cX9_isContent 10 = .ok (.iload_n 1, 1) := by decide +kernel
theorem dX9_isContent_11 : decode cX9_isContent 11 = .ok (.iconst 1, 1) := by decide +kernel
theorem dX9_isContent_12 : decode cX9_isContent 12 = .ok (.iload_n 2, 1) := by decide +kernel
theorem dX9_isContent_13 : decode cX9_isContent 13 = .ok (.isub, 1) := by decide +kernel
theorem dX9_isContent_14 : decode cX9_isContent 14 = .ok (.iload_n 3, 1) := by decide +kernel
theorem dX9_isContent_15 : decode cX9_isContent 15 = .ok (.iload 4, 2) := by decide +kernel
theorem dX9_isContent_17 : decode cX9_isContent 17 = .ok (.invokevirtual 343, 3) := by decide +kernel
theorem dX9_isContent_20 : decode cX9_isContent 20 = .ok (.if_icmp .lt 7, 3) := by decide +kernel
theorem dX9_isContent_23 : decode cX9_isContent 23 = .ok (.iconst 1, 1) := by decide +kernel
theorem dX9_isContent_24 : decode cX9_isContent 24 = .ok (.goto 4, 3) := by decide +kernel
theorem dX9_isContent_27 : decode cX9_isContent 27 = .ok (.iconst 0, 1) := by decide +kernel
theorem dX9_isContent_28 : decode cX9_isContent 28 = .ok (.ireturn, 1) := by decide +kernel
def f_X9_isContent (N : Nat) (now_height : Nat → Int32) (now_kind : Nat → Int32) (now_figure : Nat → Int32) (now_rail : Nat → Int32) (now_mood : Nat → Int32) (now_shut : Int32) (now_people : Int32) (now_needed : Int32) (now_day : Int32) (p1 : Int32) (p2 : Int32) (p3 : Int32) (p4 : Int32) : Option (Int32 × Int32 × Int32 × Int32 × Int32 × (Nat → Int32) × (Nat → Int32) × (Nat → Int32) × (Nat → Int32) × (Nat → Int32)) := ob (f_X9_gainOf N now_height now_kind now_figure now_rail now_mood now_shut now_people now_needed now_day p1 p2 p3 p4) (fun (r1, y2, y3, y4, y5, y6, y7, y8, y9, y10) => ob (f_X9_gainOf N now_height now_kind now_figure now_rail now_mood now_shut now_people now_needed now_day p1 ((1 : Int32) - p2) p3 p4) (fun (r12, y13, y14, y15, y16, y17, y18, y19, y20, y21) => if r1 < r12 then nm (0 : Int32) (fun z24 => some (z24, y13, y14, y15, y16, y17, y18, y19, y20, y21)) else nm (1 : Int32) (fun z25 => some (z25, y13, y14, y15, y16, y17, y18, y19, y20, y21))))
set_option maxHeartbeats 4000000 in
set_option maxRecDepth 100000 in
theorem c_X9_isContent (l : Launch) (E : EE) (b_h : Nat) (now_h : Nat) (mind_h : Nat) (kept_h : Nat) (rails_h : Nat) (sa_h : Nat) (now_a0 : Nat) (now_a1 : Nat) (now_a2 : Nat) (now_a3 : Nat) (now_a4 : Nat) (now_a5 : Nat) (mind_a0 : Nat) (mind_a1 : Nat) (mind_a2 : Nat) (mind_a3 : Nat) (mind_a4 : Nat) (mind_a5 : Nat) (b_img : Int32) (now_height : Nat → Int32) (now_kind : Nat → Int32) (now_figure : Nat → Int32) (now_rail : Nat → Int32) (now_mood : Nat → Int32) (now_sight : Nat → Int32) (now_moving : Int32) (now_shut : Int32) (now_people : Int32) (now_needed : Int32) (now_day : Int32) (mind_height : Nat → Int32) (mind_kind : Nat → Int32) (mind_figure : Nat → Int32) (mind_rail : Nat → Int32) (mind_mood : Nat → Int32) (mind_sight : Nat → Int32) (mind_moving : Int32) (mind_shut : Int32) (mind_people : Int32) (mind_needed : Int32) (mind_day : Int32) (p1 : Int32) (p2 : Int32) (p3 : Int32) (p4 : Int32) (N : Nat) (res : Int32) (w_mind_shut : Int32) (w_mind_people : Int32) (w_mind_needed : Int32) (w_mind_day : Int32) (w_mind_height : Nat → Int32) (w_mind_kind : Nat → Int32) (w_mind_figure : Nat → Int32) (w_mind_rail : Nat → Int32) (w_mind_mood : Nat → Int32) (hv : f_X9_isContent N now_height now_kind now_figure now_rail now_mood now_shut now_people now_needed now_day p1 p2 p3 p4 = some (res, w_mind_shut, w_mind_people, w_mind_needed, w_mind_day, w_mind_height, w_mind_kind, w_mind_figure, w_mind_rail, w_mind_mood)) : Wr l E yX9_isContent cX9_isContent 5 (some .boolean) ({ frames := 6, cells := 0, slots := 0, locals := 134 }) [.ref b_h, .int p1, .int p2, .int p3, .int p4] [oBp b_h now_h mind_h kept_h b_img rails_h sa_h, oSt now_h now_a0 now_a1 now_a2 now_a3 now_a4 now_a5 now_moving now_shut now_people now_needed now_day, ai E now_a0 10 now_height, ai E now_a1 7 now_kind, ai E now_a2 7 now_figure, ai E now_a3 7 now_rail, ai E now_a4 7 now_mood, ai E now_a5 7 now_sight, oSt mind_h mind_a0 mind_a1 mind_a2 mind_a3 mind_a4 mind_a5 mind_moving mind_shut mind_people mind_needed mind_day, ai E mind_a0 10 mind_height, ai E mind_a1 7 mind_kind, ai E mind_a2 7 mind_figure, ai E mind_a3 7 mind_rail, ai E mind_a4 7 mind_mood, ai E mind_a5 7 mind_sight] [oBp b_h now_h mind_h kept_h b_img rails_h sa_h, oSt now_h now_a0 now_a1 now_a2 now_a3 now_a4 now_a5 now_moving now_shut now_people now_needed now_day, ai E now_a0 10 now_height, ai E now_a1 7 now_kind, ai E now_a2 7 now_figure, ai E now_a3 7 now_rail, ai E now_a4 7 now_mood, ai E now_a5 7 now_sight, oSt mind_h mind_a0 mind_a1 mind_a2 mind_a3 mind_a4 mind_a5 mind_moving w_mind_shut w_mind_people w_mind_needed w_mind_day, ai E mind_a0 10 w_mind_height, ai E mind_a1 7 w_mind_kind, ai E mind_a2 7 w_mind_figure, ai E mind_a3 7 w_mind_rail, ai E mind_a4 7 w_mind_mood, ai E mind_a5 7 mind_sight] (some (.int res)) := by
  refine Wr.intro RX9 (by decide) rfl (Nat.le_of_ble_eq_true rfl) ?_
  intro p e s m below meth c ls A hC hr hlk hmn hP hD hS hA hG hl
  obtain ⟨hx, hb, hml, hown, ht⟩ := id hC
  have hK := hG.1
  have hl : lv_has ls 5 [(0, .ref b_h), (1, .int p1), (2, .int p2), (3, .int p3), (4, .int p4)] := hl
  rw [f_X9_isContent] at hv
  refine lv_aload_n hx hb dX9_isContent_0 rfl (lv_at hl 0 rfl) ?_
  refine lv_iload_n hx hb dX9_isContent_1 rfl (lv_at hl 1 rfl) ?_
  refine lv_iload_n hx hb dX9_isContent_2 rfl (lv_at hl 2 rfl) ?_
  refine lv_iload_n hx hb dX9_isContent_3 rfl (lv_at hl 3 rfl) ?_
  refine lv_iload hx hb dX9_isContent_4 (lv_at hl 4 rfl) ?_
  obtain ⟨⟨r1, y2, y3, y4, y5, y6, y7, y8, y9, y10⟩, h11, hv⟩ := ob_s hv
  refine wrV (as := [b_h, now_h, now_a0, now_a1, now_a2, now_a3, now_a4, now_a5, mind_h, mind_a0, mind_a1, mind_a2, mind_a3, mind_a4, mind_a5]) (wr := []) [0, 1, 2, 3, 4, 5, 6, 7, 8, 9, 10, 11, 12, 13, 14] [] 3 0 (ws := [oBp b_h now_h mind_h kept_h b_img rails_h sa_h, oSt now_h now_a0 now_a1 now_a2 now_a3 now_a4 now_a5 now_moving now_shut now_people now_needed now_day, ai E now_a0 10 now_height, ai E now_a1 7 now_kind, ai E now_a2 7 now_figure, ai E now_a3 7 now_rail, ai E now_a4 7 now_mood, ai E now_a5 7 now_sight, oSt mind_h mind_a0 mind_a1 mind_a2 mind_a3 mind_a4 mind_a5 mind_moving mind_shut mind_people mind_needed mind_day, ai E mind_a0 10 mind_height, ai E mind_a1 7 mind_kind, ai E mind_a2 7 mind_figure, ai E mind_a3 7 mind_rail, ai E mind_a4 7 mind_mood, ai E mind_a5 7 mind_sight]) (ws' := [oBp b_h now_h mind_h kept_h b_img rails_h sa_h, oSt now_h now_a0 now_a1 now_a2 now_a3 now_a4 now_a5 now_moving now_shut now_people now_needed now_day, ai E now_a0 10 now_height, ai E now_a1 7 now_kind, ai E now_a2 7 now_figure, ai E now_a3 7 now_rail, ai E now_a4 7 now_mood, ai E now_a5 7 now_sight, oSt mind_h mind_a0 mind_a1 mind_a2 mind_a3 mind_a4 mind_a5 mind_moving y2 y3 y4 y5, ai E mind_a0 10 y6, ai E mind_a1 7 y7, ai E mind_a2 7 y8, ai E mind_a3 7 y9, ai E mind_a4 7 y10, ai E mind_a5 7 mind_sight]) (As := [.int p1, .int p2, .int p3, .int p4]) (rest := []) (st1 := [.int r1]) hC q_X9_gainOf kw_3_138 (c_X9_gainOf l E b_h now_h mind_h kept_h rails_h sa_h now_a0 now_a1 now_a2 now_a3 now_a4 now_a5 mind_a0 mind_a1 mind_a2 mind_a3 mind_a4 mind_a5 b_img now_height now_kind now_figure now_rail now_mood now_sight now_moving now_shut now_people now_needed now_day mind_height mind_kind mind_figure mind_rail mind_mood mind_sight mind_moving mind_shut mind_people mind_needed mind_day p1 p2 p3 p4 N r1 y2 y3 y4 y5 y6 y7 y8 y9 y10 h11) ⟨rfl, rfl⟩ ⟨Nat.le_of_ble_eq_true rfl, Nat.le_of_ble_eq_true rfl⟩ ⟨Nat.zero_le _, Nat.zero_le _⟩ hP hD hS hA rfl rfl rfl hG (by decide) rfl rfl rfl rfl rfl rfl rfl rfl hl.1 rfl (Nat.le_of_ble_eq_true rfl) dX9_isContent_6 rfl (fun H locs hP hD hS => ?_)
  refine lv_aload_n hx hb dX9_isContent_9 rfl (lv_at hl 0 rfl) ?_
  refine lv_iload_n hx hb dX9_isContent_10 rfl (lv_at hl 1 rfl) ?_
  refine lv_iconst (v := (1 : Int32)) hx hb dX9_isContent_11 (by decide) ?_
  refine lv_iload_n hx hb dX9_isContent_12 rfl (lv_at hl 2 rfl) ?_
  refine lv_isub hx hb dX9_isContent_13 ?_
  refine lv_iload_n hx hb dX9_isContent_14 rfl (lv_at hl 3 rfl) ?_
  refine lv_iload hx hb dX9_isContent_15 (lv_at hl 4 rfl) ?_
  obtain ⟨⟨r12, y13, y14, y15, y16, y17, y18, y19, y20, y21⟩, h22, hv⟩ := ob_s hv
  refine wrV (as := [b_h, now_h, now_a0, now_a1, now_a2, now_a3, now_a4, now_a5, mind_h, mind_a0, mind_a1, mind_a2, mind_a3, mind_a4, mind_a5]) (wr := []) [0, 1, 2, 3, 4, 5, 6, 7, 8, 9, 10, 11, 12, 13, 14] [] 3 0 (ws := [oBp b_h now_h mind_h kept_h b_img rails_h sa_h, oSt now_h now_a0 now_a1 now_a2 now_a3 now_a4 now_a5 now_moving now_shut now_people now_needed now_day, ai E now_a0 10 now_height, ai E now_a1 7 now_kind, ai E now_a2 7 now_figure, ai E now_a3 7 now_rail, ai E now_a4 7 now_mood, ai E now_a5 7 now_sight, oSt mind_h mind_a0 mind_a1 mind_a2 mind_a3 mind_a4 mind_a5 mind_moving y2 y3 y4 y5, ai E mind_a0 10 y6, ai E mind_a1 7 y7, ai E mind_a2 7 y8, ai E mind_a3 7 y9, ai E mind_a4 7 y10, ai E mind_a5 7 mind_sight]) (ws' := [oBp b_h now_h mind_h kept_h b_img rails_h sa_h, oSt now_h now_a0 now_a1 now_a2 now_a3 now_a4 now_a5 now_moving now_shut now_people now_needed now_day, ai E now_a0 10 now_height, ai E now_a1 7 now_kind, ai E now_a2 7 now_figure, ai E now_a3 7 now_rail, ai E now_a4 7 now_mood, ai E now_a5 7 now_sight, oSt mind_h mind_a0 mind_a1 mind_a2 mind_a3 mind_a4 mind_a5 mind_moving y13 y14 y15 y16, ai E mind_a0 10 y17, ai E mind_a1 7 y18, ai E mind_a2 7 y19, ai E mind_a3 7 y20, ai E mind_a4 7 y21, ai E mind_a5 7 mind_sight]) (As := [.int p1, .int ((1 : Int32) - p2), .int p3, .int p4]) (rest := [.int r1]) (st1 := [.int r12, .int r1]) hC q_X9_gainOf kw_3_138 (c_X9_gainOf l E b_h now_h mind_h kept_h rails_h sa_h now_a0 now_a1 now_a2 now_a3 now_a4 now_a5 mind_a0 mind_a1 mind_a2 mind_a3 mind_a4 mind_a5 b_img now_height now_kind now_figure now_rail now_mood now_sight now_moving now_shut now_people now_needed now_day y6 y7 y8 y9 y10 mind_sight mind_moving y2 y3 y4 y5 p1 ((1 : Int32) - p2) p3 p4 N r12 y13 y14 y15 y16 y17 y18 y19 y20 y21 h22) ⟨rfl, rfl⟩ ⟨Nat.le_of_ble_eq_true rfl, Nat.le_of_ble_eq_true rfl⟩ ⟨Nat.zero_le _, Nat.zero_le _⟩ hP hD hS hA rfl rfl rfl hG (by decide) rfl rfl rfl rfl rfl rfl rfl rfl hl.1 rfl (Nat.le_of_ble_eq_true rfl) dX9_isContent_17 rfl (fun H locs hP hD hS => ?_)
  refine lv_icmp_lt (tgt := 27) hx hb dX9_isContent_20 (by decide) (fun c23 => ?_) (fun c23 => ?_)
  · have hv := if_y c23 hv
    refine lv_iconst (v := (0 : Int32)) hx hb dX9_isContent_27 (by decide) ?_
    refine lv_topi (fun z24 ez24 => ?_)
    have hv := nm_s ez24 hv
    have hn9 : narrow .boolean (.int z24) = .int z24 := (by rw [ez24]; rfl)
    cases hv
    exact W.zret hx hb hr hn9 (fun t h9 _ => ⟨rfl, by rw [h9]; exact hP, hS.F h9⟩) hS.2.2 dX9_isContent_28 hlk
  · have hv := if_n c23 hv
    refine lv_iconst (v := (1 : Int32)) hx hb dX9_isContent_23 (by decide) ?_
    refine lv_goto (tgt := 28) hx hb dX9_isContent_24 (by decide) ?_
    refine lv_topi (fun z25 ez25 => ?_)
    have hv := nm_s ez25 hv
    have hn9 : narrow .boolean (.int z25) = .int z25 := (by rw [ez25]; rfl)
    cases hv
    exact W.zret hx hb hr hn9 (fun t h9 _ => ⟨rfl, by rw [h9]; exact hP, hS.F h9⟩) hS.2.2 dX9_isContent_28 hlk
theorem dX9_two_0 : decode cX9_two 0 = .ok (.aload_n 0, 1) := by decide +kernel
theorem dX9_two_1 : decode cX9_two 1 = .ok (.getfield 12, 3) := by decide +kernel
theorem dX9_two_4 : decode cX9_two 4 = .ok (.iload_n 1, 1) := by decide +kernel
theorem dX9_two_5 : decode cX9_two 5 = .ok (.invokevirtual 58, 3) := by decide +kernel
theorem dX9_two_8 : decode cX9_two 8 = .ok (.ifCond .eq 19, 3) := by decide +kernel
theorem dX9_two_11 : decode cX9_two 11 = .ok (.aload_n 0, 1) := by decide +kernel
theorem dX9_two_12 : decode cX9_two 12 = .ok (.getfield 12, 3) := by decide +kernel
theorem dX9_two_15 : decode cX9_two 15 = .ok (.iload_n 2, 1) := by decide +kernel
theorem dX9_two_16 : decode cX9_two 16 = .ok (.invokevirtual 58, 3) := by decide +kernel
theorem dX9_two_19 : decode cX9_two 19 = .ok (.ifCond .eq 8, 3) := by decide +kernel
theorem dX9_two_22 : decode cX9_two 22 = .ok (.iload_n 1, 1) := by decide +kernel
theorem dX9_two_23 : decode cX9_two 23 = .ok (.iload_n 2, 1) := by decide +kernel
theorem dX9_two_24 : decode cX9_two 24 = .ok (.if_icmp .ne 5, 3) := by decide +kernel
theorem dX9_two_27 : decode cX9_two 27 = .ok (.iconst (-1), 1) := by decide +kernel
theorem dX9_two_28 : decode cX9_two 28 = .ok (.ireturn, 1) := by decide +kernel
theorem dX9_two_29 : decode cX9_two 29 = .ok (.iconst 0, 1) := by decide +kernel
theorem dX9_two_30 : decode cX9_two 30 = .ok (.istore_n 3, 1) := by decide +kernel
theorem dX9_two_31 : decode cX9_two 31 = .ok (.iload_n 3, 1) := by decide +kernel
theorem dX9_two_32 : decode cX9_two 32 = .ok (.iconst 1, 1) := by decide +kernel
theorem dX9_two_33 : decode cX9_two 33 = .ok (.if_icmp .gt 56, 3) := by decide +kernel
theorem dX9_two_36 : decode cX9_two 36 = .ok (.iconst 0, 1) := by decide +kernel
theorem dX9_two_37 : decode cX9_two 37 = .ok (.istore 4, 2) := by decide +kernel
theorem dX9_two_39 : decode cX9_two 39 = .ok (.iload 4, 2) := by decide +kernel
theorem dX9_two_41 : decode cX9_two 41 = .ok (.iconst 1, 1) := by decide +kernel
theorem dX9_two_42 : decode cX9_two 42 = .ok (.if_icmp .gt 41, 3) := by decide +kernel
theorem dX9_two_45 : decode cX9_two 45 = .ok (.aload_n 0, 1) := by decide +kernel
theorem dX9_two_46 : decode cX9_two 46 = .ok (.iload_n 1, 1) := by decide +kernel
theorem dX9_two_47 : decode cX9_two 47 = .ok (.iload_n 3, 1) := by decide +kernel
theorem dX9_two_48 : decode cX9_two 48 = .ok (.iload_n 2, 1) := by decide +kernel
theorem dX9_two_49 : decode cX9_two 49 = .ok (.iload 4, 2) := by decide +kernel
theorem dX9_two_51 : decode cX9_two 51 = .ok (.invokevirtual 246, 3) := by decide +kernel
theorem dX9_two_54 : decode cX9_two 54 = .ok (.ifCond .eq 23, 3) := by decide +kernel
theorem dX9_two_57 : decode cX9_two 57 = .ok (.aload_n 0, 1) := by decide +kernel
theorem dX9_two_58 : decode cX9_two 58 = .ok (.iload_n 2, 1) := by decide +kernel
theorem dX9_two_59 : decode cX9_two 59 = .ok (.iload 4, 2) := by decide +kernel
theorem dX9_two_61 : decode cX9_two 61 = .ok (.iload_n 1, 1) := by decide +kernel
theorem dX9_two_62 : decode cX9_two 62 = .ok (.iload_n 3, 1) := by decide +kernel
theorem dX9_two_63 : decode cX9_two 63 = .ok (.invokevirtual 246, 3) := by decide +kernel
theorem dX9_two_66 : decode cX9_two 66 = .ok (.ifCond .eq 11, 3) := by decide +kernel
theorem dX9_two_69 : decode cX9_two 69 = .ok (.bipush 10, 2) := by decide +kernel
theorem dX9_two_71 : decode cX9_two 71 = .ok (.iload_n 3, 1) := by decide +kernel
theorem dX9_two_72 : decode cX9_two 72 = .ok (.imul, 1) := by decide +kernel
theorem dX9_two_73 : decode cX9_two 73 = .ok (.iload 4, 2) := by decide +kernel
theorem dX9_two_75 : decode cX9_two 75 = .ok (.iadd, 1) := by decide +kernel
theorem dX9_two_76 : decode cX9_two 76 = .ok (.ireturn, 1) := by decide +kernel
theorem dX9_two_77 : decode cX9_two 77 = .ok (.iinc 4 1, 3) := by decide +kernel
theorem dX9_two_80 : decode cX9_two 80 = .ok (.goto (-41), 3) := by decide +kernel
theorem dX9_two_83 : decode cX9_two 83 = .ok (.iinc 3 1, 3) := by decide +kernel
theorem dX9_two_86 : decode cX9_two 86 = .ok (.goto (-55), 3) := by decide +kernel
theorem dX9_two_89 : decode cX9_two 89 = .ok (.bipush (-4), 2) := by decide +kernel
theorem dX9_two_91 : decode cX9_two 91 = .ok (.ireturn, 1) := by decide +kernel
def L_X9_two_39 (N : Nat) (now_height : Nat → Int32) (now_kind : Nat → Int32) (now_figure : Nat → Int32) (now_rail : Nat → Int32) (now_mood : Nat → Int32) (now_shut : Int32) (now_people : Int32) (now_needed : Int32) (now_day : Int32) (p1 : Int32) (p2 : Int32) (x10 : Int32) (k_39 : Int32 → Int32 → Int32 → Int32 → Int32 → (Nat → Int32) → (Nat → Int32) → (Nat → Int32) → (Nat → Int32) → (Nat → Int32) → Option (Int32 × Int32 × Int32 × Int32 × Int32 × (Nat → Int32) × (Nat → Int32) × (Nat → Int32) × (Nat → Int32) × (Nat → Int32))) : Nat → Int32 → Int32 → Int32 → Int32 → Int32 → (Nat → Int32) → (Nat → Int32) → (Nat → Int32) → (Nat → Int32) → (Nat → Int32) → Option (Int32 × Int32 × Int32 × Int32 × Int32 × (Nat → Int32) × (Nat → Int32) × (Nat → Int32) × (Nat → Int32) × (Nat → Int32))
  | 0, _, _, _, _, _, _, _, _, _, _ => none
  | n39 + 1, x22, y23, y24, y25, y26, y27, y28, y29, y30, y31 => if (1 : Int32) < x22 then k_39 x22 y23 y24 y25 y26 y27 y28 y29 y30 y31 else ob (f_X9_isContent N now_height now_kind now_figure now_rail now_mood now_shut now_people now_needed now_day p1 x10 p2 x22) (fun (r33, y34, y35, y36, y37, y38, y39, y40, y41, y42) => if r33 = 0 then L_X9_two_39 N now_height now_kind now_figure now_rail now_mood now_shut now_people now_needed now_day p1 p2 x10 k_39 n39 (x22 + (1 : Int32)) y34 y35 y36 y37 y38 y39 y40 y41 y42 else ob (f_X9_isContent N now_height now_kind now_figure now_rail now_mood now_shut now_people now_needed now_day p2 x22 p1 x10) (fun (r45, y46, y47, y48, y49, y50, y51, y52, y53, y54) => if r45 = 0 then L_X9_two_39 N now_height now_kind now_figure now_rail now_mood now_shut now_people now_needed now_day p1 p2 x10 k_39 n39 (x22 + (1 : Int32)) y46 y47 y48 y49 y50 y51 y52 y53 y54 else nm (((10 : Int32) * x10) + x22) (fun z57 => some (z57, y46, y47, y48, y49, y50, y51, y52, y53, y54))))
def L_X9_two_31 (N : Nat) (now_height : Nat → Int32) (now_kind : Nat → Int32) (now_figure : Nat → Int32) (now_rail : Nat → Int32) (now_mood : Nat → Int32) (now_shut : Int32) (now_people : Int32) (now_needed : Int32) (now_day : Int32) (p1 : Int32) (p2 : Int32) : Nat → Int32 → Int32 → Int32 → Int32 → Int32 → (Nat → Int32) → (Nat → Int32) → (Nat → Int32) → (Nat → Int32) → (Nat → Int32) → Option (Int32 × Int32 × Int32 × Int32 × Int32 × (Nat → Int32) × (Nat → Int32) × (Nat → Int32) × (Nat → Int32) × (Nat → Int32))
  | 0, _, _, _, _, _, _, _, _, _, _ => none
  | n31 + 1, x10, y11, y12, y13, y14, y15, y16, y17, y18, y19 => if (1 : Int32) < x10 then nm (-4 : Int32) (fun z21 => some (z21, y11, y12, y13, y14, y15, y16, y17, y18, y19)) else L_X9_two_39 N now_height now_kind now_figure now_rail now_mood now_shut now_people now_needed now_day p1 p2 x10 (fun x58 y59 y60 y61 y62 y63 y64 y65 y66 y67 => L_X9_two_31 N now_height now_kind now_figure now_rail now_mood now_shut now_people now_needed now_day p1 p2 n31 (x10 + (1 : Int32)) y59 y60 y61 y62 y63 y64 y65 y66 y67) N (0 : Int32) y11 y12 y13 y14 y15 y16 y17 y18 y19
def f_X9_two (N : Nat) (now_height : Nat → Int32) (now_kind : Nat → Int32) (now_figure : Nat → Int32) (now_rail : Nat → Int32) (now_mood : Nat → Int32) (now_shut : Int32) (now_people : Int32) (now_needed : Int32) (now_day : Int32) (mind_height : Nat → Int32) (mind_kind : Nat → Int32) (mind_figure : Nat → Int32) (mind_rail : Nat → Int32) (mind_mood : Nat → Int32) (mind_shut : Int32) (mind_people : Int32) (mind_needed : Int32) (mind_day : Int32) (p1 : Int32) (p2 : Int32) : Option (Int32 × Int32 × Int32 × Int32 × Int32 × (Nat → Int32) × (Nat → Int32) × (Nat → Int32) × (Nat → Int32) × (Nat → Int32)) := ob (f_X8_isThere now_people p1) (fun r1 => if r1 = 0 then nm (-1 : Int32) (fun z4 => some (z4, mind_shut, mind_people, mind_needed, mind_day, mind_height, mind_kind, mind_figure, mind_rail, mind_mood)) else ob (f_X8_isThere now_people p2) (fun r5 => if r5 = 0 then nm (-1 : Int32) (fun z8 => some (z8, mind_shut, mind_people, mind_needed, mind_day, mind_height, mind_kind, mind_figure, mind_rail, mind_mood)) else if p1 = p2 then nm (-1 : Int32) (fun z68 => some (z68, mind_shut, mind_people, mind_needed, mind_day, mind_height, mind_kind, mind_figure, mind_rail, mind_mood)) else L_X9_two_31 N now_height now_kind now_figure now_rail now_mood now_shut now_people now_needed now_day p1 p2 N (0 : Int32) mind_shut mind_people mind_needed mind_day mind_height mind_kind mind_figure mind_rail mind_mood))
set_option maxHeartbeats 4000000 in
set_option maxRecDepth 100000 in
theorem c_X9_two (l : Launch) (E : EE) (b_h : Nat) (now_h : Nat) (mind_h : Nat) (kept_h : Nat) (rails_h : Nat) (sa_h : Nat) (now_a0 : Nat) (now_a1 : Nat) (now_a2 : Nat) (now_a3 : Nat) (now_a4 : Nat) (now_a5 : Nat) (mind_a0 : Nat) (mind_a1 : Nat) (mind_a2 : Nat) (mind_a3 : Nat) (mind_a4 : Nat) (mind_a5 : Nat) (b_img : Int32) (now_height : Nat → Int32) (now_kind : Nat → Int32) (now_figure : Nat → Int32) (now_rail : Nat → Int32) (now_mood : Nat → Int32) (now_sight : Nat → Int32) (now_moving : Int32) (now_shut : Int32) (now_people : Int32) (now_needed : Int32) (now_day : Int32) (mind_height : Nat → Int32) (mind_kind : Nat → Int32) (mind_figure : Nat → Int32) (mind_rail : Nat → Int32) (mind_mood : Nat → Int32) (mind_sight : Nat → Int32) (mind_moving : Int32) (mind_shut : Int32) (mind_people : Int32) (mind_needed : Int32) (mind_day : Int32) (p1 : Int32) (p2 : Int32) (N : Nat) (res : Int32) (w_mind_shut : Int32) (w_mind_people : Int32) (w_mind_needed : Int32) (w_mind_day : Int32) (w_mind_height : Nat → Int32) (w_mind_kind : Nat → Int32) (w_mind_figure : Nat → Int32) (w_mind_rail : Nat → Int32) (w_mind_mood : Nat → Int32) (hv : f_X9_two N now_height now_kind now_figure now_rail now_mood now_shut now_people now_needed now_day mind_height mind_kind mind_figure mind_rail mind_mood mind_shut mind_people mind_needed mind_day p1 p2 = some (res, w_mind_shut, w_mind_people, w_mind_needed, w_mind_day, w_mind_height, w_mind_kind, w_mind_figure, w_mind_rail, w_mind_mood)) : Wr l E yX9_two cX9_two 5 (some .int) ({ frames := 7, cells := 0, slots := 0, locals := 158 }) [.ref b_h, .int p1, .int p2] [oBp b_h now_h mind_h kept_h b_img rails_h sa_h, oSt now_h now_a0 now_a1 now_a2 now_a3 now_a4 now_a5 now_moving now_shut now_people now_needed now_day, ai E now_a0 10 now_height, ai E now_a1 7 now_kind, ai E now_a2 7 now_figure, ai E now_a3 7 now_rail, ai E now_a4 7 now_mood, ai E now_a5 7 now_sight, oSt mind_h mind_a0 mind_a1 mind_a2 mind_a3 mind_a4 mind_a5 mind_moving mind_shut mind_people mind_needed mind_day, ai E mind_a0 10 mind_height, ai E mind_a1 7 mind_kind, ai E mind_a2 7 mind_figure, ai E mind_a3 7 mind_rail, ai E mind_a4 7 mind_mood, ai E mind_a5 7 mind_sight] [oBp b_h now_h mind_h kept_h b_img rails_h sa_h, oSt now_h now_a0 now_a1 now_a2 now_a3 now_a4 now_a5 now_moving now_shut now_people now_needed now_day, ai E now_a0 10 now_height, ai E now_a1 7 now_kind, ai E now_a2 7 now_figure, ai E now_a3 7 now_rail, ai E now_a4 7 now_mood, ai E now_a5 7 now_sight, oSt mind_h mind_a0 mind_a1 mind_a2 mind_a3 mind_a4 mind_a5 mind_moving w_mind_shut w_mind_people w_mind_needed w_mind_day, ai E mind_a0 10 w_mind_height, ai E mind_a1 7 w_mind_kind, ai E mind_a2 7 w_mind_figure, ai E mind_a3 7 w_mind_rail, ai E mind_a4 7 w_mind_mood, ai E mind_a5 7 mind_sight] (some (.int res)) := by
  refine Wr.intro RX9 (by decide) rfl (Nat.le_of_ble_eq_true rfl) ?_
  intro p e s m below meth c ls A hC hr hlk hmn hP hD hS hA hG hl
  obtain ⟨hx, hb, hml, hown, ht⟩ := id hC
  have hK := hG.1
  have hl : lv_has ls 5 [(0, .ref b_h), (1, .int p1), (2, .int p2)] := hl
  rw [f_X9_two] at hv
  refine lv_aload_n hx hb dX9_two_0 rfl (lv_at hl 0 rfl) ?_
  refine va_get (D := E.1) (ci := 3) (v := .ref now_h) (C := RX9) (T := TX9) (N := 6) hx hb ht i_X9 hown hK hP 0 rfl rfl 0 (by decide) (ht _ kw_1_138) (fun _ h9 => h9) rfl dX9_two_1 ?_
  refine lv_iload_n hx hb dX9_two_4 rfl (lv_at hl 1 rfl) ?_
  obtain ⟨r1, h2, hv⟩ := ob_s hv
  refine rdV 2 0 (As := [.int p1]) (rest := []) (st1 := [.int r1]) (w := [oSt now_h now_a0 now_a1 now_a2 now_a3 now_a4 now_a5 now_moving now_shut now_people now_needed now_day, ai E now_a0 10 now_height, ai E now_a1 7 now_kind, ai E now_a2 7 now_figure, ai E now_a3 7 now_rail, ai E now_a4 7 now_mood, ai E now_a5 7 now_sight]) hC q_X8_isThere kw_2_50 (c_X8_isThere l E now_h now_a0 now_a1 now_a2 now_a3 now_a4 now_a5 now_height now_kind now_figure now_rail now_mood now_sight now_moving now_shut now_people now_needed now_day p1 r1 h2) ⟨rfl, rfl⟩ ⟨Nat.le_of_ble_eq_true rfl, Nat.le_of_ble_eq_true rfl⟩ ⟨Nat.zero_le _, Nat.zero_le _⟩ (hP.sub (ws' := [oSt now_h now_a0 now_a1 now_a2 now_a3 now_a4 now_a5 now_moving now_shut now_people now_needed now_day, ai E now_a0 10 now_height, ai E now_a1 7 now_kind, ai E now_a2 7 now_figure, ai E now_a3 7 now_rail, ai E now_a4 7 now_mood, ai E now_a5 7 now_sight]) [1, 2, 3, 4, 5, 6, 7] rfl) rfl rfl rfl hG rfl hl.1 rfl (Nat.le_of_ble_eq_true rfl) dX9_two_5 rfl ?_
  refine lv_if_eq (tgt := 27) hx hb dX9_two_8 (by decide) (fun c3 => ?_) (fun c3 => ?_)
  · have hv := if_y c3 hv
    refine lv_iconst (v := (-1 : Int32)) hx hb dX9_two_27 (by decide) ?_
    refine lv_topi (fun z4 ez4 => ?_)
    have hv := nm_s ez4 hv
    cases hv
    exact W.iret hx hb hr (fun t h9 _ => ⟨rfl, by rw [h9]; exact hP, hS.F h9⟩) hS.2.2 dX9_two_28 hlk
  · have hv := if_n c3 hv
    refine lv_aload_n hx hb dX9_two_11 rfl (lv_at hl 0 rfl) ?_
    refine va_get (D := E.1) (ci := 3) (v := .ref now_h) (C := RX9) (T := TX9) (N := 6) hx hb ht i_X9 hown hK hP 0 rfl rfl 0 (by decide) (ht _ kw_1_138) (fun _ h9 => h9) rfl dX9_two_12 ?_
    refine lv_iload_n hx hb dX9_two_15 rfl (lv_at hl 2 rfl) ?_
    obtain ⟨r5, h6, hv⟩ := ob_s hv
    refine rdV 2 0 (As := [.int p2]) (rest := []) (st1 := [.int r5]) (w := [oSt now_h now_a0 now_a1 now_a2 now_a3 now_a4 now_a5 now_moving now_shut now_people now_needed now_day, ai E now_a0 10 now_height, ai E now_a1 7 now_kind, ai E now_a2 7 now_figure, ai E now_a3 7 now_rail, ai E now_a4 7 now_mood, ai E now_a5 7 now_sight]) hC q_X8_isThere kw_2_50 (c_X8_isThere l E now_h now_a0 now_a1 now_a2 now_a3 now_a4 now_a5 now_height now_kind now_figure now_rail now_mood now_sight now_moving now_shut now_people now_needed now_day p2 r5 h6) ⟨rfl, rfl⟩ ⟨Nat.le_of_ble_eq_true rfl, Nat.le_of_ble_eq_true rfl⟩ ⟨Nat.zero_le _, Nat.zero_le _⟩ (hP.sub (ws' := [oSt now_h now_a0 now_a1 now_a2 now_a3 now_a4 now_a5 now_moving now_shut now_people now_needed now_day, ai E now_a0 10 now_height, ai E now_a1 7 now_kind, ai E now_a2 7 now_figure, ai E now_a3 7 now_rail, ai E now_a4 7 now_mood, ai E now_a5 7 now_sight]) [1, 2, 3, 4, 5, 6, 7] rfl) rfl rfl rfl hG rfl hl.1 rfl (Nat.le_of_ble_eq_true rfl) dX9_two_16 rfl ?_
    refine lv_if_eq (tgt := 27) hx hb dX9_two_19 (by decide) (fun c7 => ?_) (fun c7 => ?_)
    · have hv := if_y c7 hv
      refine lv_iconst (v := (-1 : Int32)) hx hb dX9_two_27 (by decide) ?_
      refine lv_topi (fun z8 ez8 => ?_)
      have hv := nm_s ez8 hv
      cases hv
      exact W.iret hx hb hr (fun t h9 _ => ⟨rfl, by rw [h9]; exact hP, hS.F h9⟩) hS.2.2 dX9_two_28 hlk
    · have hv := if_n c7 hv
      refine lv_iload_n hx hb dX9_two_22 rfl (lv_at hl 1 rfl) ?_
      refine lv_iload_n hx hb dX9_two_23 rfl (lv_at hl 2 rfl) ?_
      refine lv_icmp_ne (tgt := 29) hx hb dX9_two_24 (by decide) (fun c9 => ?_) (fun c9 => ?_)
      · have hv := if_n c9 hv
        refine lv_iconst (v := (0 : Int32)) hx hb dX9_two_29 (by decide) ?_
        refine lv_istore_n (lv' := [(3, .int (0 : Int32)), (0, .ref b_h), (1, .int p1), (2, .int p2)]) hx hb dX9_two_30 rfl hl (by decide) rfl (fun ls hl => ?_)
        have hL31 : ∀ (n : Nat) (x10 : Int32) (y11 : Int32) (y12 : Int32) (y13 : Int32) (y14 : Int32) (y15 : Nat → Int32) (y16 : Nat → Int32) (y17 : Nat → Int32) (y18 : Nat → Int32) (y19 : Nat → Int32) (H : Heap) (locs : List Loc) (ls : Array Slot), va_P E.1 vwCl [oBp b_h now_h mind_h kept_h b_img rails_h sa_h, oSt now_h now_a0 now_a1 now_a2 now_a3 now_a4 now_a5 now_moving now_shut now_people now_needed now_day, ai E now_a0 10 now_height, ai E now_a1 7 now_kind, ai E now_a2 7 now_figure, ai E now_a3 7 now_rail, ai E now_a4 7 now_mood, ai E now_a5 7 now_sight, oSt mind_h mind_a0 mind_a1 mind_a2 mind_a3 mind_a4 mind_a5 mind_moving y11 y12 y13 y14, ai E mind_a0 10 y15, ai E mind_a1 7 y16, ai E mind_a2 7 y17, ai E mind_a3 7 y18, ai E mind_a4 7 y19, ai E mind_a5 7 mind_sight] H → va_D A [oBp b_h now_h mind_h kept_h b_img rails_h sa_h, oSt now_h now_a0 now_a1 now_a2 now_a3 now_a4 now_a5 now_moving now_shut now_people now_needed now_day, ai E now_a0 10 now_height, ai E now_a1 7 now_kind, ai E now_a2 7 now_figure, ai E now_a3 7 now_rail, ai E now_a4 7 now_mood, ai E now_a5 7 now_sight, oSt mind_h mind_a0 mind_a1 mind_a2 mind_a3 mind_a4 mind_a5 mind_moving y11 y12 y13 y14, ai E mind_a0 10 y15, ai E mind_a1 7 y16, ai E mind_a2 7 y17, ai E mind_a3 7 y18, ai E mind_a4 7 y19, ai E mind_a5 7 mind_sight] → va_S A s.heap H locs → lv_has ls 5 [(3, .int x10), (0, .ref b_h), (1, .int p1), (2, .int p2)] → L_X9_two_31 N now_height now_kind now_figure now_rail now_mood now_shut now_people now_needed now_day p1 p2 n x10 y11 y12 y13 y14 y15 y16 y17 y18 y19 = some (res, w_mind_shut, w_mind_people, w_mind_needed, w_mind_day, w_mind_height, w_mind_kind, w_mind_figure, w_mind_rail, w_mind_mood) → W p l e ({ frames := 7, cells := 0, slots := 0, locals := 158 }) s m [.ref b_h, .int p1, .int p2].toArray below meth c H locs 0 0 (MQ below (fun _ st oc t => oc = .returned (some (.int res)) ∧ va_P E.1 vwCl [oBp b_h now_h mind_h kept_h b_img rails_h sa_h, oSt now_h now_a0 now_a1 now_a2 now_a3 now_a4 now_a5 now_moving now_shut now_people now_needed now_day, ai E now_a0 10 now_height, ai E now_a1 7 now_kind, ai E now_a2 7 now_figure, ai E now_a3 7 now_rail, ai E now_a4 7 now_mood, ai E now_a5 7 now_sight, oSt mind_h mind_a0 mind_a1 mind_a2 mind_a3 mind_a4 mind_a5 mind_moving w_mind_shut w_mind_people w_mind_needed w_mind_day, ai E mind_a0 10 w_mind_height, ai E mind_a1 7 w_mind_kind, ai E mind_a2 7 w_mind_figure, ai E mind_a3 7 w_mind_rail, ai E mind_a4 7 w_mind_mood, ai E mind_a5 7 mind_sight] t.heap ∧ va_F A st t) [.ref b_h, .int p1, .int p2].toArray s 0 0 A) (F0 m 31 ls []) := by
          intro n
          induction n with
          | zero => intro x10 y11 y12 y13 y14 y15 y16 y17 y18 y19 H locs ls hP hD hS hl hv; cases hv
          | succ n31 ih31 =>
            intro x10 y11 y12 y13 y14 y15 y16 y17 y18 y19 H locs ls hP hD hS hl hv
            rw [L_X9_two_31] at hv
            refine lv_iload_n hx hb dX9_two_31 rfl (lv_at hl 0 rfl) ?_
            refine lv_iconst (v := (1 : Int32)) hx hb dX9_two_32 (by decide) ?_
            refine lv_icmp_gt (tgt := 89) hx hb dX9_two_33 (by decide) (fun c20 => ?_) (fun c20 => ?_)
            · have hv := if_y c20 hv
              refine lv_bipush (v := (-4 : Int32)) hx hb dX9_two_89 (by decide) ?_
              refine lv_topi (fun z21 ez21 => ?_)
              have hv := nm_s ez21 hv
              cases hv
              exact W.iret hx hb hr (fun t h9 _ => ⟨rfl, by rw [h9]; exact hP, hS.F h9⟩) hS.2.2 dX9_two_91 hlk
            · have hv := if_n c20 hv
              refine lv_iconst (v := (0 : Int32)) hx hb dX9_two_36 (by decide) ?_
              refine lv_istore (lv' := [(4, .int (0 : Int32)), (3, .int x10), (0, .ref b_h), (1, .int p1), (2, .int p2)]) hx hb dX9_two_37 hl (by decide) rfl (fun ls hl => ?_)
              have hL39 : ∀ (k_39 : Int32 → Int32 → Int32 → Int32 → Int32 → (Nat → Int32) → (Nat → Int32) → (Nat → Int32) → (Nat → Int32) → (Nat → Int32) → Option (Int32 × Int32 × Int32 × Int32 × Int32 × (Nat → Int32) × (Nat → Int32) × (Nat → Int32) × (Nat → Int32) × (Nat → Int32))), (∀ (x22 : Int32) (y23 : Int32) (y24 : Int32) (y25 : Int32) (y26 : Int32) (y27 : Nat → Int32) (y28 : Nat → Int32) (y29 : Nat → Int32) (y30 : Nat → Int32) (y31 : Nat → Int32) (H : Heap) (locs : List Loc) (ls : Array Slot), va_P E.1 vwCl [oBp b_h now_h mind_h kept_h b_img rails_h sa_h, oSt now_h now_a0 now_a1 now_a2 now_a3 now_a4 now_a5 now_moving now_shut now_people now_needed now_day, ai E now_a0 10 now_height, ai E now_a1 7 now_kind, ai E now_a2 7 now_figure, ai E now_a3 7 now_rail, ai E now_a4 7 now_mood, ai E now_a5 7 now_sight, oSt mind_h mind_a0 mind_a1 mind_a2 mind_a3 mind_a4 mind_a5 mind_moving y23 y24 y25 y26, ai E mind_a0 10 y27, ai E mind_a1 7 y28, ai E mind_a2 7 y29, ai E mind_a3 7 y30, ai E mind_a4 7 y31, ai E mind_a5 7 mind_sight] H → va_D A [oBp b_h now_h mind_h kept_h b_img rails_h sa_h, oSt now_h now_a0 now_a1 now_a2 now_a3 now_a4 now_a5 now_moving now_shut now_people now_needed now_day, ai E now_a0 10 now_height, ai E now_a1 7 now_kind, ai E now_a2 7 now_figure, ai E now_a3 7 now_rail, ai E now_a4 7 now_mood, ai E now_a5 7 now_sight, oSt mind_h mind_a0 mind_a1 mind_a2 mind_a3 mind_a4 mind_a5 mind_moving y23 y24 y25 y26, ai E mind_a0 10 y27, ai E mind_a1 7 y28, ai E mind_a2 7 y29, ai E mind_a3 7 y30, ai E mind_a4 7 y31, ai E mind_a5 7 mind_sight] → va_S A s.heap H locs → lv_has ls 5 [(4, .int x22), (3, .int x10), (0, .ref b_h), (1, .int p1), (2, .int p2)] → k_39 x22 y23 y24 y25 y26 y27 y28 y29 y30 y31 = some (res, w_mind_shut, w_mind_people, w_mind_needed, w_mind_day, w_mind_height, w_mind_kind, w_mind_figure, w_mind_rail, w_mind_mood) → W p l e ({ frames := 7, cells := 0, slots := 0, locals := 158 }) s m [.ref b_h, .int p1, .int p2].toArray below meth c H locs 0 0 (MQ below (fun _ st oc t => oc = .returned (some (.int res)) ∧ va_P E.1 vwCl [oBp b_h now_h mind_h kept_h b_img rails_h sa_h, oSt now_h now_a0 now_a1 now_a2 now_a3 now_a4 now_a5 now_moving now_shut now_people now_needed now_day, ai E now_a0 10 now_height, ai E now_a1 7 now_kind, ai E now_a2 7 now_figure, ai E now_a3 7 now_rail, ai E now_a4 7 now_mood, ai E now_a5 7 now_sight, oSt mind_h mind_a0 mind_a1 mind_a2 mind_a3 mind_a4 mind_a5 mind_moving w_mind_shut w_mind_people w_mind_needed w_mind_day, ai E mind_a0 10 w_mind_height, ai E mind_a1 7 w_mind_kind, ai E mind_a2 7 w_mind_figure, ai E mind_a3 7 w_mind_rail, ai E mind_a4 7 w_mind_mood, ai E mind_a5 7 mind_sight] t.heap ∧ va_F A st t) [.ref b_h, .int p1, .int p2].toArray s 0 0 A) (F0 m 83 ls [])) → ∀ (n : Nat) (x22 : Int32) (y23 : Int32) (y24 : Int32) (y25 : Int32) (y26 : Int32) (y27 : Nat → Int32) (y28 : Nat → Int32) (y29 : Nat → Int32) (y30 : Nat → Int32) (y31 : Nat → Int32) (H : Heap) (locs : List Loc) (ls : Array Slot), va_P E.1 vwCl [oBp b_h now_h mind_h kept_h b_img rails_h sa_h, oSt now_h now_a0 now_a1 now_a2 now_a3 now_a4 now_a5 now_moving now_shut now_people now_needed now_day, ai E now_a0 10 now_height, ai E now_a1 7 now_kind, ai E now_a2 7 now_figure, ai E now_a3 7 now_rail, ai E now_a4 7 now_mood, ai E now_a5 7 now_sight, oSt mind_h mind_a0 mind_a1 mind_a2 mind_a3 mind_a4 mind_a5 mind_moving y23 y24 y25 y26, ai E mind_a0 10 y27, ai E mind_a1 7 y28, ai E mind_a2 7 y29, ai E mind_a3 7 y30, ai E mind_a4 7 y31, ai E mind_a5 7 mind_sight] H → va_D A [oBp b_h now_h mind_h kept_h b_img rails_h sa_h, oSt now_h now_a0 now_a1 now_a2 now_a3 now_a4 now_a5 now_moving now_shut now_people now_needed now_day, ai E now_a0 10 now_height, ai E now_a1 7 now_kind, ai E now_a2 7 now_figure, ai E now_a3 7 now_rail, ai E now_a4 7 now_mood, ai E now_a5 7 now_sight, oSt mind_h mind_a0 mind_a1 mind_a2 mind_a3 mind_a4 mind_a5 mind_moving y23 y24 y25 y26, ai E mind_a0 10 y27, ai E mind_a1 7 y28, ai E mind_a2 7 y29, ai E mind_a3 7 y30, ai E mind_a4 7 y31, ai E mind_a5 7 mind_sight] → va_S A s.heap H locs → lv_has ls 5 [(4, .int x22), (3, .int x10), (0, .ref b_h), (1, .int p1), (2, .int p2)] → L_X9_two_39 N now_height now_kind now_figure now_rail now_mood now_shut now_people now_needed now_day p1 p2 x10 k_39 n x22 y23 y24 y25 y26 y27 y28 y29 y30 y31 = some (res, w_mind_shut, w_mind_people, w_mind_needed, w_mind_day, w_mind_height, w_mind_kind, w_mind_figure, w_mind_rail, w_mind_mood) → W p l e ({ frames := 7, cells := 0, slots := 0, locals := 158 }) s m [.ref b_h, .int p1, .int p2].toArray below meth c H locs 0 0 (MQ below (fun _ st oc t => oc = .returned (some (.int res)) ∧ va_P E.1 vwCl [oBp b_h now_h mind_h kept_h b_img rails_h sa_h, oSt now_h now_a0 now_a1 now_a2 now_a3 now_a4 now_a5 now_moving now_shut now_people now_needed now_day, ai E now_a0 10 now_height, ai E now_a1 7 now_kind, ai E now_a2 7 now_figure, ai E now_a3 7 now_rail, ai E now_a4 7 now_mood, ai E now_a5 7 now_sight, oSt mind_h mind_a0 mind_a1 mind_a2 mind_a3 mind_a4 mind_a5 mind_moving w_mind_shut w_mind_people w_mind_needed w_mind_day, ai E mind_a0 10 w_mind_height, ai E mind_a1 7 w_mind_kind, ai E mind_a2 7 w_mind_figure, ai E mind_a3 7 w_mind_rail, ai E mind_a4 7 w_mind_mood, ai E mind_a5 7 mind_sight] t.heap ∧ va_F A st t) [.ref b_h, .int p1, .int p2].toArray s 0 0 A) (F0 m 39 ls []) := by
                intro k_39 hk_39 n
                induction n with
                | zero => intro x22 y23 y24 y25 y26 y27 y28 y29 y30 y31 H locs ls hP hD hS hl hv; cases hv
                | succ n39 ih39 =>
                  intro x22 y23 y24 y25 y26 y27 y28 y29 y30 y31 H locs ls hP hD hS hl hv
                  rw [L_X9_two_39] at hv
                  refine lv_iload hx hb dX9_two_39 (lv_at hl 0 rfl) ?_
                  refine lv_iconst (v := (1 : Int32)) hx hb dX9_two_41 (by decide) ?_
                  refine lv_icmp_gt (tgt := 83) hx hb dX9_two_42 (by decide) (fun c32 => ?_) (fun c32 => ?_)
                  · have hv := if_y c32 hv
                    exact hk_39 x22 y23 y24 y25 y26 y27 y28 y29 y30 y31 _ _ _ hP hD hS (lv_sub hl [0, 1, 2, 3, 4] rfl) hv
                  · have hv := if_n c32 hv
                    refine lv_aload_n hx hb dX9_two_45 rfl (lv_at hl 2 rfl) ?_
                    refine lv_iload_n hx hb dX9_two_46 rfl (lv_at hl 3 rfl) ?_
                    refine lv_iload_n hx hb dX9_two_47 rfl (lv_at hl 1 rfl) ?_
                    refine lv_iload_n hx hb dX9_two_48 rfl (lv_at hl 4 rfl) ?_
                    refine lv_iload hx hb dX9_two_49 (lv_at hl 0 rfl) ?_
                    obtain ⟨⟨r33, y34, y35, y36, y37, y38, y39, y40, y41, y42⟩, h43, hv⟩ := ob_s hv
                    refine wrV (as := [b_h, now_h, now_a0, now_a1, now_a2, now_a3, now_a4, now_a5, mind_h, mind_a0, mind_a1, mind_a2, mind_a3, mind_a4, mind_a5]) (wr := []) [0, 1, 2, 3, 4, 5, 6, 7, 8, 9, 10, 11, 12, 13, 14] [] 3 0 (ws := [oBp b_h now_h mind_h kept_h b_img rails_h sa_h, oSt now_h now_a0 now_a1 now_a2 now_a3 now_a4 now_a5 now_moving now_shut now_people now_needed now_day, ai E now_a0 10 now_height, ai E now_a1 7 now_kind, ai E now_a2 7 now_figure, ai E now_a3 7 now_rail, ai E now_a4 7 now_mood, ai E now_a5 7 now_sight, oSt mind_h mind_a0 mind_a1 mind_a2 mind_a3 mind_a4 mind_a5 mind_moving y23 y24 y25 y26, ai E mind_a0 10 y27, ai E mind_a1 7 y28, ai E mind_a2 7 y29, ai E mind_a3 7 y30, ai E mind_a4 7 y31, ai E mind_a5 7 mind_sight]) (ws' := [oBp b_h now_h mind_h kept_h b_img rails_h sa_h, oSt now_h now_a0 now_a1 now_a2 now_a3 now_a4 now_a5 now_moving now_shut now_people now_needed now_day, ai E now_a0 10 now_height, ai E now_a1 7 now_kind, ai E now_a2 7 now_figure, ai E now_a3 7 now_rail, ai E now_a4 7 now_mood, ai E now_a5 7 now_sight, oSt mind_h mind_a0 mind_a1 mind_a2 mind_a3 mind_a4 mind_a5 mind_moving y34 y35 y36 y37, ai E mind_a0 10 y38, ai E mind_a1 7 y39, ai E mind_a2 7 y40, ai E mind_a3 7 y41, ai E mind_a4 7 y42, ai E mind_a5 7 mind_sight]) (As := [.int p1, .int x10, .int p2, .int x22]) (rest := []) (st1 := [.int r33]) hC q_X9_isContent kw_3_134 (c_X9_isContent l E b_h now_h mind_h kept_h rails_h sa_h now_a0 now_a1 now_a2 now_a3 now_a4 now_a5 mind_a0 mind_a1 mind_a2 mind_a3 mind_a4 mind_a5 b_img now_height now_kind now_figure now_rail now_mood now_sight now_moving now_shut now_people now_needed now_day y27 y28 y29 y30 y31 mind_sight mind_moving y23 y24 y25 y26 p1 x10 p2 x22 N r33 y34 y35 y36 y37 y38 y39 y40 y41 y42 h43) ⟨rfl, rfl⟩ ⟨Nat.le_of_ble_eq_true rfl, Nat.le_of_ble_eq_true rfl⟩ ⟨Nat.zero_le _, Nat.zero_le _⟩ hP hD hS hA rfl rfl rfl hG (by decide) rfl rfl rfl rfl rfl rfl rfl rfl hl.1 rfl (Nat.le_of_ble_eq_true rfl) dX9_two_51 rfl (fun H locs hP hD hS => ?_)
                    refine lv_if_eq (tgt := 77) hx hb dX9_two_54 (by decide) (fun c44 => ?_) (fun c44 => ?_)
                    · have hv := if_y c44 hv
                      refine lv_iinc (v := (x22 + (1 : Int32))) (lv' := [(4, .int (x22 + (1 : Int32))), (3, .int x10), (0, .ref b_h), (1, .int p1), (2, .int p2)]) hx hb dX9_two_77 hl (k := 0) rfl rfl (by decide) rfl (fun ls hl => ?_)
                      refine lv_goto (tgt := 39) hx hb dX9_two_80 (by decide) ?_
                      exact ih39 (x22 + (1 : Int32)) y34 y35 y36 y37 y38 y39 y40 y41 y42 _ _ _ hP hD hS (lv_sub hl [0, 1, 2, 3, 4] rfl) hv
                    · have hv := if_n c44 hv
                      refine lv_aload_n hx hb dX9_two_57 rfl (lv_at hl 2 rfl) ?_
                      refine lv_iload_n hx hb dX9_two_58 rfl (lv_at hl 4 rfl) ?_
                      refine lv_iload hx hb dX9_two_59 (lv_at hl 0 rfl) ?_
                      refine lv_iload_n hx hb dX9_two_61 rfl (lv_at hl 3 rfl) ?_
                      refine lv_iload_n hx hb dX9_two_62 rfl (lv_at hl 1 rfl) ?_
                      obtain ⟨⟨r45, y46, y47, y48, y49, y50, y51, y52, y53, y54⟩, h55, hv⟩ := ob_s hv
                      refine wrV (as := [b_h, now_h, now_a0, now_a1, now_a2, now_a3, now_a4, now_a5, mind_h, mind_a0, mind_a1, mind_a2, mind_a3, mind_a4, mind_a5]) (wr := []) [0, 1, 2, 3, 4, 5, 6, 7, 8, 9, 10, 11, 12, 13, 14] [] 3 0 (ws := [oBp b_h now_h mind_h kept_h b_img rails_h sa_h, oSt now_h now_a0 now_a1 now_a2 now_a3 now_a4 now_a5 now_moving now_shut now_people now_needed now_day, ai E now_a0 10 now_height, ai E now_a1 7 now_kind, ai E now_a2 7 now_figure, ai E now_a3 7 now_rail, ai E now_a4 7 now_mood, ai E now_a5 7 now_sight, oSt mind_h mind_a0 mind_a1 mind_a2 mind_a3 mind_a4 mind_a5 mind_moving y34 y35 y36 y37, ai E mind_a0 10 y38, ai E mind_a1 7 y39, ai E mind_a2 7 y40, ai E mind_a3 7 y41, ai E mind_a4 7 y42, ai E mind_a5 7 mind_sight]) (ws' := [oBp b_h now_h mind_h kept_h b_img rails_h sa_h, oSt now_h now_a0 now_a1 now_a2 now_a3 now_a4 now_a5 now_moving now_shut now_people now_needed now_day, ai E now_a0 10 now_height, ai E now_a1 7 now_kind, ai E now_a2 7 now_figure, ai E now_a3 7 now_rail, ai E now_a4 7 now_mood, ai E now_a5 7 now_sight, oSt mind_h mind_a0 mind_a1 mind_a2 mind_a3 mind_a4 mind_a5 mind_moving y46 y47 y48 y49, ai E mind_a0 10 y50, ai E mind_a1 7 y51, ai E mind_a2 7 y52, ai E mind_a3 7 y53, ai E mind_a4 7 y54, ai E mind_a5 7 mind_sight]) (As := [.int p2, .int x22, .int p1, .int x10]) (rest := []) (st1 := [.int r45]) hC q_X9_isContent kw_3_134 (c_X9_isContent l E b_h now_h mind_h kept_h rails_h sa_h now_a0 now_a1 now_a2 now_a3 now_a4 now_a5 mind_a0 mind_a1 mind_a2 mind_a3 mind_a4 mind_a5 b_img now_height now_kind now_figure now_rail now_mood now_sight now_moving now_shut now_people now_needed now_day y38 y39 y40 y41 y42 mind_sight mind_moving y34 y35 y36 y37 p2 x22 p1 x10 N r45 y46 y47 y48 y49 y50 y51 y52 y53 y54 h55) ⟨rfl, rfl⟩ ⟨Nat.le_of_ble_eq_true rfl, Nat.le_of_ble_eq_true rfl⟩ ⟨Nat.zero_le _, Nat.zero_le _⟩ hP hD hS hA rfl rfl rfl hG (by decide) rfl rfl rfl rfl rfl rfl rfl rfl hl.1 rfl (Nat.le_of_ble_eq_true rfl) dX9_two_63 rfl (fun H locs hP hD hS => ?_)
                      refine lv_if_eq (tgt := 77) hx hb dX9_two_66 (by decide) (fun c56 => ?_) (fun c56 => ?_)
                      · have hv := if_y c56 hv
                        refine lv_iinc (v := (x22 + (1 : Int32))) (lv' := [(4, .int (x22 + (1 : Int32))), (3, .int x10), (0, .ref b_h), (1, .int p1), (2, .int p2)]) hx hb dX9_two_77 hl (k := 0) rfl rfl (by decide) rfl (fun ls hl => ?_)
                        refine lv_goto (tgt := 39) hx hb dX9_two_80 (by decide) ?_
                        exact ih39 (x22 + (1 : Int32)) y46 y47 y48 y49 y50 y51 y52 y53 y54 _ _ _ hP hD hS (lv_sub hl [0, 1, 2, 3, 4] rfl) hv
                      · have hv := if_n c56 hv
                        refine lv_bipush (v := (10 : Int32)) hx hb dX9_two_69 (by decide) ?_
                        refine lv_iload_n hx hb dX9_two_71 rfl (lv_at hl 1 rfl) ?_
                        refine lv_imul hx hb dX9_two_72 ?_
                        refine lv_iload hx hb dX9_two_73 (lv_at hl 0 rfl) ?_
                        refine lv_iadd hx hb dX9_two_75 ?_
                        refine lv_topi (fun z57 ez57 => ?_)
                        have hv := nm_s ez57 hv
                        cases hv
                        exact W.iret hx hb hr (fun t h9 _ => ⟨rfl, by rw [h9]; exact hP, hS.F h9⟩) hS.2.2 dX9_two_76 hlk
              refine hL39 _ (fun x58 y59 y60 y61 y62 y63 y64 y65 y66 y67 H locs ls hP hD hS hl hv => ?_) N (0 : Int32) y11 y12 y13 y14 y15 y16 y17 y18 y19 _ _ _ hP hD hS (lv_sub hl [0, 1, 2, 3, 4] rfl) hv
              refine lv_iinc (v := (x10 + (1 : Int32))) (lv' := [(3, .int (x10 + (1 : Int32))), (4, .int x58), (0, .ref b_h), (1, .int p1), (2, .int p2)]) hx hb dX9_two_83 hl (k := 1) rfl rfl (by decide) rfl (fun ls hl => ?_)
              refine lv_goto (tgt := 31) hx hb dX9_two_86 (by decide) ?_
              exact ih31 (x10 + (1 : Int32)) y59 y60 y61 y62 y63 y64 y65 y66 y67 _ _ _ hP hD hS (lv_sub hl [0, 2, 3, 4] rfl) hv
        exact hL31 N (0 : Int32) mind_shut mind_people mind_needed mind_day mind_height mind_kind mind_figure mind_rail mind_mood _ _ _ hP hD hS (lv_sub hl [0, 1, 2, 3] rfl) hv
      · have hv := if_y c9 hv
        refine lv_iconst (v := (-1 : Int32)) hx hb dX9_two_27 (by decide) ?_
        refine lv_topi (fun z68 ez68 => ?_)
        have hv := nm_s ez68 hv
        cases hv
        exact W.iret hx hb hr (fun t h9 _ => ⟨rfl, by rw [h9]; exact hP, hS.F h9⟩) hS.2.2 dX9_two_28 hlk
theorem dX9_streets_0 : decode cX9_streets 0 = .ok (.iload_n 1, 1) := by decide +kernel
theorem dX9_streets_1 : decode cX9_streets 1 = .ok (.iconst 1, 1) := by decide +kernel
theorem dX9_streets_2 : decode cX9_streets 2 = .ok (.bipush 20, 2) := by decide +kernel
theorem dX9_streets_4 : decode cX9_streets 4 = .ok (.invokestatic 118, 3) := by decide +kernel
theorem dX9_streets_7 : decode cX9_streets 7 = .ok (.ifCond .eq 12, 3) := by decide +kernel
theorem dX9_streets_10 : decode cX9_streets 10 = .ok (.iload_n 3, 1) := by decide +kernel
theorem dX9_streets_11 : decode cX9_streets 11 = .ok (.iconst 0, 1) := by decide +kernel
theorem dX9_streets_12 : decode cX9_streets 12 = .ok (.iconst 1, 1) := by decide +kernel
theorem dX9_streets_13 : decode cX9_streets 13 = .ok (.invokestatic 118, 3) := by decide +kernel
theorem dX9_streets_16 : decode cX9_streets 16 = .ok (.ifCond .ne 5, 3) := by decide +kernel
theorem dX9_streets_19 : decode cX9_streets 19 = .ok (.iconst (-1), 1) := by decide +kernel
theorem dX9_streets_20 : decode cX9_streets 20 = .ok (.ireturn, 1) := by decide +kernel
theorem dX9_streets_21 : decode cX9_streets 21 = .ok (.iload_n 2, 1) := by decide +kernel
theorem dX9_streets_22 : decode cX9_streets 22 = .ok (.istore 4, 2) := by decide +kernel
theorem dX9_streets_24 : decode cX9_streets 24 = .ok (.iconst 0, 1) := by decide +kernel
theorem dX9_streets_25 : decode cX9_streets 25 = .ok (.istore 5, 2) := by decide +kernel
theorem dX9_streets_27 : decode cX9_streets 27 = .ok (.iconst 0, 1) := by decide +kernel
theorem dX9_streets_28 : decode cX9_streets 28 = .ok (.istore 6, 2) := by decide +kernel
theorem dX9_streets_30 : decode cX9_streets 30 = .ok (.iconst 0, 1) := by decide +kernel
theorem dX9_streets_31 : decode cX9_streets 31 = .ok (.istore 7, 2) := by decide +kernel
theorem dX9_streets_33 : decode cX9_streets 33 = .ok (.iload 7, 2) := by decide +kernel
theorem dX9_streets_35 : decode cX9_streets 35 = .ok (.iload_n 1, 1) := by decide +kernel
theorem dX9_streets_36 : decode cX9_streets 36 = .ok (.if_icmp .ge 73, 3) := by decide +kernel
theorem dX9_streets_39 : decode cX9_streets 39 = .ok (.aload_n 0, 1) := by decide +kernel
theorem dX9_streets_40 : decode cX9_streets 40 = .ok (.getfield 16, 3) := by decide +kernel
theorem dX9_streets_43 : decode cX9_streets 43 = .ok (.aload_n 0, 1) := by decide +kernel
theorem dX9_streets_44 : decode cX9_streets 44 = .ok (.getfield 12, 3) := by decide +kernel
theorem dX9_streets_47 : decode cX9_streets 47 = .ok (.invokevirtual 48, 3) := by decide +kernel
theorem dX9_streets_50 : decode cX9_streets 50 = .ok (.aload_n 0, 1) := by decide +kernel
theorem dX9_streets_51 : decode cX9_streets 51 = .ok (.getfield 16, 3) := by decide +kernel
theorem dX9_streets_54 : decode cX9_streets 54 = .ok (.iload 4, 2) := by decide +kernel
theorem dX9_streets_56 : decode cX9_streets 56 = .ok (.invokevirtual 268, 3) := by decide +kernel
theorem dX9_streets_59 : decode cX9_streets 59 = .ok (.istore 4, 2) := by decide +kernel
theorem dX9_streets_61 : decode cX9_streets 61 = .ok (.aload_n 0, 1) := by decide +kernel
theorem dX9_streets_62 : decode cX9_streets 62 = .ok (.getfield 16, 3) := by decide +kernel
theorem dX9_streets_65 : decode cX9_streets 65 = .ok (.iconst 5, 1) := by decide +kernel
theorem dX9_streets_66 : decode cX9_streets 66 = .ok (.invokevirtual 133, 3) := by decide +kernel
theorem dX9_streets_69 : decode cX9_streets 69 = .ok (.iload 5, 2) := by decide +kernel
theorem dX9_streets_71 : decode cX9_streets 71 = .ok (.aload_n 0, 1) := by decide +kernel
theorem dX9_streets_72 : decode cX9_streets 72 = .ok (.getfield 16, 3) := by decide +kernel
theorem dX9_streets_75 : decode cX9_streets 75 = .ok (.invokevirtual 136, 3) := by decide +kernel
theorem dX9_streets_78 : decode cX9_streets 78 = .ok (.invokestatic 82, 3) := by decide +kernel
theorem dX9_streets_81 : decode cX9_streets 81 = .ok (.iadd, 1) := by decide +kernel
theorem dX9_streets_82 : decode cX9_streets 82 = .ok (.istore 5, 2) := by decide +kernel
theorem dX9_streets_84 : decode cX9_streets 84 = .ok (.iload 6, 2) := by decide +kernel
theorem dX9_streets_86 : decode cX9_streets 86 = .ok (.aload_n 0, 1) := by decide +kernel
theorem dX9_streets_87 : decode cX9_streets 87 = .ok (.getfield 16, 3) := by decide +kernel
theorem dX9_streets_90 : decode cX9_streets 90 = .ok (.aload_n 0, 1) := by decide +kernel
theorem dX9_streets_91 : decode cX9_streets 91 = .ok (.getfield 16, 3) := by decide +kernel
theorem dX9_streets_94 : decode cX9_streets 94 = .ok (.invokevirtual 139, 3) := by decide +kernel
theorem dX9_streets_97 : decode cX9_streets 97 = .ok (.invokevirtual 143, 3) := by decide +kernel
theorem dX9_streets_100 : decode cX9_streets 100 = .ok (.iadd, 1) := by decide +kernel
theorem dX9_streets_101 : decode cX9_streets 101 = .ok (.istore 6, 2) := by decide +kernel
theorem dX9_streets_103 : decode cX9_streets 103 = .ok (.iinc 7 1, 3) := by decide +kernel
theorem dX9_streets_106 : decode cX9_streets 106 = .ok (.goto (-73), 3) := by decide +kernel
theorem dX9_streets_109 : decode cX9_streets 109 = .ok (.iload_n 3, 1) := by decide +kernel
theorem dX9_streets_110 : decode cX9_streets 110 = .ok (.ifCond .ne 8, 3) := by decide +kernel
theorem dX9_streets_113 : decode cX9_streets 113 = .ok (.iload 5, 2) := by decide +kernel
theorem dX9_streets_115 : decode cX9_streets 115 = .ok (.goto 5, 3) := by decide +kernel
theorem dX9_streets_118 : decode cX9_streets 118 = .ok (.iload 6, 2) := by decide +kernel
theorem dX9_streets_120 : decode cX9_streets 120 = .ok (.ireturn, 1) := by decide +kernel
def L_X9_streets_33 (N : Nat) (now_height : Nat → Int32) (now_kind : Nat → Int32) (now_figure : Nat → Int32) (now_rail : Nat → Int32) (now_mood : Nat → Int32) (now_shut : Int32) (now_people : Int32) (now_needed : Int32) (now_day : Int32) (p1 : Int32) (p3 : Int32) : Nat → Int32 → Int32 → Int32 → Int32 → Int32 → Int32 → Int32 → Int32 → Int32 → (Nat → Int32) → (Nat → Int32) → (Nat → Int32) → (Nat → Int32) → (Nat → Int32) → (Nat → Int32) → Option (Int32 × Int32 × Int32 × Int32 × Int32 × Int32 × (Nat → Int32) × (Nat → Int32) × (Nat → Int32) × (Nat → Int32) × (Nat → Int32) × (Nat → Int32))
  | 0, _, _, _, _, _, _, _, _, _, _, _, _, _, _, _ => none
  | n33 + 1, x8, x9, x10, x11, y12, y13, y14, y15, y16, y17, y18, y19, y20, y21, y22 => if p1 ≤ x8 then if p3 = 0 then some (x10, y12, y13, y14, y15, y16, y17, y18, y19, y20, y21, y22) else some (x9, y12, y13, y14, y15, y16, y17, y18, y19, y20, y21, y22) else ob (f_X8_become now_height now_kind now_figure now_rail now_mood now_shut now_people now_needed now_day) (fun (y25, y26, y27, y28, y29, y30, y31, y32, y33) => ob (f_X8_scatter N y32 y33 y26 x11) (fun (r35, y36, y37) => ob (f_X8_live N y29 y30 y31 y36 y37 y22 y25 y26 y28 (5 : Int32)) (fun (y39, y40, y41, y42) => ob (f_X8_isCarried N y29 y30 y31 y36 y41 y25 y26 y27) (fun r44 => ob (f_X9_oneIf r44) (fun r46 => ob (f_X8_heardOnes N y36 y25 y26) (fun r48 => ob (f_X8_weightFor N y29 y30 y31 y36 y41 y26 r48) (fun r50 => L_X9_streets_33 N now_height now_kind now_figure now_rail now_mood now_shut now_people now_needed now_day p1 p3 n33 (x8 + (1 : Int32)) (x9 + r50) (x10 + r46) r35 y39 y25 y26 y27 y40 y29 y30 y31 y36 y41 y42)))))))
def f_X9_streets (N : Nat) (now_height : Nat → Int32) (now_kind : Nat → Int32) (now_figure : Nat → Int32) (now_rail : Nat → Int32) (now_mood : Nat → Int32) (now_shut : Int32) (now_people : Int32) (now_needed : Int32) (now_day : Int32) (mind_height : Nat → Int32) (mind_kind : Nat → Int32) (mind_figure : Nat → Int32) (mind_rail : Nat → Int32) (mind_mood : Nat → Int32) (mind_sight : Nat → Int32) (mind_moving : Int32) (mind_shut : Int32) (mind_people : Int32) (mind_needed : Int32) (mind_day : Int32) (p1 : Int32) (p2 : Int32) (p3 : Int32) : Option (Int32 × Int32 × Int32 × Int32 × Int32 × Int32 × (Nat → Int32) × (Nat → Int32) × (Nat → Int32) × (Nat → Int32) × (Nat → Int32) × (Nat → Int32)) := ob (f_X9_isWithin p1 (1 : Int32) (20 : Int32)) (fun r1 => if r1 = 0 then nm (-1 : Int32) (fun z4 => some (z4, mind_moving, mind_shut, mind_people, mind_needed, mind_day, mind_height, mind_kind, mind_figure, mind_rail, mind_mood, mind_sight)) else ob (f_X9_isWithin p3 (0 : Int32) (1 : Int32)) (fun r5 => if r5 = 0 then nm (-1 : Int32) (fun z52 => some (z52, mind_moving, mind_shut, mind_people, mind_needed, mind_day, mind_height, mind_kind, mind_figure, mind_rail, mind_mood, mind_sight)) else L_X9_streets_33 N now_height now_kind now_figure now_rail now_mood now_shut now_people now_needed now_day p1 p3 N (0 : Int32) (0 : Int32) (0 : Int32) p2 mind_moving mind_shut mind_people mind_needed mind_day mind_height mind_kind mind_figure mind_rail mind_mood mind_sight))
set_option maxHeartbeats 4000000 in
set_option maxRecDepth 100000 in
theorem c_X9_streets (l : Launch) (E : EE) (b_h : Nat) (now_h : Nat) (mind_h : Nat) (kept_h : Nat) (rails_h : Nat) (sa_h : Nat) (now_a0 : Nat) (now_a1 : Nat) (now_a2 : Nat) (now_a3 : Nat) (now_a4 : Nat) (now_a5 : Nat) (mind_a0 : Nat) (mind_a1 : Nat) (mind_a2 : Nat) (mind_a3 : Nat) (mind_a4 : Nat) (mind_a5 : Nat) (b_img : Int32) (now_height : Nat → Int32) (now_kind : Nat → Int32) (now_figure : Nat → Int32) (now_rail : Nat → Int32) (now_mood : Nat → Int32) (now_sight : Nat → Int32) (now_moving : Int32) (now_shut : Int32) (now_people : Int32) (now_needed : Int32) (now_day : Int32) (mind_height : Nat → Int32) (mind_kind : Nat → Int32) (mind_figure : Nat → Int32) (mind_rail : Nat → Int32) (mind_mood : Nat → Int32) (mind_sight : Nat → Int32) (mind_moving : Int32) (mind_shut : Int32) (mind_people : Int32) (mind_needed : Int32) (mind_day : Int32) (p1 : Int32) (p2 : Int32) (p3 : Int32) (N : Nat) (res : Int32) (w_mind_moving : Int32) (w_mind_shut : Int32) (w_mind_people : Int32) (w_mind_needed : Int32) (w_mind_day : Int32) (w_mind_height : Nat → Int32) (w_mind_kind : Nat → Int32) (w_mind_figure : Nat → Int32) (w_mind_rail : Nat → Int32) (w_mind_mood : Nat → Int32) (w_mind_sight : Nat → Int32) (hv : f_X9_streets N now_height now_kind now_figure now_rail now_mood now_shut now_people now_needed now_day mind_height mind_kind mind_figure mind_rail mind_mood mind_sight mind_moving mind_shut mind_people mind_needed mind_day p1 p2 p3 = some (res, w_mind_moving, w_mind_shut, w_mind_people, w_mind_needed, w_mind_day, w_mind_height, w_mind_kind, w_mind_figure, w_mind_rail, w_mind_mood, w_mind_sight)) : Wr l E yX9_streets cX9_streets 8 (some .int) ({ frames := 5, cells := 0, slots := 0, locals := 109 }) [.ref b_h, .int p1, .int p2, .int p3] [oBp b_h now_h mind_h kept_h b_img rails_h sa_h, oSt now_h now_a0 now_a1 now_a2 now_a3 now_a4 now_a5 now_moving now_shut now_people now_needed now_day, ai E now_a0 10 now_height, ai E now_a1 7 now_kind, ai E now_a2 7 now_figure, ai E now_a3 7 now_rail, ai E now_a4 7 now_mood, ai E now_a5 7 now_sight, oSt mind_h mind_a0 mind_a1 mind_a2 mind_a3 mind_a4 mind_a5 mind_moving mind_shut mind_people mind_needed mind_day, ai E mind_a0 10 mind_height, ai E mind_a1 7 mind_kind, ai E mind_a2 7 mind_figure, ai E mind_a3 7 mind_rail, ai E mind_a4 7 mind_mood, ai E mind_a5 7 mind_sight] [oBp b_h now_h mind_h kept_h b_img rails_h sa_h, oSt now_h now_a0 now_a1 now_a2 now_a3 now_a4 now_a5 now_moving now_shut now_people now_needed now_day, ai E now_a0 10 now_height, ai E now_a1 7 now_kind, ai E now_a2 7 now_figure, ai E now_a3 7 now_rail, ai E now_a4 7 now_mood, ai E now_a5 7 now_sight, oSt mind_h mind_a0 mind_a1 mind_a2 mind_a3 mind_a4 mind_a5 w_mind_moving w_mind_shut w_mind_people w_mind_needed w_mind_day, ai E mind_a0 10 w_mind_height, ai E mind_a1 7 w_mind_kind, ai E mind_a2 7 w_mind_figure, ai E mind_a3 7 w_mind_rail, ai E mind_a4 7 w_mind_mood, ai E mind_a5 7 w_mind_sight] (some (.int res)) := by
  refine Wr.intro RX9 (by decide) rfl (Nat.le_of_ble_eq_true rfl) ?_
  intro p e s m below meth c ls A hC hr hlk hmn hP hD hS hA hG hl
  obtain ⟨hx, hb, hml, hown, ht⟩ := id hC
  have hK := hG.1
  have hl : lv_has ls 8 [(0, .ref b_h), (1, .int p1), (2, .int p2), (3, .int p3)] := hl
  rw [f_X9_streets] at hv
  refine lv_iload_n hx hb dX9_streets_0 rfl (lv_at hl 1 rfl) ?_
  refine lv_iconst (v := (1 : Int32)) hx hb dX9_streets_1 (by decide) ?_
  refine lv_bipush (v := (20 : Int32)) hx hb dX9_streets_2 (by decide) ?_
  obtain ⟨r1, h2, hv⟩ := ob_s hv
  refine rdS (rest := []) (st1 := [.int r1]) (w := []) hC q_X9_isWithin kw_1_168 (c_X9_isWithin l E p1 (1 : Int32) (20 : Int32) r1 h2) ⟨rfl, rfl⟩ ⟨Nat.le_of_ble_eq_true rfl, Nat.le_of_ble_eq_true rfl⟩ ⟨Nat.zero_le _, Nat.zero_le _⟩ (hP.sub (ws' := []) [] rfl) hG rfl hl.1 rfl (Nat.le_of_ble_eq_true rfl) dX9_streets_4 rfl ?_
  refine lv_if_eq (tgt := 19) hx hb dX9_streets_7 (by decide) (fun c3 => ?_) (fun c3 => ?_)
  · have hv := if_y c3 hv
    refine lv_iconst (v := (-1 : Int32)) hx hb dX9_streets_19 (by decide) ?_
    refine lv_topi (fun z4 ez4 => ?_)
    have hv := nm_s ez4 hv
    cases hv
    exact W.iret hx hb hr (fun t h9 _ => ⟨rfl, by rw [h9]; exact hP, hS.F h9⟩) hS.2.2 dX9_streets_20 hlk
  · have hv := if_n c3 hv
    refine lv_iload_n hx hb dX9_streets_10 rfl (lv_at hl 3 rfl) ?_
    refine lv_iconst (v := (0 : Int32)) hx hb dX9_streets_11 (by decide) ?_
    refine lv_iconst (v := (1 : Int32)) hx hb dX9_streets_12 (by decide) ?_
    obtain ⟨r5, h6, hv⟩ := ob_s hv
    refine rdS (rest := []) (st1 := [.int r5]) (w := []) hC q_X9_isWithin kw_1_168 (c_X9_isWithin l E p3 (0 : Int32) (1 : Int32) r5 h6) ⟨rfl, rfl⟩ ⟨Nat.le_of_ble_eq_true rfl, Nat.le_of_ble_eq_true rfl⟩ ⟨Nat.zero_le _, Nat.zero_le _⟩ (hP.sub (ws' := []) [] rfl) hG rfl hl.1 rfl (Nat.le_of_ble_eq_true rfl) dX9_streets_13 rfl ?_
    refine lv_if_ne (tgt := 21) hx hb dX9_streets_16 (by decide) (fun c7 => ?_) (fun c7 => ?_)
    · have hv := if_n c7 hv
      refine lv_iload_n hx hb dX9_streets_21 rfl (lv_at hl 2 rfl) ?_
      refine lv_istore (lv' := [(4, .int p2), (0, .ref b_h), (1, .int p1), (2, .int p2), (3, .int p3)]) hx hb dX9_streets_22 hl (by decide) rfl (fun ls hl => ?_)
      refine lv_iconst (v := (0 : Int32)) hx hb dX9_streets_24 (by decide) ?_
      refine lv_istore (lv' := [(5, .int (0 : Int32)), (4, .int p2), (0, .ref b_h), (1, .int p1), (2, .int p2), (3, .int p3)]) hx hb dX9_streets_25 hl (by decide) rfl (fun ls hl => ?_)
      refine lv_iconst (v := (0 : Int32)) hx hb dX9_streets_27 (by decide) ?_
      refine lv_istore (lv' := [(6, .int (0 : Int32)), (5, .int (0 : Int32)), (4, .int p2), (0, .ref b_h), (1, .int p1), (2, .int p2), (3, .int p3)]) hx hb dX9_streets_28 hl (by decide) rfl (fun ls hl => ?_)
      refine lv_iconst (v := (0 : Int32)) hx hb dX9_streets_30 (by decide) ?_
      refine lv_istore (lv' := [(7, .int (0 : Int32)), (6, .int (0 : Int32)), (5, .int (0 : Int32)), (4, .int p2), (0, .ref b_h), (1, .int p1), (2, .int p2), (3, .int p3)]) hx hb dX9_streets_31 hl (by decide) rfl (fun ls hl => ?_)
      have hL33 : ∀ (n : Nat) (x8 : Int32) (x9 : Int32) (x10 : Int32) (x11 : Int32) (y12 : Int32) (y13 : Int32) (y14 : Int32) (y15 : Int32) (y16 : Int32) (y17 : Nat → Int32) (y18 : Nat → Int32) (y19 : Nat → Int32) (y20 : Nat → Int32) (y21 : Nat → Int32) (y22 : Nat → Int32) (H : Heap) (locs : List Loc) (ls : Array Slot), va_P E.1 vwCl [oBp b_h now_h mind_h kept_h b_img rails_h sa_h, oSt now_h now_a0 now_a1 now_a2 now_a3 now_a4 now_a5 now_moving now_shut now_people now_needed now_day, ai E now_a0 10 now_height, ai E now_a1 7 now_kind, ai E now_a2 7 now_figure, ai E now_a3 7 now_rail, ai E now_a4 7 now_mood, ai E now_a5 7 now_sight, oSt mind_h mind_a0 mind_a1 mind_a2 mind_a3 mind_a4 mind_a5 y12 y13 y14 y15 y16, ai E mind_a0 10 y17, ai E mind_a1 7 y18, ai E mind_a2 7 y19, ai E mind_a3 7 y20, ai E mind_a4 7 y21, ai E mind_a5 7 y22] H → va_D A [oBp b_h now_h mind_h kept_h b_img rails_h sa_h, oSt now_h now_a0 now_a1 now_a2 now_a3 now_a4 now_a5 now_moving now_shut now_people now_needed now_day, ai E now_a0 10 now_height, ai E now_a1 7 now_kind, ai E now_a2 7 now_figure, ai E now_a3 7 now_rail, ai E now_a4 7 now_mood, ai E now_a5 7 now_sight, oSt mind_h mind_a0 mind_a1 mind_a2 mind_a3 mind_a4 mind_a5 y12 y13 y14 y15 y16, ai E mind_a0 10 y17, ai E mind_a1 7 y18, ai E mind_a2 7 y19, ai E mind_a3 7 y20, ai E mind_a4 7 y21, ai E mind_a5 7 y22] → va_S A s.heap H locs → lv_has ls 8 [(7, .int x8), (6, .int x9), (5, .int x10), (4, .int x11), (0, .ref b_h), (1, .int p1), (3, .int p3)] → L_X9_streets_33 N now_height now_kind now_figure now_rail now_mood now_shut now_people now_needed now_day p1 p3 n x8 x9 x10 x11 y12 y13 y14 y15 y16 y17 y18 y19 y20 y21 y22 = some (res, w_mind_moving, w_mind_shut, w_mind_people, w_mind_needed, w_mind_day, w_mind_height, w_mind_kind, w_mind_figure, w_mind_rail, w_mind_mood, w_mind_sight) → W p l e ({ frames := 5, cells := 0, slots := 0, locals := 109 }) s m [.ref b_h, .int p1, .int p2, .int p3].toArray below meth c H locs 0 0 (MQ below (fun _ st oc t => oc = .returned (some (.int res)) ∧ va_P E.1 vwCl [oBp b_h now_h mind_h kept_h b_img rails_h sa_h, oSt now_h now_a0 now_a1 now_a2 now_a3 now_a4 now_a5 now_moving now_shut now_people now_needed now_day, ai E now_a0 10 now_height, ai E now_a1 7 now_kind, ai E now_a2 7 now_figure, ai E now_a3 7 now_rail, ai E now_a4 7 now_mood, ai E now_a5 7 now_sight, oSt mind_h mind_a0 mind_a1 mind_a2 mind_a3 mind_a4 mind_a5 w_mind_moving w_mind_shut w_mind_people w_mind_needed w_mind_day, ai E mind_a0 10 w_mind_height, ai E mind_a1 7 w_mind_kind, ai E mind_a2 7 w_mind_figure, ai E mind_a3 7 w_mind_rail, ai E mind_a4 7 w_mind_mood, ai E mind_a5 7 w_mind_sight] t.heap ∧ va_F A st t) [.ref b_h, .int p1, .int p2, .int p3].toArray s 0 0 A) (F0 m 33 ls []) := by
        intro n
        induction n with
        | zero => intro x8 x9 x10 x11 y12 y13 y14 y15 y16 y17 y18 y19 y20 y21 y22 H locs ls hP hD hS hl hv; cases hv
        | succ n33 ih33 =>
          intro x8 x9 x10 x11 y12 y13 y14 y15 y16 y17 y18 y19 y20 y21 y22 H locs ls hP hD hS hl hv
          rw [L_X9_streets_33] at hv
          refine lv_iload hx hb dX9_streets_33 (lv_at hl 0 rfl) ?_
          refine lv_iload_n hx hb dX9_streets_35 rfl (lv_at hl 5 rfl) ?_
          refine lv_icmp_ge (tgt := 109) hx hb dX9_streets_36 (by decide) (fun c23 => ?_) (fun c23 => ?_)
          · have hv := if_y c23 hv
            refine lv_iload_n hx hb dX9_streets_109 rfl (lv_at hl 6 rfl) ?_
            refine lv_if_ne (tgt := 118) hx hb dX9_streets_110 (by decide) (fun c24 => ?_) (fun c24 => ?_)
            · have hv := if_n c24 hv
              refine lv_iload hx hb dX9_streets_118 (lv_at hl 1 rfl) ?_
              cases hv
              exact W.iret hx hb hr (fun t h9 _ => ⟨rfl, by rw [h9]; exact hP, hS.F h9⟩) hS.2.2 dX9_streets_120 hlk
            · have hv := if_y c24 hv
              refine lv_iload hx hb dX9_streets_113 (lv_at hl 2 rfl) ?_
              refine lv_goto (tgt := 120) hx hb dX9_streets_115 (by decide) ?_
              cases hv
              exact W.iret hx hb hr (fun t h9 _ => ⟨rfl, by rw [h9]; exact hP, hS.F h9⟩) hS.2.2 dX9_streets_120 hlk
          · have hv := if_n c23 hv
            refine lv_aload_n hx hb dX9_streets_39 rfl (lv_at hl 4 rfl) ?_
            refine va_get (D := E.1) (ci := 3) (v := .ref mind_h) (C := RX9) (T := TX9) (N := 6) hx hb ht i_X9 hown hK hP 0 rfl rfl 1 (by decide) (ht _ kw_1_139) (fun _ h9 => h9) rfl dX9_streets_40 ?_
            refine lv_aload_n hx hb dX9_streets_43 rfl (lv_at hl 4 rfl) ?_
            refine va_get (D := E.1) (ci := 3) (v := .ref now_h) (C := RX9) (T := TX9) (N := 6) hx hb ht i_X9 hown hK hP 0 rfl rfl 0 (by decide) (ht _ kw_1_138) (fun _ h9 => h9) rfl dX9_streets_44 ?_
            obtain ⟨⟨y25, y26, y27, y28, y29, y30, y31, y32, y33⟩, h34, hv⟩ := ob_s hv
            refine wrV (as := [b_h, now_h, now_a0, now_a1, now_a2, now_a3, now_a4, now_a5, mind_h, mind_a0, mind_a1, mind_a2, mind_a3, mind_a4, mind_a5]) (wr := [oBp b_h now_h mind_h kept_h b_img rails_h sa_h]) [8, 9, 10, 11, 12, 13, 14, 1, 2, 3, 4, 5, 6, 7] [0] 2 0 (ws := [oBp b_h now_h mind_h kept_h b_img rails_h sa_h, oSt now_h now_a0 now_a1 now_a2 now_a3 now_a4 now_a5 now_moving now_shut now_people now_needed now_day, ai E now_a0 10 now_height, ai E now_a1 7 now_kind, ai E now_a2 7 now_figure, ai E now_a3 7 now_rail, ai E now_a4 7 now_mood, ai E now_a5 7 now_sight, oSt mind_h mind_a0 mind_a1 mind_a2 mind_a3 mind_a4 mind_a5 y12 y13 y14 y15 y16, ai E mind_a0 10 y17, ai E mind_a1 7 y18, ai E mind_a2 7 y19, ai E mind_a3 7 y20, ai E mind_a4 7 y21, ai E mind_a5 7 y22]) (ws' := [oBp b_h now_h mind_h kept_h b_img rails_h sa_h, oSt now_h now_a0 now_a1 now_a2 now_a3 now_a4 now_a5 now_moving now_shut now_people now_needed now_day, ai E now_a0 10 now_height, ai E now_a1 7 now_kind, ai E now_a2 7 now_figure, ai E now_a3 7 now_rail, ai E now_a4 7 now_mood, ai E now_a5 7 now_sight, oSt mind_h mind_a0 mind_a1 mind_a2 mind_a3 mind_a4 mind_a5 y12 y25 y26 y27 y28, ai E mind_a0 10 y29, ai E mind_a1 7 y30, ai E mind_a2 7 y31, ai E mind_a3 7 y32, ai E mind_a4 7 y33, ai E mind_a5 7 y22]) (As := [.ref now_h]) (rest := []) (st1 := []) hC q_X8_become kw_1_171 (c_X8_become l E mind_h mind_a0 mind_a1 mind_a2 mind_a3 mind_a4 mind_a5 now_h now_a0 now_a1 now_a2 now_a3 now_a4 now_a5 y17 y18 y19 y20 y21 y22 y12 y13 y14 y15 y16 now_height now_kind now_figure now_rail now_mood now_sight now_moving now_shut now_people now_needed now_day y25 y26 y27 y28 y29 y30 y31 y32 y33 h34) ⟨rfl, rfl⟩ ⟨Nat.le_of_ble_eq_true rfl, Nat.le_of_ble_eq_true rfl⟩ ⟨Nat.zero_le _, Nat.zero_le _⟩ hP hD hS hA rfl rfl rfl hG (by decide) rfl rfl rfl rfl rfl rfl rfl rfl hl.1 rfl (Nat.le_of_ble_eq_true rfl) dX9_streets_47 rfl (fun H locs hP hD hS => ?_)
            refine lv_aload_n hx hb dX9_streets_50 rfl (lv_at hl 4 rfl) ?_
            refine va_get (D := E.1) (ci := 3) (v := .ref mind_h) (C := RX9) (T := TX9) (N := 6) hx hb ht i_X9 hown hK hP 0 rfl rfl 1 (by decide) (ht _ kw_1_139) (fun _ h9 => h9) rfl dX9_streets_51 ?_
            refine lv_iload hx hb dX9_streets_54 (lv_at hl 3 rfl) ?_
            obtain ⟨⟨r35, y36, y37⟩, h38, hv⟩ := ob_s hv
            refine wrV (as := [b_h, now_h, now_a0, now_a1, now_a2, now_a3, now_a4, now_a5, mind_h, mind_a0, mind_a1, mind_a2, mind_a3, mind_a4, mind_a5]) (wr := [oBp b_h now_h mind_h kept_h b_img rails_h sa_h, oSt now_h now_a0 now_a1 now_a2 now_a3 now_a4 now_a5 now_moving now_shut now_people now_needed now_day, ai E now_a0 10 now_height, ai E now_a1 7 now_kind, ai E now_a2 7 now_figure, ai E now_a3 7 now_rail, ai E now_a4 7 now_mood, ai E now_a5 7 now_sight]) [8, 9, 10, 11, 12, 13, 14] [0, 1, 2, 3, 4, 5, 6, 7] 2 0 (ws := [oBp b_h now_h mind_h kept_h b_img rails_h sa_h, oSt now_h now_a0 now_a1 now_a2 now_a3 now_a4 now_a5 now_moving now_shut now_people now_needed now_day, ai E now_a0 10 now_height, ai E now_a1 7 now_kind, ai E now_a2 7 now_figure, ai E now_a3 7 now_rail, ai E now_a4 7 now_mood, ai E now_a5 7 now_sight, oSt mind_h mind_a0 mind_a1 mind_a2 mind_a3 mind_a4 mind_a5 y12 y25 y26 y27 y28, ai E mind_a0 10 y29, ai E mind_a1 7 y30, ai E mind_a2 7 y31, ai E mind_a3 7 y32, ai E mind_a4 7 y33, ai E mind_a5 7 y22]) (ws' := [oBp b_h now_h mind_h kept_h b_img rails_h sa_h, oSt now_h now_a0 now_a1 now_a2 now_a3 now_a4 now_a5 now_moving now_shut now_people now_needed now_day, ai E now_a0 10 now_height, ai E now_a1 7 now_kind, ai E now_a2 7 now_figure, ai E now_a3 7 now_rail, ai E now_a4 7 now_mood, ai E now_a5 7 now_sight, oSt mind_h mind_a0 mind_a1 mind_a2 mind_a3 mind_a4 mind_a5 y12 y25 y26 y27 y28, ai E mind_a0 10 y29, ai E mind_a1 7 y30, ai E mind_a2 7 y31, ai E mind_a3 7 y36, ai E mind_a4 7 y37, ai E mind_a5 7 y22]) (As := [.int x11]) (rest := []) (st1 := [.int r35]) hC q_X8_scatter kw_3_166 (c_X8_scatter l E mind_h mind_a0 mind_a1 mind_a2 mind_a3 mind_a4 mind_a5 y29 y30 y31 y32 y33 y22 y12 y25 y26 y27 y28 x11 N r35 y36 y37 h38) ⟨rfl, rfl⟩ ⟨Nat.le_of_ble_eq_true rfl, Nat.le_of_ble_eq_true rfl⟩ ⟨Nat.zero_le _, Nat.zero_le _⟩ hP hD hS hA rfl rfl rfl hG (by decide) rfl rfl rfl rfl rfl rfl rfl rfl hl.1 rfl (Nat.le_of_ble_eq_true rfl) dX9_streets_56 rfl (fun H locs hP hD hS => ?_)
            refine lv_istore (lv' := [(4, .int r35), (7, .int x8), (6, .int x9), (5, .int x10), (0, .ref b_h), (1, .int p1), (3, .int p3)]) hx hb dX9_streets_59 hl (by decide) rfl (fun ls hl => ?_)
            refine lv_aload_n hx hb dX9_streets_61 rfl (lv_at hl 4 rfl) ?_
            refine va_get (D := E.1) (ci := 3) (v := .ref mind_h) (C := RX9) (T := TX9) (N := 6) hx hb ht i_X9 hown hK hP 0 rfl rfl 1 (by decide) (ht _ kw_1_139) (fun _ h9 => h9) rfl dX9_streets_62 ?_
            refine lv_iconst (v := (5 : Int32)) hx hb dX9_streets_65 (by decide) ?_
            obtain ⟨⟨y39, y40, y41, y42⟩, h43, hv⟩ := ob_s hv
            refine wrV (as := [b_h, now_h, now_a0, now_a1, now_a2, now_a3, now_a4, now_a5, mind_h, mind_a0, mind_a1, mind_a2, mind_a3, mind_a4, mind_a5]) (wr := [oBp b_h now_h mind_h kept_h b_img rails_h sa_h, oSt now_h now_a0 now_a1 now_a2 now_a3 now_a4 now_a5 now_moving now_shut now_people now_needed now_day, ai E now_a0 10 now_height, ai E now_a1 7 now_kind, ai E now_a2 7 now_figure, ai E now_a3 7 now_rail, ai E now_a4 7 now_mood, ai E now_a5 7 now_sight]) [8, 9, 10, 11, 12, 13, 14] [0, 1, 2, 3, 4, 5, 6, 7] 2 0 (ws := [oBp b_h now_h mind_h kept_h b_img rails_h sa_h, oSt now_h now_a0 now_a1 now_a2 now_a3 now_a4 now_a5 now_moving now_shut now_people now_needed now_day, ai E now_a0 10 now_height, ai E now_a1 7 now_kind, ai E now_a2 7 now_figure, ai E now_a3 7 now_rail, ai E now_a4 7 now_mood, ai E now_a5 7 now_sight, oSt mind_h mind_a0 mind_a1 mind_a2 mind_a3 mind_a4 mind_a5 y12 y25 y26 y27 y28, ai E mind_a0 10 y29, ai E mind_a1 7 y30, ai E mind_a2 7 y31, ai E mind_a3 7 y36, ai E mind_a4 7 y37, ai E mind_a5 7 y22]) (ws' := [oBp b_h now_h mind_h kept_h b_img rails_h sa_h, oSt now_h now_a0 now_a1 now_a2 now_a3 now_a4 now_a5 now_moving now_shut now_people now_needed now_day, ai E now_a0 10 now_height, ai E now_a1 7 now_kind, ai E now_a2 7 now_figure, ai E now_a3 7 now_rail, ai E now_a4 7 now_mood, ai E now_a5 7 now_sight, oSt mind_h mind_a0 mind_a1 mind_a2 mind_a3 mind_a4 mind_a5 y39 y25 y26 y27 y40, ai E mind_a0 10 y29, ai E mind_a1 7 y30, ai E mind_a2 7 y31, ai E mind_a3 7 y36, ai E mind_a4 7 y41, ai E mind_a5 7 y42]) (As := [.int (5 : Int32)]) (rest := []) (st1 := []) hC q_X8_live kw_2_109 (c_X8_live l E mind_h mind_a0 mind_a1 mind_a2 mind_a3 mind_a4 mind_a5 y29 y30 y31 y36 y37 y22 y12 y25 y26 y27 y28 (5 : Int32) N y39 y40 y41 y42 h43) ⟨rfl, rfl⟩ ⟨Nat.le_of_ble_eq_true rfl, Nat.le_of_ble_eq_true rfl⟩ ⟨Nat.zero_le _, Nat.zero_le _⟩ hP hD hS hA rfl rfl rfl hG (by decide) rfl rfl rfl rfl rfl rfl rfl rfl hl.1 rfl (Nat.le_of_ble_eq_true rfl) dX9_streets_66 rfl (fun H locs hP hD hS => ?_)
            refine lv_iload hx hb dX9_streets_69 (lv_at hl 3 rfl) ?_
            refine lv_aload_n hx hb dX9_streets_71 rfl (lv_at hl 4 rfl) ?_
            refine va_get (D := E.1) (ci := 3) (v := .ref mind_h) (C := RX9) (T := TX9) (N := 6) hx hb ht i_X9 hown hK hP 0 rfl rfl 1 (by decide) (ht _ kw_1_139) (fun _ h9 => h9) rfl dX9_streets_72 ?_
            obtain ⟨r44, h45, hv⟩ := ob_s hv
            refine rdV 2 0 (As := []) (rest := [.int x10]) (st1 := [.int r44, .int x10]) (w := [oSt mind_h mind_a0 mind_a1 mind_a2 mind_a3 mind_a4 mind_a5 y39 y25 y26 y27 y40, ai E mind_a0 10 y29, ai E mind_a1 7 y30, ai E mind_a2 7 y31, ai E mind_a3 7 y36, ai E mind_a4 7 y41, ai E mind_a5 7 y42]) hC q_X8_isCarried kw_2_110 (c_X8_isCarried l E mind_h mind_a0 mind_a1 mind_a2 mind_a3 mind_a4 mind_a5 y29 y30 y31 y36 y41 y42 y39 y25 y26 y27 y40 N r44 h45) ⟨rfl, rfl⟩ ⟨Nat.le_of_ble_eq_true rfl, Nat.le_of_ble_eq_true rfl⟩ ⟨Nat.zero_le _, Nat.zero_le _⟩ (hP.sub (ws' := [oSt mind_h mind_a0 mind_a1 mind_a2 mind_a3 mind_a4 mind_a5 y39 y25 y26 y27 y40, ai E mind_a0 10 y29, ai E mind_a1 7 y30, ai E mind_a2 7 y31, ai E mind_a3 7 y36, ai E mind_a4 7 y41, ai E mind_a5 7 y42]) [8, 9, 10, 11, 12, 13, 14] rfl) rfl rfl rfl hG rfl hl.1 rfl (Nat.le_of_ble_eq_true rfl) dX9_streets_75 rfl ?_
            obtain ⟨r46, h47, hv⟩ := ob_s hv
            refine rdS (rest := [.int x10]) (st1 := [.int r46, .int x10]) (w := []) hC q_X9_oneIf kw_2_59 (c_X9_oneIf l E r44 r46 h47) ⟨rfl, rfl⟩ ⟨Nat.le_of_ble_eq_true rfl, Nat.le_of_ble_eq_true rfl⟩ ⟨Nat.zero_le _, Nat.zero_le _⟩ (hP.sub (ws' := []) [] rfl) hG rfl hl.1 rfl (Nat.le_of_ble_eq_true rfl) dX9_streets_78 rfl ?_
            refine lv_iadd hx hb dX9_streets_81 ?_
            refine lv_istore (lv' := [(5, .int (x10 + r46)), (4, .int r35), (7, .int x8), (6, .int x9), (0, .ref b_h), (1, .int p1), (3, .int p3)]) hx hb dX9_streets_82 hl (by decide) rfl (fun ls hl => ?_)
            refine lv_iload hx hb dX9_streets_84 (lv_at hl 3 rfl) ?_
            refine lv_aload_n hx hb dX9_streets_86 rfl (lv_at hl 4 rfl) ?_
            refine va_get (D := E.1) (ci := 3) (v := .ref mind_h) (C := RX9) (T := TX9) (N := 6) hx hb ht i_X9 hown hK hP 0 rfl rfl 1 (by decide) (ht _ kw_1_139) (fun _ h9 => h9) rfl dX9_streets_87 ?_
            refine lv_aload_n hx hb dX9_streets_90 rfl (lv_at hl 4 rfl) ?_
            refine va_get (D := E.1) (ci := 3) (v := .ref mind_h) (C := RX9) (T := TX9) (N := 6) hx hb ht i_X9 hown hK hP 0 rfl rfl 1 (by decide) (ht _ kw_1_139) (fun _ h9 => h9) rfl dX9_streets_91 ?_
            obtain ⟨r48, h49, hv⟩ := ob_s hv
            refine rdV 2 0 (As := []) (rest := [.ref mind_h, .int x9]) (st1 := [.int r48, .ref mind_h, .int x9]) (w := [oSt mind_h mind_a0 mind_a1 mind_a2 mind_a3 mind_a4 mind_a5 y39 y25 y26 y27 y40, ai E mind_a0 10 y29, ai E mind_a1 7 y30, ai E mind_a2 7 y31, ai E mind_a3 7 y36, ai E mind_a4 7 y41, ai E mind_a5 7 y42]) hC q_X8_heardOnes kw_2_146 (c_X8_heardOnes l E mind_h mind_a0 mind_a1 mind_a2 mind_a3 mind_a4 mind_a5 y29 y30 y31 y36 y41 y42 y39 y25 y26 y27 y40 N r48 h49) ⟨rfl, rfl⟩ ⟨Nat.le_of_ble_eq_true rfl, Nat.le_of_ble_eq_true rfl⟩ ⟨Nat.zero_le _, Nat.zero_le _⟩ (hP.sub (ws' := [oSt mind_h mind_a0 mind_a1 mind_a2 mind_a3 mind_a4 mind_a5 y39 y25 y26 y27 y40, ai E mind_a0 10 y29, ai E mind_a1 7 y30, ai E mind_a2 7 y31, ai E mind_a3 7 y36, ai E mind_a4 7 y41, ai E mind_a5 7 y42]) [8, 9, 10, 11, 12, 13, 14] rfl) rfl rfl rfl hG rfl hl.1 rfl (Nat.le_of_ble_eq_true rfl) dX9_streets_94 rfl ?_
            obtain ⟨r50, h51, hv⟩ := ob_s hv
            refine rdV 2 0 (As := [.int r48]) (rest := [.int x9]) (st1 := [.int r50, .int x9]) (w := [oSt mind_h mind_a0 mind_a1 mind_a2 mind_a3 mind_a4 mind_a5 y39 y25 y26 y27 y40, ai E mind_a0 10 y29, ai E mind_a1 7 y30, ai E mind_a2 7 y31, ai E mind_a3 7 y36, ai E mind_a4 7 y41, ai E mind_a5 7 y42]) hC q_X8_weightFor kw_2_147 (c_X8_weightFor l E mind_h mind_a0 mind_a1 mind_a2 mind_a3 mind_a4 mind_a5 y29 y30 y31 y36 y41 y42 y39 y25 y26 y27 y40 r48 N r50 h51) ⟨rfl, rfl⟩ ⟨Nat.le_of_ble_eq_true rfl, Nat.le_of_ble_eq_true rfl⟩ ⟨Nat.zero_le _, Nat.zero_le _⟩ (hP.sub (ws' := [oSt mind_h mind_a0 mind_a1 mind_a2 mind_a3 mind_a4 mind_a5 y39 y25 y26 y27 y40, ai E mind_a0 10 y29, ai E mind_a1 7 y30, ai E mind_a2 7 y31, ai E mind_a3 7 y36, ai E mind_a4 7 y41, ai E mind_a5 7 y42]) [8, 9, 10, 11, 12, 13, 14] rfl) rfl rfl rfl hG rfl hl.1 rfl (Nat.le_of_ble_eq_true rfl) dX9_streets_97 rfl ?_
            refine lv_iadd hx hb dX9_streets_100 ?_
            refine lv_istore (lv' := [(6, .int (x9 + r50)), (5, .int (x10 + r46)), (4, .int r35), (7, .int x8), (0, .ref b_h), (1, .int p1), (3, .int p3)]) hx hb dX9_streets_101 hl (by decide) rfl (fun ls hl => ?_)
            refine lv_iinc (v := (x8 + (1 : Int32))) (lv' := [(7, .int (x8 + (1 : Int32))), (6, .int (x9 + r50)), (5, .int (x10 + r46)), (4, .int r35), (0, .ref b_h), (1, .int p1), (3, .int p3)]) hx hb dX9_streets_103 hl (k := 3) rfl rfl (by decide) rfl (fun ls hl => ?_)
            refine lv_goto (tgt := 33) hx hb dX9_streets_106 (by decide) ?_
            exact ih33 (x8 + (1 : Int32)) (x9 + r50) (x10 + r46) r35 y39 y25 y26 y27 y40 y29 y30 y31 y36 y41 y42 _ _ _ hP hD hS (lv_sub hl [0, 1, 2, 3, 4, 5, 6] rfl) hv
      exact hL33 N (0 : Int32) (0 : Int32) (0 : Int32) p2 mind_moving mind_shut mind_people mind_needed mind_day mind_height mind_kind mind_figure mind_rail mind_mood mind_sight _ _ _ hP hD hS (lv_sub hl [0, 1, 2, 3, 4, 5, 7] rfl) hv
    · have hv := if_y c7 hv
      refine lv_iconst (v := (-1 : Int32)) hx hb dX9_streets_19 (by decide) ?_
      refine lv_topi (fun z52 ez52 => ?_)
      have hv := nm_s ez52 hv
      cases hv
      exact W.iret hx hb hr (fun t h9 _ => ⟨rfl, by rw [h9]; exact hP, hS.F h9⟩) hS.2.2 dX9_streets_20 hlk
