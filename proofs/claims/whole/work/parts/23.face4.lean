theorem dX9_match_0 : decode cX9_match 0 = .ok (.iload_n 1, 1) := by decide +kernel
theorem dX9_match_1 : decode cX9_match 1 = .ok (.iconst (-1), 1) := by decide +kernel
theorem dX9_match_2 : decode cX9_match 2 = .ok (.if_icmp .eq 16, 3) := by decide +kernel
theorem dX9_match_5 : decode cX9_match 5 = .ok (.aload_n 0, 1) := by decide +kernel
theorem dX9_match_6 : decode cX9_match 6 = .ok (.getfield 12, 3) := by decide +kernel
theorem dX9_match_9 : decode cX9_match 9 = .ok (.iload_n 1, 1) := by decide +kernel
theorem dX9_match_10 : decode cX9_match 10 = .ok (.invokevirtual 58, 3) := by decide +kernel
theorem dX9_match_13 : decode cX9_match 13 = .ok (.ifCond .ne 5, 3) := by decide +kernel
theorem dX9_match_16 : decode cX9_match 16 = .ok (.iconst (-1), 1) := by decide +kernel
theorem dX9_match_17 : decode cX9_match 17 = .ok (.ireturn, 1) := by decide +kernel
theorem dX9_match_18 : decode cX9_match 18 = .ok (.aload_n 0, 1) := by decide +kernel
theorem dX9_match_19 : decode cX9_match 19 = .ok (.getfield 29, 3) := by decide +kernel
theorem dX9_match_22 : decode cX9_match 22 = .ok (.aload_n 0, 1) := by decide +kernel
theorem dX9_match_23 : decode cX9_match 23 = .ok (.getfield 12, 3) := by decide +kernel
theorem dX9_match_26 : decode cX9_match 26 = .ok (.invokevirtual 215, 3) := by decide +kernel
theorem dX9_match_29 : decode cX9_match 29 = .ok (.iload_n 1, 1) := by decide +kernel
theorem dX9_match_30 : decode cX9_match 30 = .ok (.iconst (-1), 1) := by decide +kernel
theorem dX9_match_31 : decode cX9_match 31 = .ok (.if_icmp .ne 13, 3) := by decide +kernel
theorem dX9_match_34 : decode cX9_match 34 = .ok (.aload_n 0, 1) := by decide +kernel
theorem dX9_match_35 : decode cX9_match 35 = .ok (.getfield 29, 3) := by decide +kernel
theorem dX9_match_38 : decode cX9_match 38 = .ok (.invokevirtual 218, 3) := by decide +kernel
theorem dX9_match_41 : decode cX9_match 41 = .ok (.goto 11, 3) := by decide +kernel
theorem dX9_match_44 : decode cX9_match 44 = .ok (.aload_n 0, 1) := by decide +kernel
theorem dX9_match_45 : decode cX9_match 45 = .ok (.getfield 29, 3) := by decide +kernel
theorem dX9_match_48 : decode cX9_match 48 = .ok (.iload_n 1, 1) := by decide +kernel
theorem dX9_match_49 : decode cX9_match 49 = .ok (.invokevirtual 221, 3) := by decide +kernel
theorem dX9_match_52 : decode cX9_match 52 = .ok (.ireturn, 1) := by decide +kernel
def f_X9_match (N : Nat) (now_height : Nat → Int32) (now_kind : Nat → Int32) (now_figure : Nat → Int32) (now_people : Int32) (rails_people : Int32) (rails_rest : Nat → Int32) (rails_M : Nat → Nat → Int32) (p1 : Int32) : Option (Int32 × Int32 × (Nat → Int32) × (Nat → Nat → Int32)) := if p1 = (-1 : Int32) then ob (f_X5_weigh N rails_rest rails_M now_height now_kind now_figure now_people) (fun (y2, y3, y4) => if p1 = (-1 : Int32) then ob (f_X5_mostWeight y3) (fun r9 => some (r9, y2, y3, y4)) else ob (f_X5_railOf N y2 y3 y4 p1) (fun r7 => some (r7, y2, y3, y4))) else ob (f_X8_isThere now_people p1) (fun r11 => if r11 = 0 then nm (-1 : Int32) (fun z23 => some (z23, rails_people, rails_rest, rails_M)) else ob (f_X5_weigh N rails_rest rails_M now_height now_kind now_figure now_people) (fun (y14, y15, y16) => if p1 = (-1 : Int32) then ob (f_X5_mostWeight y15) (fun r21 => some (r21, y14, y15, y16)) else ob (f_X5_railOf N y14 y15 y16 p1) (fun r19 => some (r19, y14, y15, y16))))
set_option maxHeartbeats 4000000 in
set_option maxRecDepth 100000 in
theorem c_X9_match (l : Launch) (E : EE) (b_h : Nat) (now_h : Nat) (mind_h : Nat) (kept_h : Nat) (rails_h : Nat) (sa_h : Nat) (now_a0 : Nat) (now_a1 : Nat) (now_a2 : Nat) (now_a3 : Nat) (now_a4 : Nat) (now_a5 : Nat) (rails_a0 : Nat) (rails_a1 : Nat) (rails_rw : Nat → Nat) (b_img : Int32) (now_height : Nat → Int32) (now_kind : Nat → Int32) (now_figure : Nat → Int32) (now_rail : Nat → Int32) (now_mood : Nat → Int32) (now_sight : Nat → Int32) (now_moving : Int32) (now_shut : Int32) (now_people : Int32) (now_needed : Int32) (now_day : Int32) (rails_people : Int32) (rails_rest : Nat → Int32) (rails_g : Nat → Option Nat) (rails_M : Nat → Nat → Int32) (p1 : Int32) (N : Nat) (res : Int32) (w_rails_people : Int32) (w_rails_rest : Nat → Int32) (w_rails_M : Nat → Nat → Int32) (hrw_rails : ∀ i : Nat, i < 7 → rails_g i = some (rails_rw i)) (hv : f_X9_match N now_height now_kind now_figure now_people rails_people rails_rest rails_M p1 = some (res, w_rails_people, w_rails_rest, w_rails_M)) : Wr l E yX9_match cX9_match 2 (some .int) ({ frames := 3, cells := 0, slots := 0, locals := 68 }) [.ref b_h, .int p1] [oBp b_h now_h mind_h kept_h b_img rails_h sa_h, oSt now_h now_a0 now_a1 now_a2 now_a3 now_a4 now_a5 now_moving now_shut now_people now_needed now_day, ai E now_a0 10 now_height, ai E now_a1 7 now_kind, ai E now_a2 7 now_figure, ai E now_a3 7 now_rail, ai E now_a4 7 now_mood, ai E now_a5 7 now_sight, oRa rails_h rails_a0 rails_a1 rails_people, ai E rails_a0 1024 rails_rest, aG E rails_a1 rails_g, ai E (rails_rw 0) 10 (rails_M 0), ai E (rails_rw 1) 10 (rails_M 1), ai E (rails_rw 2) 10 (rails_M 2), ai E (rails_rw 3) 10 (rails_M 3), ai E (rails_rw 4) 10 (rails_M 4), ai E (rails_rw 5) 10 (rails_M 5), ai E (rails_rw 6) 10 (rails_M 6)] [oBp b_h now_h mind_h kept_h b_img rails_h sa_h, oSt now_h now_a0 now_a1 now_a2 now_a3 now_a4 now_a5 now_moving now_shut now_people now_needed now_day, ai E now_a0 10 now_height, ai E now_a1 7 now_kind, ai E now_a2 7 now_figure, ai E now_a3 7 now_rail, ai E now_a4 7 now_mood, ai E now_a5 7 now_sight, oRa rails_h rails_a0 rails_a1 w_rails_people, ai E rails_a0 1024 w_rails_rest, aG E rails_a1 rails_g, ai E (rails_rw 0) 10 (w_rails_M 0), ai E (rails_rw 1) 10 (w_rails_M 1), ai E (rails_rw 2) 10 (w_rails_M 2), ai E (rails_rw 3) 10 (w_rails_M 3), ai E (rails_rw 4) 10 (w_rails_M 4), ai E (rails_rw 5) 10 (w_rails_M 5), ai E (rails_rw 6) 10 (w_rails_M 6)] (some (.int res)) := by
  refine Wr.intro RX9 (by decide) rfl (Nat.le_of_ble_eq_true rfl) ?_
  intro p e s m below meth c ls A hC hr hlk hmn hP hD hS hA hG hl
  obtain ⟨hx, hb, hml, hown, ht⟩ := id hC
  have hK := hG.1
  have hl : lv_has ls 2 [(0, .ref b_h), (1, .int p1)] := hl
  rw [f_X9_match] at hv
  refine lv_iload_n hx hb dX9_match_0 rfl (lv_at hl 1 rfl) ?_
  refine lv_iconst (v := (-1 : Int32)) hx hb dX9_match_1 (by decide) ?_
  refine lv_icmp_eq (tgt := 18) hx hb dX9_match_2 (by decide) (fun c1 => ?_) (fun c1 => ?_)
  · have hv := if_y c1 hv
    refine lv_aload_n hx hb dX9_match_18 rfl (lv_at hl 0 rfl) ?_
    refine va_get (D := E.1) (ci := 3) (v := .ref rails_h) (C := RX9) (T := TX9) (N := 6) hx hb ht i_X9 hown hK hP 0 rfl rfl 4 (by decide) (ht _ kw_1_142) (fun _ h9 => h9) rfl dX9_match_19 ?_
    refine lv_aload_n hx hb dX9_match_22 rfl (lv_at hl 0 rfl) ?_
    refine va_get (D := E.1) (ci := 3) (v := .ref now_h) (C := RX9) (T := TX9) (N := 6) hx hb ht i_X9 hown hK hP 0 rfl rfl 0 (by decide) (ht _ kw_1_138) (fun _ h9 => h9) rfl dX9_match_23 ?_
    obtain ⟨⟨y2, y3, y4⟩, h5, hv⟩ := ob_s hv
    refine wrV (as := [b_h, now_h, now_a0, now_a1, now_a2, now_a3, now_a4, now_a5, rails_h, rails_a0, rails_a1, (rails_rw 0), (rails_rw 1), (rails_rw 2), (rails_rw 3), (rails_rw 4), (rails_rw 5), (rails_rw 6)]) (wr := [oBp b_h now_h mind_h kept_h b_img rails_h sa_h]) [8, 9, 10, 11, 12, 13, 14, 15, 16, 17, 1, 2, 3, 4, 5, 6, 7] [0] 0 0 (ws := [oBp b_h now_h mind_h kept_h b_img rails_h sa_h, oSt now_h now_a0 now_a1 now_a2 now_a3 now_a4 now_a5 now_moving now_shut now_people now_needed now_day, ai E now_a0 10 now_height, ai E now_a1 7 now_kind, ai E now_a2 7 now_figure, ai E now_a3 7 now_rail, ai E now_a4 7 now_mood, ai E now_a5 7 now_sight, oRa rails_h rails_a0 rails_a1 rails_people, ai E rails_a0 1024 rails_rest, aG E rails_a1 rails_g, ai E (rails_rw 0) 10 (rails_M 0), ai E (rails_rw 1) 10 (rails_M 1), ai E (rails_rw 2) 10 (rails_M 2), ai E (rails_rw 3) 10 (rails_M 3), ai E (rails_rw 4) 10 (rails_M 4), ai E (rails_rw 5) 10 (rails_M 5), ai E (rails_rw 6) 10 (rails_M 6)]) (ws' := [oBp b_h now_h mind_h kept_h b_img rails_h sa_h, oSt now_h now_a0 now_a1 now_a2 now_a3 now_a4 now_a5 now_moving now_shut now_people now_needed now_day, ai E now_a0 10 now_height, ai E now_a1 7 now_kind, ai E now_a2 7 now_figure, ai E now_a3 7 now_rail, ai E now_a4 7 now_mood, ai E now_a5 7 now_sight, oRa rails_h rails_a0 rails_a1 y2, ai E rails_a0 1024 y3, aG E rails_a1 rails_g, ai E (rails_rw 0) 10 (y4 0), ai E (rails_rw 1) 10 (y4 1), ai E (rails_rw 2) 10 (y4 2), ai E (rails_rw 3) 10 (y4 3), ai E (rails_rw 4) 10 (y4 4), ai E (rails_rw 5) 10 (y4 5), ai E (rails_rw 6) 10 (y4 6)]) (As := [.ref now_h]) (rest := []) (st1 := []) hC q_X5_weigh kw_3_54 (c_X5_weigh l E rails_h rails_a0 rails_a1 rails_rw now_h now_a0 now_a1 now_a2 now_a3 now_a4 now_a5 rails_people rails_rest rails_g rails_M now_height now_kind now_figure now_rail now_mood now_sight now_moving now_shut now_people now_needed now_day N y2 y3 y4 hrw_rails h5) ⟨rfl, rfl⟩ ⟨Nat.le_of_ble_eq_true rfl, Nat.le_of_ble_eq_true rfl⟩ ⟨Nat.zero_le _, Nat.zero_le _⟩ hP hD hS hA rfl rfl rfl hG (by decide) rfl rfl rfl rfl rfl rfl rfl rfl hl.1 rfl (Nat.le_of_ble_eq_true rfl) dX9_match_26 rfl (fun H locs hP hD hS => ?_)
    refine lv_iload_n hx hb dX9_match_29 rfl (lv_at hl 1 rfl) ?_
    refine lv_iconst (v := (-1 : Int32)) hx hb dX9_match_30 (by decide) ?_
    refine lv_icmp_ne (tgt := 44) hx hb dX9_match_31 (by decide) (fun c6 => ?_) (fun c6 => ?_)
    · have hv := if_n c6 hv
      refine lv_aload_n hx hb dX9_match_44 rfl (lv_at hl 0 rfl) ?_
      refine va_get (D := E.1) (ci := 3) (v := .ref rails_h) (C := RX9) (T := TX9) (N := 6) hx hb ht i_X9 hown hK hP 0 rfl rfl 4 (by decide) (ht _ kw_1_142) (fun _ h9 => h9) rfl dX9_match_45 ?_
      refine lv_iload_n hx hb dX9_match_48 rfl (lv_at hl 1 rfl) ?_
      obtain ⟨r7, h8, hv⟩ := ob_s hv
      refine rdV 0 0 (As := [.int p1]) (rest := []) (st1 := [.int r7]) (w := [oRa rails_h rails_a0 rails_a1 y2, ai E rails_a0 1024 y3, aG E rails_a1 rails_g, ai E (rails_rw 0) 10 (y4 0), ai E (rails_rw 1) 10 (y4 1), ai E (rails_rw 2) 10 (y4 2), ai E (rails_rw 3) 10 (y4 3), ai E (rails_rw 4) 10 (y4 4), ai E (rails_rw 5) 10 (y4 5), ai E (rails_rw 6) 10 (y4 6)]) hC q_X5_railOf kw_3_70 (c_X5_railOf l E rails_h rails_a0 rails_a1 rails_rw y2 y3 rails_g y4 p1 N r7 hrw_rails h8) ⟨rfl, rfl⟩ ⟨Nat.le_of_ble_eq_true rfl, Nat.le_of_ble_eq_true rfl⟩ ⟨Nat.zero_le _, Nat.zero_le _⟩ (hP.sub (ws' := [oRa rails_h rails_a0 rails_a1 y2, ai E rails_a0 1024 y3, aG E rails_a1 rails_g, ai E (rails_rw 0) 10 (y4 0), ai E (rails_rw 1) 10 (y4 1), ai E (rails_rw 2) 10 (y4 2), ai E (rails_rw 3) 10 (y4 3), ai E (rails_rw 4) 10 (y4 4), ai E (rails_rw 5) 10 (y4 5), ai E (rails_rw 6) 10 (y4 6)]) [8, 9, 10, 11, 12, 13, 14, 15, 16, 17] rfl) rfl rfl rfl hG rfl hl.1 rfl (Nat.le_of_ble_eq_true rfl) dX9_match_49 rfl ?_
      cases hv
      exact W.iret hx hb hr (fun t h9 _ => ⟨rfl, by rw [h9]; exact hP, hS.F h9⟩) hS.2.2 dX9_match_52 hlk
    · have hv := if_y c6 hv
      refine lv_aload_n hx hb dX9_match_34 rfl (lv_at hl 0 rfl) ?_
      refine va_get (D := E.1) (ci := 3) (v := .ref rails_h) (C := RX9) (T := TX9) (N := 6) hx hb ht i_X9 hown hK hP 0 rfl rfl 4 (by decide) (ht _ kw_1_142) (fun _ h9 => h9) rfl dX9_match_35 ?_
      obtain ⟨r9, h10, hv⟩ := ob_s hv
      refine rdV 0 0 (As := []) (rest := []) (st1 := [.int r9]) (w := [oRa rails_h rails_a0 rails_a1 y2, ai E rails_a0 1024 y3, aG E rails_a1 rails_g, ai E (rails_rw 0) 10 (y4 0), ai E (rails_rw 1) 10 (y4 1), ai E (rails_rw 2) 10 (y4 2), ai E (rails_rw 3) 10 (y4 3), ai E (rails_rw 4) 10 (y4 4), ai E (rails_rw 5) 10 (y4 5), ai E (rails_rw 6) 10 (y4 6)]) hC q_X5_mostWeight kw_3_66 (c_X5_mostWeight l E rails_h rails_a0 rails_a1 rails_rw y2 y3 rails_g y4 r9 hrw_rails h10) ⟨rfl, rfl⟩ ⟨Nat.le_of_ble_eq_true rfl, Nat.le_of_ble_eq_true rfl⟩ ⟨Nat.zero_le _, Nat.zero_le _⟩ (hP.sub (ws' := [oRa rails_h rails_a0 rails_a1 y2, ai E rails_a0 1024 y3, aG E rails_a1 rails_g, ai E (rails_rw 0) 10 (y4 0), ai E (rails_rw 1) 10 (y4 1), ai E (rails_rw 2) 10 (y4 2), ai E (rails_rw 3) 10 (y4 3), ai E (rails_rw 4) 10 (y4 4), ai E (rails_rw 5) 10 (y4 5), ai E (rails_rw 6) 10 (y4 6)]) [8, 9, 10, 11, 12, 13, 14, 15, 16, 17] rfl) rfl rfl rfl hG rfl hl.1 rfl (Nat.le_of_ble_eq_true rfl) dX9_match_38 rfl ?_
      refine lv_goto (tgt := 52) hx hb dX9_match_41 (by decide) ?_
      cases hv
      exact W.iret hx hb hr (fun t h9 _ => ⟨rfl, by rw [h9]; exact hP, hS.F h9⟩) hS.2.2 dX9_match_52 hlk
  · have hv := if_n c1 hv
    refine lv_aload_n hx hb dX9_match_5 rfl (lv_at hl 0 rfl) ?_
    refine va_get (D := E.1) (ci := 3) (v := .ref now_h) (C := RX9) (T := TX9) (N := 6) hx hb ht i_X9 hown hK hP 0 rfl rfl 0 (by decide) (ht _ kw_1_138) (fun _ h9 => h9) rfl dX9_match_6 ?_
    refine lv_iload_n hx hb dX9_match_9 rfl (lv_at hl 1 rfl) ?_
    obtain ⟨r11, h12, hv⟩ := ob_s hv
    refine rdV 2 0 (As := [.int p1]) (rest := []) (st1 := [.int r11]) (w := [oSt now_h now_a0 now_a1 now_a2 now_a3 now_a4 now_a5 now_moving now_shut now_people now_needed now_day, ai E now_a0 10 now_height, ai E now_a1 7 now_kind, ai E now_a2 7 now_figure, ai E now_a3 7 now_rail, ai E now_a4 7 now_mood, ai E now_a5 7 now_sight]) hC q_X8_isThere kw_2_50 (c_X8_isThere l E now_h now_a0 now_a1 now_a2 now_a3 now_a4 now_a5 now_height now_kind now_figure now_rail now_mood now_sight now_moving now_shut now_people now_needed now_day p1 r11 h12) ⟨rfl, rfl⟩ ⟨Nat.le_of_ble_eq_true rfl, Nat.le_of_ble_eq_true rfl⟩ ⟨Nat.zero_le _, Nat.zero_le _⟩ (hP.sub (ws' := [oSt now_h now_a0 now_a1 now_a2 now_a3 now_a4 now_a5 now_moving now_shut now_people now_needed now_day, ai E now_a0 10 now_height, ai E now_a1 7 now_kind, ai E now_a2 7 now_figure, ai E now_a3 7 now_rail, ai E now_a4 7 now_mood, ai E now_a5 7 now_sight]) [1, 2, 3, 4, 5, 6, 7] rfl) rfl rfl rfl hG rfl hl.1 rfl (Nat.le_of_ble_eq_true rfl) dX9_match_10 rfl ?_
    refine lv_if_ne (tgt := 18) hx hb dX9_match_13 (by decide) (fun c13 => ?_) (fun c13 => ?_)
    · have hv := if_n c13 hv
      refine lv_aload_n hx hb dX9_match_18 rfl (lv_at hl 0 rfl) ?_
      refine va_get (D := E.1) (ci := 3) (v := .ref rails_h) (C := RX9) (T := TX9) (N := 6) hx hb ht i_X9 hown hK hP 0 rfl rfl 4 (by decide) (ht _ kw_1_142) (fun _ h9 => h9) rfl dX9_match_19 ?_
      refine lv_aload_n hx hb dX9_match_22 rfl (lv_at hl 0 rfl) ?_
      refine va_get (D := E.1) (ci := 3) (v := .ref now_h) (C := RX9) (T := TX9) (N := 6) hx hb ht i_X9 hown hK hP 0 rfl rfl 0 (by decide) (ht _ kw_1_138) (fun _ h9 => h9) rfl dX9_match_23 ?_
      obtain ⟨⟨y14, y15, y16⟩, h17, hv⟩ := ob_s hv
      refine wrV (as := [b_h, now_h, now_a0, now_a1, now_a2, now_a3, now_a4, now_a5, rails_h, rails_a0, rails_a1, (rails_rw 0), (rails_rw 1), (rails_rw 2), (rails_rw 3), (rails_rw 4), (rails_rw 5), (rails_rw 6)]) (wr := [oBp b_h now_h mind_h kept_h b_img rails_h sa_h]) [8, 9, 10, 11, 12, 13, 14, 15, 16, 17, 1, 2, 3, 4, 5, 6, 7] [0] 0 0 (ws := [oBp b_h now_h mind_h kept_h b_img rails_h sa_h, oSt now_h now_a0 now_a1 now_a2 now_a3 now_a4 now_a5 now_moving now_shut now_people now_needed now_day, ai E now_a0 10 now_height, ai E now_a1 7 now_kind, ai E now_a2 7 now_figure, ai E now_a3 7 now_rail, ai E now_a4 7 now_mood, ai E now_a5 7 now_sight, oRa rails_h rails_a0 rails_a1 rails_people, ai E rails_a0 1024 rails_rest, aG E rails_a1 rails_g, ai E (rails_rw 0) 10 (rails_M 0), ai E (rails_rw 1) 10 (rails_M 1), ai E (rails_rw 2) 10 (rails_M 2), ai E (rails_rw 3) 10 (rails_M 3), ai E (rails_rw 4) 10 (rails_M 4), ai E (rails_rw 5) 10 (rails_M 5), ai E (rails_rw 6) 10 (rails_M 6)]) (ws' := [oBp b_h now_h mind_h kept_h b_img rails_h sa_h, oSt now_h now_a0 now_a1 now_a2 now_a3 now_a4 now_a5 now_moving now_shut now_people now_needed now_day, ai E now_a0 10 now_height, ai E now_a1 7 now_kind, ai E now_a2 7 now_figure, ai E now_a3 7 now_rail, ai E now_a4 7 now_mood, ai E now_a5 7 now_sight, oRa rails_h rails_a0 rails_a1 y14, ai E rails_a0 1024 y15, aG E rails_a1 rails_g, ai E (rails_rw 0) 10 (y16 0), ai E (rails_rw 1) 10 (y16 1), ai E (rails_rw 2) 10 (y16 2), ai E (rails_rw 3) 10 (y16 3), ai E (rails_rw 4) 10 (y16 4), ai E (rails_rw 5) 10 (y16 5), ai E (rails_rw 6) 10 (y16 6)]) (As := [.ref now_h]) (rest := []) (st1 := []) hC q_X5_weigh kw_3_54 (c_X5_weigh l E rails_h rails_a0 rails_a1 rails_rw now_h now_a0 now_a1 now_a2 now_a3 now_a4 now_a5 rails_people rails_rest rails_g rails_M now_height now_kind now_figure now_rail now_mood now_sight now_moving now_shut now_people now_needed now_day N y14 y15 y16 hrw_rails h17) ⟨rfl, rfl⟩ ⟨Nat.le_of_ble_eq_true rfl, Nat.le_of_ble_eq_true rfl⟩ ⟨Nat.zero_le _, Nat.zero_le _⟩ hP hD hS hA rfl rfl rfl hG (by decide) rfl rfl rfl rfl rfl rfl rfl rfl hl.1 rfl (Nat.le_of_ble_eq_true rfl) dX9_match_26 rfl (fun H locs hP hD hS => ?_)
      refine lv_iload_n hx hb dX9_match_29 rfl (lv_at hl 1 rfl) ?_
      refine lv_iconst (v := (-1 : Int32)) hx hb dX9_match_30 (by decide) ?_
      refine lv_icmp_ne (tgt := 44) hx hb dX9_match_31 (by decide) (fun c18 => ?_) (fun c18 => ?_)
      · have hv := if_n c18 hv
        refine lv_aload_n hx hb dX9_match_44 rfl (lv_at hl 0 rfl) ?_
        refine va_get (D := E.1) (ci := 3) (v := .ref rails_h) (C := RX9) (T := TX9) (N := 6) hx hb ht i_X9 hown hK hP 0 rfl rfl 4 (by decide) (ht _ kw_1_142) (fun _ h9 => h9) rfl dX9_match_45 ?_
        refine lv_iload_n hx hb dX9_match_48 rfl (lv_at hl 1 rfl) ?_
        obtain ⟨r19, h20, hv⟩ := ob_s hv
        refine rdV 0 0 (As := [.int p1]) (rest := []) (st1 := [.int r19]) (w := [oRa rails_h rails_a0 rails_a1 y14, ai E rails_a0 1024 y15, aG E rails_a1 rails_g, ai E (rails_rw 0) 10 (y16 0), ai E (rails_rw 1) 10 (y16 1), ai E (rails_rw 2) 10 (y16 2), ai E (rails_rw 3) 10 (y16 3), ai E (rails_rw 4) 10 (y16 4), ai E (rails_rw 5) 10 (y16 5), ai E (rails_rw 6) 10 (y16 6)]) hC q_X5_railOf kw_3_70 (c_X5_railOf l E rails_h rails_a0 rails_a1 rails_rw y14 y15 rails_g y16 p1 N r19 hrw_rails h20) ⟨rfl, rfl⟩ ⟨Nat.le_of_ble_eq_true rfl, Nat.le_of_ble_eq_true rfl⟩ ⟨Nat.zero_le _, Nat.zero_le _⟩ (hP.sub (ws' := [oRa rails_h rails_a0 rails_a1 y14, ai E rails_a0 1024 y15, aG E rails_a1 rails_g, ai E (rails_rw 0) 10 (y16 0), ai E (rails_rw 1) 10 (y16 1), ai E (rails_rw 2) 10 (y16 2), ai E (rails_rw 3) 10 (y16 3), ai E (rails_rw 4) 10 (y16 4), ai E (rails_rw 5) 10 (y16 5), ai E (rails_rw 6) 10 (y16 6)]) [8, 9, 10, 11, 12, 13, 14, 15, 16, 17] rfl) rfl rfl rfl hG rfl hl.1 rfl (Nat.le_of_ble_eq_true rfl) dX9_match_49 rfl ?_
        cases hv
        exact W.iret hx hb hr (fun t h9 _ => ⟨rfl, by rw [h9]; exact hP, hS.F h9⟩) hS.2.2 dX9_match_52 hlk
      · have hv := if_y c18 hv
        refine lv_aload_n hx hb dX9_match_34 rfl (lv_at hl 0 rfl) ?_
        refine va_get (D := E.1) (ci := 3) (v := .ref rails_h) (C := RX9) (T := TX9) (N := 6) hx hb ht i_X9 hown hK hP 0 rfl rfl 4 (by decide) (ht _ kw_1_142) (fun _ h9 => h9) rfl dX9_match_35 ?_
        obtain ⟨r21, h22, hv⟩ := ob_s hv
        refine rdV 0 0 (As := []) (rest := []) (st1 := [.int r21]) (w := [oRa rails_h rails_a0 rails_a1 y14, ai E rails_a0 1024 y15, aG E rails_a1 rails_g, ai E (rails_rw 0) 10 (y16 0), ai E (rails_rw 1) 10 (y16 1), ai E (rails_rw 2) 10 (y16 2), ai E (rails_rw 3) 10 (y16 3), ai E (rails_rw 4) 10 (y16 4), ai E (rails_rw 5) 10 (y16 5), ai E (rails_rw 6) 10 (y16 6)]) hC q_X5_mostWeight kw_3_66 (c_X5_mostWeight l E rails_h rails_a0 rails_a1 rails_rw y14 y15 rails_g y16 r21 hrw_rails h22) ⟨rfl, rfl⟩ ⟨Nat.le_of_ble_eq_true rfl, Nat.le_of_ble_eq_true rfl⟩ ⟨Nat.zero_le _, Nat.zero_le _⟩ (hP.sub (ws' := [oRa rails_h rails_a0 rails_a1 y14, ai E rails_a0 1024 y15, aG E rails_a1 rails_g, ai E (rails_rw 0) 10 (y16 0), ai E (rails_rw 1) 10 (y16 1), ai E (rails_rw 2) 10 (y16 2), ai E (rails_rw 3) 10 (y16 3), ai E (rails_rw 4) 10 (y16 4), ai E (rails_rw 5) 10 (y16 5), ai E (rails_rw 6) 10 (y16 6)]) [8, 9, 10, 11, 12, 13, 14, 15, 16, 17] rfl) rfl rfl rfl hG rfl hl.1 rfl (Nat.le_of_ble_eq_true rfl) dX9_match_38 rfl ?_
        refine lv_goto (tgt := 52) hx hb dX9_match_41 (by decide) ?_
        cases hv
        exact W.iret hx hb hr (fun t h9 _ => ⟨rfl, by rw [h9]; exact hP, hS.F h9⟩) hS.2.2 dX9_match_52 hlk
    · have hv := if_y c13 hv
      refine lv_iconst (v := (-1 : Int32)) hx hb dX9_match_16 (by decide) ?_
      refine lv_topi (fun z23 ez23 => ?_)
      have hv := nm_s ez23 hv
      cases hv
      exact W.iret hx hb hr (fun t h9 _ => ⟨rfl, by rw [h9]; exact hP, hS.F h9⟩) hS.2.2 dX9_match_17 hlk
