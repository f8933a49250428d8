theorem dX9_comes_0 : decode cX9_comes 0 = .ok (.iload_n 2, 1) := by decide +kernel
theorem dX9_comes_1 : decode cX9_comes 1 = .ok (.invokestatic 91, 3) := by decide +kernel
theorem dX9_comes_4 : decode cX9_comes 4 = .ok (.ifCond .ne 5, 3) := by decide +kernel
theorem dX9_comes_7 : decode cX9_comes 7 = .ok (.iconst (-1), 1) := by decide +kernel
theorem dX9_comes_8 : decode cX9_comes 8 = .ok (.ireturn, 1) := by decide +kernel
theorem dX9_comes_9 : decode cX9_comes 9 = .ok (.aload_n 0, 1) := by decide +kernel
theorem dX9_comes_10 : decode cX9_comes 10 = .ok (.iload_n 1, 1) := by decide +kernel
theorem dX9_comes_11 : decode cX9_comes 11 = .ok (.iconst 1, 1) := by decide +kernel
theorem dX9_comes_12 : decode cX9_comes 12 = .ok (.invokevirtual 40, 3) := by decide +kernel
theorem dX9_comes_15 : decode cX9_comes 15 = .ok (.istore_n 3, 1) := by decide +kernel
theorem dX9_comes_16 : decode cX9_comes 16 = .ok (.iload_n 3, 1) := by decide +kernel
theorem dX9_comes_17 : decode cX9_comes 17 = .ok (.ifCond .eq 5, 3) := by decide +kernel
theorem dX9_comes_20 : decode cX9_comes 20 = .ok (.iload_n 3, 1) := by decide +kernel
theorem dX9_comes_21 : decode cX9_comes 21 = .ok (.ireturn, 1) := by decide +kernel
theorem dX9_comes_22 : decode cX9_comes 22 = .ok (.aload_n 0, 1) := by decide +kernel
theorem dX9_comes_23 : decode cX9_comes 23 = .ok (.getfield 12, 3) := by decide +kernel
theorem dX9_comes_26 : decode cX9_comes 26 = .ok (.invokevirtual 103, 3) := by decide +kernel
theorem dX9_comes_29 : decode cX9_comes 29 = .ok (.ifCond .ne 6, 3) := by decide +kernel
theorem dX9_comes_32 : decode cX9_comes 32 = .ok (.bipush (-2), 2) := by decide +kernel
theorem dX9_comes_34 : decode cX9_comes 34 = .ok (.ireturn, 1) := by decide +kernel
theorem dX9_comes_35 : decode cX9_comes 35 = .ok (.aload_n 0, 1) := by decide +kernel
theorem dX9_comes_36 : decode cX9_comes 36 = .ok (.getfield 12, 3) := by decide +kernel
theorem dX9_comes_39 : decode cX9_comes 39 = .ok (.aload_n 0, 1) := by decide +kernel
theorem dX9_comes_40 : decode cX9_comes 40 = .ok (.getfield 35, 3) := by decide +kernel
theorem dX9_comes_43 : decode cX9_comes 43 = .ok (.iload_n 1, 1) := by decide +kernel
theorem dX9_comes_44 : decode cX9_comes 44 = .ok (.aaload, 1) := by decide +kernel
theorem dX9_comes_45 : decode cX9_comes 45 = .ok (.getfield 107, 3) := by decide +kernel
theorem dX9_comes_48 : decode cX9_comes 48 = .ok (.aload_n 0, 1) := by decide +kernel
theorem dX9_comes_49 : decode cX9_comes 49 = .ok (.getfield 35, 3) := by decide +kernel
theorem dX9_comes_52 : decode cX9_comes 52 = .ok (.iload_n 1, 1) := by decide +kernel
theorem dX9_comes_53 : decode cX9_comes 53 = .ok (.aaload, 1) := by decide +kernel
theorem dX9_comes_54 : decode cX9_comes 54 = .ok (.getfield 109, 3) := by decide +kernel
theorem dX9_comes_57 : decode cX9_comes 57 = .ok (.iload_n 2, 1) := by decide +kernel
theorem dX9_comes_58 : decode cX9_comes 58 = .ok (.invokevirtual 111, 3) := by decide +kernel
theorem dX9_comes_61 : decode cX9_comes 61 = .ok (.aload_n 0, 1) := by decide +kernel
theorem dX9_comes_62 : decode cX9_comes 62 = .ok (.getfield 12, 3) := by decide +kernel
theorem dX9_comes_65 : decode cX9_comes 65 = .ok (.getfield 115, 3) := by decide +kernel
theorem dX9_comes_68 : decode cX9_comes 68 = .ok (.iconst 1, 1) := by decide +kernel
theorem dX9_comes_69 : decode cX9_comes 69 = .ok (.isub, 1) := by decide +kernel
theorem dX9_comes_70 : decode cX9_comes 70 = .ok (.ireturn, 1) := by decide +kernel
def f_X9_comes (now_kind : Nat → Int32) (now_figure : Nat → Int32) (now_rail : Nat → Int32) (now_mood : Nat → Int32) (now_people : Int32) (q_holds : Int32) (q_kind : Int32) (q_figure : Int32) (p1 : Int32) (p2 : Int32) : Option (Int32 × Int32 × (Nat → Int32) × (Nat → Int32) × (Nat → Int32) × (Nat → Int32)) := ob (f_X9_isBalcony p2) (fun r1 => if r1 = 0 then nm (-1 : Int32) (fun z20 => some (z20, now_people, now_kind, now_figure, now_rail, now_mood)) else ob (f_X9_refusalOf q_holds p1 (1 : Int32)) (fun r4 => if r4 = 0 then ob (f_X8_hasRoom now_people) (fun r7 => if r7 = 0 then nm (-2 : Int32) (fun z19 => some (z19, now_people, now_kind, now_figure, now_rail, now_mood)) else gd (ix p1 8) (gd (ix p1 8) (ob (f_X8_admit now_kind now_figure now_rail now_mood now_people q_kind q_figure p2) (fun (y12, y13, y14, y15, y16) => nm (y12 - (1 : Int32)) (fun z18 => some (z18, y12, y13, y14, y15, y16)))))) else some (r4, now_people, now_kind, now_figure, now_rail, now_mood)))
set_option maxHeartbeats 4000000 in
set_option maxRecDepth 100000 in
theorem c_X9_comes (l : Launch) (E : EE) (b_h : Nat) (now_h : Nat) (mind_h : Nat) (kept_h : Nat) (rails_h : Nat) (sa_h : Nat) (now_a0 : Nat) (now_a1 : Nat) (now_a2 : Nat) (now_a3 : Nat) (now_a4 : Nat) (now_a5 : Nat) (q_h : Nat) (q_a0 : Nat) (b_img : Int32) (now_height : Nat → Int32) (now_kind : Nat → Int32) (now_figure : Nat → Int32) (now_rail : Nat → Int32) (now_mood : Nat → Int32) (now_sight : Nat → Int32) (now_moving : Int32) (now_shut : Int32) (now_people : Int32) (now_needed : Int32) (now_day : Int32) (sh : Nat → Option Nat) (q_elements : Nat → Int32) (q_holds : Int32) (q_kind : Int32) (q_figure : Int32) (q_sort : Int32) (q_size : Int32) (p1 : Int32) (p2 : Int32) (res : Int32) (w_now_people : Int32) (w_now_kind : Nat → Int32) (w_now_figure : Nat → Int32) (w_now_rail : Nat → Int32) (w_now_mood : Nat → Int32) (hsh_p1 : ix p1 8 = true → sh p1.toNatClampNeg = some q_h) (hv : f_X9_comes now_kind now_figure now_rail now_mood now_people q_holds q_kind q_figure p1 p2 = some (res, w_now_people, w_now_kind, w_now_figure, w_now_rail, w_now_mood)) : Wr l E yX9_comes cX9_comes 4 (some .int) ({ frames := 3, cells := 0, slots := 0, locals := 64 }) [.ref b_h, .int p1, .int p2] [oBp b_h now_h mind_h kept_h b_img rails_h sa_h, oSt now_h now_a0 now_a1 now_a2 now_a3 now_a4 now_a5 now_moving now_shut now_people now_needed now_day, ai E now_a0 10 now_height, ai E now_a1 7 now_kind, ai E now_a2 7 now_figure, ai E now_a3 7 now_rail, ai E now_a4 7 now_mood, ai E now_a5 7 now_sight, aS E sa_h sh, oSh q_h q_a0 q_holds q_kind q_figure q_sort q_size, ai E q_a0 100 q_elements] [oBp b_h now_h mind_h kept_h b_img rails_h sa_h, oSt now_h now_a0 now_a1 now_a2 now_a3 now_a4 now_a5 now_moving now_shut w_now_people now_needed now_day, ai E now_a0 10 now_height, ai E now_a1 7 w_now_kind, ai E now_a2 7 w_now_figure, ai E now_a3 7 w_now_rail, ai E now_a4 7 w_now_mood, ai E now_a5 7 now_sight, aS E sa_h sh, oSh q_h q_a0 q_holds q_kind q_figure q_sort q_size, ai E q_a0 100 q_elements] (some (.int res)) := by
  refine Wr.intro RX9 (by decide) rfl (Nat.le_of_ble_eq_true rfl) ?_
  intro p e s m below meth c ls A hC hr hlk hmn hP hD hS hA hG hl
  obtain ⟨hx, hb, hml, hown, ht⟩ := id hC
  have hK := hG.1
  have hl : lv_has ls 4 [(0, .ref b_h), (1, .int p1), (2, .int p2)] := hl
  rw [f_X9_comes] at hv
  refine lv_iload_n hx hb dX9_comes_0 rfl (lv_at hl 2 rfl) ?_
  obtain ⟨r1, h2, hv⟩ := ob_s hv
  refine rdS (rest := []) (st1 := [.int r1]) (w := []) hC q_X9_isBalcony kw_2_67 (c_X9_isBalcony l E p2 r1 h2) ⟨rfl, rfl⟩ ⟨Nat.le_of_ble_eq_true rfl, Nat.le_of_ble_eq_true rfl⟩ ⟨Nat.zero_le _, Nat.zero_le _⟩ (hP.sub (ws' := []) [] rfl) hG rfl hl.1 rfl (Nat.le_of_ble_eq_true rfl) dX9_comes_1 rfl ?_
  refine lv_if_ne (tgt := 9) hx hb dX9_comes_4 (by decide) (fun c3 => ?_) (fun c3 => ?_)
  · have hv := if_n c3 hv
    refine lv_aload_n hx hb dX9_comes_9 rfl (lv_at hl 0 rfl) ?_
    refine lv_iload_n hx hb dX9_comes_10 rfl (lv_at hl 1 rfl) ?_
    refine lv_iconst (v := (1 : Int32)) hx hb dX9_comes_11 (by decide) ?_
    obtain ⟨r4, h5, hv⟩ := ob_s hv
    refine rdV 3 0 (As := [.int p1, .int (1 : Int32)]) (rest := []) (st1 := [.int r4]) (w := [oBp b_h now_h mind_h kept_h b_img rails_h sa_h, aS E sa_h sh, oSh q_h q_a0 q_holds q_kind q_figure q_sort q_size, ai E q_a0 100 q_elements]) hC q_X9_refusalOf kw_1_161 (c_X9_refusalOf l E b_h now_h mind_h kept_h rails_h sa_h q_h q_a0 b_img sh q_elements q_holds q_kind q_figure q_sort q_size p1 (1 : Int32) r4 hsh_p1 h5) ⟨rfl, rfl⟩ ⟨Nat.le_of_ble_eq_true rfl, Nat.le_of_ble_eq_true rfl⟩ ⟨Nat.zero_le _, Nat.zero_le _⟩ (hP.sub (ws' := [oBp b_h now_h mind_h kept_h b_img rails_h sa_h, aS E sa_h sh, oSh q_h q_a0 q_holds q_kind q_figure q_sort q_size, ai E q_a0 100 q_elements]) [0, 8, 9, 10] rfl) rfl rfl rfl hG rfl hl.1 rfl (Nat.le_of_ble_eq_true rfl) dX9_comes_12 rfl ?_
    refine lv_istore_n (lv' := [(3, .int r4), (0, .ref b_h), (1, .int p1), (2, .int p2)]) hx hb dX9_comes_15 rfl hl (by decide) rfl (fun ls hl => ?_)
    refine lv_iload_n hx hb dX9_comes_16 rfl (lv_at hl 0 rfl) ?_
    refine lv_if_eq (tgt := 22) hx hb dX9_comes_17 (by decide) (fun c6 => ?_) (fun c6 => ?_)
    · have hv := if_y c6 hv
      refine lv_aload_n hx hb dX9_comes_22 rfl (lv_at hl 1 rfl) ?_
      refine va_get (D := E.1) (ci := 3) (v := .ref now_h) (C := RX9) (T := TX9) (N := 6) hx hb ht i_X9 hown hK hP 0 rfl rfl 0 (by decide) (ht _ kw_1_138) (fun _ h9 => h9) rfl dX9_comes_23 ?_
      obtain ⟨r7, h8, hv⟩ := ob_s hv
      refine rdV 2 0 (As := []) (rest := []) (st1 := [.int r7]) (w := [oSt now_h now_a0 now_a1 now_a2 now_a3 now_a4 now_a5 now_moving now_shut now_people now_needed now_day, ai E now_a0 10 now_height, ai E now_a1 7 now_kind, ai E now_a2 7 now_figure, ai E now_a3 7 now_rail, ai E now_a4 7 now_mood, ai E now_a5 7 now_sight]) hC q_X8_hasRoom kw_2_80 (c_X8_hasRoom l E now_h now_a0 now_a1 now_a2 now_a3 now_a4 now_a5 now_height now_kind now_figure now_rail now_mood now_sight now_moving now_shut now_people now_needed now_day r7 h8) ⟨rfl, rfl⟩ ⟨Nat.le_of_ble_eq_true rfl, Nat.le_of_ble_eq_true rfl⟩ ⟨Nat.zero_le _, Nat.zero_le _⟩ (hP.sub (ws' := [oSt now_h now_a0 now_a1 now_a2 now_a3 now_a4 now_a5 now_moving now_shut now_people now_needed now_day, ai E now_a0 10 now_height, ai E now_a1 7 now_kind, ai E now_a2 7 now_figure, ai E now_a3 7 now_rail, ai E now_a4 7 now_mood, ai E now_a5 7 now_sight]) [1, 2, 3, 4, 5, 6, 7] rfl) rfl rfl rfl hG rfl hl.1 rfl (Nat.le_of_ble_eq_true rfl) dX9_comes_26 rfl ?_
      refine lv_if_ne (tgt := 35) hx hb dX9_comes_29 (by decide) (fun c9 => ?_) (fun c9 => ?_)
      · have hv := if_n c9 hv
        refine lv_aload_n hx hb dX9_comes_35 rfl (lv_at hl 1 rfl) ?_
        refine va_get (D := E.1) (ci := 3) (v := .ref now_h) (C := RX9) (T := TX9) (N := 6) hx hb ht i_X9 hown hK hP 0 rfl rfl 0 (by decide) (ht _ kw_1_138) (fun _ h9 => h9) rfl dX9_comes_36 ?_
        refine lv_aload_n hx hb dX9_comes_39 rfl (lv_at hl 1 rfl) ?_
        refine va_get (D := E.1) (ci := 3) (v := .ref sa_h) (C := RX9) (T := TX9) (N := 6) hx hb ht i_X9 hown hK hP 0 rfl rfl 5 (by decide) (ht _ kw_1_143) (fun _ h9 => h9) rfl dX9_comes_40 ?_
        refine lv_iload_n hx hb dX9_comes_43 rfl (lv_at hl 2 rfl) ?_
        obtain ⟨g10, hv⟩ := gd_s hv
        refine va_aldq (C := "BalconiesParliament$Shelf") hx hb hK hP 8 1 rfl rfl (ix_s g10) dX9_comes_44 ?_
        refine W.eq (g2 := F0 m 45 ls [.ref q_h, .ref now_h]) (by rw [hsh_p1 g10]; rfl) ?_
        refine va_get (D := E.1) (ci := 1) (v := .int q_kind) (C := RX7) (T := TX7) (N := 6) hx hb ht i_X7 hown hK hP 9 rfl rfl 2 (by decide) (ht _ kw_1_116) (fun _ h9 => h9) rfl dX9_comes_45 ?_
        refine lv_aload_n hx hb dX9_comes_48 rfl (lv_at hl 1 rfl) ?_
        refine va_get (D := E.1) (ci := 3) (v := .ref sa_h) (C := RX9) (T := TX9) (N := 6) hx hb ht i_X9 hown hK hP 0 rfl rfl 5 (by decide) (ht _ kw_1_143) (fun _ h9 => h9) rfl dX9_comes_49 ?_
        refine lv_iload_n hx hb dX9_comes_52 rfl (lv_at hl 2 rfl) ?_
        obtain ⟨g11, hv⟩ := gd_s hv
        refine va_aldq (C := "BalconiesParliament$Shelf") hx hb hK hP 8 1 rfl rfl (ix_s g11) dX9_comes_53 ?_
        refine W.eq (g2 := F0 m 54 ls [.ref q_h, .int q_kind, .ref now_h]) (by rw [hsh_p1 g11]; rfl) ?_
        refine va_get (D := E.1) (ci := 1) (v := .int q_figure) (C := RX7) (T := TX7) (N := 6) hx hb ht i_X7 hown hK hP 9 rfl rfl 3 (by decide) (ht _ kw_1_118) (fun _ h9 => h9) rfl dX9_comes_54 ?_
        refine lv_iload_n hx hb dX9_comes_57 rfl (lv_at hl 3 rfl) ?_
        obtain ⟨⟨y12, y13, y14, y15, y16⟩, h17, hv⟩ := ob_s hv
        refine wrV (as := [b_h, now_h, now_a0, now_a1, now_a2, now_a3, now_a4, now_a5, sa_h, q_h, q_a0]) (wr := [oBp b_h now_h mind_h kept_h b_img rails_h sa_h, aS E sa_h sh, oSh q_h q_a0 q_holds q_kind q_figure q_sort q_size, ai E q_a0 100 q_elements]) [1, 2, 3, 4, 5, 6, 7] [0, 8, 9, 10] 2 0 (ws := [oBp b_h now_h mind_h kept_h b_img rails_h sa_h, oSt now_h now_a0 now_a1 now_a2 now_a3 now_a4 now_a5 now_moving now_shut now_people now_needed now_day, ai E now_a0 10 now_height, ai E now_a1 7 now_kind, ai E now_a2 7 now_figure, ai E now_a3 7 now_rail, ai E now_a4 7 now_mood, ai E now_a5 7 now_sight, aS E sa_h sh, oSh q_h q_a0 q_holds q_kind q_figure q_sort q_size, ai E q_a0 100 q_elements]) (ws' := [oBp b_h now_h mind_h kept_h b_img rails_h sa_h, oSt now_h now_a0 now_a1 now_a2 now_a3 now_a4 now_a5 now_moving now_shut y12 now_needed now_day, ai E now_a0 10 now_height, ai E now_a1 7 y13, ai E now_a2 7 y14, ai E now_a3 7 y15, ai E now_a4 7 y16, ai E now_a5 7 now_sight, aS E sa_h sh, oSh q_h q_a0 q_holds q_kind q_figure q_sort q_size, ai E q_a0 100 q_elements]) (As := [.int q_kind, .int q_figure, .int p2]) (rest := []) (st1 := []) hC q_X8_admit kw_2_81 (c_X8_admit l E now_h now_a0 now_a1 now_a2 now_a3 now_a4 now_a5 now_height now_kind now_figure now_rail now_mood now_sight now_moving now_shut now_people now_needed now_day q_kind q_figure p2 y12 y13 y14 y15 y16 h17) ⟨rfl, rfl⟩ ⟨Nat.le_of_ble_eq_true rfl, Nat.le_of_ble_eq_true rfl⟩ ⟨Nat.zero_le _, Nat.zero_le _⟩ hP hD hS hA rfl rfl rfl hG (by decide) rfl rfl rfl rfl rfl rfl rfl rfl hl.1 rfl (Nat.le_of_ble_eq_true rfl) dX9_comes_58 rfl (fun H locs hP hD hS => ?_)
        refine lv_aload_n hx hb dX9_comes_61 rfl (lv_at hl 1 rfl) ?_
        refine va_get (D := E.1) (ci := 3) (v := .ref now_h) (C := RX9) (T := TX9) (N := 6) hx hb ht i_X9 hown hK hP 0 rfl rfl 0 (by decide) (ht _ kw_1_138) (fun _ h9 => h9) rfl dX9_comes_62 ?_
        refine va_get (D := E.1) (ci := 2) (v := .int y12) (C := RX8) (T := TX8) (N := 11) hx hb ht i_X8 hown hK hP 1 rfl rfl 8 (by decide) (ht _ kw_1_54) (fun _ h9 => h9) rfl dX9_comes_65 ?_
        refine lv_iconst (v := (1 : Int32)) hx hb dX9_comes_68 (by decide) ?_
        refine lv_isub hx hb dX9_comes_69 ?_
        refine lv_topi (fun z18 ez18 => ?_)
        have hv := nm_s ez18 hv
        cases hv
        exact W.iret hx hb hr (fun t h9 _ => ⟨rfl, by rw [h9]; exact hP, hS.F h9⟩) hS.2.2 dX9_comes_70 hlk
      · have hv := if_y c9 hv
        refine lv_bipush (v := (-2 : Int32)) hx hb dX9_comes_32 (by decide) ?_
        refine lv_topi (fun z19 ez19 => ?_)
        have hv := nm_s ez19 hv
        cases hv
        exact W.iret hx hb hr (fun t h9 _ => ⟨rfl, by rw [h9]; exact hP, hS.F h9⟩) hS.2.2 dX9_comes_34 hlk
    · have hv := if_n c6 hv
      refine lv_iload_n hx hb dX9_comes_20 rfl (lv_at hl 0 rfl) ?_
      cases hv
      exact W.iret hx hb hr (fun t h9 _ => ⟨rfl, by rw [h9]; exact hP, hS.F h9⟩) hS.2.2 dX9_comes_21 hlk
  · have hv := if_y c3 hv
    refine lv_iconst (v := (-1 : Int32)) hx hb dX9_comes_7 (by decide) ?_
    refine lv_topi (fun z20 ez20 => ?_)
    have hv := nm_s ez20 hv
    cases hv
    exact W.iret hx hb hr (fun t h9 _ => ⟨rfl, by rw [h9]; exact hP, hS.F h9⟩) hS.2.2 dX9_comes_8 hlk
theorem dX9_law_0 : decode cX9_law 0 = .ok (.iload_n 2, 1) := by decide +kernel
theorem dX9_law_1 : decode cX9_law 1 = .ok (.iconst 0, 1) := by decide +kernel
theorem dX9_law_2 : decode cX9_law 2 = .ok (.iconst 2, 1) := by decide +kernel
theorem dX9_law_3 : decode cX9_law 3 = .ok (.invokestatic 118, 3) := by decide +kernel
theorem dX9_law_6 : decode cX9_law 6 = .ok (.ifCond .ne 5, 3) := by decide +kernel
theorem dX9_law_9 : decode cX9_law 9 = .ok (.iconst (-1), 1) := by decide +kernel
theorem dX9_law_10 : decode cX9_law 10 = .ok (.ireturn, 1) := by decide +kernel
theorem dX9_law_11 : decode cX9_law 11 = .ok (.aload_n 0, 1) := by decide +kernel
theorem dX9_law_12 : decode cX9_law 12 = .ok (.iload_n 1, 1) := by decide +kernel
theorem dX9_law_13 : decode cX9_law 13 = .ok (.iconst 2, 1) := by decide +kernel
theorem dX9_law_14 : decode cX9_law 14 = .ok (.invokevirtual 40, 3) := by decide +kernel
theorem dX9_law_17 : decode cX9_law 17 = .ok (.istore_n 3, 1) := by decide +kernel
theorem dX9_law_18 : decode cX9_law 18 = .ok (.iload_n 3, 1) := by decide +kernel
theorem dX9_law_19 : decode cX9_law 19 = .ok (.ifCond .eq 5, 3) := by decide +kernel
theorem dX9_law_22 : decode cX9_law 22 = .ok (.iload_n 3, 1) := by decide +kernel
theorem dX9_law_23 : decode cX9_law 23 = .ok (.ireturn, 1) := by decide +kernel
theorem dX9_law_24 : decode cX9_law 24 = .ok (.aload_n 0, 1) := by decide +kernel
theorem dX9_law_25 : decode cX9_law 25 = .ok (.getfield 35, 3) := by decide +kernel
theorem dX9_law_28 : decode cX9_law 28 = .ok (.iload_n 1, 1) := by decide +kernel
theorem dX9_law_29 : decode cX9_law 29 = .ok (.aaload, 1) := by decide +kernel
theorem dX9_law_30 : decode cX9_law 30 = .ok (.aload_n 0, 1) := by decide +kernel
theorem dX9_law_31 : decode cX9_law 31 = .ok (.getfield 12, 3) := by decide +kernel
theorem dX9_law_34 : decode cX9_law 34 = .ok (.invokestatic 230, 3) := by decide +kernel
theorem dX9_law_37 : decode cX9_law 37 = .ok (.ifCond .ne 6, 3) := by decide +kernel
theorem dX9_law_40 : decode cX9_law 40 = .ok (.bipush (-13), 2) := by decide +kernel
theorem dX9_law_42 : decode cX9_law 42 = .ok (.ireturn, 1) := by decide +kernel
theorem dX9_law_43 : decode cX9_law 43 = .ok (.aload_n 0, 1) := by decide +kernel
theorem dX9_law_44 : decode cX9_law 44 = .ok (.getfield 35, 3) := by decide +kernel
theorem dX9_law_47 : decode cX9_law 47 = .ok (.iload_n 1, 1) := by decide +kernel
theorem dX9_law_48 : decode cX9_law 48 = .ok (.aaload, 1) := by decide +kernel
theorem dX9_law_49 : decode cX9_law 49 = .ok (.aload_n 0, 1) := by decide +kernel
theorem dX9_law_50 : decode cX9_law 50 = .ok (.getfield 12, 3) := by decide +kernel
theorem dX9_law_53 : decode cX9_law 53 = .ok (.invokestatic 236, 3) := by decide +kernel
theorem dX9_law_56 : decode cX9_law 56 = .ok (.istore 4, 2) := by decide +kernel
theorem dX9_law_58 : decode cX9_law 58 = .ok (.aload_n 0, 1) := by decide +kernel
theorem dX9_law_59 : decode cX9_law 59 = .ok (.getfield 35, 3) := by decide +kernel
theorem dX9_law_62 : decode cX9_law 62 = .ok (.iload_n 1, 1) := by decide +kernel
theorem dX9_law_63 : decode cX9_law 63 = .ok (.aaload, 1) := by decide +kernel
theorem dX9_law_64 : decode cX9_law 64 = .ok (.aload_n 0, 1) := by decide +kernel
theorem dX9_law_65 : decode cX9_law 65 = .ok (.getfield 12, 3) := by decide +kernel
theorem dX9_law_68 : decode cX9_law 68 = .ok (.invokestatic 239, 3) := by decide +kernel
theorem dX9_law_71 : decode cX9_law 71 = .ok (.istore 5, 2) := by decide +kernel
theorem dX9_law_73 : decode cX9_law 73 = .ok (.iload_n 2, 1) := by decide +kernel
theorem dX9_law_74 : decode cX9_law 74 = .ok (.ifCond .ne 15, 3) := by decide +kernel
theorem dX9_law_77 : decode cX9_law 77 = .ok (.iconst 0, 1) := by decide +kernel
theorem dX9_law_78 : decode cX9_law 78 = .ok (.iload 5, 2) := by decide +kernel
theorem dX9_law_80 : decode cX9_law 80 = .ok (.iload 4, 2) := by decide +kernel
theorem dX9_law_82 : decode cX9_law 82 = .ok (.isub, 1) := by decide +kernel
theorem dX9_law_83 : decode cX9_law 83 = .ok (.iconst 1, 1) := by decide +kernel
theorem dX9_law_84 : decode cX9_law 84 = .ok (.iadd, 1) := by decide +kernel
theorem dX9_law_85 : decode cX9_law 85 = .ok (.invokestatic 146, 3) := by decide +kernel
theorem dX9_law_88 : decode cX9_law 88 = .ok (.ireturn, 1) := by decide +kernel
theorem dX9_law_89 : decode cX9_law 89 = .ok (.iload 4, 2) := by decide +kernel
theorem dX9_law_91 : decode cX9_law 91 = .ok (.iload 5, 2) := by decide +kernel
theorem dX9_law_93 : decode cX9_law 93 = .ok (.if_icmp .le 6, 3) := by decide +kernel
theorem dX9_law_96 : decode cX9_law 96 = .ok (.bipush (-4), 2) := by decide +kernel
theorem dX9_law_98 : decode cX9_law 98 = .ok (.ireturn, 1) := by decide +kernel
theorem dX9_law_99 : decode cX9_law 99 = .ok (.iload_n 2, 1) := by decide +kernel
theorem dX9_law_100 : decode cX9_law 100 = .ok (.iconst 1, 1) := by decide +kernel
theorem dX9_law_101 : decode cX9_law 101 = .ok (.if_icmp .ne 8, 3) := by decide +kernel
theorem dX9_law_104 : decode cX9_law 104 = .ok (.iload 4, 2) := by decide +kernel
theorem dX9_law_106 : decode cX9_law 106 = .ok (.goto 5, 3) := by decide +kernel
theorem dX9_law_109 : decode cX9_law 109 = .ok (.iload 5, 2) := by decide +kernel
theorem dX9_law_111 : decode cX9_law 111 = .ok (.ireturn, 1) := by decide +kernel
def f_X9_law (N : Nat) (now_height : Nat → Int32) (now_kind : Nat → Int32) (now_figure : Nat → Int32) (now_rail : Nat → Int32) (now_shut : Int32) (now_people : Int32) (q_elements : Nat → Int32) (q_holds : Int32) (q_size : Int32) (p1 : Int32) (p2 : Int32) : Option (Int32) := ob (f_X9_isWithin p2 (0 : Int32) (2 : Int32)) (fun r1 => if r1 = 0 then some (-1 : Int32) else ob (f_X9_refusalOf q_holds p1 (2 : Int32)) (fun r4 => if r4 = 0 then gd (ix p1 8) (ob (f_X4_isTold N q_elements q_size now_people) (fun r8 => if r8 = 0 then some (-13 : Int32) else gd (ix p1 8) (ob (f_X4_leastQuota N q_elements q_size now_height now_kind now_figure now_rail now_shut now_people) (fun r12 => gd (ix p1 8) (ob (f_X4_greatestQuota N q_elements q_size now_height now_kind now_figure now_rail now_shut now_people) (fun r15 => if p2 = 0 then some (if (0 : Int32) < ((r15 - r12) + (1 : Int32)) then ((r15 - r12) + (1 : Int32)) else (0 : Int32)) else if r12 ≤ r15 then if p2 = (1 : Int32) then some r12 else some r15 else some (-4 : Int32))))))) else some r4))
set_option maxHeartbeats 4000000 in
set_option maxRecDepth 100000 in
theorem c_X9_law (l : Launch) (E : EE) (b_h : Nat) (now_h : Nat) (mind_h : Nat) (kept_h : Nat) (rails_h : Nat) (sa_h : Nat) (now_a0 : Nat) (now_a1 : Nat) (now_a2 : Nat) (now_a3 : Nat) (now_a4 : Nat) (now_a5 : Nat) (q_h : Nat) (q_a0 : Nat) (b_img : Int32) (now_height : Nat → Int32) (now_kind : Nat → Int32) (now_figure : Nat → Int32) (now_rail : Nat → Int32) (now_mood : Nat → Int32) (now_sight : Nat → Int32) (now_moving : Int32) (now_shut : Int32) (now_people : Int32) (now_needed : Int32) (now_day : Int32) (sh : Nat → Option Nat) (q_elements : Nat → Int32) (q_holds : Int32) (q_kind : Int32) (q_figure : Int32) (q_sort : Int32) (q_size : Int32) (p1 : Int32) (p2 : Int32) (N : Nat) (res : Int32) (hsh_p1 : ix p1 8 = true → sh p1.toNatClampNeg = some q_h) (hv : f_X9_law N now_height now_kind now_figure now_rail now_shut now_people q_elements q_holds q_size p1 p2 = some res) : Rd l E yX9_law cX9_law 6 (some .int) ({ frames := 4, cells := 0, slots := 0, locals := 92 }) [.ref b_h, .int p1, .int p2] [oBp b_h now_h mind_h kept_h b_img rails_h sa_h, oSt now_h now_a0 now_a1 now_a2 now_a3 now_a4 now_a5 now_moving now_shut now_people now_needed now_day, ai E now_a0 10 now_height, ai E now_a1 7 now_kind, ai E now_a2 7 now_figure, ai E now_a3 7 now_rail, ai E now_a4 7 now_mood, ai E now_a5 7 now_sight, aS E sa_h sh, oSh q_h q_a0 q_holds q_kind q_figure q_sort q_size, ai E q_a0 100 q_elements] (some (.int res)) := by
  refine Rd.intro RX9 (by decide) rfl (Nat.le_of_ble_eq_true rfl) ?_
  intro p e s m below meth c ls hC hr hlk hP hG hl
  obtain ⟨hx, hb, hml, hown, ht⟩ := id hC
  have hK := hG.1
  have hl : lv_has ls 6 [(0, .ref b_h), (1, .int p1), (2, .int p2)] := hl
  rw [f_X9_law] at hv
  refine lv_iload_n hx hb dX9_law_0 rfl (lv_at hl 2 rfl) ?_
  refine lv_iconst (v := (0 : Int32)) hx hb dX9_law_1 (by decide) ?_
  refine lv_iconst (v := (2 : Int32)) hx hb dX9_law_2 (by decide) ?_
  obtain ⟨r1, h2, hv⟩ := ob_s hv
  refine rdS (rest := []) (st1 := [.int r1]) (w := []) hC q_X9_isWithin kw_1_168 (c_X9_isWithin l E p2 (0 : Int32) (2 : Int32) r1 h2) ⟨rfl, rfl⟩ ⟨Nat.le_of_ble_eq_true rfl, Nat.le_of_ble_eq_true rfl⟩ ⟨Nat.zero_le _, Nat.zero_le _⟩ (hP.sub (ws' := []) [] rfl) hG rfl hl.1 rfl (Nat.le_of_ble_eq_true rfl) dX9_law_3 rfl ?_
  refine lv_if_ne (tgt := 11) hx hb dX9_law_6 (by decide) (fun c3 => ?_) (fun c3 => ?_)
  · have hv := if_n c3 hv
    refine lv_aload_n hx hb dX9_law_11 rfl (lv_at hl 0 rfl) ?_
    refine lv_iload_n hx hb dX9_law_12 rfl (lv_at hl 1 rfl) ?_
    refine lv_iconst (v := (2 : Int32)) hx hb dX9_law_13 (by decide) ?_
    obtain ⟨r4, h5, hv⟩ := ob_s hv
    refine rdV 3 0 (As := [.int p1, .int (2 : Int32)]) (rest := []) (st1 := [.int r4]) (w := [oBp b_h now_h mind_h kept_h b_img rails_h sa_h, aS E sa_h sh, oSh q_h q_a0 q_holds q_kind q_figure q_sort q_size, ai E q_a0 100 q_elements]) hC q_X9_refusalOf kw_1_161 (c_X9_refusalOf l E b_h now_h mind_h kept_h rails_h sa_h q_h q_a0 b_img sh q_elements q_holds q_kind q_figure q_sort q_size p1 (2 : Int32) r4 hsh_p1 h5) ⟨rfl, rfl⟩ ⟨Nat.le_of_ble_eq_true rfl, Nat.le_of_ble_eq_true rfl⟩ ⟨Nat.zero_le _, Nat.zero_le _⟩ (hP.sub (ws' := [oBp b_h now_h mind_h kept_h b_img rails_h sa_h, aS E sa_h sh, oSh q_h q_a0 q_holds q_kind q_figure q_sort q_size, ai E q_a0 100 q_elements]) [0, 8, 9, 10] rfl) rfl rfl rfl hG rfl hl.1 rfl (Nat.le_of_ble_eq_true rfl) dX9_law_14 rfl ?_
    refine lv_istore_n (lv' := [(3, .int r4), (0, .ref b_h), (1, .int p1), (2, .int p2)]) hx hb dX9_law_17 rfl hl (by decide) rfl (fun ls hl => ?_)
    refine lv_iload_n hx hb dX9_law_18 rfl (lv_at hl 0 rfl) ?_
    refine lv_if_eq (tgt := 24) hx hb dX9_law_19 (by decide) (fun c6 => ?_) (fun c6 => ?_)
    · have hv := if_y c6 hv
      refine lv_aload_n hx hb dX9_law_24 rfl (lv_at hl 1 rfl) ?_
      refine va_get (D := E.1) (ci := 3) (v := .ref sa_h) (C := RX9) (T := TX9) (N := 6) hx hb ht i_X9 hown hK hP 0 rfl rfl 5 (by decide) (ht _ kw_1_143) (fun _ h9 => h9) rfl dX9_law_25 ?_
      refine lv_iload_n hx hb dX9_law_28 rfl (lv_at hl 2 rfl) ?_
      obtain ⟨g7, hv⟩ := gd_s hv
      refine va_aldq (C := "BalconiesParliament$Shelf") hx hb hK hP 8 1 rfl rfl (ix_s g7) dX9_law_29 ?_
      refine W.eq (g2 := F0 m 30 ls [.ref q_h]) (by rw [hsh_p1 g7]; rfl) ?_
      refine lv_aload_n hx hb dX9_law_30 rfl (lv_at hl 1 rfl) ?_
      refine va_get (D := E.1) (ci := 3) (v := .ref now_h) (C := RX9) (T := TX9) (N := 6) hx hb ht i_X9 hown hK hP 0 rfl rfl 0 (by decide) (ht _ kw_1_138) (fun _ h9 => h9) rfl dX9_law_31 ?_
      obtain ⟨r8, h9, hv⟩ := ob_s hv
      refine rdS (rest := []) (st1 := [.int r8]) (w := [oSh q_h q_a0 q_holds q_kind q_figure q_sort q_size, ai E q_a0 100 q_elements, oSt now_h now_a0 now_a1 now_a2 now_a3 now_a4 now_a5 now_moving now_shut now_people now_needed now_day, ai E now_a0 10 now_height, ai E now_a1 7 now_kind, ai E now_a2 7 now_figure, ai E now_a3 7 now_rail, ai E now_a4 7 now_mood, ai E now_a5 7 now_sight]) hC q_X4_isTold kw_3_94 (c_X4_isTold l E q_h q_a0 now_h now_a0 now_a1 now_a2 now_a3 now_a4 now_a5 q_elements q_holds q_kind q_figure q_sort q_size now_height now_kind now_figure now_rail now_mood now_sight now_moving now_shut now_people now_needed now_day N r8 h9) ⟨rfl, rfl⟩ ⟨Nat.le_of_ble_eq_true rfl, Nat.le_of_ble_eq_true rfl⟩ ⟨Nat.zero_le _, Nat.zero_le _⟩ (hP.sub (ws' := [oSh q_h q_a0 q_holds q_kind q_figure q_sort q_size, ai E q_a0 100 q_elements, oSt now_h now_a0 now_a1 now_a2 now_a3 now_a4 now_a5 now_moving now_shut now_people now_needed now_day, ai E now_a0 10 now_height, ai E now_a1 7 now_kind, ai E now_a2 7 now_figure, ai E now_a3 7 now_rail, ai E now_a4 7 now_mood, ai E now_a5 7 now_sight]) [9, 10, 1, 2, 3, 4, 5, 6, 7] rfl) hG rfl hl.1 rfl (Nat.le_of_ble_eq_true rfl) dX9_law_34 rfl ?_
      refine lv_if_ne (tgt := 43) hx hb dX9_law_37 (by decide) (fun c10 => ?_) (fun c10 => ?_)
      · have hv := if_n c10 hv
        refine lv_aload_n hx hb dX9_law_43 rfl (lv_at hl 1 rfl) ?_
        refine va_get (D := E.1) (ci := 3) (v := .ref sa_h) (C := RX9) (T := TX9) (N := 6) hx hb ht i_X9 hown hK hP 0 rfl rfl 5 (by decide) (ht _ kw_1_143) (fun _ h9 => h9) rfl dX9_law_44 ?_
        refine lv_iload_n hx hb dX9_law_47 rfl (lv_at hl 2 rfl) ?_
        obtain ⟨g11, hv⟩ := gd_s hv
        refine va_aldq (C := "BalconiesParliament$Shelf") hx hb hK hP 8 1 rfl rfl (ix_s g11) dX9_law_48 ?_
        refine W.eq (g2 := F0 m 49 ls [.ref q_h]) (by rw [hsh_p1 g11]; rfl) ?_
        refine lv_aload_n hx hb dX9_law_49 rfl (lv_at hl 1 rfl) ?_
        refine va_get (D := E.1) (ci := 3) (v := .ref now_h) (C := RX9) (T := TX9) (N := 6) hx hb ht i_X9 hown hK hP 0 rfl rfl 0 (by decide) (ht _ kw_1_138) (fun _ h9 => h9) rfl dX9_law_50 ?_
        obtain ⟨r12, h13, hv⟩ := ob_s hv
        refine rdS (rest := []) (st1 := [.int r12]) (w := [oSh q_h q_a0 q_holds q_kind q_figure q_sort q_size, ai E q_a0 100 q_elements, oSt now_h now_a0 now_a1 now_a2 now_a3 now_a4 now_a5 now_moving now_shut now_people now_needed now_day, ai E now_a0 10 now_height, ai E now_a1 7 now_kind, ai E now_a2 7 now_figure, ai E now_a3 7 now_rail, ai E now_a4 7 now_mood, ai E now_a5 7 now_sight]) hC q_X4_leastQuota kw_3_100 (c_X4_leastQuota l E q_h q_a0 now_h now_a0 now_a1 now_a2 now_a3 now_a4 now_a5 q_elements q_holds q_kind q_figure q_sort q_size now_height now_kind now_figure now_rail now_mood now_sight now_moving now_shut now_people now_needed now_day N r12 h13) ⟨rfl, rfl⟩ ⟨Nat.le_of_ble_eq_true rfl, Nat.le_of_ble_eq_true rfl⟩ ⟨Nat.zero_le _, Nat.zero_le _⟩ (hP.sub (ws' := [oSh q_h q_a0 q_holds q_kind q_figure q_sort q_size, ai E q_a0 100 q_elements, oSt now_h now_a0 now_a1 now_a2 now_a3 now_a4 now_a5 now_moving now_shut now_people now_needed now_day, ai E now_a0 10 now_height, ai E now_a1 7 now_kind, ai E now_a2 7 now_figure, ai E now_a3 7 now_rail, ai E now_a4 7 now_mood, ai E now_a5 7 now_sight]) [9, 10, 1, 2, 3, 4, 5, 6, 7] rfl) hG rfl hl.1 rfl (Nat.le_of_ble_eq_true rfl) dX9_law_53 rfl ?_
        refine lv_istore (lv' := [(4, .int r12), (3, .int r4), (0, .ref b_h), (1, .int p1), (2, .int p2)]) hx hb dX9_law_56 hl (by decide) rfl (fun ls hl => ?_)
        refine lv_aload_n hx hb dX9_law_58 rfl (lv_at hl 2 rfl) ?_
        refine va_get (D := E.1) (ci := 3) (v := .ref sa_h) (C := RX9) (T := TX9) (N := 6) hx hb ht i_X9 hown hK hP 0 rfl rfl 5 (by decide) (ht _ kw_1_143) (fun _ h9 => h9) rfl dX9_law_59 ?_
        refine lv_iload_n hx hb dX9_law_62 rfl (lv_at hl 3 rfl) ?_
        obtain ⟨g14, hv⟩ := gd_s hv
        refine va_aldq (C := "BalconiesParliament$Shelf") hx hb hK hP 8 1 rfl rfl (ix_s g14) dX9_law_63 ?_
        refine W.eq (g2 := F0 m 64 ls [.ref q_h]) (by rw [hsh_p1 g14]; rfl) ?_
        refine lv_aload_n hx hb dX9_law_64 rfl (lv_at hl 2 rfl) ?_
        refine va_get (D := E.1) (ci := 3) (v := .ref now_h) (C := RX9) (T := TX9) (N := 6) hx hb ht i_X9 hown hK hP 0 rfl rfl 0 (by decide) (ht _ kw_1_138) (fun _ h9 => h9) rfl dX9_law_65 ?_
        obtain ⟨r15, h16, hv⟩ := ob_s hv
        refine rdS (rest := []) (st1 := [.int r15]) (w := [oSh q_h q_a0 q_holds q_kind q_figure q_sort q_size, ai E q_a0 100 q_elements, oSt now_h now_a0 now_a1 now_a2 now_a3 now_a4 now_a5 now_moving now_shut now_people now_needed now_day, ai E now_a0 10 now_height, ai E now_a1 7 now_kind, ai E now_a2 7 now_figure, ai E now_a3 7 now_rail, ai E now_a4 7 now_mood, ai E now_a5 7 now_sight]) hC q_X4_greatestQuota kw_3_107 (c_X4_greatestQuota l E q_h q_a0 now_h now_a0 now_a1 now_a2 now_a3 now_a4 now_a5 q_elements q_holds q_kind q_figure q_sort q_size now_height now_kind now_figure now_rail now_mood now_sight now_moving now_shut now_people now_needed now_day N r15 h16) ⟨rfl, rfl⟩ ⟨Nat.le_of_ble_eq_true rfl, Nat.le_of_ble_eq_true rfl⟩ ⟨Nat.zero_le _, Nat.zero_le _⟩ (hP.sub (ws' := [oSh q_h q_a0 q_holds q_kind q_figure q_sort q_size, ai E q_a0 100 q_elements, oSt now_h now_a0 now_a1 now_a2 now_a3 now_a4 now_a5 now_moving now_shut now_people now_needed now_day, ai E now_a0 10 now_height, ai E now_a1 7 now_kind, ai E now_a2 7 now_figure, ai E now_a3 7 now_rail, ai E now_a4 7 now_mood, ai E now_a5 7 now_sight]) [9, 10, 1, 2, 3, 4, 5, 6, 7] rfl) hG rfl hl.1 rfl (Nat.le_of_ble_eq_true rfl) dX9_law_68 rfl ?_
        refine lv_istore (lv' := [(5, .int r15), (4, .int r12), (3, .int r4), (0, .ref b_h), (1, .int p1), (2, .int p2)]) hx hb dX9_law_71 hl (by decide) rfl (fun ls hl => ?_)
        refine lv_iload_n hx hb dX9_law_73 rfl (lv_at hl 5 rfl) ?_
        refine lv_if_ne (tgt := 89) hx hb dX9_law_74 (by decide) (fun c17 => ?_) (fun c17 => ?_)
        · have hv := if_n c17 hv
          refine lv_iload hx hb dX9_law_89 (lv_at hl 1 rfl) ?_
          refine lv_iload hx hb dX9_law_91 (lv_at hl 0 rfl) ?_
          refine lv_icmp_le (tgt := 99) hx hb dX9_law_93 (by decide) (fun c18 => ?_) (fun c18 => ?_)
          · have hv := if_y c18 hv
            refine lv_iload_n hx hb dX9_law_99 rfl (lv_at hl 5 rfl) ?_
            refine lv_iconst (v := (1 : Int32)) hx hb dX9_law_100 (by decide) ?_
            refine lv_icmp_ne (tgt := 109) hx hb dX9_law_101 (by decide) (fun c19 => ?_) (fun c19 => ?_)
            · have hv := if_n c19 hv
              refine lv_iload hx hb dX9_law_109 (lv_at hl 0 rfl) ?_
              exact W.iret (v := r15) hx hb hr (fun t h9 _ => ⟨rv_i hv, h9⟩) (fun q h => absurd h List.not_mem_nil) dX9_law_111 hlk
            · have hv := if_y c19 hv
              refine lv_iload hx hb dX9_law_104 (lv_at hl 1 rfl) ?_
              refine lv_goto (tgt := 111) hx hb dX9_law_106 (by decide) ?_
              exact W.iret (v := r12) hx hb hr (fun t h9 _ => ⟨rv_i hv, h9⟩) (fun q h => absurd h List.not_mem_nil) dX9_law_111 hlk
          · have hv := if_n c18 hv
            refine lv_bipush (v := (-4 : Int32)) hx hb dX9_law_96 (by decide) ?_
            exact W.iret (v := (-4 : Int32)) hx hb hr (fun t h9 _ => ⟨rv_i hv, h9⟩) (fun q h => absurd h List.not_mem_nil) dX9_law_98 hlk
        · have hv := if_y c17 hv
          refine lv_iconst (v := (0 : Int32)) hx hb dX9_law_77 (by decide) ?_
          refine lv_iload hx hb dX9_law_78 (lv_at hl 0 rfl) ?_
          refine lv_iload hx hb dX9_law_80 (lv_at hl 1 rfl) ?_
          refine lv_isub hx hb dX9_law_82 ?_
          refine lv_iconst (v := (1 : Int32)) hx hb dX9_law_83 (by decide) ?_
          refine lv_iadd hx hb dX9_law_84 ?_
          refine va_mmax hx hb (by rw [hml]; exact hl.1.symm) hown (ht _ kw_2_151) (ht _ kw_2_44) (ht _ kw_1_8) (ht _ kw_2_45) (Nat.le_of_ble_eq_true rfl) (Nat.le_of_ble_eq_true rfl) (Nat.zero_le _) (Nat.zero_le _) dX9_law_85 ?_
          exact W.iret (v := (if (0 : Int32) < ((r15 - r12) + (1 : Int32)) then ((r15 - r12) + (1 : Int32)) else (0 : Int32))) hx hb hr (fun t h9 _ => ⟨rv_i hv, h9⟩) (fun q h => absurd h List.not_mem_nil) dX9_law_88 hlk
      · have hv := if_y c10 hv
        refine lv_bipush (v := (-13 : Int32)) hx hb dX9_law_40 (by decide) ?_
        exact W.iret (v := (-13 : Int32)) hx hb hr (fun t h9 _ => ⟨rv_i hv, h9⟩) (fun q h => absurd h List.not_mem_nil) dX9_law_42 hlk
    · have hv := if_n c6 hv
      refine lv_iload_n hx hb dX9_law_22 rfl (lv_at hl 0 rfl) ?_
      exact W.iret (v := r4) hx hb hr (fun t h9 _ => ⟨rv_i hv, h9⟩) (fun q h => absurd h List.not_mem_nil) dX9_law_23 hlk
  · have hv := if_y c3 hv
    refine lv_iconst (v := (-1 : Int32)) hx hb dX9_law_9 (by decide) ?_
    exact W.iret (v := (-1 : Int32)) hx hb hr (fun t h9 _ => ⟨rv_i hv, h9⟩) (fun q h => absurd h List.not_mem_nil) dX9_law_10 hlk
theorem dX9_feelsAsTold_0 : decode cX9_feelsAsTold 0 = .ok (.aload_n 0, 1) := by decide +kernel
theorem dX9_feelsAsTold_1 : decode cX9_feelsAsTold 1 = .ok (.getfield 16, 3) := by decide +kernel
theorem dX9_feelsAsTold_4 : decode cX9_feelsAsTold 4 = .ok (.invokevirtual 157, 3) := by decide +kernel
theorem dX9_feelsAsTold_7 : decode cX9_feelsAsTold 7 = .ok (.iconst 0, 1) := by decide +kernel
theorem dX9_feelsAsTold_8 : decode cX9_feelsAsTold 8 = .ok (.istore_n 3, 1) := by decide +kernel
theorem dX9_feelsAsTold_9 : decode cX9_feelsAsTold 9 = .ok (.iload_n 3, 1) := by decide +kernel
theorem dX9_feelsAsTold_10 : decode cX9_feelsAsTold 10 = .ok (.aload_n 1, 1) := by decide +kernel
theorem dX9_feelsAsTold_11 : decode cX9_feelsAsTold 11 = .ok (.getfield 259, 3) := by decide +kernel
theorem dX9_feelsAsTold_14 : decode cX9_feelsAsTold 14 = .ok (.if_icmp .ge 48, 3) := by decide +kernel
theorem dX9_feelsAsTold_17 : decode cX9_feelsAsTold 17 = .ok (.iload_n 3, 1) := by decide +kernel
theorem dX9_feelsAsTold_18 : decode cX9_feelsAsTold 18 = .ok (.ifCond .le 11, 3) := by decide +kernel
theorem dX9_feelsAsTold_21 : decode cX9_feelsAsTold 21 = .ok (.aload_n 0, 1) := by decide +kernel
theorem dX9_feelsAsTold_22 : decode cX9_feelsAsTold 22 = .ok (.getfield 16, 3) := by decide +kernel
theorem dX9_feelsAsTold_25 : decode cX9_feelsAsTold 25 = .ok (.invokevirtual 160, 3) := by decide +kernel
theorem dX9_feelsAsTold_28 : decode cX9_feelsAsTold 28 = .ok (.pop, 1) := by decide +kernel
theorem dX9_feelsAsTold_29 : decode cX9_feelsAsTold 29 = .ok (.aload_n 1, 1) := by decide +kernel
theorem dX9_feelsAsTold_30 : decode cX9_feelsAsTold 30 = .ok (.iload_n 3, 1) := by decide +kernel
theorem dX9_feelsAsTold_31 : decode cX9_feelsAsTold 31 = .ok (.invokevirtual 265, 3) := by decide +kernel
theorem dX9_feelsAsTold_34 : decode cX9_feelsAsTold 34 = .ok (.ifCond .ne 22, 3) := by decide +kernel
theorem dX9_feelsAsTold_37 : decode cX9_feelsAsTold 37 = .ok (.aload_n 1, 1) := by decide +kernel
theorem dX9_feelsAsTold_38 : decode cX9_feelsAsTold 38 = .ok (.iload_n 3, 1) := by decide +kernel
theorem dX9_feelsAsTold_39 : decode cX9_feelsAsTold 39 = .ok (.invokevirtual 262, 3) := by decide +kernel
theorem dX9_feelsAsTold_42 : decode cX9_feelsAsTold 42 = .ok (.aload_n 0, 1) := by decide +kernel
theorem dX9_feelsAsTold_43 : decode cX9_feelsAsTold 43 = .ok (.getfield 16, 3) := by decide +kernel
theorem dX9_feelsAsTold_46 : decode cX9_feelsAsTold 46 = .ok (.getfield 72, 3) := by decide +kernel
theorem dX9_feelsAsTold_49 : decode cX9_feelsAsTold 49 = .ok (.iload_n 2, 1) := by decide +kernel
theorem dX9_feelsAsTold_50 : decode cX9_feelsAsTold 50 = .ok (.iaload, 1) := by decide +kernel
theorem dX9_feelsAsTold_51 : decode cX9_feelsAsTold 51 = .ok (.if_icmp .eq 5, 3) := by decide +kernel
theorem dX9_feelsAsTold_54 : decode cX9_feelsAsTold 54 = .ok (.iconst 0, 1) := by decide +kernel
theorem dX9_feelsAsTold_55 : decode cX9_feelsAsTold 55 = .ok (.ireturn, 1) := by decide +kernel
theorem dX9_feelsAsTold_56 : decode cX9_feelsAsTold 56 = .ok (.iinc 3 1, 3) := by decide +kernel
theorem dX9_feelsAsTold_59 : decode cX9_feelsAsTold 59 = .ok (.goto (-50), 3) := by decide +kernel
theorem dX9_feelsAsTold_62 : decode cX9_feelsAsTold 62 = .ok (.iconst 1, 1) := by decide +kernel
theorem dX9_feelsAsTold_63 : decode cX9_feelsAsTold 63 = .ok (.ireturn, 1) := by decide +kernel
def L_X9_feelsAsTold_9 (N : Nat) (mind_kind : Nat → Int32) (mind_figure : Nat → Int32) (mind_people : Int32) (q_elements : Nat → Int32) (q_sort : Int32) (q_size : Int32) (p2 : Int32) (y2 : Nat → Int32) : Nat → Int32 → Int32 → Int32 → (Nat → Int32) → Option (Int32 × Int32 × Int32 × (Nat → Int32) × (Nat → Int32))
  | 0, _, _, _, _ => none
  | n9 + 1, x4, y5, y6, y7 => if q_size ≤ x4 then nm (1 : Int32) (fun z9 => some (z9, y5, y6, y7, y2)) else if x4 ≤ 0 then ob (f_X7_isSkipped q_elements q_sort q_size x4) (fun r11 => if r11 = 0 then ob (f_X7_at q_elements q_size x4) (fun r14 => gd (ix p2 7) (if r14 = (y7 p2.toNatClampNeg) then L_X9_feelsAsTold_9 N mind_kind mind_figure mind_people q_elements q_sort q_size p2 y2 n9 (x4 + (1 : Int32)) y5 y6 y7 else nm (0 : Int32) (fun z18 => some (z18, y5, y6, y7, y2)))) else L_X9_feelsAsTold_9 N mind_kind mind_figure mind_people q_elements q_sort q_size p2 y2 n9 (x4 + (1 : Int32)) y5 y6 y7) else ob (f_X8_nextDay N mind_kind mind_figure y7 y2 y5 mind_people y6) (fun (r19, y20, y21, y22) => ob (f_X7_isSkipped q_elements q_sort q_size x4) (fun r24 => if r24 = 0 then ob (f_X7_at q_elements q_size x4) (fun r27 => gd (ix p2 7) (if r27 = (y22 p2.toNatClampNeg) then L_X9_feelsAsTold_9 N mind_kind mind_figure mind_people q_elements q_sort q_size p2 y2 n9 (x4 + (1 : Int32)) y20 y21 y22 else nm (0 : Int32) (fun z31 => some (z31, y20, y21, y22, y2)))) else L_X9_feelsAsTold_9 N mind_kind mind_figure mind_people q_elements q_sort q_size p2 y2 n9 (x4 + (1 : Int32)) y20 y21 y22))
def f_X9_feelsAsTold (N : Nat) (mind_height : Nat → Int32) (mind_kind : Nat → Int32) (mind_figure : Nat → Int32) (mind_rail : Nat → Int32) (mind_mood : Nat → Int32) (mind_sight : Nat → Int32) (mind_shut : Int32) (mind_people : Int32) (mind_day : Int32) (q_elements : Nat → Int32) (q_sort : Int32) (q_size : Int32) (p2 : Int32) : Option (Int32 × Int32 × Int32 × (Nat → Int32) × (Nat → Int32)) := ob (f_X8_startDays N mind_height mind_rail mind_sight mind_shut mind_people) (fun (y1, y2) => L_X9_feelsAsTold_9 N mind_kind mind_figure mind_people q_elements q_sort q_size p2 y2 N (0 : Int32) y1 mind_day mind_mood)
set_option maxHeartbeats 4000000 in
set_option maxRecDepth 100000 in
theorem c_X9_feelsAsTold (l : Launch) (E : EE) (b_h : Nat) (now_h : Nat) (mind_h : Nat) (kept_h : Nat) (rails_h : Nat) (sa_h : Nat) (mind_a0 : Nat) (mind_a1 : Nat) (mind_a2 : Nat) (mind_a3 : Nat) (mind_a4 : Nat) (mind_a5 : Nat) (q_h : Nat) (q_a0 : Nat) (b_img : Int32) (mind_height : Nat → Int32) (mind_kind : Nat → Int32) (mind_figure : Nat → Int32) (mind_rail : Nat → Int32) (mind_mood : Nat → Int32) (mind_sight : Nat → Int32) (mind_moving : Int32) (mind_shut : Int32) (mind_people : Int32) (mind_needed : Int32) (mind_day : Int32) (q_elements : Nat → Int32) (q_holds : Int32) (q_kind : Int32) (q_figure : Int32) (q_sort : Int32) (q_size : Int32) (p2 : Int32) (N : Nat) (res : Int32) (w_mind_moving : Int32) (w_mind_day : Int32) (w_mind_mood : Nat → Int32) (w_mind_sight : Nat → Int32) (hv : f_X9_feelsAsTold N mind_height mind_kind mind_figure mind_rail mind_mood mind_sight mind_shut mind_people mind_day q_elements q_sort q_size p2 = some (res, w_mind_moving, w_mind_day, w_mind_mood, w_mind_sight)) : Wr l E yX9_feelsAsTold cX9_feelsAsTold 4 (some .boolean) ({ frames := 3, cells := 0, slots := 0, locals := 67 }) [.ref b_h, .ref q_h, .int p2] [oBp b_h now_h mind_h kept_h b_img rails_h sa_h, oSt mind_h mind_a0 mind_a1 mind_a2 mind_a3 mind_a4 mind_a5 mind_moving mind_shut mind_people mind_needed mind_day, ai E mind_a0 10 mind_height, ai E mind_a1 7 mind_kind, ai E mind_a2 7 mind_figure, ai E mind_a3 7 mind_rail, ai E mind_a4 7 mind_mood, ai E mind_a5 7 mind_sight, oSh q_h q_a0 q_holds q_kind q_figure q_sort q_size, ai E q_a0 100 q_elements] [oBp b_h now_h mind_h kept_h b_img rails_h sa_h, oSt mind_h mind_a0 mind_a1 mind_a2 mind_a3 mind_a4 mind_a5 w_mind_moving mind_shut mind_people mind_needed w_mind_day, ai E mind_a0 10 mind_height, ai E mind_a1 7 mind_kind, ai E mind_a2 7 mind_figure, ai E mind_a3 7 mind_rail, ai E mind_a4 7 w_mind_mood, ai E mind_a5 7 w_mind_sight, oSh q_h q_a0 q_holds q_kind q_figure q_sort q_size, ai E q_a0 100 q_elements] (some (.int res)) := by
  refine Wr.intro RX9 (by decide) rfl (Nat.le_of_ble_eq_true rfl) ?_
  intro p e s m below meth c ls A hC hr hlk hmn hP hD hS hA hG hl
  obtain ⟨hx, hb, hml, hown, ht⟩ := id hC
  have hK := hG.1
  have hl : lv_has ls 4 [(0, .ref b_h), (1, .ref q_h), (2, .int p2)] := hl
  rw [f_X9_feelsAsTold] at hv
  refine lv_aload_n hx hb dX9_feelsAsTold_0 rfl (lv_at hl 0 rfl) ?_
  refine va_get (D := E.1) (ci := 3) (v := .ref mind_h) (C := RX9) (T := TX9) (N := 6) hx hb ht i_X9 hown hK hP 0 rfl rfl 1 (by decide) (ht _ kw_1_139) (fun _ h9 => h9) rfl dX9_feelsAsTold_1 ?_
  obtain ⟨⟨y1, y2⟩, h3, hv⟩ := ob_s hv
  refine wrV (as := [b_h, mind_h, mind_a0, mind_a1, mind_a2, mind_a3, mind_a4, mind_a5, q_h, q_a0]) (wr := [oBp b_h now_h mind_h kept_h b_img rails_h sa_h, oSh q_h q_a0 q_holds q_kind q_figure q_sort q_size, ai E q_a0 100 q_elements]) [1, 2, 3, 4, 5, 6, 7] [0, 8, 9] 2 0 (ws := [oBp b_h now_h mind_h kept_h b_img rails_h sa_h, oSt mind_h mind_a0 mind_a1 mind_a2 mind_a3 mind_a4 mind_a5 mind_moving mind_shut mind_people mind_needed mind_day, ai E mind_a0 10 mind_height, ai E mind_a1 7 mind_kind, ai E mind_a2 7 mind_figure, ai E mind_a3 7 mind_rail, ai E mind_a4 7 mind_mood, ai E mind_a5 7 mind_sight, oSh q_h q_a0 q_holds q_kind q_figure q_sort q_size, ai E q_a0 100 q_elements]) (ws' := [oBp b_h now_h mind_h kept_h b_img rails_h sa_h, oSt mind_h mind_a0 mind_a1 mind_a2 mind_a3 mind_a4 mind_a5 y1 mind_shut mind_people mind_needed mind_day, ai E mind_a0 10 mind_height, ai E mind_a1 7 mind_kind, ai E mind_a2 7 mind_figure, ai E mind_a3 7 mind_rail, ai E mind_a4 7 mind_mood, ai E mind_a5 7 y2, oSh q_h q_a0 q_holds q_kind q_figure q_sort q_size, ai E q_a0 100 q_elements]) (As := []) (rest := []) (st1 := []) hC q_X8_startDays kw_2_168 (c_X8_startDays l E mind_h mind_a0 mind_a1 mind_a2 mind_a3 mind_a4 mind_a5 mind_height mind_kind mind_figure mind_rail mind_mood mind_sight mind_moving mind_shut mind_people mind_needed mind_day N y1 y2 h3) ⟨rfl, rfl⟩ ⟨Nat.le_of_ble_eq_true rfl, Nat.le_of_ble_eq_true rfl⟩ ⟨Nat.zero_le _, Nat.zero_le _⟩ hP hD hS hA rfl rfl rfl hG (by decide) rfl rfl rfl rfl rfl rfl rfl rfl hl.1 rfl (Nat.le_of_ble_eq_true rfl) dX9_feelsAsTold_4 rfl (fun H locs hP hD hS => ?_)
  refine lv_iconst (v := (0 : Int32)) hx hb dX9_feelsAsTold_7 (by decide) ?_
  refine lv_istore_n (lv' := [(3, .int (0 : Int32)), (0, .ref b_h), (1, .ref q_h), (2, .int p2)]) hx hb dX9_feelsAsTold_8 rfl hl (by decide) rfl (fun ls hl => ?_)
  have hL9 : ∀ (n : Nat) (x4 : Int32) (y5 : Int32) (y6 : Int32) (y7 : Nat → Int32) (H : Heap) (locs : List Loc) (ls : Array Slot), va_P E.1 vwCl [oBp b_h now_h mind_h kept_h b_img rails_h sa_h, oSt mind_h mind_a0 mind_a1 mind_a2 mind_a3 mind_a4 mind_a5 y5 mind_shut mind_people mind_needed y6, ai E mind_a0 10 mind_height, ai E mind_a1 7 mind_kind, ai E mind_a2 7 mind_figure, ai E mind_a3 7 mind_rail, ai E mind_a4 7 y7, ai E mind_a5 7 y2, oSh q_h q_a0 q_holds q_kind q_figure q_sort q_size, ai E q_a0 100 q_elements] H → va_D A [oBp b_h now_h mind_h kept_h b_img rails_h sa_h, oSt mind_h mind_a0 mind_a1 mind_a2 mind_a3 mind_a4 mind_a5 y5 mind_shut mind_people mind_needed y6, ai E mind_a0 10 mind_height, ai E mind_a1 7 mind_kind, ai E mind_a2 7 mind_figure, ai E mind_a3 7 mind_rail, ai E mind_a4 7 y7, ai E mind_a5 7 y2, oSh q_h q_a0 q_holds q_kind q_figure q_sort q_size, ai E q_a0 100 q_elements] → va_S A s.heap H locs → lv_has ls 4 [(3, .int x4), (0, .ref b_h), (1, .ref q_h), (2, .int p2)] → L_X9_feelsAsTold_9 N mind_kind mind_figure mind_people q_elements q_sort q_size p2 y2 n x4 y5 y6 y7 = some (res, w_mind_moving, w_mind_day, w_mind_mood, w_mind_sight) → W p l e ({ frames := 3, cells := 0, slots := 0, locals := 67 }) s m [.ref b_h, .ref q_h, .int p2].toArray below meth c H locs 0 0 (MQ below (fun _ st oc t => oc = .returned (some (.int res)) ∧ va_P E.1 vwCl [oBp b_h now_h mind_h kept_h b_img rails_h sa_h, oSt mind_h mind_a0 mind_a1 mind_a2 mind_a3 mind_a4 mind_a5 w_mind_moving mind_shut mind_people mind_needed w_mind_day, ai E mind_a0 10 mind_height, ai E mind_a1 7 mind_kind, ai E mind_a2 7 mind_figure, ai E mind_a3 7 mind_rail, ai E mind_a4 7 w_mind_mood, ai E mind_a5 7 w_mind_sight, oSh q_h q_a0 q_holds q_kind q_figure q_sort q_size, ai E q_a0 100 q_elements] t.heap ∧ va_F A st t) [.ref b_h, .ref q_h, .int p2].toArray s 0 0 A) (F0 m 9 ls []) := by
    intro n
    induction n with
    | zero => intro x4 y5 y6 y7 H locs ls hP hD hS hl hv; cases hv
    | succ n9 ih9 =>
      intro x4 y5 y6 y7 H locs ls hP hD hS hl hv
      rw [L_X9_feelsAsTold_9] at hv
      refine lv_iload_n hx hb dX9_feelsAsTold_9 rfl (lv_at hl 0 rfl) ?_
      refine lv_aload_n hx hb dX9_feelsAsTold_10 rfl (lv_at hl 2 rfl) ?_
      refine va_get (D := E.1) (ci := 1) (v := .int q_size) (C := RX7) (T := TX7) (N := 6) hx hb ht i_X7 hown hK hP 8 rfl rfl 5 (by decide) (ht _ kw_1_124) (fun _ h9 => h9) rfl dX9_feelsAsTold_11 ?_
      refine lv_icmp_ge (tgt := 62) hx hb dX9_feelsAsTold_14 (by decide) (fun c8 => ?_) (fun c8 => ?_)
      · have hv := if_y c8 hv
        refine lv_iconst (v := (1 : Int32)) hx hb dX9_feelsAsTold_62 (by decide) ?_
        refine lv_topi (fun z9 ez9 => ?_)
        have hv := nm_s ez9 hv
        have hn9 : narrow .boolean (.int z9) = .int z9 := (by rw [ez9]; rfl)
        cases hv
        exact W.zret hx hb hr hn9 (fun t h9 _ => ⟨rfl, by rw [h9]; exact hP, hS.F h9⟩) hS.2.2 dX9_feelsAsTold_63 hlk
      · have hv := if_n c8 hv
        refine lv_iload_n hx hb dX9_feelsAsTold_17 rfl (lv_at hl 0 rfl) ?_
        refine lv_if_le (tgt := 29) hx hb dX9_feelsAsTold_18 (by decide) (fun c10 => ?_) (fun c10 => ?_)
        · have hv := if_y c10 hv
          refine lv_aload_n hx hb dX9_feelsAsTold_29 rfl (lv_at hl 2 rfl) ?_
          refine lv_iload_n hx hb dX9_feelsAsTold_30 rfl (lv_at hl 0 rfl) ?_
          obtain ⟨r11, h12, hv⟩ := ob_s hv
          refine rdV 1 0 (As := [.int x4]) (rest := []) (st1 := [.int r11]) (w := [oSh q_h q_a0 q_holds q_kind q_figure q_sort q_size, ai E q_a0 100 q_elements]) hC q_X7_isSkipped kw_3_119 (c_X7_isSkipped l E q_h q_a0 q_elements q_holds q_kind q_figure q_sort q_size x4 r11 h12) ⟨rfl, rfl⟩ ⟨Nat.le_of_ble_eq_true rfl, Nat.le_of_ble_eq_true rfl⟩ ⟨Nat.zero_le _, Nat.zero_le _⟩ (hP.sub (ws' := [oSh q_h q_a0 q_holds q_kind q_figure q_sort q_size, ai E q_a0 100 q_elements]) [8, 9] rfl) rfl rfl rfl hG rfl hl.1 rfl (Nat.le_of_ble_eq_true rfl) dX9_feelsAsTold_31 rfl ?_
          refine lv_if_ne (tgt := 56) hx hb dX9_feelsAsTold_34 (by decide) (fun c13 => ?_) (fun c13 => ?_)
          · have hv := if_n c13 hv
            refine lv_iinc (v := (x4 + (1 : Int32))) (lv' := [(3, .int (x4 + (1 : Int32))), (0, .ref b_h), (1, .ref q_h), (2, .int p2)]) hx hb dX9_feelsAsTold_56 hl (k := 0) rfl rfl (by decide) rfl (fun ls hl => ?_)
            refine lv_goto (tgt := 9) hx hb dX9_feelsAsTold_59 (by decide) ?_
            exact ih9 (x4 + (1 : Int32)) y5 y6 y7 _ _ _ hP hD hS (lv_sub hl [0, 1, 2, 3] rfl) hv
          · have hv := if_y c13 hv
            refine lv_aload_n hx hb dX9_feelsAsTold_37 rfl (lv_at hl 2 rfl) ?_
            refine lv_iload_n hx hb dX9_feelsAsTold_38 rfl (lv_at hl 0 rfl) ?_
            obtain ⟨r14, h15, hv⟩ := ob_s hv
            refine rdV 1 0 (As := [.int x4]) (rest := []) (st1 := [.int r14]) (w := [oSh q_h q_a0 q_holds q_kind q_figure q_sort q_size, ai E q_a0 100 q_elements]) hC q_X7_at kw_3_129 (c_X7_at l E q_h q_a0 q_elements q_holds q_kind q_figure q_sort q_size x4 r14 h15) ⟨rfl, rfl⟩ ⟨Nat.le_of_ble_eq_true rfl, Nat.le_of_ble_eq_true rfl⟩ ⟨Nat.zero_le _, Nat.zero_le _⟩ (hP.sub (ws' := [oSh q_h q_a0 q_holds q_kind q_figure q_sort q_size, ai E q_a0 100 q_elements]) [8, 9] rfl) rfl rfl rfl hG rfl hl.1 rfl (Nat.le_of_ble_eq_true rfl) dX9_feelsAsTold_39 rfl ?_
            refine lv_aload_n hx hb dX9_feelsAsTold_42 rfl (lv_at hl 1 rfl) ?_
            refine va_get (D := E.1) (ci := 3) (v := .ref mind_h) (C := RX9) (T := TX9) (N := 6) hx hb ht i_X9 hown hK hP 0 rfl rfl 1 (by decide) (ht _ kw_1_139) (fun _ h9 => h9) rfl dX9_feelsAsTold_43 ?_
            refine va_get (D := E.1) (ci := 2) (v := .ref mind_a4) (C := RX8) (T := TX8) (N := 11) hx hb ht i_X8 hown hK hP 1 rfl rfl 4 (by decide) (ht _ kw_1_46) (fun _ h9 => h9) rfl dX9_feelsAsTold_46 ?_
            refine lv_iload_n hx hb dX9_feelsAsTold_49 rfl (lv_at hl 3 rfl) ?_
            obtain ⟨g16, hv⟩ := gd_s hv
            refine va_iald hx hb hK hP 6 0 rfl rfl (ix_s g16) dX9_feelsAsTold_50 ?_
            refine lv_icmp_eq (tgt := 56) hx hb dX9_feelsAsTold_51 (by decide) (fun c17 => ?_) (fun c17 => ?_)
            · have hv := if_y c17 hv
              refine lv_iinc (v := (x4 + (1 : Int32))) (lv' := [(3, .int (x4 + (1 : Int32))), (0, .ref b_h), (1, .ref q_h), (2, .int p2)]) hx hb dX9_feelsAsTold_56 hl (k := 0) rfl rfl (by decide) rfl (fun ls hl => ?_)
              refine lv_goto (tgt := 9) hx hb dX9_feelsAsTold_59 (by decide) ?_
              exact ih9 (x4 + (1 : Int32)) y5 y6 y7 _ _ _ hP hD hS (lv_sub hl [0, 1, 2, 3] rfl) hv
            · have hv := if_n c17 hv
              refine lv_iconst (v := (0 : Int32)) hx hb dX9_feelsAsTold_54 (by decide) ?_
              refine lv_topi (fun z18 ez18 => ?_)
              have hv := nm_s ez18 hv
              have hn9 : narrow .boolean (.int z18) = .int z18 := (by rw [ez18]; rfl)
              cases hv
              exact W.zret hx hb hr hn9 (fun t h9 _ => ⟨rfl, by rw [h9]; exact hP, hS.F h9⟩) hS.2.2 dX9_feelsAsTold_55 hlk
        · have hv := if_n c10 hv
          refine lv_aload_n hx hb dX9_feelsAsTold_21 rfl (lv_at hl 1 rfl) ?_
          refine va_get (D := E.1) (ci := 3) (v := .ref mind_h) (C := RX9) (T := TX9) (N := 6) hx hb ht i_X9 hown hK hP 0 rfl rfl 1 (by decide) (ht _ kw_1_139) (fun _ h9 => h9) rfl dX9_feelsAsTold_22 ?_
          obtain ⟨⟨r19, y20, y21, y22⟩, h23, hv⟩ := ob_s hv
          refine wrV (as := [b_h, mind_h, mind_a0, mind_a1, mind_a2, mind_a3, mind_a4, mind_a5, q_h, q_a0]) (wr := [oBp b_h now_h mind_h kept_h b_img rails_h sa_h, oSh q_h q_a0 q_holds q_kind q_figure q_sort q_size, ai E q_a0 100 q_elements]) [1, 2, 3, 4, 5, 6, 7] [0, 8, 9] 2 0 (ws := [oBp b_h now_h mind_h kept_h b_img rails_h sa_h, oSt mind_h mind_a0 mind_a1 mind_a2 mind_a3 mind_a4 mind_a5 y5 mind_shut mind_people mind_needed y6, ai E mind_a0 10 mind_height, ai E mind_a1 7 mind_kind, ai E mind_a2 7 mind_figure, ai E mind_a3 7 mind_rail, ai E mind_a4 7 y7, ai E mind_a5 7 y2, oSh q_h q_a0 q_holds q_kind q_figure q_sort q_size, ai E q_a0 100 q_elements]) (ws' := [oBp b_h now_h mind_h kept_h b_img rails_h sa_h, oSt mind_h mind_a0 mind_a1 mind_a2 mind_a3 mind_a4 mind_a5 y20 mind_shut mind_people mind_needed y21, ai E mind_a0 10 mind_height, ai E mind_a1 7 mind_kind, ai E mind_a2 7 mind_figure, ai E mind_a3 7 mind_rail, ai E mind_a4 7 y22, ai E mind_a5 7 y2, oSh q_h q_a0 q_holds q_kind q_figure q_sort q_size, ai E q_a0 100 q_elements]) (As := []) (rest := []) (st1 := [.int r19]) hC q_X8_nextDay kw_2_169 (c_X8_nextDay l E mind_h mind_a0 mind_a1 mind_a2 mind_a3 mind_a4 mind_a5 mind_height mind_kind mind_figure mind_rail y7 y2 y5 mind_shut mind_people mind_needed y6 N r19 y20 y21 y22 h23) ⟨rfl, rfl⟩ ⟨Nat.le_of_ble_eq_true rfl, Nat.le_of_ble_eq_true rfl⟩ ⟨Nat.zero_le _, Nat.zero_le _⟩ hP hD hS hA rfl rfl rfl hG (by decide) rfl rfl rfl rfl rfl rfl rfl rfl hl.1 rfl (Nat.le_of_ble_eq_true rfl) dX9_feelsAsTold_25 rfl (fun H locs hP hD hS => ?_)
          refine lv_pop hx hb dX9_feelsAsTold_28 rfl ?_
          refine lv_aload_n hx hb dX9_feelsAsTold_29 rfl (lv_at hl 2 rfl) ?_
          refine lv_iload_n hx hb dX9_feelsAsTold_30 rfl (lv_at hl 0 rfl) ?_
          obtain ⟨r24, h25, hv⟩ := ob_s hv
          refine rdV 1 0 (As := [.int x4]) (rest := []) (st1 := [.int r24]) (w := [oSh q_h q_a0 q_holds q_kind q_figure q_sort q_size, ai E q_a0 100 q_elements]) hC q_X7_isSkipped kw_3_119 (c_X7_isSkipped l E q_h q_a0 q_elements q_holds q_kind q_figure q_sort q_size x4 r24 h25) ⟨rfl, rfl⟩ ⟨Nat.le_of_ble_eq_true rfl, Nat.le_of_ble_eq_true rfl⟩ ⟨Nat.zero_le _, Nat.zero_le _⟩ (hP.sub (ws' := [oSh q_h q_a0 q_holds q_kind q_figure q_sort q_size, ai E q_a0 100 q_elements]) [8, 9] rfl) rfl rfl rfl hG rfl hl.1 rfl (Nat.le_of_ble_eq_true rfl) dX9_feelsAsTold_31 rfl ?_
          refine lv_if_ne (tgt := 56) hx hb dX9_feelsAsTold_34 (by decide) (fun c26 => ?_) (fun c26 => ?_)
          · have hv := if_n c26 hv
            refine lv_iinc (v := (x4 + (1 : Int32))) (lv' := [(3, .int (x4 + (1 : Int32))), (0, .ref b_h), (1, .ref q_h), (2, .int p2)]) hx hb dX9_feelsAsTold_56 hl (k := 0) rfl rfl (by decide) rfl (fun ls hl => ?_)
            refine lv_goto (tgt := 9) hx hb dX9_feelsAsTold_59 (by decide) ?_
            exact ih9 (x4 + (1 : Int32)) y20 y21 y22 _ _ _ hP hD hS (lv_sub hl [0, 1, 2, 3] rfl) hv
          · have hv := if_y c26 hv
            refine lv_aload_n hx hb dX9_feelsAsTold_37 rfl (lv_at hl 2 rfl) ?_
            refine lv_iload_n hx hb dX9_feelsAsTold_38 rfl (lv_at hl 0 rfl) ?_
            obtain ⟨r27, h28, hv⟩ := ob_s hv
            refine rdV 1 0 (As := [.int x4]) (rest := []) (st1 := [.int r27]) (w := [oSh q_h q_a0 q_holds q_kind q_figure q_sort q_size, ai E q_a0 100 q_elements]) hC q_X7_at kw_3_129 (c_X7_at l E q_h q_a0 q_elements q_holds q_kind q_figure q_sort q_size x4 r27 h28) ⟨rfl, rfl⟩ ⟨Nat.le_of_ble_eq_true rfl, Nat.le_of_ble_eq_true rfl⟩ ⟨Nat.zero_le _, Nat.zero_le _⟩ (hP.sub (ws' := [oSh q_h q_a0 q_holds q_kind q_figure q_sort q_size, ai E q_a0 100 q_elements]) [8, 9] rfl) rfl rfl rfl hG rfl hl.1 rfl (Nat.le_of_ble_eq_true rfl) dX9_feelsAsTold_39 rfl ?_
            refine lv_aload_n hx hb dX9_feelsAsTold_42 rfl (lv_at hl 1 rfl) ?_
            refine va_get (D := E.1) (ci := 3) (v := .ref mind_h) (C := RX9) (T := TX9) (N := 6) hx hb ht i_X9 hown hK hP 0 rfl rfl 1 (by decide) (ht _ kw_1_139) (fun _ h9 => h9) rfl dX9_feelsAsTold_43 ?_
            refine va_get (D := E.1) (ci := 2) (v := .ref mind_a4) (C := RX8) (T := TX8) (N := 11) hx hb ht i_X8 hown hK hP 1 rfl rfl 4 (by decide) (ht _ kw_1_46) (fun _ h9 => h9) rfl dX9_feelsAsTold_46 ?_
            refine lv_iload_n hx hb dX9_feelsAsTold_49 rfl (lv_at hl 3 rfl) ?_
            obtain ⟨g29, hv⟩ := gd_s hv
            refine va_iald hx hb hK hP 6 0 rfl rfl (ix_s g29) dX9_feelsAsTold_50 ?_
            refine lv_icmp_eq (tgt := 56) hx hb dX9_feelsAsTold_51 (by decide) (fun c30 => ?_) (fun c30 => ?_)
            · have hv := if_y c30 hv
              refine lv_iinc (v := (x4 + (1 : Int32))) (lv' := [(3, .int (x4 + (1 : Int32))), (0, .ref b_h), (1, .ref q_h), (2, .int p2)]) hx hb dX9_feelsAsTold_56 hl (k := 0) rfl rfl (by decide) rfl (fun ls hl => ?_)
              refine lv_goto (tgt := 9) hx hb dX9_feelsAsTold_59 (by decide) ?_
              exact ih9 (x4 + (1 : Int32)) y20 y21 y22 _ _ _ hP hD hS (lv_sub hl [0, 1, 2, 3] rfl) hv
            · have hv := if_n c30 hv
              refine lv_iconst (v := (0 : Int32)) hx hb dX9_feelsAsTold_54 (by decide) ?_
              refine lv_topi (fun z31 ez31 => ?_)
              have hv := nm_s ez31 hv
              have hn9 : narrow .boolean (.int z31) = .int z31 := (by rw [ez31]; rfl)
              cases hv
              exact W.zret hx hb hr hn9 (fun t h9 _ => ⟨rfl, by rw [h9]; exact hP, hS.F h9⟩) hS.2.2 dX9_feelsAsTold_55 hlk
  exact hL9 N (0 : Int32) y1 mind_day mind_mood _ _ _ hP hD hS (lv_sub hl [0, 1, 2, 3] rfl) hv
theorem dX9_whatIs_0 : decode cX9_whatIs 0 = .ok (.aload_n 0, 1) := by decide +kernel
theorem dX9_whatIs_1 : decode cX9_whatIs 1 = .ok (.getfield 12, 3) := by decide +kernel
theorem dX9_whatIs_4 : decode cX9_whatIs 4 = .ok (.iload_n 2, 1) := by decide +kernel
theorem dX9_whatIs_5 : decode cX9_whatIs 5 = .ok (.invokevirtual 58, 3) := by decide +kernel
theorem dX9_whatIs_8 : decode cX9_whatIs 8 = .ok (.ifCond .eq 12, 3) := by decide +kernel
theorem dX9_whatIs_11 : decode cX9_whatIs 11 = .ok (.iload_n 3, 1) := by decide +kernel
theorem dX9_whatIs_12 : decode cX9_whatIs 12 = .ok (.iconst 0, 1) := by decide +kernel
theorem dX9_whatIs_13 : decode cX9_whatIs 13 = .ok (.iconst 1, 1) := by decide +kernel
theorem dX9_whatIs_14 : decode cX9_whatIs 14 = .ok (.invokestatic 118, 3) := by decide +kernel
theorem dX9_whatIs_17 : decode cX9_whatIs 17 = .ok (.ifCond .ne 5, 3) := by decide +kernel
theorem dX9_whatIs_20 : decode cX9_whatIs 20 = .ok (.iconst (-1), 1) := by decide +kernel
theorem dX9_whatIs_21 : decode cX9_whatIs 21 = .ok (.ireturn, 1) := by decide +kernel
theorem dX9_whatIs_22 : decode cX9_whatIs 22 = .ok (.aload_n 0, 1) := by decide +kernel
theorem dX9_whatIs_23 : decode cX9_whatIs 23 = .ok (.iload_n 1, 1) := by decide +kernel
theorem dX9_whatIs_24 : decode cX9_whatIs 24 = .ok (.iconst 2, 1) := by decide +kernel
theorem dX9_whatIs_25 : decode cX9_whatIs 25 = .ok (.invokevirtual 40, 3) := by decide +kernel
theorem dX9_whatIs_28 : decode cX9_whatIs 28 = .ok (.istore 4, 2) := by decide +kernel
theorem dX9_whatIs_30 : decode cX9_whatIs 30 = .ok (.iload 4, 2) := by decide +kernel
theorem dX9_whatIs_32 : decode cX9_whatIs 32 = .ok (.ifCond .eq 6, 3) := by decide +kernel
theorem dX9_whatIs_35 : decode cX9_whatIs 35 = .ok (.iload 4, 2) := by decide +kernel
theorem dX9_whatIs_37 : decode cX9_whatIs 37 = .ok (.ireturn, 1) := by decide +kernel
theorem dX9_whatIs_38 : decode cX9_whatIs 38 = .ok (.iconst 0, 1) := by decide +kernel
theorem dX9_whatIs_39 : decode cX9_whatIs 39 = .ok (.istore 5, 2) := by decide +kernel
theorem dX9_whatIs_41 : decode cX9_whatIs 41 = .ok (.iload_n 3, 1) := by decide +kernel
theorem dX9_whatIs_42 : decode cX9_whatIs 42 = .ok (.ifCond .ne 8, 3) := by decide +kernel
theorem dX9_whatIs_45 : decode cX9_whatIs 45 = .ok (.bipush 8, 2) := by decide +kernel
theorem dX9_whatIs_47 : decode cX9_whatIs 47 = .ok (.goto 5, 3) := by decide +kernel
theorem dX9_whatIs_50 : decode cX9_whatIs 50 = .ok (.bipush 10, 2) := by decide +kernel
theorem dX9_whatIs_52 : decode cX9_whatIs 52 = .ok (.istore 6, 2) := by decide +kernel
theorem dX9_whatIs_54 : decode cX9_whatIs 54 = .ok (.iconst 0, 1) := by decide +kernel
theorem dX9_whatIs_55 : decode cX9_whatIs 55 = .ok (.istore 7, 2) := by decide +kernel
theorem dX9_whatIs_57 : decode cX9_whatIs 57 = .ok (.iload 7, 2) := by decide +kernel
theorem dX9_whatIs_59 : decode cX9_whatIs 59 = .ok (.iload 6, 2) := by decide +kernel
theorem dX9_whatIs_61 : decode cX9_whatIs 61 = .ok (.if_icmp .ge 72, 3) := by decide +kernel
theorem dX9_whatIs_64 : decode cX9_whatIs 64 = .ok (.aload_n 0, 1) := by decide +kernel
theorem dX9_whatIs_65 : decode cX9_whatIs 65 = .ok (.getfield 16, 3) := by decide +kernel
theorem dX9_whatIs_68 : decode cX9_whatIs 68 = .ok (.aload_n 0, 1) := by decide +kernel
theorem dX9_whatIs_69 : decode cX9_whatIs 69 = .ok (.getfield 12, 3) := by decide +kernel
theorem dX9_whatIs_72 : decode cX9_whatIs 72 = .ok (.invokevirtual 48, 3) := by decide +kernel
theorem dX9_whatIs_75 : decode cX9_whatIs 75 = .ok (.iload_n 3, 1) := by decide +kernel
theorem dX9_whatIs_76 : decode cX9_whatIs 76 = .ok (.ifCond .ne 17, 3) := by decide +kernel
theorem dX9_whatIs_79 : decode cX9_whatIs 79 = .ok (.aload_n 0, 1) := by decide +kernel
theorem dX9_whatIs_80 : decode cX9_whatIs 80 = .ok (.getfield 16, 3) := by decide +kernel
theorem dX9_whatIs_83 : decode cX9_whatIs 83 = .ok (.getfield 62, 3) := by decide +kernel
theorem dX9_whatIs_86 : decode cX9_whatIs 86 = .ok (.iload_n 2, 1) := by decide +kernel
theorem dX9_whatIs_87 : decode cX9_whatIs 87 = .ok (.iload 7, 2) := by decide +kernel
theorem dX9_whatIs_89 : decode cX9_whatIs 89 = .ok (.iastore, 1) := by decide +kernel
theorem dX9_whatIs_90 : decode cX9_whatIs 90 = .ok (.goto 14, 3) := by decide +kernel
theorem dX9_whatIs_93 : decode cX9_whatIs 93 = .ok (.aload_n 0, 1) := by decide +kernel
theorem dX9_whatIs_94 : decode cX9_whatIs 94 = .ok (.getfield 16, 3) := by decide +kernel
theorem dX9_whatIs_97 : decode cX9_whatIs 97 = .ok (.getfield 66, 3) := by decide +kernel
theorem dX9_whatIs_100 : decode cX9_whatIs 100 = .ok (.iload_n 2, 1) := by decide +kernel
theorem dX9_whatIs_101 : decode cX9_whatIs 101 = .ok (.iload 7, 2) := by decide +kernel
theorem dX9_whatIs_103 : decode cX9_whatIs 103 = .ok (.iastore, 1) := by decide +kernel
theorem dX9_whatIs_104 : decode cX9_whatIs 104 = .ok (.aload_n 0, 1) := by decide +kernel
theorem dX9_whatIs_105 : decode cX9_whatIs 105 = .ok (.aload_n 0, 1) := by decide +kernel
theorem dX9_whatIs_106 : decode cX9_whatIs 106 = .ok (.getfield 35, 3) := by decide +kernel
theorem dX9_whatIs_109 : decode cX9_whatIs 109 = .ok (.iload_n 1, 1) := by decide +kernel
theorem dX9_whatIs_110 : decode cX9_whatIs 110 = .ok (.aaload, 1) := by decide +kernel
theorem dX9_whatIs_111 : decode cX9_whatIs 111 = .ok (.iload_n 2, 1) := by decide +kernel
theorem dX9_whatIs_112 : decode cX9_whatIs 112 = .ok (.invokevirtual 242, 3) := by decide +kernel
theorem dX9_whatIs_115 : decode cX9_whatIs 115 = .ok (.ifCond .eq 12, 3) := by decide +kernel
theorem dX9_whatIs_118 : decode cX9_whatIs 118 = .ok (.iload 5, 2) := by decide +kernel
theorem dX9_whatIs_120 : decode cX9_whatIs 120 = .ok (.iconst 1, 1) := by decide +kernel
theorem dX9_whatIs_121 : decode cX9_whatIs 121 = .ok (.iload 7, 2) := by decide +kernel
theorem dX9_whatIs_123 : decode cX9_whatIs 123 = .ok (.ishl, 1) := by decide +kernel
theorem dX9_whatIs_124 : decode cX9_whatIs 124 = .ok (.ior, 1) := by decide +kernel
theorem dX9_whatIs_125 : decode cX9_whatIs 125 = .ok (.istore 5, 2) := by decide +kernel
theorem dX9_whatIs_127 : decode cX9_whatIs 127 = .ok (.iinc 7 1, 3) := by decide +kernel
theorem dX9_whatIs_130 : decode cX9_whatIs 130 = .ok (.goto (-73), 3) := by decide +kernel
theorem dX9_whatIs_133 : decode cX9_whatIs 133 = .ok (.iload 5, 2) := by decide +kernel
theorem dX9_whatIs_135 : decode cX9_whatIs 135 = .ok (.ireturn, 1) := by decide +kernel
def L_X9_whatIs_57 (N : Nat) (now_height : Nat → Int32) (now_kind : Nat → Int32) (now_figure : Nat → Int32) (now_rail : Nat → Int32) (now_mood : Nat → Int32) (now_shut : Int32) (now_people : Int32) (now_needed : Int32) (now_day : Int32) (q_elements : Nat → Int32) (q_sort : Int32) (q_size : Int32) (p1 : Int32) (p2 : Int32) (p3 : Int32) : Nat → Int32 → Int32 → Int32 → Int32 → Int32 → Int32 → Int32 → (Nat → Int32) → (Nat → Int32) → (Nat → Int32) → (Nat → Int32) → (Nat → Int32) → (Nat → Int32) → Option (Int32 × Int32 × Int32 × Int32 × Int32 × Int32 × (Nat → Int32) × (Nat → Int32) × (Nat → Int32) × (Nat → Int32) × (Nat → Int32) × (Nat → Int32))
  | 0, _, _, _, _, _, _, _, _, _, _, _, _, _ => none
  | n57 + 1, x12, x13, y14, y15, y16, y17, y18, y19, y20, y21, y22, y23, y24 => if (10 : Int32) ≤ x12 then some (x13, y14, y15, y16, y17, y18, y19, y20, y21, y22, y23, y24) else ob (f_X8_become now_height now_kind now_figure now_rail now_mood now_shut now_people now_needed now_day) (fun (y26, y27, y28, y29, y30, y31, y32, y33, y34) => if p3 = 0 then gd (ix p2 7) (nm (upd y31 p2.toNatClampNeg x12) (fun f49 => gd (ix p1 8) (ob (f_X9_feelsAsTold N y30 f49 y32 y33 y34 y24 y26 y27 y29 q_elements q_sort q_size p2) (fun (r51, y52, y53, y54, y55) => if r51 = 0 then L_X9_whatIs_57 N now_height now_kind now_figure now_rail now_mood now_shut now_people now_needed now_day q_elements q_sort q_size p1 p2 p3 n57 (x12 + (1 : Int32)) x13 y52 y26 y27 y28 y53 y30 f49 y32 y33 y54 y55 else nm (x13 ||| ((1 : Int32) <<< (x12 &&& 31))) (fun z58 => L_X9_whatIs_57 N now_height now_kind now_figure now_rail now_mood now_shut now_people now_needed now_day q_elements q_sort q_size p1 p2 p3 n57 (x12 + (1 : Int32)) z58 y52 y26 y27 y28 y53 y30 f49 y32 y33 y54 y55))))) else gd (ix p2 7) (nm (upd y32 p2.toNatClampNeg x12) (fun f38 => gd (ix p1 8) (ob (f_X9_feelsAsTold N y30 y31 f38 y33 y34 y24 y26 y27 y29 q_elements q_sort q_size p2) (fun (r40, y41, y42, y43, y44) => if r40 = 0 then L_X9_whatIs_57 N now_height now_kind now_figure now_rail now_mood now_shut now_people now_needed now_day q_elements q_sort q_size p1 p2 p3 n57 (x12 + (1 : Int32)) x13 y41 y26 y27 y28 y42 y30 y31 f38 y33 y43 y44 else nm (x13 ||| ((1 : Int32) <<< (x12 &&& 31))) (fun z47 => L_X9_whatIs_57 N now_height now_kind now_figure now_rail now_mood now_shut now_people now_needed now_day q_elements q_sort q_size p1 p2 p3 n57 (x12 + (1 : Int32)) z47 y41 y26 y27 y28 y42 y30 y31 f38 y33 y43 y44))))))
def L_X9_whatIs_57_2 (N : Nat) (now_height : Nat → Int32) (now_kind : Nat → Int32) (now_figure : Nat → Int32) (now_rail : Nat → Int32) (now_mood : Nat → Int32) (now_shut : Int32) (now_people : Int32) (now_needed : Int32) (now_day : Int32) (q_elements : Nat → Int32) (q_sort : Int32) (q_size : Int32) (p1 : Int32) (p2 : Int32) (p3 : Int32) : Nat → Int32 → Int32 → Int32 → Int32 → Int32 → Int32 → Int32 → (Nat → Int32) → (Nat → Int32) → (Nat → Int32) → (Nat → Int32) → (Nat → Int32) → (Nat → Int32) → Option (Int32 × Int32 × Int32 × Int32 × Int32 × Int32 × (Nat → Int32) × (Nat → Int32) × (Nat → Int32) × (Nat → Int32) × (Nat → Int32) × (Nat → Int32))
  | 0, _, _, _, _, _, _, _, _, _, _, _, _, _ => none
  | n57 + 1, x59, x60, y61, y62, y63, y64, y65, y66, y67, y68, y69, y70, y71 => if (8 : Int32) ≤ x59 then some (x60, y61, y62, y63, y64, y65, y66, y67, y68, y69, y70, y71) else ob (f_X8_become now_height now_kind now_figure now_rail now_mood now_shut now_people now_needed now_day) (fun (y73, y74, y75, y76, y77, y78, y79, y80, y81) => if p3 = 0 then gd (ix p2 7) (nm (upd y78 p2.toNatClampNeg x59) (fun f96 => gd (ix p1 8) (ob (f_X9_feelsAsTold N y77 f96 y79 y80 y81 y71 y73 y74 y76 q_elements q_sort q_size p2) (fun (r98, y99, y100, y101, y102) => if r98 = 0 then L_X9_whatIs_57_2 N now_height now_kind now_figure now_rail now_mood now_shut now_people now_needed now_day q_elements q_sort q_size p1 p2 p3 n57 (x59 + (1 : Int32)) x60 y99 y73 y74 y75 y100 y77 f96 y79 y80 y101 y102 else nm (x60 ||| ((1 : Int32) <<< (x59 &&& 31))) (fun z105 => L_X9_whatIs_57_2 N now_height now_kind now_figure now_rail now_mood now_shut now_people now_needed now_day q_elements q_sort q_size p1 p2 p3 n57 (x59 + (1 : Int32)) z105 y99 y73 y74 y75 y100 y77 f96 y79 y80 y101 y102))))) else gd (ix p2 7) (nm (upd y79 p2.toNatClampNeg x59) (fun f85 => gd (ix p1 8) (ob (f_X9_feelsAsTold N y77 y78 f85 y80 y81 y71 y73 y74 y76 q_elements q_sort q_size p2) (fun (r87, y88, y89, y90, y91) => if r87 = 0 then L_X9_whatIs_57_2 N now_height now_kind now_figure now_rail now_mood now_shut now_people now_needed now_day q_elements q_sort q_size p1 p2 p3 n57 (x59 + (1 : Int32)) x60 y88 y73 y74 y75 y89 y77 y78 f85 y80 y90 y91 else nm (x60 ||| ((1 : Int32) <<< (x59 &&& 31))) (fun z94 => L_X9_whatIs_57_2 N now_height now_kind now_figure now_rail now_mood now_shut now_people now_needed now_day q_elements q_sort q_size p1 p2 p3 n57 (x59 + (1 : Int32)) z94 y88 y73 y74 y75 y89 y77 y78 f85 y80 y90 y91))))))
def f_X9_whatIs (N : Nat) (now_height : Nat → Int32) (now_kind : Nat → Int32) (now_figure : Nat → Int32) (now_rail : Nat → Int32) (now_mood : Nat → Int32) (now_shut : Int32) (now_people : Int32) (now_needed : Int32) (now_day : Int32) (mind_height : Nat → Int32) (mind_kind : Nat → Int32) (mind_figure : Nat → Int32) (mind_rail : Nat → Int32) (mind_mood : Nat → Int32) (mind_sight : Nat → Int32) (mind_moving : Int32) (mind_shut : Int32) (mind_people : Int32) (mind_needed : Int32) (mind_day : Int32) (q_elements : Nat → Int32) (q_holds : Int32) (q_sort : Int32) (q_size : Int32) (p1 : Int32) (p2 : Int32) (p3 : Int32) : Option (Int32 × Int32 × Int32 × Int32 × Int32 × Int32 × (Nat → Int32) × (Nat → Int32) × (Nat → Int32) × (Nat → Int32) × (Nat → Int32) × (Nat → Int32)) := ob (f_X8_isThere now_people p2) (fun r1 => if r1 = 0 then nm (-1 : Int32) (fun z4 => some (z4, mind_moving, mind_shut, mind_people, mind_needed, mind_day, mind_height, mind_kind, mind_figure, mind_rail, mind_mood, mind_sight)) else ob (f_X9_isWithin p3 (0 : Int32) (1 : Int32)) (fun r5 => if r5 = 0 then nm (-1 : Int32) (fun z106 => some (z106, mind_moving, mind_shut, mind_people, mind_needed, mind_day, mind_height, mind_kind, mind_figure, mind_rail, mind_mood, mind_sight)) else ob (f_X9_refusalOf q_holds p1 (2 : Int32)) (fun r8 => if r8 = 0 then if p3 = 0 then L_X9_whatIs_57_2 N now_height now_kind now_figure now_rail now_mood now_shut now_people now_needed now_day q_elements q_sort q_size p1 p2 p3 N (0 : Int32) (0 : Int32) mind_moving mind_shut mind_people mind_needed mind_day mind_height mind_kind mind_figure mind_rail mind_mood mind_sight else L_X9_whatIs_57 N now_height now_kind now_figure now_rail now_mood now_shut now_people now_needed now_day q_elements q_sort q_size p1 p2 p3 N (0 : Int32) (0 : Int32) mind_moving mind_shut mind_people mind_needed mind_day mind_height mind_kind mind_figure mind_rail mind_mood mind_sight else some (r8, mind_moving, mind_shut, mind_people, mind_needed, mind_day, mind_height, mind_kind, mind_figure, mind_rail, mind_mood, mind_sight))))
set_option maxHeartbeats 4000000 in
set_option maxRecDepth 100000 in
theorem c_X9_whatIs (l : Launch) (E : EE) (b_h : Nat) (now_h : Nat) (mind_h : Nat) (kept_h : Nat) (rails_h : Nat) (sa_h : Nat) (now_a0 : Nat) (now_a1 : Nat) (now_a2 : Nat) (now_a3 : Nat) (now_a4 : Nat) (now_a5 : Nat) (mind_a0 : Nat) (mind_a1 : Nat) (mind_a2 : Nat) (mind_a3 : Nat) (mind_a4 : Nat) (mind_a5 : Nat) (q_h : Nat) (q_a0 : Nat) (b_img : Int32) (now_height : Nat → Int32) (now_kind : Nat → Int32) (now_figure : Nat → Int32) (now_rail : Nat → Int32) (now_mood : Nat → Int32) (now_sight : Nat → Int32) (now_moving : Int32) (now_shut : Int32) (now_people : Int32) (now_needed : Int32) (now_day : Int32) (mind_height : Nat → Int32) (mind_kind : Nat → Int32) (mind_figure : Nat → Int32) (mind_rail : Nat → Int32) (mind_mood : Nat → Int32) (mind_sight : Nat → Int32) (mind_moving : Int32) (mind_shut : Int32) (mind_people : Int32) (mind_needed : Int32) (mind_day : Int32) (sh : Nat → Option Nat) (q_elements : Nat → Int32) (q_holds : Int32) (q_kind : Int32) (q_figure : Int32) (q_sort : Int32) (q_size : Int32) (p1 : Int32) (p2 : Int32) (p3 : Int32) (N : Nat) (res : Int32) (w_mind_moving : Int32) (w_mind_shut : Int32) (w_mind_people : Int32) (w_mind_needed : Int32) (w_mind_day : Int32) (w_mind_height : Nat → Int32) (w_mind_kind : Nat → Int32) (w_mind_figure : Nat → Int32) (w_mind_rail : Nat → Int32) (w_mind_mood : Nat → Int32) (w_mind_sight : Nat → Int32) (hsh_p1 : ix p1 8 = true → sh p1.toNatClampNeg = some q_h) (hv : f_X9_whatIs N now_height now_kind now_figure now_rail now_mood now_shut now_people now_needed now_day mind_height mind_kind mind_figure mind_rail mind_mood mind_sight mind_moving mind_shut mind_people mind_needed mind_day q_elements q_holds q_sort q_size p1 p2 p3 = some (res, w_mind_moving, w_mind_shut, w_mind_people, w_mind_needed, w_mind_day, w_mind_height, w_mind_kind, w_mind_figure, w_mind_rail, w_mind_mood, w_mind_sight)) : Wr l E yX9_whatIs cX9_whatIs 8 (some .int) ({ frames := 4, cells := 0, slots := 0, locals := 90 }) [.ref b_h, .int p1, .int p2, .int p3] [oBp b_h now_h mind_h kept_h b_img rails_h sa_h, oSt now_h now_a0 now_a1 now_a2 now_a3 now_a4 now_a5 now_moving now_shut now_people now_needed now_day, ai E now_a0 10 now_height, ai E now_a1 7 now_kind, ai E now_a2 7 now_figure, ai E now_a3 7 now_rail, ai E now_a4 7 now_mood, ai E now_a5 7 now_sight, oSt mind_h mind_a0 mind_a1 mind_a2 mind_a3 mind_a4 mind_a5 mind_moving mind_shut mind_people mind_needed mind_day, ai E mind_a0 10 mind_height, ai E mind_a1 7 mind_kind, ai E mind_a2 7 mind_figure, ai E mind_a3 7 mind_rail, ai E mind_a4 7 mind_mood, ai E mind_a5 7 mind_sight, aS E sa_h sh, oSh q_h q_a0 q_holds q_kind q_figure q_sort q_size, ai E q_a0 100 q_elements] [oBp b_h now_h mind_h kept_h b_img rails_h sa_h, oSt now_h now_a0 now_a1 now_a2 now_a3 now_a4 now_a5 now_moving now_shut now_people now_needed now_day, ai E now_a0 10 now_height, ai E now_a1 7 now_kind, ai E now_a2 7 now_figure, ai E now_a3 7 now_rail, ai E now_a4 7 now_mood, ai E now_a5 7 now_sight, oSt mind_h mind_a0 mind_a1 mind_a2 mind_a3 mind_a4 mind_a5 w_mind_moving w_mind_shut w_mind_people w_mind_needed w_mind_day, ai E mind_a0 10 w_mind_height, ai E mind_a1 7 w_mind_kind, ai E mind_a2 7 w_mind_figure, ai E mind_a3 7 w_mind_rail, ai E mind_a4 7 w_mind_mood, ai E mind_a5 7 w_mind_sight, aS E sa_h sh, oSh q_h q_a0 q_holds q_kind q_figure q_sort q_size, ai E q_a0 100 q_elements] (some (.int res)) := by
  refine Wr.intro RX9 (by decide) rfl (Nat.le_of_ble_eq_true rfl) ?_
  intro p e s m below meth c ls A hC hr hlk hmn hP hD hS hA hG hl
  obtain ⟨hx, hb, hml, hown, ht⟩ := id hC
  have hK := hG.1
  have hl : lv_has ls 8 [(0, .ref b_h), (1, .int p1), (2, .int p2), (3, .int p3)] := hl
  rw [f_X9_whatIs] at hv
  refine lv_aload_n hx hb dX9_whatIs_0 rfl (lv_at hl 0 rfl) ?_
  refine va_get (D := E.1) (ci := 3) (v := .ref now_h) (C := RX9) (T := TX9) (N := 6) hx hb ht i_X9 hown hK hP 0 rfl rfl 0 (by decide) (ht _ kw_1_138) (fun _ h9 => h9) rfl dX9_whatIs_1 ?_
  refine lv_iload_n hx hb dX9_whatIs_4 rfl (lv_at hl 2 rfl) ?_
  obtain ⟨r1, h2, hv⟩ := ob_s hv
  refine rdV 2 0 (As := [.int p2]) (rest := []) (st1 := [.int r1]) (w := [oSt now_h now_a0 now_a1 now_a2 now_a3 now_a4 now_a5 now_moving now_shut now_people now_needed now_day, ai E now_a0 10 now_height, ai E now_a1 7 now_kind, ai E now_a2 7 now_figure, ai E now_a3 7 now_rail, ai E now_a4 7 now_mood, ai E now_a5 7 now_sight]) hC q_X8_isThere kw_2_50 (c_X8_isThere l E now_h now_a0 now_a1 now_a2 now_a3 now_a4 now_a5 now_height now_kind now_figure now_rail now_mood now_sight now_moving now_shut now_people now_needed now_day p2 r1 h2) ⟨rfl, rfl⟩ ⟨Nat.le_of_ble_eq_true rfl, Nat.le_of_ble_eq_true rfl⟩ ⟨Nat.zero_le _, Nat.zero_le _⟩ (hP.sub (ws' := [oSt now_h now_a0 now_a1 now_a2 now_a3 now_a4 now_a5 now_moving now_shut now_people now_needed now_day, ai E now_a0 10 now_height, ai E now_a1 7 now_kind, ai E now_a2 7 now_figure, ai E now_a3 7 now_rail, ai E now_a4 7 now_mood, ai E now_a5 7 now_sight]) [1, 2, 3, 4, 5, 6, 7] rfl) rfl rfl rfl hG rfl hl.1 rfl (Nat.le_of_ble_eq_true rfl) dX9_whatIs_5 rfl ?_
  refine lv_if_eq (tgt := 20) hx hb dX9_whatIs_8 (by decide) (fun c3 => ?_) (fun c3 => ?_)
  · have hv := if_y c3 hv
    refine lv_iconst (v := (-1 : Int32)) hx hb dX9_whatIs_20 (by decide) ?_
    refine lv_topi (fun z4 ez4 => ?_)
    have hv := nm_s ez4 hv
    cases hv
    exact W.iret hx hb hr (fun t h9 _ => ⟨rfl, by rw [h9]; exact hP, hS.F h9⟩) hS.2.2 dX9_whatIs_21 hlk
  · have hv := if_n c3 hv
    refine lv_iload_n hx hb dX9_whatIs_11 rfl (lv_at hl 3 rfl) ?_
    refine lv_iconst (v := (0 : Int32)) hx hb dX9_whatIs_12 (by decide) ?_
    refine lv_iconst (v := (1 : Int32)) hx hb dX9_whatIs_13 (by decide) ?_
    obtain ⟨r5, h6, hv⟩ := ob_s hv
    refine rdS (rest := []) (st1 := [.int r5]) (w := []) hC q_X9_isWithin kw_1_168 (c_X9_isWithin l E p3 (0 : Int32) (1 : Int32) r5 h6) ⟨rfl, rfl⟩ ⟨Nat.le_of_ble_eq_true rfl, Nat.le_of_ble_eq_true rfl⟩ ⟨Nat.zero_le _, Nat.zero_le _⟩ (hP.sub (ws' := []) [] rfl) hG rfl hl.1 rfl (Nat.le_of_ble_eq_true rfl) dX9_whatIs_14 rfl ?_
    refine lv_if_ne (tgt := 22) hx hb dX9_whatIs_17 (by decide) (fun c7 => ?_) (fun c7 => ?_)
    · have hv := if_n c7 hv
      refine lv_aload_n hx hb dX9_whatIs_22 rfl (lv_at hl 0 rfl) ?_
      refine lv_iload_n hx hb dX9_whatIs_23 rfl (lv_at hl 1 rfl) ?_
      refine lv_iconst (v := (2 : Int32)) hx hb dX9_whatIs_24 (by decide) ?_
      obtain ⟨r8, h9, hv⟩ := ob_s hv
      refine rdV 3 0 (As := [.int p1, .int (2 : Int32)]) (rest := []) (st1 := [.int r8]) (w := [oBp b_h now_h mind_h kept_h b_img rails_h sa_h, aS E sa_h sh, oSh q_h q_a0 q_holds q_kind q_figure q_sort q_size, ai E q_a0 100 q_elements]) hC q_X9_refusalOf kw_1_161 (c_X9_refusalOf l E b_h now_h mind_h kept_h rails_h sa_h q_h q_a0 b_img sh q_elements q_holds q_kind q_figure q_sort q_size p1 (2 : Int32) r8 hsh_p1 h9) ⟨rfl, rfl⟩ ⟨Nat.le_of_ble_eq_true rfl, Nat.le_of_ble_eq_true rfl⟩ ⟨Nat.zero_le _, Nat.zero_le _⟩ (hP.sub (ws' := [oBp b_h now_h mind_h kept_h b_img rails_h sa_h, aS E sa_h sh, oSh q_h q_a0 q_holds q_kind q_figure q_sort q_size, ai E q_a0 100 q_elements]) [0, 15, 16, 17] rfl) rfl rfl rfl hG rfl hl.1 rfl (Nat.le_of_ble_eq_true rfl) dX9_whatIs_25 rfl ?_
      refine lv_istore (lv' := [(4, .int r8), (0, .ref b_h), (1, .int p1), (2, .int p2), (3, .int p3)]) hx hb dX9_whatIs_28 hl (by decide) rfl (fun ls hl => ?_)
      refine lv_iload hx hb dX9_whatIs_30 (lv_at hl 0 rfl) ?_
      refine lv_if_eq (tgt := 38) hx hb dX9_whatIs_32 (by decide) (fun c10 => ?_) (fun c10 => ?_)
      · have hv := if_y c10 hv
        refine lv_iconst (v := (0 : Int32)) hx hb dX9_whatIs_38 (by decide) ?_
        refine lv_istore (lv' := [(5, .int (0 : Int32)), (4, .int r8), (0, .ref b_h), (1, .int p1), (2, .int p2), (3, .int p3)]) hx hb dX9_whatIs_39 hl (by decide) rfl (fun ls hl => ?_)
        refine lv_iload_n hx hb dX9_whatIs_41 rfl (lv_at hl 5 rfl) ?_
        refine lv_if_ne (tgt := 50) hx hb dX9_whatIs_42 (by decide) (fun c11 => ?_) (fun c11 => ?_)
        · have hv := if_n c11 hv
          refine lv_bipush (v := (10 : Int32)) hx hb dX9_whatIs_50 (by decide) ?_
          refine lv_istore (lv' := [(6, .int (10 : Int32)), (5, .int (0 : Int32)), (4, .int r8), (0, .ref b_h), (1, .int p1), (2, .int p2), (3, .int p3)]) hx hb dX9_whatIs_52 hl (by decide) rfl (fun ls hl => ?_)
          refine lv_iconst (v := (0 : Int32)) hx hb dX9_whatIs_54 (by decide) ?_
          refine lv_istore (lv' := [(7, .int (0 : Int32)), (6, .int (10 : Int32)), (5, .int (0 : Int32)), (4, .int r8), (0, .ref b_h), (1, .int p1), (2, .int p2), (3, .int p3)]) hx hb dX9_whatIs_55 hl (by decide) rfl (fun ls hl => ?_)
          have hL57 : ∀ (n : Nat) (x12 : Int32) (x13 : Int32) (y14 : Int32) (y15 : Int32) (y16 : Int32) (y17 : Int32) (y18 : Int32) (y19 : Nat → Int32) (y20 : Nat → Int32) (y21 : Nat → Int32) (y22 : Nat → Int32) (y23 : Nat → Int32) (y24 : Nat → Int32) (H : Heap) (locs : List Loc) (ls : Array Slot), va_P E.1 vwCl [oBp b_h now_h mind_h kept_h b_img rails_h sa_h, oSt now_h now_a0 now_a1 now_a2 now_a3 now_a4 now_a5 now_moving now_shut now_people now_needed now_day, ai E now_a0 10 now_height, ai E now_a1 7 now_kind, ai E now_a2 7 now_figure, ai E now_a3 7 now_rail, ai E now_a4 7 now_mood, ai E now_a5 7 now_sight, oSt mind_h mind_a0 mind_a1 mind_a2 mind_a3 mind_a4 mind_a5 y14 y15 y16 y17 y18, ai E mind_a0 10 y19, ai E mind_a1 7 y20, ai E mind_a2 7 y21, ai E mind_a3 7 y22, ai E mind_a4 7 y23, ai E mind_a5 7 y24, aS E sa_h sh, oSh q_h q_a0 q_holds q_kind q_figure q_sort q_size, ai E q_a0 100 q_elements] H → va_D A [oBp b_h now_h mind_h kept_h b_img rails_h sa_h, oSt now_h now_a0 now_a1 now_a2 now_a3 now_a4 now_a5 now_moving now_shut now_people now_needed now_day, ai E now_a0 10 now_height, ai E now_a1 7 now_kind, ai E now_a2 7 now_figure, ai E now_a3 7 now_rail, ai E now_a4 7 now_mood, ai E now_a5 7 now_sight, oSt mind_h mind_a0 mind_a1 mind_a2 mind_a3 mind_a4 mind_a5 y14 y15 y16 y17 y18, ai E mind_a0 10 y19, ai E mind_a1 7 y20, ai E mind_a2 7 y21, ai E mind_a3 7 y22, ai E mind_a4 7 y23, ai E mind_a5 7 y24, aS E sa_h sh, oSh q_h q_a0 q_holds q_kind q_figure q_sort q_size, ai E q_a0 100 q_elements] → va_S A s.heap H locs → lv_has ls 8 [(7, .int x12), (6, .int (10 : Int32)), (5, .int x13), (0, .ref b_h), (1, .int p1), (2, .int p2), (3, .int p3)] → L_X9_whatIs_57 N now_height now_kind now_figure now_rail now_mood now_shut now_people now_needed now_day q_elements q_sort q_size p1 p2 p3 n x12 x13 y14 y15 y16 y17 y18 y19 y20 y21 y22 y23 y24 = some (res, w_mind_moving, w_mind_shut, w_mind_people, w_mind_needed, w_mind_day, w_mind_height, w_mind_kind, w_mind_figure, w_mind_rail, w_mind_mood, w_mind_sight) → W p l e ({ frames := 4, cells := 0, slots := 0, locals := 90 }) s m [.ref b_h, .int p1, .int p2, .int p3].toArray below meth c H locs 0 0 (MQ below (fun _ st oc t => oc = .returned (some (.int res)) ∧ va_P E.1 vwCl [oBp b_h now_h mind_h kept_h b_img rails_h sa_h, oSt now_h now_a0 now_a1 now_a2 now_a3 now_a4 now_a5 now_moving now_shut now_people now_needed now_day, ai E now_a0 10 now_height, ai E now_a1 7 now_kind, ai E now_a2 7 now_figure, ai E now_a3 7 now_rail, ai E now_a4 7 now_mood, ai E now_a5 7 now_sight, oSt mind_h mind_a0 mind_a1 mind_a2 mind_a3 mind_a4 mind_a5 w_mind_moving w_mind_shut w_mind_people w_mind_needed w_mind_day, ai E mind_a0 10 w_mind_height, ai E mind_a1 7 w_mind_kind, ai E mind_a2 7 w_mind_figure, ai E mind_a3 7 w_mind_rail, ai E mind_a4 7 w_mind_mood, ai E mind_a5 7 w_mind_sight, aS E sa_h sh, oSh q_h q_a0 q_holds q_kind q_figure q_sort q_size, ai E q_a0 100 q_elements] t.heap ∧ va_F A st t) [.ref b_h, .int p1, .int p2, .int p3].toArray s 0 0 A) (F0 m 57 ls []) := by
            intro n
            induction n with
            | zero => intro x12 x13 y14 y15 y16 y17 y18 y19 y20 y21 y22 y23 y24 H locs ls hP hD hS hl hv; cases hv
            | succ n57 ih57 =>
              intro x12 x13 y14 y15 y16 y17 y18 y19 y20 y21 y22 y23 y24 H locs ls hP hD hS hl hv
              rw [L_X9_whatIs_57] at hv
              refine lv_iload hx hb dX9_whatIs_57 (lv_at hl 0 rfl) ?_
              refine lv_iload hx hb dX9_whatIs_59 (lv_at hl 1 rfl) ?_
              refine lv_icmp_ge (tgt := 133) hx hb dX9_whatIs_61 (by decide) (fun c25 => ?_) (fun c25 => ?_)
              · have hv := if_y c25 hv
                refine lv_iload hx hb dX9_whatIs_133 (lv_at hl 2 rfl) ?_
                cases hv
                exact W.iret hx hb hr (fun t h9 _ => ⟨rfl, by rw [h9]; exact hP, hS.F h9⟩) hS.2.2 dX9_whatIs_135 hlk
              · have hv := if_n c25 hv
                refine lv_aload_n hx hb dX9_whatIs_64 rfl (lv_at hl 3 rfl) ?_
                refine va_get (D := E.1) (ci := 3) (v := .ref mind_h) (C := RX9) (T := TX9) (N := 6) hx hb ht i_X9 hown hK hP 0 rfl rfl 1 (by decide) (ht _ kw_1_139) (fun _ h9 => h9) rfl dX9_whatIs_65 ?_
                refine lv_aload_n hx hb dX9_whatIs_68 rfl (lv_at hl 3 rfl) ?_
                refine va_get (D := E.1) (ci := 3) (v := .ref now_h) (C := RX9) (T := TX9) (N := 6) hx hb ht i_X9 hown hK hP 0 rfl rfl 0 (by decide) (ht _ kw_1_138) (fun _ h9 => h9) rfl dX9_whatIs_69 ?_
                obtain ⟨⟨y26, y27, y28, y29, y30, y31, y32, y33, y34⟩, h35, hv⟩ := ob_s hv
                refine wrV (as := [b_h, now_h, now_a0, now_a1, now_a2, now_a3, now_a4, now_a5, mind_h, mind_a0, mind_a1, mind_a2, mind_a3, mind_a4, mind_a5, sa_h, q_h, q_a0]) (wr := [oBp b_h now_h mind_h kept_h b_img rails_h sa_h, aS E sa_h sh, oSh q_h q_a0 q_holds q_kind q_figure q_sort q_size, ai E q_a0 100 q_elements]) [8, 9, 10, 11, 12, 13, 14, 1, 2, 3, 4, 5, 6, 7] [0, 15, 16, 17] 2 0 (ws := [oBp b_h now_h mind_h kept_h b_img rails_h sa_h, oSt now_h now_a0 now_a1 now_a2 now_a3 now_a4 now_a5 now_moving now_shut now_people now_needed now_day, ai E now_a0 10 now_height, ai E now_a1 7 now_kind, ai E now_a2 7 now_figure, ai E now_a3 7 now_rail, ai E now_a4 7 now_mood, ai E now_a5 7 now_sight, oSt mind_h mind_a0 mind_a1 mind_a2 mind_a3 mind_a4 mind_a5 y14 y15 y16 y17 y18, ai E mind_a0 10 y19, ai E mind_a1 7 y20, ai E mind_a2 7 y21, ai E mind_a3 7 y22, ai E mind_a4 7 y23, ai E mind_a5 7 y24, aS E sa_h sh, oSh q_h q_a0 q_holds q_kind q_figure q_sort q_size, ai E q_a0 100 q_elements]) (ws' := [oBp b_h now_h mind_h kept_h b_img rails_h sa_h, oSt now_h now_a0 now_a1 now_a2 now_a3 now_a4 now_a5 now_moving now_shut now_people now_needed now_day, ai E now_a0 10 now_height, ai E now_a1 7 now_kind, ai E now_a2 7 now_figure, ai E now_a3 7 now_rail, ai E now_a4 7 now_mood, ai E now_a5 7 now_sight, oSt mind_h mind_a0 mind_a1 mind_a2 mind_a3 mind_a4 mind_a5 y14 y26 y27 y28 y29, ai E mind_a0 10 y30, ai E mind_a1 7 y31, ai E mind_a2 7 y32, ai E mind_a3 7 y33, ai E mind_a4 7 y34, ai E mind_a5 7 y24, aS E sa_h sh, oSh q_h q_a0 q_holds q_kind q_figure q_sort q_size, ai E q_a0 100 q_elements]) (As := [.ref now_h]) (rest := []) (st1 := []) hC q_X8_become kw_1_171 (c_X8_become l E mind_h mind_a0 mind_a1 mind_a2 mind_a3 mind_a4 mind_a5 now_h now_a0 now_a1 now_a2 now_a3 now_a4 now_a5 y19 y20 y21 y22 y23 y24 y14 y15 y16 y17 y18 now_height now_kind now_figure now_rail now_mood now_sight now_moving now_shut now_people now_needed now_day y26 y27 y28 y29 y30 y31 y32 y33 y34 h35) ⟨rfl, rfl⟩ ⟨Nat.le_of_ble_eq_true rfl, Nat.le_of_ble_eq_true rfl⟩ ⟨Nat.zero_le _, Nat.zero_le _⟩ hP hD hS hA rfl rfl rfl hG (by decide) rfl rfl rfl rfl rfl rfl rfl rfl hl.1 rfl (Nat.le_of_ble_eq_true rfl) dX9_whatIs_72 rfl (fun H locs hP hD hS => ?_)
                refine lv_iload_n hx hb dX9_whatIs_75 rfl (lv_at hl 6 rfl) ?_
                refine lv_if_ne (tgt := 93) hx hb dX9_whatIs_76 (by decide) (fun c36 => ?_) (fun c36 => ?_)
                · have hv := if_n c36 hv
                  refine lv_aload_n hx hb dX9_whatIs_93 rfl (lv_at hl 3 rfl) ?_
                  refine va_get (D := E.1) (ci := 3) (v := .ref mind_h) (C := RX9) (T := TX9) (N := 6) hx hb ht i_X9 hown hK hP 0 rfl rfl 1 (by decide) (ht _ kw_1_139) (fun _ h9 => h9) rfl dX9_whatIs_94 ?_
                  refine va_get (D := E.1) (ci := 2) (v := .ref mind_a2) (C := RX8) (T := TX8) (N := 11) hx hb ht i_X8 hown hK hP 8 rfl rfl 2 (by decide) (ht _ kw_1_42) (fun _ h9 => h9) rfl dX9_whatIs_97 ?_
                  refine lv_iload_n hx hb dX9_whatIs_100 rfl (lv_at hl 5 rfl) ?_
                  refine lv_iload hx hb dX9_whatIs_101 (lv_at hl 0 rfl) ?_
                  obtain ⟨g37, hv⟩ := gd_s hv
                  refine va_iast hx hb hK hP hD hS 11 0 rfl rfl (ix_s g37) dX9_whatIs_103 (fun H locs hP hD hS => ?_)
                  have hP : va_P E.1 vwCl [oBp b_h now_h mind_h kept_h b_img rails_h sa_h, oSt now_h now_a0 now_a1 now_a2 now_a3 now_a4 now_a5 now_moving now_shut now_people now_needed now_day, ai E now_a0 10 now_height, ai E now_a1 7 now_kind, ai E now_a2 7 now_figure, ai E now_a3 7 now_rail, ai E now_a4 7 now_mood, ai E now_a5 7 now_sight, oSt mind_h mind_a0 mind_a1 mind_a2 mind_a3 mind_a4 mind_a5 y14 y26 y27 y28 y29, ai E mind_a0 10 y30, ai E mind_a1 7 y31, ai E mind_a2 7 (upd y32 p2.toNatClampNeg x12), ai E mind_a3 7 y33, ai E mind_a4 7 y34, ai E mind_a5 7 y24, aS E sa_h sh, oSh q_h q_a0 q_holds q_kind q_figure q_sort q_size, ai E q_a0 100 q_elements] H := hP
                  have hD : va_D A [oBp b_h now_h mind_h kept_h b_img rails_h sa_h, oSt now_h now_a0 now_a1 now_a2 now_a3 now_a4 now_a5 now_moving now_shut now_people now_needed now_day, ai E now_a0 10 now_height, ai E now_a1 7 now_kind, ai E now_a2 7 now_figure, ai E now_a3 7 now_rail, ai E now_a4 7 now_mood, ai E now_a5 7 now_sight, oSt mind_h mind_a0 mind_a1 mind_a2 mind_a3 mind_a4 mind_a5 y14 y26 y27 y28 y29, ai E mind_a0 10 y30, ai E mind_a1 7 y31, ai E mind_a2 7 (upd y32 p2.toNatClampNeg x12), ai E mind_a3 7 y33, ai E mind_a4 7 y34, ai E mind_a5 7 y24, aS E sa_h sh, oSh q_h q_a0 q_holds q_kind q_figure q_sort q_size, ai E q_a0 100 q_elements] := hD
                  obtain ⟨f38, ef38⟩ : ∃ z, z = (upd y32 p2.toNatClampNeg x12) := ⟨_, rfl⟩
                  rw [← ef38] at hP hD
                  have hv := nm_s ef38 hv
                  refine lv_aload_n hx hb dX9_whatIs_104 rfl (lv_at hl 3 rfl) ?_
                  refine lv_aload_n hx hb dX9_whatIs_105 rfl (lv_at hl 3 rfl) ?_
                  refine va_get (D := E.1) (ci := 3) (v := .ref sa_h) (C := RX9) (T := TX9) (N := 6) hx hb ht i_X9 hown hK hP 0 rfl rfl 5 (by decide) (ht _ kw_1_143) (fun _ h9 => h9) rfl dX9_whatIs_106 ?_
                  refine lv_iload_n hx hb dX9_whatIs_109 rfl (lv_at hl 4 rfl) ?_
                  obtain ⟨g39, hv⟩ := gd_s hv
                  refine va_aldq (C := "BalconiesParliament$Shelf") hx hb hK hP 15 1 rfl rfl (ix_s g39) dX9_whatIs_110 ?_
                  refine W.eq (g2 := F0 m 111 ls [.ref q_h, .ref b_h]) (by rw [hsh_p1 g39]; rfl) ?_
                  refine lv_iload_n hx hb dX9_whatIs_111 rfl (lv_at hl 5 rfl) ?_
                  obtain ⟨⟨r40, y41, y42, y43, y44⟩, h45, hv⟩ := ob_s hv
                  refine wrV (as := [b_h, now_h, now_a0, now_a1, now_a2, now_a3, now_a4, now_a5, mind_h, mind_a0, mind_a1, mind_a2, mind_a3, mind_a4, mind_a5, sa_h, q_h, q_a0]) (wr := [oSt now_h now_a0 now_a1 now_a2 now_a3 now_a4 now_a5 now_moving now_shut now_people now_needed now_day, ai E now_a0 10 now_height, ai E now_a1 7 now_kind, ai E now_a2 7 now_figure, ai E now_a3 7 now_rail, ai E now_a4 7 now_mood, ai E now_a5 7 now_sight, aS E sa_h sh]) [0, 8, 9, 10, 11, 12, 13, 14, 16, 17] [1, 2, 3, 4, 5, 6, 7, 15] 3 0 (ws := [oBp b_h now_h mind_h kept_h b_img rails_h sa_h, oSt now_h now_a0 now_a1 now_a2 now_a3 now_a4 now_a5 now_moving now_shut now_people now_needed now_day, ai E now_a0 10 now_height, ai E now_a1 7 now_kind, ai E now_a2 7 now_figure, ai E now_a3 7 now_rail, ai E now_a4 7 now_mood, ai E now_a5 7 now_sight, oSt mind_h mind_a0 mind_a1 mind_a2 mind_a3 mind_a4 mind_a5 y14 y26 y27 y28 y29, ai E mind_a0 10 y30, ai E mind_a1 7 y31, ai E mind_a2 7 f38, ai E mind_a3 7 y33, ai E mind_a4 7 y34, ai E mind_a5 7 y24, aS E sa_h sh, oSh q_h q_a0 q_holds q_kind q_figure q_sort q_size, ai E q_a0 100 q_elements]) (ws' := [oBp b_h now_h mind_h kept_h b_img rails_h sa_h, oSt now_h now_a0 now_a1 now_a2 now_a3 now_a4 now_a5 now_moving now_shut now_people now_needed now_day, ai E now_a0 10 now_height, ai E now_a1 7 now_kind, ai E now_a2 7 now_figure, ai E now_a3 7 now_rail, ai E now_a4 7 now_mood, ai E now_a5 7 now_sight, oSt mind_h mind_a0 mind_a1 mind_a2 mind_a3 mind_a4 mind_a5 y41 y26 y27 y28 y42, ai E mind_a0 10 y30, ai E mind_a1 7 y31, ai E mind_a2 7 f38, ai E mind_a3 7 y33, ai E mind_a4 7 y43, ai E mind_a5 7 y44, aS E sa_h sh, oSh q_h q_a0 q_holds q_kind q_figure q_sort q_size, ai E q_a0 100 q_elements]) (As := [.ref q_h, .int p2]) (rest := []) (st1 := [.int r40]) hC q_X9_feelsAsTold kw_3_115 (c_X9_feelsAsTold l E b_h now_h mind_h kept_h rails_h sa_h mind_a0 mind_a1 mind_a2 mind_a3 mind_a4 mind_a5 q_h q_a0 b_img y30 y31 f38 y33 y34 y24 y14 y26 y27 y28 y29 q_elements q_holds q_kind q_figure q_sort q_size p2 N r40 y41 y42 y43 y44 h45) ⟨rfl, rfl⟩ ⟨Nat.le_of_ble_eq_true rfl, Nat.le_of_ble_eq_true rfl⟩ ⟨Nat.zero_le _, Nat.zero_le _⟩ hP hD hS hA rfl rfl rfl hG (by decide) rfl rfl rfl rfl rfl rfl rfl rfl hl.1 rfl (Nat.le_of_ble_eq_true rfl) dX9_whatIs_112 rfl (fun H locs hP hD hS => ?_)
                  refine lv_if_eq (tgt := 127) hx hb dX9_whatIs_115 (by decide) (fun c46 => ?_) (fun c46 => ?_)
                  · have hv := if_y c46 hv
                    refine lv_iinc (v := (x12 + (1 : Int32))) (lv' := [(7, .int (x12 + (1 : Int32))), (6, .int (10 : Int32)), (5, .int x13), (0, .ref b_h), (1, .int p1), (2, .int p2), (3, .int p3)]) hx hb dX9_whatIs_127 hl (k := 0) rfl rfl (by decide) rfl (fun ls hl => ?_)
                    refine lv_goto (tgt := 57) hx hb dX9_whatIs_130 (by decide) ?_
                    exact ih57 (x12 + (1 : Int32)) x13 y41 y26 y27 y28 y42 y30 y31 f38 y33 y43 y44 _ _ _ hP hD hS (lv_sub hl [0, 1, 2, 3, 4, 5, 6] rfl) hv
                  · have hv := if_n c46 hv
                    refine lv_iload hx hb dX9_whatIs_118 (lv_at hl 2 rfl) ?_
                    refine lv_iconst (v := (1 : Int32)) hx hb dX9_whatIs_120 (by decide) ?_
                    refine lv_iload hx hb dX9_whatIs_121 (lv_at hl 0 rfl) ?_
                    refine lv_ishl hx hb dX9_whatIs_123 ?_
                    refine lv_ior hx hb dX9_whatIs_124 ?_
                    refine lv_topi (fun z47 ez47 => ?_)
                    have hv := nm_s ez47 hv
                    refine lv_istore (lv' := [(5, .int z47), (7, .int x12), (6, .int (10 : Int32)), (0, .ref b_h), (1, .int p1), (2, .int p2), (3, .int p3)]) hx hb dX9_whatIs_125 hl (by decide) rfl (fun ls hl => ?_)
                    refine lv_iinc (v := (x12 + (1 : Int32))) (lv' := [(7, .int (x12 + (1 : Int32))), (5, .int z47), (6, .int (10 : Int32)), (0, .ref b_h), (1, .int p1), (2, .int p2), (3, .int p3)]) hx hb dX9_whatIs_127 hl (k := 1) rfl rfl (by decide) rfl (fun ls hl => ?_)
                    refine lv_goto (tgt := 57) hx hb dX9_whatIs_130 (by decide) ?_
                    exact ih57 (x12 + (1 : Int32)) z47 y41 y26 y27 y28 y42 y30 y31 f38 y33 y43 y44 _ _ _ hP hD hS (lv_sub hl [0, 2, 1, 3, 4, 5, 6] rfl) hv
                · have hv := if_y c36 hv
                  refine lv_aload_n hx hb dX9_whatIs_79 rfl (lv_at hl 3 rfl) ?_
                  refine va_get (D := E.1) (ci := 3) (v := .ref mind_h) (C := RX9) (T := TX9) (N := 6) hx hb ht i_X9 hown hK hP 0 rfl rfl 1 (by decide) (ht _ kw_1_139) (fun _ h9 => h9) rfl dX9_whatIs_80 ?_
                  refine va_get (D := E.1) (ci := 2) (v := .ref mind_a1) (C := RX8) (T := TX8) (N := 11) hx hb ht i_X8 hown hK hP 8 rfl rfl 1 (by decide) (ht _ kw_1_40) (fun _ h9 => h9) rfl dX9_whatIs_83 ?_
                  refine lv_iload_n hx hb dX9_whatIs_86 rfl (lv_at hl 5 rfl) ?_
                  refine lv_iload hx hb dX9_whatIs_87 (lv_at hl 0 rfl) ?_
                  obtain ⟨g48, hv⟩ := gd_s hv
                  refine va_iast hx hb hK hP hD hS 10 0 rfl rfl (ix_s g48) dX9_whatIs_89 (fun H locs hP hD hS => ?_)
                  have hP : va_P E.1 vwCl [oBp b_h now_h mind_h kept_h b_img rails_h sa_h, oSt now_h now_a0 now_a1 now_a2 now_a3 now_a4 now_a5 now_moving now_shut now_people now_needed now_day, ai E now_a0 10 now_height, ai E now_a1 7 now_kind, ai E now_a2 7 now_figure, ai E now_a3 7 now_rail, ai E now_a4 7 now_mood, ai E now_a5 7 now_sight, oSt mind_h mind_a0 mind_a1 mind_a2 mind_a3 mind_a4 mind_a5 y14 y26 y27 y28 y29, ai E mind_a0 10 y30, ai E mind_a1 7 (upd y31 p2.toNatClampNeg x12), ai E mind_a2 7 y32, ai E mind_a3 7 y33, ai E mind_a4 7 y34, ai E mind_a5 7 y24, aS E sa_h sh, oSh q_h q_a0 q_holds q_kind q_figure q_sort q_size, ai E q_a0 100 q_elements] H := hP
                  have hD : va_D A [oBp b_h now_h mind_h kept_h b_img rails_h sa_h, oSt now_h now_a0 now_a1 now_a2 now_a3 now_a4 now_a5 now_moving now_shut now_people now_needed now_day, ai E now_a0 10 now_height, ai E now_a1 7 now_kind, ai E now_a2 7 now_figure, ai E now_a3 7 now_rail, ai E now_a4 7 now_mood, ai E now_a5 7 now_sight, oSt mind_h mind_a0 mind_a1 mind_a2 mind_a3 mind_a4 mind_a5 y14 y26 y27 y28 y29, ai E mind_a0 10 y30, ai E mind_a1 7 (upd y31 p2.toNatClampNeg x12), ai E mind_a2 7 y32, ai E mind_a3 7 y33, ai E mind_a4 7 y34, ai E mind_a5 7 y24, aS E sa_h sh, oSh q_h q_a0 q_holds q_kind q_figure q_sort q_size, ai E q_a0 100 q_elements] := hD
                  obtain ⟨f49, ef49⟩ : ∃ z, z = (upd y31 p2.toNatClampNeg x12) := ⟨_, rfl⟩
                  rw [← ef49] at hP hD
                  have hv := nm_s ef49 hv
                  refine lv_goto (tgt := 104) hx hb dX9_whatIs_90 (by decide) ?_
                  refine lv_aload_n hx hb dX9_whatIs_104 rfl (lv_at hl 3 rfl) ?_
                  refine lv_aload_n hx hb dX9_whatIs_105 rfl (lv_at hl 3 rfl) ?_
                  refine va_get (D := E.1) (ci := 3) (v := .ref sa_h) (C := RX9) (T := TX9) (N := 6) hx hb ht i_X9 hown hK hP 0 rfl rfl 5 (by decide) (ht _ kw_1_143) (fun _ h9 => h9) rfl dX9_whatIs_106 ?_
                  refine lv_iload_n hx hb dX9_whatIs_109 rfl (lv_at hl 4 rfl) ?_
                  obtain ⟨g50, hv⟩ := gd_s hv
                  refine va_aldq (C := "BalconiesParliament$Shelf") hx hb hK hP 15 1 rfl rfl (ix_s g50) dX9_whatIs_110 ?_
                  refine W.eq (g2 := F0 m 111 ls [.ref q_h, .ref b_h]) (by rw [hsh_p1 g50]; rfl) ?_
                  refine lv_iload_n hx hb dX9_whatIs_111 rfl (lv_at hl 5 rfl) ?_
                  obtain ⟨⟨r51, y52, y53, y54, y55⟩, h56, hv⟩ := ob_s hv
                  refine wrV (as := [b_h, now_h, now_a0, now_a1, now_a2, now_a3, now_a4, now_a5, mind_h, mind_a0, mind_a1, mind_a2, mind_a3, mind_a4, mind_a5, sa_h, q_h, q_a0]) (wr := [oSt now_h now_a0 now_a1 now_a2 now_a3 now_a4 now_a5 now_moving now_shut now_people now_needed now_day, ai E now_a0 10 now_height, ai E now_a1 7 now_kind, ai E now_a2 7 now_figure, ai E now_a3 7 now_rail, ai E now_a4 7 now_mood, ai E now_a5 7 now_sight, aS E sa_h sh]) [0, 8, 9, 10, 11, 12, 13, 14, 16, 17] [1, 2, 3, 4, 5, 6, 7, 15] 3 0 (ws := [oBp b_h now_h mind_h kept_h b_img rails_h sa_h, oSt now_h now_a0 now_a1 now_a2 now_a3 now_a4 now_a5 now_moving now_shut now_people now_needed now_day, ai E now_a0 10 now_height, ai E now_a1 7 now_kind, ai E now_a2 7 now_figure, ai E now_a3 7 now_rail, ai E now_a4 7 now_mood, ai E now_a5 7 now_sight, oSt mind_h mind_a0 mind_a1 mind_a2 mind_a3 mind_a4 mind_a5 y14 y26 y27 y28 y29, ai E mind_a0 10 y30, ai E mind_a1 7 f49, ai E mind_a2 7 y32, ai E mind_a3 7 y33, ai E mind_a4 7 y34, ai E mind_a5 7 y24, aS E sa_h sh, oSh q_h q_a0 q_holds q_kind q_figure q_sort q_size, ai E q_a0 100 q_elements]) (ws' := [oBp b_h now_h mind_h kept_h b_img rails_h sa_h, oSt now_h now_a0 now_a1 now_a2 now_a3 now_a4 now_a5 now_moving now_shut now_people now_needed now_day, ai E now_a0 10 now_height, ai E now_a1 7 now_kind, ai E now_a2 7 now_figure, ai E now_a3 7 now_rail, ai E now_a4 7 now_mood, ai E now_a5 7 now_sight, oSt mind_h mind_a0 mind_a1 mind_a2 mind_a3 mind_a4 mind_a5 y52 y26 y27 y28 y53, ai E mind_a0 10 y30, ai E mind_a1 7 f49, ai E mind_a2 7 y32, ai E mind_a3 7 y33, ai E mind_a4 7 y54, ai E mind_a5 7 y55, aS E sa_h sh, oSh q_h q_a0 q_holds q_kind q_figure q_sort q_size, ai E q_a0 100 q_elements]) (As := [.ref q_h, .int p2]) (rest := []) (st1 := [.int r51]) hC q_X9_feelsAsTold kw_3_115 (c_X9_feelsAsTold l E b_h now_h mind_h kept_h rails_h sa_h mind_a0 mind_a1 mind_a2 mind_a3 mind_a4 mind_a5 q_h q_a0 b_img y30 f49 y32 y33 y34 y24 y14 y26 y27 y28 y29 q_elements q_holds q_kind q_figure q_sort q_size p2 N r51 y52 y53 y54 y55 h56) ⟨rfl, rfl⟩ ⟨Nat.le_of_ble_eq_true rfl, Nat.le_of_ble_eq_true rfl⟩ ⟨Nat.zero_le _, Nat.zero_le _⟩ hP hD hS hA rfl rfl rfl hG (by decide) rfl rfl rfl rfl rfl rfl rfl rfl hl.1 rfl (Nat.le_of_ble_eq_true rfl) dX9_whatIs_112 rfl (fun H locs hP hD hS => ?_)
                  refine lv_if_eq (tgt := 127) hx hb dX9_whatIs_115 (by decide) (fun c57 => ?_) (fun c57 => ?_)
                  · have hv := if_y c57 hv
                    refine lv_iinc (v := (x12 + (1 : Int32))) (lv' := [(7, .int (x12 + (1 : Int32))), (6, .int (10 : Int32)), (5, .int x13), (0, .ref b_h), (1, .int p1), (2, .int p2), (3, .int p3)]) hx hb dX9_whatIs_127 hl (k := 0) rfl rfl (by decide) rfl (fun ls hl => ?_)
                    refine lv_goto (tgt := 57) hx hb dX9_whatIs_130 (by decide) ?_
                    exact ih57 (x12 + (1 : Int32)) x13 y52 y26 y27 y28 y53 y30 f49 y32 y33 y54 y55 _ _ _ hP hD hS (lv_sub hl [0, 1, 2, 3, 4, 5, 6] rfl) hv
                  · have hv := if_n c57 hv
                    refine lv_iload hx hb dX9_whatIs_118 (lv_at hl 2 rfl) ?_
                    refine lv_iconst (v := (1 : Int32)) hx hb dX9_whatIs_120 (by decide) ?_
                    refine lv_iload hx hb dX9_whatIs_121 (lv_at hl 0 rfl) ?_
                    refine lv_ishl hx hb dX9_whatIs_123 ?_
                    refine lv_ior hx hb dX9_whatIs_124 ?_
                    refine lv_topi (fun z58 ez58 => ?_)
                    have hv := nm_s ez58 hv
                    refine lv_istore (lv' := [(5, .int z58), (7, .int x12), (6, .int (10 : Int32)), (0, .ref b_h), (1, .int p1), (2, .int p2), (3, .int p3)]) hx hb dX9_whatIs_125 hl (by decide) rfl (fun ls hl => ?_)
                    refine lv_iinc (v := (x12 + (1 : Int32))) (lv' := [(7, .int (x12 + (1 : Int32))), (5, .int z58), (6, .int (10 : Int32)), (0, .ref b_h), (1, .int p1), (2, .int p2), (3, .int p3)]) hx hb dX9_whatIs_127 hl (k := 1) rfl rfl (by decide) rfl (fun ls hl => ?_)
                    refine lv_goto (tgt := 57) hx hb dX9_whatIs_130 (by decide) ?_
                    exact ih57 (x12 + (1 : Int32)) z58 y52 y26 y27 y28 y53 y30 f49 y32 y33 y54 y55 _ _ _ hP hD hS (lv_sub hl [0, 2, 1, 3, 4, 5, 6] rfl) hv
          exact hL57 N (0 : Int32) (0 : Int32) mind_moving mind_shut mind_people mind_needed mind_day mind_height mind_kind mind_figure mind_rail mind_mood mind_sight _ _ _ hP hD hS (lv_sub hl [0, 1, 2, 4, 5, 6, 7] rfl) hv
        · have hv := if_y c11 hv
          refine lv_bipush (v := (8 : Int32)) hx hb dX9_whatIs_45 (by decide) ?_
          refine lv_goto (tgt := 52) hx hb dX9_whatIs_47 (by decide) ?_
          refine lv_istore (lv' := [(6, .int (8 : Int32)), (5, .int (0 : Int32)), (4, .int r8), (0, .ref b_h), (1, .int p1), (2, .int p2), (3, .int p3)]) hx hb dX9_whatIs_52 hl (by decide) rfl (fun ls hl => ?_)
          refine lv_iconst (v := (0 : Int32)) hx hb dX9_whatIs_54 (by decide) ?_
          refine lv_istore (lv' := [(7, .int (0 : Int32)), (6, .int (8 : Int32)), (5, .int (0 : Int32)), (4, .int r8), (0, .ref b_h), (1, .int p1), (2, .int p2), (3, .int p3)]) hx hb dX9_whatIs_55 hl (by decide) rfl (fun ls hl => ?_)
          have hL57 : ∀ (n : Nat) (x59 : Int32) (x60 : Int32) (y61 : Int32) (y62 : Int32) (y63 : Int32) (y64 : Int32) (y65 : Int32) (y66 : Nat → Int32) (y67 : Nat → Int32) (y68 : Nat → Int32) (y69 : Nat → Int32) (y70 : Nat → Int32) (y71 : Nat → Int32) (H : Heap) (locs : List Loc) (ls : Array Slot), va_P E.1 vwCl [oBp b_h now_h mind_h kept_h b_img rails_h sa_h, oSt now_h now_a0 now_a1 now_a2 now_a3 now_a4 now_a5 now_moving now_shut now_people now_needed now_day, ai E now_a0 10 now_height, ai E now_a1 7 now_kind, ai E now_a2 7 now_figure, ai E now_a3 7 now_rail, ai E now_a4 7 now_mood, ai E now_a5 7 now_sight, oSt mind_h mind_a0 mind_a1 mind_a2 mind_a3 mind_a4 mind_a5 y61 y62 y63 y64 y65, ai E mind_a0 10 y66, ai E mind_a1 7 y67, ai E mind_a2 7 y68, ai E mind_a3 7 y69, ai E mind_a4 7 y70, ai E mind_a5 7 y71, aS E sa_h sh, oSh q_h q_a0 q_holds q_kind q_figure q_sort q_size, ai E q_a0 100 q_elements] H → va_D A [oBp b_h now_h mind_h kept_h b_img rails_h sa_h, oSt now_h now_a0 now_a1 now_a2 now_a3 now_a4 now_a5 now_moving now_shut now_people now_needed now_day, ai E now_a0 10 now_height, ai E now_a1 7 now_kind, ai E now_a2 7 now_figure, ai E now_a3 7 now_rail, ai E now_a4 7 now_mood, ai E now_a5 7 now_sight, oSt mind_h mind_a0 mind_a1 mind_a2 mind_a3 mind_a4 mind_a5 y61 y62 y63 y64 y65, ai E mind_a0 10 y66, ai E mind_a1 7 y67, ai E mind_a2 7 y68, ai E mind_a3 7 y69, ai E mind_a4 7 y70, ai E mind_a5 7 y71, aS E sa_h sh, oSh q_h q_a0 q_holds q_kind q_figure q_sort q_size, ai E q_a0 100 q_elements] → va_S A s.heap H locs → lv_has ls 8 [(7, .int x59), (6, .int (8 : Int32)), (5, .int x60), (0, .ref b_h), (1, .int p1), (2, .int p2), (3, .int p3)] → L_X9_whatIs_57_2 N now_height now_kind now_figure now_rail now_mood now_shut now_people now_needed now_day q_elements q_sort q_size p1 p2 p3 n x59 x60 y61 y62 y63 y64 y65 y66 y67 y68 y69 y70 y71 = some (res, w_mind_moving, w_mind_shut, w_mind_people, w_mind_needed, w_mind_day, w_mind_height, w_mind_kind, w_mind_figure, w_mind_rail, w_mind_mood, w_mind_sight) → W p l e ({ frames := 4, cells := 0, slots := 0, locals := 90 }) s m [.ref b_h, .int p1, .int p2, .int p3].toArray below meth c H locs 0 0 (MQ below (fun _ st oc t => oc = .returned (some (.int res)) ∧ va_P E.1 vwCl [oBp b_h now_h mind_h kept_h b_img rails_h sa_h, oSt now_h now_a0 now_a1 now_a2 now_a3 now_a4 now_a5 now_moving now_shut now_people now_needed now_day, ai E now_a0 10 now_height, ai E now_a1 7 now_kind, ai E now_a2 7 now_figure, ai E now_a3 7 now_rail, ai E now_a4 7 now_mood, ai E now_a5 7 now_sight, oSt mind_h mind_a0 mind_a1 mind_a2 mind_a3 mind_a4 mind_a5 w_mind_moving w_mind_shut w_mind_people w_mind_needed w_mind_day, ai E mind_a0 10 w_mind_height, ai E mind_a1 7 w_mind_kind, ai E mind_a2 7 w_mind_figure, ai E mind_a3 7 w_mind_rail, ai E mind_a4 7 w_mind_mood, ai E mind_a5 7 w_mind_sight, aS E sa_h sh, oSh q_h q_a0 q_holds q_kind q_figure q_sort q_size, ai E q_a0 100 q_elements] t.heap ∧ va_F A st t) [.ref b_h, .int p1, .int p2, .int p3].toArray s 0 0 A) (F0 m 57 ls []) := by
            intro n
            induction n with
            | zero => intro x59 x60 y61 y62 y63 y64 y65 y66 y67 y68 y69 y70 y71 H locs ls hP hD hS hl hv; cases hv
            | succ n57 ih57 =>
              intro x59 x60 y61 y62 y63 y64 y65 y66 y67 y68 y69 y70 y71 H locs ls hP hD hS hl hv
              rw [L_X9_whatIs_57_2] at hv
              refine lv_iload hx hb dX9_whatIs_57 (lv_at hl 0 rfl) ?_
              refine lv_iload hx hb dX9_whatIs_59 (lv_at hl 1 rfl) ?_
              refine lv_icmp_ge (tgt := 133) hx hb dX9_whatIs_61 (by decide) (fun c72 => ?_) (fun c72 => ?_)
              · have hv := if_y c72 hv
                refine lv_iload hx hb dX9_whatIs_133 (lv_at hl 2 rfl) ?_
                cases hv
                exact W.iret hx hb hr (fun t h9 _ => ⟨rfl, by rw [h9]; exact hP, hS.F h9⟩) hS.2.2 dX9_whatIs_135 hlk
              · have hv := if_n c72 hv
                refine lv_aload_n hx hb dX9_whatIs_64 rfl (lv_at hl 3 rfl) ?_
                refine va_get (D := E.1) (ci := 3) (v := .ref mind_h) (C := RX9) (T := TX9) (N := 6) hx hb ht i_X9 hown hK hP 0 rfl rfl 1 (by decide) (ht _ kw_1_139) (fun _ h9 => h9) rfl dX9_whatIs_65 ?_
                refine lv_aload_n hx hb dX9_whatIs_68 rfl (lv_at hl 3 rfl) ?_
                refine va_get (D := E.1) (ci := 3) (v := .ref now_h) (C := RX9) (T := TX9) (N := 6) hx hb ht i_X9 hown hK hP 0 rfl rfl 0 (by decide) (ht _ kw_1_138) (fun _ h9 => h9) rfl dX9_whatIs_69 ?_
                obtain ⟨⟨y73, y74, y75, y76, y77, y78, y79, y80, y81⟩, h82, hv⟩ := ob_s hv
                refine wrV (as := [b_h, now_h, now_a0, now_a1, now_a2, now_a3, now_a4, now_a5, mind_h, mind_a0, mind_a1, mind_a2, mind_a3, mind_a4, mind_a5, sa_h, q_h, q_a0]) (wr := [oBp b_h now_h mind_h kept_h b_img rails_h sa_h, aS E sa_h sh, oSh q_h q_a0 q_holds q_kind q_figure q_sort q_size, ai E q_a0 100 q_elements]) [8, 9, 10, 11, 12, 13, 14, 1, 2, 3, 4, 5, 6, 7] [0, 15, 16, 17] 2 0 (ws := [oBp b_h now_h mind_h kept_h b_img rails_h sa_h, oSt now_h now_a0 now_a1 now_a2 now_a3 now_a4 now_a5 now_moving now_shut now_people now_needed now_day, ai E now_a0 10 now_height, ai E now_a1 7 now_kind, ai E now_a2 7 now_figure, ai E now_a3 7 now_rail, ai E now_a4 7 now_mood, ai E now_a5 7 now_sight, oSt mind_h mind_a0 mind_a1 mind_a2 mind_a3 mind_a4 mind_a5 y61 y62 y63 y64 y65, ai E mind_a0 10 y66, ai E mind_a1 7 y67, ai E mind_a2 7 y68, ai E mind_a3 7 y69, ai E mind_a4 7 y70, ai E mind_a5 7 y71, aS E sa_h sh, oSh q_h q_a0 q_holds q_kind q_figure q_sort q_size, ai E q_a0 100 q_elements]) (ws' := [oBp b_h now_h mind_h kept_h b_img rails_h sa_h, oSt now_h now_a0 now_a1 now_a2 now_a3 now_a4 now_a5 now_moving now_shut now_people now_needed now_day, ai E now_a0 10 now_height, ai E now_a1 7 now_kind, ai E now_a2 7 now_figure, ai E now_a3 7 now_rail, ai E now_a4 7 now_mood, ai E now_a5 7 now_sight, oSt mind_h mind_a0 mind_a1 mind_a2 mind_a3 mind_a4 mind_a5 y61 y73 y74 y75 y76, ai E mind_a0 10 y77, ai E mind_a1 7 y78, ai E mind_a2 7 y79, ai E mind_a3 7 y80, ai E mind_a4 7 y81, ai E mind_a5 7 y71, aS E sa_h sh, oSh q_h q_a0 q_holds q_kind q_figure q_sort q_size, ai E q_a0 100 q_elements]) (As := [.ref now_h]) (rest := []) (st1 := []) hC q_X8_become kw_1_171 (c_X8_become l E mind_h mind_a0 mind_a1 mind_a2 mind_a3 mind_a4 mind_a5 now_h now_a0 now_a1 now_a2 now_a3 now_a4 now_a5 y66 y67 y68 y69 y70 y71 y61 y62 y63 y64 y65 now_height now_kind now_figure now_rail now_mood now_sight now_moving now_shut now_people now_needed now_day y73 y74 y75 y76 y77 y78 y79 y80 y81 h82) ⟨rfl, rfl⟩ ⟨Nat.le_of_ble_eq_true rfl, Nat.le_of_ble_eq_true rfl⟩ ⟨Nat.zero_le _, Nat.zero_le _⟩ hP hD hS hA rfl rfl rfl hG (by decide) rfl rfl rfl rfl rfl rfl rfl rfl hl.1 rfl (Nat.le_of_ble_eq_true rfl) dX9_whatIs_72 rfl (fun H locs hP hD hS => ?_)
                refine lv_iload_n hx hb dX9_whatIs_75 rfl (lv_at hl 6 rfl) ?_
                refine lv_if_ne (tgt := 93) hx hb dX9_whatIs_76 (by decide) (fun c83 => ?_) (fun c83 => ?_)
                · have hv := if_n c83 hv
                  refine lv_aload_n hx hb dX9_whatIs_93 rfl (lv_at hl 3 rfl) ?_
                  refine va_get (D := E.1) (ci := 3) (v := .ref mind_h) (C := RX9) (T := TX9) (N := 6) hx hb ht i_X9 hown hK hP 0 rfl rfl 1 (by decide) (ht _ kw_1_139) (fun _ h9 => h9) rfl dX9_whatIs_94 ?_
                  refine va_get (D := E.1) (ci := 2) (v := .ref mind_a2) (C := RX8) (T := TX8) (N := 11) hx hb ht i_X8 hown hK hP 8 rfl rfl 2 (by decide) (ht _ kw_1_42) (fun _ h9 => h9) rfl dX9_whatIs_97 ?_
                  refine lv_iload_n hx hb dX9_whatIs_100 rfl (lv_at hl 5 rfl) ?_
                  refine lv_iload hx hb dX9_whatIs_101 (lv_at hl 0 rfl) ?_
                  obtain ⟨g84, hv⟩ := gd_s hv
                  refine va_iast hx hb hK hP hD hS 11 0 rfl rfl (ix_s g84) dX9_whatIs_103 (fun H locs hP hD hS => ?_)
                  have hP : va_P E.1 vwCl [oBp b_h now_h mind_h kept_h b_img rails_h sa_h, oSt now_h now_a0 now_a1 now_a2 now_a3 now_a4 now_a5 now_moving now_shut now_people now_needed now_day, ai E now_a0 10 now_height, ai E now_a1 7 now_kind, ai E now_a2 7 now_figure, ai E now_a3 7 now_rail, ai E now_a4 7 now_mood, ai E now_a5 7 now_sight, oSt mind_h mind_a0 mind_a1 mind_a2 mind_a3 mind_a4 mind_a5 y61 y73 y74 y75 y76, ai E mind_a0 10 y77, ai E mind_a1 7 y78, ai E mind_a2 7 (upd y79 p2.toNatClampNeg x59), ai E mind_a3 7 y80, ai E mind_a4 7 y81, ai E mind_a5 7 y71, aS E sa_h sh, oSh q_h q_a0 q_holds q_kind q_figure q_sort q_size, ai E q_a0 100 q_elements] H := hP
                  have hD : va_D A [oBp b_h now_h mind_h kept_h b_img rails_h sa_h, oSt now_h now_a0 now_a1 now_a2 now_a3 now_a4 now_a5 now_moving now_shut now_people now_needed now_day, ai E now_a0 10 now_height, ai E now_a1 7 now_kind, ai E now_a2 7 now_figure, ai E now_a3 7 now_rail, ai E now_a4 7 now_mood, ai E now_a5 7 now_sight, oSt mind_h mind_a0 mind_a1 mind_a2 mind_a3 mind_a4 mind_a5 y61 y73 y74 y75 y76, ai E mind_a0 10 y77, ai E mind_a1 7 y78, ai E mind_a2 7 (upd y79 p2.toNatClampNeg x59), ai E mind_a3 7 y80, ai E mind_a4 7 y81, ai E mind_a5 7 y71, aS E sa_h sh, oSh q_h q_a0 q_holds q_kind q_figure q_sort q_size, ai E q_a0 100 q_elements] := hD
                  obtain ⟨f85, ef85⟩ : ∃ z, z = (upd y79 p2.toNatClampNeg x59) := ⟨_, rfl⟩
                  rw [← ef85] at hP hD
                  have hv := nm_s ef85 hv
                  refine lv_aload_n hx hb dX9_whatIs_104 rfl (lv_at hl 3 rfl) ?_
                  refine lv_aload_n hx hb dX9_whatIs_105 rfl (lv_at hl 3 rfl) ?_
                  refine va_get (D := E.1) (ci := 3) (v := .ref sa_h) (C := RX9) (T := TX9) (N := 6) hx hb ht i_X9 hown hK hP 0 rfl rfl 5 (by decide) (ht _ kw_1_143) (fun _ h9 => h9) rfl dX9_whatIs_106 ?_
                  refine lv_iload_n hx hb dX9_whatIs_109 rfl (lv_at hl 4 rfl) ?_
                  obtain ⟨g86, hv⟩ := gd_s hv
                  refine va_aldq (C := "BalconiesParliament$Shelf") hx hb hK hP 15 1 rfl rfl (ix_s g86) dX9_whatIs_110 ?_
                  refine W.eq (g2 := F0 m 111 ls [.ref q_h, .ref b_h]) (by rw [hsh_p1 g86]; rfl) ?_
                  refine lv_iload_n hx hb dX9_whatIs_111 rfl (lv_at hl 5 rfl) ?_
                  obtain ⟨⟨r87, y88, y89, y90, y91⟩, h92, hv⟩ := ob_s hv
                  refine wrV (as := [b_h, now_h, now_a0, now_a1, now_a2, now_a3, now_a4, now_a5, mind_h, mind_a0, mind_a1, mind_a2, mind_a3, mind_a4, mind_a5, sa_h, q_h, q_a0]) (wr := [oSt now_h now_a0 now_a1 now_a2 now_a3 now_a4 now_a5 now_moving now_shut now_people now_needed now_day, ai E now_a0 10 now_height, ai E now_a1 7 now_kind, ai E now_a2 7 now_figure, ai E now_a3 7 now_rail, ai E now_a4 7 now_mood, ai E now_a5 7 now_sight, aS E sa_h sh]) [0, 8, 9, 10, 11, 12, 13, 14, 16, 17] [1, 2, 3, 4, 5, 6, 7, 15] 3 0 (ws := [oBp b_h now_h mind_h kept_h b_img rails_h sa_h, oSt now_h now_a0 now_a1 now_a2 now_a3 now_a4 now_a5 now_moving now_shut now_people now_needed now_day, ai E now_a0 10 now_height, ai E now_a1 7 now_kind, ai E now_a2 7 now_figure, ai E now_a3 7 now_rail, ai E now_a4 7 now_mood, ai E now_a5 7 now_sight, oSt mind_h mind_a0 mind_a1 mind_a2 mind_a3 mind_a4 mind_a5 y61 y73 y74 y75 y76, ai E mind_a0 10 y77, ai E mind_a1 7 y78, ai E mind_a2 7 f85, ai E mind_a3 7 y80, ai E mind_a4 7 y81, ai E mind_a5 7 y71, aS E sa_h sh, oSh q_h q_a0 q_holds q_kind q_figure q_sort q_size, ai E q_a0 100 q_elements]) (ws' := [oBp b_h now_h mind_h kept_h b_img rails_h sa_h, oSt now_h now_a0 now_a1 now_a2 now_a3 now_a4 now_a5 now_moving now_shut now_people now_needed now_day, ai E now_a0 10 now_height, ai E now_a1 7 now_kind, ai E now_a2 7 now_figure, ai E now_a3 7 now_rail, ai E now_a4 7 now_mood, ai E now_a5 7 now_sight, oSt mind_h mind_a0 mind_a1 mind_a2 mind_a3 mind_a4 mind_a5 y88 y73 y74 y75 y89, ai E mind_a0 10 y77, ai E mind_a1 7 y78, ai E mind_a2 7 f85, ai E mind_a3 7 y80, ai E mind_a4 7 y90, ai E mind_a5 7 y91, aS E sa_h sh, oSh q_h q_a0 q_holds q_kind q_figure q_sort q_size, ai E q_a0 100 q_elements]) (As := [.ref q_h, .int p2]) (rest := []) (st1 := [.int r87]) hC q_X9_feelsAsTold kw_3_115 (c_X9_feelsAsTold l E b_h now_h mind_h kept_h rails_h sa_h mind_a0 mind_a1 mind_a2 mind_a3 mind_a4 mind_a5 q_h q_a0 b_img y77 y78 f85 y80 y81 y71 y61 y73 y74 y75 y76 q_elements q_holds q_kind q_figure q_sort q_size p2 N r87 y88 y89 y90 y91 h92) ⟨rfl, rfl⟩ ⟨Nat.le_of_ble_eq_true rfl, Nat.le_of_ble_eq_true rfl⟩ ⟨Nat.zero_le _, Nat.zero_le _⟩ hP hD hS hA rfl rfl rfl hG (by decide) rfl rfl rfl rfl rfl rfl rfl rfl hl.1 rfl (Nat.le_of_ble_eq_true rfl) dX9_whatIs_112 rfl (fun H locs hP hD hS => ?_)
                  refine lv_if_eq (tgt := 127) hx hb dX9_whatIs_115 (by decide) (fun c93 => ?_) (fun c93 => ?_)
                  · have hv := if_y c93 hv
                    refine lv_iinc (v := (x59 + (1 : Int32))) (lv' := [(7, .int (x59 + (1 : Int32))), (6, .int (8 : Int32)), (5, .int x60), (0, .ref b_h), (1, .int p1), (2, .int p2), (3, .int p3)]) hx hb dX9_whatIs_127 hl (k := 0) rfl rfl (by decide) rfl (fun ls hl => ?_)
                    refine lv_goto (tgt := 57) hx hb dX9_whatIs_130 (by decide) ?_
                    exact ih57 (x59 + (1 : Int32)) x60 y88 y73 y74 y75 y89 y77 y78 f85 y80 y90 y91 _ _ _ hP hD hS (lv_sub hl [0, 1, 2, 3, 4, 5, 6] rfl) hv
                  · have hv := if_n c93 hv
                    refine lv_iload hx hb dX9_whatIs_118 (lv_at hl 2 rfl) ?_
                    refine lv_iconst (v := (1 : Int32)) hx hb dX9_whatIs_120 (by decide) ?_
                    refine lv_iload hx hb dX9_whatIs_121 (lv_at hl 0 rfl) ?_
                    refine lv_ishl hx hb dX9_whatIs_123 ?_
                    refine lv_ior hx hb dX9_whatIs_124 ?_
                    refine lv_topi (fun z94 ez94 => ?_)
                    have hv := nm_s ez94 hv
                    refine lv_istore (lv' := [(5, .int z94), (7, .int x59), (6, .int (8 : Int32)), (0, .ref b_h), (1, .int p1), (2, .int p2), (3, .int p3)]) hx hb dX9_whatIs_125 hl (by decide) rfl (fun ls hl => ?_)
                    refine lv_iinc (v := (x59 + (1 : Int32))) (lv' := [(7, .int (x59 + (1 : Int32))), (5, .int z94), (6, .int (8 : Int32)), (0, .ref b_h), (1, .int p1), (2, .int p2), (3, .int p3)]) hx hb dX9_whatIs_127 hl (k := 1) rfl rfl (by decide) rfl (fun ls hl => ?_)
                    refine lv_goto (tgt := 57) hx hb dX9_whatIs_130 (by decide) ?_
                    exact ih57 (x59 + (1 : Int32)) z94 y88 y73 y74 y75 y89 y77 y78 f85 y80 y90 y91 _ _ _ hP hD hS (lv_sub hl [0, 2, 1, 3, 4, 5, 6] rfl) hv
                · have hv := if_y c83 hv
                  refine lv_aload_n hx hb dX9_whatIs_79 rfl (lv_at hl 3 rfl) ?_
                  refine va_get (D := E.1) (ci := 3) (v := .ref mind_h) (C := RX9) (T := TX9) (N := 6) hx hb ht i_X9 hown hK hP 0 rfl rfl 1 (by decide) (ht _ kw_1_139) (fun _ h9 => h9) rfl dX9_whatIs_80 ?_
                  refine va_get (D := E.1) (ci := 2) (v := .ref mind_a1) (C := RX8) (T := TX8) (N := 11) hx hb ht i_X8 hown hK hP 8 rfl rfl 1 (by decide) (ht _ kw_1_40) (fun _ h9 => h9) rfl dX9_whatIs_83 ?_
                  refine lv_iload_n hx hb dX9_whatIs_86 rfl (lv_at hl 5 rfl) ?_
                  refine lv_iload hx hb dX9_whatIs_87 (lv_at hl 0 rfl) ?_
                  obtain ⟨g95, hv⟩ := gd_s hv
                  refine va_iast hx hb hK hP hD hS 10 0 rfl rfl (ix_s g95) dX9_whatIs_89 (fun H locs hP hD hS => ?_)
                  have hP : va_P E.1 vwCl [oBp b_h now_h mind_h kept_h b_img rails_h sa_h, oSt now_h now_a0 now_a1 now_a2 now_a3 now_a4 now_a5 now_moving now_shut now_people now_needed now_day, ai E now_a0 10 now_height, ai E now_a1 7 now_kind, ai E now_a2 7 now_figure, ai E now_a3 7 now_rail, ai E now_a4 7 now_mood, ai E now_a5 7 now_sight, oSt mind_h mind_a0 mind_a1 mind_a2 mind_a3 mind_a4 mind_a5 y61 y73 y74 y75 y76, ai E mind_a0 10 y77, ai E mind_a1 7 (upd y78 p2.toNatClampNeg x59), ai E mind_a2 7 y79, ai E mind_a3 7 y80, ai E mind_a4 7 y81, ai E mind_a5 7 y71, aS E sa_h sh, oSh q_h q_a0 q_holds q_kind q_figure q_sort q_size, ai E q_a0 100 q_elements] H := hP
                  have hD : va_D A [oBp b_h now_h mind_h kept_h b_img rails_h sa_h, oSt now_h now_a0 now_a1 now_a2 now_a3 now_a4 now_a5 now_moving now_shut now_people now_needed now_day, ai E now_a0 10 now_height, ai E now_a1 7 now_kind, ai E now_a2 7 now_figure, ai E now_a3 7 now_rail, ai E now_a4 7 now_mood, ai E now_a5 7 now_sight, oSt mind_h mind_a0 mind_a1 mind_a2 mind_a3 mind_a4 mind_a5 y61 y73 y74 y75 y76, ai E mind_a0 10 y77, ai E mind_a1 7 (upd y78 p2.toNatClampNeg x59), ai E mind_a2 7 y79, ai E mind_a3 7 y80, ai E mind_a4 7 y81, ai E mind_a5 7 y71, aS E sa_h sh, oSh q_h q_a0 q_holds q_kind q_figure q_sort q_size, ai E q_a0 100 q_elements] := hD
                  obtain ⟨f96, ef96⟩ : ∃ z, z = (upd y78 p2.toNatClampNeg x59) := ⟨_, rfl⟩
                  rw [← ef96] at hP hD
                  have hv := nm_s ef96 hv
                  refine lv_goto (tgt := 104) hx hb dX9_whatIs_90 (by decide) ?_
                  refine lv_aload_n hx hb dX9_whatIs_104 rfl (lv_at hl 3 rfl) ?_
                  refine lv_aload_n hx hb dX9_whatIs_105 rfl (lv_at hl 3 rfl) ?_
                  refine va_get (D := E.1) (ci := 3) (v := .ref sa_h) (C := RX9) (T := TX9) (N := 6) hx hb ht i_X9 hown hK hP 0 rfl rfl 5 (by decide) (ht _ kw_1_143) (fun _ h9 => h9) rfl dX9_whatIs_106 ?_
                  refine lv_iload_n hx hb dX9_whatIs_109 rfl (lv_at hl 4 rfl) ?_
                  obtain ⟨g97, hv⟩ := gd_s hv
                  refine va_aldq (C := "BalconiesParliament$Shelf") hx hb hK hP 15 1 rfl rfl (ix_s g97) dX9_whatIs_110 ?_
                  refine W.eq (g2 := F0 m 111 ls [.ref q_h, .ref b_h]) (by rw [hsh_p1 g97]; rfl) ?_
                  refine lv_iload_n hx hb dX9_whatIs_111 rfl (lv_at hl 5 rfl) ?_
                  obtain ⟨⟨r98, y99, y100, y101, y102⟩, h103, hv⟩ := ob_s hv
                  refine wrV (as := [b_h, now_h, now_a0, now_a1, now_a2, now_a3, now_a4, now_a5, mind_h, mind_a0, mind_a1, mind_a2, mind_a3, mind_a4, mind_a5, sa_h, q_h, q_a0]) (wr := [oSt now_h now_a0 now_a1 now_a2 now_a3 now_a4 now_a5 now_moving now_shut now_people now_needed now_day, ai E now_a0 10 now_height, ai E now_a1 7 now_kind, ai E now_a2 7 now_figure, ai E now_a3 7 now_rail, ai E now_a4 7 now_mood, ai E now_a5 7 now_sight, aS E sa_h sh]) [0, 8, 9, 10, 11, 12, 13, 14, 16, 17] [1, 2, 3, 4, 5, 6, 7, 15] 3 0 (ws := [oBp b_h now_h mind_h kept_h b_img rails_h sa_h, oSt now_h now_a0 now_a1 now_a2 now_a3 now_a4 now_a5 now_moving now_shut now_people now_needed now_day, ai E now_a0 10 now_height, ai E now_a1 7 now_kind, ai E now_a2 7 now_figure, ai E now_a3 7 now_rail, ai E now_a4 7 now_mood, ai E now_a5 7 now_sight, oSt mind_h mind_a0 mind_a1 mind_a2 mind_a3 mind_a4 mind_a5 y61 y73 y74 y75 y76, ai E mind_a0 10 y77, ai E mind_a1 7 f96, ai E mind_a2 7 y79, ai E mind_a3 7 y80, ai E mind_a4 7 y81, ai E mind_a5 7 y71, aS E sa_h sh, oSh q_h q_a0 q_holds q_kind q_figure q_sort q_size, ai E q_a0 100 q_elements]) (ws' := [oBp b_h now_h mind_h kept_h b_img rails_h sa_h, oSt now_h now_a0 now_a1 now_a2 now_a3 now_a4 now_a5 now_moving now_shut now_people now_needed now_day, ai E now_a0 10 now_height, ai E now_a1 7 now_kind, ai E now_a2 7 now_figure, ai E now_a3 7 now_rail, ai E now_a4 7 now_mood, ai E now_a5 7 now_sight, oSt mind_h mind_a0 mind_a1 mind_a2 mind_a3 mind_a4 mind_a5 y99 y73 y74 y75 y100, ai E mind_a0 10 y77, ai E mind_a1 7 f96, ai E mind_a2 7 y79, ai E mind_a3 7 y80, ai E mind_a4 7 y101, ai E mind_a5 7 y102, aS E sa_h sh, oSh q_h q_a0 q_holds q_kind q_figure q_sort q_size, ai E q_a0 100 q_elements]) (As := [.ref q_h, .int p2]) (rest := []) (st1 := [.int r98]) hC q_X9_feelsAsTold kw_3_115 (c_X9_feelsAsTold l E b_h now_h mind_h kept_h rails_h sa_h mind_a0 mind_a1 mind_a2 mind_a3 mind_a4 mind_a5 q_h q_a0 b_img y77 f96 y79 y80 y81 y71 y61 y73 y74 y75 y76 q_elements q_holds q_kind q_figure q_sort q_size p2 N r98 y99 y100 y101 y102 h103) ⟨rfl, rfl⟩ ⟨Nat.le_of_ble_eq_true rfl, Nat.le_of_ble_eq_true rfl⟩ ⟨Nat.zero_le _, Nat.zero_le _⟩ hP hD hS hA rfl rfl rfl hG (by decide) rfl rfl rfl rfl rfl rfl rfl rfl hl.1 rfl (Nat.le_of_ble_eq_true rfl) dX9_whatIs_112 rfl (fun H locs hP hD hS => ?_)
                  refine lv_if_eq (tgt := 127) hx hb dX9_whatIs_115 (by decide) (fun c104 => ?_) (fun c104 => ?_)
                  · have hv := if_y c104 hv
                    refine lv_iinc (v := (x59 + (1 : Int32))) (lv' := [(7, .int (x59 + (1 : Int32))), (6, .int (8 : Int32)), (5, .int x60), (0, .ref b_h), (1, .int p1), (2, .int p2), (3, .int p3)]) hx hb dX9_whatIs_127 hl (k := 0) rfl rfl (by decide) rfl (fun ls hl => ?_)
                    refine lv_goto (tgt := 57) hx hb dX9_whatIs_130 (by decide) ?_
                    exact ih57 (x59 + (1 : Int32)) x60 y99 y73 y74 y75 y100 y77 f96 y79 y80 y101 y102 _ _ _ hP hD hS (lv_sub hl [0, 1, 2, 3, 4, 5, 6] rfl) hv
                  · have hv := if_n c104 hv
                    refine lv_iload hx hb dX9_whatIs_118 (lv_at hl 2 rfl) ?_
                    refine lv_iconst (v := (1 : Int32)) hx hb dX9_whatIs_120 (by decide) ?_
                    refine lv_iload hx hb dX9_whatIs_121 (lv_at hl 0 rfl) ?_
                    refine lv_ishl hx hb dX9_whatIs_123 ?_
                    refine lv_ior hx hb dX9_whatIs_124 ?_
                    refine lv_topi (fun z105 ez105 => ?_)
                    have hv := nm_s ez105 hv
                    refine lv_istore (lv' := [(5, .int z105), (7, .int x59), (6, .int (8 : Int32)), (0, .ref b_h), (1, .int p1), (2, .int p2), (3, .int p3)]) hx hb dX9_whatIs_125 hl (by decide) rfl (fun ls hl => ?_)
                    refine lv_iinc (v := (x59 + (1 : Int32))) (lv' := [(7, .int (x59 + (1 : Int32))), (5, .int z105), (6, .int (8 : Int32)), (0, .ref b_h), (1, .int p1), (2, .int p2), (3, .int p3)]) hx hb dX9_whatIs_127 hl (k := 1) rfl rfl (by decide) rfl (fun ls hl => ?_)
                    refine lv_goto (tgt := 57) hx hb dX9_whatIs_130 (by decide) ?_
                    exact ih57 (x59 + (1 : Int32)) z105 y99 y73 y74 y75 y100 y77 f96 y79 y80 y101 y102 _ _ _ hP hD hS (lv_sub hl [0, 2, 1, 3, 4, 5, 6] rfl) hv
          exact hL57 N (0 : Int32) (0 : Int32) mind_moving mind_shut mind_people mind_needed mind_day mind_height mind_kind mind_figure mind_rail mind_mood mind_sight _ _ _ hP hD hS (lv_sub hl [0, 1, 2, 4, 5, 6, 7] rfl) hv
      · have hv := if_n c10 hv
        refine lv_iload hx hb dX9_whatIs_35 (lv_at hl 0 rfl) ?_
        cases hv
        exact W.iret hx hb hr (fun t h9 _ => ⟨rfl, by rw [h9]; exact hP, hS.F h9⟩) hS.2.2 dX9_whatIs_37 hlk
    · have hv := if_y c7 hv
      refine lv_iconst (v := (-1 : Int32)) hx hb dX9_whatIs_20 (by decide) ?_
      refine lv_topi (fun z106 ez106 => ?_)
      have hv := nm_s ez106 hv
      cases hv
      exact W.iret hx hb hr (fun t h9 _ => ⟨rfl, by rw [h9]; exact hP, hS.F h9⟩) hS.2.2 dX9_whatIs_21 hlk
theorem dX9_forged_0 : decode cX9_forged 0 = .ok (.aload_n 0, 1) := by decide +kernel
theorem dX9_forged_1 : decode cX9_forged 1 = .ok (.iload_n 1, 1) := by decide +kernel
theorem dX9_forged_2 : decode cX9_forged 2 = .ok (.iconst 2, 1) := by decide +kernel
theorem dX9_forged_3 : decode cX9_forged 3 = .ok (.invokevirtual 40, 3) := by decide +kernel
theorem dX9_forged_6 : decode cX9_forged 6 = .ok (.istore_n 2, 1) := by decide +kernel
theorem dX9_forged_7 : decode cX9_forged 7 = .ok (.iload_n 2, 1) := by decide +kernel
theorem dX9_forged_8 : decode cX9_forged 8 = .ok (.ifCond .eq 5, 3) := by decide +kernel
theorem dX9_forged_11 : decode cX9_forged 11 = .ok (.iload_n 2, 1) := by decide +kernel
theorem dX9_forged_12 : decode cX9_forged 12 = .ok (.ireturn, 1) := by decide +kernel
theorem dX9_forged_13 : decode cX9_forged 13 = .ok (.aload_n 0, 1) := by decide +kernel
theorem dX9_forged_14 : decode cX9_forged 14 = .ok (.getfield 35, 3) := by decide +kernel
theorem dX9_forged_17 : decode cX9_forged 17 = .ok (.iload_n 1, 1) := by decide +kernel
theorem dX9_forged_18 : decode cX9_forged 18 = .ok (.aaload, 1) := by decide +kernel
theorem dX9_forged_19 : decode cX9_forged 19 = .ok (.astore_n 3, 1) := by decide +kernel
theorem dX9_forged_20 : decode cX9_forged 20 = .ok (.iconst 0, 1) := by decide +kernel
theorem dX9_forged_21 : decode cX9_forged 21 = .ok (.istore 4, 2) := by decide +kernel
theorem dX9_forged_23 : decode cX9_forged 23 = .ok (.iload 4, 2) := by decide +kernel
theorem dX9_forged_25 : decode cX9_forged 25 = .ok (.aload_n 3, 1) := by decide +kernel
theorem dX9_forged_26 : decode cX9_forged 26 = .ok (.getfield 259, 3) := by decide +kernel
theorem dX9_forged_29 : decode cX9_forged 29 = .ok (.if_icmp .ge 39, 3) := by decide +kernel
theorem dX9_forged_32 : decode cX9_forged 32 = .ok (.iload 4, 2) := by decide +kernel
theorem dX9_forged_34 : decode cX9_forged 34 = .ok (.invokestatic 91, 3) := by decide +kernel
theorem dX9_forged_37 : decode cX9_forged 37 = .ok (.ifCond .eq 22, 3) := by decide +kernel
theorem dX9_forged_40 : decode cX9_forged 40 = .ok (.aload_n 3, 1) := by decide +kernel
theorem dX9_forged_41 : decode cX9_forged 41 = .ok (.iload 4, 2) := by decide +kernel
theorem dX9_forged_43 : decode cX9_forged 43 = .ok (.invokevirtual 262, 3) := by decide +kernel
theorem dX9_forged_46 : decode cX9_forged 46 = .ok (.aload_n 0, 1) := by decide +kernel
theorem dX9_forged_47 : decode cX9_forged 47 = .ok (.getfield 12, 3) := by decide +kernel
theorem dX9_forged_50 : decode cX9_forged 50 = .ok (.getfield 94, 3) := by decide +kernel
theorem dX9_forged_53 : decode cX9_forged 53 = .ok (.iload 4, 2) := by decide +kernel
theorem dX9_forged_55 : decode cX9_forged 55 = .ok (.iaload, 1) := by decide +kernel
theorem dX9_forged_56 : decode cX9_forged 56 = .ok (.if_icmp .eq 6, 3) := by decide +kernel
theorem dX9_forged_59 : decode cX9_forged 59 = .ok (.iload 4, 2) := by decide +kernel
theorem dX9_forged_61 : decode cX9_forged 61 = .ok (.ireturn, 1) := by decide +kernel
theorem dX9_forged_62 : decode cX9_forged 62 = .ok (.iinc 4 1, 3) := by decide +kernel
theorem dX9_forged_65 : decode cX9_forged 65 = .ok (.goto (-42), 3) := by decide +kernel
theorem dX9_forged_68 : decode cX9_forged 68 = .ok (.bipush (-4), 2) := by decide +kernel
theorem dX9_forged_70 : decode cX9_forged 70 = .ok (.ireturn, 1) := by decide +kernel
def L_X9_forged_23 (now_height : Nat → Int32) (q_elements : Nat → Int32) (q_size : Int32) : Nat → Int32 → Option (Int32)
  | 0, _ => none
  | n23 + 1, x5 => if q_size ≤ x5 then some (-4 : Int32) else ob (f_X9_isBalcony x5) (fun r7 => if r7 = 0 then some x5 else ob (f_X7_at q_elements q_size x5) (fun r10 => gd (ix x5 10) (if r10 = (now_height x5.toNatClampNeg) then L_X9_forged_23 now_height q_elements q_size n23 (x5 + (1 : Int32)) else some x5)))
def f_X9_forged (N : Nat) (now_height : Nat → Int32) (q_elements : Nat → Int32) (q_holds : Int32) (q_size : Int32) (p1 : Int32) : Option (Int32) := ob (f_X9_refusalOf q_holds p1 (2 : Int32)) (fun r1 => if r1 = 0 then gd (ix p1 8) (L_X9_forged_23 now_height q_elements q_size N (0 : Int32)) else some r1)
set_option maxHeartbeats 4000000 in
set_option maxRecDepth 100000 in
theorem c_X9_forged (l : Launch) (E : EE) (b_h : Nat) (now_h : Nat) (mind_h : Nat) (kept_h : Nat) (rails_h : Nat) (sa_h : Nat) (now_a0 : Nat) (now_a1 : Nat) (now_a2 : Nat) (now_a3 : Nat) (now_a4 : Nat) (now_a5 : Nat) (q_h : Nat) (q_a0 : Nat) (b_img : Int32) (now_height : Nat → Int32) (now_kind : Nat → Int32) (now_figure : Nat → Int32) (now_rail : Nat → Int32) (now_mood : Nat → Int32) (now_sight : Nat → Int32) (now_moving : Int32) (now_shut : Int32) (now_people : Int32) (now_needed : Int32) (now_day : Int32) (sh : Nat → Option Nat) (q_elements : Nat → Int32) (q_holds : Int32) (q_kind : Int32) (q_figure : Int32) (q_sort : Int32) (q_size : Int32) (p1 : Int32) (N : Nat) (res : Int32) (hsh_p1 : ix p1 8 = true → sh p1.toNatClampNeg = some q_h) (hv : f_X9_forged N now_height q_elements q_holds q_size p1 = some res) : Rd l E yX9_forged cX9_forged 5 (some .int) ({ frames := 3, cells := 0, slots := 0, locals := 64 }) [.ref b_h, .int p1] [oBp b_h now_h mind_h kept_h b_img rails_h sa_h, oSt now_h now_a0 now_a1 now_a2 now_a3 now_a4 now_a5 now_moving now_shut now_people now_needed now_day, ai E now_a0 10 now_height, ai E now_a1 7 now_kind, ai E now_a2 7 now_figure, ai E now_a3 7 now_rail, ai E now_a4 7 now_mood, ai E now_a5 7 now_sight, aS E sa_h sh, oSh q_h q_a0 q_holds q_kind q_figure q_sort q_size, ai E q_a0 100 q_elements] (some (.int res)) := by
  refine Rd.intro RX9 (by decide) rfl (Nat.le_of_ble_eq_true rfl) ?_
  intro p e s m below meth c ls hC hr hlk hP hG hl
  obtain ⟨hx, hb, hml, hown, ht⟩ := id hC
  have hK := hG.1
  have hl : lv_has ls 5 [(0, .ref b_h), (1, .int p1)] := hl
  rw [f_X9_forged] at hv
  refine lv_aload_n hx hb dX9_forged_0 rfl (lv_at hl 0 rfl) ?_
  refine lv_iload_n hx hb dX9_forged_1 rfl (lv_at hl 1 rfl) ?_
  refine lv_iconst (v := (2 : Int32)) hx hb dX9_forged_2 (by decide) ?_
  obtain ⟨r1, h2, hv⟩ := ob_s hv
  refine rdV 3 0 (As := [.int p1, .int (2 : Int32)]) (rest := []) (st1 := [.int r1]) (w := [oBp b_h now_h mind_h kept_h b_img rails_h sa_h, aS E sa_h sh, oSh q_h q_a0 q_holds q_kind q_figure q_sort q_size, ai E q_a0 100 q_elements]) hC q_X9_refusalOf kw_1_161 (c_X9_refusalOf l E b_h now_h mind_h kept_h rails_h sa_h q_h q_a0 b_img sh q_elements q_holds q_kind q_figure q_sort q_size p1 (2 : Int32) r1 hsh_p1 h2) ⟨rfl, rfl⟩ ⟨Nat.le_of_ble_eq_true rfl, Nat.le_of_ble_eq_true rfl⟩ ⟨Nat.zero_le _, Nat.zero_le _⟩ (hP.sub (ws' := [oBp b_h now_h mind_h kept_h b_img rails_h sa_h, aS E sa_h sh, oSh q_h q_a0 q_holds q_kind q_figure q_sort q_size, ai E q_a0 100 q_elements]) [0, 8, 9, 10] rfl) rfl rfl rfl hG rfl hl.1 rfl (Nat.le_of_ble_eq_true rfl) dX9_forged_3 rfl ?_
  refine lv_istore_n (lv' := [(2, .int r1), (0, .ref b_h), (1, .int p1)]) hx hb dX9_forged_6 rfl hl (by decide) rfl (fun ls hl => ?_)
  refine lv_iload_n hx hb dX9_forged_7 rfl (lv_at hl 0 rfl) ?_
  refine lv_if_eq (tgt := 13) hx hb dX9_forged_8 (by decide) (fun c3 => ?_) (fun c3 => ?_)
  · have hv := if_y c3 hv
    refine lv_aload_n hx hb dX9_forged_13 rfl (lv_at hl 1 rfl) ?_
    refine va_get (D := E.1) (ci := 3) (v := .ref sa_h) (C := RX9) (T := TX9) (N := 6) hx hb ht i_X9 hown hK hP 0 rfl rfl 5 (by decide) (ht _ kw_1_143) (fun _ h9 => h9) rfl dX9_forged_14 ?_
    refine lv_iload_n hx hb dX9_forged_17 rfl (lv_at hl 2 rfl) ?_
    obtain ⟨g4, hv⟩ := gd_s hv
    refine va_aldq (C := "BalconiesParliament$Shelf") hx hb hK hP 8 1 rfl rfl (ix_s g4) dX9_forged_18 ?_
    refine W.eq (g2 := F0 m 19 ls [.ref q_h]) (by rw [hsh_p1 g4]; rfl) ?_
    refine lv_astore_n (lv' := [(3, .ref q_h), (2, .int r1), (0, .ref b_h), (1, .int p1)]) hx hb dX9_forged_19 rfl hl (by decide) rfl (fun ls hl => ?_)
    refine lv_iconst (v := (0 : Int32)) hx hb dX9_forged_20 (by decide) ?_
    refine lv_istore (lv' := [(4, .int (0 : Int32)), (3, .ref q_h), (2, .int r1), (0, .ref b_h), (1, .int p1)]) hx hb dX9_forged_21 hl (by decide) rfl (fun ls hl => ?_)
    have hL23 : ∀ (n : Nat) (x5 : Int32) (ls : Array Slot), lv_has ls 5 [(4, .int x5), (3, .ref q_h), (0, .ref b_h)] → L_X9_forged_23 now_height q_elements q_size n x5 = some res → W p l e ({ frames := 3, cells := 0, slots := 0, locals := 64 }) s m [.ref b_h, .int p1].toArray below meth c s.heap [] 0 0 (MQ below (RdQ (some (.int res))) [.ref b_h, .int p1].toArray s 0 0 (fun _ => False)) (F0 m 23 ls []) := by
      intro n
      induction n with
      | zero => intro x5 ls hl hv; cases hv
      | succ n23 ih23 =>
        intro x5 ls hl hv
        rw [L_X9_forged_23] at hv
        refine lv_iload hx hb dX9_forged_23 (lv_at hl 0 rfl) ?_
        refine lv_aload_n hx hb dX9_forged_25 rfl (lv_at hl 1 rfl) ?_
        refine va_get (D := E.1) (ci := 1) (v := .int q_size) (C := RX7) (T := TX7) (N := 6) hx hb ht i_X7 hown hK hP 9 rfl rfl 5 (by decide) (ht _ kw_1_124) (fun _ h9 => h9) rfl dX9_forged_26 ?_
        refine lv_icmp_ge (tgt := 68) hx hb dX9_forged_29 (by decide) (fun c6 => ?_) (fun c6 => ?_)
        · have hv := if_y c6 hv
          refine lv_bipush (v := (-4 : Int32)) hx hb dX9_forged_68 (by decide) ?_
          exact W.iret (v := (-4 : Int32)) hx hb hr (fun t h9 _ => ⟨rv_i hv, h9⟩) (fun q h => absurd h List.not_mem_nil) dX9_forged_70 hlk
        · have hv := if_n c6 hv
          refine lv_iload hx hb dX9_forged_32 (lv_at hl 0 rfl) ?_
          obtain ⟨r7, h8, hv⟩ := ob_s hv
          refine rdS (rest := []) (st1 := [.int r7]) (w := []) hC q_X9_isBalcony kw_2_67 (c_X9_isBalcony l E x5 r7 h8) ⟨rfl, rfl⟩ ⟨Nat.le_of_ble_eq_true rfl, Nat.le_of_ble_eq_true rfl⟩ ⟨Nat.zero_le _, Nat.zero_le _⟩ (hP.sub (ws' := []) [] rfl) hG rfl hl.1 rfl (Nat.le_of_ble_eq_true rfl) dX9_forged_34 rfl ?_
          refine lv_if_eq (tgt := 59) hx hb dX9_forged_37 (by decide) (fun c9 => ?_) (fun c9 => ?_)
          · have hv := if_y c9 hv
            refine lv_iload hx hb dX9_forged_59 (lv_at hl 0 rfl) ?_
            exact W.iret (v := x5) hx hb hr (fun t h9 _ => ⟨rv_i hv, h9⟩) (fun q h => absurd h List.not_mem_nil) dX9_forged_61 hlk
          · have hv := if_n c9 hv
            refine lv_aload_n hx hb dX9_forged_40 rfl (lv_at hl 1 rfl) ?_
            refine lv_iload hx hb dX9_forged_41 (lv_at hl 0 rfl) ?_
            obtain ⟨r10, h11, hv⟩ := ob_s hv
            refine rdV 1 0 (As := [.int x5]) (rest := []) (st1 := [.int r10]) (w := [oSh q_h q_a0 q_holds q_kind q_figure q_sort q_size, ai E q_a0 100 q_elements]) hC q_X7_at kw_3_129 (c_X7_at l E q_h q_a0 q_elements q_holds q_kind q_figure q_sort q_size x5 r10 h11) ⟨rfl, rfl⟩ ⟨Nat.le_of_ble_eq_true rfl, Nat.le_of_ble_eq_true rfl⟩ ⟨Nat.zero_le _, Nat.zero_le _⟩ (hP.sub (ws' := [oSh q_h q_a0 q_holds q_kind q_figure q_sort q_size, ai E q_a0 100 q_elements]) [9, 10] rfl) rfl rfl rfl hG rfl hl.1 rfl (Nat.le_of_ble_eq_true rfl) dX9_forged_43 rfl ?_
            refine lv_aload_n hx hb dX9_forged_46 rfl (lv_at hl 2 rfl) ?_
            refine va_get (D := E.1) (ci := 3) (v := .ref now_h) (C := RX9) (T := TX9) (N := 6) hx hb ht i_X9 hown hK hP 0 rfl rfl 0 (by decide) (ht _ kw_1_138) (fun _ h9 => h9) rfl dX9_forged_47 ?_
            refine va_get (D := E.1) (ci := 2) (v := .ref now_a0) (C := RX8) (T := TX8) (N := 11) hx hb ht i_X8 hown hK hP 1 rfl rfl 0 (by decide) (ht _ kw_1_37) (fun _ h9 => h9) rfl dX9_forged_50 ?_
            refine lv_iload hx hb dX9_forged_53 (lv_at hl 0 rfl) ?_
            obtain ⟨g12, hv⟩ := gd_s hv
            refine va_iald hx hb hK hP 2 0 rfl rfl (ix_s g12) dX9_forged_55 ?_
            refine lv_icmp_eq (tgt := 62) hx hb dX9_forged_56 (by decide) (fun c13 => ?_) (fun c13 => ?_)
            · have hv := if_y c13 hv
              refine lv_iinc (v := (x5 + (1 : Int32))) (lv' := [(4, .int (x5 + (1 : Int32))), (3, .ref q_h), (0, .ref b_h)]) hx hb dX9_forged_62 hl (k := 0) rfl rfl (by decide) rfl (fun ls hl => ?_)
              refine lv_goto (tgt := 23) hx hb dX9_forged_65 (by decide) ?_
              exact ih23 (x5 + (1 : Int32)) _ (lv_sub hl [0, 1, 2] rfl) hv
            · have hv := if_n c13 hv
              refine lv_iload hx hb dX9_forged_59 (lv_at hl 0 rfl) ?_
              exact W.iret (v := x5) hx hb hr (fun t h9 _ => ⟨rv_i hv, h9⟩) (fun q h => absurd h List.not_mem_nil) dX9_forged_61 hlk
    exact hL23 N (0 : Int32) _ (lv_sub hl [0, 1, 3] rfl) hv
  · have hv := if_n c3 hv
    refine lv_iload_n hx hb dX9_forged_11 rfl (lv_at hl 0 rfl) ?_
    exact W.iret (v := r1) hx hb hr (fun t h9 _ => ⟨rv_i hv, h9⟩) (fun q h => absurd h List.not_mem_nil) dX9_forged_12 hlk
theorem dX9_judge_0 : decode cX9_judge 0 = .ok (.aload_n 0, 1) := by decide +kernel
theorem dX9_judge_1 : decode cX9_judge 1 = .ok (.iload_n 1, 1) := by decide +kernel
theorem dX9_judge_2 : decode cX9_judge 2 = .ok (.iconst 2, 1) := by decide +kernel
theorem dX9_judge_3 : decode cX9_judge 3 = .ok (.invokevirtual 40, 3) := by decide +kernel
theorem dX9_judge_6 : decode cX9_judge 6 = .ok (.istore_n 2, 1) := by decide +kernel
theorem dX9_judge_7 : decode cX9_judge 7 = .ok (.iload_n 2, 1) := by decide +kernel
theorem dX9_judge_8 : decode cX9_judge 8 = .ok (.ifCond .eq 5, 3) := by decide +kernel
theorem dX9_judge_11 : decode cX9_judge 11 = .ok (.iload_n 2, 1) := by decide +kernel
theorem dX9_judge_12 : decode cX9_judge 12 = .ok (.ireturn, 1) := by decide +kernel
theorem dX9_judge_13 : decode cX9_judge 13 = .ok (.aload_n 0, 1) := by decide +kernel
theorem dX9_judge_14 : decode cX9_judge 14 = .ok (.getfield 35, 3) := by decide +kernel
theorem dX9_judge_17 : decode cX9_judge 17 = .ok (.iload_n 1, 1) := by decide +kernel
theorem dX9_judge_18 : decode cX9_judge 18 = .ok (.aaload, 1) := by decide +kernel
theorem dX9_judge_19 : decode cX9_judge 19 = .ok (.astore_n 3, 1) := by decide +kernel
theorem dX9_judge_20 : decode cX9_judge 20 = .ok (.aload_n 0, 1) := by decide +kernel
theorem dX9_judge_21 : decode cX9_judge 21 = .ok (.getfield 16, 3) := by decide +kernel
theorem dX9_judge_24 : decode cX9_judge 24 = .ok (.aload_n 0, 1) := by decide +kernel
theorem dX9_judge_25 : decode cX9_judge 25 = .ok (.getfield 12, 3) := by decide +kernel
theorem dX9_judge_28 : decode cX9_judge 28 = .ok (.invokevirtual 48, 3) := by decide +kernel
theorem dX9_judge_31 : decode cX9_judge 31 = .ok (.aload_n 0, 1) := by decide +kernel
theorem dX9_judge_32 : decode cX9_judge 32 = .ok (.getfield 16, 3) := by decide +kernel
theorem dX9_judge_35 : decode cX9_judge 35 = .ok (.invokevirtual 157, 3) := by decide +kernel
theorem dX9_judge_38 : decode cX9_judge 38 = .ok (.iconst 0, 1) := by decide +kernel
theorem dX9_judge_39 : decode cX9_judge 39 = .ok (.istore 4, 2) := by decide +kernel
theorem dX9_judge_41 : decode cX9_judge 41 = .ok (.iload 4, 2) := by decide +kernel
theorem dX9_judge_43 : decode cX9_judge 43 = .ok (.aload_n 3, 1) := by decide +kernel
theorem dX9_judge_44 : decode cX9_judge 44 = .ok (.getfield 259, 3) := by decide +kernel
theorem dX9_judge_47 : decode cX9_judge 47 = .ok (.if_icmp .ge 53, 3) := by decide +kernel
theorem dX9_judge_50 : decode cX9_judge 50 = .ok (.iload 4, 2) := by decide +kernel
theorem dX9_judge_52 : decode cX9_judge 52 = .ok (.ifCond .le 11, 3) := by decide +kernel
theorem dX9_judge_55 : decode cX9_judge 55 = .ok (.aload_n 0, 1) := by decide +kernel
theorem dX9_judge_56 : decode cX9_judge 56 = .ok (.getfield 16, 3) := by decide +kernel
theorem dX9_judge_59 : decode cX9_judge 59 = .ok (.invokevirtual 160, 3) := by decide +kernel
theorem dX9_judge_62 : decode cX9_judge 62 = .ok (.pop, 1) := by decide +kernel
theorem dX9_judge_63 : decode cX9_judge 63 = .ok (.aload_n 3, 1) := by decide +kernel
theorem dX9_judge_64 : decode cX9_judge 64 = .ok (.iload 4, 2) := by decide +kernel
theorem dX9_judge_66 : decode cX9_judge 66 = .ok (.invokevirtual 265, 3) := by decide +kernel
theorem dX9_judge_69 : decode cX9_judge 69 = .ok (.ifCond .ne 25, 3) := by decide +kernel
theorem dX9_judge_72 : decode cX9_judge 72 = .ok (.aload_n 3, 1) := by decide +kernel
theorem dX9_judge_73 : decode cX9_judge 73 = .ok (.iload 4, 2) := by decide +kernel
theorem dX9_judge_75 : decode cX9_judge 75 = .ok (.invokevirtual 262, 3) := by decide +kernel
theorem dX9_judge_78 : decode cX9_judge 78 = .ok (.aload_n 0, 1) := by decide +kernel
theorem dX9_judge_79 : decode cX9_judge 79 = .ok (.getfield 16, 3) := by decide +kernel
theorem dX9_judge_82 : decode cX9_judge 82 = .ok (.invokevirtual 136, 3) := by decide +kernel
theorem dX9_judge_85 : decode cX9_judge 85 = .ok (.invokestatic 82, 3) := by decide +kernel
theorem dX9_judge_88 : decode cX9_judge 88 = .ok (.if_icmp .eq 6, 3) := by decide +kernel
theorem dX9_judge_91 : decode cX9_judge 91 = .ok (.iload 4, 2) := by decide +kernel
theorem dX9_judge_93 : decode cX9_judge 93 = .ok (.ireturn, 1) := by decide +kernel
theorem dX9_judge_94 : decode cX9_judge 94 = .ok (.iinc 4 1, 3) := by decide +kernel
theorem dX9_judge_97 : decode cX9_judge 97 = .ok (.goto (-56), 3) := by decide +kernel
theorem dX9_judge_100 : decode cX9_judge 100 = .ok (.bipush (-4), 2) := by decide +kernel
theorem dX9_judge_102 : decode cX9_judge 102 = .ok (.ireturn, 1) := by decide +kernel
def L_X9_judge_41 (N : Nat) (q_elements : Nat → Int32) (q_sort : Int32) (q_size : Int32) (y5 : Int32) (y6 : Int32) (y7 : Int32) (y9 : Nat → Int32) (y10 : Nat → Int32) (y11 : Nat → Int32) (y12 : Nat → Int32) (y16 : Nat → Int32) : Nat → Int32 → Int32 → Int32 → (Nat → Int32) → Option (Int32 × Int32 × Int32 × Int32 × Int32 × Int32 × (Nat → Int32) × (Nat → Int32) × (Nat → Int32) × (Nat → Int32) × (Nat → Int32) × (Nat → Int32))
  | 0, _, _, _, _ => none
  | n41 + 1, x18, y19, y20, y21 => if q_size ≤ x18 then nm (-4 : Int32) (fun z23 => some (z23, y19, y5, y6, y7, y20, y9, y10, y11, y12, y21, y16)) else if x18 ≤ 0 then ob (f_X7_isSkipped q_elements q_sort q_size x18) (fun r25 => if r25 = 0 then ob (f_X7_at q_elements q_size x18) (fun r28 => ob (f_X8_isCarried N y9 y10 y11 y12 y21 y5 y6 y7) (fun r30 => ob (f_X9_oneIf r30) (fun r32 => if r28 = r32 then L_X9_judge_41 N q_elements q_sort q_size y5 y6 y7 y9 y10 y11 y12 y16 n41 (x18 + (1 : Int32)) y19 y20 y21 else some (x18, y19, y5, y6, y7, y20, y9, y10, y11, y12, y21, y16)))) else L_X9_judge_41 N q_elements q_sort q_size y5 y6 y7 y9 y10 y11 y12 y16 n41 (x18 + (1 : Int32)) y19 y20 y21) else ob (f_X8_nextDay N y10 y11 y21 y16 y19 y6 y20) (fun (r35, y36, y37, y38) => ob (f_X7_isSkipped q_elements q_sort q_size x18) (fun r40 => if r40 = 0 then ob (f_X7_at q_elements q_size x18) (fun r43 => ob (f_X8_isCarried N y9 y10 y11 y12 y38 y5 y6 y7) (fun r45 => ob (f_X9_oneIf r45) (fun r47 => if r43 = r47 then L_X9_judge_41 N q_elements q_sort q_size y5 y6 y7 y9 y10 y11 y12 y16 n41 (x18 + (1 : Int32)) y36 y37 y38 else some (x18, y36, y5, y6, y7, y37, y9, y10, y11, y12, y38, y16)))) else L_X9_judge_41 N q_elements q_sort q_size y5 y6 y7 y9 y10 y11 y12 y16 n41 (x18 + (1 : Int32)) y36 y37 y38))
def f_X9_judge (N : Nat) (now_height : Nat → Int32) (now_kind : Nat → Int32) (now_figure : Nat → Int32) (now_rail : Nat → Int32) (now_mood : Nat → Int32) (now_shut : Int32) (now_people : Int32) (now_needed : Int32) (now_day : Int32) (mind_height : Nat → Int32) (mind_kind : Nat → Int32) (mind_figure : Nat → Int32) (mind_rail : Nat → Int32) (mind_mood : Nat → Int32) (mind_sight : Nat → Int32) (mind_moving : Int32) (mind_shut : Int32) (mind_people : Int32) (mind_needed : Int32) (mind_day : Int32) (q_elements : Nat → Int32) (q_holds : Int32) (q_sort : Int32) (q_size : Int32) (p1 : Int32) : Option (Int32 × Int32 × Int32 × Int32 × Int32 × Int32 × (Nat → Int32) × (Nat → Int32) × (Nat → Int32) × (Nat → Int32) × (Nat → Int32) × (Nat → Int32)) := ob (f_X9_refusalOf q_holds p1 (2 : Int32)) (fun r1 => if r1 = 0 then gd (ix p1 8) (ob (f_X8_become now_height now_kind now_figure now_rail now_mood now_shut now_people now_needed now_day) (fun (y5, y6, y7, y8, y9, y10, y11, y12, y13) => ob (f_X8_startDays N y9 y12 mind_sight y5 y6) (fun (y15, y16) => L_X9_judge_41 N q_elements q_sort q_size y5 y6 y7 y9 y10 y11 y12 y16 N (0 : Int32) y15 y8 y13))) else some (r1, mind_moving, mind_shut, mind_people, mind_needed, mind_day, mind_height, mind_kind, mind_figure, mind_rail, mind_mood, mind_sight))
set_option maxHeartbeats 4000000 in
set_option maxRecDepth 100000 in
theorem c_X9_judge (l : Launch) (E : EE) (b_h : Nat) (now_h : Nat) (mind_h : Nat) (kept_h : Nat) (rails_h : Nat) (sa_h : Nat) (now_a0 : Nat) (now_a1 : Nat) (now_a2 : Nat) (now_a3 : Nat) (now_a4 : Nat) (now_a5 : Nat) (mind_a0 : Nat) (mind_a1 : Nat) (mind_a2 : Nat) (mind_a3 : Nat) (mind_a4 : Nat) (mind_a5 : Nat) (q_h : Nat) (q_a0 : Nat) (b_img : Int32) (now_height : Nat → Int32) (now_kind : Nat → Int32) (now_figure : Nat → Int32) (now_rail : Nat → Int32) (now_mood : Nat → Int32) (now_sight : Nat → Int32) (now_moving : Int32) (now_shut : Int32) (now_people : Int32) (now_needed : Int32) (now_day : Int32) (mind_height : Nat → Int32) (mind_kind : Nat → Int32) (mind_figure : Nat → Int32) (mind_rail : Nat → Int32) (mind_mood : Nat → Int32) (mind_sight : Nat → Int32) (mind_moving : Int32) (mind_shut : Int32) (mind_people : Int32) (mind_needed : Int32) (mind_day : Int32) (sh : Nat → Option Nat) (q_elements : Nat → Int32) (q_holds : Int32) (q_kind : Int32) (q_figure : Int32) (q_sort : Int32) (q_size : Int32) (p1 : Int32) (N : Nat) (res : Int32) (w_mind_moving : Int32) (w_mind_shut : Int32) (w_mind_people : Int32) (w_mind_needed : Int32) (w_mind_day : Int32) (w_mind_height : Nat → Int32) (w_mind_kind : Nat → Int32) (w_mind_figure : Nat → Int32) (w_mind_rail : Nat → Int32) (w_mind_mood : Nat → Int32) (w_mind_sight : Nat → Int32) (hsh_p1 : ix p1 8 = true → sh p1.toNatClampNeg = some q_h) (hv : f_X9_judge N now_height now_kind now_figure now_rail now_mood now_shut now_people now_needed now_day mind_height mind_kind mind_figure mind_rail mind_mood mind_sight mind_moving mind_shut mind_people mind_needed mind_day q_elements q_holds q_sort q_size p1 = some (res, w_mind_moving, w_mind_shut, w_mind_people, w_mind_needed, w_mind_day, w_mind_height, w_mind_kind, w_mind_figure, w_mind_rail, w_mind_mood, w_mind_sight)) : Wr l E yX9_judge cX9_judge 5 (some .int) ({ frames := 5, cells := 0, slots := 0, locals := 109 }) [.ref b_h, .int p1] [oBp b_h now_h mind_h kept_h b_img rails_h sa_h, oSt now_h now_a0 now_a1 now_a2 now_a3 now_a4 now_a5 now_moving now_shut now_people now_needed now_day, ai E now_a0 10 now_height, ai E now_a1 7 now_kind, ai E now_a2 7 now_figure, ai E now_a3 7 now_rail, ai E now_a4 7 now_mood, ai E now_a5 7 now_sight, oSt mind_h mind_a0 mind_a1 mind_a2 mind_a3 mind_a4 mind_a5 mind_moving mind_shut mind_people mind_needed mind_day, ai E mind_a0 10 mind_height, ai E mind_a1 7 mind_kind, ai E mind_a2 7 mind_figure, ai E mind_a3 7 mind_rail, ai E mind_a4 7 mind_mood, ai E mind_a5 7 mind_sight, aS E sa_h sh, oSh q_h q_a0 q_holds q_kind q_figure q_sort q_size, ai E q_a0 100 q_elements] [oBp b_h now_h mind_h kept_h b_img rails_h sa_h, oSt now_h now_a0 now_a1 now_a2 now_a3 now_a4 now_a5 now_moving now_shut now_people now_needed now_day, ai E now_a0 10 now_height, ai E now_a1 7 now_kind, ai E now_a2 7 now_figure, ai E now_a3 7 now_rail, ai E now_a4 7 now_mood, ai E now_a5 7 now_sight, oSt mind_h mind_a0 mind_a1 mind_a2 mind_a3 mind_a4 mind_a5 w_mind_moving w_mind_shut w_mind_people w_mind_needed w_mind_day, ai E mind_a0 10 w_mind_height, ai E mind_a1 7 w_mind_kind, ai E mind_a2 7 w_mind_figure, ai E mind_a3 7 w_mind_rail, ai E mind_a4 7 w_mind_mood, ai E mind_a5 7 w_mind_sight, aS E sa_h sh, oSh q_h q_a0 q_holds q_kind q_figure q_sort q_size, ai E q_a0 100 q_elements] (some (.int res)) := by
  refine Wr.intro RX9 (by decide) rfl (Nat.le_of_ble_eq_true rfl) ?_
  intro p e s m below meth c ls A hC hr hlk hmn hP hD hS hA hG hl
  obtain ⟨hx, hb, hml, hown, ht⟩ := id hC
  have hK := hG.1
  have hl : lv_has ls 5 [(0, .ref b_h), (1, .int p1)] := hl
  rw [f_X9_judge] at hv
  refine lv_aload_n hx hb dX9_judge_0 rfl (lv_at hl 0 rfl) ?_
  refine lv_iload_n hx hb dX9_judge_1 rfl (lv_at hl 1 rfl) ?_
  refine lv_iconst (v := (2 : Int32)) hx hb dX9_judge_2 (by decide) ?_
  obtain ⟨r1, h2, hv⟩ := ob_s hv
  refine rdV 3 0 (As := [.int p1, .int (2 : Int32)]) (rest := []) (st1 := [.int r1]) (w := [oBp b_h now_h mind_h kept_h b_img rails_h sa_h, aS E sa_h sh, oSh q_h q_a0 q_holds q_kind q_figure q_sort q_size, ai E q_a0 100 q_elements]) hC q_X9_refusalOf kw_1_161 (c_X9_refusalOf l E b_h now_h mind_h kept_h rails_h sa_h q_h q_a0 b_img sh q_elements q_holds q_kind q_figure q_sort q_size p1 (2 : Int32) r1 hsh_p1 h2) ⟨rfl, rfl⟩ ⟨Nat.le_of_ble_eq_true rfl, Nat.le_of_ble_eq_true rfl⟩ ⟨Nat.zero_le _, Nat.zero_le _⟩ (hP.sub (ws' := [oBp b_h now_h mind_h kept_h b_img rails_h sa_h, aS E sa_h sh, oSh q_h q_a0 q_holds q_kind q_figure q_sort q_size, ai E q_a0 100 q_elements]) [0, 15, 16, 17] rfl) rfl rfl rfl hG rfl hl.1 rfl (Nat.le_of_ble_eq_true rfl) dX9_judge_3 rfl ?_
  refine lv_istore_n (lv' := [(2, .int r1), (0, .ref b_h), (1, .int p1)]) hx hb dX9_judge_6 rfl hl (by decide) rfl (fun ls hl => ?_)
  refine lv_iload_n hx hb dX9_judge_7 rfl (lv_at hl 0 rfl) ?_
  refine lv_if_eq (tgt := 13) hx hb dX9_judge_8 (by decide) (fun c3 => ?_) (fun c3 => ?_)
  · have hv := if_y c3 hv
    refine lv_aload_n hx hb dX9_judge_13 rfl (lv_at hl 1 rfl) ?_
    refine va_get (D := E.1) (ci := 3) (v := .ref sa_h) (C := RX9) (T := TX9) (N := 6) hx hb ht i_X9 hown hK hP 0 rfl rfl 5 (by decide) (ht _ kw_1_143) (fun _ h9 => h9) rfl dX9_judge_14 ?_
    refine lv_iload_n hx hb dX9_judge_17 rfl (lv_at hl 2 rfl) ?_
    obtain ⟨g4, hv⟩ := gd_s hv
    refine va_aldq (C := "BalconiesParliament$Shelf") hx hb hK hP 15 1 rfl rfl (ix_s g4) dX9_judge_18 ?_
    refine W.eq (g2 := F0 m 19 ls [.ref q_h]) (by rw [hsh_p1 g4]; rfl) ?_
    refine lv_astore_n (lv' := [(3, .ref q_h), (2, .int r1), (0, .ref b_h), (1, .int p1)]) hx hb dX9_judge_19 rfl hl (by decide) rfl (fun ls hl => ?_)
    refine lv_aload_n hx hb dX9_judge_20 rfl (lv_at hl 2 rfl) ?_
    refine va_get (D := E.1) (ci := 3) (v := .ref mind_h) (C := RX9) (T := TX9) (N := 6) hx hb ht i_X9 hown hK hP 0 rfl rfl 1 (by decide) (ht _ kw_1_139) (fun _ h9 => h9) rfl dX9_judge_21 ?_
    refine lv_aload_n hx hb dX9_judge_24 rfl (lv_at hl 2 rfl) ?_
    refine va_get (D := E.1) (ci := 3) (v := .ref now_h) (C := RX9) (T := TX9) (N := 6) hx hb ht i_X9 hown hK hP 0 rfl rfl 0 (by decide) (ht _ kw_1_138) (fun _ h9 => h9) rfl dX9_judge_25 ?_
    obtain ⟨⟨y5, y6, y7, y8, y9, y10, y11, y12, y13⟩, h14, hv⟩ := ob_s hv
    refine wrV (as := [b_h, now_h, now_a0, now_a1, now_a2, now_a3, now_a4, now_a5, mind_h, mind_a0, mind_a1, mind_a2, mind_a3, mind_a4, mind_a5, sa_h, q_h, q_a0]) (wr := [oBp b_h now_h mind_h kept_h b_img rails_h sa_h, aS E sa_h sh, oSh q_h q_a0 q_holds q_kind q_figure q_sort q_size, ai E q_a0 100 q_elements]) [8, 9, 10, 11, 12, 13, 14, 1, 2, 3, 4, 5, 6, 7] [0, 15, 16, 17] 2 0 (ws := [oBp b_h now_h mind_h kept_h b_img rails_h sa_h, oSt now_h now_a0 now_a1 now_a2 now_a3 now_a4 now_a5 now_moving now_shut now_people now_needed now_day, ai E now_a0 10 now_height, ai E now_a1 7 now_kind, ai E now_a2 7 now_figure, ai E now_a3 7 now_rail, ai E now_a4 7 now_mood, ai E now_a5 7 now_sight, oSt mind_h mind_a0 mind_a1 mind_a2 mind_a3 mind_a4 mind_a5 mind_moving mind_shut mind_people mind_needed mind_day, ai E mind_a0 10 mind_height, ai E mind_a1 7 mind_kind, ai E mind_a2 7 mind_figure, ai E mind_a3 7 mind_rail, ai E mind_a4 7 mind_mood, ai E mind_a5 7 mind_sight, aS E sa_h sh, oSh q_h q_a0 q_holds q_kind q_figure q_sort q_size, ai E q_a0 100 q_elements]) (ws' := [oBp b_h now_h mind_h kept_h b_img rails_h sa_h, oSt now_h now_a0 now_a1 now_a2 now_a3 now_a4 now_a5 now_moving now_shut now_people now_needed now_day, ai E now_a0 10 now_height, ai E now_a1 7 now_kind, ai E now_a2 7 now_figure, ai E now_a3 7 now_rail, ai E now_a4 7 now_mood, ai E now_a5 7 now_sight, oSt mind_h mind_a0 mind_a1 mind_a2 mind_a3 mind_a4 mind_a5 mind_moving y5 y6 y7 y8, ai E mind_a0 10 y9, ai E mind_a1 7 y10, ai E mind_a2 7 y11, ai E mind_a3 7 y12, ai E mind_a4 7 y13, ai E mind_a5 7 mind_sight, aS E sa_h sh, oSh q_h q_a0 q_holds q_kind q_figure q_sort q_size, ai E q_a0 100 q_elements]) (As := [.ref now_h]) (rest := []) (st1 := []) hC q_X8_become kw_1_171 (c_X8_become l E mind_h mind_a0 mind_a1 mind_a2 mind_a3 mind_a4 mind_a5 now_h now_a0 now_a1 now_a2 now_a3 now_a4 now_a5 mind_height mind_kind mind_figure mind_rail mind_mood mind_sight mind_moving mind_shut mind_people mind_needed mind_day now_height now_kind now_figure now_rail now_mood now_sight now_moving now_shut now_people now_needed now_day y5 y6 y7 y8 y9 y10 y11 y12 y13 h14) ⟨rfl, rfl⟩ ⟨Nat.le_of_ble_eq_true rfl, Nat.le_of_ble_eq_true rfl⟩ ⟨Nat.zero_le _, Nat.zero_le _⟩ hP hD hS hA rfl rfl rfl hG (by decide) rfl rfl rfl rfl rfl rfl rfl rfl hl.1 rfl (Nat.le_of_ble_eq_true rfl) dX9_judge_28 rfl (fun H locs hP hD hS => ?_)
    refine lv_aload_n hx hb dX9_judge_31 rfl (lv_at hl 2 rfl) ?_
    refine va_get (D := E.1) (ci := 3) (v := .ref mind_h) (C := RX9) (T := TX9) (N := 6) hx hb ht i_X9 hown hK hP 0 rfl rfl 1 (by decide) (ht _ kw_1_139) (fun _ h9 => h9) rfl dX9_judge_32 ?_
    obtain ⟨⟨y15, y16⟩, h17, hv⟩ := ob_s hv
    refine wrV (as := [b_h, now_h, now_a0, now_a1, now_a2, now_a3, now_a4, now_a5, mind_h, mind_a0, mind_a1, mind_a2, mind_a3, mind_a4, mind_a5, sa_h, q_h, q_a0]) (wr := [oBp b_h now_h mind_h kept_h b_img rails_h sa_h, oSt now_h now_a0 now_a1 now_a2 now_a3 now_a4 now_a5 now_moving now_shut now_people now_needed now_day, ai E now_a0 10 now_height, ai E now_a1 7 now_kind, ai E now_a2 7 now_figure, ai E now_a3 7 now_rail, ai E now_a4 7 now_mood, ai E now_a5 7 now_sight, aS E sa_h sh, oSh q_h q_a0 q_holds q_kind q_figure q_sort q_size, ai E q_a0 100 q_elements]) [8, 9, 10, 11, 12, 13, 14] [0, 1, 2, 3, 4, 5, 6, 7, 15, 16, 17] 2 0 (ws := [oBp b_h now_h mind_h kept_h b_img rails_h sa_h, oSt now_h now_a0 now_a1 now_a2 now_a3 now_a4 now_a5 now_moving now_shut now_people now_needed now_day, ai E now_a0 10 now_height, ai E now_a1 7 now_kind, ai E now_a2 7 now_figure, ai E now_a3 7 now_rail, ai E now_a4 7 now_mood, ai E now_a5 7 now_sight, oSt mind_h mind_a0 mind_a1 mind_a2 mind_a3 mind_a4 mind_a5 mind_moving y5 y6 y7 y8, ai E mind_a0 10 y9, ai E mind_a1 7 y10, ai E mind_a2 7 y11, ai E mind_a3 7 y12, ai E mind_a4 7 y13, ai E mind_a5 7 mind_sight, aS E sa_h sh, oSh q_h q_a0 q_holds q_kind q_figure q_sort q_size, ai E q_a0 100 q_elements]) (ws' := [oBp b_h now_h mind_h kept_h b_img rails_h sa_h, oSt now_h now_a0 now_a1 now_a2 now_a3 now_a4 now_a5 now_moving now_shut now_people now_needed now_day, ai E now_a0 10 now_height, ai E now_a1 7 now_kind, ai E now_a2 7 now_figure, ai E now_a3 7 now_rail, ai E now_a4 7 now_mood, ai E now_a5 7 now_sight, oSt mind_h mind_a0 mind_a1 mind_a2 mind_a3 mind_a4 mind_a5 y15 y5 y6 y7 y8, ai E mind_a0 10 y9, ai E mind_a1 7 y10, ai E mind_a2 7 y11, ai E mind_a3 7 y12, ai E mind_a4 7 y13, ai E mind_a5 7 y16, aS E sa_h sh, oSh q_h q_a0 q_holds q_kind q_figure q_sort q_size, ai E q_a0 100 q_elements]) (As := []) (rest := []) (st1 := []) hC q_X8_startDays kw_2_168 (c_X8_startDays l E mind_h mind_a0 mind_a1 mind_a2 mind_a3 mind_a4 mind_a5 y9 y10 y11 y12 y13 mind_sight mind_moving y5 y6 y7 y8 N y15 y16 h17) ⟨rfl, rfl⟩ ⟨Nat.le_of_ble_eq_true rfl, Nat.le_of_ble_eq_true rfl⟩ ⟨Nat.zero_le _, Nat.zero_le _⟩ hP hD hS hA rfl rfl rfl hG (by decide) rfl rfl rfl rfl rfl rfl rfl rfl hl.1 rfl (Nat.le_of_ble_eq_true rfl) dX9_judge_35 rfl (fun H locs hP hD hS => ?_)
    refine lv_iconst (v := (0 : Int32)) hx hb dX9_judge_38 (by decide) ?_
    refine lv_istore (lv' := [(4, .int (0 : Int32)), (3, .ref q_h), (2, .int r1), (0, .ref b_h), (1, .int p1)]) hx hb dX9_judge_39 hl (by decide) rfl (fun ls hl => ?_)
    have hL41 : ∀ (n : Nat) (x18 : Int32) (y19 : Int32) (y20 : Int32) (y21 : Nat → Int32) (H : Heap) (locs : List Loc) (ls : Array Slot), va_P E.1 vwCl [oBp b_h now_h mind_h kept_h b_img rails_h sa_h, oSt now_h now_a0 now_a1 now_a2 now_a3 now_a4 now_a5 now_moving now_shut now_people now_needed now_day, ai E now_a0 10 now_height, ai E now_a1 7 now_kind, ai E now_a2 7 now_figure, ai E now_a3 7 now_rail, ai E now_a4 7 now_mood, ai E now_a5 7 now_sight, oSt mind_h mind_a0 mind_a1 mind_a2 mind_a3 mind_a4 mind_a5 y19 y5 y6 y7 y20, ai E mind_a0 10 y9, ai E mind_a1 7 y10, ai E mind_a2 7 y11, ai E mind_a3 7 y12, ai E mind_a4 7 y21, ai E mind_a5 7 y16, aS E sa_h sh, oSh q_h q_a0 q_holds q_kind q_figure q_sort q_size, ai E q_a0 100 q_elements] H → va_D A [oBp b_h now_h mind_h kept_h b_img rails_h sa_h, oSt now_h now_a0 now_a1 now_a2 now_a3 now_a4 now_a5 now_moving now_shut now_people now_needed now_day, ai E now_a0 10 now_height, ai E now_a1 7 now_kind, ai E now_a2 7 now_figure, ai E now_a3 7 now_rail, ai E now_a4 7 now_mood, ai E now_a5 7 now_sight, oSt mind_h mind_a0 mind_a1 mind_a2 mind_a3 mind_a4 mind_a5 y19 y5 y6 y7 y20, ai E mind_a0 10 y9, ai E mind_a1 7 y10, ai E mind_a2 7 y11, ai E mind_a3 7 y12, ai E mind_a4 7 y21, ai E mind_a5 7 y16, aS E sa_h sh, oSh q_h q_a0 q_holds q_kind q_figure q_sort q_size, ai E q_a0 100 q_elements] → va_S A s.heap H locs → lv_has ls 5 [(4, .int x18), (3, .ref q_h), (0, .ref b_h)] → L_X9_judge_41 N q_elements q_sort q_size y5 y6 y7 y9 y10 y11 y12 y16 n x18 y19 y20 y21 = some (res, w_mind_moving, w_mind_shut, w_mind_people, w_mind_needed, w_mind_day, w_mind_height, w_mind_kind, w_mind_figure, w_mind_rail, w_mind_mood, w_mind_sight) → W p l e ({ frames := 5, cells := 0, slots := 0, locals := 109 }) s m [.ref b_h, .int p1].toArray below meth c H locs 0 0 (MQ below (fun _ st oc t => oc = .returned (some (.int res)) ∧ va_P E.1 vwCl [oBp b_h now_h mind_h kept_h b_img rails_h sa_h, oSt now_h now_a0 now_a1 now_a2 now_a3 now_a4 now_a5 now_moving now_shut now_people now_needed now_day, ai E now_a0 10 now_height, ai E now_a1 7 now_kind, ai E now_a2 7 now_figure, ai E now_a3 7 now_rail, ai E now_a4 7 now_mood, ai E now_a5 7 now_sight, oSt mind_h mind_a0 mind_a1 mind_a2 mind_a3 mind_a4 mind_a5 w_mind_moving w_mind_shut w_mind_people w_mind_needed w_mind_day, ai E mind_a0 10 w_mind_height, ai E mind_a1 7 w_mind_kind, ai E mind_a2 7 w_mind_figure, ai E mind_a3 7 w_mind_rail, ai E mind_a4 7 w_mind_mood, ai E mind_a5 7 w_mind_sight, aS E sa_h sh, oSh q_h q_a0 q_holds q_kind q_figure q_sort q_size, ai E q_a0 100 q_elements] t.heap ∧ va_F A st t) [.ref b_h, .int p1].toArray s 0 0 A) (F0 m 41 ls []) := by
      intro n
      induction n with
      | zero => intro x18 y19 y20 y21 H locs ls hP hD hS hl hv; cases hv
      | succ n41 ih41 =>
        intro x18 y19 y20 y21 H locs ls hP hD hS hl hv
        rw [L_X9_judge_41] at hv
        refine lv_iload hx hb dX9_judge_41 (lv_at hl 0 rfl) ?_
        refine lv_aload_n hx hb dX9_judge_43 rfl (lv_at hl 1 rfl) ?_
        refine va_get (D := E.1) (ci := 1) (v := .int q_size) (C := RX7) (T := TX7) (N := 6) hx hb ht i_X7 hown hK hP 16 rfl rfl 5 (by decide) (ht _ kw_1_124) (fun _ h9 => h9) rfl dX9_judge_44 ?_
        refine lv_icmp_ge (tgt := 100) hx hb dX9_judge_47 (by decide) (fun c22 => ?_) (fun c22 => ?_)
        · have hv := if_y c22 hv
          refine lv_bipush (v := (-4 : Int32)) hx hb dX9_judge_100 (by decide) ?_
          refine lv_topi (fun z23 ez23 => ?_)
          have hv := nm_s ez23 hv
          cases hv
          exact W.iret hx hb hr (fun t h9 _ => ⟨rfl, by rw [h9]; exact hP, hS.F h9⟩) hS.2.2 dX9_judge_102 hlk
        · have hv := if_n c22 hv
          refine lv_iload hx hb dX9_judge_50 (lv_at hl 0 rfl) ?_
          refine lv_if_le (tgt := 63) hx hb dX9_judge_52 (by decide) (fun c24 => ?_) (fun c24 => ?_)
          · have hv := if_y c24 hv
            refine lv_aload_n hx hb dX9_judge_63 rfl (lv_at hl 1 rfl) ?_
            refine lv_iload hx hb dX9_judge_64 (lv_at hl 0 rfl) ?_
            obtain ⟨r25, h26, hv⟩ := ob_s hv
            refine rdV 1 0 (As := [.int x18]) (rest := []) (st1 := [.int r25]) (w := [oSh q_h q_a0 q_holds q_kind q_figure q_sort q_size, ai E q_a0 100 q_elements]) hC q_X7_isSkipped kw_3_119 (c_X7_isSkipped l E q_h q_a0 q_elements q_holds q_kind q_figure q_sort q_size x18 r25 h26) ⟨rfl, rfl⟩ ⟨Nat.le_of_ble_eq_true rfl, Nat.le_of_ble_eq_true rfl⟩ ⟨Nat.zero_le _, Nat.zero_le _⟩ (hP.sub (ws' := [oSh q_h q_a0 q_holds q_kind q_figure q_sort q_size, ai E q_a0 100 q_elements]) [16, 17] rfl) rfl rfl rfl hG rfl hl.1 rfl (Nat.le_of_ble_eq_true rfl) dX9_judge_66 rfl ?_
            refine lv_if_ne (tgt := 94) hx hb dX9_judge_69 (by decide) (fun c27 => ?_) (fun c27 => ?_)
            · have hv := if_n c27 hv
              refine lv_iinc (v := (x18 + (1 : Int32))) (lv' := [(4, .int (x18 + (1 : Int32))), (3, .ref q_h), (0, .ref b_h)]) hx hb dX9_judge_94 hl (k := 0) rfl rfl (by decide) rfl (fun ls hl => ?_)
              refine lv_goto (tgt := 41) hx hb dX9_judge_97 (by decide) ?_
              exact ih41 (x18 + (1 : Int32)) y19 y20 y21 _ _ _ hP hD hS (lv_sub hl [0, 1, 2] rfl) hv
            · have hv := if_y c27 hv
              refine lv_aload_n hx hb dX9_judge_72 rfl (lv_at hl 1 rfl) ?_
              refine lv_iload hx hb dX9_judge_73 (lv_at hl 0 rfl) ?_
              obtain ⟨r28, h29, hv⟩ := ob_s hv
              refine rdV 1 0 (As := [.int x18]) (rest := []) (st1 := [.int r28]) (w := [oSh q_h q_a0 q_holds q_kind q_figure q_sort q_size, ai E q_a0 100 q_elements]) hC q_X7_at kw_3_129 (c_X7_at l E q_h q_a0 q_elements q_holds q_kind q_figure q_sort q_size x18 r28 h29) ⟨rfl, rfl⟩ ⟨Nat.le_of_ble_eq_true rfl, Nat.le_of_ble_eq_true rfl⟩ ⟨Nat.zero_le _, Nat.zero_le _⟩ (hP.sub (ws' := [oSh q_h q_a0 q_holds q_kind q_figure q_sort q_size, ai E q_a0 100 q_elements]) [16, 17] rfl) rfl rfl rfl hG rfl hl.1 rfl (Nat.le_of_ble_eq_true rfl) dX9_judge_75 rfl ?_
              refine lv_aload_n hx hb dX9_judge_78 rfl (lv_at hl 2 rfl) ?_
              refine va_get (D := E.1) (ci := 3) (v := .ref mind_h) (C := RX9) (T := TX9) (N := 6) hx hb ht i_X9 hown hK hP 0 rfl rfl 1 (by decide) (ht _ kw_1_139) (fun _ h9 => h9) rfl dX9_judge_79 ?_
              obtain ⟨r30, h31, hv⟩ := ob_s hv
              refine rdV 2 0 (As := []) (rest := [.int r28]) (st1 := [.int r30, .int r28]) (w := [oSt mind_h mind_a0 mind_a1 mind_a2 mind_a3 mind_a4 mind_a5 y19 y5 y6 y7 y20, ai E mind_a0 10 y9, ai E mind_a1 7 y10, ai E mind_a2 7 y11, ai E mind_a3 7 y12, ai E mind_a4 7 y21, ai E mind_a5 7 y16]) hC q_X8_isCarried kw_2_110 (c_X8_isCarried l E mind_h mind_a0 mind_a1 mind_a2 mind_a3 mind_a4 mind_a5 y9 y10 y11 y12 y21 y16 y19 y5 y6 y7 y20 N r30 h31) ⟨rfl, rfl⟩ ⟨Nat.le_of_ble_eq_true rfl, Nat.le_of_ble_eq_true rfl⟩ ⟨Nat.zero_le _, Nat.zero_le _⟩ (hP.sub (ws' := [oSt mind_h mind_a0 mind_a1 mind_a2 mind_a3 mind_a4 mind_a5 y19 y5 y6 y7 y20, ai E mind_a0 10 y9, ai E mind_a1 7 y10, ai E mind_a2 7 y11, ai E mind_a3 7 y12, ai E mind_a4 7 y21, ai E mind_a5 7 y16]) [8, 9, 10, 11, 12, 13, 14] rfl) rfl rfl rfl hG rfl hl.1 rfl (Nat.le_of_ble_eq_true rfl) dX9_judge_82 rfl ?_
              obtain ⟨r32, h33, hv⟩ := ob_s hv
              refine rdS (rest := [.int r28]) (st1 := [.int r32, .int r28]) (w := []) hC q_X9_oneIf kw_2_59 (c_X9_oneIf l E r30 r32 h33) ⟨rfl, rfl⟩ ⟨Nat.le_of_ble_eq_true rfl, Nat.le_of_ble_eq_true rfl⟩ ⟨Nat.zero_le _, Nat.zero_le _⟩ (hP.sub (ws' := []) [] rfl) hG rfl hl.1 rfl (Nat.le_of_ble_eq_true rfl) dX9_judge_85 rfl ?_
              refine lv_icmp_eq (tgt := 94) hx hb dX9_judge_88 (by decide) (fun c34 => ?_) (fun c34 => ?_)
              · have hv := if_y c34 hv
                refine lv_iinc (v := (x18 + (1 : Int32))) (lv' := [(4, .int (x18 + (1 : Int32))), (3, .ref q_h), (0, .ref b_h)]) hx hb dX9_judge_94 hl (k := 0) rfl rfl (by decide) rfl (fun ls hl => ?_)
                refine lv_goto (tgt := 41) hx hb dX9_judge_97 (by decide) ?_
                exact ih41 (x18 + (1 : Int32)) y19 y20 y21 _ _ _ hP hD hS (lv_sub hl [0, 1, 2] rfl) hv
              · have hv := if_n c34 hv
                refine lv_iload hx hb dX9_judge_91 (lv_at hl 0 rfl) ?_
                cases hv
                exact W.iret hx hb hr (fun t h9 _ => ⟨rfl, by rw [h9]; exact hP, hS.F h9⟩) hS.2.2 dX9_judge_93 hlk
          · have hv := if_n c24 hv
            refine lv_aload_n hx hb dX9_judge_55 rfl (lv_at hl 2 rfl) ?_
            refine va_get (D := E.1) (ci := 3) (v := .ref mind_h) (C := RX9) (T := TX9) (N := 6) hx hb ht i_X9 hown hK hP 0 rfl rfl 1 (by decide) (ht _ kw_1_139) (fun _ h9 => h9) rfl dX9_judge_56 ?_
            obtain ⟨⟨r35, y36, y37, y38⟩, h39, hv⟩ := ob_s hv
            refine wrV (as := [b_h, now_h, now_a0, now_a1, now_a2, now_a3, now_a4, now_a5, mind_h, mind_a0, mind_a1, mind_a2, mind_a3, mind_a4, mind_a5, sa_h, q_h, q_a0]) (wr := [oBp b_h now_h mind_h kept_h b_img rails_h sa_h, oSt now_h now_a0 now_a1 now_a2 now_a3 now_a4 now_a5 now_moving now_shut now_people now_needed now_day, ai E now_a0 10 now_height, ai E now_a1 7 now_kind, ai E now_a2 7 now_figure, ai E now_a3 7 now_rail, ai E now_a4 7 now_mood, ai E now_a5 7 now_sight, aS E sa_h sh, oSh q_h q_a0 q_holds q_kind q_figure q_sort q_size, ai E q_a0 100 q_elements]) [8, 9, 10, 11, 12, 13, 14] [0, 1, 2, 3, 4, 5, 6, 7, 15, 16, 17] 2 0 (ws := [oBp b_h now_h mind_h kept_h b_img rails_h sa_h, oSt now_h now_a0 now_a1 now_a2 now_a3 now_a4 now_a5 now_moving now_shut now_people now_needed now_day, ai E now_a0 10 now_height, ai E now_a1 7 now_kind, ai E now_a2 7 now_figure, ai E now_a3 7 now_rail, ai E now_a4 7 now_mood, ai E now_a5 7 now_sight, oSt mind_h mind_a0 mind_a1 mind_a2 mind_a3 mind_a4 mind_a5 y19 y5 y6 y7 y20, ai E mind_a0 10 y9, ai E mind_a1 7 y10, ai E mind_a2 7 y11, ai E mind_a3 7 y12, ai E mind_a4 7 y21, ai E mind_a5 7 y16, aS E sa_h sh, oSh q_h q_a0 q_holds q_kind q_figure q_sort q_size, ai E q_a0 100 q_elements]) (ws' := [oBp b_h now_h mind_h kept_h b_img rails_h sa_h, oSt now_h now_a0 now_a1 now_a2 now_a3 now_a4 now_a5 now_moving now_shut now_people now_needed now_day, ai E now_a0 10 now_height, ai E now_a1 7 now_kind, ai E now_a2 7 now_figure, ai E now_a3 7 now_rail, ai E now_a4 7 now_mood, ai E now_a5 7 now_sight, oSt mind_h mind_a0 mind_a1 mind_a2 mind_a3 mind_a4 mind_a5 y36 y5 y6 y7 y37, ai E mind_a0 10 y9, ai E mind_a1 7 y10, ai E mind_a2 7 y11, ai E mind_a3 7 y12, ai E mind_a4 7 y38, ai E mind_a5 7 y16, aS E sa_h sh, oSh q_h q_a0 q_holds q_kind q_figure q_sort q_size, ai E q_a0 100 q_elements]) (As := []) (rest := []) (st1 := [.int r35]) hC q_X8_nextDay kw_2_169 (c_X8_nextDay l E mind_h mind_a0 mind_a1 mind_a2 mind_a3 mind_a4 mind_a5 y9 y10 y11 y12 y21 y16 y19 y5 y6 y7 y20 N r35 y36 y37 y38 h39) ⟨rfl, rfl⟩ ⟨Nat.le_of_ble_eq_true rfl, Nat.le_of_ble_eq_true rfl⟩ ⟨Nat.zero_le _, Nat.zero_le _⟩ hP hD hS hA rfl rfl rfl hG (by decide) rfl rfl rfl rfl rfl rfl rfl rfl hl.1 rfl (Nat.le_of_ble_eq_true rfl) dX9_judge_59 rfl (fun H locs hP hD hS => ?_)
            refine lv_pop hx hb dX9_judge_62 rfl ?_
            refine lv_aload_n hx hb dX9_judge_63 rfl (lv_at hl 1 rfl) ?_
            refine lv_iload hx hb dX9_judge_64 (lv_at hl 0 rfl) ?_
            obtain ⟨r40, h41, hv⟩ := ob_s hv
            refine rdV 1 0 (As := [.int x18]) (rest := []) (st1 := [.int r40]) (w := [oSh q_h q_a0 q_holds q_kind q_figure q_sort q_size, ai E q_a0 100 q_elements]) hC q_X7_isSkipped kw_3_119 (c_X7_isSkipped l E q_h q_a0 q_elements q_holds q_kind q_figure q_sort q_size x18 r40 h41) ⟨rfl, rfl⟩ ⟨Nat.le_of_ble_eq_true rfl, Nat.le_of_ble_eq_true rfl⟩ ⟨Nat.zero_le _, Nat.zero_le _⟩ (hP.sub (ws' := [oSh q_h q_a0 q_holds q_kind q_figure q_sort q_size, ai E q_a0 100 q_elements]) [16, 17] rfl) rfl rfl rfl hG rfl hl.1 rfl (Nat.le_of_ble_eq_true rfl) dX9_judge_66 rfl ?_
            refine lv_if_ne (tgt := 94) hx hb dX9_judge_69 (by decide) (fun c42 => ?_) (fun c42 => ?_)
            · have hv := if_n c42 hv
              refine lv_iinc (v := (x18 + (1 : Int32))) (lv' := [(4, .int (x18 + (1 : Int32))), (3, .ref q_h), (0, .ref b_h)]) hx hb dX9_judge_94 hl (k := 0) rfl rfl (by decide) rfl (fun ls hl => ?_)
              refine lv_goto (tgt := 41) hx hb dX9_judge_97 (by decide) ?_
              exact ih41 (x18 + (1 : Int32)) y36 y37 y38 _ _ _ hP hD hS (lv_sub hl [0, 1, 2] rfl) hv
            · have hv := if_y c42 hv
              refine lv_aload_n hx hb dX9_judge_72 rfl (lv_at hl 1 rfl) ?_
              refine lv_iload hx hb dX9_judge_73 (lv_at hl 0 rfl) ?_
              obtain ⟨r43, h44, hv⟩ := ob_s hv
              refine rdV 1 0 (As := [.int x18]) (rest := []) (st1 := [.int r43]) (w := [oSh q_h q_a0 q_holds q_kind q_figure q_sort q_size, ai E q_a0 100 q_elements]) hC q_X7_at kw_3_129 (c_X7_at l E q_h q_a0 q_elements q_holds q_kind q_figure q_sort q_size x18 r43 h44) ⟨rfl, rfl⟩ ⟨Nat.le_of_ble_eq_true rfl, Nat.le_of_ble_eq_true rfl⟩ ⟨Nat.zero_le _, Nat.zero_le _⟩ (hP.sub (ws' := [oSh q_h q_a0 q_holds q_kind q_figure q_sort q_size, ai E q_a0 100 q_elements]) [16, 17] rfl) rfl rfl rfl hG rfl hl.1 rfl (Nat.le_of_ble_eq_true rfl) dX9_judge_75 rfl ?_
              refine lv_aload_n hx hb dX9_judge_78 rfl (lv_at hl 2 rfl) ?_
              refine va_get (D := E.1) (ci := 3) (v := .ref mind_h) (C := RX9) (T := TX9) (N := 6) hx hb ht i_X9 hown hK hP 0 rfl rfl 1 (by decide) (ht _ kw_1_139) (fun _ h9 => h9) rfl dX9_judge_79 ?_
              obtain ⟨r45, h46, hv⟩ := ob_s hv
              refine rdV 2 0 (As := []) (rest := [.int r43]) (st1 := [.int r45, .int r43]) (w := [oSt mind_h mind_a0 mind_a1 mind_a2 mind_a3 mind_a4 mind_a5 y36 y5 y6 y7 y37, ai E mind_a0 10 y9, ai E mind_a1 7 y10, ai E mind_a2 7 y11, ai E mind_a3 7 y12, ai E mind_a4 7 y38, ai E mind_a5 7 y16]) hC q_X8_isCarried kw_2_110 (c_X8_isCarried l E mind_h mind_a0 mind_a1 mind_a2 mind_a3 mind_a4 mind_a5 y9 y10 y11 y12 y38 y16 y36 y5 y6 y7 y37 N r45 h46) ⟨rfl, rfl⟩ ⟨Nat.le_of_ble_eq_true rfl, Nat.le_of_ble_eq_true rfl⟩ ⟨Nat.zero_le _, Nat.zero_le _⟩ (hP.sub (ws' := [oSt mind_h mind_a0 mind_a1 mind_a2 mind_a3 mind_a4 mind_a5 y36 y5 y6 y7 y37, ai E mind_a0 10 y9, ai E mind_a1 7 y10, ai E mind_a2 7 y11, ai E mind_a3 7 y12, ai E mind_a4 7 y38, ai E mind_a5 7 y16]) [8, 9, 10, 11, 12, 13, 14] rfl) rfl rfl rfl hG rfl hl.1 rfl (Nat.le_of_ble_eq_true rfl) dX9_judge_82 rfl ?_
              obtain ⟨r47, h48, hv⟩ := ob_s hv
              refine rdS (rest := [.int r43]) (st1 := [.int r47, .int r43]) (w := []) hC q_X9_oneIf kw_2_59 (c_X9_oneIf l E r45 r47 h48) ⟨rfl, rfl⟩ ⟨Nat.le_of_ble_eq_true rfl, Nat.le_of_ble_eq_true rfl⟩ ⟨Nat.zero_le _, Nat.zero_le _⟩ (hP.sub (ws' := []) [] rfl) hG rfl hl.1 rfl (Nat.le_of_ble_eq_true rfl) dX9_judge_85 rfl ?_
              refine lv_icmp_eq (tgt := 94) hx hb dX9_judge_88 (by decide) (fun c49 => ?_) (fun c49 => ?_)
              · have hv := if_y c49 hv
                refine lv_iinc (v := (x18 + (1 : Int32))) (lv' := [(4, .int (x18 + (1 : Int32))), (3, .ref q_h), (0, .ref b_h)]) hx hb dX9_judge_94 hl (k := 0) rfl rfl (by decide) rfl (fun ls hl => ?_)
                refine lv_goto (tgt := 41) hx hb dX9_judge_97 (by decide) ?_
                exact ih41 (x18 + (1 : Int32)) y36 y37 y38 _ _ _ hP hD hS (lv_sub hl [0, 1, 2] rfl) hv
              · have hv := if_n c49 hv
                refine lv_iload hx hb dX9_judge_91 (lv_at hl 0 rfl) ?_
                cases hv
                exact W.iret hx hb hr (fun t h9 _ => ⟨rfl, by rw [h9]; exact hP, hS.F h9⟩) hS.2.2 dX9_judge_93 hlk
    exact hL41 N (0 : Int32) y15 y8 y13 _ _ _ hP hD hS (lv_sub hl [0, 1, 3] rfl) hv
  · have hv := if_n c3 hv
    refine lv_iload_n hx hb dX9_judge_11 rfl (lv_at hl 0 rfl) ?_
    cases hv
    exact W.iret hx hb hr (fun t h9 _ => ⟨rfl, by rw [h9]; exact hP, hS.F h9⟩) hS.2.2 dX9_judge_12 hlk
theorem dX9_image_0 : decode cX9_image 0 = .ok (.aload_n 0, 1) := by decide +kernel
theorem dX9_image_1 : decode cX9_image 1 = .ok (.getfield 19, 3) := by decide +kernel
theorem dX9_image_4 : decode cX9_image 4 = .ok (.aload_n 0, 1) := by decide +kernel
theorem dX9_image_5 : decode cX9_image 5 = .ok (.getfield 12, 3) := by decide +kernel
theorem dX9_image_8 : decode cX9_image 8 = .ok (.invokevirtual 48, 3) := by decide +kernel
theorem dX9_image_11 : decode cX9_image 11 = .ok (.aload_n 0, 1) := by decide +kernel
theorem dX9_image_12 : decode cX9_image 12 = .ok (.iconst 1, 1) := by decide +kernel
theorem dX9_image_13 : decode cX9_image 13 = .ok (.putfield 22, 3) := by decide +kernel
theorem dX9_image_16 : decode cX9_image 16 = .ok (.aload_n 0, 1) := by decide +kernel
theorem dX9_image_17 : decode cX9_image 17 = .ok (.getfield 12, 3) := by decide +kernel
theorem dX9_image_20 : decode cX9_image 20 = .ok (.getfield 271, 3) := by decide +kernel
theorem dX9_image_23 : decode cX9_image 23 = .ok (.ireturn, 1) := by decide +kernel
def f_X9_image (now_height : Nat → Int32) (now_kind : Nat → Int32) (now_figure : Nat → Int32) (now_rail : Nat → Int32) (now_mood : Nat → Int32) (now_shut : Int32) (now_people : Int32) (now_needed : Int32) (now_day : Int32) : Option (Int32 × Int32 × Int32 × Int32 × Int32 × Int32 × (Nat → Int32) × (Nat → Int32) × (Nat → Int32) × (Nat → Int32) × (Nat → Int32)) := ob (f_X8_become now_height now_kind now_figure now_rail now_mood now_shut now_people now_needed now_day) (fun (y1, y2, y3, y4, y5, y6, y7, y8, y9) => some (now_day, (1 : Int32), y1, y2, y3, y4, y5, y6, y7, y8, y9))
set_option maxHeartbeats 4000000 in
set_option maxRecDepth 100000 in
theorem c_X9_image (l : Launch) (E : EE) (b_h : Nat) (now_h : Nat) (mind_h : Nat) (kept_h : Nat) (rails_h : Nat) (sa_h : Nat) (now_a0 : Nat) (now_a1 : Nat) (now_a2 : Nat) (now_a3 : Nat) (now_a4 : Nat) (now_a5 : Nat) (kept_a0 : Nat) (kept_a1 : Nat) (kept_a2 : Nat) (kept_a3 : Nat) (kept_a4 : Nat) (kept_a5 : Nat) (b_img : Int32) (now_height : Nat → Int32) (now_kind : Nat → Int32) (now_figure : Nat → Int32) (now_rail : Nat → Int32) (now_mood : Nat → Int32) (now_sight : Nat → Int32) (now_moving : Int32) (now_shut : Int32) (now_people : Int32) (now_needed : Int32) (now_day : Int32) (kept_height : Nat → Int32) (kept_kind : Nat → Int32) (kept_figure : Nat → Int32) (kept_rail : Nat → Int32) (kept_mood : Nat → Int32) (kept_sight : Nat → Int32) (kept_moving : Int32) (kept_shut : Int32) (kept_people : Int32) (kept_needed : Int32) (kept_day : Int32) (res : Int32) (w_b_img : Int32) (w_kept_shut : Int32) (w_kept_people : Int32) (w_kept_needed : Int32) (w_kept_day : Int32) (w_kept_height : Nat → Int32) (w_kept_kind : Nat → Int32) (w_kept_figure : Nat → Int32) (w_kept_rail : Nat → Int32) (w_kept_mood : Nat → Int32) (hv : f_X9_image now_height now_kind now_figure now_rail now_mood now_shut now_people now_needed now_day = some (res, w_b_img, w_kept_shut, w_kept_people, w_kept_needed, w_kept_day, w_kept_height, w_kept_kind, w_kept_figure, w_kept_rail, w_kept_mood)) : Wr l E yX9_image cX9_image 1 (some .int) ({ frames := 2, cells := 0, slots := 0, locals := 61 }) [.ref b_h] [oBp b_h now_h mind_h kept_h b_img rails_h sa_h, oSt now_h now_a0 now_a1 now_a2 now_a3 now_a4 now_a5 now_moving now_shut now_people now_needed now_day, ai E now_a0 10 now_height, ai E now_a1 7 now_kind, ai E now_a2 7 now_figure, ai E now_a3 7 now_rail, ai E now_a4 7 now_mood, ai E now_a5 7 now_sight, oSt kept_h kept_a0 kept_a1 kept_a2 kept_a3 kept_a4 kept_a5 kept_moving kept_shut kept_people kept_needed kept_day, ai E kept_a0 10 kept_height, ai E kept_a1 7 kept_kind, ai E kept_a2 7 kept_figure, ai E kept_a3 7 kept_rail, ai E kept_a4 7 kept_mood, ai E kept_a5 7 kept_sight] [oBp b_h now_h mind_h kept_h w_b_img rails_h sa_h, oSt now_h now_a0 now_a1 now_a2 now_a3 now_a4 now_a5 now_moving now_shut now_people now_needed now_day, ai E now_a0 10 now_height, ai E now_a1 7 now_kind, ai E now_a2 7 now_figure, ai E now_a3 7 now_rail, ai E now_a4 7 now_mood, ai E now_a5 7 now_sight, oSt kept_h kept_a0 kept_a1 kept_a2 kept_a3 kept_a4 kept_a5 kept_moving w_kept_shut w_kept_people w_kept_needed w_kept_day, ai E kept_a0 10 w_kept_height, ai E kept_a1 7 w_kept_kind, ai E kept_a2 7 w_kept_figure, ai E kept_a3 7 w_kept_rail, ai E kept_a4 7 w_kept_mood, ai E kept_a5 7 kept_sight] (some (.int res)) := by
  refine Wr.intro RX9 (by decide) rfl (Nat.le_of_ble_eq_true rfl) ?_
  intro p e s m below meth c ls A hC hr hlk hmn hP hD hS hA hG hl
  obtain ⟨hx, hb, hml, hown, ht⟩ := id hC
  have hK := hG.1
  have hl : lv_has ls 1 [(0, .ref b_h)] := hl
  rw [f_X9_image] at hv
  refine lv_aload_n hx hb dX9_image_0 rfl (lv_at hl 0 rfl) ?_
  refine va_get (D := E.1) (ci := 3) (v := .ref kept_h) (C := RX9) (T := TX9) (N := 6) hx hb ht i_X9 hown hK hP 0 rfl rfl 2 (by decide) (ht _ kw_1_140) (fun _ h9 => h9) rfl dX9_image_1 ?_
  refine lv_aload_n hx hb dX9_image_4 rfl (lv_at hl 0 rfl) ?_
  refine va_get (D := E.1) (ci := 3) (v := .ref now_h) (C := RX9) (T := TX9) (N := 6) hx hb ht i_X9 hown hK hP 0 rfl rfl 0 (by decide) (ht _ kw_1_138) (fun _ h9 => h9) rfl dX9_image_5 ?_
  obtain ⟨⟨y1, y2, y3, y4, y5, y6, y7, y8, y9⟩, h10, hv⟩ := ob_s hv
  refine wrV (as := [b_h, now_h, now_a0, now_a1, now_a2, now_a3, now_a4, now_a5, kept_h, kept_a0, kept_a1, kept_a2, kept_a3, kept_a4, kept_a5]) (wr := [oBp b_h now_h mind_h kept_h b_img rails_h sa_h]) [8, 9, 10, 11, 12, 13, 14, 1, 2, 3, 4, 5, 6, 7] [0] 2 0 (ws := [oBp b_h now_h mind_h kept_h b_img rails_h sa_h, oSt now_h now_a0 now_a1 now_a2 now_a3 now_a4 now_a5 now_moving now_shut now_people now_needed now_day, ai E now_a0 10 now_height, ai E now_a1 7 now_kind, ai E now_a2 7 now_figure, ai E now_a3 7 now_rail, ai E now_a4 7 now_mood, ai E now_a5 7 now_sight, oSt kept_h kept_a0 kept_a1 kept_a2 kept_a3 kept_a4 kept_a5 kept_moving kept_shut kept_people kept_needed kept_day, ai E kept_a0 10 kept_height, ai E kept_a1 7 kept_kind, ai E kept_a2 7 kept_figure, ai E kept_a3 7 kept_rail, ai E kept_a4 7 kept_mood, ai E kept_a5 7 kept_sight]) (ws' := [oBp b_h now_h mind_h kept_h b_img rails_h sa_h, oSt now_h now_a0 now_a1 now_a2 now_a3 now_a4 now_a5 now_moving now_shut now_people now_needed now_day, ai E now_a0 10 now_height, ai E now_a1 7 now_kind, ai E now_a2 7 now_figure, ai E now_a3 7 now_rail, ai E now_a4 7 now_mood, ai E now_a5 7 now_sight, oSt kept_h kept_a0 kept_a1 kept_a2 kept_a3 kept_a4 kept_a5 kept_moving y1 y2 y3 y4, ai E kept_a0 10 y5, ai E kept_a1 7 y6, ai E kept_a2 7 y7, ai E kept_a3 7 y8, ai E kept_a4 7 y9, ai E kept_a5 7 kept_sight]) (As := [.ref now_h]) (rest := []) (st1 := []) hC q_X8_become kw_1_171 (c_X8_become l E kept_h kept_a0 kept_a1 kept_a2 kept_a3 kept_a4 kept_a5 now_h now_a0 now_a1 now_a2 now_a3 now_a4 now_a5 kept_height kept_kind kept_figure kept_rail kept_mood kept_sight kept_moving kept_shut kept_people kept_needed kept_day now_height now_kind now_figure now_rail now_mood now_sight now_moving now_shut now_people now_needed now_day y1 y2 y3 y4 y5 y6 y7 y8 y9 h10) ⟨rfl, rfl⟩ ⟨Nat.le_of_ble_eq_true rfl, Nat.le_of_ble_eq_true rfl⟩ ⟨Nat.zero_le _, Nat.zero_le _⟩ hP hD hS hA rfl rfl rfl hG (by decide) rfl rfl rfl rfl rfl rfl rfl rfl hl.1 rfl (Nat.le_of_ble_eq_true rfl) dX9_image_8 rfl (fun H locs hP hD hS => ?_)
  refine lv_aload_n hx hb dX9_image_11 rfl (lv_at hl 0 rfl) ?_
  refine lv_iconst (v := (1 : Int32)) hx hb dX9_image_12 (by decide) ?_
  refine va_put (D := E.1) (ci := 3) (v := .int (1 : Int32)) (ty := .boolean) (C := RX9) (T := TX9) (N := 6) hx hb ht i_X9 tyX9 tyX9_ok nmX9 hown hK hP hD hS 0 rfl rfl 3 (by decide) (ht _ kw_1_141) (fun _ h9 => h9) rfl (by decide +kernel) rfl rfl (Nat.le_of_ble_eq_true rfl) dX9_image_13 (fun H locs hP hD hS => ?_)
  have hP : va_P E.1 vwCl [oBp b_h now_h mind_h kept_h (1 : Int32) rails_h sa_h, oSt now_h now_a0 now_a1 now_a2 now_a3 now_a4 now_a5 now_moving now_shut now_people now_needed now_day, ai E now_a0 10 now_height, ai E now_a1 7 now_kind, ai E now_a2 7 now_figure, ai E now_a3 7 now_rail, ai E now_a4 7 now_mood, ai E now_a5 7 now_sight, oSt kept_h kept_a0 kept_a1 kept_a2 kept_a3 kept_a4 kept_a5 kept_moving y1 y2 y3 y4, ai E kept_a0 10 y5, ai E kept_a1 7 y6, ai E kept_a2 7 y7, ai E kept_a3 7 y8, ai E kept_a4 7 y9, ai E kept_a5 7 kept_sight] H := hP
  have hD : va_D A [oBp b_h now_h mind_h kept_h (1 : Int32) rails_h sa_h, oSt now_h now_a0 now_a1 now_a2 now_a3 now_a4 now_a5 now_moving now_shut now_people now_needed now_day, ai E now_a0 10 now_height, ai E now_a1 7 now_kind, ai E now_a2 7 now_figure, ai E now_a3 7 now_rail, ai E now_a4 7 now_mood, ai E now_a5 7 now_sight, oSt kept_h kept_a0 kept_a1 kept_a2 kept_a3 kept_a4 kept_a5 kept_moving y1 y2 y3 y4, ai E kept_a0 10 y5, ai E kept_a1 7 y6, ai E kept_a2 7 y7, ai E kept_a3 7 y8, ai E kept_a4 7 y9, ai E kept_a5 7 kept_sight] := hD
  refine lv_aload_n hx hb dX9_image_16 rfl (lv_at hl 0 rfl) ?_
  refine va_get (D := E.1) (ci := 3) (v := .ref now_h) (C := RX9) (T := TX9) (N := 6) hx hb ht i_X9 hown hK hP 0 rfl rfl 0 (by decide) (ht _ kw_1_138) (fun _ h9 => h9) rfl dX9_image_17 ?_
  refine va_get (D := E.1) (ci := 2) (v := .int now_day) (C := RX8) (T := TX8) (N := 11) hx hb ht i_X8 hown hK hP 1 rfl rfl 10 (by decide) (ht _ kw_1_61) (fun _ h9 => h9) rfl dX9_image_20 ?_
  cases hv
  exact W.iret hx hb hr (fun t h9 _ => ⟨rfl, by rw [h9]; exact hP, hS.F h9⟩) hS.2.2 dX9_image_23 hlk
theorem dX9_restore_0 : decode cX9_restore 0 = .ok (.aload_n 0, 1) := by decide +kernel
theorem dX9_restore_1 : decode cX9_restore 1 = .ok (.getfield 22, 3) := by decide +kernel
theorem dX9_restore_4 : decode cX9_restore 4 = .ok (.ifCond .ne 6, 3) := by decide +kernel
theorem dX9_restore_7 : decode cX9_restore 7 = .ok (.bipush (-3), 2) := by decide +kernel
theorem dX9_restore_9 : decode cX9_restore 9 = .ok (.ireturn, 1) := by decide +kernel
theorem dX9_restore_10 : decode cX9_restore 10 = .ok (.aload_n 0, 1) := by decide +kernel
theorem dX9_restore_11 : decode cX9_restore 11 = .ok (.getfield 12, 3) := by decide +kernel
theorem dX9_restore_14 : decode cX9_restore 14 = .ok (.aload_n 0, 1) := by decide +kernel
theorem dX9_restore_15 : decode cX9_restore 15 = .ok (.getfield 19, 3) := by decide +kernel
theorem dX9_restore_18 : decode cX9_restore 18 = .ok (.invokevirtual 48, 3) := by decide +kernel
theorem dX9_restore_21 : decode cX9_restore 21 = .ok (.aload_n 0, 1) := by decide +kernel
theorem dX9_restore_22 : decode cX9_restore 22 = .ok (.getfield 12, 3) := by decide +kernel
theorem dX9_restore_25 : decode cX9_restore 25 = .ok (.getfield 271, 3) := by decide +kernel
theorem dX9_restore_28 : decode cX9_restore 28 = .ok (.ireturn, 1) := by decide +kernel
def f_X9_restore (b_img : Int32) (now_height : Nat → Int32) (now_kind : Nat → Int32) (now_figure : Nat → Int32) (now_rail : Nat → Int32) (now_mood : Nat → Int32) (now_shut : Int32) (now_people : Int32) (now_needed : Int32) (now_day : Int32) (kept_height : Nat → Int32) (kept_kind : Nat → Int32) (kept_figure : Nat → Int32) (kept_rail : Nat → Int32) (kept_mood : Nat → Int32) (kept_shut : Int32) (kept_people : Int32) (kept_needed : Int32) (kept_day : Int32) : Option (Int32 × Int32 × Int32 × Int32 × Int32 × (Nat → Int32) × (Nat → Int32) × (Nat → Int32) × (Nat → Int32) × (Nat → Int32)) := if b_img = 0 then nm (-3 : Int32) (fun z12 => some (z12, now_shut, now_people, now_needed, now_day, now_height, now_kind, now_figure, now_rail, now_mood)) else ob (f_X8_become kept_height kept_kind kept_figure kept_rail kept_mood kept_shut kept_people kept_needed kept_day) (fun (y2, y3, y4, y5, y6, y7, y8, y9, y10) => some (y5, y2, y3, y4, y5, y6, y7, y8, y9, y10))
set_option maxHeartbeats 4000000 in
set_option maxRecDepth 100000 in
theorem c_X9_restore (l : Launch) (E : EE) (b_h : Nat) (now_h : Nat) (mind_h : Nat) (kept_h : Nat) (rails_h : Nat) (sa_h : Nat) (now_a0 : Nat) (now_a1 : Nat) (now_a2 : Nat) (now_a3 : Nat) (now_a4 : Nat) (now_a5 : Nat) (kept_a0 : Nat) (kept_a1 : Nat) (kept_a2 : Nat) (kept_a3 : Nat) (kept_a4 : Nat) (kept_a5 : Nat) (b_img : Int32) (now_height : Nat → Int32) (now_kind : Nat → Int32) (now_figure : Nat → Int32) (now_rail : Nat → Int32) (now_mood : Nat → Int32) (now_sight : Nat → Int32) (now_moving : Int32) (now_shut : Int32) (now_people : Int32) (now_needed : Int32) (now_day : Int32) (kept_height : Nat → Int32) (kept_kind : Nat → Int32) (kept_figure : Nat → Int32) (kept_rail : Nat → Int32) (kept_mood : Nat → Int32) (kept_sight : Nat → Int32) (kept_moving : Int32) (kept_shut : Int32) (kept_people : Int32) (kept_needed : Int32) (kept_day : Int32) (res : Int32) (w_now_shut : Int32) (w_now_people : Int32) (w_now_needed : Int32) (w_now_day : Int32) (w_now_height : Nat → Int32) (w_now_kind : Nat → Int32) (w_now_figure : Nat → Int32) (w_now_rail : Nat → Int32) (w_now_mood : Nat → Int32) (hv : f_X9_restore b_img now_height now_kind now_figure now_rail now_mood now_shut now_people now_needed now_day kept_height kept_kind kept_figure kept_rail kept_mood kept_shut kept_people kept_needed kept_day = some (res, w_now_shut, w_now_people, w_now_needed, w_now_day, w_now_height, w_now_kind, w_now_figure, w_now_rail, w_now_mood)) : Wr l E yX9_restore cX9_restore 1 (some .int) ({ frames := 2, cells := 0, slots := 0, locals := 61 }) [.ref b_h] [oBp b_h now_h mind_h kept_h b_img rails_h sa_h, oSt now_h now_a0 now_a1 now_a2 now_a3 now_a4 now_a5 now_moving now_shut now_people now_needed now_day, ai E now_a0 10 now_height, ai E now_a1 7 now_kind, ai E now_a2 7 now_figure, ai E now_a3 7 now_rail, ai E now_a4 7 now_mood, ai E now_a5 7 now_sight, oSt kept_h kept_a0 kept_a1 kept_a2 kept_a3 kept_a4 kept_a5 kept_moving kept_shut kept_people kept_needed kept_day, ai E kept_a0 10 kept_height, ai E kept_a1 7 kept_kind, ai E kept_a2 7 kept_figure, ai E kept_a3 7 kept_rail, ai E kept_a4 7 kept_mood, ai E kept_a5 7 kept_sight] [oBp b_h now_h mind_h kept_h b_img rails_h sa_h, oSt now_h now_a0 now_a1 now_a2 now_a3 now_a4 now_a5 now_moving w_now_shut w_now_people w_now_needed w_now_day, ai E now_a0 10 w_now_height, ai E now_a1 7 w_now_kind, ai E now_a2 7 w_now_figure, ai E now_a3 7 w_now_rail, ai E now_a4 7 w_now_mood, ai E now_a5 7 now_sight, oSt kept_h kept_a0 kept_a1 kept_a2 kept_a3 kept_a4 kept_a5 kept_moving kept_shut kept_people kept_needed kept_day, ai E kept_a0 10 kept_height, ai E kept_a1 7 kept_kind, ai E kept_a2 7 kept_figure, ai E kept_a3 7 kept_rail, ai E kept_a4 7 kept_mood, ai E kept_a5 7 kept_sight] (some (.int res)) := by
  refine Wr.intro RX9 (by decide) rfl (Nat.le_of_ble_eq_true rfl) ?_
  intro p e s m below meth c ls A hC hr hlk hmn hP hD hS hA hG hl
  obtain ⟨hx, hb, hml, hown, ht⟩ := id hC
  have hK := hG.1
  have hl : lv_has ls 1 [(0, .ref b_h)] := hl
  rw [f_X9_restore] at hv
  refine lv_aload_n hx hb dX9_restore_0 rfl (lv_at hl 0 rfl) ?_
  refine va_get (D := E.1) (ci := 3) (v := .int b_img) (C := RX9) (T := TX9) (N := 6) hx hb ht i_X9 hown hK hP 0 rfl rfl 3 (by decide) (ht _ kw_1_141) (fun _ h9 => h9) rfl dX9_restore_1 ?_
  refine lv_if_ne (tgt := 10) hx hb dX9_restore_4 (by decide) (fun c1 => ?_) (fun c1 => ?_)
  · have hv := if_n c1 hv
    refine lv_aload_n hx hb dX9_restore_10 rfl (lv_at hl 0 rfl) ?_
    refine va_get (D := E.1) (ci := 3) (v := .ref now_h) (C := RX9) (T := TX9) (N := 6) hx hb ht i_X9 hown hK hP 0 rfl rfl 0 (by decide) (ht _ kw_1_138) (fun _ h9 => h9) rfl dX9_restore_11 ?_
    refine lv_aload_n hx hb dX9_restore_14 rfl (lv_at hl 0 rfl) ?_
    refine va_get (D := E.1) (ci := 3) (v := .ref kept_h) (C := RX9) (T := TX9) (N := 6) hx hb ht i_X9 hown hK hP 0 rfl rfl 2 (by decide) (ht _ kw_1_140) (fun _ h9 => h9) rfl dX9_restore_15 ?_
    obtain ⟨⟨y2, y3, y4, y5, y6, y7, y8, y9, y10⟩, h11, hv⟩ := ob_s hv
    refine wrV (as := [b_h, now_h, now_a0, now_a1, now_a2, now_a3, now_a4, now_a5, kept_h, kept_a0, kept_a1, kept_a2, kept_a3, kept_a4, kept_a5]) (wr := [oBp b_h now_h mind_h kept_h b_img rails_h sa_h]) [1, 2, 3, 4, 5, 6, 7, 8, 9, 10, 11, 12, 13, 14] [0] 2 0 (ws := [oBp b_h now_h mind_h kept_h b_img rails_h sa_h, oSt now_h now_a0 now_a1 now_a2 now_a3 now_a4 now_a5 now_moving now_shut now_people now_needed now_day, ai E now_a0 10 now_height, ai E now_a1 7 now_kind, ai E now_a2 7 now_figure, ai E now_a3 7 now_rail, ai E now_a4 7 now_mood, ai E now_a5 7 now_sight, oSt kept_h kept_a0 kept_a1 kept_a2 kept_a3 kept_a4 kept_a5 kept_moving kept_shut kept_people kept_needed kept_day, ai E kept_a0 10 kept_height, ai E kept_a1 7 kept_kind, ai E kept_a2 7 kept_figure, ai E kept_a3 7 kept_rail, ai E kept_a4 7 kept_mood, ai E kept_a5 7 kept_sight]) (ws' := [oBp b_h now_h mind_h kept_h b_img rails_h sa_h, oSt now_h now_a0 now_a1 now_a2 now_a3 now_a4 now_a5 now_moving y2 y3 y4 y5, ai E now_a0 10 y6, ai E now_a1 7 y7, ai E now_a2 7 y8, ai E now_a3 7 y9, ai E now_a4 7 y10, ai E now_a5 7 now_sight, oSt kept_h kept_a0 kept_a1 kept_a2 kept_a3 kept_a4 kept_a5 kept_moving kept_shut kept_people kept_needed kept_day, ai E kept_a0 10 kept_height, ai E kept_a1 7 kept_kind, ai E kept_a2 7 kept_figure, ai E kept_a3 7 kept_rail, ai E kept_a4 7 kept_mood, ai E kept_a5 7 kept_sight]) (As := [.ref kept_h]) (rest := []) (st1 := []) hC q_X8_become kw_1_171 (c_X8_become l E now_h now_a0 now_a1 now_a2 now_a3 now_a4 now_a5 kept_h kept_a0 kept_a1 kept_a2 kept_a3 kept_a4 kept_a5 now_height now_kind now_figure now_rail now_mood now_sight now_moving now_shut now_people now_needed now_day kept_height kept_kind kept_figure kept_rail kept_mood kept_sight kept_moving kept_shut kept_people kept_needed kept_day y2 y3 y4 y5 y6 y7 y8 y9 y10 h11) ⟨rfl, rfl⟩ ⟨Nat.le_of_ble_eq_true rfl, Nat.le_of_ble_eq_true rfl⟩ ⟨Nat.zero_le _, Nat.zero_le _⟩ hP hD hS hA rfl rfl rfl hG (by decide) rfl rfl rfl rfl rfl rfl rfl rfl hl.1 rfl (Nat.le_of_ble_eq_true rfl) dX9_restore_18 rfl (fun H locs hP hD hS => ?_)
    refine lv_aload_n hx hb dX9_restore_21 rfl (lv_at hl 0 rfl) ?_
    refine va_get (D := E.1) (ci := 3) (v := .ref now_h) (C := RX9) (T := TX9) (N := 6) hx hb ht i_X9 hown hK hP 0 rfl rfl 0 (by decide) (ht _ kw_1_138) (fun _ h9 => h9) rfl dX9_restore_22 ?_
    refine va_get (D := E.1) (ci := 2) (v := .int y5) (C := RX8) (T := TX8) (N := 11) hx hb ht i_X8 hown hK hP 1 rfl rfl 10 (by decide) (ht _ kw_1_61) (fun _ h9 => h9) rfl dX9_restore_25 ?_
    cases hv
    exact W.iret hx hb hr (fun t h9 _ => ⟨rfl, by rw [h9]; exact hP, hS.F h9⟩) hS.2.2 dX9_restore_28 hlk
  · have hv := if_y c1 hv
    refine lv_bipush (v := (-3 : Int32)) hx hb dX9_restore_7 (by decide) ?_
    refine lv_topi (fun z12 ez12 => ?_)
    have hv := nm_s ez12 hv
    cases hv
    exact W.iret hx hb hr (fun t h9 _ => ⟨rfl, by rw [h9]; exact hP, hS.F h9⟩) hS.2.2 dX9_restore_9 hlk
theorem dX9_keep_0 : decode cX9_keep 0 = .ok (.iload_n 1, 1) := by decide +kernel
theorem dX9_keep_1 : decode cX9_keep 1 = .ok (.invokestatic 283, 3) := by decide +kernel
theorem dX9_keep_4 : decode cX9_keep 4 = .ok (.ifCond .eq 12, 3) := by decide +kernel
theorem dX9_keep_7 : decode cX9_keep 7 = .ok (.iload_n 2, 1) := by decide +kernel
theorem dX9_keep_8 : decode cX9_keep 8 = .ok (.iconst 0, 1) := by decide +kernel
theorem dX9_keep_9 : decode cX9_keep 9 = .ok (.iconst 1, 1) := by decide +kernel
theorem dX9_keep_10 : decode cX9_keep 10 = .ok (.invokestatic 118, 3) := by decide +kernel
theorem dX9_keep_13 : decode cX9_keep 13 = .ok (.ifCond .ne 5, 3) := by decide +kernel
theorem dX9_keep_16 : decode cX9_keep 16 = .ok (.iconst (-1), 1) := by decide +kernel
theorem dX9_keep_17 : decode cX9_keep 17 = .ok (.ireturn, 1) := by decide +kernel
theorem dX9_keep_18 : decode cX9_keep 18 = .ok (.iload_n 2, 1) := by decide +kernel
theorem dX9_keep_19 : decode cX9_keep 19 = .ok (.ifCond .ne 15, 3) := by decide +kernel
theorem dX9_keep_22 : decode cX9_keep 22 = .ok (.aload_n 0, 1) := by decide +kernel
theorem dX9_keep_23 : decode cX9_keep 23 = .ok (.getfield 35, 3) := by decide +kernel
theorem dX9_keep_26 : decode cX9_keep 26 = .ok (.iload_n 1, 1) := by decide +kernel
theorem dX9_keep_27 : decode cX9_keep 27 = .ok (.aaload, 1) := by decide +kernel
theorem dX9_keep_28 : decode cX9_keep 28 = .ok (.iconst 0, 1) := by decide +kernel
theorem dX9_keep_29 : decode cX9_keep 29 = .ok (.putfield 286, 3) := by decide +kernel
theorem dX9_keep_32 : decode cX9_keep 32 = .ok (.iconst 0, 1) := by decide +kernel
theorem dX9_keep_33 : decode cX9_keep 33 = .ok (.ireturn, 1) := by decide +kernel
theorem dX9_keep_34 : decode cX9_keep 34 = .ok (.iload_n 3, 1) := by decide +kernel
theorem dX9_keep_35 : decode cX9_keep 35 = .ok (.iconst 0, 1) := by decide +kernel
theorem dX9_keep_36 : decode cX9_keep 36 = .ok (.bipush 7, 2) := by decide +kernel
theorem dX9_keep_38 : decode cX9_keep 38 = .ok (.invokestatic 118, 3) := by decide +kernel
theorem dX9_keep_41 : decode cX9_keep 41 = .ok (.ifCond .eq 14, 3) := by decide +kernel
theorem dX9_keep_44 : decode cX9_keep 44 = .ok (.iload 4, 2) := by decide +kernel
theorem dX9_keep_46 : decode cX9_keep 46 = .ok (.iconst 0, 1) := by decide +kernel
theorem dX9_keep_47 : decode cX9_keep 47 = .ok (.bipush 9, 2) := by decide +kernel
theorem dX9_keep_49 : decode cX9_keep 49 = .ok (.invokestatic 118, 3) := by decide +kernel
theorem dX9_keep_52 : decode cX9_keep 52 = .ok (.ifCond .ne 5, 3) := by decide +kernel
theorem dX9_keep_55 : decode cX9_keep 55 = .ok (.iconst (-1), 1) := by decide +kernel
theorem dX9_keep_56 : decode cX9_keep 56 = .ok (.ireturn, 1) := by decide +kernel
theorem dX9_keep_57 : decode cX9_keep 57 = .ok (.aload_n 0, 1) := by decide +kernel
theorem dX9_keep_58 : decode cX9_keep 58 = .ok (.getfield 35, 3) := by decide +kernel
theorem dX9_keep_61 : decode cX9_keep 61 = .ok (.iload_n 1, 1) := by decide +kernel
theorem dX9_keep_62 : decode cX9_keep 62 = .ok (.aaload, 1) := by decide +kernel
theorem dX9_keep_63 : decode cX9_keep 63 = .ok (.iload_n 3, 1) := by decide +kernel
theorem dX9_keep_64 : decode cX9_keep 64 = .ok (.iload 4, 2) := by decide +kernel
theorem dX9_keep_66 : decode cX9_keep 66 = .ok (.invokevirtual 289, 3) := by decide +kernel
theorem dX9_keep_69 : decode cX9_keep 69 = .ok (.iconst 0, 1) := by decide +kernel
theorem dX9_keep_70 : decode cX9_keep 70 = .ok (.ireturn, 1) := by decide +kernel
def f_X9_keep (q_holds : Int32) (q_kind : Int32) (q_figure : Int32) (p1 : Int32) (p2 : Int32) (p3 : Int32) (p4 : Int32) : Option (Int32 × Int32 × Int32 × Int32) := ob (f_X9_isShelf p1) (fun r1 => if r1 = 0 then nm (-1 : Int32) (fun z4 => some (z4, q_holds, q_kind, q_figure)) else ob (f_X9_isWithin p2 (0 : Int32) (1 : Int32)) (fun r5 => if r5 = 0 then nm (-1 : Int32) (fun z25 => some (z25, q_holds, q_kind, q_figure)) else if p2 = 0 then gd (ix p1 8) (nm (0 : Int32) (fun z24 => some (z24, (0 : Int32), q_kind, q_figure))) else ob (f_X9_isWithin p3 (0 : Int32) (7 : Int32)) (fun r9 => if r9 = 0 then nm (-1 : Int32) (fun z12 => some (z12, q_holds, q_kind, q_figure)) else ob (f_X9_isWithin p4 (0 : Int32) (9 : Int32)) (fun r13 => if r13 = 0 then nm (-1 : Int32) (fun z22 => some (z22, q_holds, q_kind, q_figure)) else gd (ix p1 8) (ob (f_X7_takeKind p3 p4) (fun (y17, y18, y19) => nm (0 : Int32) (fun z21 => some (z21, y17, y18, y19))))))))
set_option maxHeartbeats 4000000 in
set_option maxRecDepth 100000 in
theorem c_X9_keep (l : Launch) (E : EE) (b_h : Nat) (now_h : Nat) (mind_h : Nat) (kept_h : Nat) (rails_h : Nat) (sa_h : Nat) (q_h : Nat) (q_a0 : Nat) (b_img : Int32) (sh : Nat → Option Nat) (q_elements : Nat → Int32) (q_holds : Int32) (q_kind : Int32) (q_figure : Int32) (q_sort : Int32) (q_size : Int32) (p1 : Int32) (p2 : Int32) (p3 : Int32) (p4 : Int32) (res : Int32) (w_q_holds : Int32) (w_q_kind : Int32) (w_q_figure : Int32) (hsh_p1 : ix p1 8 = true → sh p1.toNatClampNeg = some q_h) (hv : f_X9_keep q_holds q_kind q_figure p1 p2 p3 p4 = some (res, w_q_holds, w_q_kind, w_q_figure)) : Wr l E yX9_keep cX9_keep 5 (some .int) ({ frames := 2, cells := 0, slots := 0, locals := 42 }) [.ref b_h, .int p1, .int p2, .int p3, .int p4] [oBp b_h now_h mind_h kept_h b_img rails_h sa_h, aS E sa_h sh, oSh q_h q_a0 q_holds q_kind q_figure q_sort q_size, ai E q_a0 100 q_elements] [oBp b_h now_h mind_h kept_h b_img rails_h sa_h, aS E sa_h sh, oSh q_h q_a0 w_q_holds w_q_kind w_q_figure q_sort q_size, ai E q_a0 100 q_elements] (some (.int res)) := by
  refine Wr.intro RX9 (by decide) rfl (Nat.le_of_ble_eq_true rfl) ?_
  intro p e s m below meth c ls A hC hr hlk hmn hP hD hS hA hG hl
  obtain ⟨hx, hb, hml, hown, ht⟩ := id hC
  have hK := hG.1
  have hl : lv_has ls 5 [(0, .ref b_h), (1, .int p1), (2, .int p2), (3, .int p3), (4, .int p4)] := hl
  rw [f_X9_keep] at hv
  refine lv_iload_n hx hb dX9_keep_0 rfl (lv_at hl 1 rfl) ?_
  obtain ⟨r1, h2, hv⟩ := ob_s hv
  refine rdS (rest := []) (st1 := [.int r1]) (w := []) hC q_X9_isShelf kw_1_165 (c_X9_isShelf l E p1 r1 h2) ⟨rfl, rfl⟩ ⟨Nat.le_of_ble_eq_true rfl, Nat.le_of_ble_eq_true rfl⟩ ⟨Nat.zero_le _, Nat.zero_le _⟩ (hP.sub (ws' := []) [] rfl) hG rfl hl.1 rfl (Nat.le_of_ble_eq_true rfl) dX9_keep_1 rfl ?_
  refine lv_if_eq (tgt := 16) hx hb dX9_keep_4 (by decide) (fun c3 => ?_) (fun c3 => ?_)
  · have hv := if_y c3 hv
    refine lv_iconst (v := (-1 : Int32)) hx hb dX9_keep_16 (by decide) ?_
    refine lv_topi (fun z4 ez4 => ?_)
    have hv := nm_s ez4 hv
    cases hv
    exact W.iret hx hb hr (fun t h9 _ => ⟨rfl, by rw [h9]; exact hP, hS.F h9⟩) hS.2.2 dX9_keep_17 hlk
  · have hv := if_n c3 hv
    refine lv_iload_n hx hb dX9_keep_7 rfl (lv_at hl 2 rfl) ?_
    refine lv_iconst (v := (0 : Int32)) hx hb dX9_keep_8 (by decide) ?_
    refine lv_iconst (v := (1 : Int32)) hx hb dX9_keep_9 (by decide) ?_
    obtain ⟨r5, h6, hv⟩ := ob_s hv
    refine rdS (rest := []) (st1 := [.int r5]) (w := []) hC q_X9_isWithin kw_1_168 (c_X9_isWithin l E p2 (0 : Int32) (1 : Int32) r5 h6) ⟨rfl, rfl⟩ ⟨Nat.le_of_ble_eq_true rfl, Nat.le_of_ble_eq_true rfl⟩ ⟨Nat.zero_le _, Nat.zero_le _⟩ (hP.sub (ws' := []) [] rfl) hG rfl hl.1 rfl (Nat.le_of_ble_eq_true rfl) dX9_keep_10 rfl ?_
    refine lv_if_ne (tgt := 18) hx hb dX9_keep_13 (by decide) (fun c7 => ?_) (fun c7 => ?_)
    · have hv := if_n c7 hv
      refine lv_iload_n hx hb dX9_keep_18 rfl (lv_at hl 2 rfl) ?_
      refine lv_if_ne (tgt := 34) hx hb dX9_keep_19 (by decide) (fun c8 => ?_) (fun c8 => ?_)
      · have hv := if_n c8 hv
        refine lv_iload_n hx hb dX9_keep_34 rfl (lv_at hl 3 rfl) ?_
        refine lv_iconst (v := (0 : Int32)) hx hb dX9_keep_35 (by decide) ?_
        refine lv_bipush (v := (7 : Int32)) hx hb dX9_keep_36 (by decide) ?_
        obtain ⟨r9, h10, hv⟩ := ob_s hv
        refine rdS (rest := []) (st1 := [.int r9]) (w := []) hC q_X9_isWithin kw_1_168 (c_X9_isWithin l E p3 (0 : Int32) (7 : Int32) r9 h10) ⟨rfl, rfl⟩ ⟨Nat.le_of_ble_eq_true rfl, Nat.le_of_ble_eq_true rfl⟩ ⟨Nat.zero_le _, Nat.zero_le _⟩ (hP.sub (ws' := []) [] rfl) hG rfl hl.1 rfl (Nat.le_of_ble_eq_true rfl) dX9_keep_38 rfl ?_
        refine lv_if_eq (tgt := 55) hx hb dX9_keep_41 (by decide) (fun c11 => ?_) (fun c11 => ?_)
        · have hv := if_y c11 hv
          refine lv_iconst (v := (-1 : Int32)) hx hb dX9_keep_55 (by decide) ?_
          refine lv_topi (fun z12 ez12 => ?_)
          have hv := nm_s ez12 hv
          cases hv
          exact W.iret hx hb hr (fun t h9 _ => ⟨rfl, by rw [h9]; exact hP, hS.F h9⟩) hS.2.2 dX9_keep_56 hlk
        · have hv := if_n c11 hv
          refine lv_iload hx hb dX9_keep_44 (lv_at hl 4 rfl) ?_
          refine lv_iconst (v := (0 : Int32)) hx hb dX9_keep_46 (by decide) ?_
          refine lv_bipush (v := (9 : Int32)) hx hb dX9_keep_47 (by decide) ?_
          obtain ⟨r13, h14, hv⟩ := ob_s hv
          refine rdS (rest := []) (st1 := [.int r13]) (w := []) hC q_X9_isWithin kw_1_168 (c_X9_isWithin l E p4 (0 : Int32) (9 : Int32) r13 h14) ⟨rfl, rfl⟩ ⟨Nat.le_of_ble_eq_true rfl, Nat.le_of_ble_eq_true rfl⟩ ⟨Nat.zero_le _, Nat.zero_le _⟩ (hP.sub (ws' := []) [] rfl) hG rfl hl.1 rfl (Nat.le_of_ble_eq_true rfl) dX9_keep_49 rfl ?_
          refine lv_if_ne (tgt := 57) hx hb dX9_keep_52 (by decide) (fun c15 => ?_) (fun c15 => ?_)
          · have hv := if_n c15 hv
            refine lv_aload_n hx hb dX9_keep_57 rfl (lv_at hl 0 rfl) ?_
            refine va_get (D := E.1) (ci := 3) (v := .ref sa_h) (C := RX9) (T := TX9) (N := 6) hx hb ht i_X9 hown hK hP 0 rfl rfl 5 (by decide) (ht _ kw_1_143) (fun _ h9 => h9) rfl dX9_keep_58 ?_
            refine lv_iload_n hx hb dX9_keep_61 rfl (lv_at hl 1 rfl) ?_
            obtain ⟨g16, hv⟩ := gd_s hv
            refine va_aldq (C := "BalconiesParliament$Shelf") hx hb hK hP 1 1 rfl rfl (ix_s g16) dX9_keep_62 ?_
            refine W.eq (g2 := F0 m 63 ls [.ref q_h]) (by rw [hsh_p1 g16]; rfl) ?_
            refine lv_iload_n hx hb dX9_keep_63 rfl (lv_at hl 3 rfl) ?_
            refine lv_iload hx hb dX9_keep_64 (lv_at hl 4 rfl) ?_
            obtain ⟨⟨y17, y18, y19⟩, h20, hv⟩ := ob_s hv
            refine wrV (as := [b_h, sa_h, q_h, q_a0]) (wr := [oBp b_h now_h mind_h kept_h b_img rails_h sa_h, aS E sa_h sh]) [2, 3] [0, 1] 1 0 (ws := [oBp b_h now_h mind_h kept_h b_img rails_h sa_h, aS E sa_h sh, oSh q_h q_a0 q_holds q_kind q_figure q_sort q_size, ai E q_a0 100 q_elements]) (ws' := [oBp b_h now_h mind_h kept_h b_img rails_h sa_h, aS E sa_h sh, oSh q_h q_a0 y17 y18 y19 q_sort q_size, ai E q_a0 100 q_elements]) (As := [.int p3, .int p4]) (rest := []) (st1 := []) hC q_X7_takeKind kw_3_200 (c_X7_takeKind l E q_h q_a0 q_elements q_holds q_kind q_figure q_sort q_size p3 p4 y17 y18 y19 h20) ⟨rfl, rfl⟩ ⟨Nat.le_of_ble_eq_true rfl, Nat.le_of_ble_eq_true rfl⟩ ⟨Nat.zero_le _, Nat.zero_le _⟩ hP hD hS hA rfl rfl rfl hG (by decide) rfl rfl rfl rfl rfl rfl rfl rfl hl.1 rfl (Nat.le_of_ble_eq_true rfl) dX9_keep_66 rfl (fun H locs hP hD hS => ?_)
            refine lv_iconst (v := (0 : Int32)) hx hb dX9_keep_69 (by decide) ?_
            refine lv_topi (fun z21 ez21 => ?_)
            have hv := nm_s ez21 hv
            cases hv
            exact W.iret hx hb hr (fun t h9 _ => ⟨rfl, by rw [h9]; exact hP, hS.F h9⟩) hS.2.2 dX9_keep_70 hlk
          · have hv := if_y c15 hv
            refine lv_iconst (v := (-1 : Int32)) hx hb dX9_keep_55 (by decide) ?_
            refine lv_topi (fun z22 ez22 => ?_)
            have hv := nm_s ez22 hv
            cases hv
            exact W.iret hx hb hr (fun t h9 _ => ⟨rfl, by rw [h9]; exact hP, hS.F h9⟩) hS.2.2 dX9_keep_56 hlk
      · have hv := if_y c8 hv
        refine lv_aload_n hx hb dX9_keep_22 rfl (lv_at hl 0 rfl) ?_
        refine va_get (D := E.1) (ci := 3) (v := .ref sa_h) (C := RX9) (T := TX9) (N := 6) hx hb ht i_X9 hown hK hP 0 rfl rfl 5 (by decide) (ht _ kw_1_143) (fun _ h9 => h9) rfl dX9_keep_23 ?_
        refine lv_iload_n hx hb dX9_keep_26 rfl (lv_at hl 1 rfl) ?_
        obtain ⟨g23, hv⟩ := gd_s hv
        refine va_aldq (C := "BalconiesParliament$Shelf") hx hb hK hP 1 1 rfl rfl (ix_s g23) dX9_keep_27 ?_
        refine W.eq (g2 := F0 m 28 ls [.ref q_h]) (by rw [hsh_p1 g23]; rfl) ?_
        refine lv_iconst (v := (0 : Int32)) hx hb dX9_keep_28 (by decide) ?_
        refine va_put (D := E.1) (ci := 1) (v := .int (0 : Int32)) (ty := .int) (C := RX7) (T := TX7) (N := 6) hx hb ht i_X7 tyX7 tyX7_ok nmX7 hown hK hP hD hS 2 rfl rfl 1 (by decide) (ht _ kw_1_114) (fun _ h9 => h9) rfl (by decide +kernel) rfl rfl (Nat.le_of_ble_eq_true rfl) dX9_keep_29 (fun H locs hP hD hS => ?_)
        have hP : va_P E.1 vwCl [oBp b_h now_h mind_h kept_h b_img rails_h sa_h, aS E sa_h sh, oSh q_h q_a0 (0 : Int32) q_kind q_figure q_sort q_size, ai E q_a0 100 q_elements] H := hP
        have hD : va_D A [oBp b_h now_h mind_h kept_h b_img rails_h sa_h, aS E sa_h sh, oSh q_h q_a0 (0 : Int32) q_kind q_figure q_sort q_size, ai E q_a0 100 q_elements] := hD
        refine lv_iconst (v := (0 : Int32)) hx hb dX9_keep_32 (by decide) ?_
        refine lv_topi (fun z24 ez24 => ?_)
        have hv := nm_s ez24 hv
        cases hv
        exact W.iret hx hb hr (fun t h9 _ => ⟨rfl, by rw [h9]; exact hP, hS.F h9⟩) hS.2.2 dX9_keep_33 hlk
    · have hv := if_y c7 hv
      refine lv_iconst (v := (-1 : Int32)) hx hb dX9_keep_16 (by decide) ?_
      refine lv_topi (fun z25 ez25 => ?_)
      have hv := nm_s ez25 hv
      cases hv
      exact W.iret hx hb hr (fun t h9 _ => ⟨rfl, by rw [h9]; exact hP, hS.F h9⟩) hS.2.2 dX9_keep_17 hlk
theorem dX9_row_0 : decode cX9_row 0 = .ok (.iload_n 1, 1) := by decide +kernel
theorem dX9_row_1 : decode cX9_row 1 = .ok (.invokestatic 283, 3) := by decide +kernel
theorem dX9_row_4 : decode cX9_row 4 = .ok (.ifCond .eq 18, 3) := by decide +kernel
theorem dX9_row_7 : decode cX9_row 7 = .ok (.iload_n 2, 1) := by decide +kernel
theorem dX9_row_8 : decode cX9_row 8 = .ok (.iconst 0, 1) := by decide +kernel
theorem dX9_row_9 : decode cX9_row 9 = .ok (.iconst 2, 1) := by decide +kernel
theorem dX9_row_10 : decode cX9_row 10 = .ok (.invokestatic 118, 3) := by decide +kernel
theorem dX9_row_13 : decode cX9_row 13 = .ok (.ifCond .eq 9, 3) := by decide +kernel
theorem dX9_row_16 : decode cX9_row 16 = .ok (.iload_n 3, 1) := by decide +kernel
theorem dX9_row_17 : decode cX9_row 17 = .ok (.bipush 100, 2) := by decide +kernel
theorem dX9_row_19 : decode cX9_row 19 = .ok (.if_icmp .le 5, 3) := by decide +kernel
theorem dX9_row_22 : decode cX9_row 22 = .ok (.iconst (-1), 1) := by decide +kernel
theorem dX9_row_23 : decode cX9_row 23 = .ok (.ireturn, 1) := by decide +kernel
theorem dX9_row_24 : decode cX9_row 24 = .ok (.iload_n 3, 1) := by decide +kernel
theorem dX9_row_25 : decode cX9_row 25 = .ok (.ifCond .ge 6, 3) := by decide +kernel
theorem dX9_row_28 : decode cX9_row 28 = .ok (.bipush (-14), 2) := by decide +kernel
theorem dX9_row_30 : decode cX9_row 30 = .ok (.ireturn, 1) := by decide +kernel
theorem dX9_row_31 : decode cX9_row 31 = .ok (.aload_n 0, 1) := by decide +kernel
theorem dX9_row_32 : decode cX9_row 32 = .ok (.getfield 35, 3) := by decide +kernel
theorem dX9_row_35 : decode cX9_row 35 = .ok (.iload_n 1, 1) := by decide +kernel
theorem dX9_row_36 : decode cX9_row 36 = .ok (.aaload, 1) := by decide +kernel
theorem dX9_row_37 : decode cX9_row 37 = .ok (.iload_n 2, 1) := by decide +kernel
theorem dX9_row_38 : decode cX9_row 38 = .ok (.iload_n 3, 1) := by decide +kernel
theorem dX9_row_39 : decode cX9_row 39 = .ok (.invokevirtual 293, 3) := by decide +kernel
theorem dX9_row_42 : decode cX9_row 42 = .ok (.iconst 0, 1) := by decide +kernel
theorem dX9_row_43 : decode cX9_row 43 = .ok (.ireturn, 1) := by decide +kernel
def f_X9_row (N : Nat) (q_elements : Nat → Int32) (q_holds : Int32) (q_sort : Int32) (q_size : Int32) (p1 : Int32) (p2 : Int32) (p3 : Int32) : Option (Int32 × Int32 × Int32 × Int32 × (Nat → Int32)) := ob (f_X9_isShelf p1) (fun r1 => if r1 = 0 then nm (-1 : Int32) (fun z4 => some (z4, q_holds, q_sort, q_size, q_elements)) else ob (f_X9_isWithin p2 (0 : Int32) (2 : Int32)) (fun r5 => if r5 = 0 then nm (-1 : Int32) (fun z8 => some (z8, q_holds, q_sort, q_size, q_elements)) else if p3 ≤ (100 : Int32) then if 0 ≤ p3 then gd (ix p1 8) (ob (f_X7_takeRow N q_elements p2 p3) (fun (y12, y13, y14, y15) => nm (0 : Int32) (fun z17 => some (z17, y12, y13, y14, y15)))) else nm (-14 : Int32) (fun z18 => some (z18, q_holds, q_sort, q_size, q_elements)) else nm (-1 : Int32) (fun z19 => some (z19, q_holds, q_sort, q_size, q_elements))))
set_option maxHeartbeats 4000000 in
set_option maxRecDepth 100000 in
theorem c_X9_row (l : Launch) (E : EE) (b_h : Nat) (now_h : Nat) (mind_h : Nat) (kept_h : Nat) (rails_h : Nat) (sa_h : Nat) (q_h : Nat) (q_a0 : Nat) (b_img : Int32) (sh : Nat → Option Nat) (q_elements : Nat → Int32) (q_holds : Int32) (q_kind : Int32) (q_figure : Int32) (q_sort : Int32) (q_size : Int32) (p1 : Int32) (p2 : Int32) (p3 : Int32) (N : Nat) (res : Int32) (w_q_holds : Int32) (w_q_sort : Int32) (w_q_size : Int32) (w_q_elements : Nat → Int32) (hsh_p1 : ix p1 8 = true → sh p1.toNatClampNeg = some q_h) (hv : f_X9_row N q_elements q_holds q_sort q_size p1 p2 p3 = some (res, w_q_holds, w_q_sort, w_q_size, w_q_elements)) : Wr l E yX9_row cX9_row 4 (some .int) ({ frames := 2, cells := 0, slots := 0, locals := 42 }) [.ref b_h, .int p1, .int p2, .int p3] [oBp b_h now_h mind_h kept_h b_img rails_h sa_h, aS E sa_h sh, oSh q_h q_a0 q_holds q_kind q_figure q_sort q_size, ai E q_a0 100 q_elements] [oBp b_h now_h mind_h kept_h b_img rails_h sa_h, aS E sa_h sh, oSh q_h q_a0 w_q_holds q_kind q_figure w_q_sort w_q_size, ai E q_a0 100 w_q_elements] (some (.int res)) := by
  refine Wr.intro RX9 (by decide) rfl (Nat.le_of_ble_eq_true rfl) ?_
  intro p e s m below meth c ls A hC hr hlk hmn hP hD hS hA hG hl
  obtain ⟨hx, hb, hml, hown, ht⟩ := id hC
  have hK := hG.1
  have hl : lv_has ls 4 [(0, .ref b_h), (1, .int p1), (2, .int p2), (3, .int p3)] := hl
  rw [f_X9_row] at hv
  refine lv_iload_n hx hb dX9_row_0 rfl (lv_at hl 1 rfl) ?_
  obtain ⟨r1, h2, hv⟩ := ob_s hv
  refine rdS (rest := []) (st1 := [.int r1]) (w := []) hC q_X9_isShelf kw_1_165 (c_X9_isShelf l E p1 r1 h2) ⟨rfl, rfl⟩ ⟨Nat.le_of_ble_eq_true rfl, Nat.le_of_ble_eq_true rfl⟩ ⟨Nat.zero_le _, Nat.zero_le _⟩ (hP.sub (ws' := []) [] rfl) hG rfl hl.1 rfl (Nat.le_of_ble_eq_true rfl) dX9_row_1 rfl ?_
  refine lv_if_eq (tgt := 22) hx hb dX9_row_4 (by decide) (fun c3 => ?_) (fun c3 => ?_)
  · have hv := if_y c3 hv
    refine lv_iconst (v := (-1 : Int32)) hx hb dX9_row_22 (by decide) ?_
    refine lv_topi (fun z4 ez4 => ?_)
    have hv := nm_s ez4 hv
    cases hv
    exact W.iret hx hb hr (fun t h9 _ => ⟨rfl, by rw [h9]; exact hP, hS.F h9⟩) hS.2.2 dX9_row_23 hlk
  · have hv := if_n c3 hv
    refine lv_iload_n hx hb dX9_row_7 rfl (lv_at hl 2 rfl) ?_
    refine lv_iconst (v := (0 : Int32)) hx hb dX9_row_8 (by decide) ?_
    refine lv_iconst (v := (2 : Int32)) hx hb dX9_row_9 (by decide) ?_
    obtain ⟨r5, h6, hv⟩ := ob_s hv
    refine rdS (rest := []) (st1 := [.int r5]) (w := []) hC q_X9_isWithin kw_1_168 (c_X9_isWithin l E p2 (0 : Int32) (2 : Int32) r5 h6) ⟨rfl, rfl⟩ ⟨Nat.le_of_ble_eq_true rfl, Nat.le_of_ble_eq_true rfl⟩ ⟨Nat.zero_le _, Nat.zero_le _⟩ (hP.sub (ws' := []) [] rfl) hG rfl hl.1 rfl (Nat.le_of_ble_eq_true rfl) dX9_row_10 rfl ?_
    refine lv_if_eq (tgt := 22) hx hb dX9_row_13 (by decide) (fun c7 => ?_) (fun c7 => ?_)
    · have hv := if_y c7 hv
      refine lv_iconst (v := (-1 : Int32)) hx hb dX9_row_22 (by decide) ?_
      refine lv_topi (fun z8 ez8 => ?_)
      have hv := nm_s ez8 hv
      cases hv
      exact W.iret hx hb hr (fun t h9 _ => ⟨rfl, by rw [h9]; exact hP, hS.F h9⟩) hS.2.2 dX9_row_23 hlk
    · have hv := if_n c7 hv
      refine lv_iload_n hx hb dX9_row_16 rfl (lv_at hl 3 rfl) ?_
      refine lv_bipush (v := (100 : Int32)) hx hb dX9_row_17 (by decide) ?_
      refine lv_icmp_le (tgt := 24) hx hb dX9_row_19 (by decide) (fun c9 => ?_) (fun c9 => ?_)
      · have hv := if_y c9 hv
        refine lv_iload_n hx hb dX9_row_24 rfl (lv_at hl 3 rfl) ?_
        refine lv_if_ge (tgt := 31) hx hb dX9_row_25 (by decide) (fun c10 => ?_) (fun c10 => ?_)
        · have hv := if_y c10 hv
          refine lv_aload_n hx hb dX9_row_31 rfl (lv_at hl 0 rfl) ?_
          refine va_get (D := E.1) (ci := 3) (v := .ref sa_h) (C := RX9) (T := TX9) (N := 6) hx hb ht i_X9 hown hK hP 0 rfl rfl 5 (by decide) (ht _ kw_1_143) (fun _ h9 => h9) rfl dX9_row_32 ?_
          refine lv_iload_n hx hb dX9_row_35 rfl (lv_at hl 1 rfl) ?_
          obtain ⟨g11, hv⟩ := gd_s hv
          refine va_aldq (C := "BalconiesParliament$Shelf") hx hb hK hP 1 1 rfl rfl (ix_s g11) dX9_row_36 ?_
          refine W.eq (g2 := F0 m 37 ls [.ref q_h]) (by rw [hsh_p1 g11]; rfl) ?_
          refine lv_iload_n hx hb dX9_row_37 rfl (lv_at hl 2 rfl) ?_
          refine lv_iload_n hx hb dX9_row_38 rfl (lv_at hl 3 rfl) ?_
          obtain ⟨⟨y12, y13, y14, y15⟩, h16, hv⟩ := ob_s hv
          refine wrV (as := [b_h, sa_h, q_h, q_a0]) (wr := [oBp b_h now_h mind_h kept_h b_img rails_h sa_h, aS E sa_h sh]) [2, 3] [0, 1] 1 0 (ws := [oBp b_h now_h mind_h kept_h b_img rails_h sa_h, aS E sa_h sh, oSh q_h q_a0 q_holds q_kind q_figure q_sort q_size, ai E q_a0 100 q_elements]) (ws' := [oBp b_h now_h mind_h kept_h b_img rails_h sa_h, aS E sa_h sh, oSh q_h q_a0 y12 q_kind q_figure y13 y14, ai E q_a0 100 y15]) (As := [.int p2, .int p3]) (rest := []) (st1 := []) hC q_X7_takeRow kw_3_208 (c_X7_takeRow l E q_h q_a0 q_elements q_holds q_kind q_figure q_sort q_size p2 p3 N y12 y13 y14 y15 h16) ⟨rfl, rfl⟩ ⟨Nat.le_of_ble_eq_true rfl, Nat.le_of_ble_eq_true rfl⟩ ⟨Nat.zero_le _, Nat.zero_le _⟩ hP hD hS hA rfl rfl rfl hG (by decide) rfl rfl rfl rfl rfl rfl rfl rfl hl.1 rfl (Nat.le_of_ble_eq_true rfl) dX9_row_39 rfl (fun H locs hP hD hS => ?_)
          refine lv_iconst (v := (0 : Int32)) hx hb dX9_row_42 (by decide) ?_
          refine lv_topi (fun z17 ez17 => ?_)
          have hv := nm_s ez17 hv
          cases hv
          exact W.iret hx hb hr (fun t h9 _ => ⟨rfl, by rw [h9]; exact hP, hS.F h9⟩) hS.2.2 dX9_row_43 hlk
        · have hv := if_n c10 hv
          refine lv_bipush (v := (-14 : Int32)) hx hb dX9_row_28 (by decide) ?_
          refine lv_topi (fun z18 ez18 => ?_)
          have hv := nm_s ez18 hv
          cases hv
          exact W.iret hx hb hr (fun t h9 _ => ⟨rfl, by rw [h9]; exact hP, hS.F h9⟩) hS.2.2 dX9_row_30 hlk
      · have hv := if_n c9 hv
        refine lv_iconst (v := (-1 : Int32)) hx hb dX9_row_22 (by decide) ?_
        refine lv_topi (fun z19 ez19 => ?_)
        have hv := nm_s ez19 hv
        cases hv
        exact W.iret hx hb hr (fun t h9 _ => ⟨rfl, by rw [h9]; exact hP, hS.F h9⟩) hS.2.2 dX9_row_23 hlk
theorem dX9_put_0 : decode cX9_put 0 = .ok (.aload_n 0, 1) := by decide +kernel
theorem dX9_put_1 : decode cX9_put 1 = .ok (.iload_n 1, 1) := by decide +kernel
theorem dX9_put_2 : decode cX9_put 2 = .ok (.iconst 2, 1) := by decide +kernel
theorem dX9_put_3 : decode cX9_put 3 = .ok (.invokevirtual 40, 3) := by decide +kernel
theorem dX9_put_6 : decode cX9_put 6 = .ok (.istore 4, 2) := by decide +kernel
theorem dX9_put_8 : decode cX9_put 8 = .ok (.iload 4, 2) := by decide +kernel
theorem dX9_put_10 : decode cX9_put 10 = .ok (.ifCond .eq 6, 3) := by decide +kernel
theorem dX9_put_13 : decode cX9_put 13 = .ok (.iload 4, 2) := by decide +kernel
theorem dX9_put_15 : decode cX9_put 15 = .ok (.ireturn, 1) := by decide +kernel
theorem dX9_put_16 : decode cX9_put 16 = .ok (.aload_n 0, 1) := by decide +kernel
theorem dX9_put_17 : decode cX9_put 17 = .ok (.getfield 35, 3) := by decide +kernel
theorem dX9_put_20 : decode cX9_put 20 = .ok (.iload_n 1, 1) := by decide +kernel
theorem dX9_put_21 : decode cX9_put 21 = .ok (.aaload, 1) := by decide +kernel
theorem dX9_put_22 : decode cX9_put 22 = .ok (.iload_n 2, 1) := by decide +kernel
theorem dX9_put_23 : decode cX9_put 23 = .ok (.invokevirtual 296, 3) := by decide +kernel
theorem dX9_put_26 : decode cX9_put 26 = .ok (.ifCond .ne 6, 3) := by decide +kernel
theorem dX9_put_29 : decode cX9_put 29 = .ok (.bipush (-13), 2) := by decide +kernel
theorem dX9_put_31 : decode cX9_put 31 = .ok (.ireturn, 1) := by decide +kernel
theorem dX9_put_32 : decode cX9_put 32 = .ok (.aload_n 0, 1) := by decide +kernel
theorem dX9_put_33 : decode cX9_put 33 = .ok (.getfield 35, 3) := by decide +kernel
theorem dX9_put_36 : decode cX9_put 36 = .ok (.iload_n 1, 1) := by decide +kernel
theorem dX9_put_37 : decode cX9_put 37 = .ok (.aaload, 1) := by decide +kernel
theorem dX9_put_38 : decode cX9_put 38 = .ok (.iload_n 2, 1) := by decide +kernel
theorem dX9_put_39 : decode cX9_put 39 = .ok (.iload_n 3, 1) := by decide +kernel
theorem dX9_put_40 : decode cX9_put 40 = .ok (.invokevirtual 299, 3) := by decide +kernel
theorem dX9_put_43 : decode cX9_put 43 = .ok (.iconst 0, 1) := by decide +kernel
theorem dX9_put_44 : decode cX9_put 44 = .ok (.ireturn, 1) := by decide +kernel
def f_X9_put (q_elements : Nat → Int32) (q_holds : Int32) (q_sort : Int32) (q_size : Int32) (p1 : Int32) (p2 : Int32) (p3 : Int32) : Option (Int32 × (Nat → Int32)) := ob (f_X9_refusalOf q_holds p1 (2 : Int32)) (fun r1 => if r1 = 0 then gd (ix p1 8) (ob (f_X7_hasPlace q_size p2) (fun r5 => if r5 = 0 then nm (-13 : Int32) (fun z12 => some (z12, q_elements)) else gd (ix p1 8) (ob (f_X7_set q_elements q_sort q_size p2 p3) (fun y9 => nm (0 : Int32) (fun z11 => some (z11, y9)))))) else some (r1, q_elements))
set_option maxHeartbeats 4000000 in
set_option maxRecDepth 100000 in
theorem c_X9_put (l : Launch) (E : EE) (b_h : Nat) (now_h : Nat) (mind_h : Nat) (kept_h : Nat) (rails_h : Nat) (sa_h : Nat) (q_h : Nat) (q_a0 : Nat) (b_img : Int32) (sh : Nat → Option Nat) (q_elements : Nat → Int32) (q_holds : Int32) (q_kind : Int32) (q_figure : Int32) (q_sort : Int32) (q_size : Int32) (p1 : Int32) (p2 : Int32) (p3 : Int32) (res : Int32) (w_q_elements : Nat → Int32) (hsh_p1 : ix p1 8 = true → sh p1.toNatClampNeg = some q_h) (hv : f_X9_put q_elements q_holds q_sort q_size p1 p2 p3 = some (res, w_q_elements)) : Wr l E yX9_put cX9_put 5 (some .int) ({ frames := 3, cells := 0, slots := 0, locals := 64 }) [.ref b_h, .int p1, .int p2, .int p3] [oBp b_h now_h mind_h kept_h b_img rails_h sa_h, aS E sa_h sh, oSh q_h q_a0 q_holds q_kind q_figure q_sort q_size, ai E q_a0 100 q_elements] [oBp b_h now_h mind_h kept_h b_img rails_h sa_h, aS E sa_h sh, oSh q_h q_a0 q_holds q_kind q_figure q_sort q_size, ai E q_a0 100 w_q_elements] (some (.int res)) := by
  refine Wr.intro RX9 (by decide) rfl (Nat.le_of_ble_eq_true rfl) ?_
  intro p e s m below meth c ls A hC hr hlk hmn hP hD hS hA hG hl
  obtain ⟨hx, hb, hml, hown, ht⟩ := id hC
  have hK := hG.1
  have hl : lv_has ls 5 [(0, .ref b_h), (1, .int p1), (2, .int p2), (3, .int p3)] := hl
  rw [f_X9_put] at hv
  refine lv_aload_n hx hb dX9_put_0 rfl (lv_at hl 0 rfl) ?_
  refine lv_iload_n hx hb dX9_put_1 rfl (lv_at hl 1 rfl) ?_
  refine lv_iconst (v := (2 : Int32)) hx hb dX9_put_2 (by decide) ?_
  obtain ⟨r1, h2, hv⟩ := ob_s hv
  refine rdV 3 0 (As := [.int p1, .int (2 : Int32)]) (rest := []) (st1 := [.int r1]) (w := [oBp b_h now_h mind_h kept_h b_img rails_h sa_h, aS E sa_h sh, oSh q_h q_a0 q_holds q_kind q_figure q_sort q_size, ai E q_a0 100 q_elements]) hC q_X9_refusalOf kw_1_161 (c_X9_refusalOf l E b_h now_h mind_h kept_h rails_h sa_h q_h q_a0 b_img sh q_elements q_holds q_kind q_figure q_sort q_size p1 (2 : Int32) r1 hsh_p1 h2) ⟨rfl, rfl⟩ ⟨Nat.le_of_ble_eq_true rfl, Nat.le_of_ble_eq_true rfl⟩ ⟨Nat.zero_le _, Nat.zero_le _⟩ hP rfl rfl rfl hG rfl hl.1 rfl (Nat.le_of_ble_eq_true rfl) dX9_put_3 rfl ?_
  refine lv_istore (lv' := [(4, .int r1), (0, .ref b_h), (1, .int p1), (2, .int p2), (3, .int p3)]) hx hb dX9_put_6 hl (by decide) rfl (fun ls hl => ?_)
  refine lv_iload hx hb dX9_put_8 (lv_at hl 0 rfl) ?_
  refine lv_if_eq (tgt := 16) hx hb dX9_put_10 (by decide) (fun c3 => ?_) (fun c3 => ?_)
  · have hv := if_y c3 hv
    refine lv_aload_n hx hb dX9_put_16 rfl (lv_at hl 1 rfl) ?_
    refine va_get (D := E.1) (ci := 3) (v := .ref sa_h) (C := RX9) (T := TX9) (N := 6) hx hb ht i_X9 hown hK hP 0 rfl rfl 5 (by decide) (ht _ kw_1_143) (fun _ h9 => h9) rfl dX9_put_17 ?_
    refine lv_iload_n hx hb dX9_put_20 rfl (lv_at hl 2 rfl) ?_
    obtain ⟨g4, hv⟩ := gd_s hv
    refine va_aldq (C := "BalconiesParliament$Shelf") hx hb hK hP 1 1 rfl rfl (ix_s g4) dX9_put_21 ?_
    refine W.eq (g2 := F0 m 22 ls [.ref q_h]) (by rw [hsh_p1 g4]; rfl) ?_
    refine lv_iload_n hx hb dX9_put_22 rfl (lv_at hl 3 rfl) ?_
    obtain ⟨r5, h6, hv⟩ := ob_s hv
    refine rdV 1 0 (As := [.int p2]) (rest := []) (st1 := [.int r5]) (w := [oSh q_h q_a0 q_holds q_kind q_figure q_sort q_size, ai E q_a0 100 q_elements]) hC q_X7_hasPlace kw_3_216 (c_X7_hasPlace l E q_h q_a0 q_elements q_holds q_kind q_figure q_sort q_size p2 r5 h6) ⟨rfl, rfl⟩ ⟨Nat.le_of_ble_eq_true rfl, Nat.le_of_ble_eq_true rfl⟩ ⟨Nat.zero_le _, Nat.zero_le _⟩ (hP.sub (ws' := [oSh q_h q_a0 q_holds q_kind q_figure q_sort q_size, ai E q_a0 100 q_elements]) [2, 3] rfl) rfl rfl rfl hG rfl hl.1 rfl (Nat.le_of_ble_eq_true rfl) dX9_put_23 rfl ?_
    refine lv_if_ne (tgt := 32) hx hb dX9_put_26 (by decide) (fun c7 => ?_) (fun c7 => ?_)
    · have hv := if_n c7 hv
      refine lv_aload_n hx hb dX9_put_32 rfl (lv_at hl 1 rfl) ?_
      refine va_get (D := E.1) (ci := 3) (v := .ref sa_h) (C := RX9) (T := TX9) (N := 6) hx hb ht i_X9 hown hK hP 0 rfl rfl 5 (by decide) (ht _ kw_1_143) (fun _ h9 => h9) rfl dX9_put_33 ?_
      refine lv_iload_n hx hb dX9_put_36 rfl (lv_at hl 2 rfl) ?_
      obtain ⟨g8, hv⟩ := gd_s hv
      refine va_aldq (C := "BalconiesParliament$Shelf") hx hb hK hP 1 1 rfl rfl (ix_s g8) dX9_put_37 ?_
      refine W.eq (g2 := F0 m 38 ls [.ref q_h]) (by rw [hsh_p1 g8]; rfl) ?_
      refine lv_iload_n hx hb dX9_put_38 rfl (lv_at hl 3 rfl) ?_
      refine lv_iload_n hx hb dX9_put_39 rfl (lv_at hl 4 rfl) ?_
      obtain ⟨y9, h10, hv⟩ := ob_s hv
      refine wrV (as := [b_h, sa_h, q_h, q_a0]) (wr := [oBp b_h now_h mind_h kept_h b_img rails_h sa_h, aS E sa_h sh]) [2, 3] [0, 1] 1 0 (ws := [oBp b_h now_h mind_h kept_h b_img rails_h sa_h, aS E sa_h sh, oSh q_h q_a0 q_holds q_kind q_figure q_sort q_size, ai E q_a0 100 q_elements]) (ws' := [oBp b_h now_h mind_h kept_h b_img rails_h sa_h, aS E sa_h sh, oSh q_h q_a0 q_holds q_kind q_figure q_sort q_size, ai E q_a0 100 y9]) (As := [.int p2, .int p3]) (rest := []) (st1 := []) hC q_X7_set kw_3_217 (c_X7_set l E q_h q_a0 q_elements q_holds q_kind q_figure q_sort q_size p2 p3 y9 h10) ⟨rfl, rfl⟩ ⟨Nat.le_of_ble_eq_true rfl, Nat.le_of_ble_eq_true rfl⟩ ⟨Nat.zero_le _, Nat.zero_le _⟩ hP hD hS hA rfl rfl rfl hG (by decide) rfl rfl rfl rfl rfl rfl rfl rfl hl.1 rfl (Nat.le_of_ble_eq_true rfl) dX9_put_40 rfl (fun H locs hP hD hS => ?_)
      refine lv_iconst (v := (0 : Int32)) hx hb dX9_put_43 (by decide) ?_
      refine lv_topi (fun z11 ez11 => ?_)
      have hv := nm_s ez11 hv
      cases hv
      exact W.iret hx hb hr (fun t h9 _ => ⟨rfl, by rw [h9]; exact hP, hS.F h9⟩) hS.2.2 dX9_put_44 hlk
    · have hv := if_y c7 hv
      refine lv_bipush (v := (-13 : Int32)) hx hb dX9_put_29 (by decide) ?_
      refine lv_topi (fun z12 ez12 => ?_)
      have hv := nm_s ez12 hv
      cases hv
      exact W.iret hx hb hr (fun t h9 _ => ⟨rfl, by rw [h9]; exact hP, hS.F h9⟩) hS.2.2 dX9_put_31 hlk
  · have hv := if_n c3 hv
    refine lv_iload hx hb dX9_put_13 (lv_at hl 0 rfl) ?_
    cases hv
    exact W.iret hx hb hr (fun t h9 _ => ⟨rfl, by rw [h9]; exact hP, hS.F h9⟩) hS.2.2 dX9_put_15 hlk
theorem dX9_cost_0 : decode cX9_cost 0 = .ok (.aload_n 0, 1) := by decide +kernel
theorem dX9_cost_1 : decode cX9_cost 1 = .ok (.iload_n 1, 1) := by decide +kernel
theorem dX9_cost_2 : decode cX9_cost 2 = .ok (.iconst 1, 1) := by decide +kernel
theorem dX9_cost_3 : decode cX9_cost 3 = .ok (.invokevirtual 40, 3) := by decide +kernel
theorem dX9_cost_6 : decode cX9_cost 6 = .ok (.istore_n 2, 1) := by decide +kernel
theorem dX9_cost_7 : decode cX9_cost 7 = .ok (.iload_n 2, 1) := by decide +kernel
theorem dX9_cost_8 : decode cX9_cost 8 = .ok (.ifCond .eq 5, 3) := by decide +kernel
theorem dX9_cost_11 : decode cX9_cost 11 = .ok (.iload_n 2, 1) := by decide +kernel
theorem dX9_cost_12 : decode cX9_cost 12 = .ok (.ireturn, 1) := by decide +kernel
theorem dX9_cost_13 : decode cX9_cost 13 = .ok (.aload_n 0, 1) := by decide +kernel
theorem dX9_cost_14 : decode cX9_cost 14 = .ok (.getfield 35, 3) := by decide +kernel
theorem dX9_cost_17 : decode cX9_cost 17 = .ok (.iload_n 1, 1) := by decide +kernel
theorem dX9_cost_18 : decode cX9_cost 18 = .ok (.aaload, 1) := by decide +kernel
theorem dX9_cost_19 : decode cX9_cost 19 = .ok (.getfield 107, 3) := by decide +kernel
theorem dX9_cost_22 : decode cX9_cost 22 = .ok (.aload_n 0, 1) := by decide +kernel
theorem dX9_cost_23 : decode cX9_cost 23 = .ok (.getfield 35, 3) := by decide +kernel
theorem dX9_cost_26 : decode cX9_cost 26 = .ok (.iload_n 1, 1) := by decide +kernel
theorem dX9_cost_27 : decode cX9_cost 27 = .ok (.aaload, 1) := by decide +kernel
theorem dX9_cost_28 : decode cX9_cost 28 = .ok (.getfield 109, 3) := by decide +kernel
theorem dX9_cost_31 : decode cX9_cost 31 = .ok (.invokestatic 329, 3) := by decide +kernel
theorem dX9_cost_34 : decode cX9_cost 34 = .ok (.ireturn, 1) := by decide +kernel
def f_X9_cost (q_holds : Int32) (q_kind : Int32) (q_figure : Int32) (p1 : Int32) : Option (Int32) := ob (f_X9_refusalOf q_holds p1 (1 : Int32)) (fun r1 => if r1 = 0 then gd (ix p1 8) (gd (ix p1 8) (ob (f_X3_priceOf q_kind q_figure) (fun r6 => some r6))) else some r1)
set_option maxHeartbeats 4000000 in
set_option maxRecDepth 100000 in
theorem c_X9_cost (l : Launch) (E : EE) (b_h : Nat) (now_h : Nat) (mind_h : Nat) (kept_h : Nat) (rails_h : Nat) (sa_h : Nat) (q_h : Nat) (q_a0 : Nat) (b_img : Int32) (sh : Nat → Option Nat) (q_elements : Nat → Int32) (q_holds : Int32) (q_kind : Int32) (q_figure : Int32) (q_sort : Int32) (q_size : Int32) (p1 : Int32) (res : Int32) (hsh_p1 : ix p1 8 = true → sh p1.toNatClampNeg = some q_h) (hv : f_X9_cost q_holds q_kind q_figure p1 = some res) : Rd l E yX9_cost cX9_cost 3 (some .int) ({ frames := 3, cells := 0, slots := 0, locals := 64 }) [.ref b_h, .int p1] [oBp b_h now_h mind_h kept_h b_img rails_h sa_h, aS E sa_h sh, oSh q_h q_a0 q_holds q_kind q_figure q_sort q_size, ai E q_a0 100 q_elements] (some (.int res)) := by
  refine Rd.intro RX9 (by decide) rfl (Nat.le_of_ble_eq_true rfl) ?_
  intro p e s m below meth c ls hC hr hlk hP hG hl
  obtain ⟨hx, hb, hml, hown, ht⟩ := id hC
  have hK := hG.1
  have hl : lv_has ls 3 [(0, .ref b_h), (1, .int p1)] := hl
  rw [f_X9_cost] at hv
  refine lv_aload_n hx hb dX9_cost_0 rfl (lv_at hl 0 rfl) ?_
  refine lv_iload_n hx hb dX9_cost_1 rfl (lv_at hl 1 rfl) ?_
  refine lv_iconst (v := (1 : Int32)) hx hb dX9_cost_2 (by decide) ?_
  obtain ⟨r1, h2, hv⟩ := ob_s hv
  refine rdV 3 0 (As := [.int p1, .int (1 : Int32)]) (rest := []) (st1 := [.int r1]) (w := [oBp b_h now_h mind_h kept_h b_img rails_h sa_h, aS E sa_h sh, oSh q_h q_a0 q_holds q_kind q_figure q_sort q_size, ai E q_a0 100 q_elements]) hC q_X9_refusalOf kw_1_161 (c_X9_refusalOf l E b_h now_h mind_h kept_h rails_h sa_h q_h q_a0 b_img sh q_elements q_holds q_kind q_figure q_sort q_size p1 (1 : Int32) r1 hsh_p1 h2) ⟨rfl, rfl⟩ ⟨Nat.le_of_ble_eq_true rfl, Nat.le_of_ble_eq_true rfl⟩ ⟨Nat.zero_le _, Nat.zero_le _⟩ hP rfl rfl rfl hG rfl hl.1 rfl (Nat.le_of_ble_eq_true rfl) dX9_cost_3 rfl ?_
  refine lv_istore_n (lv' := [(2, .int r1), (0, .ref b_h), (1, .int p1)]) hx hb dX9_cost_6 rfl hl (by decide) rfl (fun ls hl => ?_)
  refine lv_iload_n hx hb dX9_cost_7 rfl (lv_at hl 0 rfl) ?_
  refine lv_if_eq (tgt := 13) hx hb dX9_cost_8 (by decide) (fun c3 => ?_) (fun c3 => ?_)
  · have hv := if_y c3 hv
    refine lv_aload_n hx hb dX9_cost_13 rfl (lv_at hl 1 rfl) ?_
    refine va_get (D := E.1) (ci := 3) (v := .ref sa_h) (C := RX9) (T := TX9) (N := 6) hx hb ht i_X9 hown hK hP 0 rfl rfl 5 (by decide) (ht _ kw_1_143) (fun _ h9 => h9) rfl dX9_cost_14 ?_
    refine lv_iload_n hx hb dX9_cost_17 rfl (lv_at hl 2 rfl) ?_
    obtain ⟨g4, hv⟩ := gd_s hv
    refine va_aldq (C := "BalconiesParliament$Shelf") hx hb hK hP 1 1 rfl rfl (ix_s g4) dX9_cost_18 ?_
    refine W.eq (g2 := F0 m 19 ls [.ref q_h]) (by rw [hsh_p1 g4]; rfl) ?_
    refine va_get (D := E.1) (ci := 1) (v := .int q_kind) (C := RX7) (T := TX7) (N := 6) hx hb ht i_X7 hown hK hP 2 rfl rfl 2 (by decide) (ht _ kw_1_116) (fun _ h9 => h9) rfl dX9_cost_19 ?_
    refine lv_aload_n hx hb dX9_cost_22 rfl (lv_at hl 1 rfl) ?_
    refine va_get (D := E.1) (ci := 3) (v := .ref sa_h) (C := RX9) (T := TX9) (N := 6) hx hb ht i_X9 hown hK hP 0 rfl rfl 5 (by decide) (ht _ kw_1_143) (fun _ h9 => h9) rfl dX9_cost_23 ?_
    refine lv_iload_n hx hb dX9_cost_26 rfl (lv_at hl 2 rfl) ?_
    obtain ⟨g5, hv⟩ := gd_s hv
    refine va_aldq (C := "BalconiesParliament$Shelf") hx hb hK hP 1 1 rfl rfl (ix_s g5) dX9_cost_27 ?_
    refine W.eq (g2 := F0 m 28 ls [.ref q_h, .int q_kind]) (by rw [hsh_p1 g5]; rfl) ?_
    refine va_get (D := E.1) (ci := 1) (v := .int q_figure) (C := RX7) (T := TX7) (N := 6) hx hb ht i_X7 hown hK hP 2 rfl rfl 3 (by decide) (ht _ kw_1_118) (fun _ h9 => h9) rfl dX9_cost_28 ?_
    obtain ⟨r6, h7, hv⟩ := ob_s hv
    refine rdS (rest := []) (st1 := [.int r6]) (w := []) hC q_X3_priceOf kw_3_238 (c_X3_priceOf l E q_kind q_figure r6 h7) ⟨rfl, rfl⟩ ⟨Nat.le_of_ble_eq_true rfl, Nat.le_of_ble_eq_true rfl⟩ ⟨Nat.zero_le _, Nat.zero_le _⟩ (hP.sub (ws' := []) [] rfl) hG rfl hl.1 rfl (Nat.le_of_ble_eq_true rfl) dX9_cost_31 rfl ?_
    exact W.iret (v := r6) hx hb hr (fun t h9 _ => ⟨rv_i hv, h9⟩) (fun q h => absurd h List.not_mem_nil) dX9_cost_34 hlk
  · have hv := if_n c3 hv
    refine lv_iload_n hx hb dX9_cost_11 rfl (lv_at hl 0 rfl) ?_
    exact W.iret (v := r1) hx hb hr (fun t h9 _ => ⟨rv_i hv, h9⟩) (fun q h => absurd h List.not_mem_nil) dX9_cost_12 hlk
theorem dX9_copy_0 : decode cX9_copy 0 = .ok (.iload_n 1, 1) := by decide +kernel
theorem dX9_copy_1 : decode cX9_copy 1 = .ok (.invokestatic 283, 3) := by decide +kernel
theorem dX9_copy_4 : decode cX9_copy 4 = .ok (.ifCond .eq 10, 3) := by decide +kernel
theorem dX9_copy_7 : decode cX9_copy 7 = .ok (.iload_n 3, 1) := by decide +kernel
theorem dX9_copy_8 : decode cX9_copy 8 = .ok (.invokestatic 283, 3) := by decide +kernel
theorem dX9_copy_11 : decode cX9_copy 11 = .ok (.ifCond .ne 5, 3) := by decide +kernel
theorem dX9_copy_14 : decode cX9_copy 14 = .ok (.iconst (-1), 1) := by decide +kernel
theorem dX9_copy_15 : decode cX9_copy 15 = .ok (.ireturn, 1) := by decide +kernel
theorem dX9_copy_16 : decode cX9_copy 16 = .ok (.aload_n 0, 1) := by decide +kernel
theorem dX9_copy_17 : decode cX9_copy 17 = .ok (.getfield 35, 3) := by decide +kernel
theorem dX9_copy_20 : decode cX9_copy 20 = .ok (.iload_n 1, 1) := by decide +kernel
theorem dX9_copy_21 : decode cX9_copy 21 = .ok (.aaload, 1) := by decide +kernel
theorem dX9_copy_22 : decode cX9_copy 22 = .ok (.astore 6, 2) := by decide +kernel
theorem dX9_copy_24 : decode cX9_copy 24 = .ok (.aload_n 0, 1) := by decide +kernel
theorem dX9_copy_25 : decode cX9_copy 25 = .ok (.getfield 35, 3) := by decide +kernel
theorem dX9_copy_28 : decode cX9_copy 28 = .ok (.iload_n 3, 1) := by decide +kernel
theorem dX9_copy_29 : decode cX9_copy 29 = .ok (.aaload, 1) := by decide +kernel
theorem dX9_copy_30 : decode cX9_copy 30 = .ok (.astore 7, 2) := by decide +kernel
theorem dX9_copy_32 : decode cX9_copy 32 = .ok (.aload 6, 2) := by decide +kernel
theorem dX9_copy_34 : decode cX9_copy 34 = .ok (.getfield 286, 3) := by decide +kernel
theorem dX9_copy_37 : decode cX9_copy 37 = .ok (.ifCond .eq 11, 3) := by decide +kernel
theorem dX9_copy_40 : decode cX9_copy 40 = .ok (.aload 7, 2) := by decide +kernel
theorem dX9_copy_42 : decode cX9_copy 42 = .ok (.getfield 286, 3) := by decide +kernel
theorem dX9_copy_45 : decode cX9_copy 45 = .ok (.ifCond .ne 6, 3) := by decide +kernel
theorem dX9_copy_48 : decode cX9_copy 48 = .ok (.bipush (-11), 2) := by decide +kernel
theorem dX9_copy_50 : decode cX9_copy 50 = .ok (.ireturn, 1) := by decide +kernel
theorem dX9_copy_51 : decode cX9_copy 51 = .ok (.aload 6, 2) := by decide +kernel
theorem dX9_copy_53 : decode cX9_copy 53 = .ok (.getfield 286, 3) := by decide +kernel
theorem dX9_copy_56 : decode cX9_copy 56 = .ok (.iconst 2, 1) := by decide +kernel
theorem dX9_copy_57 : decode cX9_copy 57 = .ok (.if_icmp .ne 25, 3) := by decide +kernel
theorem dX9_copy_60 : decode cX9_copy 60 = .ok (.aload 7, 2) := by decide +kernel
theorem dX9_copy_62 : decode cX9_copy 62 = .ok (.getfield 286, 3) := by decide +kernel
theorem dX9_copy_65 : decode cX9_copy 65 = .ok (.iconst 2, 1) := by decide +kernel
theorem dX9_copy_66 : decode cX9_copy 66 = .ok (.if_icmp .ne 16, 3) := by decide +kernel
theorem dX9_copy_69 : decode cX9_copy 69 = .ok (.aload 6, 2) := by decide +kernel
theorem dX9_copy_71 : decode cX9_copy 71 = .ok (.getfield 44, 3) := by decide +kernel
theorem dX9_copy_74 : decode cX9_copy 74 = .ok (.aload 7, 2) := by decide +kernel
theorem dX9_copy_76 : decode cX9_copy 76 = .ok (.getfield 44, 3) := by decide +kernel
theorem dX9_copy_79 : decode cX9_copy 79 = .ok (.if_icmp .eq 6, 3) := by decide +kernel
theorem dX9_copy_82 : decode cX9_copy 82 = .ok (.bipush (-12), 2) := by decide +kernel
theorem dX9_copy_84 : decode cX9_copy 84 = .ok (.ireturn, 1) := by decide +kernel
theorem dX9_copy_85 : decode cX9_copy 85 = .ok (.aload 6, 2) := by decide +kernel
theorem dX9_copy_87 : decode cX9_copy 87 = .ok (.iload_n 2, 1) := by decide +kernel
theorem dX9_copy_88 : decode cX9_copy 88 = .ok (.iload 5, 2) := by decide +kernel
theorem dX9_copy_90 : decode cX9_copy 90 = .ok (.invokevirtual 316, 3) := by decide +kernel
theorem dX9_copy_93 : decode cX9_copy 93 = .ok (.ifCond .eq 15, 3) := by decide +kernel
theorem dX9_copy_96 : decode cX9_copy 96 = .ok (.aload 7, 2) := by decide +kernel
theorem dX9_copy_98 : decode cX9_copy 98 = .ok (.iload 4, 2) := by decide +kernel
theorem dX9_copy_100 : decode cX9_copy 100 = .ok (.iload 5, 2) := by decide +kernel
theorem dX9_copy_102 : decode cX9_copy 102 = .ok (.invokevirtual 316, 3) := by decide +kernel
theorem dX9_copy_105 : decode cX9_copy 105 = .ok (.ifCond .ne 6, 3) := by decide +kernel
theorem dX9_copy_108 : decode cX9_copy 108 = .ok (.bipush (-13), 2) := by decide +kernel
theorem dX9_copy_110 : decode cX9_copy 110 = .ok (.ireturn, 1) := by decide +kernel
theorem dX9_copy_111 : decode cX9_copy 111 = .ok (.aload 6, 2) := by decide +kernel
theorem dX9_copy_113 : decode cX9_copy 113 = .ok (.getfield 320, 3) := by decide +kernel
theorem dX9_copy_116 : decode cX9_copy 116 = .ok (.iload_n 2, 1) := by decide +kernel
theorem dX9_copy_117 : decode cX9_copy 117 = .ok (.aload 7, 2) := by decide +kernel
theorem dX9_copy_119 : decode cX9_copy 119 = .ok (.getfield 320, 3) := by decide +kernel
theorem dX9_copy_122 : decode cX9_copy 122 = .ok (.iload 4, 2) := by decide +kernel
theorem dX9_copy_124 : decode cX9_copy 124 = .ok (.iload 5, 2) := by decide +kernel
theorem dX9_copy_126 : decode cX9_copy 126 = .ok (.invokestatic 323, 3) := by decide +kernel
theorem dX9_copy_129 : decode cX9_copy 129 = .ok (.iload 5, 2) := by decide +kernel
theorem dX9_copy_131 : decode cX9_copy 131 = .ok (.ireturn, 1) := by decide +kernel
def f_X9_copy (q_elements : Nat → Int32) (q_holds : Int32) (q_sort : Int32) (q_size : Int32) (q2_elements : Nat → Int32) (q2_holds : Int32) (q2_sort : Int32) (q2_size : Int32) (p1 : Int32) (p2 : Int32) (p3 : Int32) (p4 : Int32) (p5 : Int32) : Option (Int32 × (Nat → Int32)) := ob (f_X9_isShelf p1) (fun r1 => if r1 = 0 then nm (-1 : Int32) (fun z4 => some (z4, q2_elements)) else ob (f_X9_isShelf p3) (fun r5 => if r5 = 0 then nm (-1 : Int32) (fun z30 => some (z30, q2_elements)) else gd (ix p1 8) (gd (ix p3 8) (if q_holds = 0 then nm (-11 : Int32) (fun z11 => some (z11, q2_elements)) else if q2_holds = 0 then nm (-11 : Int32) (fun z29 => some (z29, q2_elements)) else if q_holds = (2 : Int32) then if q2_holds = (2 : Int32) then if q_sort = q2_sort then ob (f_X7_hasPlaces q_size p2 p5) (fun r18 => if r18 = 0 then nm (-13 : Int32) (fun z21 => some (z21, q2_elements)) else ob (f_X7_hasPlaces q2_size p4 p5) (fun r22 => if r22 = 0 then nm (-13 : Int32) (fun z27 => some (z27, q2_elements)) else gd (cg p2 p4 p5 100 100) (nm (va_cpy q_elements q2_elements p2.toNatClampNeg p4.toNatClampNeg p5.toNatClampNeg) (fun f26 => some (p5, f26))))) else nm (-12 : Int32) (fun z28 => some (z28, q2_elements)) else nm (-12 : Int32) (fun z16 => some (z16, q2_elements)) else nm (-12 : Int32) (fun z14 => some (z14, q2_elements))))))
set_option maxHeartbeats 4000000 in
set_option maxRecDepth 100000 in
theorem c_X9_copy (l : Launch) (E : EE) (b_h : Nat) (now_h : Nat) (mind_h : Nat) (kept_h : Nat) (rails_h : Nat) (sa_h : Nat) (q_h : Nat) (q_a0 : Nat) (q2_h : Nat) (q2_a0 : Nat) (b_img : Int32) (sh : Nat → Option Nat) (q_elements : Nat → Int32) (q_holds : Int32) (q_kind : Int32) (q_figure : Int32) (q_sort : Int32) (q_size : Int32) (q2_elements : Nat → Int32) (q2_holds : Int32) (q2_kind : Int32) (q2_figure : Int32) (q2_sort : Int32) (q2_size : Int32) (p1 : Int32) (p2 : Int32) (p3 : Int32) (p4 : Int32) (p5 : Int32) (res : Int32) (w_q2_elements : Nat → Int32) (hsh_p1 : ix p1 8 = true → sh p1.toNatClampNeg = some q_h) (hsh_p3 : ix p3 8 = true → sh p3.toNatClampNeg = some q2_h) (hv : f_X9_copy q_elements q_holds q_sort q_size q2_elements q2_holds q2_sort q2_size p1 p2 p3 p4 p5 = some (res, w_q2_elements)) : Wr l E yX9_copy cX9_copy 8 (some .int) ({ frames := 2, cells := 0, slots := 0, locals := 42 }) [.ref b_h, .int p1, .int p2, .int p3, .int p4, .int p5] [oBp b_h now_h mind_h kept_h b_img rails_h sa_h, aS E sa_h sh, oSh q_h q_a0 q_holds q_kind q_figure q_sort q_size, ai E q_a0 100 q_elements, oSh q2_h q2_a0 q2_holds q2_kind q2_figure q2_sort q2_size, ai E q2_a0 100 q2_elements] [oBp b_h now_h mind_h kept_h b_img rails_h sa_h, aS E sa_h sh, oSh q_h q_a0 q_holds q_kind q_figure q_sort q_size, ai E q_a0 100 q_elements, oSh q2_h q2_a0 q2_holds q2_kind q2_figure q2_sort q2_size, ai E q2_a0 100 w_q2_elements] (some (.int res)) := by
  refine Wr.intro RX9 (by decide) rfl (Nat.le_of_ble_eq_true rfl) ?_
  intro p e s m below meth c ls A hC hr hlk hmn hP hD hS hA hG hl
  obtain ⟨hx, hb, hml, hown, ht⟩ := id hC
  have hK := hG.1
  have hl : lv_has ls 8 [(0, .ref b_h), (1, .int p1), (2, .int p2), (3, .int p3), (4, .int p4), (5, .int p5)] := hl
  rw [f_X9_copy] at hv
  refine lv_iload_n hx hb dX9_copy_0 rfl (lv_at hl 1 rfl) ?_
  obtain ⟨r1, h2, hv⟩ := ob_s hv
  refine rdS (rest := []) (st1 := [.int r1]) (w := []) hC q_X9_isShelf kw_1_165 (c_X9_isShelf l E p1 r1 h2) ⟨rfl, rfl⟩ ⟨Nat.le_of_ble_eq_true rfl, Nat.le_of_ble_eq_true rfl⟩ ⟨Nat.zero_le _, Nat.zero_le _⟩ (hP.sub (ws' := []) [] rfl) hG rfl hl.1 rfl (Nat.le_of_ble_eq_true rfl) dX9_copy_1 rfl ?_
  refine lv_if_eq (tgt := 14) hx hb dX9_copy_4 (by decide) (fun c3 => ?_) (fun c3 => ?_)
  · have hv := if_y c3 hv
    refine lv_iconst (v := (-1 : Int32)) hx hb dX9_copy_14 (by decide) ?_
    refine lv_topi (fun z4 ez4 => ?_)
    have hv := nm_s ez4 hv
    cases hv
    exact W.iret hx hb hr (fun t h9 _ => ⟨rfl, by rw [h9]; exact hP, hS.F h9⟩) hS.2.2 dX9_copy_15 hlk
  · have hv := if_n c3 hv
    refine lv_iload_n hx hb dX9_copy_7 rfl (lv_at hl 3 rfl) ?_
    obtain ⟨r5, h6, hv⟩ := ob_s hv
    refine rdS (rest := []) (st1 := [.int r5]) (w := []) hC q_X9_isShelf kw_1_165 (c_X9_isShelf l E p3 r5 h6) ⟨rfl, rfl⟩ ⟨Nat.le_of_ble_eq_true rfl, Nat.le_of_ble_eq_true rfl⟩ ⟨Nat.zero_le _, Nat.zero_le _⟩ (hP.sub (ws' := []) [] rfl) hG rfl hl.1 rfl (Nat.le_of_ble_eq_true rfl) dX9_copy_8 rfl ?_
    refine lv_if_ne (tgt := 16) hx hb dX9_copy_11 (by decide) (fun c7 => ?_) (fun c7 => ?_)
    · have hv := if_n c7 hv
      refine lv_aload_n hx hb dX9_copy_16 rfl (lv_at hl 0 rfl) ?_
      refine va_get (D := E.1) (ci := 3) (v := .ref sa_h) (C := RX9) (T := TX9) (N := 6) hx hb ht i_X9 hown hK hP 0 rfl rfl 5 (by decide) (ht _ kw_1_143) (fun _ h9 => h9) rfl dX9_copy_17 ?_
      refine lv_iload_n hx hb dX9_copy_20 rfl (lv_at hl 1 rfl) ?_
      obtain ⟨g8, hv⟩ := gd_s hv
      refine va_aldq (C := "BalconiesParliament$Shelf") hx hb hK hP 1 1 rfl rfl (ix_s g8) dX9_copy_21 ?_
      refine W.eq (g2 := F0 m 22 ls [.ref q_h]) (by rw [hsh_p1 g8]; rfl) ?_
      refine lv_astore (lv' := [(6, .ref q_h), (0, .ref b_h), (1, .int p1), (2, .int p2), (3, .int p3), (4, .int p4), (5, .int p5)]) hx hb dX9_copy_22 hl (by decide) rfl (fun ls hl => ?_)
      refine lv_aload_n hx hb dX9_copy_24 rfl (lv_at hl 1 rfl) ?_
      refine va_get (D := E.1) (ci := 3) (v := .ref sa_h) (C := RX9) (T := TX9) (N := 6) hx hb ht i_X9 hown hK hP 0 rfl rfl 5 (by decide) (ht _ kw_1_143) (fun _ h9 => h9) rfl dX9_copy_25 ?_
      refine lv_iload_n hx hb dX9_copy_28 rfl (lv_at hl 4 rfl) ?_
      obtain ⟨g9, hv⟩ := gd_s hv
      refine va_aldq (C := "BalconiesParliament$Shelf") hx hb hK hP 1 1 rfl rfl (ix_s g9) dX9_copy_29 ?_
      refine W.eq (g2 := F0 m 30 ls [.ref q2_h]) (by rw [hsh_p3 g9]; rfl) ?_
      refine lv_astore (lv' := [(7, .ref q2_h), (6, .ref q_h), (0, .ref b_h), (1, .int p1), (2, .int p2), (3, .int p3), (4, .int p4), (5, .int p5)]) hx hb dX9_copy_30 hl (by decide) rfl (fun ls hl => ?_)
      refine lv_aload hx hb dX9_copy_32 (lv_at hl 1 rfl) ?_
      refine va_get (D := E.1) (ci := 1) (v := .int q_holds) (C := RX7) (T := TX7) (N := 6) hx hb ht i_X7 hown hK hP 2 rfl rfl 1 (by decide) (ht _ kw_1_114) (fun _ h9 => h9) rfl dX9_copy_34 ?_
      refine lv_if_eq (tgt := 48) hx hb dX9_copy_37 (by decide) (fun c10 => ?_) (fun c10 => ?_)
      · have hv := if_y c10 hv
        refine lv_bipush (v := (-11 : Int32)) hx hb dX9_copy_48 (by decide) ?_
        refine lv_topi (fun z11 ez11 => ?_)
        have hv := nm_s ez11 hv
        cases hv
        exact W.iret hx hb hr (fun t h9 _ => ⟨rfl, by rw [h9]; exact hP, hS.F h9⟩) hS.2.2 dX9_copy_50 hlk
      · have hv := if_n c10 hv
        refine lv_aload hx hb dX9_copy_40 (lv_at hl 0 rfl) ?_
        refine va_get (D := E.1) (ci := 1) (v := .int q2_holds) (C := RX7) (T := TX7) (N := 6) hx hb ht i_X7 hown hK hP 4 rfl rfl 1 (by decide) (ht _ kw_1_114) (fun _ h9 => h9) rfl dX9_copy_42 ?_
        refine lv_if_ne (tgt := 51) hx hb dX9_copy_45 (by decide) (fun c12 => ?_) (fun c12 => ?_)
        · have hv := if_n c12 hv
          refine lv_aload hx hb dX9_copy_51 (lv_at hl 1 rfl) ?_
          refine va_get (D := E.1) (ci := 1) (v := .int q_holds) (C := RX7) (T := TX7) (N := 6) hx hb ht i_X7 hown hK hP 2 rfl rfl 1 (by decide) (ht _ kw_1_114) (fun _ h9 => h9) rfl dX9_copy_53 ?_
          refine lv_iconst (v := (2 : Int32)) hx hb dX9_copy_56 (by decide) ?_
          refine lv_icmp_ne (tgt := 82) hx hb dX9_copy_57 (by decide) (fun c13 => ?_) (fun c13 => ?_)
          · have hv := if_n c13 hv
            refine lv_bipush (v := (-12 : Int32)) hx hb dX9_copy_82 (by decide) ?_
            refine lv_topi (fun z14 ez14 => ?_)
            have hv := nm_s ez14 hv
            cases hv
            exact W.iret hx hb hr (fun t h9 _ => ⟨rfl, by rw [h9]; exact hP, hS.F h9⟩) hS.2.2 dX9_copy_84 hlk
          · have hv := if_y c13 hv
            refine lv_aload hx hb dX9_copy_60 (lv_at hl 0 rfl) ?_
            refine va_get (D := E.1) (ci := 1) (v := .int q2_holds) (C := RX7) (T := TX7) (N := 6) hx hb ht i_X7 hown hK hP 4 rfl rfl 1 (by decide) (ht _ kw_1_114) (fun _ h9 => h9) rfl dX9_copy_62 ?_
            refine lv_iconst (v := (2 : Int32)) hx hb dX9_copy_65 (by decide) ?_
            refine lv_icmp_ne (tgt := 82) hx hb dX9_copy_66 (by decide) (fun c15 => ?_) (fun c15 => ?_)
            · have hv := if_n c15 hv
              refine lv_bipush (v := (-12 : Int32)) hx hb dX9_copy_82 (by decide) ?_
              refine lv_topi (fun z16 ez16 => ?_)
              have hv := nm_s ez16 hv
              cases hv
              exact W.iret hx hb hr (fun t h9 _ => ⟨rfl, by rw [h9]; exact hP, hS.F h9⟩) hS.2.2 dX9_copy_84 hlk
            · have hv := if_y c15 hv
              refine lv_aload hx hb dX9_copy_69 (lv_at hl 1 rfl) ?_
              refine va_get (D := E.1) (ci := 1) (v := .int q_sort) (C := RX7) (T := TX7) (N := 6) hx hb ht i_X7 hown hK hP 2 rfl rfl 4 (by decide) (ht _ kw_1_119) (fun _ h9 => h9) rfl dX9_copy_71 ?_
              refine lv_aload hx hb dX9_copy_74 (lv_at hl 0 rfl) ?_
              refine va_get (D := E.1) (ci := 1) (v := .int q2_sort) (C := RX7) (T := TX7) (N := 6) hx hb ht i_X7 hown hK hP 4 rfl rfl 4 (by decide) (ht _ kw_1_119) (fun _ h9 => h9) rfl dX9_copy_76 ?_
              refine lv_icmp_eq (tgt := 85) hx hb dX9_copy_79 (by decide) (fun c17 => ?_) (fun c17 => ?_)
              · have hv := if_y c17 hv
                refine lv_aload hx hb dX9_copy_85 (lv_at hl 1 rfl) ?_
                refine lv_iload_n hx hb dX9_copy_87 rfl (lv_at hl 4 rfl) ?_
                refine lv_iload hx hb dX9_copy_88 (lv_at hl 7 rfl) ?_
                obtain ⟨r18, h19, hv⟩ := ob_s hv
                refine rdV 1 0 (As := [.int p2, .int p5]) (rest := []) (st1 := [.int r18]) (w := [oSh q_h q_a0 q_holds q_kind q_figure q_sort q_size, ai E q_a0 100 q_elements]) hC q_X7_hasPlaces kw_3_229 (c_X7_hasPlaces l E q_h q_a0 q_elements q_holds q_kind q_figure q_sort q_size p2 p5 r18 h19) ⟨rfl, rfl⟩ ⟨Nat.le_of_ble_eq_true rfl, Nat.le_of_ble_eq_true rfl⟩ ⟨Nat.zero_le _, Nat.zero_le _⟩ (hP.sub (ws' := [oSh q_h q_a0 q_holds q_kind q_figure q_sort q_size, ai E q_a0 100 q_elements]) [2, 3] rfl) rfl rfl rfl hG rfl hl.1 rfl (Nat.le_of_ble_eq_true rfl) dX9_copy_90 rfl ?_
                refine lv_if_eq (tgt := 108) hx hb dX9_copy_93 (by decide) (fun c20 => ?_) (fun c20 => ?_)
                · have hv := if_y c20 hv
                  refine lv_bipush (v := (-13 : Int32)) hx hb dX9_copy_108 (by decide) ?_
                  refine lv_topi (fun z21 ez21 => ?_)
                  have hv := nm_s ez21 hv
                  cases hv
                  exact W.iret hx hb hr (fun t h9 _ => ⟨rfl, by rw [h9]; exact hP, hS.F h9⟩) hS.2.2 dX9_copy_110 hlk
                · have hv := if_n c20 hv
                  refine lv_aload hx hb dX9_copy_96 (lv_at hl 0 rfl) ?_
                  refine lv_iload hx hb dX9_copy_98 (lv_at hl 6 rfl) ?_
                  refine lv_iload hx hb dX9_copy_100 (lv_at hl 7 rfl) ?_
                  obtain ⟨r22, h23, hv⟩ := ob_s hv
                  refine rdV 1 0 (As := [.int p4, .int p5]) (rest := []) (st1 := [.int r22]) (w := [oSh q2_h q2_a0 q2_holds q2_kind q2_figure q2_sort q2_size, ai E q2_a0 100 q2_elements]) hC q_X7_hasPlaces kw_3_229 (c_X7_hasPlaces l E q2_h q2_a0 q2_elements q2_holds q2_kind q2_figure q2_sort q2_size p4 p5 r22 h23) ⟨rfl, rfl⟩ ⟨Nat.le_of_ble_eq_true rfl, Nat.le_of_ble_eq_true rfl⟩ ⟨Nat.zero_le _, Nat.zero_le _⟩ (hP.sub (ws' := [oSh q2_h q2_a0 q2_holds q2_kind q2_figure q2_sort q2_size, ai E q2_a0 100 q2_elements]) [4, 5] rfl) rfl rfl rfl hG rfl hl.1 rfl (Nat.le_of_ble_eq_true rfl) dX9_copy_102 rfl ?_
                  refine lv_if_ne (tgt := 111) hx hb dX9_copy_105 (by decide) (fun c24 => ?_) (fun c24 => ?_)
                  · have hv := if_n c24 hv
                    refine lv_aload hx hb dX9_copy_111 (lv_at hl 1 rfl) ?_
                    refine va_get (D := E.1) (ci := 1) (v := .ref q_a0) (C := RX7) (T := TX7) (N := 6) hx hb ht i_X7 hown hK hP 2 rfl rfl 0 (by decide) (ht _ kw_1_112) (fun _ h9 => h9) rfl dX9_copy_113 ?_
                    refine lv_iload_n hx hb dX9_copy_116 rfl (lv_at hl 4 rfl) ?_
                    refine lv_aload hx hb dX9_copy_117 (lv_at hl 0 rfl) ?_
                    refine va_get (D := E.1) (ci := 1) (v := .ref q2_a0) (C := RX7) (T := TX7) (N := 6) hx hb ht i_X7 hown hK hP 4 rfl rfl 0 (by decide) (ht _ kw_1_112) (fun _ h9 => h9) rfl dX9_copy_119 ?_
                    refine lv_iload hx hb dX9_copy_122 (lv_at hl 6 rfl) ?_
                    refine lv_iload hx hb dX9_copy_124 (lv_at hl 7 rfl) ?_
                    obtain ⟨g25, hv⟩ := gd_s hv
                    refine va_copyi (ty := .int) hx hb (by rw [hml]; exact hl.1.symm) hown (ht _ kw_3_233) (ht _ kw_1_177) (ht _ kw_1_176) (ht _ kw_1_6) hK hP hD hS 3 5 0 0 rfl rfl rfl rfl rfl (cg_s g25).1 (cg_s g25).2.1 (cg_s g25).2.2.1 (cg_s g25).2.2.2.1 (cg_s g25).2.2.2.2 (fun _ _ => rfl) (Nat.le_of_ble_eq_true rfl) (Nat.le_of_ble_eq_true rfl) dX9_copy_126 (fun H locs hP hD hS => ?_)
                    have hP : va_P E.1 vwCl [oBp b_h now_h mind_h kept_h b_img rails_h sa_h, aS E sa_h sh, oSh q_h q_a0 q_holds q_kind q_figure q_sort q_size, ai E q_a0 100 q_elements, oSh q2_h q2_a0 q2_holds q2_kind q2_figure q2_sort q2_size, ai E q2_a0 100 (va_cpy q_elements q2_elements p2.toNatClampNeg p4.toNatClampNeg p5.toNatClampNeg)] H := hP
                    have hD : va_D A [oBp b_h now_h mind_h kept_h b_img rails_h sa_h, aS E sa_h sh, oSh q_h q_a0 q_holds q_kind q_figure q_sort q_size, ai E q_a0 100 q_elements, oSh q2_h q2_a0 q2_holds q2_kind q2_figure q2_sort q2_size, ai E q2_a0 100 (va_cpy q_elements q2_elements p2.toNatClampNeg p4.toNatClampNeg p5.toNatClampNeg)] := hD
                    obtain ⟨f26, ef26⟩ : ∃ z, z = (va_cpy q_elements q2_elements p2.toNatClampNeg p4.toNatClampNeg p5.toNatClampNeg) := ⟨_, rfl⟩
                    rw [← ef26] at hP hD
                    have hv := nm_s ef26 hv
                    refine lv_iload hx hb dX9_copy_129 (lv_at hl 7 rfl) ?_
                    cases hv
                    exact W.iret hx hb hr (fun t h9 _ => ⟨rfl, by rw [h9]; exact hP, hS.F h9⟩) hS.2.2 dX9_copy_131 hlk
                  · have hv := if_y c24 hv
                    refine lv_bipush (v := (-13 : Int32)) hx hb dX9_copy_108 (by decide) ?_
                    refine lv_topi (fun z27 ez27 => ?_)
                    have hv := nm_s ez27 hv
                    cases hv
                    exact W.iret hx hb hr (fun t h9 _ => ⟨rfl, by rw [h9]; exact hP, hS.F h9⟩) hS.2.2 dX9_copy_110 hlk
              · have hv := if_n c17 hv
                refine lv_bipush (v := (-12 : Int32)) hx hb dX9_copy_82 (by decide) ?_
                refine lv_topi (fun z28 ez28 => ?_)
                have hv := nm_s ez28 hv
                cases hv
                exact W.iret hx hb hr (fun t h9 _ => ⟨rfl, by rw [h9]; exact hP, hS.F h9⟩) hS.2.2 dX9_copy_84 hlk
        · have hv := if_y c12 hv
          refine lv_bipush (v := (-11 : Int32)) hx hb dX9_copy_48 (by decide) ?_
          refine lv_topi (fun z29 ez29 => ?_)
          have hv := nm_s ez29 hv
          cases hv
          exact W.iret hx hb hr (fun t h9 _ => ⟨rfl, by rw [h9]; exact hP, hS.F h9⟩) hS.2.2 dX9_copy_50 hlk
    · have hv := if_y c7 hv
      refine lv_iconst (v := (-1 : Int32)) hx hb dX9_copy_14 (by decide) ?_
      refine lv_topi (fun z30 ez30 => ?_)
      have hv := nm_s ez30 hv
      cases hv
      exact W.iret hx hb hr (fun t h9 _ => ⟨rfl, by rw [h9]; exact hP, hS.F h9⟩) hS.2.2 dX9_copy_15 hlk
def f_X9_copy_s (q_elements : Nat → Int32) (q_holds : Int32) (q_sort : Int32) (q_size : Int32) (p1 : Int32) (p2 : Int32) (p3 : Int32) (p4 : Int32) (p5 : Int32) : Option (Int32 × (Nat → Int32)) := ob (f_X9_isShelf p1) (fun r1 => if r1 = 0 then nm (-1 : Int32) (fun z4 => some (z4, q_elements)) else ob (f_X9_isShelf p3) (fun r5 => if r5 = 0 then nm (-1 : Int32) (fun z30 => some (z30, q_elements)) else gd (ix p1 8) (gd (ix p3 8) (if q_holds = 0 then nm (-11 : Int32) (fun z11 => some (z11, q_elements)) else if q_holds = 0 then nm (-11 : Int32) (fun z29 => some (z29, q_elements)) else if q_holds = (2 : Int32) then if q_holds = (2 : Int32) then if q_sort = q_sort then ob (f_X7_hasPlaces q_size p2 p5) (fun r18 => if r18 = 0 then nm (-13 : Int32) (fun z21 => some (z21, q_elements)) else ob (f_X7_hasPlaces q_size p4 p5) (fun r22 => if r22 = 0 then nm (-13 : Int32) (fun z27 => some (z27, q_elements)) else gd (cg p2 p4 p5 100 100) (nm (va_cpy q_elements q_elements p2.toNatClampNeg p4.toNatClampNeg p5.toNatClampNeg) (fun f26 => some (p5, f26))))) else nm (-12 : Int32) (fun z28 => some (z28, q_elements)) else nm (-12 : Int32) (fun z16 => some (z16, q_elements)) else nm (-12 : Int32) (fun z14 => some (z14, q_elements))))))
set_option maxHeartbeats 4000000 in
set_option maxRecDepth 100000 in
theorem c_X9_copy_s (l : Launch) (E : EE) (b_h : Nat) (now_h : Nat) (mind_h : Nat) (kept_h : Nat) (rails_h : Nat) (sa_h : Nat) (q_h : Nat) (q_a0 : Nat) (b_img : Int32) (sh : Nat → Option Nat) (q_elements : Nat → Int32) (q_holds : Int32) (q_kind : Int32) (q_figure : Int32) (q_sort : Int32) (q_size : Int32) (p1 : Int32) (p2 : Int32) (p3 : Int32) (p4 : Int32) (p5 : Int32) (res : Int32) (w_q_elements : Nat → Int32) (hsh_p1 : ix p1 8 = true → sh p1.toNatClampNeg = some q_h) (hsh_p3 : ix p3 8 = true → sh p3.toNatClampNeg = some q_h) (hv : f_X9_copy_s q_elements q_holds q_sort q_size p1 p2 p3 p4 p5 = some (res, w_q_elements)) : Wr l E yX9_copy cX9_copy 8 (some .int) ({ frames := 2, cells := 0, slots := 0, locals := 42 }) [.ref b_h, .int p1, .int p2, .int p3, .int p4, .int p5] [oBp b_h now_h mind_h kept_h b_img rails_h sa_h, aS E sa_h sh, oSh q_h q_a0 q_holds q_kind q_figure q_sort q_size, ai E q_a0 100 q_elements] [oBp b_h now_h mind_h kept_h b_img rails_h sa_h, aS E sa_h sh, oSh q_h q_a0 q_holds q_kind q_figure q_sort q_size, ai E q_a0 100 w_q_elements] (some (.int res)) := by
  refine Wr.intro RX9 (by decide) rfl (Nat.le_of_ble_eq_true rfl) ?_
  intro p e s m below meth c ls A hC hr hlk hmn hP hD hS hA hG hl
  obtain ⟨hx, hb, hml, hown, ht⟩ := id hC
  have hK := hG.1
  have hl : lv_has ls 8 [(0, .ref b_h), (1, .int p1), (2, .int p2), (3, .int p3), (4, .int p4), (5, .int p5)] := hl
  rw [f_X9_copy_s] at hv
  refine lv_iload_n hx hb dX9_copy_0 rfl (lv_at hl 1 rfl) ?_
  obtain ⟨r1, h2, hv⟩ := ob_s hv
  refine rdS (rest := []) (st1 := [.int r1]) (w := []) hC q_X9_isShelf kw_1_165 (c_X9_isShelf l E p1 r1 h2) ⟨rfl, rfl⟩ ⟨Nat.le_of_ble_eq_true rfl, Nat.le_of_ble_eq_true rfl⟩ ⟨Nat.zero_le _, Nat.zero_le _⟩ (hP.sub (ws' := []) [] rfl) hG rfl hl.1 rfl (Nat.le_of_ble_eq_true rfl) dX9_copy_1 rfl ?_
  refine lv_if_eq (tgt := 14) hx hb dX9_copy_4 (by decide) (fun c3 => ?_) (fun c3 => ?_)
  · have hv := if_y c3 hv
    refine lv_iconst (v := (-1 : Int32)) hx hb dX9_copy_14 (by decide) ?_
    refine lv_topi (fun z4 ez4 => ?_)
    have hv := nm_s ez4 hv
    cases hv
    exact W.iret hx hb hr (fun t h9 _ => ⟨rfl, by rw [h9]; exact hP, hS.F h9⟩) hS.2.2 dX9_copy_15 hlk
  · have hv := if_n c3 hv
    refine lv_iload_n hx hb dX9_copy_7 rfl (lv_at hl 3 rfl) ?_
    obtain ⟨r5, h6, hv⟩ := ob_s hv
    refine rdS (rest := []) (st1 := [.int r5]) (w := []) hC q_X9_isShelf kw_1_165 (c_X9_isShelf l E p3 r5 h6) ⟨rfl, rfl⟩ ⟨Nat.le_of_ble_eq_true rfl, Nat.le_of_ble_eq_true rfl⟩ ⟨Nat.zero_le _, Nat.zero_le _⟩ (hP.sub (ws' := []) [] rfl) hG rfl hl.1 rfl (Nat.le_of_ble_eq_true rfl) dX9_copy_8 rfl ?_
    refine lv_if_ne (tgt := 16) hx hb dX9_copy_11 (by decide) (fun c7 => ?_) (fun c7 => ?_)
    · have hv := if_n c7 hv
      refine lv_aload_n hx hb dX9_copy_16 rfl (lv_at hl 0 rfl) ?_
      refine va_get (D := E.1) (ci := 3) (v := .ref sa_h) (C := RX9) (T := TX9) (N := 6) hx hb ht i_X9 hown hK hP 0 rfl rfl 5 (by decide) (ht _ kw_1_143) (fun _ h9 => h9) rfl dX9_copy_17 ?_
      refine lv_iload_n hx hb dX9_copy_20 rfl (lv_at hl 1 rfl) ?_
      obtain ⟨g8, hv⟩ := gd_s hv
      refine va_aldq (C := "BalconiesParliament$Shelf") hx hb hK hP 1 1 rfl rfl (ix_s g8) dX9_copy_21 ?_
      refine W.eq (g2 := F0 m 22 ls [.ref q_h]) (by rw [hsh_p1 g8]; rfl) ?_
      refine lv_astore (lv' := [(6, .ref q_h), (0, .ref b_h), (1, .int p1), (2, .int p2), (3, .int p3), (4, .int p4), (5, .int p5)]) hx hb dX9_copy_22 hl (by decide) rfl (fun ls hl => ?_)
      refine lv_aload_n hx hb dX9_copy_24 rfl (lv_at hl 1 rfl) ?_
      refine va_get (D := E.1) (ci := 3) (v := .ref sa_h) (C := RX9) (T := TX9) (N := 6) hx hb ht i_X9 hown hK hP 0 rfl rfl 5 (by decide) (ht _ kw_1_143) (fun _ h9 => h9) rfl dX9_copy_25 ?_
      refine lv_iload_n hx hb dX9_copy_28 rfl (lv_at hl 4 rfl) ?_
      obtain ⟨g9, hv⟩ := gd_s hv
      refine va_aldq (C := "BalconiesParliament$Shelf") hx hb hK hP 1 1 rfl rfl (ix_s g9) dX9_copy_29 ?_
      refine W.eq (g2 := F0 m 30 ls [.ref q_h]) (by rw [hsh_p3 g9]; rfl) ?_
      refine lv_astore (lv' := [(7, .ref q_h), (6, .ref q_h), (0, .ref b_h), (1, .int p1), (2, .int p2), (3, .int p3), (4, .int p4), (5, .int p5)]) hx hb dX9_copy_30 hl (by decide) rfl (fun ls hl => ?_)
      refine lv_aload hx hb dX9_copy_32 (lv_at hl 1 rfl) ?_
      refine va_get (D := E.1) (ci := 1) (v := .int q_holds) (C := RX7) (T := TX7) (N := 6) hx hb ht i_X7 hown hK hP 2 rfl rfl 1 (by decide) (ht _ kw_1_114) (fun _ h9 => h9) rfl dX9_copy_34 ?_
      refine lv_if_eq (tgt := 48) hx hb dX9_copy_37 (by decide) (fun c10 => ?_) (fun c10 => ?_)
      · have hv := if_y c10 hv
        refine lv_bipush (v := (-11 : Int32)) hx hb dX9_copy_48 (by decide) ?_
        refine lv_topi (fun z11 ez11 => ?_)
        have hv := nm_s ez11 hv
        cases hv
        exact W.iret hx hb hr (fun t h9 _ => ⟨rfl, by rw [h9]; exact hP, hS.F h9⟩) hS.2.2 dX9_copy_50 hlk
      · have hv := if_n c10 hv
        refine lv_aload hx hb dX9_copy_40 (lv_at hl 0 rfl) ?_
        refine va_get (D := E.1) (ci := 1) (v := .int q_holds) (C := RX7) (T := TX7) (N := 6) hx hb ht i_X7 hown hK hP 2 rfl rfl 1 (by decide) (ht _ kw_1_114) (fun _ h9 => h9) rfl dX9_copy_42 ?_
        refine lv_if_ne (tgt := 51) hx hb dX9_copy_45 (by decide) (fun c12 => ?_) (fun c12 => ?_)
        · have hv := if_n c12 hv
          refine lv_aload hx hb dX9_copy_51 (lv_at hl 1 rfl) ?_
          refine va_get (D := E.1) (ci := 1) (v := .int q_holds) (C := RX7) (T := TX7) (N := 6) hx hb ht i_X7 hown hK hP 2 rfl rfl 1 (by decide) (ht _ kw_1_114) (fun _ h9 => h9) rfl dX9_copy_53 ?_
          refine lv_iconst (v := (2 : Int32)) hx hb dX9_copy_56 (by decide) ?_
          refine lv_icmp_ne (tgt := 82) hx hb dX9_copy_57 (by decide) (fun c13 => ?_) (fun c13 => ?_)
          · have hv := if_n c13 hv
            refine lv_bipush (v := (-12 : Int32)) hx hb dX9_copy_82 (by decide) ?_
            refine lv_topi (fun z14 ez14 => ?_)
            have hv := nm_s ez14 hv
            cases hv
            exact W.iret hx hb hr (fun t h9 _ => ⟨rfl, by rw [h9]; exact hP, hS.F h9⟩) hS.2.2 dX9_copy_84 hlk
          · have hv := if_y c13 hv
            refine lv_aload hx hb dX9_copy_60 (lv_at hl 0 rfl) ?_
            refine va_get (D := E.1) (ci := 1) (v := .int q_holds) (C := RX7) (T := TX7) (N := 6) hx hb ht i_X7 hown hK hP 2 rfl rfl 1 (by decide) (ht _ kw_1_114) (fun _ h9 => h9) rfl dX9_copy_62 ?_
            refine lv_iconst (v := (2 : Int32)) hx hb dX9_copy_65 (by decide) ?_
            refine lv_icmp_ne (tgt := 82) hx hb dX9_copy_66 (by decide) (fun c15 => ?_) (fun c15 => ?_)
            · have hv := if_n c15 hv
              refine lv_bipush (v := (-12 : Int32)) hx hb dX9_copy_82 (by decide) ?_
              refine lv_topi (fun z16 ez16 => ?_)
              have hv := nm_s ez16 hv
              cases hv
              exact W.iret hx hb hr (fun t h9 _ => ⟨rfl, by rw [h9]; exact hP, hS.F h9⟩) hS.2.2 dX9_copy_84 hlk
            · have hv := if_y c15 hv
              refine lv_aload hx hb dX9_copy_69 (lv_at hl 1 rfl) ?_
              refine va_get (D := E.1) (ci := 1) (v := .int q_sort) (C := RX7) (T := TX7) (N := 6) hx hb ht i_X7 hown hK hP 2 rfl rfl 4 (by decide) (ht _ kw_1_119) (fun _ h9 => h9) rfl dX9_copy_71 ?_
              refine lv_aload hx hb dX9_copy_74 (lv_at hl 0 rfl) ?_
              refine va_get (D := E.1) (ci := 1) (v := .int q_sort) (C := RX7) (T := TX7) (N := 6) hx hb ht i_X7 hown hK hP 2 rfl rfl 4 (by decide) (ht _ kw_1_119) (fun _ h9 => h9) rfl dX9_copy_76 ?_
              refine lv_icmp_eq (tgt := 85) hx hb dX9_copy_79 (by decide) (fun c17 => ?_) (fun c17 => ?_)
              · have hv := if_y c17 hv
                refine lv_aload hx hb dX9_copy_85 (lv_at hl 1 rfl) ?_
                refine lv_iload_n hx hb dX9_copy_87 rfl (lv_at hl 4 rfl) ?_
                refine lv_iload hx hb dX9_copy_88 (lv_at hl 7 rfl) ?_
                obtain ⟨r18, h19, hv⟩ := ob_s hv
                refine rdV 1 0 (As := [.int p2, .int p5]) (rest := []) (st1 := [.int r18]) (w := [oSh q_h q_a0 q_holds q_kind q_figure q_sort q_size, ai E q_a0 100 q_elements]) hC q_X7_hasPlaces kw_3_229 (c_X7_hasPlaces l E q_h q_a0 q_elements q_holds q_kind q_figure q_sort q_size p2 p5 r18 h19) ⟨rfl, rfl⟩ ⟨Nat.le_of_ble_eq_true rfl, Nat.le_of_ble_eq_true rfl⟩ ⟨Nat.zero_le _, Nat.zero_le _⟩ (hP.sub (ws' := [oSh q_h q_a0 q_holds q_kind q_figure q_sort q_size, ai E q_a0 100 q_elements]) [2, 3] rfl) rfl rfl rfl hG rfl hl.1 rfl (Nat.le_of_ble_eq_true rfl) dX9_copy_90 rfl ?_
                refine lv_if_eq (tgt := 108) hx hb dX9_copy_93 (by decide) (fun c20 => ?_) (fun c20 => ?_)
                · have hv := if_y c20 hv
                  refine lv_bipush (v := (-13 : Int32)) hx hb dX9_copy_108 (by decide) ?_
                  refine lv_topi (fun z21 ez21 => ?_)
                  have hv := nm_s ez21 hv
                  cases hv
                  exact W.iret hx hb hr (fun t h9 _ => ⟨rfl, by rw [h9]; exact hP, hS.F h9⟩) hS.2.2 dX9_copy_110 hlk
                · have hv := if_n c20 hv
                  refine lv_aload hx hb dX9_copy_96 (lv_at hl 0 rfl) ?_
                  refine lv_iload hx hb dX9_copy_98 (lv_at hl 6 rfl) ?_
                  refine lv_iload hx hb dX9_copy_100 (lv_at hl 7 rfl) ?_
                  obtain ⟨r22, h23, hv⟩ := ob_s hv
                  refine rdV 1 0 (As := [.int p4, .int p5]) (rest := []) (st1 := [.int r22]) (w := [oSh q_h q_a0 q_holds q_kind q_figure q_sort q_size, ai E q_a0 100 q_elements]) hC q_X7_hasPlaces kw_3_229 (c_X7_hasPlaces l E q_h q_a0 q_elements q_holds q_kind q_figure q_sort q_size p4 p5 r22 h23) ⟨rfl, rfl⟩ ⟨Nat.le_of_ble_eq_true rfl, Nat.le_of_ble_eq_true rfl⟩ ⟨Nat.zero_le _, Nat.zero_le _⟩ (hP.sub (ws' := [oSh q_h q_a0 q_holds q_kind q_figure q_sort q_size, ai E q_a0 100 q_elements]) [2, 3] rfl) rfl rfl rfl hG rfl hl.1 rfl (Nat.le_of_ble_eq_true rfl) dX9_copy_102 rfl ?_
                  refine lv_if_ne (tgt := 111) hx hb dX9_copy_105 (by decide) (fun c24 => ?_) (fun c24 => ?_)
                  · have hv := if_n c24 hv
                    refine lv_aload hx hb dX9_copy_111 (lv_at hl 1 rfl) ?_
                    refine va_get (D := E.1) (ci := 1) (v := .ref q_a0) (C := RX7) (T := TX7) (N := 6) hx hb ht i_X7 hown hK hP 2 rfl rfl 0 (by decide) (ht _ kw_1_112) (fun _ h9 => h9) rfl dX9_copy_113 ?_
                    refine lv_iload_n hx hb dX9_copy_116 rfl (lv_at hl 4 rfl) ?_
                    refine lv_aload hx hb dX9_copy_117 (lv_at hl 0 rfl) ?_
                    refine va_get (D := E.1) (ci := 1) (v := .ref q_a0) (C := RX7) (T := TX7) (N := 6) hx hb ht i_X7 hown hK hP 2 rfl rfl 0 (by decide) (ht _ kw_1_112) (fun _ h9 => h9) rfl dX9_copy_119 ?_
                    refine lv_iload hx hb dX9_copy_122 (lv_at hl 6 rfl) ?_
                    refine lv_iload hx hb dX9_copy_124 (lv_at hl 7 rfl) ?_
                    obtain ⟨g25, hv⟩ := gd_s hv
                    refine va_copyi (ty := .int) hx hb (by rw [hml]; exact hl.1.symm) hown (ht _ kw_3_233) (ht _ kw_1_177) (ht _ kw_1_176) (ht _ kw_1_6) hK hP hD hS 3 3 0 0 rfl rfl rfl rfl rfl (cg_s g25).1 (cg_s g25).2.1 (cg_s g25).2.2.1 (cg_s g25).2.2.2.1 (cg_s g25).2.2.2.2 (fun _ _ => rfl) (Nat.le_of_ble_eq_true rfl) (Nat.le_of_ble_eq_true rfl) dX9_copy_126 (fun H locs hP hD hS => ?_)
                    have hP : va_P E.1 vwCl [oBp b_h now_h mind_h kept_h b_img rails_h sa_h, aS E sa_h sh, oSh q_h q_a0 q_holds q_kind q_figure q_sort q_size, ai E q_a0 100 (va_cpy q_elements q_elements p2.toNatClampNeg p4.toNatClampNeg p5.toNatClampNeg)] H := hP
                    have hD : va_D A [oBp b_h now_h mind_h kept_h b_img rails_h sa_h, aS E sa_h sh, oSh q_h q_a0 q_holds q_kind q_figure q_sort q_size, ai E q_a0 100 (va_cpy q_elements q_elements p2.toNatClampNeg p4.toNatClampNeg p5.toNatClampNeg)] := hD
                    obtain ⟨f26, ef26⟩ : ∃ z, z = (va_cpy q_elements q_elements p2.toNatClampNeg p4.toNatClampNeg p5.toNatClampNeg) := ⟨_, rfl⟩
                    rw [← ef26] at hP hD
                    have hv := nm_s ef26 hv
                    refine lv_iload hx hb dX9_copy_129 (lv_at hl 7 rfl) ?_
                    cases hv
                    exact W.iret hx hb hr (fun t h9 _ => ⟨rfl, by rw [h9]; exact hP, hS.F h9⟩) hS.2.2 dX9_copy_131 hlk
                  · have hv := if_y c24 hv
                    refine lv_bipush (v := (-13 : Int32)) hx hb dX9_copy_108 (by decide) ?_
                    refine lv_topi (fun z27 ez27 => ?_)
                    have hv := nm_s ez27 hv
                    cases hv
                    exact W.iret hx hb hr (fun t h9 _ => ⟨rfl, by rw [h9]; exact hP, hS.F h9⟩) hS.2.2 dX9_copy_110 hlk
              · have hv := if_n c17 hv
                refine lv_bipush (v := (-12 : Int32)) hx hb dX9_copy_82 (by decide) ?_
                refine lv_topi (fun z28 ez28 => ?_)
                have hv := nm_s ez28 hv
                cases hv
                exact W.iret hx hb hr (fun t h9 _ => ⟨rfl, by rw [h9]; exact hP, hS.F h9⟩) hS.2.2 dX9_copy_84 hlk
        · have hv := if_y c12 hv
          refine lv_bipush (v := (-11 : Int32)) hx hb dX9_copy_48 (by decide) ?_
          refine lv_topi (fun z29 ez29 => ?_)
          have hv := nm_s ez29 hv
          cases hv
          exact W.iret hx hb hr (fun t h9 _ => ⟨rfl, by rw [h9]; exact hP, hS.F h9⟩) hS.2.2 dX9_copy_50 hlk
    · have hv := if_y c7 hv
      refine lv_iconst (v := (-1 : Int32)) hx hb dX9_copy_14 (by decide) ?_
      refine lv_topi (fun z30 ez30 => ?_)
      have hv := nm_s ez30 hv
      cases hv
      exact W.iret hx hb hr (fun t h9 _ => ⟨rfl, by rw [h9]; exact hP, hS.F h9⟩) hS.2.2 dX9_copy_15 hlk
theorem dX9_quarter_0 : decode cX9_quarter 0 = .ok (.aload_n 0, 1) := by decide +kernel
theorem dX9_quarter_1 : decode cX9_quarter 1 = .ok (.iload_n 1, 1) := by decide +kernel
theorem dX9_quarter_2 : decode cX9_quarter 2 = .ok (.iconst 2, 1) := by decide +kernel
theorem dX9_quarter_3 : decode cX9_quarter 3 = .ok (.invokevirtual 40, 3) := by decide +kernel
theorem dX9_quarter_6 : decode cX9_quarter 6 = .ok (.istore_n 2, 1) := by decide +kernel
theorem dX9_quarter_7 : decode cX9_quarter 7 = .ok (.iload_n 2, 1) := by decide +kernel
theorem dX9_quarter_8 : decode cX9_quarter 8 = .ok (.ifCond .eq 5, 3) := by decide +kernel
theorem dX9_quarter_11 : decode cX9_quarter 11 = .ok (.iload_n 2, 1) := by decide +kernel
theorem dX9_quarter_12 : decode cX9_quarter 12 = .ok (.ireturn, 1) := by decide +kernel
theorem dX9_quarter_13 : decode cX9_quarter 13 = .ok (.aload_n 0, 1) := by decide +kernel
theorem dX9_quarter_14 : decode cX9_quarter 14 = .ok (.getfield 35, 3) := by decide +kernel
theorem dX9_quarter_17 : decode cX9_quarter 17 = .ok (.iload_n 1, 1) := by decide +kernel
theorem dX9_quarter_18 : decode cX9_quarter 18 = .ok (.aaload, 1) := by decide +kernel
theorem dX9_quarter_19 : decode cX9_quarter 19 = .ok (.getfield 44, 3) := by decide +kernel
theorem dX9_quarter_22 : decode cX9_quarter 22 = .ok (.ifCond .eq 6, 3) := by decide +kernel
theorem dX9_quarter_25 : decode cX9_quarter 25 = .ok (.bipush (-12), 2) := by decide +kernel
theorem dX9_quarter_27 : decode cX9_quarter 27 = .ok (.ireturn, 1) := by decide +kernel
theorem dX9_quarter_28 : decode cX9_quarter 28 = .ok (.aload_n 0, 1) := by decide +kernel
theorem dX9_quarter_29 : decode cX9_quarter 29 = .ok (.getfield 16, 3) := by decide +kernel
theorem dX9_quarter_32 : decode cX9_quarter 32 = .ok (.aload_n 0, 1) := by decide +kernel
theorem dX9_quarter_33 : decode cX9_quarter 33 = .ok (.getfield 12, 3) := by decide +kernel
theorem dX9_quarter_36 : decode cX9_quarter 36 = .ok (.invokevirtual 48, 3) := by decide +kernel
theorem dX9_quarter_39 : decode cX9_quarter 39 = .ok (.aload_n 0, 1) := by decide +kernel
theorem dX9_quarter_40 : decode cX9_quarter 40 = .ok (.getfield 35, 3) := by decide +kernel
theorem dX9_quarter_43 : decode cX9_quarter 43 = .ok (.iload_n 1, 1) := by decide +kernel
theorem dX9_quarter_44 : decode cX9_quarter 44 = .ok (.aaload, 1) := by decide +kernel
theorem dX9_quarter_45 : decode cX9_quarter 45 = .ok (.aload_n 0, 1) := by decide +kernel
theorem dX9_quarter_46 : decode cX9_quarter 46 = .ok (.getfield 16, 3) := by decide +kernel
theorem dX9_quarter_49 : decode cX9_quarter 49 = .ok (.invokestatic 52, 3) := by decide +kernel
theorem dX9_quarter_52 : decode cX9_quarter 52 = .ok (.istore_n 3, 1) := by decide +kernel
theorem dX9_quarter_53 : decode cX9_quarter 53 = .ok (.iload_n 3, 1) := by decide +kernel
theorem dX9_quarter_54 : decode cX9_quarter 54 = .ok (.ifCond .lt 14, 3) := by decide +kernel
theorem dX9_quarter_57 : decode cX9_quarter 57 = .ok (.aload_n 0, 1) := by decide +kernel
theorem dX9_quarter_58 : decode cX9_quarter 58 = .ok (.getfield 12, 3) := by decide +kernel
theorem dX9_quarter_61 : decode cX9_quarter 61 = .ok (.aload_n 0, 1) := by decide +kernel
theorem dX9_quarter_62 : decode cX9_quarter 62 = .ok (.getfield 16, 3) := by decide +kernel
theorem dX9_quarter_65 : decode cX9_quarter 65 = .ok (.invokevirtual 48, 3) := by decide +kernel
theorem dX9_quarter_68 : decode cX9_quarter 68 = .ok (.iload_n 3, 1) := by decide +kernel
theorem dX9_quarter_69 : decode cX9_quarter 69 = .ok (.ireturn, 1) := by decide +kernel
def f_X9_quarter (N : Nat) (now_height : Nat → Int32) (now_kind : Nat → Int32) (now_figure : Nat → Int32) (now_rail : Nat → Int32) (now_mood : Nat → Int32) (now_shut : Int32) (now_people : Int32) (now_needed : Int32) (now_day : Int32) (mind_height : Nat → Int32) (mind_kind : Nat → Int32) (mind_figure : Nat → Int32) (mind_rail : Nat → Int32) (mind_mood : Nat → Int32) (mind_sight : Nat → Int32) (mind_moving : Int32) (mind_shut : Int32) (mind_people : Int32) (mind_needed : Int32) (mind_day : Int32) (q_elements : Nat → Int32) (q_holds : Int32) (q_sort : Int32) (q_size : Int32) (p1 : Int32) : Option (Int32 × Int32 × Int32 × Int32 × Int32 × (Nat → Int32) × (Nat → Int32) × (Nat → Int32) × (Nat → Int32) × (Nat → Int32) × Int32 × Int32 × Int32 × Int32 × Int32 × (Nat → Int32) × (Nat → Int32) × (Nat → Int32) × (Nat → Int32) × (Nat → Int32) × (Nat → Int32)) := ob (f_X9_refusalOf q_holds p1 (2 : Int32)) (fun r1 => if r1 = 0 then gd (ix p1 8) (if q_sort = 0 then ob (f_X8_become now_height now_kind now_figure now_rail now_mood now_shut now_people now_needed now_day) (fun (y6, y7, y8, y9, y10, y11, y12, y13, y14) => gd (ix p1 8) (ob (f_X6_play N q_elements q_size y10 y11 y12 y13 y14 mind_sight mind_moving y6 y7 y8 y9) (fun (r17, y18, y19, y20, y21, y22, y23, y24, y25, y26, y27, y28) => if r17 < 0 then some (r17, now_shut, now_people, now_needed, now_day, now_height, now_kind, now_figure, now_rail, now_mood, y18, y19, y20, y21, y22, y23, y24, y25, y26, y27, y28) else ob (f_X8_become y23 y24 y25 y26 y27 y19 y20 y21 y22) (fun (y31, y32, y33, y34, y35, y36, y37, y38, y39) => some (r17, y31, y32, y33, y34, y35, y36, y37, y38, y39, y18, y19, y20, y21, y22, y23, y24, y25, y26, y27, y28))))) else nm (-12 : Int32) (fun z41 => some (z41, now_shut, now_people, now_needed, now_day, now_height, now_kind, now_figure, now_rail, now_mood, mind_moving, mind_shut, mind_people, mind_needed, mind_day, mind_height, mind_kind, mind_figure, mind_rail, mind_mood, mind_sight))) else some (r1, now_shut, now_people, now_needed, now_day, now_height, now_kind, now_figure, now_rail, now_mood, mind_moving, mind_shut, mind_people, mind_needed, mind_day, mind_height, mind_kind, mind_figure, mind_rail, mind_mood, mind_sight))
set_option maxHeartbeats 4000000 in
set_option maxRecDepth 100000 in
theorem c_X9_quarter (l : Launch) (E : EE) (b_h : Nat) (now_h : Nat) (mind_h : Nat) (kept_h : Nat) (rails_h : Nat) (sa_h : Nat) (now_a0 : Nat) (now_a1 : Nat) (now_a2 : Nat) (now_a3 : Nat) (now_a4 : Nat) (now_a5 : Nat) (mind_a0 : Nat) (mind_a1 : Nat) (mind_a2 : Nat) (mind_a3 : Nat) (mind_a4 : Nat) (mind_a5 : Nat) (q_h : Nat) (q_a0 : Nat) (b_img : Int32) (now_height : Nat → Int32) (now_kind : Nat → Int32) (now_figure : Nat → Int32) (now_rail : Nat → Int32) (now_mood : Nat → Int32) (now_sight : Nat → Int32) (now_moving : Int32) (now_shut : Int32) (now_people : Int32) (now_needed : Int32) (now_day : Int32) (mind_height : Nat → Int32) (mind_kind : Nat → Int32) (mind_figure : Nat → Int32) (mind_rail : Nat → Int32) (mind_mood : Nat → Int32) (mind_sight : Nat → Int32) (mind_moving : Int32) (mind_shut : Int32) (mind_people : Int32) (mind_needed : Int32) (mind_day : Int32) (sh : Nat → Option Nat) (q_elements : Nat → Int32) (q_holds : Int32) (q_kind : Int32) (q_figure : Int32) (q_sort : Int32) (q_size : Int32) (p1 : Int32) (N : Nat) (res : Int32) (w_now_shut : Int32) (w_now_people : Int32) (w_now_needed : Int32) (w_now_day : Int32) (w_now_height : Nat → Int32) (w_now_kind : Nat → Int32) (w_now_figure : Nat → Int32) (w_now_rail : Nat → Int32) (w_now_mood : Nat → Int32) (w_mind_moving : Int32) (w_mind_shut : Int32) (w_mind_people : Int32) (w_mind_needed : Int32) (w_mind_day : Int32) (w_mind_height : Nat → Int32) (w_mind_kind : Nat → Int32) (w_mind_figure : Nat → Int32) (w_mind_rail : Nat → Int32) (w_mind_mood : Nat → Int32) (w_mind_sight : Nat → Int32) (hsh_p1 : ix p1 8 = true → sh p1.toNatClampNeg = some q_h) (hv : f_X9_quarter N now_height now_kind now_figure now_rail now_mood now_shut now_people now_needed now_day mind_height mind_kind mind_figure mind_rail mind_mood mind_sight mind_moving mind_shut mind_people mind_needed mind_day q_elements q_holds q_sort q_size p1 = some (res, w_now_shut, w_now_people, w_now_needed, w_now_day, w_now_height, w_now_kind, w_now_figure, w_now_rail, w_now_mood, w_mind_moving, w_mind_shut, w_mind_people, w_mind_needed, w_mind_day, w_mind_height, w_mind_kind, w_mind_figure, w_mind_rail, w_mind_mood, w_mind_sight)) : Wr l E yX9_quarter cX9_quarter 4 (some .int) ({ frames := 7, cells := 0, slots := 0, locals := 159 }) [.ref b_h, .int p1] [oBp b_h now_h mind_h kept_h b_img rails_h sa_h, oSt now_h now_a0 now_a1 now_a2 now_a3 now_a4 now_a5 now_moving now_shut now_people now_needed now_day, ai E now_a0 10 now_height, ai E now_a1 7 now_kind, ai E now_a2 7 now_figure, ai E now_a3 7 now_rail, ai E now_a4 7 now_mood, ai E now_a5 7 now_sight, oSt mind_h mind_a0 mind_a1 mind_a2 mind_a3 mind_a4 mind_a5 mind_moving mind_shut mind_people mind_needed mind_day, ai E mind_a0 10 mind_height, ai E mind_a1 7 mind_kind, ai E mind_a2 7 mind_figure, ai E mind_a3 7 mind_rail, ai E mind_a4 7 mind_mood, ai E mind_a5 7 mind_sight, aS E sa_h sh, oSh q_h q_a0 q_holds q_kind q_figure q_sort q_size, ai E q_a0 100 q_elements] [oBp b_h now_h mind_h kept_h b_img rails_h sa_h, oSt now_h now_a0 now_a1 now_a2 now_a3 now_a4 now_a5 now_moving w_now_shut w_now_people w_now_needed w_now_day, ai E now_a0 10 w_now_height, ai E now_a1 7 w_now_kind, ai E now_a2 7 w_now_figure, ai E now_a3 7 w_now_rail, ai E now_a4 7 w_now_mood, ai E now_a5 7 now_sight, oSt mind_h mind_a0 mind_a1 mind_a2 mind_a3 mind_a4 mind_a5 w_mind_moving w_mind_shut w_mind_people w_mind_needed w_mind_day, ai E mind_a0 10 w_mind_height, ai E mind_a1 7 w_mind_kind, ai E mind_a2 7 w_mind_figure, ai E mind_a3 7 w_mind_rail, ai E mind_a4 7 w_mind_mood, ai E mind_a5 7 w_mind_sight, aS E sa_h sh, oSh q_h q_a0 q_holds q_kind q_figure q_sort q_size, ai E q_a0 100 q_elements] (some (.int res)) := by
  refine Wr.intro RX9 (by decide) rfl (Nat.le_of_ble_eq_true rfl) ?_
  intro p e s m below meth c ls A hC hr hlk hmn hP hD hS hA hG hl
  obtain ⟨hx, hb, hml, hown, ht⟩ := id hC
  have hK := hG.1
  have hl : lv_has ls 4 [(0, .ref b_h), (1, .int p1)] := hl
  rw [f_X9_quarter] at hv
  refine lv_aload_n hx hb dX9_quarter_0 rfl (lv_at hl 0 rfl) ?_
  refine lv_iload_n hx hb dX9_quarter_1 rfl (lv_at hl 1 rfl) ?_
  refine lv_iconst (v := (2 : Int32)) hx hb dX9_quarter_2 (by decide) ?_
  obtain ⟨r1, h2, hv⟩ := ob_s hv
  refine rdV 3 0 (As := [.int p1, .int (2 : Int32)]) (rest := []) (st1 := [.int r1]) (w := [oBp b_h now_h mind_h kept_h b_img rails_h sa_h, aS E sa_h sh, oSh q_h q_a0 q_holds q_kind q_figure q_sort q_size, ai E q_a0 100 q_elements]) hC q_X9_refusalOf kw_1_161 (c_X9_refusalOf l E b_h now_h mind_h kept_h rails_h sa_h q_h q_a0 b_img sh q_elements q_holds q_kind q_figure q_sort q_size p1 (2 : Int32) r1 hsh_p1 h2) ⟨rfl, rfl⟩ ⟨Nat.le_of_ble_eq_true rfl, Nat.le_of_ble_eq_true rfl⟩ ⟨Nat.zero_le _, Nat.zero_le _⟩ (hP.sub (ws' := [oBp b_h now_h mind_h kept_h b_img rails_h sa_h, aS E sa_h sh, oSh q_h q_a0 q_holds q_kind q_figure q_sort q_size, ai E q_a0 100 q_elements]) [0, 15, 16, 17] rfl) rfl rfl rfl hG rfl hl.1 rfl (Nat.le_of_ble_eq_true rfl) dX9_quarter_3 rfl ?_
  refine lv_istore_n (lv' := [(2, .int r1), (0, .ref b_h), (1, .int p1)]) hx hb dX9_quarter_6 rfl hl (by decide) rfl (fun ls hl => ?_)
  refine lv_iload_n hx hb dX9_quarter_7 rfl (lv_at hl 0 rfl) ?_
  refine lv_if_eq (tgt := 13) hx hb dX9_quarter_8 (by decide) (fun c3 => ?_) (fun c3 => ?_)
  · have hv := if_y c3 hv
    refine lv_aload_n hx hb dX9_quarter_13 rfl (lv_at hl 1 rfl) ?_
    refine va_get (D := E.1) (ci := 3) (v := .ref sa_h) (C := RX9) (T := TX9) (N := 6) hx hb ht i_X9 hown hK hP 0 rfl rfl 5 (by decide) (ht _ kw_1_143) (fun _ h9 => h9) rfl dX9_quarter_14 ?_
    refine lv_iload_n hx hb dX9_quarter_17 rfl (lv_at hl 2 rfl) ?_
    obtain ⟨g4, hv⟩ := gd_s hv
    refine va_aldq (C := "BalconiesParliament$Shelf") hx hb hK hP 15 1 rfl rfl (ix_s g4) dX9_quarter_18 ?_
    refine W.eq (g2 := F0 m 19 ls [.ref q_h]) (by rw [hsh_p1 g4]; rfl) ?_
    refine va_get (D := E.1) (ci := 1) (v := .int q_sort) (C := RX7) (T := TX7) (N := 6) hx hb ht i_X7 hown hK hP 16 rfl rfl 4 (by decide) (ht _ kw_1_119) (fun _ h9 => h9) rfl dX9_quarter_19 ?_
    refine lv_if_eq (tgt := 28) hx hb dX9_quarter_22 (by decide) (fun c5 => ?_) (fun c5 => ?_)
    · have hv := if_y c5 hv
      refine lv_aload_n hx hb dX9_quarter_28 rfl (lv_at hl 1 rfl) ?_
      refine va_get (D := E.1) (ci := 3) (v := .ref mind_h) (C := RX9) (T := TX9) (N := 6) hx hb ht i_X9 hown hK hP 0 rfl rfl 1 (by decide) (ht _ kw_1_139) (fun _ h9 => h9) rfl dX9_quarter_29 ?_
      refine lv_aload_n hx hb dX9_quarter_32 rfl (lv_at hl 1 rfl) ?_
      refine va_get (D := E.1) (ci := 3) (v := .ref now_h) (C := RX9) (T := TX9) (N := 6) hx hb ht i_X9 hown hK hP 0 rfl rfl 0 (by decide) (ht _ kw_1_138) (fun _ h9 => h9) rfl dX9_quarter_33 ?_
      obtain ⟨⟨y6, y7, y8, y9, y10, y11, y12, y13, y14⟩, h15, hv⟩ := ob_s hv
      refine wrV (as := [b_h, now_h, now_a0, now_a1, now_a2, now_a3, now_a4, now_a5, mind_h, mind_a0, mind_a1, mind_a2, mind_a3, mind_a4, mind_a5, sa_h, q_h, q_a0]) (wr := [oBp b_h now_h mind_h kept_h b_img rails_h sa_h, aS E sa_h sh, oSh q_h q_a0 q_holds q_kind q_figure q_sort q_size, ai E q_a0 100 q_elements]) [8, 9, 10, 11, 12, 13, 14, 1, 2, 3, 4, 5, 6, 7] [0, 15, 16, 17] 2 0 (ws := [oBp b_h now_h mind_h kept_h b_img rails_h sa_h, oSt now_h now_a0 now_a1 now_a2 now_a3 now_a4 now_a5 now_moving now_shut now_people now_needed now_day, ai E now_a0 10 now_height, ai E now_a1 7 now_kind, ai E now_a2 7 now_figure, ai E now_a3 7 now_rail, ai E now_a4 7 now_mood, ai E now_a5 7 now_sight, oSt mind_h mind_a0 mind_a1 mind_a2 mind_a3 mind_a4 mind_a5 mind_moving mind_shut mind_people mind_needed mind_day, ai E mind_a0 10 mind_height, ai E mind_a1 7 mind_kind, ai E mind_a2 7 mind_figure, ai E mind_a3 7 mind_rail, ai E mind_a4 7 mind_mood, ai E mind_a5 7 mind_sight, aS E sa_h sh, oSh q_h q_a0 q_holds q_kind q_figure q_sort q_size, ai E q_a0 100 q_elements]) (ws' := [oBp b_h now_h mind_h kept_h b_img rails_h sa_h, oSt now_h now_a0 now_a1 now_a2 now_a3 now_a4 now_a5 now_moving now_shut now_people now_needed now_day, ai E now_a0 10 now_height, ai E now_a1 7 now_kind, ai E now_a2 7 now_figure, ai E now_a3 7 now_rail, ai E now_a4 7 now_mood, ai E now_a5 7 now_sight, oSt mind_h mind_a0 mind_a1 mind_a2 mind_a3 mind_a4 mind_a5 mind_moving y6 y7 y8 y9, ai E mind_a0 10 y10, ai E mind_a1 7 y11, ai E mind_a2 7 y12, ai E mind_a3 7 y13, ai E mind_a4 7 y14, ai E mind_a5 7 mind_sight, aS E sa_h sh, oSh q_h q_a0 q_holds q_kind q_figure q_sort q_size, ai E q_a0 100 q_elements]) (As := [.ref now_h]) (rest := []) (st1 := []) hC q_X8_become kw_1_171 (c_X8_become l E mind_h mind_a0 mind_a1 mind_a2 mind_a3 mind_a4 mind_a5 now_h now_a0 now_a1 now_a2 now_a3 now_a4 now_a5 mind_height mind_kind mind_figure mind_rail mind_mood mind_sight mind_moving mind_shut mind_people mind_needed mind_day now_height now_kind now_figure now_rail now_mood now_sight now_moving now_shut now_people now_needed now_day y6 y7 y8 y9 y10 y11 y12 y13 y14 h15) ⟨rfl, rfl⟩ ⟨Nat.le_of_ble_eq_true rfl, Nat.le_of_ble_eq_true rfl⟩ ⟨Nat.zero_le _, Nat.zero_le _⟩ hP hD hS hA rfl rfl rfl hG (by decide) rfl rfl rfl rfl rfl rfl rfl rfl hl.1 rfl (Nat.le_of_ble_eq_true rfl) dX9_quarter_36 rfl (fun H locs hP hD hS => ?_)
      refine lv_aload_n hx hb dX9_quarter_39 rfl (lv_at hl 1 rfl) ?_
      refine va_get (D := E.1) (ci := 3) (v := .ref sa_h) (C := RX9) (T := TX9) (N := 6) hx hb ht i_X9 hown hK hP 0 rfl rfl 5 (by decide) (ht _ kw_1_143) (fun _ h9 => h9) rfl dX9_quarter_40 ?_
      refine lv_iload_n hx hb dX9_quarter_43 rfl (lv_at hl 2 rfl) ?_
      obtain ⟨g16, hv⟩ := gd_s hv
      refine va_aldq (C := "BalconiesParliament$Shelf") hx hb hK hP 15 1 rfl rfl (ix_s g16) dX9_quarter_44 ?_
      refine W.eq (g2 := F0 m 45 ls [.ref q_h]) (by rw [hsh_p1 g16]; rfl) ?_
      refine lv_aload_n hx hb dX9_quarter_45 rfl (lv_at hl 1 rfl) ?_
      refine va_get (D := E.1) (ci := 3) (v := .ref mind_h) (C := RX9) (T := TX9) (N := 6) hx hb ht i_X9 hown hK hP 0 rfl rfl 1 (by decide) (ht _ kw_1_139) (fun _ h9 => h9) rfl dX9_quarter_46 ?_
      obtain ⟨⟨r17, y18, y19, y20, y21, y22, y23, y24, y25, y26, y27, y28⟩, h29, hv⟩ := ob_s hv
      refine wrS (as := [b_h, now_h, now_a0, now_a1, now_a2, now_a3, now_a4, now_a5, mind_h, mind_a0, mind_a1, mind_a2, mind_a3, mind_a4, mind_a5, sa_h, q_h, q_a0]) (wr := [oBp b_h now_h mind_h kept_h b_img rails_h sa_h, oSt now_h now_a0 now_a1 now_a2 now_a3 now_a4 now_a5 now_moving now_shut now_people now_needed now_day, ai E now_a0 10 now_height, ai E now_a1 7 now_kind, ai E now_a2 7 now_figure, ai E now_a3 7 now_rail, ai E now_a4 7 now_mood, ai E now_a5 7 now_sight, aS E sa_h sh]) [16, 17, 8, 9, 10, 11, 12, 13, 14] [0, 1, 2, 3, 4, 5, 6, 7, 15] (ws := [oBp b_h now_h mind_h kept_h b_img rails_h sa_h, oSt now_h now_a0 now_a1 now_a2 now_a3 now_a4 now_a5 now_moving now_shut now_people now_needed now_day, ai E now_a0 10 now_height, ai E now_a1 7 now_kind, ai E now_a2 7 now_figure, ai E now_a3 7 now_rail, ai E now_a4 7 now_mood, ai E now_a5 7 now_sight, oSt mind_h mind_a0 mind_a1 mind_a2 mind_a3 mind_a4 mind_a5 mind_moving y6 y7 y8 y9, ai E mind_a0 10 y10, ai E mind_a1 7 y11, ai E mind_a2 7 y12, ai E mind_a3 7 y13, ai E mind_a4 7 y14, ai E mind_a5 7 mind_sight, aS E sa_h sh, oSh q_h q_a0 q_holds q_kind q_figure q_sort q_size, ai E q_a0 100 q_elements]) (ws' := [oBp b_h now_h mind_h kept_h b_img rails_h sa_h, oSt now_h now_a0 now_a1 now_a2 now_a3 now_a4 now_a5 now_moving now_shut now_people now_needed now_day, ai E now_a0 10 now_height, ai E now_a1 7 now_kind, ai E now_a2 7 now_figure, ai E now_a3 7 now_rail, ai E now_a4 7 now_mood, ai E now_a5 7 now_sight, oSt mind_h mind_a0 mind_a1 mind_a2 mind_a3 mind_a4 mind_a5 y18 y19 y20 y21 y22, ai E mind_a0 10 y23, ai E mind_a1 7 y24, ai E mind_a2 7 y25, ai E mind_a3 7 y26, ai E mind_a4 7 y27, ai E mind_a5 7 y28, aS E sa_h sh, oSh q_h q_a0 q_holds q_kind q_figure q_sort q_size, ai E q_a0 100 q_elements]) (rest := []) (st1 := [.int r17]) hC q_X6_play kw_1_178 (c_X6_play l E q_h q_a0 mind_h mind_a0 mind_a1 mind_a2 mind_a3 mind_a4 mind_a5 q_elements q_holds q_kind q_figure q_sort q_size y10 y11 y12 y13 y14 mind_sight mind_moving y6 y7 y8 y9 N r17 y18 y19 y20 y21 y22 y23 y24 y25 y26 y27 y28 h29) ⟨rfl, rfl⟩ ⟨Nat.le_of_ble_eq_true rfl, Nat.le_of_ble_eq_true rfl⟩ ⟨Nat.zero_le _, Nat.zero_le _⟩ hP hD hS hA hG (by decide) rfl rfl rfl rfl rfl rfl rfl rfl hl.1 rfl (Nat.le_of_ble_eq_true rfl) dX9_quarter_49 rfl (fun H locs hP hD hS => ?_)
      refine lv_istore_n (lv' := [(3, .int r17), (2, .int r1), (0, .ref b_h), (1, .int p1)]) hx hb dX9_quarter_52 rfl hl (by decide) rfl (fun ls hl => ?_)
      refine lv_iload_n hx hb dX9_quarter_53 rfl (lv_at hl 0 rfl) ?_
      refine lv_if_lt (tgt := 68) hx hb dX9_quarter_54 (by decide) (fun c30 => ?_) (fun c30 => ?_)
      · have hv := if_y c30 hv
        refine lv_iload_n hx hb dX9_quarter_68 rfl (lv_at hl 0 rfl) ?_
        cases hv
        exact W.iret hx hb hr (fun t h9 _ => ⟨rfl, by rw [h9]; exact hP, hS.F h9⟩) hS.2.2 dX9_quarter_69 hlk
      · have hv := if_n c30 hv
        refine lv_aload_n hx hb dX9_quarter_57 rfl (lv_at hl 2 rfl) ?_
        refine va_get (D := E.1) (ci := 3) (v := .ref now_h) (C := RX9) (T := TX9) (N := 6) hx hb ht i_X9 hown hK hP 0 rfl rfl 0 (by decide) (ht _ kw_1_138) (fun _ h9 => h9) rfl dX9_quarter_58 ?_
        refine lv_aload_n hx hb dX9_quarter_61 rfl (lv_at hl 2 rfl) ?_
        refine va_get (D := E.1) (ci := 3) (v := .ref mind_h) (C := RX9) (T := TX9) (N := 6) hx hb ht i_X9 hown hK hP 0 rfl rfl 1 (by decide) (ht _ kw_1_139) (fun _ h9 => h9) rfl dX9_quarter_62 ?_
        obtain ⟨⟨y31, y32, y33, y34, y35, y36, y37, y38, y39⟩, h40, hv⟩ := ob_s hv
        refine wrV (as := [b_h, now_h, now_a0, now_a1, now_a2, now_a3, now_a4, now_a5, mind_h, mind_a0, mind_a1, mind_a2, mind_a3, mind_a4, mind_a5, sa_h, q_h, q_a0]) (wr := [oBp b_h now_h mind_h kept_h b_img rails_h sa_h, aS E sa_h sh, oSh q_h q_a0 q_holds q_kind q_figure q_sort q_size, ai E q_a0 100 q_elements]) [1, 2, 3, 4, 5, 6, 7, 8, 9, 10, 11, 12, 13, 14] [0, 15, 16, 17] 2 0 (ws := [oBp b_h now_h mind_h kept_h b_img rails_h sa_h, oSt now_h now_a0 now_a1 now_a2 now_a3 now_a4 now_a5 now_moving now_shut now_people now_needed now_day, ai E now_a0 10 now_height, ai E now_a1 7 now_kind, ai E now_a2 7 now_figure, ai E now_a3 7 now_rail, ai E now_a4 7 now_mood, ai E now_a5 7 now_sight, oSt mind_h mind_a0 mind_a1 mind_a2 mind_a3 mind_a4 mind_a5 y18 y19 y20 y21 y22, ai E mind_a0 10 y23, ai E mind_a1 7 y24, ai E mind_a2 7 y25, ai E mind_a3 7 y26, ai E mind_a4 7 y27, ai E mind_a5 7 y28, aS E sa_h sh, oSh q_h q_a0 q_holds q_kind q_figure q_sort q_size, ai E q_a0 100 q_elements]) (ws' := [oBp b_h now_h mind_h kept_h b_img rails_h sa_h, oSt now_h now_a0 now_a1 now_a2 now_a3 now_a4 now_a5 now_moving y31 y32 y33 y34, ai E now_a0 10 y35, ai E now_a1 7 y36, ai E now_a2 7 y37, ai E now_a3 7 y38, ai E now_a4 7 y39, ai E now_a5 7 now_sight, oSt mind_h mind_a0 mind_a1 mind_a2 mind_a3 mind_a4 mind_a5 y18 y19 y20 y21 y22, ai E mind_a0 10 y23, ai E mind_a1 7 y24, ai E mind_a2 7 y25, ai E mind_a3 7 y26, ai E mind_a4 7 y27, ai E mind_a5 7 y28, aS E sa_h sh, oSh q_h q_a0 q_holds q_kind q_figure q_sort q_size, ai E q_a0 100 q_elements]) (As := [.ref mind_h]) (rest := []) (st1 := []) hC q_X8_become kw_1_171 (c_X8_become l E now_h now_a0 now_a1 now_a2 now_a3 now_a4 now_a5 mind_h mind_a0 mind_a1 mind_a2 mind_a3 mind_a4 mind_a5 now_height now_kind now_figure now_rail now_mood now_sight now_moving now_shut now_people now_needed now_day y23 y24 y25 y26 y27 y28 y18 y19 y20 y21 y22 y31 y32 y33 y34 y35 y36 y37 y38 y39 h40) ⟨rfl, rfl⟩ ⟨Nat.le_of_ble_eq_true rfl, Nat.le_of_ble_eq_true rfl⟩ ⟨Nat.zero_le _, Nat.zero_le _⟩ hP hD hS hA rfl rfl rfl hG (by decide) rfl rfl rfl rfl rfl rfl rfl rfl hl.1 rfl (Nat.le_of_ble_eq_true rfl) dX9_quarter_65 rfl (fun H locs hP hD hS => ?_)
        refine lv_iload_n hx hb dX9_quarter_68 rfl (lv_at hl 0 rfl) ?_
        cases hv
        exact W.iret hx hb hr (fun t h9 _ => ⟨rfl, by rw [h9]; exact hP, hS.F h9⟩) hS.2.2 dX9_quarter_69 hlk
    · have hv := if_n c5 hv
      refine lv_bipush (v := (-12 : Int32)) hx hb dX9_quarter_25 (by decide) ?_
      refine lv_topi (fun z41 ez41 => ?_)
      have hv := nm_s ez41 hv
      cases hv
      exact W.iret hx hb hr (fun t h9 _ => ⟨rfl, by rw [h9]; exact hP, hS.F h9⟩) hS.2.2 dX9_quarter_27 hlk
  · have hv := if_n c3 hv
    refine lv_iload_n hx hb dX9_quarter_11 rfl (lv_at hl 0 rfl) ?_
    cases hv
    exact W.iret hx hb hr (fun t h9 _ => ⟨rfl, by rw [h9]; exact hP, hS.F h9⟩) hS.2.2 dX9_quarter_12 hlk
