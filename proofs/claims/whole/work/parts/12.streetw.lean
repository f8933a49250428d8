theorem dX8_become_0 : decode cX8_become 0 = .ok (.aload_n 1, 1) := by decide +kernel
theorem dX8_become_1 : decode cX8_become 1 = .ok (.getfield 9, 3) := by decide +kernel
theorem dX8_become_4 : decode cX8_become 4 = .ok (.iconst 0, 1) := by decide +kernel
theorem dX8_become_5 : decode cX8_become 5 = .ok (.aload_n 0, 1) := by decide +kernel
theorem dX8_become_6 : decode cX8_become 6 = .ok (.getfield 9, 3) := by decide +kernel
theorem dX8_become_9 : decode cX8_become 9 = .ok (.iconst 0, 1) := by decide +kernel
theorem dX8_become_10 : decode cX8_become 10 = .ok (.bipush 10, 2) := by decide +kernel
theorem dX8_become_12 : decode cX8_become 12 = .ok (.invokestatic 34, 3) := by decide +kernel
theorem dX8_become_15 : decode cX8_become 15 = .ok (.aload_n 1, 1) := by decide +kernel
theorem dX8_become_16 : decode cX8_become 16 = .ok (.getfield 15, 3) := by decide +kernel
theorem dX8_become_19 : decode cX8_become 19 = .ok (.iconst 0, 1) := by decide +kernel
theorem dX8_become_20 : decode cX8_become 20 = .ok (.aload_n 0, 1) := by decide +kernel
theorem dX8_become_21 : decode cX8_become 21 = .ok (.getfield 15, 3) := by decide +kernel
theorem dX8_become_24 : decode cX8_become 24 = .ok (.iconst 0, 1) := by decide +kernel
theorem dX8_become_25 : decode cX8_become 25 = .ok (.bipush 7, 2) := by decide +kernel
theorem dX8_become_27 : decode cX8_become 27 = .ok (.invokestatic 34, 3) := by decide +kernel
theorem dX8_become_30 : decode cX8_become 30 = .ok (.aload_n 1, 1) := by decide +kernel
theorem dX8_become_31 : decode cX8_become 31 = .ok (.getfield 18, 3) := by decide +kernel
theorem dX8_become_34 : decode cX8_become 34 = .ok (.iconst 0, 1) := by decide +kernel
theorem dX8_become_35 : decode cX8_become 35 = .ok (.aload_n 0, 1) := by decide +kernel
theorem dX8_become_36 : decode cX8_become 36 = .ok (.getfield 18, 3) := by decide +kernel
theorem dX8_become_39 : decode cX8_become 39 = .ok (.iconst 0, 1) := by decide +kernel
theorem dX8_become_40 : decode cX8_become 40 = .ok (.bipush 7, 2) := by decide +kernel
theorem dX8_become_42 : decode cX8_become 42 = .ok (.invokestatic 34, 3) := by decide +kernel
theorem dX8_become_45 : decode cX8_become 45 = .ok (.aload_n 1, 1) := by decide +kernel
theorem dX8_become_46 : decode cX8_become 46 = .ok (.getfield 21, 3) := by decide +kernel
theorem dX8_become_49 : decode cX8_become 49 = .ok (.iconst 0, 1) := by decide +kernel
theorem dX8_become_50 : decode cX8_become 50 = .ok (.aload_n 0, 1) := by decide +kernel
theorem dX8_become_51 : decode cX8_become 51 = .ok (.getfield 21, 3) := by decide +kernel
theorem dX8_become_54 : decode cX8_become 54 = .ok (.iconst 0, 1) := by decide +kernel
theorem dX8_become_55 : decode cX8_become 55 = .ok (.bipush 7, 2) := by decide +kernel
theorem dX8_become_57 : decode cX8_become 57 = .ok (.invokestatic 34, 3) := by decide +kernel
theorem dX8_become_60 : decode cX8_become 60 = .ok (.aload_n 1, 1) := by decide +kernel
theorem dX8_become_61 : decode cX8_become 61 = .ok (.getfield 24, 3) := by decide +kernel
theorem dX8_become_64 : decode cX8_become 64 = .ok (.iconst 0, 1) := by decide +kernel
theorem dX8_become_65 : decode cX8_become 65 = .ok (.aload_n 0, 1) := by decide +kernel
theorem dX8_become_66 : decode cX8_become 66 = .ok (.getfield 24, 3) := by decide +kernel
theorem dX8_become_69 : decode cX8_become 69 = .ok (.iconst 0, 1) := by decide +kernel
theorem dX8_become_70 : decode cX8_become 70 = .ok (.bipush 7, 2) := by decide +kernel
theorem dX8_become_72 : decode cX8_become 72 = .ok (.invokestatic 34, 3) := by decide +kernel
theorem dX8_become_75 : decode cX8_become 75 = .ok (.aload_n 0, 1) := by decide +kernel
theorem dX8_become_76 : decode cX8_become 76 = .ok (.aload_n 1, 1) := by decide +kernel
theorem dX8_become_77 : decode cX8_become 77 = .ok (.getfield 40, 3) := by decide +kernel
theorem dX8_become_80 : decode cX8_become 80 = .ok (.putfield 40, 3) := by decide +kernel
theorem dX8_become_83 : decode cX8_become 83 = .ok (.aload_n 0, 1) := by decide +kernel
theorem dX8_become_84 : decode cX8_become 84 = .ok (.aload_n 1, 1) := by decide +kernel
theorem dX8_become_85 : decode cX8_become 85 = .ok (.getfield 43, 3) := by decide +kernel
theorem dX8_become_88 : decode cX8_become 88 = .ok (.putfield 43, 3) := by decide +kernel
theorem dX8_become_91 : decode cX8_become 91 = .ok (.aload_n 0, 1) := by decide +kernel
theorem dX8_become_92 : decode cX8_become 92 = .ok (.aload_n 1, 1) := by decide +kernel
theorem dX8_become_93 : decode cX8_become 93 = .ok (.getfield 30, 3) := by decide +kernel
theorem dX8_become_96 : decode cX8_become 96 = .ok (.putfield 30, 3) := by decide +kernel
theorem dX8_become_99 : decode cX8_become 99 = .ok (.aload_n 0, 1) := by decide +kernel
theorem dX8_become_100 : decode cX8_become 100 = .ok (.aload_n 1, 1) := by decide +kernel
theorem dX8_become_101 : decode cX8_become 101 = .ok (.getfield 46, 3) := by decide +kernel
theorem dX8_become_104 : decode cX8_become 104 = .ok (.putfield 46, 3) := by decide +kernel
theorem dX8_become_107 : decode cX8_become 107 = .ok (.return_, 1) := by decide +kernel
def f_X8_become (a_height : Nat → Int32) (a_kind : Nat → Int32) (a_figure : Nat → Int32) (a_rail : Nat → Int32) (a_mood : Nat → Int32) (a_shut : Int32) (a_people : Int32) (a_needed : Int32) (a_day : Int32) : Option (Int32 × Int32 × Int32 × Int32 × (Nat → Int32) × (Nat → Int32) × (Nat → Int32) × (Nat → Int32) × (Nat → Int32)) := some (a_shut, a_people, a_needed, a_day, a_height, a_kind, a_figure, a_rail, a_mood)
set_option maxHeartbeats 4000000 in
set_option maxRecDepth 100000 in
theorem c_X8_become (l : Launch) (E : EE) (t_h : Nat) (t_a0 : Nat) (t_a1 : Nat) (t_a2 : Nat) (t_a3 : Nat) (t_a4 : Nat) (t_a5 : Nat) (a_h : Nat) (a_a0 : Nat) (a_a1 : Nat) (a_a2 : Nat) (a_a3 : Nat) (a_a4 : Nat) (a_a5 : Nat) (t_height : Nat → Int32) (t_kind : Nat → Int32) (t_figure : Nat → Int32) (t_rail : Nat → Int32) (t_mood : Nat → Int32) (t_sight : Nat → Int32) (t_moving : Int32) (t_shut : Int32) (t_people : Int32) (t_needed : Int32) (t_day : Int32) (a_height : Nat → Int32) (a_kind : Nat → Int32) (a_figure : Nat → Int32) (a_rail : Nat → Int32) (a_mood : Nat → Int32) (a_sight : Nat → Int32) (a_moving : Int32) (a_shut : Int32) (a_people : Int32) (a_needed : Int32) (a_day : Int32) (w_t_shut : Int32) (w_t_people : Int32) (w_t_needed : Int32) (w_t_day : Int32) (w_t_height : Nat → Int32) (w_t_kind : Nat → Int32) (w_t_figure : Nat → Int32) (w_t_rail : Nat → Int32) (w_t_mood : Nat → Int32) (hv : f_X8_become a_height a_kind a_figure a_rail a_mood a_shut a_people a_needed a_day = some (w_t_shut, w_t_people, w_t_needed, w_t_day, w_t_height, w_t_kind, w_t_figure, w_t_rail, w_t_mood)) : Wr l E yX8_become cX8_become 2 none ({ frames := 1, cells := 0, slots := 0, locals := 40 }) [.ref t_h, .ref a_h] [oSt t_h t_a0 t_a1 t_a2 t_a3 t_a4 t_a5 t_moving t_shut t_people t_needed t_day, ai E t_a0 10 t_height, ai E t_a1 7 t_kind, ai E t_a2 7 t_figure, ai E t_a3 7 t_rail, ai E t_a4 7 t_mood, ai E t_a5 7 t_sight, oSt a_h a_a0 a_a1 a_a2 a_a3 a_a4 a_a5 a_moving a_shut a_people a_needed a_day, ai E a_a0 10 a_height, ai E a_a1 7 a_kind, ai E a_a2 7 a_figure, ai E a_a3 7 a_rail, ai E a_a4 7 a_mood, ai E a_a5 7 a_sight] [oSt t_h t_a0 t_a1 t_a2 t_a3 t_a4 t_a5 t_moving w_t_shut w_t_people w_t_needed w_t_day, ai E t_a0 10 w_t_height, ai E t_a1 7 w_t_kind, ai E t_a2 7 w_t_figure, ai E t_a3 7 w_t_rail, ai E t_a4 7 w_t_mood, ai E t_a5 7 t_sight, oSt a_h a_a0 a_a1 a_a2 a_a3 a_a4 a_a5 a_moving a_shut a_people a_needed a_day, ai E a_a0 10 a_height, ai E a_a1 7 a_kind, ai E a_a2 7 a_figure, ai E a_a3 7 a_rail, ai E a_a4 7 a_mood, ai E a_a5 7 a_sight] none := by
  refine Wr.intro RX8 (by decide) rfl (Nat.le_of_ble_eq_true rfl) ?_
  intro p e s m below meth c ls A hC hr hlk hmn hP hD hS hA hG hl
  obtain ⟨hx, hb, hml, hown, ht⟩ := id hC
  have hK := hG.1
  have hl : lv_has ls 2 [(0, .ref t_h), (1, .ref a_h)] := hl
  rw [f_X8_become] at hv
  refine lv_aload_n hx hb dX8_become_0 rfl (lv_at hl 1 rfl) ?_
  refine va_get (D := E.1) (ci := 2) (v := .ref a_a0) (C := RX8) (T := TX8) (N := 11) hx hb ht i_X8 hown hK hP 7 rfl rfl 0 (by decide) (ht _ kw_1_35) (fun _ h9 => h9) rfl dX8_become_1 ?_
  refine lv_iconst (v := (0 : Int32)) hx hb dX8_become_4 (by decide) ?_
  refine lv_aload_n hx hb dX8_become_5 rfl (lv_at hl 0 rfl) ?_
  refine va_get (D := E.1) (ci := 2) (v := .ref t_a0) (C := RX8) (T := TX8) (N := 11) hx hb ht i_X8 hown hK hP 0 rfl rfl 0 (by decide) (ht _ kw_1_35) (fun _ h9 => h9) rfl dX8_become_6 ?_
  refine lv_iconst (v := (0 : Int32)) hx hb dX8_become_9 (by decide) ?_
  refine lv_bipush (v := (10 : Int32)) hx hb dX8_become_10 (by decide) ?_
  refine va_copyi (ty := .int) hx hb (by rw [hml]; exact hl.1.symm) hown (ht _ kw_1_175) (ht _ kw_1_177) (ht _ kw_1_176) (ht _ kw_1_6) hK hP hD hS 8 1 0 0 rfl rfl rfl rfl rfl (by decide) (by decide) (by decide) (Nat.le_of_ble_eq_true rfl) (Nat.le_of_ble_eq_true rfl) (fun _ _ => rfl) (Nat.le_of_ble_eq_true rfl) (Nat.le_of_ble_eq_true rfl) dX8_become_12 (fun H locs hP hD hS => ?_)
  have hP : va_P E.1 vwCl [oSt t_h t_a0 t_a1 t_a2 t_a3 t_a4 t_a5 t_moving t_shut t_people t_needed t_day, ai E t_a0 10 a_height, ai E t_a1 7 t_kind, ai E t_a2 7 t_figure, ai E t_a3 7 t_rail, ai E t_a4 7 t_mood, ai E t_a5 7 t_sight, oSt a_h a_a0 a_a1 a_a2 a_a3 a_a4 a_a5 a_moving a_shut a_people a_needed a_day, ai E a_a0 10 a_height, ai E a_a1 7 a_kind, ai E a_a2 7 a_figure, ai E a_a3 7 a_rail, ai E a_a4 7 a_mood, ai E a_a5 7 a_sight] H := va_P_full (n := 10) 1 hP rfl rfl
  have hD : va_D A [oSt t_h t_a0 t_a1 t_a2 t_a3 t_a4 t_a5 t_moving t_shut t_people t_needed t_day, ai E t_a0 10 a_height, ai E t_a1 7 t_kind, ai E t_a2 7 t_figure, ai E t_a3 7 t_rail, ai E t_a4 7 t_mood, ai E t_a5 7 t_sight, oSt a_h a_a0 a_a1 a_a2 a_a3 a_a4 a_a5 a_moving a_shut a_people a_needed a_day, ai E a_a0 10 a_height, ai E a_a1 7 a_kind, ai E a_a2 7 a_figure, ai E a_a3 7 a_rail, ai E a_a4 7 a_mood, ai E a_a5 7 a_sight] := va_D_set 1 hD rfl rfl
  refine lv_aload_n hx hb dX8_become_15 rfl (lv_at hl 1 rfl) ?_
  refine va_get (D := E.1) (ci := 2) (v := .ref a_a1) (C := RX8) (T := TX8) (N := 11) hx hb ht i_X8 hown hK hP 7 rfl rfl 1 (by decide) (ht _ kw_1_39) (fun _ h9 => h9) rfl dX8_become_16 ?_
  refine lv_iconst (v := (0 : Int32)) hx hb dX8_become_19 (by decide) ?_
  refine lv_aload_n hx hb dX8_become_20 rfl (lv_at hl 0 rfl) ?_
  refine va_get (D := E.1) (ci := 2) (v := .ref t_a1) (C := RX8) (T := TX8) (N := 11) hx hb ht i_X8 hown hK hP 0 rfl rfl 1 (by decide) (ht _ kw_1_39) (fun _ h9 => h9) rfl dX8_become_21 ?_
  refine lv_iconst (v := (0 : Int32)) hx hb dX8_become_24 (by decide) ?_
  refine lv_bipush (v := (7 : Int32)) hx hb dX8_become_25 (by decide) ?_
  refine va_copyi (ty := .int) hx hb (by rw [hml]; exact hl.1.symm) hown (ht _ kw_1_175) (ht _ kw_1_177) (ht _ kw_1_176) (ht _ kw_1_6) hK hP hD hS 9 2 0 0 rfl rfl rfl rfl rfl (by decide) (by decide) (by decide) (Nat.le_of_ble_eq_true rfl) (Nat.le_of_ble_eq_true rfl) (fun _ _ => rfl) (Nat.le_of_ble_eq_true rfl) (Nat.le_of_ble_eq_true rfl) dX8_become_27 (fun H locs hP hD hS => ?_)
  have hP : va_P E.1 vwCl [oSt t_h t_a0 t_a1 t_a2 t_a3 t_a4 t_a5 t_moving t_shut t_people t_needed t_day, ai E t_a0 10 a_height, ai E t_a1 7 a_kind, ai E t_a2 7 t_figure, ai E t_a3 7 t_rail, ai E t_a4 7 t_mood, ai E t_a5 7 t_sight, oSt a_h a_a0 a_a1 a_a2 a_a3 a_a4 a_a5 a_moving a_shut a_people a_needed a_day, ai E a_a0 10 a_height, ai E a_a1 7 a_kind, ai E a_a2 7 a_figure, ai E a_a3 7 a_rail, ai E a_a4 7 a_mood, ai E a_a5 7 a_sight] H := va_P_full (n := 7) 2 hP rfl rfl
  have hD : va_D A [oSt t_h t_a0 t_a1 t_a2 t_a3 t_a4 t_a5 t_moving t_shut t_people t_needed t_day, ai E t_a0 10 a_height, ai E t_a1 7 a_kind, ai E t_a2 7 t_figure, ai E t_a3 7 t_rail, ai E t_a4 7 t_mood, ai E t_a5 7 t_sight, oSt a_h a_a0 a_a1 a_a2 a_a3 a_a4 a_a5 a_moving a_shut a_people a_needed a_day, ai E a_a0 10 a_height, ai E a_a1 7 a_kind, ai E a_a2 7 a_figure, ai E a_a3 7 a_rail, ai E a_a4 7 a_mood, ai E a_a5 7 a_sight] := va_D_set 2 hD rfl rfl
  refine lv_aload_n hx hb dX8_become_30 rfl (lv_at hl 1 rfl) ?_
  refine va_get (D := E.1) (ci := 2) (v := .ref a_a2) (C := RX8) (T := TX8) (N := 11) hx hb ht i_X8 hown hK hP 7 rfl rfl 2 (by decide) (ht _ kw_1_41) (fun _ h9 => h9) rfl dX8_become_31 ?_
  refine lv_iconst (v := (0 : Int32)) hx hb dX8_become_34 (by decide) ?_
  refine lv_aload_n hx hb dX8_become_35 rfl (lv_at hl 0 rfl) ?_
  refine va_get (D := E.1) (ci := 2) (v := .ref t_a2) (C := RX8) (T := TX8) (N := 11) hx hb ht i_X8 hown hK hP 0 rfl rfl 2 (by decide) (ht _ kw_1_41) (fun _ h9 => h9) rfl dX8_become_36 ?_
  refine lv_iconst (v := (0 : Int32)) hx hb dX8_become_39 (by decide) ?_
  refine lv_bipush (v := (7 : Int32)) hx hb dX8_become_40 (by decide) ?_
  refine va_copyi (ty := .int) hx hb (by rw [hml]; exact hl.1.symm) hown (ht _ kw_1_175) (ht _ kw_1_177) (ht _ kw_1_176) (ht _ kw_1_6) hK hP hD hS 10 3 0 0 rfl rfl rfl rfl rfl (by decide) (by decide) (by decide) (Nat.le_of_ble_eq_true rfl) (Nat.le_of_ble_eq_true rfl) (fun _ _ => rfl) (Nat.le_of_ble_eq_true rfl) (Nat.le_of_ble_eq_true rfl) dX8_become_42 (fun H locs hP hD hS => ?_)
  have hP : va_P E.1 vwCl [oSt t_h t_a0 t_a1 t_a2 t_a3 t_a4 t_a5 t_moving t_shut t_people t_needed t_day, ai E t_a0 10 a_height, ai E t_a1 7 a_kind, ai E t_a2 7 a_figure, ai E t_a3 7 t_rail, ai E t_a4 7 t_mood, ai E t_a5 7 t_sight, oSt a_h a_a0 a_a1 a_a2 a_a3 a_a4 a_a5 a_moving a_shut a_people a_needed a_day, ai E a_a0 10 a_height, ai E a_a1 7 a_kind, ai E a_a2 7 a_figure, ai E a_a3 7 a_rail, ai E a_a4 7 a_mood, ai E a_a5 7 a_sight] H := va_P_full (n := 7) 3 hP rfl rfl
  have hD : va_D A [oSt t_h t_a0 t_a1 t_a2 t_a3 t_a4 t_a5 t_moving t_shut t_people t_needed t_day, ai E t_a0 10 a_height, ai E t_a1 7 a_kind, ai E t_a2 7 a_figure, ai E t_a3 7 t_rail, ai E t_a4 7 t_mood, ai E t_a5 7 t_sight, oSt a_h a_a0 a_a1 a_a2 a_a3 a_a4 a_a5 a_moving a_shut a_people a_needed a_day, ai E a_a0 10 a_height, ai E a_a1 7 a_kind, ai E a_a2 7 a_figure, ai E a_a3 7 a_rail, ai E a_a4 7 a_mood, ai E a_a5 7 a_sight] := va_D_set 3 hD rfl rfl
  refine lv_aload_n hx hb dX8_become_45 rfl (lv_at hl 1 rfl) ?_
  refine va_get (D := E.1) (ci := 2) (v := .ref a_a3) (C := RX8) (T := TX8) (N := 11) hx hb ht i_X8 hown hK hP 7 rfl rfl 3 (by decide) (ht _ kw_1_43) (fun _ h9 => h9) rfl dX8_become_46 ?_
  refine lv_iconst (v := (0 : Int32)) hx hb dX8_become_49 (by decide) ?_
  refine lv_aload_n hx hb dX8_become_50 rfl (lv_at hl 0 rfl) ?_
  refine va_get (D := E.1) (ci := 2) (v := .ref t_a3) (C := RX8) (T := TX8) (N := 11) hx hb ht i_X8 hown hK hP 0 rfl rfl 3 (by decide) (ht _ kw_1_43) (fun _ h9 => h9) rfl dX8_become_51 ?_
  refine lv_iconst (v := (0 : Int32)) hx hb dX8_become_54 (by decide) ?_
  refine lv_bipush (v := (7 : Int32)) hx hb dX8_become_55 (by decide) ?_
  refine va_copyi (ty := .int) hx hb (by rw [hml]; exact hl.1.symm) hown (ht _ kw_1_175) (ht _ kw_1_177) (ht _ kw_1_176) (ht _ kw_1_6) hK hP hD hS 11 4 0 0 rfl rfl rfl rfl rfl (by decide) (by decide) (by decide) (Nat.le_of_ble_eq_true rfl) (Nat.le_of_ble_eq_true rfl) (fun _ _ => rfl) (Nat.le_of_ble_eq_true rfl) (Nat.le_of_ble_eq_true rfl) dX8_become_57 (fun H locs hP hD hS => ?_)
  have hP : va_P E.1 vwCl [oSt t_h t_a0 t_a1 t_a2 t_a3 t_a4 t_a5 t_moving t_shut t_people t_needed t_day, ai E t_a0 10 a_height, ai E t_a1 7 a_kind, ai E t_a2 7 a_figure, ai E t_a3 7 a_rail, ai E t_a4 7 t_mood, ai E t_a5 7 t_sight, oSt a_h a_a0 a_a1 a_a2 a_a3 a_a4 a_a5 a_moving a_shut a_people a_needed a_day, ai E a_a0 10 a_height, ai E a_a1 7 a_kind, ai E a_a2 7 a_figure, ai E a_a3 7 a_rail, ai E a_a4 7 a_mood, ai E a_a5 7 a_sight] H := va_P_full (n := 7) 4 hP rfl rfl
  have hD : va_D A [oSt t_h t_a0 t_a1 t_a2 t_a3 t_a4 t_a5 t_moving t_shut t_people t_needed t_day, ai E t_a0 10 a_height, ai E t_a1 7 a_kind, ai E t_a2 7 a_figure, ai E t_a3 7 a_rail, ai E t_a4 7 t_mood, ai E t_a5 7 t_sight, oSt a_h a_a0 a_a1 a_a2 a_a3 a_a4 a_a5 a_moving a_shut a_people a_needed a_day, ai E a_a0 10 a_height, ai E a_a1 7 a_kind, ai E a_a2 7 a_figure, ai E a_a3 7 a_rail, ai E a_a4 7 a_mood, ai E a_a5 7 a_sight] := va_D_set 4 hD rfl rfl
  refine lv_aload_n hx hb dX8_become_60 rfl (lv_at hl 1 rfl) ?_
  refine va_get (D := E.1) (ci := 2) (v := .ref a_a4) (C := RX8) (T := TX8) (N := 11) hx hb ht i_X8 hown hK hP 7 rfl rfl 4 (by decide) (ht _ kw_1_45) (fun _ h9 => h9) rfl dX8_become_61 ?_
  refine lv_iconst (v := (0 : Int32)) hx hb dX8_become_64 (by decide) ?_
  refine lv_aload_n hx hb dX8_become_65 rfl (lv_at hl 0 rfl) ?_
  refine va_get (D := E.1) (ci := 2) (v := .ref t_a4) (C := RX8) (T := TX8) (N := 11) hx hb ht i_X8 hown hK hP 0 rfl rfl 4 (by decide) (ht _ kw_1_45) (fun _ h9 => h9) rfl dX8_become_66 ?_
  refine lv_iconst (v := (0 : Int32)) hx hb dX8_become_69 (by decide) ?_
  refine lv_bipush (v := (7 : Int32)) hx hb dX8_become_70 (by decide) ?_
  refine va_copyi (ty := .int) hx hb (by rw [hml]; exact hl.1.symm) hown (ht _ kw_1_175) (ht _ kw_1_177) (ht _ kw_1_176) (ht _ kw_1_6) hK hP hD hS 12 5 0 0 rfl rfl rfl rfl rfl (by decide) (by decide) (by decide) (Nat.le_of_ble_eq_true rfl) (Nat.le_of_ble_eq_true rfl) (fun _ _ => rfl) (Nat.le_of_ble_eq_true rfl) (Nat.le_of_ble_eq_true rfl) dX8_become_72 (fun H locs hP hD hS => ?_)
  have hP : va_P E.1 vwCl [oSt t_h t_a0 t_a1 t_a2 t_a3 t_a4 t_a5 t_moving t_shut t_people t_needed t_day, ai E t_a0 10 a_height, ai E t_a1 7 a_kind, ai E t_a2 7 a_figure, ai E t_a3 7 a_rail, ai E t_a4 7 a_mood, ai E t_a5 7 t_sight, oSt a_h a_a0 a_a1 a_a2 a_a3 a_a4 a_a5 a_moving a_shut a_people a_needed a_day, ai E a_a0 10 a_height, ai E a_a1 7 a_kind, ai E a_a2 7 a_figure, ai E a_a3 7 a_rail, ai E a_a4 7 a_mood, ai E a_a5 7 a_sight] H := va_P_full (n := 7) 5 hP rfl rfl
  have hD : va_D A [oSt t_h t_a0 t_a1 t_a2 t_a3 t_a4 t_a5 t_moving t_shut t_people t_needed t_day, ai E t_a0 10 a_height, ai E t_a1 7 a_kind, ai E t_a2 7 a_figure, ai E t_a3 7 a_rail, ai E t_a4 7 a_mood, ai E t_a5 7 t_sight, oSt a_h a_a0 a_a1 a_a2 a_a3 a_a4 a_a5 a_moving a_shut a_people a_needed a_day, ai E a_a0 10 a_height, ai E a_a1 7 a_kind, ai E a_a2 7 a_figure, ai E a_a3 7 a_rail, ai E a_a4 7 a_mood, ai E a_a5 7 a_sight] := va_D_set 5 hD rfl rfl
  refine lv_aload_n hx hb dX8_become_75 rfl (lv_at hl 0 rfl) ?_
  refine lv_aload_n hx hb dX8_become_76 rfl (lv_at hl 1 rfl) ?_
  refine va_get (D := E.1) (ci := 2) (v := .int a_shut) (C := RX8) (T := TX8) (N := 11) hx hb ht i_X8 hown hK hP 7 rfl rfl 7 (by decide) (ht _ kw_1_50) (fun _ h9 => h9) rfl dX8_become_77 ?_
  refine va_put (D := E.1) (ci := 2) (v := .int a_shut) (ty := .int) (C := RX8) (T := TX8) (N := 11) hx hb ht i_X8 tyX8 tyX8_ok nmX8 hown hK hP hD hS 0 rfl rfl 7 (by decide) (ht _ kw_1_50) (fun _ h9 => h9) rfl (by decide +kernel) rfl rfl (Nat.le_of_ble_eq_true rfl) dX8_become_80 (fun H locs hP hD hS => ?_)
  have hP : va_P E.1 vwCl [oSt t_h t_a0 t_a1 t_a2 t_a3 t_a4 t_a5 t_moving a_shut t_people t_needed t_day, ai E t_a0 10 a_height, ai E t_a1 7 a_kind, ai E t_a2 7 a_figure, ai E t_a3 7 a_rail, ai E t_a4 7 a_mood, ai E t_a5 7 t_sight, oSt a_h a_a0 a_a1 a_a2 a_a3 a_a4 a_a5 a_moving a_shut a_people a_needed a_day, ai E a_a0 10 a_height, ai E a_a1 7 a_kind, ai E a_a2 7 a_figure, ai E a_a3 7 a_rail, ai E a_a4 7 a_mood, ai E a_a5 7 a_sight] H := hP
  have hD : va_D A [oSt t_h t_a0 t_a1 t_a2 t_a3 t_a4 t_a5 t_moving a_shut t_people t_needed t_day, ai E t_a0 10 a_height, ai E t_a1 7 a_kind, ai E t_a2 7 a_figure, ai E t_a3 7 a_rail, ai E t_a4 7 a_mood, ai E t_a5 7 t_sight, oSt a_h a_a0 a_a1 a_a2 a_a3 a_a4 a_a5 a_moving a_shut a_people a_needed a_day, ai E a_a0 10 a_height, ai E a_a1 7 a_kind, ai E a_a2 7 a_figure, ai E a_a3 7 a_rail, ai E a_a4 7 a_mood, ai E a_a5 7 a_sight] := hD
  refine lv_aload_n hx hb dX8_become_83 rfl (lv_at hl 0 rfl) ?_
  refine lv_aload_n hx hb dX8_become_84 rfl (lv_at hl 1 rfl) ?_
  refine va_get (D := E.1) (ci := 2) (v := .int a_people) (C := RX8) (T := TX8) (N := 11) hx hb ht i_X8 hown hK hP 7 rfl rfl 8 (by decide) (ht _ kw_1_53) (fun _ h9 => h9) rfl dX8_become_85 ?_
  refine va_put (D := E.1) (ci := 2) (v := .int a_people) (ty := .int) (C := RX8) (T := TX8) (N := 11) hx hb ht i_X8 tyX8 tyX8_ok nmX8 hown hK hP hD hS 0 rfl rfl 8 (by decide) (ht _ kw_1_53) (fun _ h9 => h9) rfl (by decide +kernel) rfl rfl (Nat.le_of_ble_eq_true rfl) dX8_become_88 (fun H locs hP hD hS => ?_)
  have hP : va_P E.1 vwCl [oSt t_h t_a0 t_a1 t_a2 t_a3 t_a4 t_a5 t_moving a_shut a_people t_needed t_day, ai E t_a0 10 a_height, ai E t_a1 7 a_kind, ai E t_a2 7 a_figure, ai E t_a3 7 a_rail, ai E t_a4 7 a_mood, ai E t_a5 7 t_sight, oSt a_h a_a0 a_a1 a_a2 a_a3 a_a4 a_a5 a_moving a_shut a_people a_needed a_day, ai E a_a0 10 a_height, ai E a_a1 7 a_kind, ai E a_a2 7 a_figure, ai E a_a3 7 a_rail, ai E a_a4 7 a_mood, ai E a_a5 7 a_sight] H := hP
  have hD : va_D A [oSt t_h t_a0 t_a1 t_a2 t_a3 t_a4 t_a5 t_moving a_shut a_people t_needed t_day, ai E t_a0 10 a_height, ai E t_a1 7 a_kind, ai E t_a2 7 a_figure, ai E t_a3 7 a_rail, ai E t_a4 7 a_mood, ai E t_a5 7 t_sight, oSt a_h a_a0 a_a1 a_a2 a_a3 a_a4 a_a5 a_moving a_shut a_people a_needed a_day, ai E a_a0 10 a_height, ai E a_a1 7 a_kind, ai E a_a2 7 a_figure, ai E a_a3 7 a_rail, ai E a_a4 7 a_mood, ai E a_a5 7 a_sight] := hD
  refine lv_aload_n hx hb dX8_become_91 rfl (lv_at hl 0 rfl) ?_
  refine lv_aload_n hx hb dX8_become_92 rfl (lv_at hl 1 rfl) ?_
  refine va_get (D := E.1) (ci := 2) (v := .int a_needed) (C := RX8) (T := TX8) (N := 11) hx hb ht i_X8 hown hK hP 7 rfl rfl 9 (by decide) (ht _ kw_1_56) (fun _ h9 => h9) rfl dX8_become_93 ?_
  refine va_put (D := E.1) (ci := 2) (v := .int a_needed) (ty := .int) (C := RX8) (T := TX8) (N := 11) hx hb ht i_X8 tyX8 tyX8_ok nmX8 hown hK hP hD hS 0 rfl rfl 9 (by decide) (ht _ kw_1_56) (fun _ h9 => h9) rfl (by decide +kernel) rfl rfl (Nat.le_of_ble_eq_true rfl) dX8_become_96 (fun H locs hP hD hS => ?_)
  have hP : va_P E.1 vwCl [oSt t_h t_a0 t_a1 t_a2 t_a3 t_a4 t_a5 t_moving a_shut a_people a_needed t_day, ai E t_a0 10 a_height, ai E t_a1 7 a_kind, ai E t_a2 7 a_figure, ai E t_a3 7 a_rail, ai E t_a4 7 a_mood, ai E t_a5 7 t_sight, oSt a_h a_a0 a_a1 a_a2 a_a3 a_a4 a_a5 a_moving a_shut a_people a_needed a_day, ai E a_a0 10 a_height, ai E a_a1 7 a_kind, ai E a_a2 7 a_figure, ai E a_a3 7 a_rail, ai E a_a4 7 a_mood, ai E a_a5 7 a_sight] H := hP
  have hD : va_D A [oSt t_h t_a0 t_a1 t_a2 t_a3 t_a4 t_a5 t_moving a_shut a_people a_needed t_day, ai E t_a0 10 a_height, ai E t_a1 7 a_kind, ai E t_a2 7 a_figure, ai E t_a3 7 a_rail, ai E t_a4 7 a_mood, ai E t_a5 7 t_sight, oSt a_h a_a0 a_a1 a_a2 a_a3 a_a4 a_a5 a_moving a_shut a_people a_needed a_day, ai E a_a0 10 a_height, ai E a_a1 7 a_kind, ai E a_a2 7 a_figure, ai E a_a3 7 a_rail, ai E a_a4 7 a_mood, ai E a_a5 7 a_sight] := hD
  refine lv_aload_n hx hb dX8_become_99 rfl (lv_at hl 0 rfl) ?_
  refine lv_aload_n hx hb dX8_become_100 rfl (lv_at hl 1 rfl) ?_
  refine va_get (D := E.1) (ci := 2) (v := .int a_day) (C := RX8) (T := TX8) (N := 11) hx hb ht i_X8 hown hK hP 7 rfl rfl 10 (by decide) (ht _ kw_1_60) (fun _ h9 => h9) rfl dX8_become_101 ?_
  refine va_put (D := E.1) (ci := 2) (v := .int a_day) (ty := .int) (C := RX8) (T := TX8) (N := 11) hx hb ht i_X8 tyX8 tyX8_ok nmX8 hown hK hP hD hS 0 rfl rfl 10 (by decide) (ht _ kw_1_60) (fun _ h9 => h9) rfl (by decide +kernel) rfl rfl (Nat.le_of_ble_eq_true rfl) dX8_become_104 (fun H locs hP hD hS => ?_)
  have hP : va_P E.1 vwCl [oSt t_h t_a0 t_a1 t_a2 t_a3 t_a4 t_a5 t_moving a_shut a_people a_needed a_day, ai E t_a0 10 a_height, ai E t_a1 7 a_kind, ai E t_a2 7 a_figure, ai E t_a3 7 a_rail, ai E t_a4 7 a_mood, ai E t_a5 7 t_sight, oSt a_h a_a0 a_a1 a_a2 a_a3 a_a4 a_a5 a_moving a_shut a_people a_needed a_day, ai E a_a0 10 a_height, ai E a_a1 7 a_kind, ai E a_a2 7 a_figure, ai E a_a3 7 a_rail, ai E a_a4 7 a_mood, ai E a_a5 7 a_sight] H := hP
  have hD : va_D A [oSt t_h t_a0 t_a1 t_a2 t_a3 t_a4 t_a5 t_moving a_shut a_people a_needed a_day, ai E t_a0 10 a_height, ai E t_a1 7 a_kind, ai E t_a2 7 a_figure, ai E t_a3 7 a_rail, ai E t_a4 7 a_mood, ai E t_a5 7 t_sight, oSt a_h a_a0 a_a1 a_a2 a_a3 a_a4 a_a5 a_moving a_shut a_people a_needed a_day, ai E a_a0 10 a_height, ai E a_a1 7 a_kind, ai E a_a2 7 a_figure, ai E a_a3 7 a_rail, ai E a_a4 7 a_mood, ai E a_a5 7 a_sight] := hD
  cases hv
  exact W.vret hx hb hr (fun t h9 _ => ⟨rfl, by rw [h9]; exact hP, hS.F h9⟩) hS.2.2 dX8_become_107 hlk
theorem dX8_admit_0 : decode cX8_admit 0 = .ok (.aload_n 0, 1) := by decide +kernel
theorem dX8_admit_1 : decode cX8_admit 1 = .ok (.invokevirtual 49, 3) := by decide +kernel
theorem dX8_admit_4 : decode cX8_admit 4 = .ok (.ifCond .ne 4, 3) := by decide +kernel
theorem dX8_admit_7 : decode cX8_admit 7 = .ok (.return_, 1) := by decide +kernel
theorem dX8_admit_8 : decode cX8_admit 8 = .ok (.aload_n 0, 1) := by decide +kernel
theorem dX8_admit_9 : decode cX8_admit 9 = .ok (.getfield 15, 3) := by decide +kernel
theorem dX8_admit_12 : decode cX8_admit 12 = .ok (.aload_n 0, 1) := by decide +kernel
theorem dX8_admit_13 : decode cX8_admit 13 = .ok (.getfield 43, 3) := by decide +kernel
theorem dX8_admit_16 : decode cX8_admit 16 = .ok (.iload_n 1, 1) := by decide +kernel
theorem dX8_admit_17 : decode cX8_admit 17 = .ok (.iastore, 1) := by decide +kernel
theorem dX8_admit_18 : decode cX8_admit 18 = .ok (.aload_n 0, 1) := by decide +kernel
theorem dX8_admit_19 : decode cX8_admit 19 = .ok (.getfield 18, 3) := by decide +kernel
theorem dX8_admit_22 : decode cX8_admit 22 = .ok (.aload_n 0, 1) := by decide +kernel
theorem dX8_admit_23 : decode cX8_admit 23 = .ok (.getfield 43, 3) := by decide +kernel
theorem dX8_admit_26 : decode cX8_admit 26 = .ok (.iload_n 2, 1) := by decide +kernel
theorem dX8_admit_27 : decode cX8_admit 27 = .ok (.iastore, 1) := by decide +kernel
theorem dX8_admit_28 : decode cX8_admit 28 = .ok (.aload_n 0, 1) := by decide +kernel
theorem dX8_admit_29 : decode cX8_admit 29 = .ok (.getfield 21, 3) := by decide +kernel
theorem dX8_admit_32 : decode cX8_admit 32 = .ok (.aload_n 0, 1) := by decide +kernel
theorem dX8_admit_33 : decode cX8_admit 33 = .ok (.getfield 43, 3) := by decide +kernel
theorem dX8_admit_36 : decode cX8_admit 36 = .ok (.iload_n 3, 1) := by decide +kernel
theorem dX8_admit_37 : decode cX8_admit 37 = .ok (.iastore, 1) := by decide +kernel
theorem dX8_admit_38 : decode cX8_admit 38 = .ok (.aload_n 0, 1) := by decide +kernel
theorem dX8_admit_39 : decode cX8_admit 39 = .ok (.getfield 24, 3) := by decide +kernel
theorem dX8_admit_42 : decode cX8_admit 42 = .ok (.aload_n 0, 1) := by decide +kernel
theorem dX8_admit_43 : decode cX8_admit 43 = .ok (.getfield 43, 3) := by decide +kernel
theorem dX8_admit_46 : decode cX8_admit 46 = .ok (.iconst 0, 1) := by decide +kernel
theorem dX8_admit_47 : decode cX8_admit 47 = .ok (.iastore, 1) := by decide +kernel
theorem dX8_admit_48 : decode cX8_admit 48 = .ok (.aload_n 0, 1) := by decide +kernel
theorem dX8_admit_49 : decode cX8_admit 49 = .ok (.dup, 1) := by decide +kernel
theorem dX8_admit_50 : decode cX8_admit 50 = .ok (.getfield 43, 3) := by decide +kernel
theorem dX8_admit_53 : decode cX8_admit 53 = .ok (.iconst 1, 1) := by decide +kernel
theorem dX8_admit_54 : decode cX8_admit 54 = .ok (.iadd, 1) := by decide +kernel
theorem dX8_admit_55 : decode cX8_admit 55 = .ok (.putfield 43, 3) := by decide +kernel
theorem dX8_admit_58 : decode cX8_admit 58 = .ok (.return_, 1) := by decide +kernel
def f_X8_admit (t_kind : Nat → Int32) (t_figure : Nat → Int32) (t_rail : Nat → Int32) (t_mood : Nat → Int32) (t_people : Int32) (p1 : Int32) (p2 : Int32) (p3 : Int32) : Option (Int32 × (Nat → Int32) × (Nat → Int32) × (Nat → Int32) × (Nat → Int32)) := ob (f_X8_hasRoom t_people) (fun r1 => if r1 = 0 then some (t_people, t_kind, t_figure, t_rail, t_mood) else gd (ix t_people 7) (nm (upd t_kind t_people.toNatClampNeg p1) (fun f5 => gd (ix t_people 7) (nm (upd t_figure t_people.toNatClampNeg p2) (fun f7 => gd (ix t_people 7) (nm (upd t_rail t_people.toNatClampNeg p3) (fun f9 => gd (ix t_people 7) (nm (upd t_mood t_people.toNatClampNeg (0 : Int32)) (fun f11 => nm (t_people + (1 : Int32)) (fun z12 => some (z12, f5, f7, f9, f11)))))))))))
set_option maxHeartbeats 4000000 in
set_option maxRecDepth 100000 in
theorem c_X8_admit (l : Launch) (E : EE) (t_h : Nat) (t_a0 : Nat) (t_a1 : Nat) (t_a2 : Nat) (t_a3 : Nat) (t_a4 : Nat) (t_a5 : Nat) (t_height : Nat → Int32) (t_kind : Nat → Int32) (t_figure : Nat → Int32) (t_rail : Nat → Int32) (t_mood : Nat → Int32) (t_sight : Nat → Int32) (t_moving : Int32) (t_shut : Int32) (t_people : Int32) (t_needed : Int32) (t_day : Int32) (p1 : Int32) (p2 : Int32) (p3 : Int32) (w_t_people : Int32) (w_t_kind : Nat → Int32) (w_t_figure : Nat → Int32) (w_t_rail : Nat → Int32) (w_t_mood : Nat → Int32) (hv : f_X8_admit t_kind t_figure t_rail t_mood t_people p1 p2 p3 = some (w_t_people, w_t_kind, w_t_figure, w_t_rail, w_t_mood)) : Wr l E yX8_admit cX8_admit 4 none ({ frames := 1, cells := 0, slots := 0, locals := 20 }) [.ref t_h, .int p1, .int p2, .int p3] [oSt t_h t_a0 t_a1 t_a2 t_a3 t_a4 t_a5 t_moving t_shut t_people t_needed t_day, ai E t_a0 10 t_height, ai E t_a1 7 t_kind, ai E t_a2 7 t_figure, ai E t_a3 7 t_rail, ai E t_a4 7 t_mood, ai E t_a5 7 t_sight] [oSt t_h t_a0 t_a1 t_a2 t_a3 t_a4 t_a5 t_moving t_shut w_t_people t_needed t_day, ai E t_a0 10 t_height, ai E t_a1 7 w_t_kind, ai E t_a2 7 w_t_figure, ai E t_a3 7 w_t_rail, ai E t_a4 7 w_t_mood, ai E t_a5 7 t_sight] none := by
  refine Wr.intro RX8 (by decide) rfl (Nat.le_of_ble_eq_true rfl) ?_
  intro p e s m below meth c ls A hC hr hlk hmn hP hD hS hA hG hl
  obtain ⟨hx, hb, hml, hown, ht⟩ := id hC
  have hK := hG.1
  have hl : lv_has ls 4 [(0, .ref t_h), (1, .int p1), (2, .int p2), (3, .int p3)] := hl
  rw [f_X8_admit] at hv
  refine lv_aload_n hx hb dX8_admit_0 rfl (lv_at hl 0 rfl) ?_
  obtain ⟨r1, h2, hv⟩ := ob_s hv
  refine rdV 2 0 (As := []) (rest := []) (st1 := [.int r1]) (w := [oSt t_h t_a0 t_a1 t_a2 t_a3 t_a4 t_a5 t_moving t_shut t_people t_needed t_day, ai E t_a0 10 t_height, ai E t_a1 7 t_kind, ai E t_a2 7 t_figure, ai E t_a3 7 t_rail, ai E t_a4 7 t_mood, ai E t_a5 7 t_sight]) hC q_X8_hasRoom kw_1_216 (c_X8_hasRoom l E t_h t_a0 t_a1 t_a2 t_a3 t_a4 t_a5 t_height t_kind t_figure t_rail t_mood t_sight t_moving t_shut t_people t_needed t_day r1 h2) ⟨rfl, rfl⟩ ⟨Nat.le_of_ble_eq_true rfl, Nat.le_of_ble_eq_true rfl⟩ ⟨Nat.zero_le _, Nat.zero_le _⟩ hP rfl rfl rfl hG rfl hl.1 rfl (Nat.le_of_ble_eq_true rfl) dX8_admit_1 rfl ?_
  refine lv_if_ne (tgt := 8) hx hb dX8_admit_4 (by decide) (fun c3 => ?_) (fun c3 => ?_)
  · have hv := if_n c3 hv
    refine lv_aload_n hx hb dX8_admit_8 rfl (lv_at hl 0 rfl) ?_
    refine va_get (D := E.1) (ci := 2) (v := .ref t_a1) (C := RX8) (T := TX8) (N := 11) hx hb ht i_X8 hown hK hP 0 rfl rfl 1 (by decide) (ht _ kw_1_39) (fun _ h9 => h9) rfl dX8_admit_9 ?_
    refine lv_aload_n hx hb dX8_admit_12 rfl (lv_at hl 0 rfl) ?_
    refine va_get (D := E.1) (ci := 2) (v := .int t_people) (C := RX8) (T := TX8) (N := 11) hx hb ht i_X8 hown hK hP 0 rfl rfl 8 (by decide) (ht _ kw_1_53) (fun _ h9 => h9) rfl dX8_admit_13 ?_
    refine lv_iload_n hx hb dX8_admit_16 rfl (lv_at hl 1 rfl) ?_
    obtain ⟨g4, hv⟩ := gd_s hv
    refine va_iast hx hb hK hP hD hS 2 0 rfl rfl (ix_s g4) dX8_admit_17 (fun H locs hP hD hS => ?_)
    have hP : va_P E.1 vwCl [oSt t_h t_a0 t_a1 t_a2 t_a3 t_a4 t_a5 t_moving t_shut t_people t_needed t_day, ai E t_a0 10 t_height, ai E t_a1 7 (upd t_kind t_people.toNatClampNeg p1), ai E t_a2 7 t_figure, ai E t_a3 7 t_rail, ai E t_a4 7 t_mood, ai E t_a5 7 t_sight] H := hP
    have hD : va_D A [oSt t_h t_a0 t_a1 t_a2 t_a3 t_a4 t_a5 t_moving t_shut t_people t_needed t_day, ai E t_a0 10 t_height, ai E t_a1 7 (upd t_kind t_people.toNatClampNeg p1), ai E t_a2 7 t_figure, ai E t_a3 7 t_rail, ai E t_a4 7 t_mood, ai E t_a5 7 t_sight] := hD
    obtain ⟨f5, ef5⟩ : ∃ z, z = (upd t_kind t_people.toNatClampNeg p1) := ⟨_, rfl⟩
    rw [← ef5] at hP hD
    have hv := nm_s ef5 hv
    refine lv_aload_n hx hb dX8_admit_18 rfl (lv_at hl 0 rfl) ?_
    refine va_get (D := E.1) (ci := 2) (v := .ref t_a2) (C := RX8) (T := TX8) (N := 11) hx hb ht i_X8 hown hK hP 0 rfl rfl 2 (by decide) (ht _ kw_1_41) (fun _ h9 => h9) rfl dX8_admit_19 ?_
    refine lv_aload_n hx hb dX8_admit_22 rfl (lv_at hl 0 rfl) ?_
    refine va_get (D := E.1) (ci := 2) (v := .int t_people) (C := RX8) (T := TX8) (N := 11) hx hb ht i_X8 hown hK hP 0 rfl rfl 8 (by decide) (ht _ kw_1_53) (fun _ h9 => h9) rfl dX8_admit_23 ?_
    refine lv_iload_n hx hb dX8_admit_26 rfl (lv_at hl 2 rfl) ?_
    obtain ⟨g6, hv⟩ := gd_s hv
    refine va_iast hx hb hK hP hD hS 3 0 rfl rfl (ix_s g6) dX8_admit_27 (fun H locs hP hD hS => ?_)
    have hP : va_P E.1 vwCl [oSt t_h t_a0 t_a1 t_a2 t_a3 t_a4 t_a5 t_moving t_shut t_people t_needed t_day, ai E t_a0 10 t_height, ai E t_a1 7 f5, ai E t_a2 7 (upd t_figure t_people.toNatClampNeg p2), ai E t_a3 7 t_rail, ai E t_a4 7 t_mood, ai E t_a5 7 t_sight] H := hP
    have hD : va_D A [oSt t_h t_a0 t_a1 t_a2 t_a3 t_a4 t_a5 t_moving t_shut t_people t_needed t_day, ai E t_a0 10 t_height, ai E t_a1 7 f5, ai E t_a2 7 (upd t_figure t_people.toNatClampNeg p2), ai E t_a3 7 t_rail, ai E t_a4 7 t_mood, ai E t_a5 7 t_sight] := hD
    obtain ⟨f7, ef7⟩ : ∃ z, z = (upd t_figure t_people.toNatClampNeg p2) := ⟨_, rfl⟩
    rw [← ef7] at hP hD
    have hv := nm_s ef7 hv
    refine lv_aload_n hx hb dX8_admit_28 rfl (lv_at hl 0 rfl) ?_
    refine va_get (D := E.1) (ci := 2) (v := .ref t_a3) (C := RX8) (T := TX8) (N := 11) hx hb ht i_X8 hown hK hP 0 rfl rfl 3 (by decide) (ht _ kw_1_43) (fun _ h9 => h9) rfl dX8_admit_29 ?_
    refine lv_aload_n hx hb dX8_admit_32 rfl (lv_at hl 0 rfl) ?_
    refine va_get (D := E.1) (ci := 2) (v := .int t_people) (C := RX8) (T := TX8) (N := 11) hx hb ht i_X8 hown hK hP 0 rfl rfl 8 (by decide) (ht _ kw_1_53) (fun _ h9 => h9) rfl dX8_admit_33 ?_
    refine lv_iload_n hx hb dX8_admit_36 rfl (lv_at hl 3 rfl) ?_
    obtain ⟨g8, hv⟩ := gd_s hv
    refine va_iast hx hb hK hP hD hS 4 0 rfl rfl (ix_s g8) dX8_admit_37 (fun H locs hP hD hS => ?_)
    have hP : va_P E.1 vwCl [oSt t_h t_a0 t_a1 t_a2 t_a3 t_a4 t_a5 t_moving t_shut t_people t_needed t_day, ai E t_a0 10 t_height, ai E t_a1 7 f5, ai E t_a2 7 f7, ai E t_a3 7 (upd t_rail t_people.toNatClampNeg p3), ai E t_a4 7 t_mood, ai E t_a5 7 t_sight] H := hP
    have hD : va_D A [oSt t_h t_a0 t_a1 t_a2 t_a3 t_a4 t_a5 t_moving t_shut t_people t_needed t_day, ai E t_a0 10 t_height, ai E t_a1 7 f5, ai E t_a2 7 f7, ai E t_a3 7 (upd t_rail t_people.toNatClampNeg p3), ai E t_a4 7 t_mood, ai E t_a5 7 t_sight] := hD
    obtain ⟨f9, ef9⟩ : ∃ z, z = (upd t_rail t_people.toNatClampNeg p3) := ⟨_, rfl⟩
    rw [← ef9] at hP hD
    have hv := nm_s ef9 hv
    refine lv_aload_n hx hb dX8_admit_38 rfl (lv_at hl 0 rfl) ?_
    refine va_get (D := E.1) (ci := 2) (v := .ref t_a4) (C := RX8) (T := TX8) (N := 11) hx hb ht i_X8 hown hK hP 0 rfl rfl 4 (by decide) (ht _ kw_1_45) (fun _ h9 => h9) rfl dX8_admit_39 ?_
    refine lv_aload_n hx hb dX8_admit_42 rfl (lv_at hl 0 rfl) ?_
    refine va_get (D := E.1) (ci := 2) (v := .int t_people) (C := RX8) (T := TX8) (N := 11) hx hb ht i_X8 hown hK hP 0 rfl rfl 8 (by decide) (ht _ kw_1_53) (fun _ h9 => h9) rfl dX8_admit_43 ?_
    refine lv_iconst (v := (0 : Int32)) hx hb dX8_admit_46 (by decide) ?_
    obtain ⟨g10, hv⟩ := gd_s hv
    refine va_iast hx hb hK hP hD hS 5 0 rfl rfl (ix_s g10) dX8_admit_47 (fun H locs hP hD hS => ?_)
    have hP : va_P E.1 vwCl [oSt t_h t_a0 t_a1 t_a2 t_a3 t_a4 t_a5 t_moving t_shut t_people t_needed t_day, ai E t_a0 10 t_height, ai E t_a1 7 f5, ai E t_a2 7 f7, ai E t_a3 7 f9, ai E t_a4 7 (upd t_mood t_people.toNatClampNeg (0 : Int32)), ai E t_a5 7 t_sight] H := hP
    have hD : va_D A [oSt t_h t_a0 t_a1 t_a2 t_a3 t_a4 t_a5 t_moving t_shut t_people t_needed t_day, ai E t_a0 10 t_height, ai E t_a1 7 f5, ai E t_a2 7 f7, ai E t_a3 7 f9, ai E t_a4 7 (upd t_mood t_people.toNatClampNeg (0 : Int32)), ai E t_a5 7 t_sight] := hD
    obtain ⟨f11, ef11⟩ : ∃ z, z = (upd t_mood t_people.toNatClampNeg (0 : Int32)) := ⟨_, rfl⟩
    rw [← ef11] at hP hD
    have hv := nm_s ef11 hv
    refine lv_aload_n hx hb dX8_admit_48 rfl (lv_at hl 0 rfl) ?_
    refine lv_dup hx hb dX8_admit_49 rfl ?_
    refine va_get (D := E.1) (ci := 2) (v := .int t_people) (C := RX8) (T := TX8) (N := 11) hx hb ht i_X8 hown hK hP 0 rfl rfl 8 (by decide) (ht _ kw_1_53) (fun _ h9 => h9) rfl dX8_admit_50 ?_
    refine lv_iconst (v := (1 : Int32)) hx hb dX8_admit_53 (by decide) ?_
    refine lv_iadd hx hb dX8_admit_54 ?_
    refine lv_topi (fun z12 ez12 => ?_)
    have hv := nm_s ez12 hv
    refine va_put (D := E.1) (ci := 2) (v := .int z12) (ty := .int) (C := RX8) (T := TX8) (N := 11) hx hb ht i_X8 tyX8 tyX8_ok nmX8 hown hK hP hD hS 0 rfl rfl 8 (by decide) (ht _ kw_1_53) (fun _ h9 => h9) rfl (by decide +kernel) rfl rfl (Nat.le_of_ble_eq_true rfl) dX8_admit_55 (fun H locs hP hD hS => ?_)
    have hP : va_P E.1 vwCl [oSt t_h t_a0 t_a1 t_a2 t_a3 t_a4 t_a5 t_moving t_shut z12 t_needed t_day, ai E t_a0 10 t_height, ai E t_a1 7 f5, ai E t_a2 7 f7, ai E t_a3 7 f9, ai E t_a4 7 f11, ai E t_a5 7 t_sight] H := hP
    have hD : va_D A [oSt t_h t_a0 t_a1 t_a2 t_a3 t_a4 t_a5 t_moving t_shut z12 t_needed t_day, ai E t_a0 10 t_height, ai E t_a1 7 f5, ai E t_a2 7 f7, ai E t_a3 7 f9, ai E t_a4 7 f11, ai E t_a5 7 t_sight] := hD
    cases hv
    exact W.vret hx hb hr (fun t h9 _ => ⟨rfl, by rw [h9]; exact hP, hS.F h9⟩) hS.2.2 dX8_admit_58 hlk
  · have hv := if_y c3 hv
    cases hv
    exact W.vret hx hb hr (fun t h9 _ => ⟨rfl, by rw [h9]; exact hP, hS.F h9⟩) hS.2.2 dX8_admit_7 hlk
theorem dX8_turnShutter_0 : decode cX8_turnShutter 0 = .ok (.aload_n 0, 1) := by decide +kernel
theorem dX8_turnShutter_1 : decode cX8_turnShutter 1 = .ok (.dup, 1) := by decide +kernel
theorem dX8_turnShutter_2 : decode cX8_turnShutter 2 = .ok (.getfield 40, 3) := by decide +kernel
theorem dX8_turnShutter_5 : decode cX8_turnShutter 5 = .ok (.iconst 1, 1) := by decide +kernel
theorem dX8_turnShutter_6 : decode cX8_turnShutter 6 = .ok (.iload_n 1, 1) := by decide +kernel
theorem dX8_turnShutter_7 : decode cX8_turnShutter 7 = .ok (.ishl, 1) := by decide +kernel
theorem dX8_turnShutter_8 : decode cX8_turnShutter 8 = .ok (.ixor, 1) := by decide +kernel
theorem dX8_turnShutter_9 : decode cX8_turnShutter 9 = .ok (.putfield 40, 3) := by decide +kernel
theorem dX8_turnShutter_12 : decode cX8_turnShutter 12 = .ok (.return_, 1) := by decide +kernel
def f_X8_turnShutter (t_shut : Int32) (p1 : Int32) : Option (Int32) := nm (t_shut ^^^ ((1 : Int32) <<< (p1 &&& 31))) (fun z1 => some z1)
set_option maxHeartbeats 4000000 in
set_option maxRecDepth 100000 in
theorem c_X8_turnShutter (l : Launch) (E : EE) (t_h : Nat) (t_a0 : Nat) (t_a1 : Nat) (t_a2 : Nat) (t_a3 : Nat) (t_a4 : Nat) (t_a5 : Nat) (t_height : Nat → Int32) (t_kind : Nat → Int32) (t_figure : Nat → Int32) (t_rail : Nat → Int32) (t_mood : Nat → Int32) (t_sight : Nat → Int32) (t_moving : Int32) (t_shut : Int32) (t_people : Int32) (t_needed : Int32) (t_day : Int32) (p1 : Int32) (w_t_shut : Int32) (hv : f_X8_turnShutter t_shut p1 = some w_t_shut) : Wr l E yX8_turnShutter cX8_turnShutter 2 none ({ frames := 0, cells := 0, slots := 0, locals := 0 }) [.ref t_h, .int p1] [oSt t_h t_a0 t_a1 t_a2 t_a3 t_a4 t_a5 t_moving t_shut t_people t_needed t_day, ai E t_a0 10 t_height, ai E t_a1 7 t_kind, ai E t_a2 7 t_figure, ai E t_a3 7 t_rail, ai E t_a4 7 t_mood, ai E t_a5 7 t_sight] [oSt t_h t_a0 t_a1 t_a2 t_a3 t_a4 t_a5 t_moving w_t_shut t_people t_needed t_day, ai E t_a0 10 t_height, ai E t_a1 7 t_kind, ai E t_a2 7 t_figure, ai E t_a3 7 t_rail, ai E t_a4 7 t_mood, ai E t_a5 7 t_sight] none := by
  refine Wr.intro RX8 (by decide) rfl (Nat.le_of_ble_eq_true rfl) ?_
  intro p e s m below meth c ls A hC hr hlk hmn hP hD hS hA hG hl
  obtain ⟨hx, hb, hml, hown, ht⟩ := id hC
  have hK := hG.1
  have hl : lv_has ls 2 [(0, .ref t_h), (1, .int p1)] := hl
  rw [f_X8_turnShutter] at hv
  refine lv_aload_n hx hb dX8_turnShutter_0 rfl (lv_at hl 0 rfl) ?_
  refine lv_dup hx hb dX8_turnShutter_1 rfl ?_
  refine va_get (D := E.1) (ci := 2) (v := .int t_shut) (C := RX8) (T := TX8) (N := 11) hx hb ht i_X8 hown hK hP 0 rfl rfl 7 (by decide) (ht _ kw_1_50) (fun _ h9 => h9) rfl dX8_turnShutter_2 ?_
  refine lv_iconst (v := (1 : Int32)) hx hb dX8_turnShutter_5 (by decide) ?_
  refine lv_iload_n hx hb dX8_turnShutter_6 rfl (lv_at hl 1 rfl) ?_
  refine lv_ishl hx hb dX8_turnShutter_7 ?_
  refine lv_ixor hx hb dX8_turnShutter_8 ?_
  refine lv_topi (fun z1 ez1 => ?_)
  have hv := nm_s ez1 hv
  refine va_put (D := E.1) (ci := 2) (v := .int z1) (ty := .int) (C := RX8) (T := TX8) (N := 11) hx hb ht i_X8 tyX8 tyX8_ok nmX8 hown hK hP hD hS 0 rfl rfl 7 (by decide) (ht _ kw_1_50) (fun _ h9 => h9) rfl (by decide +kernel) rfl rfl (Nat.le_of_ble_eq_true rfl) dX8_turnShutter_9 (fun H locs hP hD hS => ?_)
  have hP : va_P E.1 vwCl [oSt t_h t_a0 t_a1 t_a2 t_a3 t_a4 t_a5 t_moving z1 t_people t_needed t_day, ai E t_a0 10 t_height, ai E t_a1 7 t_kind, ai E t_a2 7 t_figure, ai E t_a3 7 t_rail, ai E t_a4 7 t_mood, ai E t_a5 7 t_sight] H := hP
  have hD : va_D A [oSt t_h t_a0 t_a1 t_a2 t_a3 t_a4 t_a5 t_moving z1 t_people t_needed t_day, ai E t_a0 10 t_height, ai E t_a1 7 t_kind, ai E t_a2 7 t_figure, ai E t_a3 7 t_rail, ai E t_a4 7 t_mood, ai E t_a5 7 t_sight] := hD
  cases hv
  exact W.vret hx hb hr (fun t h9 _ => ⟨rfl, by rw [h9]; exact hP, hS.F h9⟩) hS.2.2 dX8_turnShutter_12 hlk
theorem dX8_think_0 : decode cX8_think 0 = .ok (.iconst 0, 1) := by decide +kernel
theorem dX8_think_1 : decode cX8_think 1 = .ok (.istore_n 3, 1) := by decide +kernel
theorem dX8_think_2 : decode cX8_think 2 = .ok (.iload_n 3, 1) := by decide +kernel
theorem dX8_think_3 : decode cX8_think 3 = .ok (.aload_n 0, 1) := by decide +kernel
theorem dX8_think_4 : decode cX8_think 4 = .ok (.getfield 43, 3) := by decide +kernel
theorem dX8_think_7 : decode cX8_think 7 = .ok (.if_icmp .ge 24, 3) := by decide +kernel
theorem dX8_think_10 : decode cX8_think 10 = .ok (.iload_n 1, 1) := by decide +kernel
theorem dX8_think_11 : decode cX8_think 11 = .ok (.iload_n 3, 1) := by decide +kernel
theorem dX8_think_12 : decode cX8_think 12 = .ok (.invokestatic 53, 3) := by decide +kernel
theorem dX8_think_15 : decode cX8_think 15 = .ok (.ifCond .eq 10, 3) := by decide +kernel
theorem dX8_think_18 : decode cX8_think 18 = .ok (.aload_n 0, 1) := by decide +kernel
theorem dX8_think_19 : decode cX8_think 19 = .ok (.getfield 24, 3) := by decide +kernel
theorem dX8_think_22 : decode cX8_think 22 = .ok (.iload_n 3, 1) := by decide +kernel
theorem dX8_think_23 : decode cX8_think 23 = .ok (.iload_n 2, 1) := by decide +kernel
theorem dX8_think_24 : decode cX8_think 24 = .ok (.iastore, 1) := by decide +kernel
theorem dX8_think_25 : decode cX8_think 25 = .ok (.iinc 3 1, 3) := by decide +kernel
theorem dX8_think_28 : decode cX8_think 28 = .ok (.goto (-26), 3) := by decide +kernel
theorem dX8_think_31 : decode cX8_think 31 = .ok (.return_, 1) := by decide +kernel
def L_X8_think_2 (t_people : Int32) (p1 : Int32) (p2 : Int32) : Nat → Int32 → (Nat → Int32) → Option ((Nat → Int32))
  | 0, _, _ => none
  | n2 + 1, x1, y2 => if t_people ≤ x1 then some y2 else ob (f_X9_isIn p1 x1) (fun r4 => if r4 = 0 then L_X8_think_2 t_people p1 p2 n2 (x1 + (1 : Int32)) y2 else gd (ix x1 7) (nm (upd y2 x1.toNatClampNeg p2) (fun f8 => L_X8_think_2 t_people p1 p2 n2 (x1 + (1 : Int32)) f8)))
def f_X8_think (N : Nat) (t_mood : Nat → Int32) (t_people : Int32) (p1 : Int32) (p2 : Int32) : Option ((Nat → Int32)) := L_X8_think_2 t_people p1 p2 N (0 : Int32) t_mood
set_option maxHeartbeats 4000000 in
set_option maxRecDepth 100000 in
theorem c_X8_think (l : Launch) (E : EE) (t_h : Nat) (t_a0 : Nat) (t_a1 : Nat) (t_a2 : Nat) (t_a3 : Nat) (t_a4 : Nat) (t_a5 : Nat) (t_height : Nat → Int32) (t_kind : Nat → Int32) (t_figure : Nat → Int32) (t_rail : Nat → Int32) (t_mood : Nat → Int32) (t_sight : Nat → Int32) (t_moving : Int32) (t_shut : Int32) (t_people : Int32) (t_needed : Int32) (t_day : Int32) (p1 : Int32) (p2 : Int32) (N : Nat) (w_t_mood : Nat → Int32) (hv : f_X8_think N t_mood t_people p1 p2 = some w_t_mood) : Wr l E yX8_think cX8_think 4 none ({ frames := 1, cells := 0, slots := 0, locals := 21 }) [.ref t_h, .int p1, .int p2] [oSt t_h t_a0 t_a1 t_a2 t_a3 t_a4 t_a5 t_moving t_shut t_people t_needed t_day, ai E t_a0 10 t_height, ai E t_a1 7 t_kind, ai E t_a2 7 t_figure, ai E t_a3 7 t_rail, ai E t_a4 7 t_mood, ai E t_a5 7 t_sight] [oSt t_h t_a0 t_a1 t_a2 t_a3 t_a4 t_a5 t_moving t_shut t_people t_needed t_day, ai E t_a0 10 t_height, ai E t_a1 7 t_kind, ai E t_a2 7 t_figure, ai E t_a3 7 t_rail, ai E t_a4 7 w_t_mood, ai E t_a5 7 t_sight] none := by
  refine Wr.intro RX8 (by decide) rfl (Nat.le_of_ble_eq_true rfl) ?_
  intro p e s m below meth c ls A hC hr hlk hmn hP hD hS hA hG hl
  obtain ⟨hx, hb, hml, hown, ht⟩ := id hC
  have hK := hG.1
  have hl : lv_has ls 4 [(0, .ref t_h), (1, .int p1), (2, .int p2)] := hl
  rw [f_X8_think] at hv
  refine lv_iconst (v := (0 : Int32)) hx hb dX8_think_0 (by decide) ?_
  refine lv_istore_n (lv' := [(3, .int (0 : Int32)), (0, .ref t_h), (1, .int p1), (2, .int p2)]) hx hb dX8_think_1 rfl hl (by decide) rfl (fun ls hl => ?_)
  have hL2 : ∀ (n : Nat) (x1 : Int32) (y2 : Nat → Int32) (H : Heap) (locs : List Loc) (ls : Array Slot), va_P E.1 vwCl [oSt t_h t_a0 t_a1 t_a2 t_a3 t_a4 t_a5 t_moving t_shut t_people t_needed t_day, ai E t_a0 10 t_height, ai E t_a1 7 t_kind, ai E t_a2 7 t_figure, ai E t_a3 7 t_rail, ai E t_a4 7 y2, ai E t_a5 7 t_sight] H → va_D A [oSt t_h t_a0 t_a1 t_a2 t_a3 t_a4 t_a5 t_moving t_shut t_people t_needed t_day, ai E t_a0 10 t_height, ai E t_a1 7 t_kind, ai E t_a2 7 t_figure, ai E t_a3 7 t_rail, ai E t_a4 7 y2, ai E t_a5 7 t_sight] → va_S A s.heap H locs → lv_has ls 4 [(3, .int x1), (0, .ref t_h), (1, .int p1), (2, .int p2)] → L_X8_think_2 t_people p1 p2 n x1 y2 = some w_t_mood → W p l e ({ frames := 1, cells := 0, slots := 0, locals := 21 }) s m [.ref t_h, .int p1, .int p2].toArray below meth c H locs 0 0 (MQ below (fun _ st oc t => oc = .returned none ∧ va_P E.1 vwCl [oSt t_h t_a0 t_a1 t_a2 t_a3 t_a4 t_a5 t_moving t_shut t_people t_needed t_day, ai E t_a0 10 t_height, ai E t_a1 7 t_kind, ai E t_a2 7 t_figure, ai E t_a3 7 t_rail, ai E t_a4 7 w_t_mood, ai E t_a5 7 t_sight] t.heap ∧ va_F A st t) [.ref t_h, .int p1, .int p2].toArray s 0 0 A) (F0 m 2 ls []) := by
    intro n
    induction n with
    | zero => intro x1 y2 H locs ls hP hD hS hl hv; cases hv
    | succ n2 ih2 =>
      intro x1 y2 H locs ls hP hD hS hl hv
      rw [L_X8_think_2] at hv
      refine lv_iload_n hx hb dX8_think_2 rfl (lv_at hl 0 rfl) ?_
      refine lv_aload_n hx hb dX8_think_3 rfl (lv_at hl 1 rfl) ?_
      refine va_get (D := E.1) (ci := 2) (v := .int t_people) (C := RX8) (T := TX8) (N := 11) hx hb ht i_X8 hown hK hP 0 rfl rfl 8 (by decide) (ht _ kw_1_53) (fun _ h9 => h9) rfl dX8_think_4 ?_
      refine lv_icmp_ge (tgt := 31) hx hb dX8_think_7 (by decide) (fun c3 => ?_) (fun c3 => ?_)
      · have hv := if_y c3 hv
        cases hv
        exact W.vret hx hb hr (fun t h9 _ => ⟨rfl, by rw [h9]; exact hP, hS.F h9⟩) hS.2.2 dX8_think_31 hlk
      · have hv := if_n c3 hv
        refine lv_iload_n hx hb dX8_think_10 rfl (lv_at hl 2 rfl) ?_
        refine lv_iload_n hx hb dX8_think_11 rfl (lv_at hl 0 rfl) ?_
        obtain ⟨r4, h5, hv⟩ := ob_s hv
        refine rdSN (rest := []) (st1 := [.int r4]) (w := []) hC q_X9_isIn (List.mem_of_getElem? (i := 4) rfl) (c_X9_isIn l E p1 x1 r4 h5) ⟨rfl, rfl⟩ ⟨Nat.le_of_ble_eq_true rfl, Nat.le_of_ble_eq_true rfl⟩ ⟨Nat.zero_le _, Nat.zero_le _⟩ (hP.sub (ws' := []) [] rfl) hG rfl hl.1 rfl (Nat.le_of_ble_eq_true rfl) dX8_think_12 rfl ?_
        refine lv_if_eq (tgt := 25) hx hb dX8_think_15 (by decide) (fun c6 => ?_) (fun c6 => ?_)
        · have hv := if_y c6 hv
          refine lv_iinc (v := (x1 + (1 : Int32))) (lv' := [(3, .int (x1 + (1 : Int32))), (0, .ref t_h), (1, .int p1), (2, .int p2)]) hx hb dX8_think_25 hl (k := 0) rfl rfl (by decide) rfl (fun ls hl => ?_)
          refine lv_goto (tgt := 2) hx hb dX8_think_28 (by decide) ?_
          exact ih2 (x1 + (1 : Int32)) y2 _ _ _ hP hD hS (lv_sub hl [0, 1, 2, 3] rfl) hv
        · have hv := if_n c6 hv
          refine lv_aload_n hx hb dX8_think_18 rfl (lv_at hl 1 rfl) ?_
          refine va_get (D := E.1) (ci := 2) (v := .ref t_a4) (C := RX8) (T := TX8) (N := 11) hx hb ht i_X8 hown hK hP 0 rfl rfl 4 (by decide) (ht _ kw_1_45) (fun _ h9 => h9) rfl dX8_think_19 ?_
          refine lv_iload_n hx hb dX8_think_22 rfl (lv_at hl 0 rfl) ?_
          refine lv_iload_n hx hb dX8_think_23 rfl (lv_at hl 3 rfl) ?_
          obtain ⟨g7, hv⟩ := gd_s hv
          refine va_iast hx hb hK hP hD hS 5 0 rfl rfl (ix_s g7) dX8_think_24 (fun H locs hP hD hS => ?_)
          have hP : va_P E.1 vwCl [oSt t_h t_a0 t_a1 t_a2 t_a3 t_a4 t_a5 t_moving t_shut t_people t_needed t_day, ai E t_a0 10 t_height, ai E t_a1 7 t_kind, ai E t_a2 7 t_figure, ai E t_a3 7 t_rail, ai E t_a4 7 (upd y2 x1.toNatClampNeg p2), ai E t_a5 7 t_sight] H := hP
          have hD : va_D A [oSt t_h t_a0 t_a1 t_a2 t_a3 t_a4 t_a5 t_moving t_shut t_people t_needed t_day, ai E t_a0 10 t_height, ai E t_a1 7 t_kind, ai E t_a2 7 t_figure, ai E t_a3 7 t_rail, ai E t_a4 7 (upd y2 x1.toNatClampNeg p2), ai E t_a5 7 t_sight] := hD
          obtain ⟨f8, ef8⟩ : ∃ z, z = (upd y2 x1.toNatClampNeg p2) := ⟨_, rfl⟩
          rw [← ef8] at hP hD
          have hv := nm_s ef8 hv
          refine lv_iinc (v := (x1 + (1 : Int32))) (lv' := [(3, .int (x1 + (1 : Int32))), (0, .ref t_h), (1, .int p1), (2, .int p2)]) hx hb dX8_think_25 hl (k := 0) rfl rfl (by decide) rfl (fun ls hl => ?_)
          refine lv_goto (tgt := 2) hx hb dX8_think_28 (by decide) ?_
          exact ih2 (x1 + (1 : Int32)) f8 _ _ _ hP hD hS (lv_sub hl [0, 1, 2, 3] rfl) hv
  exact hL2 N (0 : Int32) t_mood _ _ _ hP hD hS (lv_sub hl [0, 1, 2, 3] rfl) hv
theorem dX8_startDays_0 : decode cX8_startDays 0 = .ok (.aload_n 0, 1) := by decide +kernel
theorem dX8_startDays_1 : decode cX8_startDays 1 = .ok (.iconst 1, 1) := by decide +kernel
theorem dX8_startDays_2 : decode cX8_startDays 2 = .ok (.putfield 100, 3) := by decide +kernel
theorem dX8_startDays_5 : decode cX8_startDays 5 = .ok (.iconst 0, 1) := by decide +kernel
theorem dX8_startDays_6 : decode cX8_startDays 6 = .ok (.istore_n 1, 1) := by decide +kernel
theorem dX8_startDays_7 : decode cX8_startDays 7 = .ok (.iload_n 1, 1) := by decide +kernel
theorem dX8_startDays_8 : decode cX8_startDays 8 = .ok (.aload_n 0, 1) := by decide +kernel
theorem dX8_startDays_9 : decode cX8_startDays 9 = .ok (.getfield 43, 3) := by decide +kernel
theorem dX8_startDays_12 : decode cX8_startDays 12 = .ok (.if_icmp .ge 61, 3) := by decide +kernel
theorem dX8_startDays_15 : decode cX8_startDays 15 = .ok (.aload_n 0, 1) := by decide +kernel
theorem dX8_startDays_16 : decode cX8_startDays 16 = .ok (.getfield 27, 3) := by decide +kernel
theorem dX8_startDays_19 : decode cX8_startDays 19 = .ok (.iload_n 1, 1) := by decide +kernel
theorem dX8_startDays_20 : decode cX8_startDays 20 = .ok (.iconst 0, 1) := by decide +kernel
theorem dX8_startDays_21 : decode cX8_startDays 21 = .ok (.iastore, 1) := by decide +kernel
theorem dX8_startDays_22 : decode cX8_startDays 22 = .ok (.iconst 0, 1) := by decide +kernel
theorem dX8_startDays_23 : decode cX8_startDays 23 = .ok (.istore_n 2, 1) := by decide +kernel
theorem dX8_startDays_24 : decode cX8_startDays 24 = .ok (.iload_n 2, 1) := by decide +kernel
theorem dX8_startDays_25 : decode cX8_startDays 25 = .ok (.aload_n 0, 1) := by decide +kernel
theorem dX8_startDays_26 : decode cX8_startDays 26 = .ok (.getfield 43, 3) := by decide +kernel
theorem dX8_startDays_29 : decode cX8_startDays 29 = .ok (.if_icmp .ge 38, 3) := by decide +kernel
theorem dX8_startDays_32 : decode cX8_startDays 32 = .ok (.aload_n 0, 1) := by decide +kernel
theorem dX8_startDays_33 : decode cX8_startDays 33 = .ok (.iload_n 2, 1) := by decide +kernel
theorem dX8_startDays_34 : decode cX8_startDays 34 = .ok (.invokevirtual 63, 3) := by decide +kernel
theorem dX8_startDays_37 : decode cX8_startDays 37 = .ok (.ifCond .eq 24, 3) := by decide +kernel
theorem dX8_startDays_40 : decode cX8_startDays 40 = .ok (.aload_n 0, 1) := by decide +kernel
theorem dX8_startDays_41 : decode cX8_startDays 41 = .ok (.iload_n 1, 1) := by decide +kernel
theorem dX8_startDays_42 : decode cX8_startDays 42 = .ok (.iload_n 2, 1) := by decide +kernel
theorem dX8_startDays_43 : decode cX8_startDays 43 = .ok (.invokevirtual 97, 3) := by decide +kernel
theorem dX8_startDays_46 : decode cX8_startDays 46 = .ok (.ifCond .eq 15, 3) := by decide +kernel
theorem dX8_startDays_49 : decode cX8_startDays 49 = .ok (.aload_n 0, 1) := by decide +kernel
theorem dX8_startDays_50 : decode cX8_startDays 50 = .ok (.getfield 27, 3) := by decide +kernel
theorem dX8_startDays_53 : decode cX8_startDays 53 = .ok (.iload_n 1, 1) := by decide +kernel
theorem dX8_startDays_54 : decode cX8_startDays 54 = .ok (.dup2, 1) := by decide +kernel
theorem dX8_startDays_55 : decode cX8_startDays 55 = .ok (.iaload, 1) := by decide +kernel
theorem dX8_startDays_56 : decode cX8_startDays 56 = .ok (.iconst 1, 1) := by decide +kernel
theorem dX8_startDays_57 : decode cX8_startDays 57 = .ok (.iload_n 2, 1) := by decide +kernel
theorem dX8_startDays_58 : decode cX8_startDays 58 = .ok (.ishl, 1) := by decide +kernel
theorem dX8_startDays_59 : decode cX8_startDays 59 = .ok (.ior, 1) := by decide +kernel
theorem dX8_startDays_60 : decode cX8_startDays 60 = .ok (.iastore, 1) := by decide +kernel
theorem dX8_startDays_61 : decode cX8_startDays 61 = .ok (.iinc 2 1, 3) := by decide +kernel
theorem dX8_startDays_64 : decode cX8_startDays 64 = .ok (.goto (-40), 3) := by decide +kernel
theorem dX8_startDays_67 : decode cX8_startDays 67 = .ok (.iinc 1 1, 3) := by decide +kernel
theorem dX8_startDays_70 : decode cX8_startDays 70 = .ok (.goto (-63), 3) := by decide +kernel
theorem dX8_startDays_73 : decode cX8_startDays 73 = .ok (.return_, 1) := by decide +kernel
def L_X8_startDays_24 (t_height : Nat → Int32) (t_rail : Nat → Int32) (t_shut : Int32) (t_people : Int32) (x1 : Int32) (k_24 : Int32 → (Nat → Int32) → Option (Int32 × (Nat → Int32))) : Nat → Int32 → (Nat → Int32) → Option (Int32 × (Nat → Int32))
  | 0, _, _ => none
  | n24 + 1, x6, y7 => if t_people ≤ x6 then k_24 x6 y7 else ob (f_X8_isHeard t_rail t_shut x6) (fun r9 => if r9 = 0 then L_X8_startDays_24 t_height t_rail t_shut t_people x1 k_24 n24 (x6 + (1 : Int32)) y7 else ob (f_X8_isInSight t_height t_rail x1 x6) (fun r12 => if r12 = 0 then L_X8_startDays_24 t_height t_rail t_shut t_people x1 k_24 n24 (x6 + (1 : Int32)) y7 else gd (ix x1 7) (gd (ix x1 7) (nm (upd y7 x1.toNatClampNeg ((y7 x1.toNatClampNeg) ||| ((1 : Int32) <<< (x6 &&& 31)))) (fun f17 => L_X8_startDays_24 t_height t_rail t_shut t_people x1 k_24 n24 (x6 + (1 : Int32)) f17)))))
def L_X8_startDays_7 (N : Nat) (t_height : Nat → Int32) (t_rail : Nat → Int32) (t_shut : Int32) (t_people : Int32) : Nat → Int32 → (Nat → Int32) → Option (Int32 × (Nat → Int32))
  | 0, _, _ => none
  | n7 + 1, x1, y2 => if t_people ≤ x1 then some ((1 : Int32), y2) else gd (ix x1 7) (nm (upd y2 x1.toNatClampNeg (0 : Int32)) (fun f5 => L_X8_startDays_24 t_height t_rail t_shut t_people x1 (fun x18 y19 => L_X8_startDays_7 N t_height t_rail t_shut t_people n7 (x1 + (1 : Int32)) y19) N (0 : Int32) f5))
def f_X8_startDays (N : Nat) (t_height : Nat → Int32) (t_rail : Nat → Int32) (t_sight : Nat → Int32) (t_shut : Int32) (t_people : Int32) : Option (Int32 × (Nat → Int32)) := L_X8_startDays_7 N t_height t_rail t_shut t_people N (0 : Int32) t_sight
set_option maxHeartbeats 4000000 in
set_option maxRecDepth 100000 in
theorem c_X8_startDays (l : Launch) (E : EE) (t_h : Nat) (t_a0 : Nat) (t_a1 : Nat) (t_a2 : Nat) (t_a3 : Nat) (t_a4 : Nat) (t_a5 : Nat) (t_height : Nat → Int32) (t_kind : Nat → Int32) (t_figure : Nat → Int32) (t_rail : Nat → Int32) (t_mood : Nat → Int32) (t_sight : Nat → Int32) (t_moving : Int32) (t_shut : Int32) (t_people : Int32) (t_needed : Int32) (t_day : Int32) (N : Nat) (w_t_moving : Int32) (w_t_sight : Nat → Int32) (hv : f_X8_startDays N t_height t_rail t_sight t_shut t_people = some (w_t_moving, w_t_sight)) : Wr l E yX8_startDays cX8_startDays 3 none ({ frames := 2, cells := 0, slots := 0, locals := 42 }) [.ref t_h] [oSt t_h t_a0 t_a1 t_a2 t_a3 t_a4 t_a5 t_moving t_shut t_people t_needed t_day, ai E t_a0 10 t_height, ai E t_a1 7 t_kind, ai E t_a2 7 t_figure, ai E t_a3 7 t_rail, ai E t_a4 7 t_mood, ai E t_a5 7 t_sight] [oSt t_h t_a0 t_a1 t_a2 t_a3 t_a4 t_a5 w_t_moving t_shut t_people t_needed t_day, ai E t_a0 10 t_height, ai E t_a1 7 t_kind, ai E t_a2 7 t_figure, ai E t_a3 7 t_rail, ai E t_a4 7 t_mood, ai E t_a5 7 w_t_sight] none := by
  refine Wr.intro RX8 (by decide) rfl (Nat.le_of_ble_eq_true rfl) ?_
  intro p e s m below meth c ls A hC hr hlk hmn hP hD hS hA hG hl
  obtain ⟨hx, hb, hml, hown, ht⟩ := id hC
  have hK := hG.1
  have hl : lv_has ls 3 [(0, .ref t_h)] := hl
  rw [f_X8_startDays] at hv
  refine lv_aload_n hx hb dX8_startDays_0 rfl (lv_at hl 0 rfl) ?_
  refine lv_iconst (v := (1 : Int32)) hx hb dX8_startDays_1 (by decide) ?_
  refine va_put (D := E.1) (ci := 2) (v := .int (1 : Int32)) (ty := .boolean) (C := RX8) (T := TX8) (N := 11) hx hb ht i_X8 tyX8 tyX8_ok nmX8 hown hK hP hD hS 0 rfl rfl 6 (by decide) (ht _ kw_1_49) (fun _ h9 => h9) rfl (by decide +kernel) rfl rfl (Nat.le_of_ble_eq_true rfl) dX8_startDays_2 (fun H locs hP hD hS => ?_)
  have hP : va_P E.1 vwCl [oSt t_h t_a0 t_a1 t_a2 t_a3 t_a4 t_a5 (1 : Int32) t_shut t_people t_needed t_day, ai E t_a0 10 t_height, ai E t_a1 7 t_kind, ai E t_a2 7 t_figure, ai E t_a3 7 t_rail, ai E t_a4 7 t_mood, ai E t_a5 7 t_sight] H := hP
  have hD : va_D A [oSt t_h t_a0 t_a1 t_a2 t_a3 t_a4 t_a5 (1 : Int32) t_shut t_people t_needed t_day, ai E t_a0 10 t_height, ai E t_a1 7 t_kind, ai E t_a2 7 t_figure, ai E t_a3 7 t_rail, ai E t_a4 7 t_mood, ai E t_a5 7 t_sight] := hD
  refine lv_iconst (v := (0 : Int32)) hx hb dX8_startDays_5 (by decide) ?_
  refine lv_istore_n (lv' := [(1, .int (0 : Int32)), (0, .ref t_h)]) hx hb dX8_startDays_6 rfl hl (by decide) rfl (fun ls hl => ?_)
  have hL7 : ∀ (n : Nat) (x1 : Int32) (y2 : Nat → Int32) (H : Heap) (locs : List Loc) (ls : Array Slot), va_P E.1 vwCl [oSt t_h t_a0 t_a1 t_a2 t_a3 t_a4 t_a5 (1 : Int32) t_shut t_people t_needed t_day, ai E t_a0 10 t_height, ai E t_a1 7 t_kind, ai E t_a2 7 t_figure, ai E t_a3 7 t_rail, ai E t_a4 7 t_mood, ai E t_a5 7 y2] H → va_D A [oSt t_h t_a0 t_a1 t_a2 t_a3 t_a4 t_a5 (1 : Int32) t_shut t_people t_needed t_day, ai E t_a0 10 t_height, ai E t_a1 7 t_kind, ai E t_a2 7 t_figure, ai E t_a3 7 t_rail, ai E t_a4 7 t_mood, ai E t_a5 7 y2] → va_S A s.heap H locs → lv_has ls 3 [(1, .int x1), (0, .ref t_h)] → L_X8_startDays_7 N t_height t_rail t_shut t_people n x1 y2 = some (w_t_moving, w_t_sight) → W p l e ({ frames := 2, cells := 0, slots := 0, locals := 42 }) s m [.ref t_h].toArray below meth c H locs 0 0 (MQ below (fun _ st oc t => oc = .returned none ∧ va_P E.1 vwCl [oSt t_h t_a0 t_a1 t_a2 t_a3 t_a4 t_a5 w_t_moving t_shut t_people t_needed t_day, ai E t_a0 10 t_height, ai E t_a1 7 t_kind, ai E t_a2 7 t_figure, ai E t_a3 7 t_rail, ai E t_a4 7 t_mood, ai E t_a5 7 w_t_sight] t.heap ∧ va_F A st t) [.ref t_h].toArray s 0 0 A) (F0 m 7 ls []) := by
    intro n
    induction n with
    | zero => intro x1 y2 H locs ls hP hD hS hl hv; cases hv
    | succ n7 ih7 =>
      intro x1 y2 H locs ls hP hD hS hl hv
      rw [L_X8_startDays_7] at hv
      refine lv_iload_n hx hb dX8_startDays_7 rfl (lv_at hl 0 rfl) ?_
      refine lv_aload_n hx hb dX8_startDays_8 rfl (lv_at hl 1 rfl) ?_
      refine va_get (D := E.1) (ci := 2) (v := .int t_people) (C := RX8) (T := TX8) (N := 11) hx hb ht i_X8 hown hK hP 0 rfl rfl 8 (by decide) (ht _ kw_1_53) (fun _ h9 => h9) rfl dX8_startDays_9 ?_
      refine lv_icmp_ge (tgt := 73) hx hb dX8_startDays_12 (by decide) (fun c3 => ?_) (fun c3 => ?_)
      · have hv := if_y c3 hv
        cases hv
        exact W.vret hx hb hr (fun t h9 _ => ⟨rfl, by rw [h9]; exact hP, hS.F h9⟩) hS.2.2 dX8_startDays_73 hlk
      · have hv := if_n c3 hv
        refine lv_aload_n hx hb dX8_startDays_15 rfl (lv_at hl 1 rfl) ?_
        refine va_get (D := E.1) (ci := 2) (v := .ref t_a5) (C := RX8) (T := TX8) (N := 11) hx hb ht i_X8 hown hK hP 0 rfl rfl 5 (by decide) (ht _ kw_1_48) (fun _ h9 => h9) rfl dX8_startDays_16 ?_
        refine lv_iload_n hx hb dX8_startDays_19 rfl (lv_at hl 0 rfl) ?_
        refine lv_iconst (v := (0 : Int32)) hx hb dX8_startDays_20 (by decide) ?_
        obtain ⟨g4, hv⟩ := gd_s hv
        refine va_iast hx hb hK hP hD hS 6 0 rfl rfl (ix_s g4) dX8_startDays_21 (fun H locs hP hD hS => ?_)
        have hP : va_P E.1 vwCl [oSt t_h t_a0 t_a1 t_a2 t_a3 t_a4 t_a5 (1 : Int32) t_shut t_people t_needed t_day, ai E t_a0 10 t_height, ai E t_a1 7 t_kind, ai E t_a2 7 t_figure, ai E t_a3 7 t_rail, ai E t_a4 7 t_mood, ai E t_a5 7 (upd y2 x1.toNatClampNeg (0 : Int32))] H := hP
        have hD : va_D A [oSt t_h t_a0 t_a1 t_a2 t_a3 t_a4 t_a5 (1 : Int32) t_shut t_people t_needed t_day, ai E t_a0 10 t_height, ai E t_a1 7 t_kind, ai E t_a2 7 t_figure, ai E t_a3 7 t_rail, ai E t_a4 7 t_mood, ai E t_a5 7 (upd y2 x1.toNatClampNeg (0 : Int32))] := hD
        obtain ⟨f5, ef5⟩ : ∃ z, z = (upd y2 x1.toNatClampNeg (0 : Int32)) := ⟨_, rfl⟩
        rw [← ef5] at hP hD
        have hv := nm_s ef5 hv
        refine lv_iconst (v := (0 : Int32)) hx hb dX8_startDays_22 (by decide) ?_
        refine lv_istore_n (lv' := [(2, .int (0 : Int32)), (1, .int x1), (0, .ref t_h)]) hx hb dX8_startDays_23 rfl hl (by decide) rfl (fun ls hl => ?_)
        have hL24 : ∀ (k_24 : Int32 → (Nat → Int32) → Option (Int32 × (Nat → Int32))), (∀ (x6 : Int32) (y7 : Nat → Int32) (H : Heap) (locs : List Loc) (ls : Array Slot), va_P E.1 vwCl [oSt t_h t_a0 t_a1 t_a2 t_a3 t_a4 t_a5 (1 : Int32) t_shut t_people t_needed t_day, ai E t_a0 10 t_height, ai E t_a1 7 t_kind, ai E t_a2 7 t_figure, ai E t_a3 7 t_rail, ai E t_a4 7 t_mood, ai E t_a5 7 y7] H → va_D A [oSt t_h t_a0 t_a1 t_a2 t_a3 t_a4 t_a5 (1 : Int32) t_shut t_people t_needed t_day, ai E t_a0 10 t_height, ai E t_a1 7 t_kind, ai E t_a2 7 t_figure, ai E t_a3 7 t_rail, ai E t_a4 7 t_mood, ai E t_a5 7 y7] → va_S A s.heap H locs → lv_has ls 3 [(2, .int x6), (1, .int x1), (0, .ref t_h)] → k_24 x6 y7 = some (w_t_moving, w_t_sight) → W p l e ({ frames := 2, cells := 0, slots := 0, locals := 42 }) s m [.ref t_h].toArray below meth c H locs 0 0 (MQ below (fun _ st oc t => oc = .returned none ∧ va_P E.1 vwCl [oSt t_h t_a0 t_a1 t_a2 t_a3 t_a4 t_a5 w_t_moving t_shut t_people t_needed t_day, ai E t_a0 10 t_height, ai E t_a1 7 t_kind, ai E t_a2 7 t_figure, ai E t_a3 7 t_rail, ai E t_a4 7 t_mood, ai E t_a5 7 w_t_sight] t.heap ∧ va_F A st t) [.ref t_h].toArray s 0 0 A) (F0 m 67 ls [])) → ∀ (n : Nat) (x6 : Int32) (y7 : Nat → Int32) (H : Heap) (locs : List Loc) (ls : Array Slot), va_P E.1 vwCl [oSt t_h t_a0 t_a1 t_a2 t_a3 t_a4 t_a5 (1 : Int32) t_shut t_people t_needed t_day, ai E t_a0 10 t_height, ai E t_a1 7 t_kind, ai E t_a2 7 t_figure, ai E t_a3 7 t_rail, ai E t_a4 7 t_mood, ai E t_a5 7 y7] H → va_D A [oSt t_h t_a0 t_a1 t_a2 t_a3 t_a4 t_a5 (1 : Int32) t_shut t_people t_needed t_day, ai E t_a0 10 t_height, ai E t_a1 7 t_kind, ai E t_a2 7 t_figure, ai E t_a3 7 t_rail, ai E t_a4 7 t_mood, ai E t_a5 7 y7] → va_S A s.heap H locs → lv_has ls 3 [(2, .int x6), (1, .int x1), (0, .ref t_h)] → L_X8_startDays_24 t_height t_rail t_shut t_people x1 k_24 n x6 y7 = some (w_t_moving, w_t_sight) → W p l e ({ frames := 2, cells := 0, slots := 0, locals := 42 }) s m [.ref t_h].toArray below meth c H locs 0 0 (MQ below (fun _ st oc t => oc = .returned none ∧ va_P E.1 vwCl [oSt t_h t_a0 t_a1 t_a2 t_a3 t_a4 t_a5 w_t_moving t_shut t_people t_needed t_day, ai E t_a0 10 t_height, ai E t_a1 7 t_kind, ai E t_a2 7 t_figure, ai E t_a3 7 t_rail, ai E t_a4 7 t_mood, ai E t_a5 7 w_t_sight] t.heap ∧ va_F A st t) [.ref t_h].toArray s 0 0 A) (F0 m 24 ls []) := by
          intro k_24 hk_24 n
          induction n with
          | zero => intro x6 y7 H locs ls hP hD hS hl hv; cases hv
          | succ n24 ih24 =>
            intro x6 y7 H locs ls hP hD hS hl hv
            rw [L_X8_startDays_24] at hv
            refine lv_iload_n hx hb dX8_startDays_24 rfl (lv_at hl 0 rfl) ?_
            refine lv_aload_n hx hb dX8_startDays_25 rfl (lv_at hl 2 rfl) ?_
            refine va_get (D := E.1) (ci := 2) (v := .int t_people) (C := RX8) (T := TX8) (N := 11) hx hb ht i_X8 hown hK hP 0 rfl rfl 8 (by decide) (ht _ kw_1_53) (fun _ h9 => h9) rfl dX8_startDays_26 ?_
            refine lv_icmp_ge (tgt := 67) hx hb dX8_startDays_29 (by decide) (fun c8 => ?_) (fun c8 => ?_)
            · have hv := if_y c8 hv
              exact hk_24 x6 y7 _ _ _ hP hD hS (lv_sub hl [0, 1, 2] rfl) hv
            · have hv := if_n c8 hv
              refine lv_aload_n hx hb dX8_startDays_32 rfl (lv_at hl 2 rfl) ?_
              refine lv_iload_n hx hb dX8_startDays_33 rfl (lv_at hl 0 rfl) ?_
              obtain ⟨r9, h10, hv⟩ := ob_s hv
              refine rdV 2 0 (As := [.int x6]) (rest := []) (st1 := [.int r9]) (w := [oSt t_h t_a0 t_a1 t_a2 t_a3 t_a4 t_a5 (1 : Int32) t_shut t_people t_needed t_day, ai E t_a0 10 t_height, ai E t_a1 7 t_kind, ai E t_a2 7 t_figure, ai E t_a3 7 t_rail, ai E t_a4 7 t_mood, ai E t_a5 7 y7]) hC q_X8_isHeard kw_2_9 (c_X8_isHeard l E t_h t_a0 t_a1 t_a2 t_a3 t_a4 t_a5 t_height t_kind t_figure t_rail t_mood y7 (1 : Int32) t_shut t_people t_needed t_day x6 r9 h10) ⟨rfl, rfl⟩ ⟨Nat.le_of_ble_eq_true rfl, Nat.le_of_ble_eq_true rfl⟩ ⟨Nat.zero_le _, Nat.zero_le _⟩ hP rfl rfl rfl hG rfl hl.1 rfl (Nat.le_of_ble_eq_true rfl) dX8_startDays_34 rfl ?_
              refine lv_if_eq (tgt := 61) hx hb dX8_startDays_37 (by decide) (fun c11 => ?_) (fun c11 => ?_)
              · have hv := if_y c11 hv
                refine lv_iinc (v := (x6 + (1 : Int32))) (lv' := [(2, .int (x6 + (1 : Int32))), (1, .int x1), (0, .ref t_h)]) hx hb dX8_startDays_61 hl (k := 0) rfl rfl (by decide) rfl (fun ls hl => ?_)
                refine lv_goto (tgt := 24) hx hb dX8_startDays_64 (by decide) ?_
                exact ih24 (x6 + (1 : Int32)) y7 _ _ _ hP hD hS (lv_sub hl [0, 1, 2] rfl) hv
              · have hv := if_n c11 hv
                refine lv_aload_n hx hb dX8_startDays_40 rfl (lv_at hl 2 rfl) ?_
                refine lv_iload_n hx hb dX8_startDays_41 rfl (lv_at hl 1 rfl) ?_
                refine lv_iload_n hx hb dX8_startDays_42 rfl (lv_at hl 0 rfl) ?_
                obtain ⟨r12, h13, hv⟩ := ob_s hv
                refine rdV 2 0 (As := [.int x1, .int x6]) (rest := []) (st1 := [.int r12]) (w := [oSt t_h t_a0 t_a1 t_a2 t_a3 t_a4 t_a5 (1 : Int32) t_shut t_people t_needed t_day, ai E t_a0 10 t_height, ai E t_a1 7 t_kind, ai E t_a2 7 t_figure, ai E t_a3 7 t_rail, ai E t_a4 7 t_mood, ai E t_a5 7 y7]) hC q_X8_isInSight kw_2_16 (c_X8_isInSight l E t_h t_a0 t_a1 t_a2 t_a3 t_a4 t_a5 t_height t_kind t_figure t_rail t_mood y7 (1 : Int32) t_shut t_people t_needed t_day x1 x6 r12 h13) ⟨rfl, rfl⟩ ⟨Nat.le_of_ble_eq_true rfl, Nat.le_of_ble_eq_true rfl⟩ ⟨Nat.zero_le _, Nat.zero_le _⟩ hP rfl rfl rfl hG rfl hl.1 rfl (Nat.le_of_ble_eq_true rfl) dX8_startDays_43 rfl ?_
                refine lv_if_eq (tgt := 61) hx hb dX8_startDays_46 (by decide) (fun c14 => ?_) (fun c14 => ?_)
                · have hv := if_y c14 hv
                  refine lv_iinc (v := (x6 + (1 : Int32))) (lv' := [(2, .int (x6 + (1 : Int32))), (1, .int x1), (0, .ref t_h)]) hx hb dX8_startDays_61 hl (k := 0) rfl rfl (by decide) rfl (fun ls hl => ?_)
                  refine lv_goto (tgt := 24) hx hb dX8_startDays_64 (by decide) ?_
                  exact ih24 (x6 + (1 : Int32)) y7 _ _ _ hP hD hS (lv_sub hl [0, 1, 2] rfl) hv
                · have hv := if_n c14 hv
                  refine lv_aload_n hx hb dX8_startDays_49 rfl (lv_at hl 2 rfl) ?_
                  refine va_get (D := E.1) (ci := 2) (v := .ref t_a5) (C := RX8) (T := TX8) (N := 11) hx hb ht i_X8 hown hK hP 0 rfl rfl 5 (by decide) (ht _ kw_1_48) (fun _ h9 => h9) rfl dX8_startDays_50 ?_
                  refine lv_iload_n hx hb dX8_startDays_53 rfl (lv_at hl 1 rfl) ?_
                  refine lv_dup2_11 hx hb dX8_startDays_54 rfl rfl ?_
                  obtain ⟨g15, hv⟩ := gd_s hv
                  refine va_iald hx hb hK hP 6 0 rfl rfl (ix_s g15) dX8_startDays_55 ?_
                  refine lv_iconst (v := (1 : Int32)) hx hb dX8_startDays_56 (by decide) ?_
                  refine lv_iload_n hx hb dX8_startDays_57 rfl (lv_at hl 0 rfl) ?_
                  refine lv_ishl hx hb dX8_startDays_58 ?_
                  refine lv_ior hx hb dX8_startDays_59 ?_
                  obtain ⟨g16, hv⟩ := gd_s hv
                  refine va_iast hx hb hK hP hD hS 6 0 rfl rfl (ix_s g16) dX8_startDays_60 (fun H locs hP hD hS => ?_)
                  have hP : va_P E.1 vwCl [oSt t_h t_a0 t_a1 t_a2 t_a3 t_a4 t_a5 (1 : Int32) t_shut t_people t_needed t_day, ai E t_a0 10 t_height, ai E t_a1 7 t_kind, ai E t_a2 7 t_figure, ai E t_a3 7 t_rail, ai E t_a4 7 t_mood, ai E t_a5 7 (upd y7 x1.toNatClampNeg ((y7 x1.toNatClampNeg) ||| ((1 : Int32) <<< (x6 &&& 31))))] H := hP
                  have hD : va_D A [oSt t_h t_a0 t_a1 t_a2 t_a3 t_a4 t_a5 (1 : Int32) t_shut t_people t_needed t_day, ai E t_a0 10 t_height, ai E t_a1 7 t_kind, ai E t_a2 7 t_figure, ai E t_a3 7 t_rail, ai E t_a4 7 t_mood, ai E t_a5 7 (upd y7 x1.toNatClampNeg ((y7 x1.toNatClampNeg) ||| ((1 : Int32) <<< (x6 &&& 31))))] := hD
                  obtain ⟨f17, ef17⟩ : ∃ z, z = (upd y7 x1.toNatClampNeg ((y7 x1.toNatClampNeg) ||| ((1 : Int32) <<< (x6 &&& 31)))) := ⟨_, rfl⟩
                  rw [← ef17] at hP hD
                  have hv := nm_s ef17 hv
                  refine lv_iinc (v := (x6 + (1 : Int32))) (lv' := [(2, .int (x6 + (1 : Int32))), (1, .int x1), (0, .ref t_h)]) hx hb dX8_startDays_61 hl (k := 0) rfl rfl (by decide) rfl (fun ls hl => ?_)
                  refine lv_goto (tgt := 24) hx hb dX8_startDays_64 (by decide) ?_
                  exact ih24 (x6 + (1 : Int32)) f17 _ _ _ hP hD hS (lv_sub hl [0, 1, 2] rfl) hv
        refine hL24 _ (fun x18 y19 H locs ls hP hD hS hl hv => ?_) N (0 : Int32) f5 _ _ _ hP hD hS (lv_sub hl [0, 1, 2] rfl) hv
        refine lv_iinc (v := (x1 + (1 : Int32))) (lv' := [(1, .int (x1 + (1 : Int32))), (2, .int x18), (0, .ref t_h)]) hx hb dX8_startDays_67 hl (k := 1) rfl rfl (by decide) rfl (fun ls hl => ?_)
        refine lv_goto (tgt := 7) hx hb dX8_startDays_70 (by decide) ?_
        exact ih7 (x1 + (1 : Int32)) y19 _ _ _ hP hD hS (lv_sub hl [0, 2] rfl) hv
  exact hL7 N (0 : Int32) t_sight _ _ _ hP hD hS (lv_sub hl [0, 1] rfl) hv
theorem dX8_nextDay_0 : decode cX8_nextDay 0 = .ok (.aload_n 0, 1) := by decide +kernel
theorem dX8_nextDay_1 : decode cX8_nextDay 1 = .ok (.dup, 1) := by decide +kernel
theorem dX8_nextDay_2 : decode cX8_nextDay 2 = .ok (.getfield 46, 3) := by decide +kernel
theorem dX8_nextDay_5 : decode cX8_nextDay 5 = .ok (.iconst 1, 1) := by decide +kernel
theorem dX8_nextDay_6 : decode cX8_nextDay 6 = .ok (.iadd, 1) := by decide +kernel
theorem dX8_nextDay_7 : decode cX8_nextDay 7 = .ok (.putfield 46, 3) := by decide +kernel
theorem dX8_nextDay_10 : decode cX8_nextDay 10 = .ok (.aload_n 0, 1) := by decide +kernel
theorem dX8_nextDay_11 : decode cX8_nextDay 11 = .ok (.getfield 100, 3) := by decide +kernel
theorem dX8_nextDay_14 : decode cX8_nextDay 14 = .ok (.ifCond .ne 5, 3) := by decide +kernel
theorem dX8_nextDay_17 : decode cX8_nextDay 17 = .ok (.iconst 0, 1) := by decide +kernel
theorem dX8_nextDay_18 : decode cX8_nextDay 18 = .ok (.ireturn, 1) := by decide +kernel
theorem dX8_nextDay_19 : decode cX8_nextDay 19 = .ok (.aload_n 0, 1) := by decide +kernel
theorem dX8_nextDay_20 : decode cX8_nextDay 20 = .ok (.iconst 0, 1) := by decide +kernel
theorem dX8_nextDay_21 : decode cX8_nextDay 21 = .ok (.putfield 100, 3) := by decide +kernel
theorem dX8_nextDay_24 : decode cX8_nextDay 24 = .ok (.iconst 0, 1) := by decide +kernel
theorem dX8_nextDay_25 : decode cX8_nextDay 25 = .ok (.istore_n 1, 1) := by decide +kernel
theorem dX8_nextDay_26 : decode cX8_nextDay 26 = .ok (.iload_n 1, 1) := by decide +kernel
theorem dX8_nextDay_27 : decode cX8_nextDay 27 = .ok (.aload_n 0, 1) := by decide +kernel
theorem dX8_nextDay_28 : decode cX8_nextDay 28 = .ok (.getfield 43, 3) := by decide +kernel
theorem dX8_nextDay_31 : decode cX8_nextDay 31 = .ok (.if_icmp .ge 37, 3) := by decide +kernel
theorem dX8_nextDay_34 : decode cX8_nextDay 34 = .ok (.aload_n 0, 1) := by decide +kernel
theorem dX8_nextDay_35 : decode cX8_nextDay 35 = .ok (.iload_n 1, 1) := by decide +kernel
theorem dX8_nextDay_36 : decode cX8_nextDay 36 = .ok (.invokevirtual 104, 3) := by decide +kernel
theorem dX8_nextDay_39 : decode cX8_nextDay 39 = .ok (.istore_n 2, 1) := by decide +kernel
theorem dX8_nextDay_40 : decode cX8_nextDay 40 = .ok (.iload_n 2, 1) := by decide +kernel
theorem dX8_nextDay_41 : decode cX8_nextDay 41 = .ok (.aload_n 0, 1) := by decide +kernel
theorem dX8_nextDay_42 : decode cX8_nextDay 42 = .ok (.getfield 24, 3) := by decide +kernel
theorem dX8_nextDay_45 : decode cX8_nextDay 45 = .ok (.iload_n 1, 1) := by decide +kernel
theorem dX8_nextDay_46 : decode cX8_nextDay 46 = .ok (.iaload, 1) := by decide +kernel
theorem dX8_nextDay_47 : decode cX8_nextDay 47 = .ok (.if_icmp .eq 15, 3) := by decide +kernel
theorem dX8_nextDay_50 : decode cX8_nextDay 50 = .ok (.aload_n 0, 1) := by decide +kernel
theorem dX8_nextDay_51 : decode cX8_nextDay 51 = .ok (.getfield 24, 3) := by decide +kernel
theorem dX8_nextDay_54 : decode cX8_nextDay 54 = .ok (.iload_n 1, 1) := by decide +kernel
theorem dX8_nextDay_55 : decode cX8_nextDay 55 = .ok (.iload_n 2, 1) := by decide +kernel
theorem dX8_nextDay_56 : decode cX8_nextDay 56 = .ok (.iastore, 1) := by decide +kernel
theorem dX8_nextDay_57 : decode cX8_nextDay 57 = .ok (.aload_n 0, 1) := by decide +kernel
theorem dX8_nextDay_58 : decode cX8_nextDay 58 = .ok (.iconst 1, 1) := by decide +kernel
theorem dX8_nextDay_59 : decode cX8_nextDay 59 = .ok (.putfield 100, 3) := by decide +kernel
theorem dX8_nextDay_62 : decode cX8_nextDay 62 = .ok (.iinc 1 1, 3) := by decide +kernel
theorem dX8_nextDay_65 : decode cX8_nextDay 65 = .ok (.goto (-39), 3) := by decide +kernel
theorem dX8_nextDay_68 : decode cX8_nextDay 68 = .ok (.aload_n 0, 1) := by decide +kernel
theorem dX8_nextDay_69 : decode cX8_nextDay 69 = .ok (.getfield 100, 3) := by decide +kernel
theorem dX8_nextDay_72 : decode cX8_nextDay 72 = .ok (.ireturn, 1) := by decide +kernel
def L_X8_nextDay_26 (N : Nat) (t_kind : Nat → Int32) (t_figure : Nat → Int32) (t_sight : Nat → Int32) (t_people : Int32) (z1 : Int32) : Nat → Int32 → Int32 → (Nat → Int32) → Option (Int32 × Int32 × Int32 × (Nat → Int32))
  | 0, _, _, _ => none
  | n26 + 1, x3, y4, y5 => if t_people ≤ x3 then gd (bz y4) (some (y4, y4, z1, y5)) else ob (f_X8_moodBehindLook N t_kind t_figure y5 t_sight t_people x3) (fun r8 => gd (ix x3 7) (if r8 = (y5 x3.toNatClampNeg) then L_X8_nextDay_26 N t_kind t_figure t_sight t_people z1 n26 (x3 + (1 : Int32)) y4 y5 else gd (ix x3 7) (nm (upd y5 x3.toNatClampNeg r8) (fun f13 => L_X8_nextDay_26 N t_kind t_figure t_sight t_people z1 n26 (x3 + (1 : Int32)) (1 : Int32) f13))))
def f_X8_nextDay (N : Nat) (t_kind : Nat → Int32) (t_figure : Nat → Int32) (t_mood : Nat → Int32) (t_sight : Nat → Int32) (t_moving : Int32) (t_people : Int32) (t_day : Int32) : Option (Int32 × Int32 × Int32 × (Nat → Int32)) := nm (t_day + (1 : Int32)) (fun z1 => if t_moving = 0 then nm (0 : Int32) (fun z14 => some (z14, t_moving, z1, t_mood)) else L_X8_nextDay_26 N t_kind t_figure t_sight t_people z1 N (0 : Int32) (0 : Int32) t_mood)
set_option maxHeartbeats 4000000 in
set_option maxRecDepth 100000 in
theorem c_X8_nextDay (l : Launch) (E : EE) (t_h : Nat) (t_a0 : Nat) (t_a1 : Nat) (t_a2 : Nat) (t_a3 : Nat) (t_a4 : Nat) (t_a5 : Nat) (t_height : Nat → Int32) (t_kind : Nat → Int32) (t_figure : Nat → Int32) (t_rail : Nat → Int32) (t_mood : Nat → Int32) (t_sight : Nat → Int32) (t_moving : Int32) (t_shut : Int32) (t_people : Int32) (t_needed : Int32) (t_day : Int32) (N : Nat) (res : Int32) (w_t_moving : Int32) (w_t_day : Int32) (w_t_mood : Nat → Int32) (hv : f_X8_nextDay N t_kind t_figure t_mood t_sight t_moving t_people t_day = some (res, w_t_moving, w_t_day, w_t_mood)) : Wr l E yX8_nextDay cX8_nextDay 3 (some .boolean) ({ frames := 2, cells := 0, slots := 0, locals := 45 }) [.ref t_h] [oSt t_h t_a0 t_a1 t_a2 t_a3 t_a4 t_a5 t_moving t_shut t_people t_needed t_day, ai E t_a0 10 t_height, ai E t_a1 7 t_kind, ai E t_a2 7 t_figure, ai E t_a3 7 t_rail, ai E t_a4 7 t_mood, ai E t_a5 7 t_sight] [oSt t_h t_a0 t_a1 t_a2 t_a3 t_a4 t_a5 w_t_moving t_shut t_people t_needed w_t_day, ai E t_a0 10 t_height, ai E t_a1 7 t_kind, ai E t_a2 7 t_figure, ai E t_a3 7 t_rail, ai E t_a4 7 w_t_mood, ai E t_a5 7 t_sight] (some (.int res)) := by
  refine Wr.intro RX8 (by decide) rfl (Nat.le_of_ble_eq_true rfl) ?_
  intro p e s m below meth c ls A hC hr hlk hmn hP hD hS hA hG hl
  obtain ⟨hx, hb, hml, hown, ht⟩ := id hC
  have hK := hG.1
  have hl : lv_has ls 3 [(0, .ref t_h)] := hl
  rw [f_X8_nextDay] at hv
  refine lv_aload_n hx hb dX8_nextDay_0 rfl (lv_at hl 0 rfl) ?_
  refine lv_dup hx hb dX8_nextDay_1 rfl ?_
  refine va_get (D := E.1) (ci := 2) (v := .int t_day) (C := RX8) (T := TX8) (N := 11) hx hb ht i_X8 hown hK hP 0 rfl rfl 10 (by decide) (ht _ kw_1_60) (fun _ h9 => h9) rfl dX8_nextDay_2 ?_
  refine lv_iconst (v := (1 : Int32)) hx hb dX8_nextDay_5 (by decide) ?_
  refine lv_iadd hx hb dX8_nextDay_6 ?_
  refine lv_topi (fun z1 ez1 => ?_)
  have hv := nm_s ez1 hv
  refine va_put (D := E.1) (ci := 2) (v := .int z1) (ty := .int) (C := RX8) (T := TX8) (N := 11) hx hb ht i_X8 tyX8 tyX8_ok nmX8 hown hK hP hD hS 0 rfl rfl 10 (by decide) (ht _ kw_1_60) (fun _ h9 => h9) rfl (by decide +kernel) rfl rfl (Nat.le_of_ble_eq_true rfl) dX8_nextDay_7 (fun H locs hP hD hS => ?_)
  have hP : va_P E.1 vwCl [oSt t_h t_a0 t_a1 t_a2 t_a3 t_a4 t_a5 t_moving t_shut t_people t_needed z1, ai E t_a0 10 t_height, ai E t_a1 7 t_kind, ai E t_a2 7 t_figure, ai E t_a3 7 t_rail, ai E t_a4 7 t_mood, ai E t_a5 7 t_sight] H := hP
  have hD : va_D A [oSt t_h t_a0 t_a1 t_a2 t_a3 t_a4 t_a5 t_moving t_shut t_people t_needed z1, ai E t_a0 10 t_height, ai E t_a1 7 t_kind, ai E t_a2 7 t_figure, ai E t_a3 7 t_rail, ai E t_a4 7 t_mood, ai E t_a5 7 t_sight] := hD
  refine lv_aload_n hx hb dX8_nextDay_10 rfl (lv_at hl 0 rfl) ?_
  refine va_get (D := E.1) (ci := 2) (v := .int t_moving) (C := RX8) (T := TX8) (N := 11) hx hb ht i_X8 hown hK hP 0 rfl rfl 6 (by decide) (ht _ kw_1_49) (fun _ h9 => h9) rfl dX8_nextDay_11 ?_
  refine lv_if_ne (tgt := 19) hx hb dX8_nextDay_14 (by decide) (fun c2 => ?_) (fun c2 => ?_)
  · have hv := if_n c2 hv
    refine lv_aload_n hx hb dX8_nextDay_19 rfl (lv_at hl 0 rfl) ?_
    refine lv_iconst (v := (0 : Int32)) hx hb dX8_nextDay_20 (by decide) ?_
    refine va_put (D := E.1) (ci := 2) (v := .int (0 : Int32)) (ty := .boolean) (C := RX8) (T := TX8) (N := 11) hx hb ht i_X8 tyX8 tyX8_ok nmX8 hown hK hP hD hS 0 rfl rfl 6 (by decide) (ht _ kw_1_49) (fun _ h9 => h9) rfl (by decide +kernel) rfl rfl (Nat.le_of_ble_eq_true rfl) dX8_nextDay_21 (fun H locs hP hD hS => ?_)
    have hP : va_P E.1 vwCl [oSt t_h t_a0 t_a1 t_a2 t_a3 t_a4 t_a5 (0 : Int32) t_shut t_people t_needed z1, ai E t_a0 10 t_height, ai E t_a1 7 t_kind, ai E t_a2 7 t_figure, ai E t_a3 7 t_rail, ai E t_a4 7 t_mood, ai E t_a5 7 t_sight] H := hP
    have hD : va_D A [oSt t_h t_a0 t_a1 t_a2 t_a3 t_a4 t_a5 (0 : Int32) t_shut t_people t_needed z1, ai E t_a0 10 t_height, ai E t_a1 7 t_kind, ai E t_a2 7 t_figure, ai E t_a3 7 t_rail, ai E t_a4 7 t_mood, ai E t_a5 7 t_sight] := hD
    refine lv_iconst (v := (0 : Int32)) hx hb dX8_nextDay_24 (by decide) ?_
    refine lv_istore_n (lv' := [(1, .int (0 : Int32)), (0, .ref t_h)]) hx hb dX8_nextDay_25 rfl hl (by decide) rfl (fun ls hl => ?_)
    have hL26 : ∀ (n : Nat) (x3 : Int32) (y4 : Int32) (y5 : Nat → Int32) (H : Heap) (locs : List Loc) (ls : Array Slot), va_P E.1 vwCl [oSt t_h t_a0 t_a1 t_a2 t_a3 t_a4 t_a5 y4 t_shut t_people t_needed z1, ai E t_a0 10 t_height, ai E t_a1 7 t_kind, ai E t_a2 7 t_figure, ai E t_a3 7 t_rail, ai E t_a4 7 y5, ai E t_a5 7 t_sight] H → va_D A [oSt t_h t_a0 t_a1 t_a2 t_a3 t_a4 t_a5 y4 t_shut t_people t_needed z1, ai E t_a0 10 t_height, ai E t_a1 7 t_kind, ai E t_a2 7 t_figure, ai E t_a3 7 t_rail, ai E t_a4 7 y5, ai E t_a5 7 t_sight] → va_S A s.heap H locs → lv_has ls 3 [(1, .int x3), (0, .ref t_h)] → L_X8_nextDay_26 N t_kind t_figure t_sight t_people z1 n x3 y4 y5 = some (res, w_t_moving, w_t_day, w_t_mood) → W p l e ({ frames := 2, cells := 0, slots := 0, locals := 45 }) s m [.ref t_h].toArray below meth c H locs 0 0 (MQ below (fun _ st oc t => oc = .returned (some (.int res)) ∧ va_P E.1 vwCl [oSt t_h t_a0 t_a1 t_a2 t_a3 t_a4 t_a5 w_t_moving t_shut t_people t_needed w_t_day, ai E t_a0 10 t_height, ai E t_a1 7 t_kind, ai E t_a2 7 t_figure, ai E t_a3 7 t_rail, ai E t_a4 7 w_t_mood, ai E t_a5 7 t_sight] t.heap ∧ va_F A st t) [.ref t_h].toArray s 0 0 A) (F0 m 26 ls []) := by
      intro n
      induction n with
      | zero => intro x3 y4 y5 H locs ls hP hD hS hl hv; cases hv
      | succ n26 ih26 =>
        intro x3 y4 y5 H locs ls hP hD hS hl hv
        rw [L_X8_nextDay_26] at hv
        refine lv_iload_n hx hb dX8_nextDay_26 rfl (lv_at hl 0 rfl) ?_
        refine lv_aload_n hx hb dX8_nextDay_27 rfl (lv_at hl 1 rfl) ?_
        refine va_get (D := E.1) (ci := 2) (v := .int t_people) (C := RX8) (T := TX8) (N := 11) hx hb ht i_X8 hown hK hP 0 rfl rfl 8 (by decide) (ht _ kw_1_53) (fun _ h9 => h9) rfl dX8_nextDay_28 ?_
        refine lv_icmp_ge (tgt := 68) hx hb dX8_nextDay_31 (by decide) (fun c6 => ?_) (fun c6 => ?_)
        · have hv := if_y c6 hv
          refine lv_aload_n hx hb dX8_nextDay_68 rfl (lv_at hl 1 rfl) ?_
          refine va_get (D := E.1) (ci := 2) (v := .int y4) (C := RX8) (T := TX8) (N := 11) hx hb ht i_X8 hown hK hP 0 rfl rfl 6 (by decide) (ht _ kw_1_49) (fun _ h9 => h9) rfl dX8_nextDay_69 ?_
          obtain ⟨g7, hv⟩ := gd_s hv
          cases hv
          exact W.zret hx hb hr (bz_s g7) (fun t h9 _ => ⟨rfl, by rw [h9]; exact hP, hS.F h9⟩) hS.2.2 dX8_nextDay_72 hlk
        · have hv := if_n c6 hv
          refine lv_aload_n hx hb dX8_nextDay_34 rfl (lv_at hl 1 rfl) ?_
          refine lv_iload_n hx hb dX8_nextDay_35 rfl (lv_at hl 0 rfl) ?_
          obtain ⟨r8, h9, hv⟩ := ob_s hv
          refine rdV 2 0 (As := [.int x3]) (rest := []) (st1 := [.int r8]) (w := [oSt t_h t_a0 t_a1 t_a2 t_a3 t_a4 t_a5 y4 t_shut t_people t_needed z1, ai E t_a0 10 t_height, ai E t_a1 7 t_kind, ai E t_a2 7 t_figure, ai E t_a3 7 t_rail, ai E t_a4 7 y5, ai E t_a5 7 t_sight]) hC q_X8_moodBehindLook kw_2_27 (c_X8_moodBehindLook l E t_h t_a0 t_a1 t_a2 t_a3 t_a4 t_a5 t_height t_kind t_figure t_rail y5 t_sight y4 t_shut t_people t_needed z1 x3 N r8 h9) ⟨rfl, rfl⟩ ⟨Nat.le_of_ble_eq_true rfl, Nat.le_of_ble_eq_true rfl⟩ ⟨Nat.zero_le _, Nat.zero_le _⟩ hP rfl rfl rfl hG rfl hl.1 rfl (Nat.le_of_ble_eq_true rfl) dX8_nextDay_36 rfl ?_
          refine lv_istore_n (lv' := [(2, .int r8), (1, .int x3), (0, .ref t_h)]) hx hb dX8_nextDay_39 rfl hl (by decide) rfl (fun ls hl => ?_)
          refine lv_iload_n hx hb dX8_nextDay_40 rfl (lv_at hl 0 rfl) ?_
          refine lv_aload_n hx hb dX8_nextDay_41 rfl (lv_at hl 2 rfl) ?_
          refine va_get (D := E.1) (ci := 2) (v := .ref t_a4) (C := RX8) (T := TX8) (N := 11) hx hb ht i_X8 hown hK hP 0 rfl rfl 4 (by decide) (ht _ kw_1_45) (fun _ h9 => h9) rfl dX8_nextDay_42 ?_
          refine lv_iload_n hx hb dX8_nextDay_45 rfl (lv_at hl 1 rfl) ?_
          obtain ⟨g10, hv⟩ := gd_s hv
          refine va_iald hx hb hK hP 5 0 rfl rfl (ix_s g10) dX8_nextDay_46 ?_
          refine lv_icmp_eq (tgt := 62) hx hb dX8_nextDay_47 (by decide) (fun c11 => ?_) (fun c11 => ?_)
          · have hv := if_y c11 hv
            refine lv_iinc (v := (x3 + (1 : Int32))) (lv' := [(1, .int (x3 + (1 : Int32))), (2, .int r8), (0, .ref t_h)]) hx hb dX8_nextDay_62 hl (k := 1) rfl rfl (by decide) rfl (fun ls hl => ?_)
            refine lv_goto (tgt := 26) hx hb dX8_nextDay_65 (by decide) ?_
            exact ih26 (x3 + (1 : Int32)) y4 y5 _ _ _ hP hD hS (lv_sub hl [0, 2] rfl) hv
          · have hv := if_n c11 hv
            refine lv_aload_n hx hb dX8_nextDay_50 rfl (lv_at hl 2 rfl) ?_
            refine va_get (D := E.1) (ci := 2) (v := .ref t_a4) (C := RX8) (T := TX8) (N := 11) hx hb ht i_X8 hown hK hP 0 rfl rfl 4 (by decide) (ht _ kw_1_45) (fun _ h9 => h9) rfl dX8_nextDay_51 ?_
            refine lv_iload_n hx hb dX8_nextDay_54 rfl (lv_at hl 1 rfl) ?_
            refine lv_iload_n hx hb dX8_nextDay_55 rfl (lv_at hl 0 rfl) ?_
            obtain ⟨g12, hv⟩ := gd_s hv
            refine va_iast hx hb hK hP hD hS 5 0 rfl rfl (ix_s g12) dX8_nextDay_56 (fun H locs hP hD hS => ?_)
            have hP : va_P E.1 vwCl [oSt t_h t_a0 t_a1 t_a2 t_a3 t_a4 t_a5 y4 t_shut t_people t_needed z1, ai E t_a0 10 t_height, ai E t_a1 7 t_kind, ai E t_a2 7 t_figure, ai E t_a3 7 t_rail, ai E t_a4 7 (upd y5 x3.toNatClampNeg r8), ai E t_a5 7 t_sight] H := hP
            have hD : va_D A [oSt t_h t_a0 t_a1 t_a2 t_a3 t_a4 t_a5 y4 t_shut t_people t_needed z1, ai E t_a0 10 t_height, ai E t_a1 7 t_kind, ai E t_a2 7 t_figure, ai E t_a3 7 t_rail, ai E t_a4 7 (upd y5 x3.toNatClampNeg r8), ai E t_a5 7 t_sight] := hD
            obtain ⟨f13, ef13⟩ : ∃ z, z = (upd y5 x3.toNatClampNeg r8) := ⟨_, rfl⟩
            rw [← ef13] at hP hD
            have hv := nm_s ef13 hv
            refine lv_aload_n hx hb dX8_nextDay_57 rfl (lv_at hl 2 rfl) ?_
            refine lv_iconst (v := (1 : Int32)) hx hb dX8_nextDay_58 (by decide) ?_
            refine va_put (D := E.1) (ci := 2) (v := .int (1 : Int32)) (ty := .boolean) (C := RX8) (T := TX8) (N := 11) hx hb ht i_X8 tyX8 tyX8_ok nmX8 hown hK hP hD hS 0 rfl rfl 6 (by decide) (ht _ kw_1_49) (fun _ h9 => h9) rfl (by decide +kernel) rfl rfl (Nat.le_of_ble_eq_true rfl) dX8_nextDay_59 (fun H locs hP hD hS => ?_)
            have hP : va_P E.1 vwCl [oSt t_h t_a0 t_a1 t_a2 t_a3 t_a4 t_a5 (1 : Int32) t_shut t_people t_needed z1, ai E t_a0 10 t_height, ai E t_a1 7 t_kind, ai E t_a2 7 t_figure, ai E t_a3 7 t_rail, ai E t_a4 7 f13, ai E t_a5 7 t_sight] H := hP
            have hD : va_D A [oSt t_h t_a0 t_a1 t_a2 t_a3 t_a4 t_a5 (1 : Int32) t_shut t_people t_needed z1, ai E t_a0 10 t_height, ai E t_a1 7 t_kind, ai E t_a2 7 t_figure, ai E t_a3 7 t_rail, ai E t_a4 7 f13, ai E t_a5 7 t_sight] := hD
            refine lv_iinc (v := (x3 + (1 : Int32))) (lv' := [(1, .int (x3 + (1 : Int32))), (2, .int r8), (0, .ref t_h)]) hx hb dX8_nextDay_62 hl (k := 1) rfl rfl (by decide) rfl (fun ls hl => ?_)
            refine lv_goto (tgt := 26) hx hb dX8_nextDay_65 (by decide) ?_
            exact ih26 (x3 + (1 : Int32)) (1 : Int32) f13 _ _ _ hP hD hS (lv_sub hl [0, 2] rfl) hv
    exact hL26 N (0 : Int32) (0 : Int32) t_mood _ _ _ hP hD hS (lv_sub hl [0, 1] rfl) hv
  · have hv := if_y c2 hv
    refine lv_iconst (v := (0 : Int32)) hx hb dX8_nextDay_17 (by decide) ?_
    refine lv_topi (fun z14 ez14 => ?_)
    have hv := nm_s ez14 hv
    have hn9 : narrow .boolean (.int z14) = .int z14 := (by rw [ez14]; rfl)
    cases hv
    exact W.zret hx hb hr hn9 (fun t h9 _ => ⟨rfl, by rw [h9]; exact hP, hS.F h9⟩) hS.2.2 dX8_nextDay_18 hlk
theorem dX8_live_0 : decode cX8_live 0 = .ok (.aload_n 0, 1) := by decide +kernel
theorem dX8_live_1 : decode cX8_live 1 = .ok (.invokevirtual 122, 3) := by decide +kernel
theorem dX8_live_4 : decode cX8_live 4 = .ok (.iconst 0, 1) := by decide +kernel
theorem dX8_live_5 : decode cX8_live 5 = .ok (.istore_n 2, 1) := by decide +kernel
theorem dX8_live_6 : decode cX8_live 6 = .ok (.iload_n 2, 1) := by decide +kernel
theorem dX8_live_7 : decode cX8_live 7 = .ok (.iload_n 1, 1) := by decide +kernel
theorem dX8_live_8 : decode cX8_live 8 = .ok (.if_icmp .ge 14, 3) := by decide +kernel
theorem dX8_live_11 : decode cX8_live 11 = .ok (.aload_n 0, 1) := by decide +kernel
theorem dX8_live_12 : decode cX8_live 12 = .ok (.invokevirtual 125, 3) := by decide +kernel
theorem dX8_live_15 : decode cX8_live 15 = .ok (.pop, 1) := by decide +kernel
theorem dX8_live_16 : decode cX8_live 16 = .ok (.iinc 2 1, 3) := by decide +kernel
theorem dX8_live_19 : decode cX8_live 19 = .ok (.goto (-13), 3) := by decide +kernel
theorem dX8_live_22 : decode cX8_live 22 = .ok (.return_, 1) := by decide +kernel
def L_X8_live_6 (N : Nat) (t_kind : Nat → Int32) (t_figure : Nat → Int32) (t_people : Int32) (p1 : Int32) (y2 : Nat → Int32) : Nat → Int32 → Int32 → Int32 → (Nat → Int32) → Option (Int32 × Int32 × (Nat → Int32) × (Nat → Int32))
  | 0, _, _, _, _ => none
  | n6 + 1, x4, y5, y6, y7 => if p1 ≤ x4 then some (y5, y6, y7, y2) else ob (f_X8_nextDay N t_kind t_figure y7 y2 y5 t_people y6) (fun (r9, y10, y11, y12) => L_X8_live_6 N t_kind t_figure t_people p1 y2 n6 (x4 + (1 : Int32)) y10 y11 y12)
def f_X8_live (N : Nat) (t_height : Nat → Int32) (t_kind : Nat → Int32) (t_figure : Nat → Int32) (t_rail : Nat → Int32) (t_mood : Nat → Int32) (t_sight : Nat → Int32) (t_shut : Int32) (t_people : Int32) (t_day : Int32) (p1 : Int32) : Option (Int32 × Int32 × (Nat → Int32) × (Nat → Int32)) := ob (f_X8_startDays N t_height t_rail t_sight t_shut t_people) (fun (y1, y2) => L_X8_live_6 N t_kind t_figure t_people p1 y2 N (0 : Int32) y1 t_day t_mood)
set_option maxHeartbeats 4000000 in
set_option maxRecDepth 100000 in
theorem c_X8_live (l : Launch) (E : EE) (t_h : Nat) (t_a0 : Nat) (t_a1 : Nat) (t_a2 : Nat) (t_a3 : Nat) (t_a4 : Nat) (t_a5 : Nat) (t_height : Nat → Int32) (t_kind : Nat → Int32) (t_figure : Nat → Int32) (t_rail : Nat → Int32) (t_mood : Nat → Int32) (t_sight : Nat → Int32) (t_moving : Int32) (t_shut : Int32) (t_people : Int32) (t_needed : Int32) (t_day : Int32) (p1 : Int32) (N : Nat) (w_t_moving : Int32) (w_t_day : Int32) (w_t_mood : Nat → Int32) (w_t_sight : Nat → Int32) (hv : f_X8_live N t_height t_kind t_figure t_rail t_mood t_sight t_shut t_people t_day p1 = some (w_t_moving, w_t_day, w_t_mood, w_t_sight)) : Wr l E yX8_live cX8_live 3 none ({ frames := 3, cells := 0, slots := 0, locals := 67 }) [.ref t_h, .int p1] [oSt t_h t_a0 t_a1 t_a2 t_a3 t_a4 t_a5 t_moving t_shut t_people t_needed t_day, ai E t_a0 10 t_height, ai E t_a1 7 t_kind, ai E t_a2 7 t_figure, ai E t_a3 7 t_rail, ai E t_a4 7 t_mood, ai E t_a5 7 t_sight] [oSt t_h t_a0 t_a1 t_a2 t_a3 t_a4 t_a5 w_t_moving t_shut t_people t_needed w_t_day, ai E t_a0 10 t_height, ai E t_a1 7 t_kind, ai E t_a2 7 t_figure, ai E t_a3 7 t_rail, ai E t_a4 7 w_t_mood, ai E t_a5 7 w_t_sight] none := by
  refine Wr.intro RX8 (by decide) rfl (Nat.le_of_ble_eq_true rfl) ?_
  intro p e s m below meth c ls A hC hr hlk hmn hP hD hS hA hG hl
  obtain ⟨hx, hb, hml, hown, ht⟩ := id hC
  have hK := hG.1
  have hl : lv_has ls 3 [(0, .ref t_h), (1, .int p1)] := hl
  rw [f_X8_live] at hv
  refine lv_aload_n hx hb dX8_live_0 rfl (lv_at hl 0 rfl) ?_
  obtain ⟨⟨y1, y2⟩, h3, hv⟩ := ob_s hv
  refine wrV (as := [t_h, t_a0, t_a1, t_a2, t_a3, t_a4, t_a5]) (wr := []) [0, 1, 2, 3, 4, 5, 6] [] 2 0 (ws := [oSt t_h t_a0 t_a1 t_a2 t_a3 t_a4 t_a5 t_moving t_shut t_people t_needed t_day, ai E t_a0 10 t_height, ai E t_a1 7 t_kind, ai E t_a2 7 t_figure, ai E t_a3 7 t_rail, ai E t_a4 7 t_mood, ai E t_a5 7 t_sight]) (ws' := [oSt t_h t_a0 t_a1 t_a2 t_a3 t_a4 t_a5 y1 t_shut t_people t_needed t_day, ai E t_a0 10 t_height, ai E t_a1 7 t_kind, ai E t_a2 7 t_figure, ai E t_a3 7 t_rail, ai E t_a4 7 t_mood, ai E t_a5 7 y2]) (As := []) (rest := []) (st1 := []) hC q_X8_startDays kw_2_5 (c_X8_startDays l E t_h t_a0 t_a1 t_a2 t_a3 t_a4 t_a5 t_height t_kind t_figure t_rail t_mood t_sight t_moving t_shut t_people t_needed t_day N y1 y2 h3) ⟨rfl, rfl⟩ ⟨Nat.le_of_ble_eq_true rfl, Nat.le_of_ble_eq_true rfl⟩ ⟨Nat.zero_le _, Nat.zero_le _⟩ hP hD hS hA rfl rfl rfl hG (by decide) rfl rfl rfl rfl rfl rfl rfl rfl hl.1 rfl (Nat.le_of_ble_eq_true rfl) dX8_live_1 rfl (fun H locs hP hD hS => ?_)
  refine lv_iconst (v := (0 : Int32)) hx hb dX8_live_4 (by decide) ?_
  refine lv_istore_n (lv' := [(2, .int (0 : Int32)), (0, .ref t_h), (1, .int p1)]) hx hb dX8_live_5 rfl hl (by decide) rfl (fun ls hl => ?_)
  have hL6 : ∀ (n : Nat) (x4 : Int32) (y5 : Int32) (y6 : Int32) (y7 : Nat → Int32) (H : Heap) (locs : List Loc) (ls : Array Slot), va_P E.1 vwCl [oSt t_h t_a0 t_a1 t_a2 t_a3 t_a4 t_a5 y5 t_shut t_people t_needed y6, ai E t_a0 10 t_height, ai E t_a1 7 t_kind, ai E t_a2 7 t_figure, ai E t_a3 7 t_rail, ai E t_a4 7 y7, ai E t_a5 7 y2] H → va_D A [oSt t_h t_a0 t_a1 t_a2 t_a3 t_a4 t_a5 y5 t_shut t_people t_needed y6, ai E t_a0 10 t_height, ai E t_a1 7 t_kind, ai E t_a2 7 t_figure, ai E t_a3 7 t_rail, ai E t_a4 7 y7, ai E t_a5 7 y2] → va_S A s.heap H locs → lv_has ls 3 [(2, .int x4), (0, .ref t_h), (1, .int p1)] → L_X8_live_6 N t_kind t_figure t_people p1 y2 n x4 y5 y6 y7 = some (w_t_moving, w_t_day, w_t_mood, w_t_sight) → W p l e ({ frames := 3, cells := 0, slots := 0, locals := 67 }) s m [.ref t_h, .int p1].toArray below meth c H locs 0 0 (MQ below (fun _ st oc t => oc = .returned none ∧ va_P E.1 vwCl [oSt t_h t_a0 t_a1 t_a2 t_a3 t_a4 t_a5 w_t_moving t_shut t_people t_needed w_t_day, ai E t_a0 10 t_height, ai E t_a1 7 t_kind, ai E t_a2 7 t_figure, ai E t_a3 7 t_rail, ai E t_a4 7 w_t_mood, ai E t_a5 7 w_t_sight] t.heap ∧ va_F A st t) [.ref t_h, .int p1].toArray s 0 0 A) (F0 m 6 ls []) := by
    intro n
    induction n with
    | zero => intro x4 y5 y6 y7 H locs ls hP hD hS hl hv; cases hv
    | succ n6 ih6 =>
      intro x4 y5 y6 y7 H locs ls hP hD hS hl hv
      rw [L_X8_live_6] at hv
      refine lv_iload_n hx hb dX8_live_6 rfl (lv_at hl 0 rfl) ?_
      refine lv_iload_n hx hb dX8_live_7 rfl (lv_at hl 2 rfl) ?_
      refine lv_icmp_ge (tgt := 22) hx hb dX8_live_8 (by decide) (fun c8 => ?_) (fun c8 => ?_)
      · have hv := if_y c8 hv
        cases hv
        exact W.vret hx hb hr (fun t h9 _ => ⟨rfl, by rw [h9]; exact hP, hS.F h9⟩) hS.2.2 dX8_live_22 hlk
      · have hv := if_n c8 hv
        refine lv_aload_n hx hb dX8_live_11 rfl (lv_at hl 1 rfl) ?_
        obtain ⟨⟨r9, y10, y11, y12⟩, h13, hv⟩ := ob_s hv
        refine wrV (as := [t_h, t_a0, t_a1, t_a2, t_a3, t_a4, t_a5]) (wr := []) [0, 1, 2, 3, 4, 5, 6] [] 2 0 (ws := [oSt t_h t_a0 t_a1 t_a2 t_a3 t_a4 t_a5 y5 t_shut t_people t_needed y6, ai E t_a0 10 t_height, ai E t_a1 7 t_kind, ai E t_a2 7 t_figure, ai E t_a3 7 t_rail, ai E t_a4 7 y7, ai E t_a5 7 y2]) (ws' := [oSt t_h t_a0 t_a1 t_a2 t_a3 t_a4 t_a5 y10 t_shut t_people t_needed y11, ai E t_a0 10 t_height, ai E t_a1 7 t_kind, ai E t_a2 7 t_figure, ai E t_a3 7 t_rail, ai E t_a4 7 y12, ai E t_a5 7 y2]) (As := []) (rest := []) (st1 := [.int r9]) hC q_X8_nextDay kw_2_23 (c_X8_nextDay l E t_h t_a0 t_a1 t_a2 t_a3 t_a4 t_a5 t_height t_kind t_figure t_rail y7 y2 y5 t_shut t_people t_needed y6 N r9 y10 y11 y12 h13) ⟨rfl, rfl⟩ ⟨Nat.le_of_ble_eq_true rfl, Nat.le_of_ble_eq_true rfl⟩ ⟨Nat.zero_le _, Nat.zero_le _⟩ hP hD hS hA rfl rfl rfl hG (by decide) rfl rfl rfl rfl rfl rfl rfl rfl hl.1 rfl (Nat.le_of_ble_eq_true rfl) dX8_live_12 rfl (fun H locs hP hD hS => ?_)
        refine lv_pop hx hb dX8_live_15 rfl ?_
        refine lv_iinc (v := (x4 + (1 : Int32))) (lv' := [(2, .int (x4 + (1 : Int32))), (0, .ref t_h), (1, .int p1)]) hx hb dX8_live_16 hl (k := 0) rfl rfl (by decide) rfl (fun ls hl => ?_)
        refine lv_goto (tgt := 6) hx hb dX8_live_19 (by decide) ?_
        exact ih6 (x4 + (1 : Int32)) y10 y11 y12 _ _ _ hP hD hS (lv_sub hl [0, 1, 2] rfl) hv
  exact hL6 N (0 : Int32) y1 t_day t_mood _ _ _ hP hD hS (lv_sub hl [0, 1, 2] rfl) hv
theorem dX8_carriedDays_0 : decode cX8_carriedDays 0 = .ok (.aload_n 0, 1) := by decide +kernel
theorem dX8_carriedDays_1 : decode cX8_carriedDays 1 = .ok (.invokevirtual 122, 3) := by decide +kernel
theorem dX8_carriedDays_4 : decode cX8_carriedDays 4 = .ok (.iconst 0, 1) := by decide +kernel
theorem dX8_carriedDays_5 : decode cX8_carriedDays 5 = .ok (.istore_n 2, 1) := by decide +kernel
theorem dX8_carriedDays_6 : decode cX8_carriedDays 6 = .ok (.aload_n 0, 1) := by decide +kernel
theorem dX8_carriedDays_7 : decode cX8_carriedDays 7 = .ok (.invokevirtual 128, 3) := by decide +kernel
theorem dX8_carriedDays_10 : decode cX8_carriedDays 10 = .ok (.istore_n 3, 1) := by decide +kernel
theorem dX8_carriedDays_11 : decode cX8_carriedDays 11 = .ok (.iconst 0, 1) := by decide +kernel
theorem dX8_carriedDays_12 : decode cX8_carriedDays 12 = .ok (.istore 4, 2) := by decide +kernel
theorem dX8_carriedDays_14 : decode cX8_carriedDays 14 = .ok (.iload 4, 2) := by decide +kernel
theorem dX8_carriedDays_16 : decode cX8_carriedDays 16 = .ok (.iload_n 1, 1) := by decide +kernel
theorem dX8_carriedDays_17 : decode cX8_carriedDays 17 = .ok (.if_icmp .ge 28, 3) := by decide +kernel
theorem dX8_carriedDays_20 : decode cX8_carriedDays 20 = .ok (.aload_n 0, 1) := by decide +kernel
theorem dX8_carriedDays_21 : decode cX8_carriedDays 21 = .ok (.invokevirtual 125, 3) := by decide +kernel
theorem dX8_carriedDays_24 : decode cX8_carriedDays 24 = .ok (.ifCond .eq 8, 3) := by decide +kernel
theorem dX8_carriedDays_27 : decode cX8_carriedDays 27 = .ok (.aload_n 0, 1) := by decide +kernel
theorem dX8_carriedDays_28 : decode cX8_carriedDays 28 = .ok (.invokevirtual 128, 3) := by decide +kernel
theorem dX8_carriedDays_31 : decode cX8_carriedDays 31 = .ok (.istore_n 3, 1) := by decide +kernel
theorem dX8_carriedDays_32 : decode cX8_carriedDays 32 = .ok (.iload_n 2, 1) := by decide +kernel
theorem dX8_carriedDays_33 : decode cX8_carriedDays 33 = .ok (.iload_n 3, 1) := by decide +kernel
theorem dX8_carriedDays_34 : decode cX8_carriedDays 34 = .ok (.invokestatic 131, 3) := by decide +kernel
theorem dX8_carriedDays_37 : decode cX8_carriedDays 37 = .ok (.iadd, 1) := by decide +kernel
theorem dX8_carriedDays_38 : decode cX8_carriedDays 38 = .ok (.istore_n 2, 1) := by decide +kernel
theorem dX8_carriedDays_39 : decode cX8_carriedDays 39 = .ok (.iinc 4 1, 3) := by decide +kernel
theorem dX8_carriedDays_42 : decode cX8_carriedDays 42 = .ok (.goto (-28), 3) := by decide +kernel
theorem dX8_carriedDays_45 : decode cX8_carriedDays 45 = .ok (.iload_n 2, 1) := by decide +kernel
theorem dX8_carriedDays_46 : decode cX8_carriedDays 46 = .ok (.ireturn, 1) := by decide +kernel
def L_X8_carriedDays_14 (N : Nat) (t_height : Nat → Int32) (t_kind : Nat → Int32) (t_figure : Nat → Int32) (t_rail : Nat → Int32) (t_shut : Int32) (t_people : Int32) (t_needed : Int32) (p1 : Int32) (y2 : Nat → Int32) : Nat → Int32 → Int32 → Int32 → Int32 → Int32 → (Nat → Int32) → Option (Int32 × Int32 × Int32 × (Nat → Int32) × (Nat → Int32))
  | 0, _, _, _, _, _, _ => none
  | n14 + 1, x6, x7, x8, y9, y10, y11 => if p1 ≤ x6 then some (x8, y9, y10, y11, y2) else ob (f_X8_nextDay N t_kind t_figure y11 y2 y9 t_people y10) (fun (r13, y14, y15, y16) => if r13 = 0 then ob (f_X9_oneIf x7) (fun r19 => L_X8_carriedDays_14 N t_height t_kind t_figure t_rail t_shut t_people t_needed p1 y2 n14 (x6 + (1 : Int32)) x7 (x8 + r19) y14 y15 y16) else ob (f_X8_isCarried N t_height t_kind t_figure t_rail y16 t_shut t_people t_needed) (fun r21 => ob (f_X9_oneIf r21) (fun r23 => L_X8_carriedDays_14 N t_height t_kind t_figure t_rail t_shut t_people t_needed p1 y2 n14 (x6 + (1 : Int32)) r21 (x8 + r23) y14 y15 y16)))
def f_X8_carriedDays (N : Nat) (t_height : Nat → Int32) (t_kind : Nat → Int32) (t_figure : Nat → Int32) (t_rail : Nat → Int32) (t_mood : Nat → Int32) (t_sight : Nat → Int32) (t_shut : Int32) (t_people : Int32) (t_needed : Int32) (t_day : Int32) (p1 : Int32) : Option (Int32 × Int32 × Int32 × (Nat → Int32) × (Nat → Int32)) := ob (f_X8_startDays N t_height t_rail t_sight t_shut t_people) (fun (y1, y2) => ob (f_X8_isCarried N t_height t_kind t_figure t_rail t_mood t_shut t_people t_needed) (fun r4 => L_X8_carriedDays_14 N t_height t_kind t_figure t_rail t_shut t_people t_needed p1 y2 N (0 : Int32) r4 (0 : Int32) y1 t_day t_mood))
set_option maxHeartbeats 4000000 in
set_option maxRecDepth 100000 in
theorem c_X8_carriedDays (l : Launch) (E : EE) (t_h : Nat) (t_a0 : Nat) (t_a1 : Nat) (t_a2 : Nat) (t_a3 : Nat) (t_a4 : Nat) (t_a5 : Nat) (t_height : Nat → Int32) (t_kind : Nat → Int32) (t_figure : Nat → Int32) (t_rail : Nat → Int32) (t_mood : Nat → Int32) (t_sight : Nat → Int32) (t_moving : Int32) (t_shut : Int32) (t_people : Int32) (t_needed : Int32) (t_day : Int32) (p1 : Int32) (N : Nat) (res : Int32) (w_t_moving : Int32) (w_t_day : Int32) (w_t_mood : Nat → Int32) (w_t_sight : Nat → Int32) (hv : f_X8_carriedDays N t_height t_kind t_figure t_rail t_mood t_sight t_shut t_people t_needed t_day p1 = some (res, w_t_moving, w_t_day, w_t_mood, w_t_sight)) : Wr l E yX8_carriedDays cX8_carriedDays 5 (some .int) ({ frames := 5, cells := 0, slots := 0, locals := 109 }) [.ref t_h, .int p1] [oSt t_h t_a0 t_a1 t_a2 t_a3 t_a4 t_a5 t_moving t_shut t_people t_needed t_day, ai E t_a0 10 t_height, ai E t_a1 7 t_kind, ai E t_a2 7 t_figure, ai E t_a3 7 t_rail, ai E t_a4 7 t_mood, ai E t_a5 7 t_sight] [oSt t_h t_a0 t_a1 t_a2 t_a3 t_a4 t_a5 w_t_moving t_shut t_people t_needed w_t_day, ai E t_a0 10 t_height, ai E t_a1 7 t_kind, ai E t_a2 7 t_figure, ai E t_a3 7 t_rail, ai E t_a4 7 w_t_mood, ai E t_a5 7 w_t_sight] (some (.int res)) := by
  refine Wr.intro RX8 (by decide) rfl (Nat.le_of_ble_eq_true rfl) ?_
  intro p e s m below meth c ls A hC hr hlk hmn hP hD hS hA hG hl
  obtain ⟨hx, hb, hml, hown, ht⟩ := id hC
  have hK := hG.1
  have hl : lv_has ls 5 [(0, .ref t_h), (1, .int p1)] := hl
  rw [f_X8_carriedDays] at hv
  refine lv_aload_n hx hb dX8_carriedDays_0 rfl (lv_at hl 0 rfl) ?_
  obtain ⟨⟨y1, y2⟩, h3, hv⟩ := ob_s hv
  refine wrV (as := [t_h, t_a0, t_a1, t_a2, t_a3, t_a4, t_a5]) (wr := []) [0, 1, 2, 3, 4, 5, 6] [] 2 0 (ws := [oSt t_h t_a0 t_a1 t_a2 t_a3 t_a4 t_a5 t_moving t_shut t_people t_needed t_day, ai E t_a0 10 t_height, ai E t_a1 7 t_kind, ai E t_a2 7 t_figure, ai E t_a3 7 t_rail, ai E t_a4 7 t_mood, ai E t_a5 7 t_sight]) (ws' := [oSt t_h t_a0 t_a1 t_a2 t_a3 t_a4 t_a5 y1 t_shut t_people t_needed t_day, ai E t_a0 10 t_height, ai E t_a1 7 t_kind, ai E t_a2 7 t_figure, ai E t_a3 7 t_rail, ai E t_a4 7 t_mood, ai E t_a5 7 y2]) (As := []) (rest := []) (st1 := []) hC q_X8_startDays kw_2_5 (c_X8_startDays l E t_h t_a0 t_a1 t_a2 t_a3 t_a4 t_a5 t_height t_kind t_figure t_rail t_mood t_sight t_moving t_shut t_people t_needed t_day N y1 y2 h3) ⟨rfl, rfl⟩ ⟨Nat.le_of_ble_eq_true rfl, Nat.le_of_ble_eq_true rfl⟩ ⟨Nat.zero_le _, Nat.zero_le _⟩ hP hD hS hA rfl rfl rfl hG (by decide) rfl rfl rfl rfl rfl rfl rfl rfl hl.1 rfl (Nat.le_of_ble_eq_true rfl) dX8_carriedDays_1 rfl (fun H locs hP hD hS => ?_)
  refine lv_iconst (v := (0 : Int32)) hx hb dX8_carriedDays_4 (by decide) ?_
  refine lv_istore_n (lv' := [(2, .int (0 : Int32)), (0, .ref t_h), (1, .int p1)]) hx hb dX8_carriedDays_5 rfl hl (by decide) rfl (fun ls hl => ?_)
  refine lv_aload_n hx hb dX8_carriedDays_6 rfl (lv_at hl 1 rfl) ?_
  obtain ⟨r4, h5, hv⟩ := ob_s hv
  refine rdV 2 0 (As := []) (rest := []) (st1 := [.int r4]) (w := [oSt t_h t_a0 t_a1 t_a2 t_a3 t_a4 t_a5 y1 t_shut t_people t_needed t_day, ai E t_a0 10 t_height, ai E t_a1 7 t_kind, ai E t_a2 7 t_figure, ai E t_a3 7 t_rail, ai E t_a4 7 t_mood, ai E t_a5 7 y2]) hC q_X8_isCarried kw_2_178 (c_X8_isCarried l E t_h t_a0 t_a1 t_a2 t_a3 t_a4 t_a5 t_height t_kind t_figure t_rail t_mood y2 y1 t_shut t_people t_needed t_day N r4 h5) ⟨rfl, rfl⟩ ⟨Nat.le_of_ble_eq_true rfl, Nat.le_of_ble_eq_true rfl⟩ ⟨Nat.zero_le _, Nat.zero_le _⟩ hP rfl rfl rfl hG rfl hl.1 rfl (Nat.le_of_ble_eq_true rfl) dX8_carriedDays_7 rfl ?_
  refine lv_istore_n (lv' := [(3, .int r4), (2, .int (0 : Int32)), (0, .ref t_h), (1, .int p1)]) hx hb dX8_carriedDays_10 rfl hl (by decide) rfl (fun ls hl => ?_)
  refine lv_iconst (v := (0 : Int32)) hx hb dX8_carriedDays_11 (by decide) ?_
  refine lv_istore (lv' := [(4, .int (0 : Int32)), (3, .int r4), (2, .int (0 : Int32)), (0, .ref t_h), (1, .int p1)]) hx hb dX8_carriedDays_12 hl (by decide) rfl (fun ls hl => ?_)
  have hL14 : ∀ (n : Nat) (x6 : Int32) (x7 : Int32) (x8 : Int32) (y9 : Int32) (y10 : Int32) (y11 : Nat → Int32) (H : Heap) (locs : List Loc) (ls : Array Slot), va_P E.1 vwCl [oSt t_h t_a0 t_a1 t_a2 t_a3 t_a4 t_a5 y9 t_shut t_people t_needed y10, ai E t_a0 10 t_height, ai E t_a1 7 t_kind, ai E t_a2 7 t_figure, ai E t_a3 7 t_rail, ai E t_a4 7 y11, ai E t_a5 7 y2] H → va_D A [oSt t_h t_a0 t_a1 t_a2 t_a3 t_a4 t_a5 y9 t_shut t_people t_needed y10, ai E t_a0 10 t_height, ai E t_a1 7 t_kind, ai E t_a2 7 t_figure, ai E t_a3 7 t_rail, ai E t_a4 7 y11, ai E t_a5 7 y2] → va_S A s.heap H locs → lv_has ls 5 [(4, .int x6), (3, .int x7), (2, .int x8), (0, .ref t_h), (1, .int p1)] → L_X8_carriedDays_14 N t_height t_kind t_figure t_rail t_shut t_people t_needed p1 y2 n x6 x7 x8 y9 y10 y11 = some (res, w_t_moving, w_t_day, w_t_mood, w_t_sight) → W p l e ({ frames := 5, cells := 0, slots := 0, locals := 109 }) s m [.ref t_h, .int p1].toArray below meth c H locs 0 0 (MQ below (fun _ st oc t => oc = .returned (some (.int res)) ∧ va_P E.1 vwCl [oSt t_h t_a0 t_a1 t_a2 t_a3 t_a4 t_a5 w_t_moving t_shut t_people t_needed w_t_day, ai E t_a0 10 t_height, ai E t_a1 7 t_kind, ai E t_a2 7 t_figure, ai E t_a3 7 t_rail, ai E t_a4 7 w_t_mood, ai E t_a5 7 w_t_sight] t.heap ∧ va_F A st t) [.ref t_h, .int p1].toArray s 0 0 A) (F0 m 14 ls []) := by
    intro n
    induction n with
    | zero => intro x6 x7 x8 y9 y10 y11 H locs ls hP hD hS hl hv; cases hv
    | succ n14 ih14 =>
      intro x6 x7 x8 y9 y10 y11 H locs ls hP hD hS hl hv
      rw [L_X8_carriedDays_14] at hv
      refine lv_iload hx hb dX8_carriedDays_14 (lv_at hl 0 rfl) ?_
      refine lv_iload_n hx hb dX8_carriedDays_16 rfl (lv_at hl 4 rfl) ?_
      refine lv_icmp_ge (tgt := 45) hx hb dX8_carriedDays_17 (by decide) (fun c12 => ?_) (fun c12 => ?_)
      · have hv := if_y c12 hv
        refine lv_iload_n hx hb dX8_carriedDays_45 rfl (lv_at hl 2 rfl) ?_
        cases hv
        exact W.iret hx hb hr (fun t h9 _ => ⟨rfl, by rw [h9]; exact hP, hS.F h9⟩) hS.2.2 dX8_carriedDays_46 hlk
      · have hv := if_n c12 hv
        refine lv_aload_n hx hb dX8_carriedDays_20 rfl (lv_at hl 3 rfl) ?_
        obtain ⟨⟨r13, y14, y15, y16⟩, h17, hv⟩ := ob_s hv
        refine wrV (as := [t_h, t_a0, t_a1, t_a2, t_a3, t_a4, t_a5]) (wr := []) [0, 1, 2, 3, 4, 5, 6] [] 2 0 (ws := [oSt t_h t_a0 t_a1 t_a2 t_a3 t_a4 t_a5 y9 t_shut t_people t_needed y10, ai E t_a0 10 t_height, ai E t_a1 7 t_kind, ai E t_a2 7 t_figure, ai E t_a3 7 t_rail, ai E t_a4 7 y11, ai E t_a5 7 y2]) (ws' := [oSt t_h t_a0 t_a1 t_a2 t_a3 t_a4 t_a5 y14 t_shut t_people t_needed y15, ai E t_a0 10 t_height, ai E t_a1 7 t_kind, ai E t_a2 7 t_figure, ai E t_a3 7 t_rail, ai E t_a4 7 y16, ai E t_a5 7 y2]) (As := []) (rest := []) (st1 := [.int r13]) hC q_X8_nextDay kw_2_23 (c_X8_nextDay l E t_h t_a0 t_a1 t_a2 t_a3 t_a4 t_a5 t_height t_kind t_figure t_rail y11 y2 y9 t_shut t_people t_needed y10 N r13 y14 y15 y16 h17) ⟨rfl, rfl⟩ ⟨Nat.le_of_ble_eq_true rfl, Nat.le_of_ble_eq_true rfl⟩ ⟨Nat.zero_le _, Nat.zero_le _⟩ hP hD hS hA rfl rfl rfl hG (by decide) rfl rfl rfl rfl rfl rfl rfl rfl hl.1 rfl (Nat.le_of_ble_eq_true rfl) dX8_carriedDays_21 rfl (fun H locs hP hD hS => ?_)
        refine lv_if_eq (tgt := 32) hx hb dX8_carriedDays_24 (by decide) (fun c18 => ?_) (fun c18 => ?_)
        · have hv := if_y c18 hv
          refine lv_iload_n hx hb dX8_carriedDays_32 rfl (lv_at hl 2 rfl) ?_
          refine lv_iload_n hx hb dX8_carriedDays_33 rfl (lv_at hl 1 rfl) ?_
          obtain ⟨r19, h20, hv⟩ := ob_s hv
          refine rdSN (rest := [.int x8]) (st1 := [.int r19, .int x8]) (w := []) hC q_X9_oneIf (List.mem_of_getElem? (i := 5) rfl) (c_X9_oneIf l E x7 r19 h20) ⟨rfl, rfl⟩ ⟨Nat.le_of_ble_eq_true rfl, Nat.le_of_ble_eq_true rfl⟩ ⟨Nat.zero_le _, Nat.zero_le _⟩ (hP.sub (ws' := []) [] rfl) hG rfl hl.1 rfl (Nat.le_of_ble_eq_true rfl) dX8_carriedDays_34 rfl ?_
          refine lv_iadd hx hb dX8_carriedDays_37 ?_
          refine lv_istore_n (lv' := [(2, .int (x8 + r19)), (4, .int x6), (3, .int x7), (0, .ref t_h), (1, .int p1)]) hx hb dX8_carriedDays_38 rfl hl (by decide) rfl (fun ls hl => ?_)
          refine lv_iinc (v := (x6 + (1 : Int32))) (lv' := [(4, .int (x6 + (1 : Int32))), (2, .int (x8 + r19)), (3, .int x7), (0, .ref t_h), (1, .int p1)]) hx hb dX8_carriedDays_39 hl (k := 1) rfl rfl (by decide) rfl (fun ls hl => ?_)
          refine lv_goto (tgt := 14) hx hb dX8_carriedDays_42 (by decide) ?_
          exact ih14 (x6 + (1 : Int32)) x7 (x8 + r19) y14 y15 y16 _ _ _ hP hD hS (lv_sub hl [0, 2, 1, 3, 4] rfl) hv
        · have hv := if_n c18 hv
          refine lv_aload_n hx hb dX8_carriedDays_27 rfl (lv_at hl 3 rfl) ?_
          obtain ⟨r21, h22, hv⟩ := ob_s hv
          refine rdV 2 0 (As := []) (rest := []) (st1 := [.int r21]) (w := [oSt t_h t_a0 t_a1 t_a2 t_a3 t_a4 t_a5 y14 t_shut t_people t_needed y15, ai E t_a0 10 t_height, ai E t_a1 7 t_kind, ai E t_a2 7 t_figure, ai E t_a3 7 t_rail, ai E t_a4 7 y16, ai E t_a5 7 y2]) hC q_X8_isCarried kw_2_178 (c_X8_isCarried l E t_h t_a0 t_a1 t_a2 t_a3 t_a4 t_a5 t_height t_kind t_figure t_rail y16 y2 y14 t_shut t_people t_needed y15 N r21 h22) ⟨rfl, rfl⟩ ⟨Nat.le_of_ble_eq_true rfl, Nat.le_of_ble_eq_true rfl⟩ ⟨Nat.zero_le _, Nat.zero_le _⟩ hP rfl rfl rfl hG rfl hl.1 rfl (Nat.le_of_ble_eq_true rfl) dX8_carriedDays_28 rfl ?_
          refine lv_istore_n (lv' := [(3, .int r21), (4, .int x6), (2, .int x8), (0, .ref t_h), (1, .int p1)]) hx hb dX8_carriedDays_31 rfl hl (by decide) rfl (fun ls hl => ?_)
          refine lv_iload_n hx hb dX8_carriedDays_32 rfl (lv_at hl 2 rfl) ?_
          refine lv_iload_n hx hb dX8_carriedDays_33 rfl (lv_at hl 0 rfl) ?_
          obtain ⟨r23, h24, hv⟩ := ob_s hv
          refine rdSN (rest := [.int x8]) (st1 := [.int r23, .int x8]) (w := []) hC q_X9_oneIf (List.mem_of_getElem? (i := 5) rfl) (c_X9_oneIf l E r21 r23 h24) ⟨rfl, rfl⟩ ⟨Nat.le_of_ble_eq_true rfl, Nat.le_of_ble_eq_true rfl⟩ ⟨Nat.zero_le _, Nat.zero_le _⟩ (hP.sub (ws' := []) [] rfl) hG rfl hl.1 rfl (Nat.le_of_ble_eq_true rfl) dX8_carriedDays_34 rfl ?_
          refine lv_iadd hx hb dX8_carriedDays_37 ?_
          refine lv_istore_n (lv' := [(2, .int (x8 + r23)), (3, .int r21), (4, .int x6), (0, .ref t_h), (1, .int p1)]) hx hb dX8_carriedDays_38 rfl hl (by decide) rfl (fun ls hl => ?_)
          refine lv_iinc (v := (x6 + (1 : Int32))) (lv' := [(4, .int (x6 + (1 : Int32))), (2, .int (x8 + r23)), (3, .int r21), (0, .ref t_h), (1, .int p1)]) hx hb dX8_carriedDays_39 hl (k := 2) rfl rfl (by decide) rfl (fun ls hl => ?_)
          refine lv_goto (tgt := 14) hx hb dX8_carriedDays_42 (by decide) ?_
          exact ih14 (x6 + (1 : Int32)) r21 (x8 + r23) y14 y15 y16 _ _ _ hP hD hS (lv_sub hl [0, 2, 1, 3, 4] rfl) hv
  exact hL14 N (0 : Int32) r4 (0 : Int32) y1 t_day t_mood _ _ _ hP hD hS (lv_sub hl [0, 1, 2, 3, 4] rfl) hv
theorem dX8_scatter_0 : decode cX8_scatter 0 = .ok (.iload_n 1, 1) := by decide +kernel
theorem dX8_scatter_1 : decode cX8_scatter 1 = .ok (.istore_n 2, 1) := by decide +kernel
theorem dX8_scatter_2 : decode cX8_scatter 2 = .ok (.iconst 0, 1) := by decide +kernel
theorem dX8_scatter_3 : decode cX8_scatter 3 = .ok (.istore_n 3, 1) := by decide +kernel
theorem dX8_scatter_4 : decode cX8_scatter 4 = .ok (.iload_n 3, 1) := by decide +kernel
theorem dX8_scatter_5 : decode cX8_scatter 5 = .ok (.aload_n 0, 1) := by decide +kernel
theorem dX8_scatter_6 : decode cX8_scatter 6 = .ok (.getfield 43, 3) := by decide +kernel
theorem dX8_scatter_9 : decode cX8_scatter 9 = .ok (.if_icmp .ge 46, 3) := by decide +kernel
theorem dX8_scatter_12 : decode cX8_scatter 12 = .ok (.iload_n 2, 1) := by decide +kernel
theorem dX8_scatter_13 : decode cX8_scatter 13 = .ok (.invokestatic 135, 3) := by decide +kernel
theorem dX8_scatter_16 : decode cX8_scatter 16 = .ok (.istore_n 2, 1) := by decide +kernel
theorem dX8_scatter_17 : decode cX8_scatter 17 = .ok (.aload_n 0, 1) := by decide +kernel
theorem dX8_scatter_18 : decode cX8_scatter 18 = .ok (.getfield 21, 3) := by decide +kernel
theorem dX8_scatter_21 : decode cX8_scatter 21 = .ok (.iload_n 3, 1) := by decide +kernel
theorem dX8_scatter_22 : decode cX8_scatter 22 = .ok (.iload_n 2, 1) := by decide +kernel
theorem dX8_scatter_23 : decode cX8_scatter 23 = .ok (.bipush 10, 2) := by decide +kernel
theorem dX8_scatter_25 : decode cX8_scatter 25 = .ok (.invokestatic 140, 3) := by decide +kernel
theorem dX8_scatter_28 : decode cX8_scatter 28 = .ok (.iastore, 1) := by decide +kernel
theorem dX8_scatter_29 : decode cX8_scatter 29 = .ok (.iload_n 2, 1) := by decide +kernel
theorem dX8_scatter_30 : decode cX8_scatter 30 = .ok (.invokestatic 135, 3) := by decide +kernel
theorem dX8_scatter_33 : decode cX8_scatter 33 = .ok (.istore_n 2, 1) := by decide +kernel
theorem dX8_scatter_34 : decode cX8_scatter 34 = .ok (.aload_n 0, 1) := by decide +kernel
theorem dX8_scatter_35 : decode cX8_scatter 35 = .ok (.getfield 24, 3) := by decide +kernel
theorem dX8_scatter_38 : decode cX8_scatter 38 = .ok (.iload_n 3, 1) := by decide +kernel
theorem dX8_scatter_39 : decode cX8_scatter 39 = .ok (.iload_n 2, 1) := by decide +kernel
theorem dX8_scatter_40 : decode cX8_scatter 40 = .ok (.bipush 19, 2) := by decide +kernel
theorem dX8_scatter_42 : decode cX8_scatter 42 = .ok (.invokestatic 140, 3) := by decide +kernel
theorem dX8_scatter_45 : decode cX8_scatter 45 = .ok (.bipush 9, 2) := by decide +kernel
theorem dX8_scatter_47 : decode cX8_scatter 47 = .ok (.isub, 1) := by decide +kernel
theorem dX8_scatter_48 : decode cX8_scatter 48 = .ok (.iastore, 1) := by decide +kernel
theorem dX8_scatter_49 : decode cX8_scatter 49 = .ok (.iinc 3 1, 3) := by decide +kernel
theorem dX8_scatter_52 : decode cX8_scatter 52 = .ok (.goto (-48), 3) := by decide +kernel
theorem dX8_scatter_55 : decode cX8_scatter 55 = .ok (.iload_n 2, 1) := by decide +kernel
theorem dX8_scatter_56 : decode cX8_scatter 56 = .ok (.ireturn, 1) := by decide +kernel
def L_X8_scatter_4 (t_people : Int32) : Nat → Int32 → Int32 → (Nat → Int32) → (Nat → Int32) → Option (Int32 × (Nat → Int32) × (Nat → Int32))
  | 0, _, _, _, _ => none
  | n4 + 1, x1, x2, y3, y4 => if t_people ≤ x1 then some (x2, y3, y4) else ob (f_X0_next x2) (fun r6 => ob (f_X0_below r6 (10 : Int32)) (fun r8 => gd (ix x1 7) (nm (upd y3 x1.toNatClampNeg r8) (fun f11 => ob (f_X0_next r6) (fun r12 => ob (f_X0_below r12 (19 : Int32)) (fun r14 => gd (ix x1 7) (nm (upd y4 x1.toNatClampNeg (r14 - (9 : Int32))) (fun f17 => L_X8_scatter_4 t_people n4 (x1 + (1 : Int32)) r12 f11 f17))))))))
def f_X8_scatter (N : Nat) (t_rail : Nat → Int32) (t_mood : Nat → Int32) (t_people : Int32) (p1 : Int32) : Option (Int32 × (Nat → Int32) × (Nat → Int32)) := L_X8_scatter_4 t_people N (0 : Int32) p1 t_rail t_mood
set_option maxHeartbeats 4000000 in
set_option maxRecDepth 100000 in
theorem c_X8_scatter (l : Launch) (E : EE) (t_h : Nat) (t_a0 : Nat) (t_a1 : Nat) (t_a2 : Nat) (t_a3 : Nat) (t_a4 : Nat) (t_a5 : Nat) (t_height : Nat → Int32) (t_kind : Nat → Int32) (t_figure : Nat → Int32) (t_rail : Nat → Int32) (t_mood : Nat → Int32) (t_sight : Nat → Int32) (t_moving : Int32) (t_shut : Int32) (t_people : Int32) (t_needed : Int32) (t_day : Int32) (p1 : Int32) (N : Nat) (res : Int32) (w_t_rail : Nat → Int32) (w_t_mood : Nat → Int32) (hv : f_X8_scatter N t_rail t_mood t_people p1 = some (res, w_t_rail, w_t_mood)) : Wr l E yX8_scatter cX8_scatter 4 (some .int) ({ frames := 1, cells := 0, slots := 0, locals := 21 }) [.ref t_h, .int p1] [oSt t_h t_a0 t_a1 t_a2 t_a3 t_a4 t_a5 t_moving t_shut t_people t_needed t_day, ai E t_a0 10 t_height, ai E t_a1 7 t_kind, ai E t_a2 7 t_figure, ai E t_a3 7 t_rail, ai E t_a4 7 t_mood, ai E t_a5 7 t_sight] [oSt t_h t_a0 t_a1 t_a2 t_a3 t_a4 t_a5 t_moving t_shut t_people t_needed t_day, ai E t_a0 10 t_height, ai E t_a1 7 t_kind, ai E t_a2 7 t_figure, ai E t_a3 7 w_t_rail, ai E t_a4 7 w_t_mood, ai E t_a5 7 t_sight] (some (.int res)) := by
  refine Wr.intro RX8 (by decide) rfl (Nat.le_of_ble_eq_true rfl) ?_
  intro p e s m below meth c ls A hC hr hlk hmn hP hD hS hA hG hl
  obtain ⟨hx, hb, hml, hown, ht⟩ := id hC
  have hK := hG.1
  have hl : lv_has ls 4 [(0, .ref t_h), (1, .int p1)] := hl
  rw [f_X8_scatter] at hv
  refine lv_iload_n hx hb dX8_scatter_0 rfl (lv_at hl 1 rfl) ?_
  refine lv_istore_n (lv' := [(2, .int p1), (0, .ref t_h), (1, .int p1)]) hx hb dX8_scatter_1 rfl hl (by decide) rfl (fun ls hl => ?_)
  refine lv_iconst (v := (0 : Int32)) hx hb dX8_scatter_2 (by decide) ?_
  refine lv_istore_n (lv' := [(3, .int (0 : Int32)), (2, .int p1), (0, .ref t_h), (1, .int p1)]) hx hb dX8_scatter_3 rfl hl (by decide) rfl (fun ls hl => ?_)
  have hL4 : ∀ (n : Nat) (x1 : Int32) (x2 : Int32) (y3 : Nat → Int32) (y4 : Nat → Int32) (H : Heap) (locs : List Loc) (ls : Array Slot), va_P E.1 vwCl [oSt t_h t_a0 t_a1 t_a2 t_a3 t_a4 t_a5 t_moving t_shut t_people t_needed t_day, ai E t_a0 10 t_height, ai E t_a1 7 t_kind, ai E t_a2 7 t_figure, ai E t_a3 7 y3, ai E t_a4 7 y4, ai E t_a5 7 t_sight] H → va_D A [oSt t_h t_a0 t_a1 t_a2 t_a3 t_a4 t_a5 t_moving t_shut t_people t_needed t_day, ai E t_a0 10 t_height, ai E t_a1 7 t_kind, ai E t_a2 7 t_figure, ai E t_a3 7 y3, ai E t_a4 7 y4, ai E t_a5 7 t_sight] → va_S A s.heap H locs → lv_has ls 4 [(3, .int x1), (2, .int x2), (0, .ref t_h)] → L_X8_scatter_4 t_people n x1 x2 y3 y4 = some (res, w_t_rail, w_t_mood) → W p l e ({ frames := 1, cells := 0, slots := 0, locals := 21 }) s m [.ref t_h, .int p1].toArray below meth c H locs 0 0 (MQ below (fun _ st oc t => oc = .returned (some (.int res)) ∧ va_P E.1 vwCl [oSt t_h t_a0 t_a1 t_a2 t_a3 t_a4 t_a5 t_moving t_shut t_people t_needed t_day, ai E t_a0 10 t_height, ai E t_a1 7 t_kind, ai E t_a2 7 t_figure, ai E t_a3 7 w_t_rail, ai E t_a4 7 w_t_mood, ai E t_a5 7 t_sight] t.heap ∧ va_F A st t) [.ref t_h, .int p1].toArray s 0 0 A) (F0 m 4 ls []) := by
    intro n
    induction n with
    | zero => intro x1 x2 y3 y4 H locs ls hP hD hS hl hv; cases hv
    | succ n4 ih4 =>
      intro x1 x2 y3 y4 H locs ls hP hD hS hl hv
      rw [L_X8_scatter_4] at hv
      refine lv_iload_n hx hb dX8_scatter_4 rfl (lv_at hl 0 rfl) ?_
      refine lv_aload_n hx hb dX8_scatter_5 rfl (lv_at hl 2 rfl) ?_
      refine va_get (D := E.1) (ci := 2) (v := .int t_people) (C := RX8) (T := TX8) (N := 11) hx hb ht i_X8 hown hK hP 0 rfl rfl 8 (by decide) (ht _ kw_1_53) (fun _ h9 => h9) rfl dX8_scatter_6 ?_
      refine lv_icmp_ge (tgt := 55) hx hb dX8_scatter_9 (by decide) (fun c5 => ?_) (fun c5 => ?_)
      · have hv := if_y c5 hv
        refine lv_iload_n hx hb dX8_scatter_55 rfl (lv_at hl 1 rfl) ?_
        cases hv
        exact W.iret hx hb hr (fun t h9 _ => ⟨rfl, by rw [h9]; exact hP, hS.F h9⟩) hS.2.2 dX8_scatter_56 hlk
      · have hv := if_n c5 hv
        refine lv_iload_n hx hb dX8_scatter_12 rfl (lv_at hl 1 rfl) ?_
        obtain ⟨r6, h7, hv⟩ := ob_s hv
        refine rdS (rest := []) (st1 := [.int r6]) (w := []) hC q_X0_next kw_3_170 (c_X0_next l E x2 r6 h7) ⟨rfl, rfl⟩ ⟨Nat.le_of_ble_eq_true rfl, Nat.le_of_ble_eq_true rfl⟩ ⟨Nat.zero_le _, Nat.zero_le _⟩ (hP.sub (ws' := []) [] rfl) hG rfl hl.1 rfl (Nat.le_of_ble_eq_true rfl) dX8_scatter_13 rfl ?_
        refine lv_istore_n (lv' := [(2, .int r6), (3, .int x1), (0, .ref t_h)]) hx hb dX8_scatter_16 rfl hl (by decide) rfl (fun ls hl => ?_)
        refine lv_aload_n hx hb dX8_scatter_17 rfl (lv_at hl 2 rfl) ?_
        refine va_get (D := E.1) (ci := 2) (v := .ref t_a3) (C := RX8) (T := TX8) (N := 11) hx hb ht i_X8 hown hK hP 0 rfl rfl 3 (by decide) (ht _ kw_1_43) (fun _ h9 => h9) rfl dX8_scatter_18 ?_
        refine lv_iload_n hx hb dX8_scatter_21 rfl (lv_at hl 1 rfl) ?_
        refine lv_iload_n hx hb dX8_scatter_22 rfl (lv_at hl 0 rfl) ?_
        refine lv_bipush (v := (10 : Int32)) hx hb dX8_scatter_23 (by decide) ?_
        obtain ⟨r8, h9, hv⟩ := ob_s hv
        refine rdS (rest := [.int x1, .ref t_a3]) (st1 := [.int r8, .int x1, .ref t_a3]) (w := []) hC q_X0_below kw_3_174 (c_X0_below l E r6 (10 : Int32) r8 h9) ⟨rfl, rfl⟩ ⟨Nat.le_of_ble_eq_true rfl, Nat.le_of_ble_eq_true rfl⟩ ⟨Nat.zero_le _, Nat.zero_le _⟩ (hP.sub (ws' := []) [] rfl) hG rfl hl.1 rfl (Nat.le_of_ble_eq_true rfl) dX8_scatter_25 rfl ?_
        obtain ⟨g10, hv⟩ := gd_s hv
        refine va_iast hx hb hK hP hD hS 4 0 rfl rfl (ix_s g10) dX8_scatter_28 (fun H locs hP hD hS => ?_)
        have hP : va_P E.1 vwCl [oSt t_h t_a0 t_a1 t_a2 t_a3 t_a4 t_a5 t_moving t_shut t_people t_needed t_day, ai E t_a0 10 t_height, ai E t_a1 7 t_kind, ai E t_a2 7 t_figure, ai E t_a3 7 (upd y3 x1.toNatClampNeg r8), ai E t_a4 7 y4, ai E t_a5 7 t_sight] H := hP
        have hD : va_D A [oSt t_h t_a0 t_a1 t_a2 t_a3 t_a4 t_a5 t_moving t_shut t_people t_needed t_day, ai E t_a0 10 t_height, ai E t_a1 7 t_kind, ai E t_a2 7 t_figure, ai E t_a3 7 (upd y3 x1.toNatClampNeg r8), ai E t_a4 7 y4, ai E t_a5 7 t_sight] := hD
        obtain ⟨f11, ef11⟩ : ∃ z, z = (upd y3 x1.toNatClampNeg r8) := ⟨_, rfl⟩
        rw [← ef11] at hP hD
        have hv := nm_s ef11 hv
        refine lv_iload_n hx hb dX8_scatter_29 rfl (lv_at hl 0 rfl) ?_
        obtain ⟨r12, h13, hv⟩ := ob_s hv
        refine rdS (rest := []) (st1 := [.int r12]) (w := []) hC q_X0_next kw_3_170 (c_X0_next l E r6 r12 h13) ⟨rfl, rfl⟩ ⟨Nat.le_of_ble_eq_true rfl, Nat.le_of_ble_eq_true rfl⟩ ⟨Nat.zero_le _, Nat.zero_le _⟩ (hP.sub (ws' := []) [] rfl) hG rfl hl.1 rfl (Nat.le_of_ble_eq_true rfl) dX8_scatter_30 rfl ?_
        refine lv_istore_n (lv' := [(2, .int r12), (3, .int x1), (0, .ref t_h)]) hx hb dX8_scatter_33 rfl hl (by decide) rfl (fun ls hl => ?_)
        refine lv_aload_n hx hb dX8_scatter_34 rfl (lv_at hl 2 rfl) ?_
        refine va_get (D := E.1) (ci := 2) (v := .ref t_a4) (C := RX8) (T := TX8) (N := 11) hx hb ht i_X8 hown hK hP 0 rfl rfl 4 (by decide) (ht _ kw_1_45) (fun _ h9 => h9) rfl dX8_scatter_35 ?_
        refine lv_iload_n hx hb dX8_scatter_38 rfl (lv_at hl 1 rfl) ?_
        refine lv_iload_n hx hb dX8_scatter_39 rfl (lv_at hl 0 rfl) ?_
        refine lv_bipush (v := (19 : Int32)) hx hb dX8_scatter_40 (by decide) ?_
        obtain ⟨r14, h15, hv⟩ := ob_s hv
        refine rdS (rest := [.int x1, .ref t_a4]) (st1 := [.int r14, .int x1, .ref t_a4]) (w := []) hC q_X0_below kw_3_174 (c_X0_below l E r12 (19 : Int32) r14 h15) ⟨rfl, rfl⟩ ⟨Nat.le_of_ble_eq_true rfl, Nat.le_of_ble_eq_true rfl⟩ ⟨Nat.zero_le _, Nat.zero_le _⟩ (hP.sub (ws' := []) [] rfl) hG rfl hl.1 rfl (Nat.le_of_ble_eq_true rfl) dX8_scatter_42 rfl ?_
        refine lv_bipush (v := (9 : Int32)) hx hb dX8_scatter_45 (by decide) ?_
        refine lv_isub hx hb dX8_scatter_47 ?_
        obtain ⟨g16, hv⟩ := gd_s hv
        refine va_iast hx hb hK hP hD hS 5 0 rfl rfl (ix_s g16) dX8_scatter_48 (fun H locs hP hD hS => ?_)
        have hP : va_P E.1 vwCl [oSt t_h t_a0 t_a1 t_a2 t_a3 t_a4 t_a5 t_moving t_shut t_people t_needed t_day, ai E t_a0 10 t_height, ai E t_a1 7 t_kind, ai E t_a2 7 t_figure, ai E t_a3 7 f11, ai E t_a4 7 (upd y4 x1.toNatClampNeg (r14 - (9 : Int32))), ai E t_a5 7 t_sight] H := hP
        have hD : va_D A [oSt t_h t_a0 t_a1 t_a2 t_a3 t_a4 t_a5 t_moving t_shut t_people t_needed t_day, ai E t_a0 10 t_height, ai E t_a1 7 t_kind, ai E t_a2 7 t_figure, ai E t_a3 7 f11, ai E t_a4 7 (upd y4 x1.toNatClampNeg (r14 - (9 : Int32))), ai E t_a5 7 t_sight] := hD
        obtain ⟨f17, ef17⟩ : ∃ z, z = (upd y4 x1.toNatClampNeg (r14 - (9 : Int32))) := ⟨_, rfl⟩
        rw [← ef17] at hP hD
        have hv := nm_s ef17 hv
        refine lv_iinc (v := (x1 + (1 : Int32))) (lv' := [(3, .int (x1 + (1 : Int32))), (2, .int r12), (0, .ref t_h)]) hx hb dX8_scatter_49 hl (k := 1) rfl rfl (by decide) rfl (fun ls hl => ?_)
        refine lv_goto (tgt := 4) hx hb dX8_scatter_52 (by decide) ?_
        exact ih4 (x1 + (1 : Int32)) r12 f11 f17 _ _ _ hP hD hS (lv_sub hl [0, 1, 2] rfl) hv
  exact hL4 N (0 : Int32) p1 t_rail t_mood _ _ _ hP hD hS (lv_sub hl [0, 1, 2] rfl) hv
