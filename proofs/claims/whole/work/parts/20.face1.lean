theorem dX9_refusalOf_0 : decode cX9_refusalOf 0 = .ok (.iload_n 1, 1) := by decide +kernel
theorem dX9_refusalOf_1 : decode cX9_refusalOf 1 = .ok (.invokestatic 283, 3) := by decide +kernel
theorem dX9_refusalOf_4 : decode cX9_refusalOf 4 = .ok (.ifCond .ne 5, 3) := by decide +kernel
theorem dX9_refusalOf_7 : decode cX9_refusalOf 7 = .ok (.iconst (-1), 1) := by decide +kernel
theorem dX9_refusalOf_8 : decode cX9_refusalOf 8 = .ok (.ireturn, 1) := by decide +kernel
theorem dX9_refusalOf_9 : decode cX9_refusalOf 9 = .ok (.aload_n 0, 1) := by decide +kernel
theorem dX9_refusalOf_10 : decode cX9_refusalOf 10 = .ok (.getfield 35, 3) := by decide +kernel
theorem dX9_refusalOf_13 : decode cX9_refusalOf 13 = .ok (.iload_n 1, 1) := by decide +kernel
theorem dX9_refusalOf_14 : decode cX9_refusalOf 14 = .ok (.aaload, 1) := by decide +kernel
theorem dX9_refusalOf_15 : decode cX9_refusalOf 15 = .ok (.getfield 286, 3) := by decide +kernel
theorem dX9_refusalOf_18 : decode cX9_refusalOf 18 = .ok (.ifCond .ne 6, 3) := by decide +kernel
theorem dX9_refusalOf_21 : decode cX9_refusalOf 21 = .ok (.bipush (-11), 2) := by decide +kernel
theorem dX9_refusalOf_23 : decode cX9_refusalOf 23 = .ok (.ireturn, 1) := by decide +kernel
theorem dX9_refusalOf_24 : decode cX9_refusalOf 24 = .ok (.aload_n 0, 1) := by decide +kernel
theorem dX9_refusalOf_25 : decode cX9_refusalOf 25 = .ok (.getfield 35, 3) := by decide +kernel
theorem dX9_refusalOf_28 : decode cX9_refusalOf 28 = .ok (.iload_n 1, 1) := by decide +kernel
theorem dX9_refusalOf_29 : decode cX9_refusalOf 29 = .ok (.aaload, 1) := by decide +kernel
theorem dX9_refusalOf_30 : decode cX9_refusalOf 30 = .ok (.getfield 286, 3) := by decide +kernel
theorem dX9_refusalOf_33 : decode cX9_refusalOf 33 = .ok (.iload_n 2, 1) := by decide +kernel
theorem dX9_refusalOf_34 : decode cX9_refusalOf 34 = .ok (.if_icmp .ne 7, 3) := by decide +kernel
theorem dX9_refusalOf_37 : decode cX9_refusalOf 37 = .ok (.iconst 0, 1) := by decide +kernel
theorem dX9_refusalOf_38 : decode cX9_refusalOf 38 = .ok (.goto 5, 3) := by decide +kernel
theorem dX9_refusalOf_41 : decode cX9_refusalOf 41 = .ok (.bipush (-12), 2) := by decide +kernel
theorem dX9_refusalOf_43 : decode cX9_refusalOf 43 = .ok (.ireturn, 1) := by decide +kernel
def f_X9_refusalOf (q_holds : Int32) (p1 : Int32) (p2 : Int32) : Option (Int32) := ob (f_X9_isShelf p1) (fun r1 => if r1 = 0 then some (-1 : Int32) else gd (ix p1 8) (if q_holds = 0 then some (-11 : Int32) else gd (ix p1 8) (if q_holds = p2 then some (0 : Int32) else some (-12 : Int32))))
set_option maxHeartbeats 4000000 in
set_option maxRecDepth 100000 in
theorem c_X9_refusalOf (l : Launch) (E : EE) (b_h : Nat) (now_h : Nat) (mind_h : Nat) (kept_h : Nat) (rails_h : Nat) (sa_h : Nat) (q_h : Nat) (q_a0 : Nat) (b_img : Int32) (sh : Nat → Option Nat) (q_elements : Nat → Int32) (q_holds : Int32) (q_kind : Int32) (q_figure : Int32) (q_sort : Int32) (q_size : Int32) (p1 : Int32) (p2 : Int32) (res : Int32) (hsh_p1 : ix p1 8 = true → sh p1.toNatClampNeg = some q_h) (hv : f_X9_refusalOf q_holds p1 p2 = some res) : Rd l E yX9_refusalOf cX9_refusalOf 3 (some .int) ({ frames := 2, cells := 0, slots := 0, locals := 42 }) [.ref b_h, .int p1, .int p2] [oBp b_h now_h mind_h kept_h b_img rails_h sa_h, aS E sa_h sh, oSh q_h q_a0 q_holds q_kind q_figure q_sort q_size, ai E q_a0 100 q_elements] (some (.int res)) := by
  refine Rd.intro RX9 (by decide) rfl (Nat.le_of_ble_eq_true rfl) ?_
  intro p e s m below meth c ls hC hr hlk hP hG hl
  obtain ⟨hx, hb, hml, hown, ht⟩ := id hC
  have hK := hG.1
  have hl : lv_has ls 3 [(0, .ref b_h), (1, .int p1), (2, .int p2)] := hl
  rw [f_X9_refusalOf] at hv
  refine lv_iload_n hx hb dX9_refusalOf_0 rfl (lv_at hl 1 rfl) ?_
  obtain ⟨r1, h2, hv⟩ := ob_s hv
  refine rdS (rest := []) (st1 := [.int r1]) (w := []) hC q_X9_isShelf kw_1_165 (c_X9_isShelf l E p1 r1 h2) ⟨rfl, rfl⟩ ⟨Nat.le_of_ble_eq_true rfl, Nat.le_of_ble_eq_true rfl⟩ ⟨Nat.zero_le _, Nat.zero_le _⟩ (hP.sub (ws' := []) [] rfl) hG rfl hl.1 rfl (Nat.le_of_ble_eq_true rfl) dX9_refusalOf_1 rfl ?_
  refine lv_if_ne (tgt := 9) hx hb dX9_refusalOf_4 (by decide) (fun c3 => ?_) (fun c3 => ?_)
  · have hv := if_n c3 hv
    refine lv_aload_n hx hb dX9_refusalOf_9 rfl (lv_at hl 0 rfl) ?_
    refine va_get (D := E.1) (ci := 3) (v := .ref sa_h) (C := RX9) (T := TX9) (N := 6) hx hb ht i_X9 hown hK hP 0 rfl rfl 5 (by decide) (ht _ kw_1_143) (fun _ h9 => h9) rfl dX9_refusalOf_10 ?_
    refine lv_iload_n hx hb dX9_refusalOf_13 rfl (lv_at hl 1 rfl) ?_
    obtain ⟨g4, hv⟩ := gd_s hv
    refine va_aldq (C := "BalconiesParliament$Shelf") hx hb hK hP 1 1 rfl rfl (ix_s g4) dX9_refusalOf_14 ?_
    refine W.eq (g2 := F0 m 15 ls [.ref q_h]) (by rw [hsh_p1 g4]; rfl) ?_
    refine va_get (D := E.1) (ci := 1) (v := .int q_holds) (C := RX7) (T := TX7) (N := 6) hx hb ht i_X7 hown hK hP 2 rfl rfl 1 (by decide) (ht _ kw_1_114) (fun _ h9 => h9) rfl dX9_refusalOf_15 ?_
    refine lv_if_ne (tgt := 24) hx hb dX9_refusalOf_18 (by decide) (fun c5 => ?_) (fun c5 => ?_)
    · have hv := if_n c5 hv
      refine lv_aload_n hx hb dX9_refusalOf_24 rfl (lv_at hl 0 rfl) ?_
      refine va_get (D := E.1) (ci := 3) (v := .ref sa_h) (C := RX9) (T := TX9) (N := 6) hx hb ht i_X9 hown hK hP 0 rfl rfl 5 (by decide) (ht _ kw_1_143) (fun _ h9 => h9) rfl dX9_refusalOf_25 ?_
      refine lv_iload_n hx hb dX9_refusalOf_28 rfl (lv_at hl 1 rfl) ?_
      obtain ⟨g6, hv⟩ := gd_s hv
      refine va_aldq (C := "BalconiesParliament$Shelf") hx hb hK hP 1 1 rfl rfl (ix_s g6) dX9_refusalOf_29 ?_
      refine W.eq (g2 := F0 m 30 ls [.ref q_h]) (by rw [hsh_p1 g6]; rfl) ?_
      refine va_get (D := E.1) (ci := 1) (v := .int q_holds) (C := RX7) (T := TX7) (N := 6) hx hb ht i_X7 hown hK hP 2 rfl rfl 1 (by decide) (ht _ kw_1_114) (fun _ h9 => h9) rfl dX9_refusalOf_30 ?_
      refine lv_iload_n hx hb dX9_refusalOf_33 rfl (lv_at hl 2 rfl) ?_
      refine lv_icmp_ne (tgt := 41) hx hb dX9_refusalOf_34 (by decide) (fun c7 => ?_) (fun c7 => ?_)
      · have hv := if_n c7 hv
        refine lv_bipush (v := (-12 : Int32)) hx hb dX9_refusalOf_41 (by decide) ?_
        exact W.iret (v := (-12 : Int32)) hx hb hr (fun t h9 _ => ⟨rv_i hv, h9⟩) (fun q h => absurd h List.not_mem_nil) dX9_refusalOf_43 hlk
      · have hv := if_y c7 hv
        refine lv_iconst (v := (0 : Int32)) hx hb dX9_refusalOf_37 (by decide) ?_
        refine lv_goto (tgt := 43) hx hb dX9_refusalOf_38 (by decide) ?_
        exact W.iret (v := (0 : Int32)) hx hb hr (fun t h9 _ => ⟨rv_i hv, h9⟩) (fun q h => absurd h List.not_mem_nil) dX9_refusalOf_43 hlk
    · have hv := if_y c5 hv
      refine lv_bipush (v := (-11 : Int32)) hx hb dX9_refusalOf_21 (by decide) ?_
      exact W.iret (v := (-11 : Int32)) hx hb hr (fun t h9 _ => ⟨rv_i hv, h9⟩) (fun q h => absurd h List.not_mem_nil) dX9_refusalOf_23 hlk
  · have hv := if_y c3 hv
    refine lv_iconst (v := (-1 : Int32)) hx hb dX9_refusalOf_7 (by decide) ?_
    exact W.iret (v := (-1 : Int32)) hx hb hr (fun t h9 _ => ⟨rv_i hv, h9⟩) (fun q h => absurd h List.not_mem_nil) dX9_refusalOf_8 hlk
theorem dX9_speaker_0 : decode cX9_speaker 0 = .ok (.aload_n 0, 1) := by decide +kernel
theorem dX9_speaker_1 : decode cX9_speaker 1 = .ok (.getfield 12, 3) := by decide +kernel
theorem dX9_speaker_4 : decode cX9_speaker 4 = .ok (.iload_n 1, 1) := by decide +kernel
theorem dX9_speaker_5 : decode cX9_speaker 5 = .ok (.invokevirtual 58, 3) := by decide +kernel
theorem dX9_speaker_8 : decode cX9_speaker 8 = .ok (.ifCond .ne 5, 3) := by decide +kernel
theorem dX9_speaker_11 : decode cX9_speaker 11 = .ok (.iconst (-1), 1) := by decide +kernel
theorem dX9_speaker_12 : decode cX9_speaker 12 = .ok (.ireturn, 1) := by decide +kernel
theorem dX9_speaker_13 : decode cX9_speaker 13 = .ok (.iload_n 2, 1) := by decide +kernel
theorem dX9_speaker_14 : decode cX9_speaker 14 = .ok (.tableswitch 128 0 6 #[42, 52, 62, 72, 85, 94, 106], 42) := by decide +kernel
theorem dX9_speaker_56 : decode cX9_speaker 56 = .ok (.aload_n 0, 1) := by decide +kernel
theorem dX9_speaker_57 : decode cX9_speaker 57 = .ok (.getfield 12, 3) := by decide +kernel
theorem dX9_speaker_60 : decode cX9_speaker 60 = .ok (.getfield 62, 3) := by decide +kernel
theorem dX9_speaker_63 : decode cX9_speaker 63 = .ok (.iload_n 1, 1) := by decide +kernel
theorem dX9_speaker_64 : decode cX9_speaker 64 = .ok (.iaload, 1) := by decide +kernel
theorem dX9_speaker_65 : decode cX9_speaker 65 = .ok (.ireturn, 1) := by decide +kernel
theorem dX9_speaker_66 : decode cX9_speaker 66 = .ok (.aload_n 0, 1) := by decide +kernel
theorem dX9_speaker_67 : decode cX9_speaker 67 = .ok (.getfield 12, 3) := by decide +kernel
theorem dX9_speaker_70 : decode cX9_speaker 70 = .ok (.getfield 66, 3) := by decide +kernel
theorem dX9_speaker_73 : decode cX9_speaker 73 = .ok (.iload_n 1, 1) := by decide +kernel
theorem dX9_speaker_74 : decode cX9_speaker 74 = .ok (.iaload, 1) := by decide +kernel
theorem dX9_speaker_75 : decode cX9_speaker 75 = .ok (.ireturn, 1) := by decide +kernel
theorem dX9_speaker_76 : decode cX9_speaker 76 = .ok (.aload_n 0, 1) := by decide +kernel
theorem dX9_speaker_77 : decode cX9_speaker 77 = .ok (.getfield 12, 3) := by decide +kernel
theorem dX9_speaker_80 : decode cX9_speaker 80 = .ok (.getfield 69, 3) := by decide +kernel
theorem dX9_speaker_83 : decode cX9_speaker 83 = .ok (.iload_n 1, 1) := by decide +kernel
theorem dX9_speaker_84 : decode cX9_speaker 84 = .ok (.iaload, 1) := by decide +kernel
theorem dX9_speaker_85 : decode cX9_speaker 85 = .ok (.ireturn, 1) := by decide +kernel
theorem dX9_speaker_86 : decode cX9_speaker 86 = .ok (.aload_n 0, 1) := by decide +kernel
theorem dX9_speaker_87 : decode cX9_speaker 87 = .ok (.getfield 12, 3) := by decide +kernel
theorem dX9_speaker_90 : decode cX9_speaker 90 = .ok (.getfield 72, 3) := by decide +kernel
theorem dX9_speaker_93 : decode cX9_speaker 93 = .ok (.iload_n 1, 1) := by decide +kernel
theorem dX9_speaker_94 : decode cX9_speaker 94 = .ok (.iaload, 1) := by decide +kernel
theorem dX9_speaker_95 : decode cX9_speaker 95 = .ok (.bipush 9, 2) := by decide +kernel
theorem dX9_speaker_97 : decode cX9_speaker 97 = .ok (.iadd, 1) := by decide +kernel
theorem dX9_speaker_98 : decode cX9_speaker 98 = .ok (.ireturn, 1) := by decide +kernel
theorem dX9_speaker_99 : decode cX9_speaker 99 = .ok (.aload_n 0, 1) := by decide +kernel
theorem dX9_speaker_100 : decode cX9_speaker 100 = .ok (.getfield 12, 3) := by decide +kernel
theorem dX9_speaker_103 : decode cX9_speaker 103 = .ok (.iload_n 1, 1) := by decide +kernel
theorem dX9_speaker_104 : decode cX9_speaker 104 = .ok (.invokevirtual 75, 3) := by decide +kernel
theorem dX9_speaker_107 : decode cX9_speaker 107 = .ok (.ireturn, 1) := by decide +kernel
theorem dX9_speaker_108 : decode cX9_speaker 108 = .ok (.aload_n 0, 1) := by decide +kernel
theorem dX9_speaker_109 : decode cX9_speaker 109 = .ok (.getfield 12, 3) := by decide +kernel
theorem dX9_speaker_112 : decode cX9_speaker 112 = .ok (.iload_n 1, 1) := by decide +kernel
theorem dX9_speaker_113 : decode cX9_speaker 113 = .ok (.invokevirtual 79, 3) := by decide +kernel
theorem dX9_speaker_116 : decode cX9_speaker 116 = .ok (.invokestatic 82, 3) := by decide +kernel
theorem dX9_speaker_119 : decode cX9_speaker 119 = .ok (.ireturn, 1) := by decide +kernel
theorem dX9_speaker_120 : decode cX9_speaker 120 = .ok (.aload_n 0, 1) := by decide +kernel
theorem dX9_speaker_121 : decode cX9_speaker 121 = .ok (.getfield 12, 3) := by decide +kernel
theorem dX9_speaker_124 : decode cX9_speaker 124 = .ok (.getfield 62, 3) := by decide +kernel
theorem dX9_speaker_127 : decode cX9_speaker 127 = .ok (.iload_n 1, 1) := by decide +kernel
theorem dX9_speaker_128 : decode cX9_speaker 128 = .ok (.iaload, 1) := by decide +kernel
theorem dX9_speaker_129 : decode cX9_speaker 129 = .ok (.aload_n 0, 1) := by decide +kernel
theorem dX9_speaker_130 : decode cX9_speaker 130 = .ok (.getfield 12, 3) := by decide +kernel
theorem dX9_speaker_133 : decode cX9_speaker 133 = .ok (.getfield 66, 3) := by decide +kernel
theorem dX9_speaker_136 : decode cX9_speaker 136 = .ok (.iload_n 1, 1) := by decide +kernel
theorem dX9_speaker_137 : decode cX9_speaker 137 = .ok (.iaload, 1) := by decide +kernel
theorem dX9_speaker_138 : decode cX9_speaker 138 = .ok (.invokestatic 86, 3) := by decide +kernel
theorem dX9_speaker_141 : decode cX9_speaker 141 = .ok (.ireturn, 1) := by decide +kernel
theorem dX9_speaker_142 : decode cX9_speaker 142 = .ok (.iconst (-1), 1) := by decide +kernel
theorem dX9_speaker_143 : decode cX9_speaker 143 = .ok (.ireturn, 1) := by decide +kernel
def f_X9_speaker (now_height : Nat → Int32) (now_kind : Nat → Int32) (now_figure : Nat → Int32) (now_rail : Nat → Int32) (now_mood : Nat → Int32) (now_shut : Int32) (now_people : Int32) (p1 : Int32) (p2 : Int32) : Option (Int32) := ob (f_X8_isThere now_people p1) (fun r1 => if r1 = 0 then some (-1 : Int32) else if p2 = (0 : Int32) then gd (ix p1 7) (some (now_kind p1.toNatClampNeg)) else if p2 = (1 : Int32) then gd (ix p1 7) (some (now_figure p1.toNatClampNeg)) else if p2 = (2 : Int32) then gd (ix p1 7) (some (now_rail p1.toNatClampNeg)) else if p2 = (3 : Int32) then gd (ix p1 7) (some ((now_mood p1.toNatClampNeg) + (9 : Int32))) else if p2 = (4 : Int32) then ob (f_X8_weightOf now_height now_kind now_figure now_rail p1) (fun r13 => some r13) else if p2 = (5 : Int32) then ob (f_X8_isHeard now_rail now_shut p1) (fun r16 => ob (f_X9_oneIf r16) (fun r18 => some r18)) else if p2 = (6 : Int32) then gd (ix p1 7) (gd (ix p1 7) (ob (f_X3_swayOf (now_kind p1.toNatClampNeg) (now_figure p1.toNatClampNeg)) (fun r23 => some r23))) else some (-1 : Int32))
set_option maxHeartbeats 4000000 in
set_option maxRecDepth 100000 in
theorem c_X9_speaker (l : Launch) (E : EE) (b_h : Nat) (now_h : Nat) (mind_h : Nat) (kept_h : Nat) (rails_h : Nat) (sa_h : Nat) (now_a0 : Nat) (now_a1 : Nat) (now_a2 : Nat) (now_a3 : Nat) (now_a4 : Nat) (now_a5 : Nat) (b_img : Int32) (now_height : Nat → Int32) (now_kind : Nat → Int32) (now_figure : Nat → Int32) (now_rail : Nat → Int32) (now_mood : Nat → Int32) (now_sight : Nat → Int32) (now_moving : Int32) (now_shut : Int32) (now_people : Int32) (now_needed : Int32) (now_day : Int32) (p1 : Int32) (p2 : Int32) (res : Int32) (hv : f_X9_speaker now_height now_kind now_figure now_rail now_mood now_shut now_people p1 p2 = some res) : Rd l E yX9_speaker cX9_speaker 3 (some .int) ({ frames := 2, cells := 0, slots := 0, locals := 43 }) [.ref b_h, .int p1, .int p2] [oBp b_h now_h mind_h kept_h b_img rails_h sa_h, oSt now_h now_a0 now_a1 now_a2 now_a3 now_a4 now_a5 now_moving now_shut now_people now_needed now_day, ai E now_a0 10 now_height, ai E now_a1 7 now_kind, ai E now_a2 7 now_figure, ai E now_a3 7 now_rail, ai E now_a4 7 now_mood, ai E now_a5 7 now_sight] (some (.int res)) := by
  refine Rd.intro RX9 (by decide) rfl (Nat.le_of_ble_eq_true rfl) ?_
  intro p e s m below meth c ls hC hr hlk hP hG hl
  obtain ⟨hx, hb, hml, hown, ht⟩ := id hC
  have hK := hG.1
  have hl : lv_has ls 3 [(0, .ref b_h), (1, .int p1), (2, .int p2)] := hl
  rw [f_X9_speaker] at hv
  refine lv_aload_n hx hb dX9_speaker_0 rfl (lv_at hl 0 rfl) ?_
  refine va_get (D := E.1) (ci := 3) (v := .ref now_h) (C := RX9) (T := TX9) (N := 6) hx hb ht i_X9 hown hK hP 0 rfl rfl 0 (by decide) (ht _ kw_1_138) (fun _ h9 => h9) rfl dX9_speaker_1 ?_
  refine lv_iload_n hx hb dX9_speaker_4 rfl (lv_at hl 1 rfl) ?_
  obtain ⟨r1, h2, hv⟩ := ob_s hv
  refine rdV 2 0 (As := [.int p1]) (rest := []) (st1 := [.int r1]) (w := [oSt now_h now_a0 now_a1 now_a2 now_a3 now_a4 now_a5 now_moving now_shut now_people now_needed now_day, ai E now_a0 10 now_height, ai E now_a1 7 now_kind, ai E now_a2 7 now_figure, ai E now_a3 7 now_rail, ai E now_a4 7 now_mood, ai E now_a5 7 now_sight]) hC q_X8_isThere kw_2_50 (c_X8_isThere l E now_h now_a0 now_a1 now_a2 now_a3 now_a4 now_a5 now_height now_kind now_figure now_rail now_mood now_sight now_moving now_shut now_people now_needed now_day p1 r1 h2) ⟨rfl, rfl⟩ ⟨Nat.le_of_ble_eq_true rfl, Nat.le_of_ble_eq_true rfl⟩ ⟨Nat.zero_le _, Nat.zero_le _⟩ (hP.sub (ws' := [oSt now_h now_a0 now_a1 now_a2 now_a3 now_a4 now_a5 now_moving now_shut now_people now_needed now_day, ai E now_a0 10 now_height, ai E now_a1 7 now_kind, ai E now_a2 7 now_figure, ai E now_a3 7 now_rail, ai E now_a4 7 now_mood, ai E now_a5 7 now_sight]) [1, 2, 3, 4, 5, 6, 7] rfl) rfl rfl rfl hG rfl hl.1 rfl (Nat.le_of_ble_eq_true rfl) dX9_speaker_5 rfl ?_
  refine lv_if_ne (tgt := 13) hx hb dX9_speaker_8 (by decide) (fun c3 => ?_) (fun c3 => ?_)
  · have hv := if_n c3 hv
    refine lv_iload_n hx hb dX9_speaker_13 rfl (lv_at hl 2 rfl) ?_
    rcases Decidable.em (p2 = (0 : Int32)) with c4 | c4
    · have hv := if_y c4 hv
      refine lv_tableIn (tgt := 56) (off := 42) hx hb dX9_speaker_14 (by rw [c4]; decide) (by rw [c4]; decide) (by rw [c4]; rfl) (by decide) ?_
      refine lv_aload_n hx hb dX9_speaker_56 rfl (lv_at hl 0 rfl) ?_
      refine va_get (D := E.1) (ci := 3) (v := .ref now_h) (C := RX9) (T := TX9) (N := 6) hx hb ht i_X9 hown hK hP 0 rfl rfl 0 (by decide) (ht _ kw_1_138) (fun _ h9 => h9) rfl dX9_speaker_57 ?_
      refine va_get (D := E.1) (ci := 2) (v := .ref now_a1) (C := RX8) (T := TX8) (N := 11) hx hb ht i_X8 hown hK hP 1 rfl rfl 1 (by decide) (ht _ kw_1_40) (fun _ h9 => h9) rfl dX9_speaker_60 ?_
      refine lv_iload_n hx hb dX9_speaker_63 rfl (lv_at hl 1 rfl) ?_
      obtain ⟨g5, hv⟩ := gd_s hv
      refine va_iald hx hb hK hP 3 0 rfl rfl (ix_s g5) dX9_speaker_64 ?_
      exact W.iret (v := (now_kind p1.toNatClampNeg)) hx hb hr (fun t h9 _ => ⟨rv_i hv, h9⟩) (fun q h => absurd h List.not_mem_nil) dX9_speaker_65 hlk
    · have hv := if_n c4 hv
      rcases Decidable.em (p2 = (1 : Int32)) with c6 | c6
      · have hv := if_y c6 hv
        refine lv_tableIn (tgt := 66) (off := 52) hx hb dX9_speaker_14 (by rw [c6]; decide) (by rw [c6]; decide) (by rw [c6]; rfl) (by decide) ?_
        refine lv_aload_n hx hb dX9_speaker_66 rfl (lv_at hl 0 rfl) ?_
        refine va_get (D := E.1) (ci := 3) (v := .ref now_h) (C := RX9) (T := TX9) (N := 6) hx hb ht i_X9 hown hK hP 0 rfl rfl 0 (by decide) (ht _ kw_1_138) (fun _ h9 => h9) rfl dX9_speaker_67 ?_
        refine va_get (D := E.1) (ci := 2) (v := .ref now_a2) (C := RX8) (T := TX8) (N := 11) hx hb ht i_X8 hown hK hP 1 rfl rfl 2 (by decide) (ht _ kw_1_42) (fun _ h9 => h9) rfl dX9_speaker_70 ?_
        refine lv_iload_n hx hb dX9_speaker_73 rfl (lv_at hl 1 rfl) ?_
        obtain ⟨g7, hv⟩ := gd_s hv
        refine va_iald hx hb hK hP 4 0 rfl rfl (ix_s g7) dX9_speaker_74 ?_
        exact W.iret (v := (now_figure p1.toNatClampNeg)) hx hb hr (fun t h9 _ => ⟨rv_i hv, h9⟩) (fun q h => absurd h List.not_mem_nil) dX9_speaker_75 hlk
      · have hv := if_n c6 hv
        rcases Decidable.em (p2 = (2 : Int32)) with c8 | c8
        · have hv := if_y c8 hv
          refine lv_tableIn (tgt := 76) (off := 62) hx hb dX9_speaker_14 (by rw [c8]; decide) (by rw [c8]; decide) (by rw [c8]; rfl) (by decide) ?_
          refine lv_aload_n hx hb dX9_speaker_76 rfl (lv_at hl 0 rfl) ?_
          refine va_get (D := E.1) (ci := 3) (v := .ref now_h) (C := RX9) (T := TX9) (N := 6) hx hb ht i_X9 hown hK hP 0 rfl rfl 0 (by decide) (ht _ kw_1_138) (fun _ h9 => h9) rfl dX9_speaker_77 ?_
          refine va_get (D := E.1) (ci := 2) (v := .ref now_a3) (C := RX8) (T := TX8) (N := 11) hx hb ht i_X8 hown hK hP 1 rfl rfl 3 (by decide) (ht _ kw_1_44) (fun _ h9 => h9) rfl dX9_speaker_80 ?_
          refine lv_iload_n hx hb dX9_speaker_83 rfl (lv_at hl 1 rfl) ?_
          obtain ⟨g9, hv⟩ := gd_s hv
          refine va_iald hx hb hK hP 5 0 rfl rfl (ix_s g9) dX9_speaker_84 ?_
          exact W.iret (v := (now_rail p1.toNatClampNeg)) hx hb hr (fun t h9 _ => ⟨rv_i hv, h9⟩) (fun q h => absurd h List.not_mem_nil) dX9_speaker_85 hlk
        · have hv := if_n c8 hv
          rcases Decidable.em (p2 = (3 : Int32)) with c10 | c10
          · have hv := if_y c10 hv
            refine lv_tableIn (tgt := 86) (off := 72) hx hb dX9_speaker_14 (by rw [c10]; decide) (by rw [c10]; decide) (by rw [c10]; rfl) (by decide) ?_
            refine lv_aload_n hx hb dX9_speaker_86 rfl (lv_at hl 0 rfl) ?_
            refine va_get (D := E.1) (ci := 3) (v := .ref now_h) (C := RX9) (T := TX9) (N := 6) hx hb ht i_X9 hown hK hP 0 rfl rfl 0 (by decide) (ht _ kw_1_138) (fun _ h9 => h9) rfl dX9_speaker_87 ?_
            refine va_get (D := E.1) (ci := 2) (v := .ref now_a4) (C := RX8) (T := TX8) (N := 11) hx hb ht i_X8 hown hK hP 1 rfl rfl 4 (by decide) (ht _ kw_1_46) (fun _ h9 => h9) rfl dX9_speaker_90 ?_
            refine lv_iload_n hx hb dX9_speaker_93 rfl (lv_at hl 1 rfl) ?_
            obtain ⟨g11, hv⟩ := gd_s hv
            refine va_iald hx hb hK hP 6 0 rfl rfl (ix_s g11) dX9_speaker_94 ?_
            refine lv_bipush (v := (9 : Int32)) hx hb dX9_speaker_95 (by decide) ?_
            refine lv_iadd hx hb dX9_speaker_97 ?_
            exact W.iret (v := ((now_mood p1.toNatClampNeg) + (9 : Int32))) hx hb hr (fun t h9 _ => ⟨rv_i hv, h9⟩) (fun q h => absurd h List.not_mem_nil) dX9_speaker_98 hlk
          · have hv := if_n c10 hv
            rcases Decidable.em (p2 = (4 : Int32)) with c12 | c12
            · have hv := if_y c12 hv
              refine lv_tableIn (tgt := 99) (off := 85) hx hb dX9_speaker_14 (by rw [c12]; decide) (by rw [c12]; decide) (by rw [c12]; rfl) (by decide) ?_
              refine lv_aload_n hx hb dX9_speaker_99 rfl (lv_at hl 0 rfl) ?_
              refine va_get (D := E.1) (ci := 3) (v := .ref now_h) (C := RX9) (T := TX9) (N := 6) hx hb ht i_X9 hown hK hP 0 rfl rfl 0 (by decide) (ht _ kw_1_138) (fun _ h9 => h9) rfl dX9_speaker_100 ?_
              refine lv_iload_n hx hb dX9_speaker_103 rfl (lv_at hl 1 rfl) ?_
              obtain ⟨r13, h14, hv⟩ := ob_s hv
              refine rdV 2 0 (As := [.int p1]) (rest := []) (st1 := [.int r13]) (w := [oSt now_h now_a0 now_a1 now_a2 now_a3 now_a4 now_a5 now_moving now_shut now_people now_needed now_day, ai E now_a0 10 now_height, ai E now_a1 7 now_kind, ai E now_a2 7 now_figure, ai E now_a3 7 now_rail, ai E now_a4 7 now_mood, ai E now_a5 7 now_sight]) hC q_X8_weightOf kw_2_51 (c_X8_weightOf l E now_h now_a0 now_a1 now_a2 now_a3 now_a4 now_a5 now_height now_kind now_figure now_rail now_mood now_sight now_moving now_shut now_people now_needed now_day p1 r13 h14) ⟨rfl, rfl⟩ ⟨Nat.le_of_ble_eq_true rfl, Nat.le_of_ble_eq_true rfl⟩ ⟨Nat.zero_le _, Nat.zero_le _⟩ (hP.sub (ws' := [oSt now_h now_a0 now_a1 now_a2 now_a3 now_a4 now_a5 now_moving now_shut now_people now_needed now_day, ai E now_a0 10 now_height, ai E now_a1 7 now_kind, ai E now_a2 7 now_figure, ai E now_a3 7 now_rail, ai E now_a4 7 now_mood, ai E now_a5 7 now_sight]) [1, 2, 3, 4, 5, 6, 7] rfl) rfl rfl rfl hG rfl hl.1 rfl (Nat.le_of_ble_eq_true rfl) dX9_speaker_104 rfl ?_
              exact W.iret (v := r13) hx hb hr (fun t h9 _ => ⟨rv_i hv, h9⟩) (fun q h => absurd h List.not_mem_nil) dX9_speaker_107 hlk
            · have hv := if_n c12 hv
              rcases Decidable.em (p2 = (5 : Int32)) with c15 | c15
              · have hv := if_y c15 hv
                refine lv_tableIn (tgt := 108) (off := 94) hx hb dX9_speaker_14 (by rw [c15]; decide) (by rw [c15]; decide) (by rw [c15]; rfl) (by decide) ?_
                refine lv_aload_n hx hb dX9_speaker_108 rfl (lv_at hl 0 rfl) ?_
                refine va_get (D := E.1) (ci := 3) (v := .ref now_h) (C := RX9) (T := TX9) (N := 6) hx hb ht i_X9 hown hK hP 0 rfl rfl 0 (by decide) (ht _ kw_1_138) (fun _ h9 => h9) rfl dX9_speaker_109 ?_
                refine lv_iload_n hx hb dX9_speaker_112 rfl (lv_at hl 1 rfl) ?_
                obtain ⟨r16, h17, hv⟩ := ob_s hv
                refine rdV 2 0 (As := [.int p1]) (rest := []) (st1 := [.int r16]) (w := [oSt now_h now_a0 now_a1 now_a2 now_a3 now_a4 now_a5 now_moving now_shut now_people now_needed now_day, ai E now_a0 10 now_height, ai E now_a1 7 now_kind, ai E now_a2 7 now_figure, ai E now_a3 7 now_rail, ai E now_a4 7 now_mood, ai E now_a5 7 now_sight]) hC q_X8_isHeard kw_2_58 (c_X8_isHeard l E now_h now_a0 now_a1 now_a2 now_a3 now_a4 now_a5 now_height now_kind now_figure now_rail now_mood now_sight now_moving now_shut now_people now_needed now_day p1 r16 h17) ⟨rfl, rfl⟩ ⟨Nat.le_of_ble_eq_true rfl, Nat.le_of_ble_eq_true rfl⟩ ⟨Nat.zero_le _, Nat.zero_le _⟩ (hP.sub (ws' := [oSt now_h now_a0 now_a1 now_a2 now_a3 now_a4 now_a5 now_moving now_shut now_people now_needed now_day, ai E now_a0 10 now_height, ai E now_a1 7 now_kind, ai E now_a2 7 now_figure, ai E now_a3 7 now_rail, ai E now_a4 7 now_mood, ai E now_a5 7 now_sight]) [1, 2, 3, 4, 5, 6, 7] rfl) rfl rfl rfl hG rfl hl.1 rfl (Nat.le_of_ble_eq_true rfl) dX9_speaker_113 rfl ?_
                obtain ⟨r18, h19, hv⟩ := ob_s hv
                refine rdS (rest := []) (st1 := [.int r18]) (w := []) hC q_X9_oneIf kw_2_59 (c_X9_oneIf l E r16 r18 h19) ⟨rfl, rfl⟩ ⟨Nat.le_of_ble_eq_true rfl, Nat.le_of_ble_eq_true rfl⟩ ⟨Nat.zero_le _, Nat.zero_le _⟩ (hP.sub (ws' := []) [] rfl) hG rfl hl.1 rfl (Nat.le_of_ble_eq_true rfl) dX9_speaker_116 rfl ?_
                exact W.iret (v := r18) hx hb hr (fun t h9 _ => ⟨rv_i hv, h9⟩) (fun q h => absurd h List.not_mem_nil) dX9_speaker_119 hlk
              · have hv := if_n c15 hv
                rcases Decidable.em (p2 = (6 : Int32)) with c20 | c20
                · have hv := if_y c20 hv
                  refine lv_tableIn (tgt := 120) (off := 106) hx hb dX9_speaker_14 (by rw [c20]; decide) (by rw [c20]; decide) (by rw [c20]; rfl) (by decide) ?_
                  refine lv_aload_n hx hb dX9_speaker_120 rfl (lv_at hl 0 rfl) ?_
                  refine va_get (D := E.1) (ci := 3) (v := .ref now_h) (C := RX9) (T := TX9) (N := 6) hx hb ht i_X9 hown hK hP 0 rfl rfl 0 (by decide) (ht _ kw_1_138) (fun _ h9 => h9) rfl dX9_speaker_121 ?_
                  refine va_get (D := E.1) (ci := 2) (v := .ref now_a1) (C := RX8) (T := TX8) (N := 11) hx hb ht i_X8 hown hK hP 1 rfl rfl 1 (by decide) (ht _ kw_1_40) (fun _ h9 => h9) rfl dX9_speaker_124 ?_
                  refine lv_iload_n hx hb dX9_speaker_127 rfl (lv_at hl 1 rfl) ?_
                  obtain ⟨g21, hv⟩ := gd_s hv
                  refine va_iald hx hb hK hP 3 0 rfl rfl (ix_s g21) dX9_speaker_128 ?_
                  refine lv_aload_n hx hb dX9_speaker_129 rfl (lv_at hl 0 rfl) ?_
                  refine va_get (D := E.1) (ci := 3) (v := .ref now_h) (C := RX9) (T := TX9) (N := 6) hx hb ht i_X9 hown hK hP 0 rfl rfl 0 (by decide) (ht _ kw_1_138) (fun _ h9 => h9) rfl dX9_speaker_130 ?_
                  refine va_get (D := E.1) (ci := 2) (v := .ref now_a2) (C := RX8) (T := TX8) (N := 11) hx hb ht i_X8 hown hK hP 1 rfl rfl 2 (by decide) (ht _ kw_1_42) (fun _ h9 => h9) rfl dX9_speaker_133 ?_
                  refine lv_iload_n hx hb dX9_speaker_136 rfl (lv_at hl 1 rfl) ?_
                  obtain ⟨g22, hv⟩ := gd_s hv
                  refine va_iald hx hb hK hP 4 0 rfl rfl (ix_s g22) dX9_speaker_137 ?_
                  obtain ⟨r23, h24, hv⟩ := ob_s hv
                  refine rdS (rest := []) (st1 := [.int r23]) (w := []) hC q_X3_swayOf kw_2_62 (c_X3_swayOf l E (now_kind p1.toNatClampNeg) (now_figure p1.toNatClampNeg) r23 h24) ⟨rfl, rfl⟩ ⟨Nat.le_of_ble_eq_true rfl, Nat.le_of_ble_eq_true rfl⟩ ⟨Nat.zero_le _, Nat.zero_le _⟩ (hP.sub (ws' := []) [] rfl) hG rfl hl.1 rfl (Nat.le_of_ble_eq_true rfl) dX9_speaker_138 rfl ?_
                  exact W.iret (v := r23) hx hb hr (fun t h9 _ => ⟨rv_i hv, h9⟩) (fun q h => absurd h List.not_mem_nil) dX9_speaker_141 hlk
                · have hv := if_n c20 hv
                  refine lv_tableD (tgt := 142) hx hb dX9_speaker_14 (fun i h => match i, h with | 0, _ => Or.inr (lv_neT c4 (by decide)) | 1, _ => Or.inr (lv_neT c6 (by decide)) | 2, _ => Or.inr (lv_neT c8 (by decide)) | 3, _ => Or.inr (lv_neT c10 (by decide)) | 4, _ => Or.inr (lv_neT c12 (by decide)) | 5, _ => Or.inr (lv_neT c15 (by decide)) | 6, _ => Or.inr (lv_neT c20 (by decide)) | i + 7, h => absurd h (by simp)) rfl (by decide) ?_
                  refine lv_iconst (v := (-1 : Int32)) hx hb dX9_speaker_142 (by decide) ?_
                  exact W.iret (v := (-1 : Int32)) hx hb hr (fun t h9 _ => ⟨rv_i hv, h9⟩) (fun q h => absurd h List.not_mem_nil) dX9_speaker_143 hlk
  · have hv := if_y c3 hv
    refine lv_iconst (v := (-1 : Int32)) hx hb dX9_speaker_11 (by decide) ?_
    exact W.iret (v := (-1 : Int32)) hx hb hr (fun t h9 _ => ⟨rv_i hv, h9⟩) (fun q h => absurd h List.not_mem_nil) dX9_speaker_12 hlk
theorem dX9_balcony_0 : decode cX9_balcony 0 = .ok (.iload_n 1, 1) := by decide +kernel
theorem dX9_balcony_1 : decode cX9_balcony 1 = .ok (.invokestatic 91, 3) := by decide +kernel
theorem dX9_balcony_4 : decode cX9_balcony 4 = .ok (.ifCond .ne 5, 3) := by decide +kernel
theorem dX9_balcony_7 : decode cX9_balcony 7 = .ok (.iconst (-1), 1) := by decide +kernel
theorem dX9_balcony_8 : decode cX9_balcony 8 = .ok (.ireturn, 1) := by decide +kernel
theorem dX9_balcony_9 : decode cX9_balcony 9 = .ok (.iload_n 2, 1) := by decide +kernel
theorem dX9_balcony_10 : decode cX9_balcony 10 = .ok (.tableswitch 57 0 2 #[26, 36, 48], 26) := by decide +kernel
theorem dX9_balcony_36 : decode cX9_balcony 36 = .ok (.aload_n 0, 1) := by decide +kernel
theorem dX9_balcony_37 : decode cX9_balcony 37 = .ok (.getfield 12, 3) := by decide +kernel
theorem dX9_balcony_40 : decode cX9_balcony 40 = .ok (.getfield 94, 3) := by decide +kernel
theorem dX9_balcony_43 : decode cX9_balcony 43 = .ok (.iload_n 1, 1) := by decide +kernel
theorem dX9_balcony_44 : decode cX9_balcony 44 = .ok (.iaload, 1) := by decide +kernel
theorem dX9_balcony_45 : decode cX9_balcony 45 = .ok (.ireturn, 1) := by decide +kernel
theorem dX9_balcony_46 : decode cX9_balcony 46 = .ok (.aload_n 0, 1) := by decide +kernel
theorem dX9_balcony_47 : decode cX9_balcony 47 = .ok (.getfield 12, 3) := by decide +kernel
theorem dX9_balcony_50 : decode cX9_balcony 50 = .ok (.iload_n 1, 1) := by decide +kernel
theorem dX9_balcony_51 : decode cX9_balcony 51 = .ok (.invokevirtual 97, 3) := by decide +kernel
theorem dX9_balcony_54 : decode cX9_balcony 54 = .ok (.invokestatic 82, 3) := by decide +kernel
theorem dX9_balcony_57 : decode cX9_balcony 57 = .ok (.ireturn, 1) := by decide +kernel
theorem dX9_balcony_58 : decode cX9_balcony 58 = .ok (.aload_n 0, 1) := by decide +kernel
theorem dX9_balcony_59 : decode cX9_balcony 59 = .ok (.getfield 12, 3) := by decide +kernel
theorem dX9_balcony_62 : decode cX9_balcony 62 = .ok (.iload_n 1, 1) := by decide +kernel
theorem dX9_balcony_63 : decode cX9_balcony 63 = .ok (.invokevirtual 100, 3) := by decide +kernel
theorem dX9_balcony_66 : decode cX9_balcony 66 = .ok (.ireturn, 1) := by decide +kernel
theorem dX9_balcony_67 : decode cX9_balcony 67 = .ok (.iconst (-1), 1) := by decide +kernel
theorem dX9_balcony_68 : decode cX9_balcony 68 = .ok (.ireturn, 1) := by decide +kernel
def f_X9_balcony (N : Nat) (now_height : Nat → Int32) (now_rail : Nat → Int32) (now_shut : Int32) (now_people : Int32) (p1 : Int32) (p2 : Int32) : Option (Int32) := ob (f_X9_isBalcony p1) (fun r1 => if r1 = 0 then some (-1 : Int32) else if p2 = (0 : Int32) then gd (ix p1 10) (some (now_height p1.toNatClampNeg)) else if p2 = (1 : Int32) then ob (f_X8_isShut now_shut p1) (fun r7 => ob (f_X9_oneIf r7) (fun r9 => some r9)) else if p2 = (2 : Int32) then ob (f_X8_onesOn N now_rail now_people p1) (fun r12 => some r12) else some (-1 : Int32))
set_option maxHeartbeats 4000000 in
set_option maxRecDepth 100000 in
theorem c_X9_balcony (l : Launch) (E : EE) (b_h : Nat) (now_h : Nat) (mind_h : Nat) (kept_h : Nat) (rails_h : Nat) (sa_h : Nat) (now_a0 : Nat) (now_a1 : Nat) (now_a2 : Nat) (now_a3 : Nat) (now_a4 : Nat) (now_a5 : Nat) (b_img : Int32) (now_height : Nat → Int32) (now_kind : Nat → Int32) (now_figure : Nat → Int32) (now_rail : Nat → Int32) (now_mood : Nat → Int32) (now_sight : Nat → Int32) (now_moving : Int32) (now_shut : Int32) (now_people : Int32) (now_needed : Int32) (now_day : Int32) (p1 : Int32) (p2 : Int32) (N : Nat) (res : Int32) (hv : f_X9_balcony N now_height now_rail now_shut now_people p1 p2 = some res) : Rd l E yX9_balcony cX9_balcony 3 (some .int) ({ frames := 2, cells := 0, slots := 0, locals := 42 }) [.ref b_h, .int p1, .int p2] [oBp b_h now_h mind_h kept_h b_img rails_h sa_h, oSt now_h now_a0 now_a1 now_a2 now_a3 now_a4 now_a5 now_moving now_shut now_people now_needed now_day, ai E now_a0 10 now_height, ai E now_a1 7 now_kind, ai E now_a2 7 now_figure, ai E now_a3 7 now_rail, ai E now_a4 7 now_mood, ai E now_a5 7 now_sight] (some (.int res)) := by
  refine Rd.intro RX9 (by decide) rfl (Nat.le_of_ble_eq_true rfl) ?_
  intro p e s m below meth c ls hC hr hlk hP hG hl
  obtain ⟨hx, hb, hml, hown, ht⟩ := id hC
  have hK := hG.1
  have hl : lv_has ls 3 [(0, .ref b_h), (1, .int p1), (2, .int p2)] := hl
  rw [f_X9_balcony] at hv
  refine lv_iload_n hx hb dX9_balcony_0 rfl (lv_at hl 1 rfl) ?_
  obtain ⟨r1, h2, hv⟩ := ob_s hv
  refine rdS (rest := []) (st1 := [.int r1]) (w := []) hC q_X9_isBalcony kw_2_67 (c_X9_isBalcony l E p1 r1 h2) ⟨rfl, rfl⟩ ⟨Nat.le_of_ble_eq_true rfl, Nat.le_of_ble_eq_true rfl⟩ ⟨Nat.zero_le _, Nat.zero_le _⟩ (hP.sub (ws' := []) [] rfl) hG rfl hl.1 rfl (Nat.le_of_ble_eq_true rfl) dX9_balcony_1 rfl ?_
  refine lv_if_ne (tgt := 9) hx hb dX9_balcony_4 (by decide) (fun c3 => ?_) (fun c3 => ?_)
  · have hv := if_n c3 hv
    refine lv_iload_n hx hb dX9_balcony_9 rfl (lv_at hl 2 rfl) ?_
    rcases Decidable.em (p2 = (0 : Int32)) with c4 | c4
    · have hv := if_y c4 hv
      refine lv_tableIn (tgt := 36) (off := 26) hx hb dX9_balcony_10 (by rw [c4]; decide) (by rw [c4]; decide) (by rw [c4]; rfl) (by decide) ?_
      refine lv_aload_n hx hb dX9_balcony_36 rfl (lv_at hl 0 rfl) ?_
      refine va_get (D := E.1) (ci := 3) (v := .ref now_h) (C := RX9) (T := TX9) (N := 6) hx hb ht i_X9 hown hK hP 0 rfl rfl 0 (by decide) (ht _ kw_1_138) (fun _ h9 => h9) rfl dX9_balcony_37 ?_
      refine va_get (D := E.1) (ci := 2) (v := .ref now_a0) (C := RX8) (T := TX8) (N := 11) hx hb ht i_X8 hown hK hP 1 rfl rfl 0 (by decide) (ht _ kw_1_37) (fun _ h9 => h9) rfl dX9_balcony_40 ?_
      refine lv_iload_n hx hb dX9_balcony_43 rfl (lv_at hl 1 rfl) ?_
      obtain ⟨g5, hv⟩ := gd_s hv
      refine va_iald hx hb hK hP 2 0 rfl rfl (ix_s g5) dX9_balcony_44 ?_
      exact W.iret (v := (now_height p1.toNatClampNeg)) hx hb hr (fun t h9 _ => ⟨rv_i hv, h9⟩) (fun q h => absurd h List.not_mem_nil) dX9_balcony_45 hlk
    · have hv := if_n c4 hv
      rcases Decidable.em (p2 = (1 : Int32)) with c6 | c6
      · have hv := if_y c6 hv
        refine lv_tableIn (tgt := 46) (off := 36) hx hb dX9_balcony_10 (by rw [c6]; decide) (by rw [c6]; decide) (by rw [c6]; rfl) (by decide) ?_
        refine lv_aload_n hx hb dX9_balcony_46 rfl (lv_at hl 0 rfl) ?_
        refine va_get (D := E.1) (ci := 3) (v := .ref now_h) (C := RX9) (T := TX9) (N := 6) hx hb ht i_X9 hown hK hP 0 rfl rfl 0 (by decide) (ht _ kw_1_138) (fun _ h9 => h9) rfl dX9_balcony_47 ?_
        refine lv_iload_n hx hb dX9_balcony_50 rfl (lv_at hl 1 rfl) ?_
        obtain ⟨r7, h8, hv⟩ := ob_s hv
        refine rdV 2 0 (As := [.int p1]) (rest := []) (st1 := [.int r7]) (w := [oSt now_h now_a0 now_a1 now_a2 now_a3 now_a4 now_a5 now_moving now_shut now_people now_needed now_day, ai E now_a0 10 now_height, ai E now_a1 7 now_kind, ai E now_a2 7 now_figure, ai E now_a3 7 now_rail, ai E now_a4 7 now_mood, ai E now_a5 7 now_sight]) hC q_X8_isShut kw_2_68 (c_X8_isShut l E now_h now_a0 now_a1 now_a2 now_a3 now_a4 now_a5 now_height now_kind now_figure now_rail now_mood now_sight now_moving now_shut now_people now_needed now_day p1 r7 h8) ⟨rfl, rfl⟩ ⟨Nat.le_of_ble_eq_true rfl, Nat.le_of_ble_eq_true rfl⟩ ⟨Nat.zero_le _, Nat.zero_le _⟩ (hP.sub (ws' := [oSt now_h now_a0 now_a1 now_a2 now_a3 now_a4 now_a5 now_moving now_shut now_people now_needed now_day, ai E now_a0 10 now_height, ai E now_a1 7 now_kind, ai E now_a2 7 now_figure, ai E now_a3 7 now_rail, ai E now_a4 7 now_mood, ai E now_a5 7 now_sight]) [1, 2, 3, 4, 5, 6, 7] rfl) rfl rfl rfl hG rfl hl.1 rfl (Nat.le_of_ble_eq_true rfl) dX9_balcony_51 rfl ?_
        obtain ⟨r9, h10, hv⟩ := ob_s hv
        refine rdS (rest := []) (st1 := [.int r9]) (w := []) hC q_X9_oneIf kw_2_59 (c_X9_oneIf l E r7 r9 h10) ⟨rfl, rfl⟩ ⟨Nat.le_of_ble_eq_true rfl, Nat.le_of_ble_eq_true rfl⟩ ⟨Nat.zero_le _, Nat.zero_le _⟩ (hP.sub (ws' := []) [] rfl) hG rfl hl.1 rfl (Nat.le_of_ble_eq_true rfl) dX9_balcony_54 rfl ?_
        exact W.iret (v := r9) hx hb hr (fun t h9 _ => ⟨rv_i hv, h9⟩) (fun q h => absurd h List.not_mem_nil) dX9_balcony_57 hlk
      · have hv := if_n c6 hv
        rcases Decidable.em (p2 = (2 : Int32)) with c11 | c11
        · have hv := if_y c11 hv
          refine lv_tableIn (tgt := 58) (off := 48) hx hb dX9_balcony_10 (by rw [c11]; decide) (by rw [c11]; decide) (by rw [c11]; rfl) (by decide) ?_
          refine lv_aload_n hx hb dX9_balcony_58 rfl (lv_at hl 0 rfl) ?_
          refine va_get (D := E.1) (ci := 3) (v := .ref now_h) (C := RX9) (T := TX9) (N := 6) hx hb ht i_X9 hown hK hP 0 rfl rfl 0 (by decide) (ht _ kw_1_138) (fun _ h9 => h9) rfl dX9_balcony_59 ?_
          refine lv_iload_n hx hb dX9_balcony_62 rfl (lv_at hl 1 rfl) ?_
          obtain ⟨r12, h13, hv⟩ := ob_s hv
          refine rdV 2 0 (As := [.int p1]) (rest := []) (st1 := [.int r12]) (w := [oSt now_h now_a0 now_a1 now_a2 now_a3 now_a4 now_a5 now_moving now_shut now_people now_needed now_day, ai E now_a0 10 now_height, ai E now_a1 7 now_kind, ai E now_a2 7 now_figure, ai E now_a3 7 now_rail, ai E now_a4 7 now_mood, ai E now_a5 7 now_sight]) hC q_X8_onesOn kw_2_72 (c_X8_onesOn l E now_h now_a0 now_a1 now_a2 now_a3 now_a4 now_a5 now_height now_kind now_figure now_rail now_mood now_sight now_moving now_shut now_people now_needed now_day p1 N r12 h13) ⟨rfl, rfl⟩ ⟨Nat.le_of_ble_eq_true rfl, Nat.le_of_ble_eq_true rfl⟩ ⟨Nat.zero_le _, Nat.zero_le _⟩ (hP.sub (ws' := [oSt now_h now_a0 now_a1 now_a2 now_a3 now_a4 now_a5 now_moving now_shut now_people now_needed now_day, ai E now_a0 10 now_height, ai E now_a1 7 now_kind, ai E now_a2 7 now_figure, ai E now_a3 7 now_rail, ai E now_a4 7 now_mood, ai E now_a5 7 now_sight]) [1, 2, 3, 4, 5, 6, 7] rfl) rfl rfl rfl hG rfl hl.1 rfl (Nat.le_of_ble_eq_true rfl) dX9_balcony_63 rfl ?_
          exact W.iret (v := r12) hx hb hr (fun t h9 _ => ⟨rv_i hv, h9⟩) (fun q h => absurd h List.not_mem_nil) dX9_balcony_66 hlk
        · have hv := if_n c11 hv
          refine lv_tableD (tgt := 67) hx hb dX9_balcony_10 (fun i h => match i, h with | 0, _ => Or.inr (lv_neT c4 (by decide)) | 1, _ => Or.inr (lv_neT c6 (by decide)) | 2, _ => Or.inr (lv_neT c11 (by decide)) | i + 3, h => absurd h (by simp)) rfl (by decide) ?_
          refine lv_iconst (v := (-1 : Int32)) hx hb dX9_balcony_67 (by decide) ?_
          exact W.iret (v := (-1 : Int32)) hx hb hr (fun t h9 _ => ⟨rv_i hv, h9⟩) (fun q h => absurd h List.not_mem_nil) dX9_balcony_68 hlk
  · have hv := if_y c3 hv
    refine lv_iconst (v := (-1 : Int32)) hx hb dX9_balcony_7 (by decide) ?_
    exact W.iret (v := (-1 : Int32)) hx hb hr (fun t h9 _ => ⟨rv_i hv, h9⟩) (fun q h => absurd h List.not_mem_nil) dX9_balcony_8 hlk
theorem dX9_builds_0 : decode cX9_builds 0 = .ok (.iload_n 1, 1) := by decide +kernel
theorem dX9_builds_1 : decode cX9_builds 1 = .ok (.invokestatic 91, 3) := by decide +kernel
theorem dX9_builds_4 : decode cX9_builds 4 = .ok (.ifCond .eq 13, 3) := by decide +kernel
theorem dX9_builds_7 : decode cX9_builds 7 = .ok (.iload_n 2, 1) := by decide +kernel
theorem dX9_builds_8 : decode cX9_builds 8 = .ok (.iconst 0, 1) := by decide +kernel
theorem dX9_builds_9 : decode cX9_builds 9 = .ok (.bipush 7, 2) := by decide +kernel
theorem dX9_builds_11 : decode cX9_builds 11 = .ok (.invokestatic 118, 3) := by decide +kernel
theorem dX9_builds_14 : decode cX9_builds 14 = .ok (.ifCond .ne 5, 3) := by decide +kernel
theorem dX9_builds_17 : decode cX9_builds 17 = .ok (.iconst (-1), 1) := by decide +kernel
theorem dX9_builds_18 : decode cX9_builds 18 = .ok (.ireturn, 1) := by decide +kernel
theorem dX9_builds_19 : decode cX9_builds 19 = .ok (.aload_n 0, 1) := by decide +kernel
theorem dX9_builds_20 : decode cX9_builds 20 = .ok (.getfield 12, 3) := by decide +kernel
theorem dX9_builds_23 : decode cX9_builds 23 = .ok (.getfield 94, 3) := by decide +kernel
theorem dX9_builds_26 : decode cX9_builds 26 = .ok (.iload_n 1, 1) := by decide +kernel
theorem dX9_builds_27 : decode cX9_builds 27 = .ok (.iaload, 1) := by decide +kernel
theorem dX9_builds_28 : decode cX9_builds 28 = .ok (.istore_n 3, 1) := by decide +kernel
theorem dX9_builds_29 : decode cX9_builds 29 = .ok (.aload_n 0, 1) := by decide +kernel
theorem dX9_builds_30 : decode cX9_builds 30 = .ok (.getfield 12, 3) := by decide +kernel
theorem dX9_builds_33 : decode cX9_builds 33 = .ok (.getfield 94, 3) := by decide +kernel
theorem dX9_builds_36 : decode cX9_builds 36 = .ok (.iload_n 1, 1) := by decide +kernel
theorem dX9_builds_37 : decode cX9_builds 37 = .ok (.iload_n 2, 1) := by decide +kernel
theorem dX9_builds_38 : decode cX9_builds 38 = .ok (.iastore, 1) := by decide +kernel
theorem dX9_builds_39 : decode cX9_builds 39 = .ok (.iload_n 3, 1) := by decide +kernel
theorem dX9_builds_40 : decode cX9_builds 40 = .ok (.ireturn, 1) := by decide +kernel
def f_X9_builds (now_height : Nat → Int32) (p1 : Int32) (p2 : Int32) : Option (Int32 × (Nat → Int32)) := ob (f_X9_isBalcony p1) (fun r1 => if r1 = 0 then nm (-1 : Int32) (fun z4 => some (z4, now_height)) else ob (f_X9_isWithin p2 (0 : Int32) (7 : Int32)) (fun r5 => if r5 = 0 then nm (-1 : Int32) (fun z12 => some (z12, now_height)) else gd (ix p1 10) (gd (ix p1 10) (nm (upd now_height p1.toNatClampNeg p2) (fun f10 => nm (now_height p1.toNatClampNeg) (fun z11 => some (z11, f10)))))))
set_option maxHeartbeats 4000000 in
set_option maxRecDepth 100000 in
theorem c_X9_builds (l : Launch) (E : EE) (b_h : Nat) (now_h : Nat) (mind_h : Nat) (kept_h : Nat) (rails_h : Nat) (sa_h : Nat) (now_a0 : Nat) (now_a1 : Nat) (now_a2 : Nat) (now_a3 : Nat) (now_a4 : Nat) (now_a5 : Nat) (b_img : Int32) (now_height : Nat → Int32) (now_kind : Nat → Int32) (now_figure : Nat → Int32) (now_rail : Nat → Int32) (now_mood : Nat → Int32) (now_sight : Nat → Int32) (now_moving : Int32) (now_shut : Int32) (now_people : Int32) (now_needed : Int32) (now_day : Int32) (p1 : Int32) (p2 : Int32) (res : Int32) (w_now_height : Nat → Int32) (hv : f_X9_builds now_height p1 p2 = some (res, w_now_height)) : Wr l E yX9_builds cX9_builds 4 (some .int) ({ frames := 2, cells := 0, slots := 0, locals := 42 }) [.ref b_h, .int p1, .int p2] [oBp b_h now_h mind_h kept_h b_img rails_h sa_h, oSt now_h now_a0 now_a1 now_a2 now_a3 now_a4 now_a5 now_moving now_shut now_people now_needed now_day, ai E now_a0 10 now_height, ai E now_a1 7 now_kind, ai E now_a2 7 now_figure, ai E now_a3 7 now_rail, ai E now_a4 7 now_mood, ai E now_a5 7 now_sight] [oBp b_h now_h mind_h kept_h b_img rails_h sa_h, oSt now_h now_a0 now_a1 now_a2 now_a3 now_a4 now_a5 now_moving now_shut now_people now_needed now_day, ai E now_a0 10 w_now_height, ai E now_a1 7 now_kind, ai E now_a2 7 now_figure, ai E now_a3 7 now_rail, ai E now_a4 7 now_mood, ai E now_a5 7 now_sight] (some (.int res)) := by
  refine Wr.intro RX9 (by decide) rfl (Nat.le_of_ble_eq_true rfl) ?_
  intro p e s m below meth c ls A hC hr hlk hmn hP hD hS hA hG hl
  obtain ⟨hx, hb, hml, hown, ht⟩ := id hC
  have hK := hG.1
  have hl : lv_has ls 4 [(0, .ref b_h), (1, .int p1), (2, .int p2)] := hl
  rw [f_X9_builds] at hv
  refine lv_iload_n hx hb dX9_builds_0 rfl (lv_at hl 1 rfl) ?_
  obtain ⟨r1, h2, hv⟩ := ob_s hv
  refine rdS (rest := []) (st1 := [.int r1]) (w := []) hC q_X9_isBalcony kw_2_67 (c_X9_isBalcony l E p1 r1 h2) ⟨rfl, rfl⟩ ⟨Nat.le_of_ble_eq_true rfl, Nat.le_of_ble_eq_true rfl⟩ ⟨Nat.zero_le _, Nat.zero_le _⟩ (hP.sub (ws' := []) [] rfl) hG rfl hl.1 rfl (Nat.le_of_ble_eq_true rfl) dX9_builds_1 rfl ?_
  refine lv_if_eq (tgt := 17) hx hb dX9_builds_4 (by decide) (fun c3 => ?_) (fun c3 => ?_)
  · have hv := if_y c3 hv
    refine lv_iconst (v := (-1 : Int32)) hx hb dX9_builds_17 (by decide) ?_
    refine lv_topi (fun z4 ez4 => ?_)
    have hv := nm_s ez4 hv
    cases hv
    exact W.iret hx hb hr (fun t h9 _ => ⟨rfl, by rw [h9]; exact hP, hS.F h9⟩) hS.2.2 dX9_builds_18 hlk
  · have hv := if_n c3 hv
    refine lv_iload_n hx hb dX9_builds_7 rfl (lv_at hl 2 rfl) ?_
    refine lv_iconst (v := (0 : Int32)) hx hb dX9_builds_8 (by decide) ?_
    refine lv_bipush (v := (7 : Int32)) hx hb dX9_builds_9 (by decide) ?_
    obtain ⟨r5, h6, hv⟩ := ob_s hv
    refine rdS (rest := []) (st1 := [.int r5]) (w := []) hC q_X9_isWithin kw_1_168 (c_X9_isWithin l E p2 (0 : Int32) (7 : Int32) r5 h6) ⟨rfl, rfl⟩ ⟨Nat.le_of_ble_eq_true rfl, Nat.le_of_ble_eq_true rfl⟩ ⟨Nat.zero_le _, Nat.zero_le _⟩ (hP.sub (ws' := []) [] rfl) hG rfl hl.1 rfl (Nat.le_of_ble_eq_true rfl) dX9_builds_11 rfl ?_
    refine lv_if_ne (tgt := 19) hx hb dX9_builds_14 (by decide) (fun c7 => ?_) (fun c7 => ?_)
    · have hv := if_n c7 hv
      refine lv_aload_n hx hb dX9_builds_19 rfl (lv_at hl 0 rfl) ?_
      refine va_get (D := E.1) (ci := 3) (v := .ref now_h) (C := RX9) (T := TX9) (N := 6) hx hb ht i_X9 hown hK hP 0 rfl rfl 0 (by decide) (ht _ kw_1_138) (fun _ h9 => h9) rfl dX9_builds_20 ?_
      refine va_get (D := E.1) (ci := 2) (v := .ref now_a0) (C := RX8) (T := TX8) (N := 11) hx hb ht i_X8 hown hK hP 1 rfl rfl 0 (by decide) (ht _ kw_1_37) (fun _ h9 => h9) rfl dX9_builds_23 ?_
      refine lv_iload_n hx hb dX9_builds_26 rfl (lv_at hl 1 rfl) ?_
      obtain ⟨g8, hv⟩ := gd_s hv
      refine va_iald hx hb hK hP 2 0 rfl rfl (ix_s g8) dX9_builds_27 ?_
      refine lv_istore_n (lv' := [(3, .int (now_height p1.toNatClampNeg)), (0, .ref b_h), (1, .int p1), (2, .int p2)]) hx hb dX9_builds_28 rfl hl (by decide) rfl (fun ls hl => ?_)
      refine lv_aload_n hx hb dX9_builds_29 rfl (lv_at hl 1 rfl) ?_
      refine va_get (D := E.1) (ci := 3) (v := .ref now_h) (C := RX9) (T := TX9) (N := 6) hx hb ht i_X9 hown hK hP 0 rfl rfl 0 (by decide) (ht _ kw_1_138) (fun _ h9 => h9) rfl dX9_builds_30 ?_
      refine va_get (D := E.1) (ci := 2) (v := .ref now_a0) (C := RX8) (T := TX8) (N := 11) hx hb ht i_X8 hown hK hP 1 rfl rfl 0 (by decide) (ht _ kw_1_37) (fun _ h9 => h9) rfl dX9_builds_33 ?_
      refine lv_iload_n hx hb dX9_builds_36 rfl (lv_at hl 2 rfl) ?_
      refine lv_iload_n hx hb dX9_builds_37 rfl (lv_at hl 3 rfl) ?_
      obtain ⟨g9, hv⟩ := gd_s hv
      refine va_iast hx hb hK hP hD hS 2 0 rfl rfl (ix_s g9) dX9_builds_38 (fun H locs hP hD hS => ?_)
      have hP : va_P E.1 vwCl [oBp b_h now_h mind_h kept_h b_img rails_h sa_h, oSt now_h now_a0 now_a1 now_a2 now_a3 now_a4 now_a5 now_moving now_shut now_people now_needed now_day, ai E now_a0 10 (upd now_height p1.toNatClampNeg p2), ai E now_a1 7 now_kind, ai E now_a2 7 now_figure, ai E now_a3 7 now_rail, ai E now_a4 7 now_mood, ai E now_a5 7 now_sight] H := hP
      have hD : va_D A [oBp b_h now_h mind_h kept_h b_img rails_h sa_h, oSt now_h now_a0 now_a1 now_a2 now_a3 now_a4 now_a5 now_moving now_shut now_people now_needed now_day, ai E now_a0 10 (upd now_height p1.toNatClampNeg p2), ai E now_a1 7 now_kind, ai E now_a2 7 now_figure, ai E now_a3 7 now_rail, ai E now_a4 7 now_mood, ai E now_a5 7 now_sight] := hD
      obtain ⟨f10, ef10⟩ : ∃ z, z = (upd now_height p1.toNatClampNeg p2) := ⟨_, rfl⟩
      rw [← ef10] at hP hD
      have hv := nm_s ef10 hv
      refine lv_iload_n hx hb dX9_builds_39 rfl (lv_at hl 0 rfl) ?_
      refine lv_topi (fun z11 ez11 => ?_)
      have hv := nm_s ez11 hv
      cases hv
      exact W.iret hx hb hr (fun t h9 _ => ⟨rfl, by rw [h9]; exact hP, hS.F h9⟩) hS.2.2 dX9_builds_40 hlk
    · have hv := if_y c7 hv
      refine lv_iconst (v := (-1 : Int32)) hx hb dX9_builds_17 (by decide) ?_
      refine lv_topi (fun z12 ez12 => ?_)
      have hv := nm_s ez12 hv
      cases hv
      exact W.iret hx hb hr (fun t h9 _ => ⟨rfl, by rw [h9]; exact hP, hS.F h9⟩) hS.2.2 dX9_builds_18 hlk
theorem dX9_shuts_0 : decode cX9_shuts 0 = .ok (.iload_n 1, 1) := by decide +kernel
theorem dX9_shuts_1 : decode cX9_shuts 1 = .ok (.invokestatic 91, 3) := by decide +kernel
theorem dX9_shuts_4 : decode cX9_shuts 4 = .ok (.ifCond .ne 5, 3) := by decide +kernel
theorem dX9_shuts_7 : decode cX9_shuts 7 = .ok (.iconst (-1), 1) := by decide +kernel
theorem dX9_shuts_8 : decode cX9_shuts 8 = .ok (.ireturn, 1) := by decide +kernel
theorem dX9_shuts_9 : decode cX9_shuts 9 = .ok (.aload_n 0, 1) := by decide +kernel
theorem dX9_shuts_10 : decode cX9_shuts 10 = .ok (.getfield 12, 3) := by decide +kernel
theorem dX9_shuts_13 : decode cX9_shuts 13 = .ok (.iload_n 1, 1) := by decide +kernel
theorem dX9_shuts_14 : decode cX9_shuts 14 = .ok (.invokevirtual 122, 3) := by decide +kernel
theorem dX9_shuts_17 : decode cX9_shuts 17 = .ok (.aload_n 0, 1) := by decide +kernel
theorem dX9_shuts_18 : decode cX9_shuts 18 = .ok (.getfield 12, 3) := by decide +kernel
theorem dX9_shuts_21 : decode cX9_shuts 21 = .ok (.iload_n 1, 1) := by decide +kernel
theorem dX9_shuts_22 : decode cX9_shuts 22 = .ok (.invokevirtual 97, 3) := by decide +kernel
theorem dX9_shuts_25 : decode cX9_shuts 25 = .ok (.invokestatic 82, 3) := by decide +kernel
theorem dX9_shuts_28 : decode cX9_shuts 28 = .ok (.ireturn, 1) := by decide +kernel
def f_X9_shuts (now_shut : Int32) (p1 : Int32) : Option (Int32 × Int32) := ob (f_X9_isBalcony p1) (fun r1 => if r1 = 0 then nm (-1 : Int32) (fun z10 => some (z10, now_shut)) else ob (f_X8_turnShutter now_shut p1) (fun y4 => ob (f_X8_isShut y4 p1) (fun r6 => ob (f_X9_oneIf r6) (fun r8 => some (r8, y4)))))
set_option maxHeartbeats 4000000 in
set_option maxRecDepth 100000 in
theorem c_X9_shuts (l : Launch) (E : EE) (b_h : Nat) (now_h : Nat) (mind_h : Nat) (kept_h : Nat) (rails_h : Nat) (sa_h : Nat) (now_a0 : Nat) (now_a1 : Nat) (now_a2 : Nat) (now_a3 : Nat) (now_a4 : Nat) (now_a5 : Nat) (b_img : Int32) (now_height : Nat → Int32) (now_kind : Nat → Int32) (now_figure : Nat → Int32) (now_rail : Nat → Int32) (now_mood : Nat → Int32) (now_sight : Nat → Int32) (now_moving : Int32) (now_shut : Int32) (now_people : Int32) (now_needed : Int32) (now_day : Int32) (p1 : Int32) (res : Int32) (w_now_shut : Int32) (hv : f_X9_shuts now_shut p1 = some (res, w_now_shut)) : Wr l E yX9_shuts cX9_shuts 2 (some .int) ({ frames := 2, cells := 0, slots := 0, locals := 42 }) [.ref b_h, .int p1] [oBp b_h now_h mind_h kept_h b_img rails_h sa_h, oSt now_h now_a0 now_a1 now_a2 now_a3 now_a4 now_a5 now_moving now_shut now_people now_needed now_day, ai E now_a0 10 now_height, ai E now_a1 7 now_kind, ai E now_a2 7 now_figure, ai E now_a3 7 now_rail, ai E now_a4 7 now_mood, ai E now_a5 7 now_sight] [oBp b_h now_h mind_h kept_h b_img rails_h sa_h, oSt now_h now_a0 now_a1 now_a2 now_a3 now_a4 now_a5 now_moving w_now_shut now_people now_needed now_day, ai E now_a0 10 now_height, ai E now_a1 7 now_kind, ai E now_a2 7 now_figure, ai E now_a3 7 now_rail, ai E now_a4 7 now_mood, ai E now_a5 7 now_sight] (some (.int res)) := by
  refine Wr.intro RX9 (by decide) rfl (Nat.le_of_ble_eq_true rfl) ?_
  intro p e s m below meth c ls A hC hr hlk hmn hP hD hS hA hG hl
  obtain ⟨hx, hb, hml, hown, ht⟩ := id hC
  have hK := hG.1
  have hl : lv_has ls 2 [(0, .ref b_h), (1, .int p1)] := hl
  rw [f_X9_shuts] at hv
  refine lv_iload_n hx hb dX9_shuts_0 rfl (lv_at hl 1 rfl) ?_
  obtain ⟨r1, h2, hv⟩ := ob_s hv
  refine rdS (rest := []) (st1 := [.int r1]) (w := []) hC q_X9_isBalcony kw_2_67 (c_X9_isBalcony l E p1 r1 h2) ⟨rfl, rfl⟩ ⟨Nat.le_of_ble_eq_true rfl, Nat.le_of_ble_eq_true rfl⟩ ⟨Nat.zero_le _, Nat.zero_le _⟩ (hP.sub (ws' := []) [] rfl) hG rfl hl.1 rfl (Nat.le_of_ble_eq_true rfl) dX9_shuts_1 rfl ?_
  refine lv_if_ne (tgt := 9) hx hb dX9_shuts_4 (by decide) (fun c3 => ?_) (fun c3 => ?_)
  · have hv := if_n c3 hv
    refine lv_aload_n hx hb dX9_shuts_9 rfl (lv_at hl 0 rfl) ?_
    refine va_get (D := E.1) (ci := 3) (v := .ref now_h) (C := RX9) (T := TX9) (N := 6) hx hb ht i_X9 hown hK hP 0 rfl rfl 0 (by decide) (ht _ kw_1_138) (fun _ h9 => h9) rfl dX9_shuts_10 ?_
    refine lv_iload_n hx hb dX9_shuts_13 rfl (lv_at hl 1 rfl) ?_
    obtain ⟨y4, h5, hv⟩ := ob_s hv
    refine wrV (as := [b_h, now_h, now_a0, now_a1, now_a2, now_a3, now_a4, now_a5]) (wr := [oBp b_h now_h mind_h kept_h b_img rails_h sa_h]) [1, 2, 3, 4, 5, 6, 7] [0] 2 0 (ws := [oBp b_h now_h mind_h kept_h b_img rails_h sa_h, oSt now_h now_a0 now_a1 now_a2 now_a3 now_a4 now_a5 now_moving now_shut now_people now_needed now_day, ai E now_a0 10 now_height, ai E now_a1 7 now_kind, ai E now_a2 7 now_figure, ai E now_a3 7 now_rail, ai E now_a4 7 now_mood, ai E now_a5 7 now_sight]) (ws' := [oBp b_h now_h mind_h kept_h b_img rails_h sa_h, oSt now_h now_a0 now_a1 now_a2 now_a3 now_a4 now_a5 now_moving y4 now_people now_needed now_day, ai E now_a0 10 now_height, ai E now_a1 7 now_kind, ai E now_a2 7 now_figure, ai E now_a3 7 now_rail, ai E now_a4 7 now_mood, ai E now_a5 7 now_sight]) (As := [.int p1]) (rest := []) (st1 := []) hC q_X8_turnShutter kw_2_90 (c_X8_turnShutter l E now_h now_a0 now_a1 now_a2 now_a3 now_a4 now_a5 now_height now_kind now_figure now_rail now_mood now_sight now_moving now_shut now_people now_needed now_day p1 y4 h5) ⟨rfl, rfl⟩ ⟨Nat.le_of_ble_eq_true rfl, Nat.le_of_ble_eq_true rfl⟩ ⟨Nat.zero_le _, Nat.zero_le _⟩ hP hD hS hA rfl rfl rfl hG (by decide) rfl rfl rfl rfl rfl rfl rfl rfl hl.1 rfl (Nat.le_of_ble_eq_true rfl) dX9_shuts_14 rfl (fun H locs hP hD hS => ?_)
    refine lv_aload_n hx hb dX9_shuts_17 rfl (lv_at hl 0 rfl) ?_
    refine va_get (D := E.1) (ci := 3) (v := .ref now_h) (C := RX9) (T := TX9) (N := 6) hx hb ht i_X9 hown hK hP 0 rfl rfl 0 (by decide) (ht _ kw_1_138) (fun _ h9 => h9) rfl dX9_shuts_18 ?_
    refine lv_iload_n hx hb dX9_shuts_21 rfl (lv_at hl 1 rfl) ?_
    obtain ⟨r6, h7, hv⟩ := ob_s hv
    refine rdV 2 0 (As := [.int p1]) (rest := []) (st1 := [.int r6]) (w := [oSt now_h now_a0 now_a1 now_a2 now_a3 now_a4 now_a5 now_moving y4 now_people now_needed now_day, ai E now_a0 10 now_height, ai E now_a1 7 now_kind, ai E now_a2 7 now_figure, ai E now_a3 7 now_rail, ai E now_a4 7 now_mood, ai E now_a5 7 now_sight]) hC q_X8_isShut kw_2_68 (c_X8_isShut l E now_h now_a0 now_a1 now_a2 now_a3 now_a4 now_a5 now_height now_kind now_figure now_rail now_mood now_sight now_moving y4 now_people now_needed now_day p1 r6 h7) ⟨rfl, rfl⟩ ⟨Nat.le_of_ble_eq_true rfl, Nat.le_of_ble_eq_true rfl⟩ ⟨Nat.zero_le _, Nat.zero_le _⟩ (hP.sub (ws' := [oSt now_h now_a0 now_a1 now_a2 now_a3 now_a4 now_a5 now_moving y4 now_people now_needed now_day, ai E now_a0 10 now_height, ai E now_a1 7 now_kind, ai E now_a2 7 now_figure, ai E now_a3 7 now_rail, ai E now_a4 7 now_mood, ai E now_a5 7 now_sight]) [1, 2, 3, 4, 5, 6, 7] rfl) rfl rfl rfl hG rfl hl.1 rfl (Nat.le_of_ble_eq_true rfl) dX9_shuts_22 rfl ?_
    obtain ⟨r8, h9, hv⟩ := ob_s hv
    refine rdS (rest := []) (st1 := [.int r8]) (w := []) hC q_X9_oneIf kw_2_59 (c_X9_oneIf l E r6 r8 h9) ⟨rfl, rfl⟩ ⟨Nat.le_of_ble_eq_true rfl, Nat.le_of_ble_eq_true rfl⟩ ⟨Nat.zero_le _, Nat.zero_le _⟩ (hP.sub (ws' := []) [] rfl) hG rfl hl.1 rfl (Nat.le_of_ble_eq_true rfl) dX9_shuts_25 rfl ?_
    cases hv
    exact W.iret hx hb hr (fun t h9 _ => ⟨rfl, by rw [h9]; exact hP, hS.F h9⟩) hS.2.2 dX9_shuts_28 hlk
  · have hv := if_y c3 hv
    refine lv_iconst (v := (-1 : Int32)) hx hb dX9_shuts_7 (by decide) ?_
    refine lv_topi (fun z10 ez10 => ?_)
    have hv := nm_s ez10 hv
    cases hv
    exact W.iret hx hb hr (fun t h9 _ => ⟨rfl, by rw [h9]; exact hP, hS.F h9⟩) hS.2.2 dX9_shuts_8 hlk
theorem dX9_thinks_0 : decode cX9_thinks 0 = .ok (.aload_n 0, 1) := by decide +kernel
theorem dX9_thinks_1 : decode cX9_thinks 1 = .ok (.getfield 12, 3) := by decide +kernel
theorem dX9_thinks_4 : decode cX9_thinks 4 = .ok (.iload_n 1, 1) := by decide +kernel
theorem dX9_thinks_5 : decode cX9_thinks 5 = .ok (.invokevirtual 58, 3) := by decide +kernel
theorem dX9_thinks_8 : decode cX9_thinks 8 = .ok (.ifCond .eq 14, 3) := by decide +kernel
theorem dX9_thinks_11 : decode cX9_thinks 11 = .ok (.iload_n 2, 1) := by decide +kernel
theorem dX9_thinks_12 : decode cX9_thinks 12 = .ok (.bipush (-9), 2) := by decide +kernel
theorem dX9_thinks_14 : decode cX9_thinks 14 = .ok (.bipush 9, 2) := by decide +kernel
theorem dX9_thinks_16 : decode cX9_thinks 16 = .ok (.invokestatic 118, 3) := by decide +kernel
theorem dX9_thinks_19 : decode cX9_thinks 19 = .ok (.ifCond .ne 6, 3) := by decide +kernel
theorem dX9_thinks_22 : decode cX9_thinks 22 = .ok (.ldc 126, 2) := by decide +kernel
theorem dX9_thinks_24 : decode cX9_thinks 24 = .ok (.ireturn, 1) := by decide +kernel
theorem dX9_thinks_25 : decode cX9_thinks 25 = .ok (.aload_n 0, 1) := by decide +kernel
theorem dX9_thinks_26 : decode cX9_thinks 26 = .ok (.getfield 12, 3) := by decide +kernel
theorem dX9_thinks_29 : decode cX9_thinks 29 = .ok (.getfield 72, 3) := by decide +kernel
theorem dX9_thinks_32 : decode cX9_thinks 32 = .ok (.iload_n 1, 1) := by decide +kernel
theorem dX9_thinks_33 : decode cX9_thinks 33 = .ok (.iaload, 1) := by decide +kernel
theorem dX9_thinks_34 : decode cX9_thinks 34 = .ok (.istore_n 3, 1) := by decide +kernel
theorem dX9_thinks_35 : decode cX9_thinks 35 = .ok (.aload_n 0, 1) := by decide +kernel
theorem dX9_thinks_36 : decode cX9_thinks 36 = .ok (.getfield 12, 3) := by decide +kernel
theorem dX9_thinks_39 : decode cX9_thinks 39 = .ok (.getfield 72, 3) := by decide +kernel
theorem dX9_thinks_42 : decode cX9_thinks 42 = .ok (.iload_n 1, 1) := by decide +kernel
theorem dX9_thinks_43 : decode cX9_thinks 43 = .ok (.iload_n 2, 1) := by decide +kernel
theorem dX9_thinks_44 : decode cX9_thinks 44 = .ok (.iastore, 1) := by decide +kernel
theorem dX9_thinks_45 : decode cX9_thinks 45 = .ok (.iload_n 3, 1) := by decide +kernel
theorem dX9_thinks_46 : decode cX9_thinks 46 = .ok (.ireturn, 1) := by decide +kernel
def f_X9_thinks (now_mood : Nat → Int32) (now_people : Int32) (p1 : Int32) (p2 : Int32) : Option (Int32 × (Nat → Int32)) := ob (f_X8_isThere now_people p1) (fun r1 => if r1 = 0 then nm (1000000001 : Int32) (fun z4 => some (z4, now_mood)) else ob (f_X9_isWithin p2 (-9 : Int32) (9 : Int32)) (fun r5 => if r5 = 0 then nm (1000000001 : Int32) (fun z12 => some (z12, now_mood)) else gd (ix p1 7) (gd (ix p1 7) (nm (upd now_mood p1.toNatClampNeg p2) (fun f10 => nm (now_mood p1.toNatClampNeg) (fun z11 => some (z11, f10)))))))
set_option maxHeartbeats 4000000 in
set_option maxRecDepth 100000 in
theorem c_X9_thinks (l : Launch) (E : EE) (b_h : Nat) (now_h : Nat) (mind_h : Nat) (kept_h : Nat) (rails_h : Nat) (sa_h : Nat) (now_a0 : Nat) (now_a1 : Nat) (now_a2 : Nat) (now_a3 : Nat) (now_a4 : Nat) (now_a5 : Nat) (b_img : Int32) (now_height : Nat → Int32) (now_kind : Nat → Int32) (now_figure : Nat → Int32) (now_rail : Nat → Int32) (now_mood : Nat → Int32) (now_sight : Nat → Int32) (now_moving : Int32) (now_shut : Int32) (now_people : Int32) (now_needed : Int32) (now_day : Int32) (p1 : Int32) (p2 : Int32) (res : Int32) (w_now_mood : Nat → Int32) (hv : f_X9_thinks now_mood now_people p1 p2 = some (res, w_now_mood)) : Wr l E yX9_thinks cX9_thinks 4 (some .int) ({ frames := 1, cells := 0, slots := 0, locals := 22 }) [.ref b_h, .int p1, .int p2] [oBp b_h now_h mind_h kept_h b_img rails_h sa_h, oSt now_h now_a0 now_a1 now_a2 now_a3 now_a4 now_a5 now_moving now_shut now_people now_needed now_day, ai E now_a0 10 now_height, ai E now_a1 7 now_kind, ai E now_a2 7 now_figure, ai E now_a3 7 now_rail, ai E now_a4 7 now_mood, ai E now_a5 7 now_sight] [oBp b_h now_h mind_h kept_h b_img rails_h sa_h, oSt now_h now_a0 now_a1 now_a2 now_a3 now_a4 now_a5 now_moving now_shut now_people now_needed now_day, ai E now_a0 10 now_height, ai E now_a1 7 now_kind, ai E now_a2 7 now_figure, ai E now_a3 7 now_rail, ai E now_a4 7 w_now_mood, ai E now_a5 7 now_sight] (some (.int res)) := by
  refine Wr.intro RX9 (by decide) rfl (Nat.le_of_ble_eq_true rfl) ?_
  intro p e s m below meth c ls A hC hr hlk hmn hP hD hS hA hG hl
  obtain ⟨hx, hb, hml, hown, ht⟩ := id hC
  have hK := hG.1
  have hl : lv_has ls 4 [(0, .ref b_h), (1, .int p1), (2, .int p2)] := hl
  rw [f_X9_thinks] at hv
  refine lv_aload_n hx hb dX9_thinks_0 rfl (lv_at hl 0 rfl) ?_
  refine va_get (D := E.1) (ci := 3) (v := .ref now_h) (C := RX9) (T := TX9) (N := 6) hx hb ht i_X9 hown hK hP 0 rfl rfl 0 (by decide) (ht _ kw_1_138) (fun _ h9 => h9) rfl dX9_thinks_1 ?_
  refine lv_iload_n hx hb dX9_thinks_4 rfl (lv_at hl 1 rfl) ?_
  obtain ⟨r1, h2, hv⟩ := ob_s hv
  refine rdV 2 0 (As := [.int p1]) (rest := []) (st1 := [.int r1]) (w := [oSt now_h now_a0 now_a1 now_a2 now_a3 now_a4 now_a5 now_moving now_shut now_people now_needed now_day, ai E now_a0 10 now_height, ai E now_a1 7 now_kind, ai E now_a2 7 now_figure, ai E now_a3 7 now_rail, ai E now_a4 7 now_mood, ai E now_a5 7 now_sight]) hC q_X8_isThere kw_2_50 (c_X8_isThere l E now_h now_a0 now_a1 now_a2 now_a3 now_a4 now_a5 now_height now_kind now_figure now_rail now_mood now_sight now_moving now_shut now_people now_needed now_day p1 r1 h2) ⟨rfl, rfl⟩ ⟨Nat.le_of_ble_eq_true rfl, Nat.le_of_ble_eq_true rfl⟩ ⟨Nat.zero_le _, Nat.zero_le _⟩ (hP.sub (ws' := [oSt now_h now_a0 now_a1 now_a2 now_a3 now_a4 now_a5 now_moving now_shut now_people now_needed now_day, ai E now_a0 10 now_height, ai E now_a1 7 now_kind, ai E now_a2 7 now_figure, ai E now_a3 7 now_rail, ai E now_a4 7 now_mood, ai E now_a5 7 now_sight]) [1, 2, 3, 4, 5, 6, 7] rfl) rfl rfl rfl hG rfl hl.1 rfl (Nat.le_of_ble_eq_true rfl) dX9_thinks_5 rfl ?_
  refine lv_if_eq (tgt := 22) hx hb dX9_thinks_8 (by decide) (fun c3 => ?_) (fun c3 => ?_)
  · have hv := if_y c3 hv
    refine lv_ldc (v := (1000000001 : Int32)) hx hb hown (ht _ kw_2_95) dX9_thinks_22 ?_
    refine lv_topi (fun z4 ez4 => ?_)
    have hv := nm_s ez4 hv
    cases hv
    exact W.iret hx hb hr (fun t h9 _ => ⟨rfl, by rw [h9]; exact hP, hS.F h9⟩) hS.2.2 dX9_thinks_24 hlk
  · have hv := if_n c3 hv
    refine lv_iload_n hx hb dX9_thinks_11 rfl (lv_at hl 2 rfl) ?_
    refine lv_bipush (v := (-9 : Int32)) hx hb dX9_thinks_12 (by decide) ?_
    refine lv_bipush (v := (9 : Int32)) hx hb dX9_thinks_14 (by decide) ?_
    obtain ⟨r5, h6, hv⟩ := ob_s hv
    refine rdS (rest := []) (st1 := [.int r5]) (w := []) hC q_X9_isWithin kw_1_168 (c_X9_isWithin l E p2 (-9 : Int32) (9 : Int32) r5 h6) ⟨rfl, rfl⟩ ⟨Nat.le_of_ble_eq_true rfl, Nat.le_of_ble_eq_true rfl⟩ ⟨Nat.zero_le _, Nat.zero_le _⟩ (hP.sub (ws' := []) [] rfl) hG rfl hl.1 rfl (Nat.le_of_ble_eq_true rfl) dX9_thinks_16 rfl ?_
    refine lv_if_ne (tgt := 25) hx hb dX9_thinks_19 (by decide) (fun c7 => ?_) (fun c7 => ?_)
    · have hv := if_n c7 hv
      refine lv_aload_n hx hb dX9_thinks_25 rfl (lv_at hl 0 rfl) ?_
      refine va_get (D := E.1) (ci := 3) (v := .ref now_h) (C := RX9) (T := TX9) (N := 6) hx hb ht i_X9 hown hK hP 0 rfl rfl 0 (by decide) (ht _ kw_1_138) (fun _ h9 => h9) rfl dX9_thinks_26 ?_
      refine va_get (D := E.1) (ci := 2) (v := .ref now_a4) (C := RX8) (T := TX8) (N := 11) hx hb ht i_X8 hown hK hP 1 rfl rfl 4 (by decide) (ht _ kw_1_46) (fun _ h9 => h9) rfl dX9_thinks_29 ?_
      refine lv_iload_n hx hb dX9_thinks_32 rfl (lv_at hl 1 rfl) ?_
      obtain ⟨g8, hv⟩ := gd_s hv
      refine va_iald hx hb hK hP 6 0 rfl rfl (ix_s g8) dX9_thinks_33 ?_
      refine lv_istore_n (lv' := [(3, .int (now_mood p1.toNatClampNeg)), (0, .ref b_h), (1, .int p1), (2, .int p2)]) hx hb dX9_thinks_34 rfl hl (by decide) rfl (fun ls hl => ?_)
      refine lv_aload_n hx hb dX9_thinks_35 rfl (lv_at hl 1 rfl) ?_
      refine va_get (D := E.1) (ci := 3) (v := .ref now_h) (C := RX9) (T := TX9) (N := 6) hx hb ht i_X9 hown hK hP 0 rfl rfl 0 (by decide) (ht _ kw_1_138) (fun _ h9 => h9) rfl dX9_thinks_36 ?_
      refine va_get (D := E.1) (ci := 2) (v := .ref now_a4) (C := RX8) (T := TX8) (N := 11) hx hb ht i_X8 hown hK hP 1 rfl rfl 4 (by decide) (ht _ kw_1_46) (fun _ h9 => h9) rfl dX9_thinks_39 ?_
      refine lv_iload_n hx hb dX9_thinks_42 rfl (lv_at hl 2 rfl) ?_
      refine lv_iload_n hx hb dX9_thinks_43 rfl (lv_at hl 3 rfl) ?_
      obtain ⟨g9, hv⟩ := gd_s hv
      refine va_iast hx hb hK hP hD hS 6 0 rfl rfl (ix_s g9) dX9_thinks_44 (fun H locs hP hD hS => ?_)
      have hP : va_P E.1 vwCl [oBp b_h now_h mind_h kept_h b_img rails_h sa_h, oSt now_h now_a0 now_a1 now_a2 now_a3 now_a4 now_a5 now_moving now_shut now_people now_needed now_day, ai E now_a0 10 now_height, ai E now_a1 7 now_kind, ai E now_a2 7 now_figure, ai E now_a3 7 now_rail, ai E now_a4 7 (upd now_mood p1.toNatClampNeg p2), ai E now_a5 7 now_sight] H := hP
      have hD : va_D A [oBp b_h now_h mind_h kept_h b_img rails_h sa_h, oSt now_h now_a0 now_a1 now_a2 now_a3 now_a4 now_a5 now_moving now_shut now_people now_needed now_day, ai E now_a0 10 now_height, ai E now_a1 7 now_kind, ai E now_a2 7 now_figure, ai E now_a3 7 now_rail, ai E now_a4 7 (upd now_mood p1.toNatClampNeg p2), ai E now_a5 7 now_sight] := hD
      obtain ⟨f10, ef10⟩ : ∃ z, z = (upd now_mood p1.toNatClampNeg p2) := ⟨_, rfl⟩
      rw [← ef10] at hP hD
      have hv := nm_s ef10 hv
      refine lv_iload_n hx hb dX9_thinks_45 rfl (lv_at hl 0 rfl) ?_
      refine lv_topi (fun z11 ez11 => ?_)
      have hv := nm_s ez11 hv
      cases hv
      exact W.iret hx hb hr (fun t h9 _ => ⟨rfl, by rw [h9]; exact hP, hS.F h9⟩) hS.2.2 dX9_thinks_46 hlk
    · have hv := if_y c7 hv
      refine lv_ldc (v := (1000000001 : Int32)) hx hb hown (ht _ kw_2_95) dX9_thinks_22 ?_
      refine lv_topi (fun z12 ez12 => ?_)
      have hv := nm_s ez12 hv
      cases hv
      exact W.iret hx hb hr (fun t h9 _ => ⟨rfl, by rw [h9]; exact hP, hS.F h9⟩) hS.2.2 dX9_thinks_24 hlk
theorem dX9_goes_0 : decode cX9_goes 0 = .ok (.aload_n 0, 1) := by decide +kernel
theorem dX9_goes_1 : decode cX9_goes 1 = .ok (.getfield 12, 3) := by decide +kernel
theorem dX9_goes_4 : decode cX9_goes 4 = .ok (.iload_n 1, 1) := by decide +kernel
theorem dX9_goes_5 : decode cX9_goes 5 = .ok (.invokevirtual 58, 3) := by decide +kernel
theorem dX9_goes_8 : decode cX9_goes 8 = .ok (.ifCond .eq 10, 3) := by decide +kernel
theorem dX9_goes_11 : decode cX9_goes 11 = .ok (.iload_n 2, 1) := by decide +kernel
theorem dX9_goes_12 : decode cX9_goes 12 = .ok (.invokestatic 91, 3) := by decide +kernel
theorem dX9_goes_15 : decode cX9_goes 15 = .ok (.ifCond .ne 5, 3) := by decide +kernel
theorem dX9_goes_18 : decode cX9_goes 18 = .ok (.iconst (-1), 1) := by decide +kernel
theorem dX9_goes_19 : decode cX9_goes 19 = .ok (.ireturn, 1) := by decide +kernel
theorem dX9_goes_20 : decode cX9_goes 20 = .ok (.aload_n 0, 1) := by decide +kernel
theorem dX9_goes_21 : decode cX9_goes 21 = .ok (.getfield 12, 3) := by decide +kernel
theorem dX9_goes_24 : decode cX9_goes 24 = .ok (.getfield 69, 3) := by decide +kernel
theorem dX9_goes_27 : decode cX9_goes 27 = .ok (.iload_n 1, 1) := by decide +kernel
theorem dX9_goes_28 : decode cX9_goes 28 = .ok (.iaload, 1) := by decide +kernel
theorem dX9_goes_29 : decode cX9_goes 29 = .ok (.istore_n 3, 1) := by decide +kernel
theorem dX9_goes_30 : decode cX9_goes 30 = .ok (.aload_n 0, 1) := by decide +kernel
theorem dX9_goes_31 : decode cX9_goes 31 = .ok (.getfield 12, 3) := by decide +kernel
theorem dX9_goes_34 : decode cX9_goes 34 = .ok (.getfield 69, 3) := by decide +kernel
theorem dX9_goes_37 : decode cX9_goes 37 = .ok (.iload_n 1, 1) := by decide +kernel
theorem dX9_goes_38 : decode cX9_goes 38 = .ok (.iload_n 2, 1) := by decide +kernel
theorem dX9_goes_39 : decode cX9_goes 39 = .ok (.iastore, 1) := by decide +kernel
theorem dX9_goes_40 : decode cX9_goes 40 = .ok (.iload_n 3, 1) := by decide +kernel
theorem dX9_goes_41 : decode cX9_goes 41 = .ok (.ireturn, 1) := by decide +kernel
def f_X9_goes (now_rail : Nat → Int32) (now_people : Int32) (p1 : Int32) (p2 : Int32) : Option (Int32 × (Nat → Int32)) := ob (f_X8_isThere now_people p1) (fun r1 => if r1 = 0 then nm (-1 : Int32) (fun z4 => some (z4, now_rail)) else ob (f_X9_isBalcony p2) (fun r5 => if r5 = 0 then nm (-1 : Int32) (fun z12 => some (z12, now_rail)) else gd (ix p1 7) (gd (ix p1 7) (nm (upd now_rail p1.toNatClampNeg p2) (fun f10 => nm (now_rail p1.toNatClampNeg) (fun z11 => some (z11, f10)))))))
set_option maxHeartbeats 4000000 in
set_option maxRecDepth 100000 in
theorem c_X9_goes (l : Launch) (E : EE) (b_h : Nat) (now_h : Nat) (mind_h : Nat) (kept_h : Nat) (rails_h : Nat) (sa_h : Nat) (now_a0 : Nat) (now_a1 : Nat) (now_a2 : Nat) (now_a3 : Nat) (now_a4 : Nat) (now_a5 : Nat) (b_img : Int32) (now_height : Nat → Int32) (now_kind : Nat → Int32) (now_figure : Nat → Int32) (now_rail : Nat → Int32) (now_mood : Nat → Int32) (now_sight : Nat → Int32) (now_moving : Int32) (now_shut : Int32) (now_people : Int32) (now_needed : Int32) (now_day : Int32) (p1 : Int32) (p2 : Int32) (res : Int32) (w_now_rail : Nat → Int32) (hv : f_X9_goes now_rail now_people p1 p2 = some (res, w_now_rail)) : Wr l E yX9_goes cX9_goes 4 (some .int) ({ frames := 2, cells := 0, slots := 0, locals := 42 }) [.ref b_h, .int p1, .int p2] [oBp b_h now_h mind_h kept_h b_img rails_h sa_h, oSt now_h now_a0 now_a1 now_a2 now_a3 now_a4 now_a5 now_moving now_shut now_people now_needed now_day, ai E now_a0 10 now_height, ai E now_a1 7 now_kind, ai E now_a2 7 now_figure, ai E now_a3 7 now_rail, ai E now_a4 7 now_mood, ai E now_a5 7 now_sight] [oBp b_h now_h mind_h kept_h b_img rails_h sa_h, oSt now_h now_a0 now_a1 now_a2 now_a3 now_a4 now_a5 now_moving now_shut now_people now_needed now_day, ai E now_a0 10 now_height, ai E now_a1 7 now_kind, ai E now_a2 7 now_figure, ai E now_a3 7 w_now_rail, ai E now_a4 7 now_mood, ai E now_a5 7 now_sight] (some (.int res)) := by
  refine Wr.intro RX9 (by decide) rfl (Nat.le_of_ble_eq_true rfl) ?_
  intro p e s m below meth c ls A hC hr hlk hmn hP hD hS hA hG hl
  obtain ⟨hx, hb, hml, hown, ht⟩ := id hC
  have hK := hG.1
  have hl : lv_has ls 4 [(0, .ref b_h), (1, .int p1), (2, .int p2)] := hl
  rw [f_X9_goes] at hv
  refine lv_aload_n hx hb dX9_goes_0 rfl (lv_at hl 0 rfl) ?_
  refine va_get (D := E.1) (ci := 3) (v := .ref now_h) (C := RX9) (T := TX9) (N := 6) hx hb ht i_X9 hown hK hP 0 rfl rfl 0 (by decide) (ht _ kw_1_138) (fun _ h9 => h9) rfl dX9_goes_1 ?_
  refine lv_iload_n hx hb dX9_goes_4 rfl (lv_at hl 1 rfl) ?_
  obtain ⟨r1, h2, hv⟩ := ob_s hv
  refine rdV 2 0 (As := [.int p1]) (rest := []) (st1 := [.int r1]) (w := [oSt now_h now_a0 now_a1 now_a2 now_a3 now_a4 now_a5 now_moving now_shut now_people now_needed now_day, ai E now_a0 10 now_height, ai E now_a1 7 now_kind, ai E now_a2 7 now_figure, ai E now_a3 7 now_rail, ai E now_a4 7 now_mood, ai E now_a5 7 now_sight]) hC q_X8_isThere kw_2_50 (c_X8_isThere l E now_h now_a0 now_a1 now_a2 now_a3 now_a4 now_a5 now_height now_kind now_figure now_rail now_mood now_sight now_moving now_shut now_people now_needed now_day p1 r1 h2) ⟨rfl, rfl⟩ ⟨Nat.le_of_ble_eq_true rfl, Nat.le_of_ble_eq_true rfl⟩ ⟨Nat.zero_le _, Nat.zero_le _⟩ (hP.sub (ws' := [oSt now_h now_a0 now_a1 now_a2 now_a3 now_a4 now_a5 now_moving now_shut now_people now_needed now_day, ai E now_a0 10 now_height, ai E now_a1 7 now_kind, ai E now_a2 7 now_figure, ai E now_a3 7 now_rail, ai E now_a4 7 now_mood, ai E now_a5 7 now_sight]) [1, 2, 3, 4, 5, 6, 7] rfl) rfl rfl rfl hG rfl hl.1 rfl (Nat.le_of_ble_eq_true rfl) dX9_goes_5 rfl ?_
  refine lv_if_eq (tgt := 18) hx hb dX9_goes_8 (by decide) (fun c3 => ?_) (fun c3 => ?_)
  · have hv := if_y c3 hv
    refine lv_iconst (v := (-1 : Int32)) hx hb dX9_goes_18 (by decide) ?_
    refine lv_topi (fun z4 ez4 => ?_)
    have hv := nm_s ez4 hv
    cases hv
    exact W.iret hx hb hr (fun t h9 _ => ⟨rfl, by rw [h9]; exact hP, hS.F h9⟩) hS.2.2 dX9_goes_19 hlk
  · have hv := if_n c3 hv
    refine lv_iload_n hx hb dX9_goes_11 rfl (lv_at hl 2 rfl) ?_
    obtain ⟨r5, h6, hv⟩ := ob_s hv
    refine rdS (rest := []) (st1 := [.int r5]) (w := []) hC q_X9_isBalcony kw_2_67 (c_X9_isBalcony l E p2 r5 h6) ⟨rfl, rfl⟩ ⟨Nat.le_of_ble_eq_true rfl, Nat.le_of_ble_eq_true rfl⟩ ⟨Nat.zero_le _, Nat.zero_le _⟩ (hP.sub (ws' := []) [] rfl) hG rfl hl.1 rfl (Nat.le_of_ble_eq_true rfl) dX9_goes_12 rfl ?_
    refine lv_if_ne (tgt := 20) hx hb dX9_goes_15 (by decide) (fun c7 => ?_) (fun c7 => ?_)
    · have hv := if_n c7 hv
      refine lv_aload_n hx hb dX9_goes_20 rfl (lv_at hl 0 rfl) ?_
      refine va_get (D := E.1) (ci := 3) (v := .ref now_h) (C := RX9) (T := TX9) (N := 6) hx hb ht i_X9 hown hK hP 0 rfl rfl 0 (by decide) (ht _ kw_1_138) (fun _ h9 => h9) rfl dX9_goes_21 ?_
      refine va_get (D := E.1) (ci := 2) (v := .ref now_a3) (C := RX8) (T := TX8) (N := 11) hx hb ht i_X8 hown hK hP 1 rfl rfl 3 (by decide) (ht _ kw_1_44) (fun _ h9 => h9) rfl dX9_goes_24 ?_
      refine lv_iload_n hx hb dX9_goes_27 rfl (lv_at hl 1 rfl) ?_
      obtain ⟨g8, hv⟩ := gd_s hv
      refine va_iald hx hb hK hP 5 0 rfl rfl (ix_s g8) dX9_goes_28 ?_
      refine lv_istore_n (lv' := [(3, .int (now_rail p1.toNatClampNeg)), (0, .ref b_h), (1, .int p1), (2, .int p2)]) hx hb dX9_goes_29 rfl hl (by decide) rfl (fun ls hl => ?_)
      refine lv_aload_n hx hb dX9_goes_30 rfl (lv_at hl 1 rfl) ?_
      refine va_get (D := E.1) (ci := 3) (v := .ref now_h) (C := RX9) (T := TX9) (N := 6) hx hb ht i_X9 hown hK hP 0 rfl rfl 0 (by decide) (ht _ kw_1_138) (fun _ h9 => h9) rfl dX9_goes_31 ?_
      refine va_get (D := E.1) (ci := 2) (v := .ref now_a3) (C := RX8) (T := TX8) (N := 11) hx hb ht i_X8 hown hK hP 1 rfl rfl 3 (by decide) (ht _ kw_1_44) (fun _ h9 => h9) rfl dX9_goes_34 ?_
      refine lv_iload_n hx hb dX9_goes_37 rfl (lv_at hl 2 rfl) ?_
      refine lv_iload_n hx hb dX9_goes_38 rfl (lv_at hl 3 rfl) ?_
      obtain ⟨g9, hv⟩ := gd_s hv
      refine va_iast hx hb hK hP hD hS 5 0 rfl rfl (ix_s g9) dX9_goes_39 (fun H locs hP hD hS => ?_)
      have hP : va_P E.1 vwCl [oBp b_h now_h mind_h kept_h b_img rails_h sa_h, oSt now_h now_a0 now_a1 now_a2 now_a3 now_a4 now_a5 now_moving now_shut now_people now_needed now_day, ai E now_a0 10 now_height, ai E now_a1 7 now_kind, ai E now_a2 7 now_figure, ai E now_a3 7 (upd now_rail p1.toNatClampNeg p2), ai E now_a4 7 now_mood, ai E now_a5 7 now_sight] H := hP
      have hD : va_D A [oBp b_h now_h mind_h kept_h b_img rails_h sa_h, oSt now_h now_a0 now_a1 now_a2 now_a3 now_a4 now_a5 now_moving now_shut now_people now_needed now_day, ai E now_a0 10 now_height, ai E now_a1 7 now_kind, ai E now_a2 7 now_figure, ai E now_a3 7 (upd now_rail p1.toNatClampNeg p2), ai E now_a4 7 now_mood, ai E now_a5 7 now_sight] := hD
      obtain ⟨f10, ef10⟩ : ∃ z, z = (upd now_rail p1.toNatClampNeg p2) := ⟨_, rfl⟩
      rw [← ef10] at hP hD
      have hv := nm_s ef10 hv
      refine lv_iload_n hx hb dX9_goes_40 rfl (lv_at hl 0 rfl) ?_
      refine lv_topi (fun z11 ez11 => ?_)
      have hv := nm_s ez11 hv
      cases hv
      exact W.iret hx hb hr (fun t h9 _ => ⟨rfl, by rw [h9]; exact hP, hS.F h9⟩) hS.2.2 dX9_goes_41 hlk
    · have hv := if_y c7 hv
      refine lv_iconst (v := (-1 : Int32)) hx hb dX9_goes_18 (by decide) ?_
      refine lv_topi (fun z12 ez12 => ?_)
      have hv := nm_s ez12 hv
      cases hv
      exact W.iret hx hb hr (fun t h9 _ => ⟨rfl, by rw [h9]; exact hP, hS.F h9⟩) hS.2.2 dX9_goes_19 hlk
theorem dX9_quota_0 : decode cX9_quota 0 = .ok (.iload_n 1, 1) := by decide +kernel
theorem dX9_quota_1 : decode cX9_quota 1 = .ok (.iconst 1, 1) := by decide +kernel
theorem dX9_quota_2 : decode cX9_quota 2 = .ok (.bipush 99, 2) := by decide +kernel
theorem dX9_quota_4 : decode cX9_quota 4 = .ok (.invokestatic 118, 3) := by decide +kernel
theorem dX9_quota_7 : decode cX9_quota 7 = .ok (.ifCond .ne 5, 3) := by decide +kernel
theorem dX9_quota_10 : decode cX9_quota 10 = .ok (.iconst (-1), 1) := by decide +kernel
theorem dX9_quota_11 : decode cX9_quota 11 = .ok (.ireturn, 1) := by decide +kernel
theorem dX9_quota_12 : decode cX9_quota 12 = .ok (.aload_n 0, 1) := by decide +kernel
theorem dX9_quota_13 : decode cX9_quota 13 = .ok (.getfield 12, 3) := by decide +kernel
theorem dX9_quota_16 : decode cX9_quota 16 = .ok (.getfield 127, 3) := by decide +kernel
theorem dX9_quota_19 : decode cX9_quota 19 = .ok (.istore_n 2, 1) := by decide +kernel
theorem dX9_quota_20 : decode cX9_quota 20 = .ok (.aload_n 0, 1) := by decide +kernel
theorem dX9_quota_21 : decode cX9_quota 21 = .ok (.getfield 12, 3) := by decide +kernel
theorem dX9_quota_24 : decode cX9_quota 24 = .ok (.iload_n 1, 1) := by decide +kernel
theorem dX9_quota_25 : decode cX9_quota 25 = .ok (.putfield 127, 3) := by decide +kernel
theorem dX9_quota_28 : decode cX9_quota 28 = .ok (.iload_n 2, 1) := by decide +kernel
theorem dX9_quota_29 : decode cX9_quota 29 = .ok (.ireturn, 1) := by decide +kernel
def f_X9_quota (now_needed : Int32) (p1 : Int32) : Option (Int32 × Int32) := ob (f_X9_isWithin p1 (1 : Int32) (99 : Int32)) (fun r1 => if r1 = 0 then nm (-1 : Int32) (fun z4 => some (z4, now_needed)) else some (now_needed, p1))
set_option maxHeartbeats 4000000 in
set_option maxRecDepth 100000 in
theorem c_X9_quota (l : Launch) (E : EE) (b_h : Nat) (now_h : Nat) (mind_h : Nat) (kept_h : Nat) (rails_h : Nat) (sa_h : Nat) (now_a0 : Nat) (now_a1 : Nat) (now_a2 : Nat) (now_a3 : Nat) (now_a4 : Nat) (now_a5 : Nat) (b_img : Int32) (now_height : Nat → Int32) (now_kind : Nat → Int32) (now_figure : Nat → Int32) (now_rail : Nat → Int32) (now_mood : Nat → Int32) (now_sight : Nat → Int32) (now_moving : Int32) (now_shut : Int32) (now_people : Int32) (now_needed : Int32) (now_day : Int32) (p1 : Int32) (res : Int32) (w_now_needed : Int32) (hv : f_X9_quota now_needed p1 = some (res, w_now_needed)) : Wr l E yX9_quota cX9_quota 3 (some .int) ({ frames := 1, cells := 0, slots := 0, locals := 22 }) [.ref b_h, .int p1] [oBp b_h now_h mind_h kept_h b_img rails_h sa_h, oSt now_h now_a0 now_a1 now_a2 now_a3 now_a4 now_a5 now_moving now_shut now_people now_needed now_day, ai E now_a0 10 now_height, ai E now_a1 7 now_kind, ai E now_a2 7 now_figure, ai E now_a3 7 now_rail, ai E now_a4 7 now_mood, ai E now_a5 7 now_sight] [oBp b_h now_h mind_h kept_h b_img rails_h sa_h, oSt now_h now_a0 now_a1 now_a2 now_a3 now_a4 now_a5 now_moving now_shut now_people w_now_needed now_day, ai E now_a0 10 now_height, ai E now_a1 7 now_kind, ai E now_a2 7 now_figure, ai E now_a3 7 now_rail, ai E now_a4 7 now_mood, ai E now_a5 7 now_sight] (some (.int res)) := by
  refine Wr.intro RX9 (by decide) rfl (Nat.le_of_ble_eq_true rfl) ?_
  intro p e s m below meth c ls A hC hr hlk hmn hP hD hS hA hG hl
  obtain ⟨hx, hb, hml, hown, ht⟩ := id hC
  have hK := hG.1
  have hl : lv_has ls 3 [(0, .ref b_h), (1, .int p1)] := hl
  rw [f_X9_quota] at hv
  refine lv_iload_n hx hb dX9_quota_0 rfl (lv_at hl 1 rfl) ?_
  refine lv_iconst (v := (1 : Int32)) hx hb dX9_quota_1 (by decide) ?_
  refine lv_bipush (v := (99 : Int32)) hx hb dX9_quota_2 (by decide) ?_
  obtain ⟨r1, h2, hv⟩ := ob_s hv
  refine rdS (rest := []) (st1 := [.int r1]) (w := []) hC q_X9_isWithin kw_1_168 (c_X9_isWithin l E p1 (1 : Int32) (99 : Int32) r1 h2) ⟨rfl, rfl⟩ ⟨Nat.le_of_ble_eq_true rfl, Nat.le_of_ble_eq_true rfl⟩ ⟨Nat.zero_le _, Nat.zero_le _⟩ (hP.sub (ws' := []) [] rfl) hG rfl hl.1 rfl (Nat.le_of_ble_eq_true rfl) dX9_quota_4 rfl ?_
  refine lv_if_ne (tgt := 12) hx hb dX9_quota_7 (by decide) (fun c3 => ?_) (fun c3 => ?_)
  · have hv := if_n c3 hv
    refine lv_aload_n hx hb dX9_quota_12 rfl (lv_at hl 0 rfl) ?_
    refine va_get (D := E.1) (ci := 3) (v := .ref now_h) (C := RX9) (T := TX9) (N := 6) hx hb ht i_X9 hown hK hP 0 rfl rfl 0 (by decide) (ht _ kw_1_138) (fun _ h9 => h9) rfl dX9_quota_13 ?_
    refine va_get (D := E.1) (ci := 2) (v := .int now_needed) (C := RX8) (T := TX8) (N := 11) hx hb ht i_X8 hown hK hP 1 rfl rfl 9 (by decide) (ht _ kw_1_59) (fun _ h9 => h9) rfl dX9_quota_16 ?_
    refine lv_istore_n (lv' := [(2, .int now_needed), (0, .ref b_h), (1, .int p1)]) hx hb dX9_quota_19 rfl hl (by decide) rfl (fun ls hl => ?_)
    refine lv_aload_n hx hb dX9_quota_20 rfl (lv_at hl 1 rfl) ?_
    refine va_get (D := E.1) (ci := 3) (v := .ref now_h) (C := RX9) (T := TX9) (N := 6) hx hb ht i_X9 hown hK hP 0 rfl rfl 0 (by decide) (ht _ kw_1_138) (fun _ h9 => h9) rfl dX9_quota_21 ?_
    refine lv_iload_n hx hb dX9_quota_24 rfl (lv_at hl 2 rfl) ?_
    refine va_put (D := E.1) (ci := 2) (v := .int p1) (ty := .int) (C := RX8) (T := TX8) (N := 11) hx hb ht i_X8 tyX8 tyX8_ok nmX8 hown hK hP hD hS 1 rfl rfl 9 (by decide) (ht _ kw_1_59) (fun _ h9 => h9) rfl (by decide +kernel) rfl rfl (Nat.le_of_ble_eq_true rfl) dX9_quota_25 (fun H locs hP hD hS => ?_)
    have hP : va_P E.1 vwCl [oBp b_h now_h mind_h kept_h b_img rails_h sa_h, oSt now_h now_a0 now_a1 now_a2 now_a3 now_a4 now_a5 now_moving now_shut now_people p1 now_day, ai E now_a0 10 now_height, ai E now_a1 7 now_kind, ai E now_a2 7 now_figure, ai E now_a3 7 now_rail, ai E now_a4 7 now_mood, ai E now_a5 7 now_sight] H := hP
    have hD : va_D A [oBp b_h now_h mind_h kept_h b_img rails_h sa_h, oSt now_h now_a0 now_a1 now_a2 now_a3 now_a4 now_a5 now_moving now_shut now_people p1 now_day, ai E now_a0 10 now_height, ai E now_a1 7 now_kind, ai E now_a2 7 now_figure, ai E now_a3 7 now_rail, ai E now_a4 7 now_mood, ai E now_a5 7 now_sight] := hD
    refine lv_iload_n hx hb dX9_quota_28 rfl (lv_at hl 0 rfl) ?_
    cases hv
    exact W.iret hx hb hr (fun t h9 _ => ⟨rfl, by rw [h9]; exact hP, hS.F h9⟩) hS.2.2 dX9_quota_29 hlk
  · have hv := if_y c3 hv
    refine lv_iconst (v := (-1 : Int32)) hx hb dX9_quota_10 (by decide) ?_
    refine lv_topi (fun z4 ez4 => ?_)
    have hv := nm_s ez4 hv
    cases hv
    exact W.iret hx hb hr (fun t h9 _ => ⟨rfl, by rw [h9]; exact hP, hS.F h9⟩) hS.2.2 dX9_quota_11 hlk
theorem dX9_days_0 : decode cX9_days 0 = .ok (.iload_n 1, 1) := by decide +kernel
theorem dX9_days_1 : decode cX9_days 1 = .ok (.iconst 1, 1) := by decide +kernel
theorem dX9_days_2 : decode cX9_days 2 = .ok (.bipush 60, 2) := by decide +kernel
theorem dX9_days_4 : decode cX9_days 4 = .ok (.invokestatic 118, 3) := by decide +kernel
theorem dX9_days_7 : decode cX9_days 7 = .ok (.ifCond .ne 5, 3) := by decide +kernel
theorem dX9_days_10 : decode cX9_days 10 = .ok (.iconst (-1), 1) := by decide +kernel
theorem dX9_days_11 : decode cX9_days 11 = .ok (.ireturn, 1) := by decide +kernel
theorem dX9_days_12 : decode cX9_days 12 = .ok (.aload_n 0, 1) := by decide +kernel
theorem dX9_days_13 : decode cX9_days 13 = .ok (.getfield 12, 3) := by decide +kernel
theorem dX9_days_16 : decode cX9_days 16 = .ok (.iload_n 1, 1) := by decide +kernel
theorem dX9_days_17 : decode cX9_days 17 = .ok (.invokevirtual 130, 3) := by decide +kernel
theorem dX9_days_20 : decode cX9_days 20 = .ok (.ifCond .ne 6, 3) := by decide +kernel
theorem dX9_days_23 : decode cX9_days 23 = .ok (.bipush (-3), 2) := by decide +kernel
theorem dX9_days_25 : decode cX9_days 25 = .ok (.ireturn, 1) := by decide +kernel
theorem dX9_days_26 : decode cX9_days 26 = .ok (.aload_n 0, 1) := by decide +kernel
theorem dX9_days_27 : decode cX9_days 27 = .ok (.getfield 12, 3) := by decide +kernel
theorem dX9_days_30 : decode cX9_days 30 = .ok (.iload_n 1, 1) := by decide +kernel
theorem dX9_days_31 : decode cX9_days 31 = .ok (.invokevirtual 133, 3) := by decide +kernel
theorem dX9_days_34 : decode cX9_days 34 = .ok (.aload_n 0, 1) := by decide +kernel
theorem dX9_days_35 : decode cX9_days 35 = .ok (.getfield 12, 3) := by decide +kernel
theorem dX9_days_38 : decode cX9_days 38 = .ok (.invokevirtual 136, 3) := by decide +kernel
theorem dX9_days_41 : decode cX9_days 41 = .ok (.invokestatic 82, 3) := by decide +kernel
theorem dX9_days_44 : decode cX9_days 44 = .ok (.ireturn, 1) := by decide +kernel
def f_X9_days (N : Nat) (now_height : Nat → Int32) (now_kind : Nat → Int32) (now_figure : Nat → Int32) (now_rail : Nat → Int32) (now_mood : Nat → Int32) (now_sight : Nat → Int32) (now_moving : Int32) (now_shut : Int32) (now_people : Int32) (now_needed : Int32) (now_day : Int32) (p1 : Int32) : Option (Int32 × Int32 × Int32 × (Nat → Int32) × (Nat → Int32)) := ob (f_X9_isWithin p1 (1 : Int32) (60 : Int32)) (fun r1 => if r1 = 0 then nm (-1 : Int32) (fun z17 => some (z17, now_moving, now_day, now_mood, now_sight)) else ob (f_X8_hasDaysLeft now_day p1) (fun r4 => if r4 = 0 then nm (-3 : Int32) (fun z16 => some (z16, now_moving, now_day, now_mood, now_sight)) else ob (f_X8_live N now_height now_kind now_figure now_rail now_mood now_sight now_shut now_people now_day p1) (fun (y7, y8, y9, y10) => ob (f_X8_isCarried N now_height now_kind now_figure now_rail y9 now_shut now_people now_needed) (fun r12 => ob (f_X9_oneIf r12) (fun r14 => some (r14, y7, y8, y9, y10))))))
set_option maxHeartbeats 4000000 in
set_option maxRecDepth 100000 in
theorem c_X9_days (l : Launch) (E : EE) (b_h : Nat) (now_h : Nat) (mind_h : Nat) (kept_h : Nat) (rails_h : Nat) (sa_h : Nat) (now_a0 : Nat) (now_a1 : Nat) (now_a2 : Nat) (now_a3 : Nat) (now_a4 : Nat) (now_a5 : Nat) (b_img : Int32) (now_height : Nat → Int32) (now_kind : Nat → Int32) (now_figure : Nat → Int32) (now_rail : Nat → Int32) (now_mood : Nat → Int32) (now_sight : Nat → Int32) (now_moving : Int32) (now_shut : Int32) (now_people : Int32) (now_needed : Int32) (now_day : Int32) (p1 : Int32) (N : Nat) (res : Int32) (w_now_moving : Int32) (w_now_day : Int32) (w_now_mood : Nat → Int32) (w_now_sight : Nat → Int32) (hv : f_X9_days N now_height now_kind now_figure now_rail now_mood now_sight now_moving now_shut now_people now_needed now_day p1 = some (res, w_now_moving, w_now_day, w_now_mood, w_now_sight)) : Wr l E yX9_days cX9_days 2 (some .int) ({ frames := 5, cells := 0, slots := 0, locals := 109 }) [.ref b_h, .int p1] [oBp b_h now_h mind_h kept_h b_img rails_h sa_h, oSt now_h now_a0 now_a1 now_a2 now_a3 now_a4 now_a5 now_moving now_shut now_people now_needed now_day, ai E now_a0 10 now_height, ai E now_a1 7 now_kind, ai E now_a2 7 now_figure, ai E now_a3 7 now_rail, ai E now_a4 7 now_mood, ai E now_a5 7 now_sight] [oBp b_h now_h mind_h kept_h b_img rails_h sa_h, oSt now_h now_a0 now_a1 now_a2 now_a3 now_a4 now_a5 w_now_moving now_shut now_people now_needed w_now_day, ai E now_a0 10 now_height, ai E now_a1 7 now_kind, ai E now_a2 7 now_figure, ai E now_a3 7 now_rail, ai E now_a4 7 w_now_mood, ai E now_a5 7 w_now_sight] (some (.int res)) := by
  refine Wr.intro RX9 (by decide) rfl (Nat.le_of_ble_eq_true rfl) ?_
  intro p e s m below meth c ls A hC hr hlk hmn hP hD hS hA hG hl
  obtain ⟨hx, hb, hml, hown, ht⟩ := id hC
  have hK := hG.1
  have hl : lv_has ls 2 [(0, .ref b_h), (1, .int p1)] := hl
  rw [f_X9_days] at hv
  refine lv_iload_n hx hb dX9_days_0 rfl (lv_at hl 1 rfl) ?_
  refine lv_iconst (v := (1 : Int32)) hx hb dX9_days_1 (by decide) ?_
  refine lv_bipush (v := (60 : Int32)) hx hb dX9_days_2 (by decide) ?_
  obtain ⟨r1, h2, hv⟩ := ob_s hv
  refine rdS (rest := []) (st1 := [.int r1]) (w := []) hC q_X9_isWithin kw_1_168 (c_X9_isWithin l E p1 (1 : Int32) (60 : Int32) r1 h2) ⟨rfl, rfl⟩ ⟨Nat.le_of_ble_eq_true rfl, Nat.le_of_ble_eq_true rfl⟩ ⟨Nat.zero_le _, Nat.zero_le _⟩ (hP.sub (ws' := []) [] rfl) hG rfl hl.1 rfl (Nat.le_of_ble_eq_true rfl) dX9_days_4 rfl ?_
  refine lv_if_ne (tgt := 12) hx hb dX9_days_7 (by decide) (fun c3 => ?_) (fun c3 => ?_)
  · have hv := if_n c3 hv
    refine lv_aload_n hx hb dX9_days_12 rfl (lv_at hl 0 rfl) ?_
    refine va_get (D := E.1) (ci := 3) (v := .ref now_h) (C := RX9) (T := TX9) (N := 6) hx hb ht i_X9 hown hK hP 0 rfl rfl 0 (by decide) (ht _ kw_1_138) (fun _ h9 => h9) rfl dX9_days_13 ?_
    refine lv_iload_n hx hb dX9_days_16 rfl (lv_at hl 1 rfl) ?_
    obtain ⟨r4, h5, hv⟩ := ob_s hv
    refine rdV 2 0 (As := [.int p1]) (rest := []) (st1 := [.int r4]) (w := [oSt now_h now_a0 now_a1 now_a2 now_a3 now_a4 now_a5 now_moving now_shut now_people now_needed now_day, ai E now_a0 10 now_height, ai E now_a1 7 now_kind, ai E now_a2 7 now_figure, ai E now_a3 7 now_rail, ai E now_a4 7 now_mood, ai E now_a5 7 now_sight]) hC q_X8_hasDaysLeft kw_2_108 (c_X8_hasDaysLeft l E now_h now_a0 now_a1 now_a2 now_a3 now_a4 now_a5 now_height now_kind now_figure now_rail now_mood now_sight now_moving now_shut now_people now_needed now_day p1 r4 h5) ⟨rfl, rfl⟩ ⟨Nat.le_of_ble_eq_true rfl, Nat.le_of_ble_eq_true rfl⟩ ⟨Nat.zero_le _, Nat.zero_le _⟩ (hP.sub (ws' := [oSt now_h now_a0 now_a1 now_a2 now_a3 now_a4 now_a5 now_moving now_shut now_people now_needed now_day, ai E now_a0 10 now_height, ai E now_a1 7 now_kind, ai E now_a2 7 now_figure, ai E now_a3 7 now_rail, ai E now_a4 7 now_mood, ai E now_a5 7 now_sight]) [1, 2, 3, 4, 5, 6, 7] rfl) rfl rfl rfl hG rfl hl.1 rfl (Nat.le_of_ble_eq_true rfl) dX9_days_17 rfl ?_
    refine lv_if_ne (tgt := 26) hx hb dX9_days_20 (by decide) (fun c6 => ?_) (fun c6 => ?_)
    · have hv := if_n c6 hv
      refine lv_aload_n hx hb dX9_days_26 rfl (lv_at hl 0 rfl) ?_
      refine va_get (D := E.1) (ci := 3) (v := .ref now_h) (C := RX9) (T := TX9) (N := 6) hx hb ht i_X9 hown hK hP 0 rfl rfl 0 (by decide) (ht _ kw_1_138) (fun _ h9 => h9) rfl dX9_days_27 ?_
      refine lv_iload_n hx hb dX9_days_30 rfl (lv_at hl 1 rfl) ?_
      obtain ⟨⟨y7, y8, y9, y10⟩, h11, hv⟩ := ob_s hv
      refine wrV (as := [b_h, now_h, now_a0, now_a1, now_a2, now_a3, now_a4, now_a5]) (wr := [oBp b_h now_h mind_h kept_h b_img rails_h sa_h]) [1, 2, 3, 4, 5, 6, 7] [0] 2 0 (ws := [oBp b_h now_h mind_h kept_h b_img rails_h sa_h, oSt now_h now_a0 now_a1 now_a2 now_a3 now_a4 now_a5 now_moving now_shut now_people now_needed now_day, ai E now_a0 10 now_height, ai E now_a1 7 now_kind, ai E now_a2 7 now_figure, ai E now_a3 7 now_rail, ai E now_a4 7 now_mood, ai E now_a5 7 now_sight]) (ws' := [oBp b_h now_h mind_h kept_h b_img rails_h sa_h, oSt now_h now_a0 now_a1 now_a2 now_a3 now_a4 now_a5 y7 now_shut now_people now_needed y8, ai E now_a0 10 now_height, ai E now_a1 7 now_kind, ai E now_a2 7 now_figure, ai E now_a3 7 now_rail, ai E now_a4 7 y9, ai E now_a5 7 y10]) (As := [.int p1]) (rest := []) (st1 := []) hC q_X8_live kw_2_109 (c_X8_live l E now_h now_a0 now_a1 now_a2 now_a3 now_a4 now_a5 now_height now_kind now_figure now_rail now_mood now_sight now_moving now_shut now_people now_needed now_day p1 N y7 y8 y9 y10 h11) ⟨rfl, rfl⟩ ⟨Nat.le_of_ble_eq_true rfl, Nat.le_of_ble_eq_true rfl⟩ ⟨Nat.zero_le _, Nat.zero_le _⟩ hP hD hS hA rfl rfl rfl hG (by decide) rfl rfl rfl rfl rfl rfl rfl rfl hl.1 rfl (Nat.le_of_ble_eq_true rfl) dX9_days_31 rfl (fun H locs hP hD hS => ?_)
      refine lv_aload_n hx hb dX9_days_34 rfl (lv_at hl 0 rfl) ?_
      refine va_get (D := E.1) (ci := 3) (v := .ref now_h) (C := RX9) (T := TX9) (N := 6) hx hb ht i_X9 hown hK hP 0 rfl rfl 0 (by decide) (ht _ kw_1_138) (fun _ h9 => h9) rfl dX9_days_35 ?_
      obtain ⟨r12, h13, hv⟩ := ob_s hv
      refine rdV 2 0 (As := []) (rest := []) (st1 := [.int r12]) (w := [oSt now_h now_a0 now_a1 now_a2 now_a3 now_a4 now_a5 y7 now_shut now_people now_needed y8, ai E now_a0 10 now_height, ai E now_a1 7 now_kind, ai E now_a2 7 now_figure, ai E now_a3 7 now_rail, ai E now_a4 7 y9, ai E now_a5 7 y10]) hC q_X8_isCarried kw_2_110 (c_X8_isCarried l E now_h now_a0 now_a1 now_a2 now_a3 now_a4 now_a5 now_height now_kind now_figure now_rail y9 y10 y7 now_shut now_people now_needed y8 N r12 h13) ⟨rfl, rfl⟩ ⟨Nat.le_of_ble_eq_true rfl, Nat.le_of_ble_eq_true rfl⟩ ⟨Nat.zero_le _, Nat.zero_le _⟩ (hP.sub (ws' := [oSt now_h now_a0 now_a1 now_a2 now_a3 now_a4 now_a5 y7 now_shut now_people now_needed y8, ai E now_a0 10 now_height, ai E now_a1 7 now_kind, ai E now_a2 7 now_figure, ai E now_a3 7 now_rail, ai E now_a4 7 y9, ai E now_a5 7 y10]) [1, 2, 3, 4, 5, 6, 7] rfl) rfl rfl rfl hG rfl hl.1 rfl (Nat.le_of_ble_eq_true rfl) dX9_days_38 rfl ?_
      obtain ⟨r14, h15, hv⟩ := ob_s hv
      refine rdS (rest := []) (st1 := [.int r14]) (w := []) hC q_X9_oneIf kw_2_59 (c_X9_oneIf l E r12 r14 h15) ⟨rfl, rfl⟩ ⟨Nat.le_of_ble_eq_true rfl, Nat.le_of_ble_eq_true rfl⟩ ⟨Nat.zero_le _, Nat.zero_le _⟩ (hP.sub (ws' := []) [] rfl) hG rfl hl.1 rfl (Nat.le_of_ble_eq_true rfl) dX9_days_41 rfl ?_
      cases hv
      exact W.iret hx hb hr (fun t h9 _ => ⟨rfl, by rw [h9]; exact hP, hS.F h9⟩) hS.2.2 dX9_days_44 hlk
    · have hv := if_y c6 hv
      refine lv_bipush (v := (-3 : Int32)) hx hb dX9_days_23 (by decide) ?_
      refine lv_topi (fun z16 ez16 => ?_)
      have hv := nm_s ez16 hv
      cases hv
      exact W.iret hx hb hr (fun t h9 _ => ⟨rfl, by rw [h9]; exact hP, hS.F h9⟩) hS.2.2 dX9_days_25 hlk
  · have hv := if_y c3 hv
    refine lv_iconst (v := (-1 : Int32)) hx hb dX9_days_10 (by decide) ?_
    refine lv_topi (fun z17 ez17 => ?_)
    have hv := nm_s ez17 hv
    cases hv
    exact W.iret hx hb hr (fun t h9 _ => ⟨rfl, by rw [h9]; exact hP, hS.F h9⟩) hS.2.2 dX9_days_11 hlk
theorem dX9_carries_0 : decode cX9_carries 0 = .ok (.aload_n 0, 1) := by decide +kernel
theorem dX9_carries_1 : decode cX9_carries 1 = .ok (.getfield 12, 3) := by decide +kernel
theorem dX9_carries_4 : decode cX9_carries 4 = .ok (.invokevirtual 139, 3) := by decide +kernel
theorem dX9_carries_7 : decode cX9_carries 7 = .ok (.istore_n 2, 1) := by decide +kernel
theorem dX9_carries_8 : decode cX9_carries 8 = .ok (.iload_n 1, 1) := by decide +kernel
theorem dX9_carries_9 : decode cX9_carries 9 = .ok (.tableswitch 81 0 3 #[31, 42, 51, 72], 31) := by decide +kernel
theorem dX9_carries_40 : decode cX9_carries 40 = .ok (.aload_n 0, 1) := by decide +kernel
theorem dX9_carries_41 : decode cX9_carries 41 = .ok (.getfield 12, 3) := by decide +kernel
theorem dX9_carries_44 : decode cX9_carries 44 = .ok (.invokevirtual 136, 3) := by decide +kernel
theorem dX9_carries_47 : decode cX9_carries 47 = .ok (.invokestatic 82, 3) := by decide +kernel
theorem dX9_carries_50 : decode cX9_carries 50 = .ok (.ireturn, 1) := by decide +kernel
theorem dX9_carries_51 : decode cX9_carries 51 = .ok (.aload_n 0, 1) := by decide +kernel
theorem dX9_carries_52 : decode cX9_carries 52 = .ok (.getfield 12, 3) := by decide +kernel
theorem dX9_carries_55 : decode cX9_carries 55 = .ok (.iload_n 2, 1) := by decide +kernel
theorem dX9_carries_56 : decode cX9_carries 56 = .ok (.invokevirtual 143, 3) := by decide +kernel
theorem dX9_carries_59 : decode cX9_carries 59 = .ok (.ireturn, 1) := by decide +kernel
theorem dX9_carries_60 : decode cX9_carries 60 = .ok (.iconst 0, 1) := by decide +kernel
theorem dX9_carries_61 : decode cX9_carries 61 = .ok (.aload_n 0, 1) := by decide +kernel
theorem dX9_carries_62 : decode cX9_carries 62 = .ok (.getfield 12, 3) := by decide +kernel
theorem dX9_carries_65 : decode cX9_carries 65 = .ok (.getfield 127, 3) := by decide +kernel
theorem dX9_carries_68 : decode cX9_carries 68 = .ok (.aload_n 0, 1) := by decide +kernel
theorem dX9_carries_69 : decode cX9_carries 69 = .ok (.getfield 12, 3) := by decide +kernel
theorem dX9_carries_72 : decode cX9_carries 72 = .ok (.iload_n 2, 1) := by decide +kernel
theorem dX9_carries_73 : decode cX9_carries 73 = .ok (.invokevirtual 143, 3) := by decide +kernel
theorem dX9_carries_76 : decode cX9_carries 76 = .ok (.isub, 1) := by decide +kernel
theorem dX9_carries_77 : decode cX9_carries 77 = .ok (.invokestatic 146, 3) := by decide +kernel
theorem dX9_carries_80 : decode cX9_carries 80 = .ok (.ireturn, 1) := by decide +kernel
theorem dX9_carries_81 : decode cX9_carries 81 = .ok (.aload_n 0, 1) := by decide +kernel
theorem dX9_carries_82 : decode cX9_carries 82 = .ok (.getfield 12, 3) := by decide +kernel
theorem dX9_carries_85 : decode cX9_carries 85 = .ok (.iload_n 2, 1) := by decide +kernel
theorem dX9_carries_86 : decode cX9_carries 86 = .ok (.invokevirtual 151, 3) := by decide +kernel
theorem dX9_carries_89 : decode cX9_carries 89 = .ok (.ireturn, 1) := by decide +kernel
theorem dX9_carries_90 : decode cX9_carries 90 = .ok (.iconst (-1), 1) := by decide +kernel
theorem dX9_carries_91 : decode cX9_carries 91 = .ok (.ireturn, 1) := by decide +kernel
def f_X9_carries (N : Nat) (now_height : Nat → Int32) (now_kind : Nat → Int32) (now_figure : Nat → Int32) (now_rail : Nat → Int32) (now_mood : Nat → Int32) (now_shut : Int32) (now_people : Int32) (now_needed : Int32) (p1 : Int32) : Option (Int32) := ob (f_X8_heardOnes N now_rail now_shut now_people) (fun r1 => if p1 = (0 : Int32) then ob (f_X8_isCarried N now_height now_kind now_figure now_rail now_mood now_shut now_people now_needed) (fun r4 => ob (f_X9_oneIf r4) (fun r6 => some r6)) else if p1 = (1 : Int32) then ob (f_X8_weightFor N now_height now_kind now_figure now_rail now_mood now_people r1) (fun r9 => some r9) else if p1 = (2 : Int32) then ob (f_X8_weightFor N now_height now_kind now_figure now_rail now_mood now_people r1) (fun r12 => some (if (0 : Int32) < (now_needed - r12) then (now_needed - r12) else (0 : Int32))) else if p1 = (3 : Int32) then ob (f_X8_whyNot N now_height now_kind now_figure now_rail now_mood now_people now_needed r1) (fun r15 => some r15) else some (-1 : Int32))
set_option maxHeartbeats 4000000 in
set_option maxRecDepth 100000 in
theorem c_X9_carries (l : Launch) (E : EE) (b_h : Nat) (now_h : Nat) (mind_h : Nat) (kept_h : Nat) (rails_h : Nat) (sa_h : Nat) (now_a0 : Nat) (now_a1 : Nat) (now_a2 : Nat) (now_a3 : Nat) (now_a4 : Nat) (now_a5 : Nat) (b_img : Int32) (now_height : Nat → Int32) (now_kind : Nat → Int32) (now_figure : Nat → Int32) (now_rail : Nat → Int32) (now_mood : Nat → Int32) (now_sight : Nat → Int32) (now_moving : Int32) (now_shut : Int32) (now_people : Int32) (now_needed : Int32) (now_day : Int32) (p1 : Int32) (N : Nat) (res : Int32) (hv : f_X9_carries N now_height now_kind now_figure now_rail now_mood now_shut now_people now_needed p1 = some res) : Rd l E yX9_carries cX9_carries 3 (some .int) ({ frames := 5, cells := 0, slots := 0, locals := 109 }) [.ref b_h, .int p1] [oBp b_h now_h mind_h kept_h b_img rails_h sa_h, oSt now_h now_a0 now_a1 now_a2 now_a3 now_a4 now_a5 now_moving now_shut now_people now_needed now_day, ai E now_a0 10 now_height, ai E now_a1 7 now_kind, ai E now_a2 7 now_figure, ai E now_a3 7 now_rail, ai E now_a4 7 now_mood, ai E now_a5 7 now_sight] (some (.int res)) := by
  refine Rd.intro RX9 (by decide) rfl (Nat.le_of_ble_eq_true rfl) ?_
  intro p e s m below meth c ls hC hr hlk hP hG hl
  obtain ⟨hx, hb, hml, hown, ht⟩ := id hC
  have hK := hG.1
  have hl : lv_has ls 3 [(0, .ref b_h), (1, .int p1)] := hl
  rw [f_X9_carries] at hv
  refine lv_aload_n hx hb dX9_carries_0 rfl (lv_at hl 0 rfl) ?_
  refine va_get (D := E.1) (ci := 3) (v := .ref now_h) (C := RX9) (T := TX9) (N := 6) hx hb ht i_X9 hown hK hP 0 rfl rfl 0 (by decide) (ht _ kw_1_138) (fun _ h9 => h9) rfl dX9_carries_1 ?_
  obtain ⟨r1, h2, hv⟩ := ob_s hv
  refine rdV 2 0 (As := []) (rest := []) (st1 := [.int r1]) (w := [oSt now_h now_a0 now_a1 now_a2 now_a3 now_a4 now_a5 now_moving now_shut now_people now_needed now_day, ai E now_a0 10 now_height, ai E now_a1 7 now_kind, ai E now_a2 7 now_figure, ai E now_a3 7 now_rail, ai E now_a4 7 now_mood, ai E now_a5 7 now_sight]) hC q_X8_heardOnes kw_2_146 (c_X8_heardOnes l E now_h now_a0 now_a1 now_a2 now_a3 now_a4 now_a5 now_height now_kind now_figure now_rail now_mood now_sight now_moving now_shut now_people now_needed now_day N r1 h2) ⟨rfl, rfl⟩ ⟨Nat.le_of_ble_eq_true rfl, Nat.le_of_ble_eq_true rfl⟩ ⟨Nat.zero_le _, Nat.zero_le _⟩ (hP.sub (ws' := [oSt now_h now_a0 now_a1 now_a2 now_a3 now_a4 now_a5 now_moving now_shut now_people now_needed now_day, ai E now_a0 10 now_height, ai E now_a1 7 now_kind, ai E now_a2 7 now_figure, ai E now_a3 7 now_rail, ai E now_a4 7 now_mood, ai E now_a5 7 now_sight]) [1, 2, 3, 4, 5, 6, 7] rfl) rfl rfl rfl hG rfl hl.1 rfl (Nat.le_of_ble_eq_true rfl) dX9_carries_4 rfl ?_
  refine lv_istore_n (lv' := [(2, .int r1), (0, .ref b_h), (1, .int p1)]) hx hb dX9_carries_7 rfl hl (by decide) rfl (fun ls hl => ?_)
  refine lv_iload_n hx hb dX9_carries_8 rfl (lv_at hl 2 rfl) ?_
  rcases Decidable.em (p1 = (0 : Int32)) with c3 | c3
  · have hv := if_y c3 hv
    refine lv_tableIn (tgt := 40) (off := 31) hx hb dX9_carries_9 (by rw [c3]; decide) (by rw [c3]; decide) (by rw [c3]; rfl) (by decide) ?_
    refine lv_aload_n hx hb dX9_carries_40 rfl (lv_at hl 1 rfl) ?_
    refine va_get (D := E.1) (ci := 3) (v := .ref now_h) (C := RX9) (T := TX9) (N := 6) hx hb ht i_X9 hown hK hP 0 rfl rfl 0 (by decide) (ht _ kw_1_138) (fun _ h9 => h9) rfl dX9_carries_41 ?_
    obtain ⟨r4, h5, hv⟩ := ob_s hv
    refine rdV 2 0 (As := []) (rest := []) (st1 := [.int r4]) (w := [oSt now_h now_a0 now_a1 now_a2 now_a3 now_a4 now_a5 now_moving now_shut now_people now_needed now_day, ai E now_a0 10 now_height, ai E now_a1 7 now_kind, ai E now_a2 7 now_figure, ai E now_a3 7 now_rail, ai E now_a4 7 now_mood, ai E now_a5 7 now_sight]) hC q_X8_isCarried kw_2_110 (c_X8_isCarried l E now_h now_a0 now_a1 now_a2 now_a3 now_a4 now_a5 now_height now_kind now_figure now_rail now_mood now_sight now_moving now_shut now_people now_needed now_day N r4 h5) ⟨rfl, rfl⟩ ⟨Nat.le_of_ble_eq_true rfl, Nat.le_of_ble_eq_true rfl⟩ ⟨Nat.zero_le _, Nat.zero_le _⟩ (hP.sub (ws' := [oSt now_h now_a0 now_a1 now_a2 now_a3 now_a4 now_a5 now_moving now_shut now_people now_needed now_day, ai E now_a0 10 now_height, ai E now_a1 7 now_kind, ai E now_a2 7 now_figure, ai E now_a3 7 now_rail, ai E now_a4 7 now_mood, ai E now_a5 7 now_sight]) [1, 2, 3, 4, 5, 6, 7] rfl) rfl rfl rfl hG rfl hl.1 rfl (Nat.le_of_ble_eq_true rfl) dX9_carries_44 rfl ?_
    obtain ⟨r6, h7, hv⟩ := ob_s hv
    refine rdS (rest := []) (st1 := [.int r6]) (w := []) hC q_X9_oneIf kw_2_59 (c_X9_oneIf l E r4 r6 h7) ⟨rfl, rfl⟩ ⟨Nat.le_of_ble_eq_true rfl, Nat.le_of_ble_eq_true rfl⟩ ⟨Nat.zero_le _, Nat.zero_le _⟩ (hP.sub (ws' := []) [] rfl) hG rfl hl.1 rfl (Nat.le_of_ble_eq_true rfl) dX9_carries_47 rfl ?_
    exact W.iret (v := r6) hx hb hr (fun t h9 _ => ⟨rv_i hv, h9⟩) (fun q h => absurd h List.not_mem_nil) dX9_carries_50 hlk
  · have hv := if_n c3 hv
    rcases Decidable.em (p1 = (1 : Int32)) with c8 | c8
    · have hv := if_y c8 hv
      refine lv_tableIn (tgt := 51) (off := 42) hx hb dX9_carries_9 (by rw [c8]; decide) (by rw [c8]; decide) (by rw [c8]; rfl) (by decide) ?_
      refine lv_aload_n hx hb dX9_carries_51 rfl (lv_at hl 1 rfl) ?_
      refine va_get (D := E.1) (ci := 3) (v := .ref now_h) (C := RX9) (T := TX9) (N := 6) hx hb ht i_X9 hown hK hP 0 rfl rfl 0 (by decide) (ht _ kw_1_138) (fun _ h9 => h9) rfl dX9_carries_52 ?_
      refine lv_iload_n hx hb dX9_carries_55 rfl (lv_at hl 0 rfl) ?_
      obtain ⟨r9, h10, hv⟩ := ob_s hv
      refine rdV 2 0 (As := [.int r1]) (rest := []) (st1 := [.int r9]) (w := [oSt now_h now_a0 now_a1 now_a2 now_a3 now_a4 now_a5 now_moving now_shut now_people now_needed now_day, ai E now_a0 10 now_height, ai E now_a1 7 now_kind, ai E now_a2 7 now_figure, ai E now_a3 7 now_rail, ai E now_a4 7 now_mood, ai E now_a5 7 now_sight]) hC q_X8_weightFor kw_2_147 (c_X8_weightFor l E now_h now_a0 now_a1 now_a2 now_a3 now_a4 now_a5 now_height now_kind now_figure now_rail now_mood now_sight now_moving now_shut now_people now_needed now_day r1 N r9 h10) ⟨rfl, rfl⟩ ⟨Nat.le_of_ble_eq_true rfl, Nat.le_of_ble_eq_true rfl⟩ ⟨Nat.zero_le _, Nat.zero_le _⟩ (hP.sub (ws' := [oSt now_h now_a0 now_a1 now_a2 now_a3 now_a4 now_a5 now_moving now_shut now_people now_needed now_day, ai E now_a0 10 now_height, ai E now_a1 7 now_kind, ai E now_a2 7 now_figure, ai E now_a3 7 now_rail, ai E now_a4 7 now_mood, ai E now_a5 7 now_sight]) [1, 2, 3, 4, 5, 6, 7] rfl) rfl rfl rfl hG rfl hl.1 rfl (Nat.le_of_ble_eq_true rfl) dX9_carries_56 rfl ?_
      exact W.iret (v := r9) hx hb hr (fun t h9 _ => ⟨rv_i hv, h9⟩) (fun q h => absurd h List.not_mem_nil) dX9_carries_59 hlk
    · have hv := if_n c8 hv
      rcases Decidable.em (p1 = (2 : Int32)) with c11 | c11
      · have hv := if_y c11 hv
        refine lv_tableIn (tgt := 60) (off := 51) hx hb dX9_carries_9 (by rw [c11]; decide) (by rw [c11]; decide) (by rw [c11]; rfl) (by decide) ?_
        refine lv_iconst (v := (0 : Int32)) hx hb dX9_carries_60 (by decide) ?_
        refine lv_aload_n hx hb dX9_carries_61 rfl (lv_at hl 1 rfl) ?_
        refine va_get (D := E.1) (ci := 3) (v := .ref now_h) (C := RX9) (T := TX9) (N := 6) hx hb ht i_X9 hown hK hP 0 rfl rfl 0 (by decide) (ht _ kw_1_138) (fun _ h9 => h9) rfl dX9_carries_62 ?_
        refine va_get (D := E.1) (ci := 2) (v := .int now_needed) (C := RX8) (T := TX8) (N := 11) hx hb ht i_X8 hown hK hP 1 rfl rfl 9 (by decide) (ht _ kw_1_59) (fun _ h9 => h9) rfl dX9_carries_65 ?_
        refine lv_aload_n hx hb dX9_carries_68 rfl (lv_at hl 1 rfl) ?_
        refine va_get (D := E.1) (ci := 3) (v := .ref now_h) (C := RX9) (T := TX9) (N := 6) hx hb ht i_X9 hown hK hP 0 rfl rfl 0 (by decide) (ht _ kw_1_138) (fun _ h9 => h9) rfl dX9_carries_69 ?_
        refine lv_iload_n hx hb dX9_carries_72 rfl (lv_at hl 0 rfl) ?_
        obtain ⟨r12, h13, hv⟩ := ob_s hv
        refine rdV 2 0 (As := [.int r1]) (rest := [.int now_needed, .int (0 : Int32)]) (st1 := [.int r12, .int now_needed, .int (0 : Int32)]) (w := [oSt now_h now_a0 now_a1 now_a2 now_a3 now_a4 now_a5 now_moving now_shut now_people now_needed now_day, ai E now_a0 10 now_height, ai E now_a1 7 now_kind, ai E now_a2 7 now_figure, ai E now_a3 7 now_rail, ai E now_a4 7 now_mood, ai E now_a5 7 now_sight]) hC q_X8_weightFor kw_2_147 (c_X8_weightFor l E now_h now_a0 now_a1 now_a2 now_a3 now_a4 now_a5 now_height now_kind now_figure now_rail now_mood now_sight now_moving now_shut now_people now_needed now_day r1 N r12 h13) ⟨rfl, rfl⟩ ⟨Nat.le_of_ble_eq_true rfl, Nat.le_of_ble_eq_true rfl⟩ ⟨Nat.zero_le _, Nat.zero_le _⟩ (hP.sub (ws' := [oSt now_h now_a0 now_a1 now_a2 now_a3 now_a4 now_a5 now_moving now_shut now_people now_needed now_day, ai E now_a0 10 now_height, ai E now_a1 7 now_kind, ai E now_a2 7 now_figure, ai E now_a3 7 now_rail, ai E now_a4 7 now_mood, ai E now_a5 7 now_sight]) [1, 2, 3, 4, 5, 6, 7] rfl) rfl rfl rfl hG rfl hl.1 rfl (Nat.le_of_ble_eq_true rfl) dX9_carries_73 rfl ?_
        refine lv_isub hx hb dX9_carries_76 ?_
        refine va_mmax hx hb (by rw [hml]; exact hl.1.symm) hown (ht _ kw_2_151) (ht _ kw_2_44) (ht _ kw_1_8) (ht _ kw_2_45) (Nat.le_of_ble_eq_true rfl) (Nat.le_of_ble_eq_true rfl) (Nat.zero_le _) (Nat.zero_le _) dX9_carries_77 ?_
        exact W.iret (v := (if (0 : Int32) < (now_needed - r12) then (now_needed - r12) else (0 : Int32))) hx hb hr (fun t h9 _ => ⟨rv_i hv, h9⟩) (fun q h => absurd h List.not_mem_nil) dX9_carries_80 hlk
      · have hv := if_n c11 hv
        rcases Decidable.em (p1 = (3 : Int32)) with c14 | c14
        · have hv := if_y c14 hv
          refine lv_tableIn (tgt := 81) (off := 72) hx hb dX9_carries_9 (by rw [c14]; decide) (by rw [c14]; decide) (by rw [c14]; rfl) (by decide) ?_
          refine lv_aload_n hx hb dX9_carries_81 rfl (lv_at hl 1 rfl) ?_
          refine va_get (D := E.1) (ci := 3) (v := .ref now_h) (C := RX9) (T := TX9) (N := 6) hx hb ht i_X9 hown hK hP 0 rfl rfl 0 (by decide) (ht _ kw_1_138) (fun _ h9 => h9) rfl dX9_carries_82 ?_
          refine lv_iload_n hx hb dX9_carries_85 rfl (lv_at hl 0 rfl) ?_
          obtain ⟨r15, h16, hv⟩ := ob_s hv
          refine rdV 2 0 (As := [.int r1]) (rest := []) (st1 := [.int r15]) (w := [oSt now_h now_a0 now_a1 now_a2 now_a3 now_a4 now_a5 now_moving now_shut now_people now_needed now_day, ai E now_a0 10 now_height, ai E now_a1 7 now_kind, ai E now_a2 7 now_figure, ai E now_a3 7 now_rail, ai E now_a4 7 now_mood, ai E now_a5 7 now_sight]) hC q_X8_whyNot kw_2_152 (c_X8_whyNot l E now_h now_a0 now_a1 now_a2 now_a3 now_a4 now_a5 now_height now_kind now_figure now_rail now_mood now_sight now_moving now_shut now_people now_needed now_day r1 N r15 h16) ⟨rfl, rfl⟩ ⟨Nat.le_of_ble_eq_true rfl, Nat.le_of_ble_eq_true rfl⟩ ⟨Nat.zero_le _, Nat.zero_le _⟩ (hP.sub (ws' := [oSt now_h now_a0 now_a1 now_a2 now_a3 now_a4 now_a5 now_moving now_shut now_people now_needed now_day, ai E now_a0 10 now_height, ai E now_a1 7 now_kind, ai E now_a2 7 now_figure, ai E now_a3 7 now_rail, ai E now_a4 7 now_mood, ai E now_a5 7 now_sight]) [1, 2, 3, 4, 5, 6, 7] rfl) rfl rfl rfl hG rfl hl.1 rfl (Nat.le_of_ble_eq_true rfl) dX9_carries_86 rfl ?_
          exact W.iret (v := r15) hx hb hr (fun t h9 _ => ⟨rv_i hv, h9⟩) (fun q h => absurd h List.not_mem_nil) dX9_carries_89 hlk
        · have hv := if_n c14 hv
          refine lv_tableD (tgt := 90) hx hb dX9_carries_9 (fun i h => match i, h with | 0, _ => Or.inr (lv_neT c3 (by decide)) | 1, _ => Or.inr (lv_neT c8 (by decide)) | 2, _ => Or.inr (lv_neT c11 (by decide)) | 3, _ => Or.inr (lv_neT c14 (by decide)) | i + 4, h => absurd h (by simp)) rfl (by decide) ?_
          refine lv_iconst (v := (-1 : Int32)) hx hb dX9_carries_90 (by decide) ?_
          exact W.iret (v := (-1 : Int32)) hx hb hr (fun t h9 _ => ⟨rv_i hv, h9⟩) (fun q h => absurd h List.not_mem_nil) dX9_carries_91 hlk
theorem dX9_could_0 : decode cX9_could 0 = .ok (.aload_n 0, 1) := by decide +kernel
theorem dX9_could_1 : decode cX9_could 1 = .ok (.getfield 12, 3) := by decide +kernel
theorem dX9_could_4 : decode cX9_could 4 = .ok (.iload_n 1, 1) := by decide +kernel
theorem dX9_could_5 : decode cX9_could 5 = .ok (.invokevirtual 166, 3) := by decide +kernel
theorem dX9_could_8 : decode cX9_could 8 = .ok (.ifCond .ne 5, 3) := by decide +kernel
theorem dX9_could_11 : decode cX9_could 11 = .ok (.iconst (-1), 1) := by decide +kernel
theorem dX9_could_12 : decode cX9_could 12 = .ok (.ireturn, 1) := by decide +kernel
theorem dX9_could_13 : decode cX9_could 13 = .ok (.aload_n 0, 1) := by decide +kernel
theorem dX9_could_14 : decode cX9_could 14 = .ok (.getfield 12, 3) := by decide +kernel
theorem dX9_could_17 : decode cX9_could 17 = .ok (.iload_n 1, 1) := by decide +kernel
theorem dX9_could_18 : decode cX9_could 18 = .ok (.aload_n 0, 1) := by decide +kernel
theorem dX9_could_19 : decode cX9_could 19 = .ok (.getfield 12, 3) := by decide +kernel
theorem dX9_could_22 : decode cX9_could 22 = .ok (.invokevirtual 139, 3) := by decide +kernel
theorem dX9_could_25 : decode cX9_could 25 = .ok (.iand, 1) := by decide +kernel
theorem dX9_could_26 : decode cX9_could 26 = .ok (.invokestatic 169, 3) := by decide +kernel
theorem dX9_could_29 : decode cX9_could 29 = .ok (.invokestatic 82, 3) := by decide +kernel
theorem dX9_could_32 : decode cX9_could 32 = .ok (.ireturn, 1) := by decide +kernel
def f_X9_could (N : Nat) (now_height : Nat → Int32) (now_kind : Nat → Int32) (now_figure : Nat → Int32) (now_rail : Nat → Int32) (now_shut : Int32) (now_people : Int32) (now_needed : Int32) (p1 : Int32) : Option (Int32) := ob (f_X8_areThere now_people p1) (fun r1 => if r1 = 0 then some (-1 : Int32) else ob (f_X8_heardOnes N now_rail now_shut now_people) (fun r4 => ob (f_X2_isEnough N now_height now_kind now_figure now_rail now_people now_needed (p1 &&& r4)) (fun r6 => ob (f_X9_oneIf r6) (fun r8 => some r8))))
set_option maxHeartbeats 4000000 in
set_option maxRecDepth 100000 in
theorem c_X9_could (l : Launch) (E : EE) (b_h : Nat) (now_h : Nat) (mind_h : Nat) (kept_h : Nat) (rails_h : Nat) (sa_h : Nat) (now_a0 : Nat) (now_a1 : Nat) (now_a2 : Nat) (now_a3 : Nat) (now_a4 : Nat) (now_a5 : Nat) (b_img : Int32) (now_height : Nat → Int32) (now_kind : Nat → Int32) (now_figure : Nat → Int32) (now_rail : Nat → Int32) (now_mood : Nat → Int32) (now_sight : Nat → Int32) (now_moving : Int32) (now_shut : Int32) (now_people : Int32) (now_needed : Int32) (now_day : Int32) (p1 : Int32) (N : Nat) (res : Int32) (hv : f_X9_could N now_height now_kind now_figure now_rail now_shut now_people now_needed p1 = some res) : Rd l E yX9_could cX9_could 2 (some .int) ({ frames := 4, cells := 0, slots := 0, locals := 87 }) [.ref b_h, .int p1] [oBp b_h now_h mind_h kept_h b_img rails_h sa_h, oSt now_h now_a0 now_a1 now_a2 now_a3 now_a4 now_a5 now_moving now_shut now_people now_needed now_day, ai E now_a0 10 now_height, ai E now_a1 7 now_kind, ai E now_a2 7 now_figure, ai E now_a3 7 now_rail, ai E now_a4 7 now_mood, ai E now_a5 7 now_sight] (some (.int res)) := by
  refine Rd.intro RX9 (by decide) rfl (Nat.le_of_ble_eq_true rfl) ?_
  intro p e s m below meth c ls hC hr hlk hP hG hl
  obtain ⟨hx, hb, hml, hown, ht⟩ := id hC
  have hK := hG.1
  have hl : lv_has ls 2 [(0, .ref b_h), (1, .int p1)] := hl
  rw [f_X9_could] at hv
  refine lv_aload_n hx hb dX9_could_0 rfl (lv_at hl 0 rfl) ?_
  refine va_get (D := E.1) (ci := 3) (v := .ref now_h) (C := RX9) (T := TX9) (N := 6) hx hb ht i_X9 hown hK hP 0 rfl rfl 0 (by decide) (ht _ kw_1_138) (fun _ h9 => h9) rfl dX9_could_1 ?_
  refine lv_iload_n hx hb dX9_could_4 rfl (lv_at hl 1 rfl) ?_
  obtain ⟨r1, h2, hv⟩ := ob_s hv
  refine rdV 2 0 (As := [.int p1]) (rest := []) (st1 := [.int r1]) (w := [oSt now_h now_a0 now_a1 now_a2 now_a3 now_a4 now_a5 now_moving now_shut now_people now_needed now_day, ai E now_a0 10 now_height, ai E now_a1 7 now_kind, ai E now_a2 7 now_figure, ai E now_a3 7 now_rail, ai E now_a4 7 now_mood, ai E now_a5 7 now_sight]) hC q_X8_areThere kw_2_184 (c_X8_areThere l E now_h now_a0 now_a1 now_a2 now_a3 now_a4 now_a5 now_height now_kind now_figure now_rail now_mood now_sight now_moving now_shut now_people now_needed now_day p1 r1 h2) ⟨rfl, rfl⟩ ⟨Nat.le_of_ble_eq_true rfl, Nat.le_of_ble_eq_true rfl⟩ ⟨Nat.zero_le _, Nat.zero_le _⟩ (hP.sub (ws' := [oSt now_h now_a0 now_a1 now_a2 now_a3 now_a4 now_a5 now_moving now_shut now_people now_needed now_day, ai E now_a0 10 now_height, ai E now_a1 7 now_kind, ai E now_a2 7 now_figure, ai E now_a3 7 now_rail, ai E now_a4 7 now_mood, ai E now_a5 7 now_sight]) [1, 2, 3, 4, 5, 6, 7] rfl) rfl rfl rfl hG rfl hl.1 rfl (Nat.le_of_ble_eq_true rfl) dX9_could_5 rfl ?_
  refine lv_if_ne (tgt := 13) hx hb dX9_could_8 (by decide) (fun c3 => ?_) (fun c3 => ?_)
  · have hv := if_n c3 hv
    refine lv_aload_n hx hb dX9_could_13 rfl (lv_at hl 0 rfl) ?_
    refine va_get (D := E.1) (ci := 3) (v := .ref now_h) (C := RX9) (T := TX9) (N := 6) hx hb ht i_X9 hown hK hP 0 rfl rfl 0 (by decide) (ht _ kw_1_138) (fun _ h9 => h9) rfl dX9_could_14 ?_
    refine lv_iload_n hx hb dX9_could_17 rfl (lv_at hl 1 rfl) ?_
    refine lv_aload_n hx hb dX9_could_18 rfl (lv_at hl 0 rfl) ?_
    refine va_get (D := E.1) (ci := 3) (v := .ref now_h) (C := RX9) (T := TX9) (N := 6) hx hb ht i_X9 hown hK hP 0 rfl rfl 0 (by decide) (ht _ kw_1_138) (fun _ h9 => h9) rfl dX9_could_19 ?_
    obtain ⟨r4, h5, hv⟩ := ob_s hv
    refine rdV 2 0 (As := []) (rest := [.int p1, .ref now_h]) (st1 := [.int r4, .int p1, .ref now_h]) (w := [oSt now_h now_a0 now_a1 now_a2 now_a3 now_a4 now_a5 now_moving now_shut now_people now_needed now_day, ai E now_a0 10 now_height, ai E now_a1 7 now_kind, ai E now_a2 7 now_figure, ai E now_a3 7 now_rail, ai E now_a4 7 now_mood, ai E now_a5 7 now_sight]) hC q_X8_heardOnes kw_2_146 (c_X8_heardOnes l E now_h now_a0 now_a1 now_a2 now_a3 now_a4 now_a5 now_height now_kind now_figure now_rail now_mood now_sight now_moving now_shut now_people now_needed now_day N r4 h5) ⟨rfl, rfl⟩ ⟨Nat.le_of_ble_eq_true rfl, Nat.le_of_ble_eq_true rfl⟩ ⟨Nat.zero_le _, Nat.zero_le _⟩ (hP.sub (ws' := [oSt now_h now_a0 now_a1 now_a2 now_a3 now_a4 now_a5 now_moving now_shut now_people now_needed now_day, ai E now_a0 10 now_height, ai E now_a1 7 now_kind, ai E now_a2 7 now_figure, ai E now_a3 7 now_rail, ai E now_a4 7 now_mood, ai E now_a5 7 now_sight]) [1, 2, 3, 4, 5, 6, 7] rfl) rfl rfl rfl hG rfl hl.1 rfl (Nat.le_of_ble_eq_true rfl) dX9_could_22 rfl ?_
    refine lv_iand hx hb dX9_could_25 ?_
    obtain ⟨r6, h7, hv⟩ := ob_s hv
    refine rdS (rest := []) (st1 := [.int r6]) (w := [oSt now_h now_a0 now_a1 now_a2 now_a3 now_a4 now_a5 now_moving now_shut now_people now_needed now_day, ai E now_a0 10 now_height, ai E now_a1 7 now_kind, ai E now_a2 7 now_figure, ai E now_a3 7 now_rail, ai E now_a4 7 now_mood, ai E now_a5 7 now_sight]) hC q_X2_isEnough kw_2_188 (c_X2_isEnough l E now_h now_a0 now_a1 now_a2 now_a3 now_a4 now_a5 now_height now_kind now_figure now_rail now_mood now_sight now_moving now_shut now_people now_needed now_day (p1 &&& r4) N r6 h7) ⟨rfl, rfl⟩ ⟨Nat.le_of_ble_eq_true rfl, Nat.le_of_ble_eq_true rfl⟩ ⟨Nat.zero_le _, Nat.zero_le _⟩ (hP.sub (ws' := [oSt now_h now_a0 now_a1 now_a2 now_a3 now_a4 now_a5 now_moving now_shut now_people now_needed now_day, ai E now_a0 10 now_height, ai E now_a1 7 now_kind, ai E now_a2 7 now_figure, ai E now_a3 7 now_rail, ai E now_a4 7 now_mood, ai E now_a5 7 now_sight]) [1, 2, 3, 4, 5, 6, 7] rfl) hG rfl hl.1 rfl (Nat.le_of_ble_eq_true rfl) dX9_could_26 rfl ?_
    obtain ⟨r8, h9, hv⟩ := ob_s hv
    refine rdS (rest := []) (st1 := [.int r8]) (w := []) hC q_X9_oneIf kw_2_59 (c_X9_oneIf l E r6 r8 h9) ⟨rfl, rfl⟩ ⟨Nat.le_of_ble_eq_true rfl, Nat.le_of_ble_eq_true rfl⟩ ⟨Nat.zero_le _, Nat.zero_le _⟩ (hP.sub (ws' := []) [] rfl) hG rfl hl.1 rfl (Nat.le_of_ble_eq_true rfl) dX9_could_29 rfl ?_
    exact W.iret (v := r8) hx hb hr (fun t h9 _ => ⟨rv_i hv, h9⟩) (fun q h => absurd h List.not_mem_nil) dX9_could_32 hlk
  · have hv := if_y c3 hv
    refine lv_iconst (v := (-1 : Int32)) hx hb dX9_could_11 (by decide) ?_
    exact W.iret (v := (-1 : Int32)) hx hb hr (fun t h9 _ => ⟨rv_i hv, h9⟩) (fun q h => absurd h List.not_mem_nil) dX9_could_12 hlk
theorem dX9_power_0 : decode cX9_power 0 = .ok (.aload_n 0, 1) := by decide +kernel
theorem dX9_power_1 : decode cX9_power 1 = .ok (.getfield 12, 3) := by decide +kernel
theorem dX9_power_4 : decode cX9_power 4 = .ok (.iload_n 1, 1) := by decide +kernel
theorem dX9_power_5 : decode cX9_power 5 = .ok (.invokevirtual 58, 3) := by decide +kernel
theorem dX9_power_8 : decode cX9_power 8 = .ok (.ifCond .eq 12, 3) := by decide +kernel
theorem dX9_power_11 : decode cX9_power 11 = .ok (.iload_n 2, 1) := by decide +kernel
theorem dX9_power_12 : decode cX9_power 12 = .ok (.iconst 0, 1) := by decide +kernel
theorem dX9_power_13 : decode cX9_power 13 = .ok (.iconst 1, 1) := by decide +kernel
theorem dX9_power_14 : decode cX9_power 14 = .ok (.invokestatic 118, 3) := by decide +kernel
theorem dX9_power_17 : decode cX9_power 17 = .ok (.ifCond .ne 7, 3) := by decide +kernel
theorem dX9_power_20 : decode cX9_power 20 = .ok (.ldc2_w 175, 3) := by decide +kernel
theorem dX9_power_23 : decode cX9_power 23 = .ok (.lreturn, 1) := by decide +kernel
theorem dX9_power_24 : decode cX9_power 24 = .ok (.aload_n 0, 1) := by decide +kernel
theorem dX9_power_25 : decode cX9_power 25 = .ok (.getfield 12, 3) := by decide +kernel
theorem dX9_power_28 : decode cX9_power 28 = .ok (.iload_n 1, 1) := by decide +kernel
theorem dX9_power_29 : decode cX9_power 29 = .ok (.invokestatic 177, 3) := by decide +kernel
theorem dX9_power_32 : decode cX9_power 32 = .ok (.aload_n 0, 1) := by decide +kernel
theorem dX9_power_33 : decode cX9_power 33 = .ok (.getfield 12, 3) := by decide +kernel
theorem dX9_power_36 : decode cX9_power 36 = .ok (.invokestatic 181, 3) := by decide +kernel
theorem dX9_power_39 : decode cX9_power 39 = .ok (.iload_n 2, 1) := by decide +kernel
theorem dX9_power_40 : decode cX9_power 40 = .ok (.invokestatic 185, 3) := by decide +kernel
theorem dX9_power_43 : decode cX9_power 43 = .ok (.lreturn, 1) := by decide +kernel
def f_X9_power (N : Nat) (now_height : Nat → Int32) (now_kind : Nat → Int32) (now_figure : Nat → Int32) (now_rail : Nat → Int32) (now_shut : Int32) (now_people : Int32) (now_needed : Int32) (p1 : Int32) (p2 : Int32) : Option (Int64) := ob (f_X8_isThere now_people p1) (fun r1 => if r1 = 0 then some (1000000001 : Int64) else ob (f_X9_isWithin p2 (0 : Int32) (1 : Int32)) (fun r4 => if r4 = 0 then some (1000000001 : Int64) else ob (f_X2_ordersTurned N now_height now_kind now_figure now_rail now_shut now_people now_needed p1) (fun r7 => ob (f_X2_ordersOfHeard N now_rail now_shut now_people) (fun r9 => ob (f_X1_inLeastTerms N r7 r9 p2) (fun r11 => some r11)))))
set_option maxHeartbeats 4000000 in
set_option maxRecDepth 100000 in
theorem c_X9_power (l : Launch) (E : EE) (b_h : Nat) (now_h : Nat) (mind_h : Nat) (kept_h : Nat) (rails_h : Nat) (sa_h : Nat) (now_a0 : Nat) (now_a1 : Nat) (now_a2 : Nat) (now_a3 : Nat) (now_a4 : Nat) (now_a5 : Nat) (b_img : Int32) (now_height : Nat → Int32) (now_kind : Nat → Int32) (now_figure : Nat → Int32) (now_rail : Nat → Int32) (now_mood : Nat → Int32) (now_sight : Nat → Int32) (now_moving : Int32) (now_shut : Int32) (now_people : Int32) (now_needed : Int32) (now_day : Int32) (p1 : Int32) (p2 : Int32) (N : Nat) (res : Int64) (hv : f_X9_power N now_height now_kind now_figure now_rail now_shut now_people now_needed p1 p2 = some res) : Rd l E yX9_power cX9_power 3 (some .long) ({ frames := 6, cells := 0, slots := 0, locals := 136 }) [.ref b_h, .int p1, .int p2] [oBp b_h now_h mind_h kept_h b_img rails_h sa_h, oSt now_h now_a0 now_a1 now_a2 now_a3 now_a4 now_a5 now_moving now_shut now_people now_needed now_day, ai E now_a0 10 now_height, ai E now_a1 7 now_kind, ai E now_a2 7 now_figure, ai E now_a3 7 now_rail, ai E now_a4 7 now_mood, ai E now_a5 7 now_sight] (some (.long res)) := by
  refine Rd.intro RX9 (by decide) rfl (Nat.le_of_ble_eq_true rfl) ?_
  intro p e s m below meth c ls hC hr hlk hP hG hl
  obtain ⟨hx, hb, hml, hown, ht⟩ := id hC
  have hK := hG.1
  have hl : lv_has ls 3 [(0, .ref b_h), (1, .int p1), (2, .int p2)] := hl
  rw [f_X9_power] at hv
  refine lv_aload_n hx hb dX9_power_0 rfl (lv_at hl 0 rfl) ?_
  refine va_get (D := E.1) (ci := 3) (v := .ref now_h) (C := RX9) (T := TX9) (N := 6) hx hb ht i_X9 hown hK hP 0 rfl rfl 0 (by decide) (ht _ kw_1_138) (fun _ h9 => h9) rfl dX9_power_1 ?_
  refine lv_iload_n hx hb dX9_power_4 rfl (lv_at hl 1 rfl) ?_
  obtain ⟨r1, h2, hv⟩ := ob_s hv
  refine rdV 2 0 (As := [.int p1]) (rest := []) (st1 := [.int r1]) (w := [oSt now_h now_a0 now_a1 now_a2 now_a3 now_a4 now_a5 now_moving now_shut now_people now_needed now_day, ai E now_a0 10 now_height, ai E now_a1 7 now_kind, ai E now_a2 7 now_figure, ai E now_a3 7 now_rail, ai E now_a4 7 now_mood, ai E now_a5 7 now_sight]) hC q_X8_isThere kw_2_50 (c_X8_isThere l E now_h now_a0 now_a1 now_a2 now_a3 now_a4 now_a5 now_height now_kind now_figure now_rail now_mood now_sight now_moving now_shut now_people now_needed now_day p1 r1 h2) ⟨rfl, rfl⟩ ⟨Nat.le_of_ble_eq_true rfl, Nat.le_of_ble_eq_true rfl⟩ ⟨Nat.zero_le _, Nat.zero_le _⟩ (hP.sub (ws' := [oSt now_h now_a0 now_a1 now_a2 now_a3 now_a4 now_a5 now_moving now_shut now_people now_needed now_day, ai E now_a0 10 now_height, ai E now_a1 7 now_kind, ai E now_a2 7 now_figure, ai E now_a3 7 now_rail, ai E now_a4 7 now_mood, ai E now_a5 7 now_sight]) [1, 2, 3, 4, 5, 6, 7] rfl) rfl rfl rfl hG rfl hl.1 rfl (Nat.le_of_ble_eq_true rfl) dX9_power_5 rfl ?_
  refine lv_if_eq (tgt := 20) hx hb dX9_power_8 (by decide) (fun c3 => ?_) (fun c3 => ?_)
  · have hv := if_y c3 hv
    refine lv_ldc2 (v := (1000000001 : Int64)) hx hb hown (ht _ kw_2_200) dX9_power_20 ?_
    exact W.lret (v := (1000000001 : Int64)) hx hb hr (fun t h9 _ => ⟨rv_l hv, h9⟩) (fun q h => absurd h List.not_mem_nil) dX9_power_23 hlk
  · have hv := if_n c3 hv
    refine lv_iload_n hx hb dX9_power_11 rfl (lv_at hl 2 rfl) ?_
    refine lv_iconst (v := (0 : Int32)) hx hb dX9_power_12 (by decide) ?_
    refine lv_iconst (v := (1 : Int32)) hx hb dX9_power_13 (by decide) ?_
    obtain ⟨r4, h5, hv⟩ := ob_s hv
    refine rdS (rest := []) (st1 := [.int r4]) (w := []) hC q_X9_isWithin kw_1_168 (c_X9_isWithin l E p2 (0 : Int32) (1 : Int32) r4 h5) ⟨rfl, rfl⟩ ⟨Nat.le_of_ble_eq_true rfl, Nat.le_of_ble_eq_true rfl⟩ ⟨Nat.zero_le _, Nat.zero_le _⟩ (hP.sub (ws' := []) [] rfl) hG rfl hl.1 rfl (Nat.le_of_ble_eq_true rfl) dX9_power_14 rfl ?_
    refine lv_if_ne (tgt := 24) hx hb dX9_power_17 (by decide) (fun c6 => ?_) (fun c6 => ?_)
    · have hv := if_n c6 hv
      refine lv_aload_n hx hb dX9_power_24 rfl (lv_at hl 0 rfl) ?_
      refine va_get (D := E.1) (ci := 3) (v := .ref now_h) (C := RX9) (T := TX9) (N := 6) hx hb ht i_X9 hown hK hP 0 rfl rfl 0 (by decide) (ht _ kw_1_138) (fun _ h9 => h9) rfl dX9_power_25 ?_
      refine lv_iload_n hx hb dX9_power_28 rfl (lv_at hl 1 rfl) ?_
      obtain ⟨r7, h8, hv⟩ := ob_s hv
      refine rdS (rest := []) (st1 := [.long r7]) (w := [oSt now_h now_a0 now_a1 now_a2 now_a3 now_a4 now_a5 now_moving now_shut now_people now_needed now_day, ai E now_a0 10 now_height, ai E now_a1 7 now_kind, ai E now_a2 7 now_figure, ai E now_a3 7 now_rail, ai E now_a4 7 now_mood, ai E now_a5 7 now_sight]) hC q_X2_ordersTurned kw_2_201 (c_X2_ordersTurned l E now_h now_a0 now_a1 now_a2 now_a3 now_a4 now_a5 now_height now_kind now_figure now_rail now_mood now_sight now_moving now_shut now_people now_needed now_day p1 N r7 h8) ⟨rfl, rfl⟩ ⟨Nat.le_of_ble_eq_true rfl, Nat.le_of_ble_eq_true rfl⟩ ⟨Nat.zero_le _, Nat.zero_le _⟩ (hP.sub (ws' := [oSt now_h now_a0 now_a1 now_a2 now_a3 now_a4 now_a5 now_moving now_shut now_people now_needed now_day, ai E now_a0 10 now_height, ai E now_a1 7 now_kind, ai E now_a2 7 now_figure, ai E now_a3 7 now_rail, ai E now_a4 7 now_mood, ai E now_a5 7 now_sight]) [1, 2, 3, 4, 5, 6, 7] rfl) hG rfl hl.1 rfl (Nat.le_of_ble_eq_true rfl) dX9_power_29 rfl ?_
      refine lv_aload_n hx hb dX9_power_32 rfl (lv_at hl 0 rfl) ?_
      refine va_get (D := E.1) (ci := 3) (v := .ref now_h) (C := RX9) (T := TX9) (N := 6) hx hb ht i_X9 hown hK hP 0 rfl rfl 0 (by decide) (ht _ kw_1_138) (fun _ h9 => h9) rfl dX9_power_33 ?_
      obtain ⟨r9, h10, hv⟩ := ob_s hv
      refine rdS (rest := [.long r7]) (st1 := [.long r9, .long r7]) (w := [oSt now_h now_a0 now_a1 now_a2 now_a3 now_a4 now_a5 now_moving now_shut now_people now_needed now_day, ai E now_a0 10 now_height, ai E now_a1 7 now_kind, ai E now_a2 7 now_figure, ai E now_a3 7 now_rail, ai E now_a4 7 now_mood, ai E now_a5 7 now_sight]) hC q_X2_ordersOfHeard kw_2_214 (c_X2_ordersOfHeard l E now_h now_a0 now_a1 now_a2 now_a3 now_a4 now_a5 now_height now_kind now_figure now_rail now_mood now_sight now_moving now_shut now_people now_needed now_day N r9 h10) ⟨rfl, rfl⟩ ⟨Nat.le_of_ble_eq_true rfl, Nat.le_of_ble_eq_true rfl⟩ ⟨Nat.zero_le _, Nat.zero_le _⟩ (hP.sub (ws' := [oSt now_h now_a0 now_a1 now_a2 now_a3 now_a4 now_a5 now_moving now_shut now_people now_needed now_day, ai E now_a0 10 now_height, ai E now_a1 7 now_kind, ai E now_a2 7 now_figure, ai E now_a3 7 now_rail, ai E now_a4 7 now_mood, ai E now_a5 7 now_sight]) [1, 2, 3, 4, 5, 6, 7] rfl) hG rfl hl.1 rfl (Nat.le_of_ble_eq_true rfl) dX9_power_36 rfl ?_
      refine lv_iload_n hx hb dX9_power_39 rfl (lv_at hl 2 rfl) ?_
      obtain ⟨r11, h12, hv⟩ := ob_s hv
      refine rdS (rest := []) (st1 := [.long r11]) (w := []) hC q_X1_inLeastTerms kw_2_217 (c_X1_inLeastTerms l E r7 r9 p2 N r11 h12) ⟨rfl, rfl⟩ ⟨Nat.le_of_ble_eq_true rfl, Nat.le_of_ble_eq_true rfl⟩ ⟨Nat.zero_le _, Nat.zero_le _⟩ (hP.sub (ws' := []) [] rfl) hG rfl hl.1 rfl (Nat.le_of_ble_eq_true rfl) dX9_power_40 rfl ?_
      exact W.lret (v := r11) hx hb hr (fun t h9 _ => ⟨rv_l hv, h9⟩) (fun q h => absurd h List.not_mem_nil) dX9_power_43 hlk
    · have hv := if_y c6 hv
      refine lv_ldc2 (v := (1000000001 : Int64)) hx hb hown (ht _ kw_2_200) dX9_power_20 ?_
      exact W.lret (v := (1000000001 : Int64)) hx hb hr (fun t h9 _ => ⟨rv_l hv, h9⟩) (fun q h => absurd h List.not_mem_nil) dX9_power_23 hlk
theorem dX9_groups_0 : decode cX9_groups 0 = .ok (.iload_n 1, 1) := by decide +kernel
theorem dX9_groups_1 : decode cX9_groups 1 = .ok (.tableswitch 51 0 2 #[27, 35, 43], 27) := by decide +kernel
theorem dX9_groups_28 : decode cX9_groups 28 = .ok (.aload_n 0, 1) := by decide +kernel
theorem dX9_groups_29 : decode cX9_groups 29 = .ok (.getfield 12, 3) := by decide +kernel
theorem dX9_groups_32 : decode cX9_groups 32 = .ok (.invokestatic 191, 3) := by decide +kernel
theorem dX9_groups_35 : decode cX9_groups 35 = .ok (.ireturn, 1) := by decide +kernel
theorem dX9_groups_36 : decode cX9_groups 36 = .ok (.aload_n 0, 1) := by decide +kernel
theorem dX9_groups_37 : decode cX9_groups 37 = .ok (.getfield 12, 3) := by decide +kernel
theorem dX9_groups_40 : decode cX9_groups 40 = .ok (.invokestatic 195, 3) := by decide +kernel
theorem dX9_groups_43 : decode cX9_groups 43 = .ok (.ireturn, 1) := by decide +kernel
theorem dX9_groups_44 : decode cX9_groups 44 = .ok (.aload_n 0, 1) := by decide +kernel
theorem dX9_groups_45 : decode cX9_groups 45 = .ok (.getfield 12, 3) := by decide +kernel
theorem dX9_groups_48 : decode cX9_groups 48 = .ok (.invokestatic 198, 3) := by decide +kernel
theorem dX9_groups_51 : decode cX9_groups 51 = .ok (.ireturn, 1) := by decide +kernel
theorem dX9_groups_52 : decode cX9_groups 52 = .ok (.iconst (-1), 1) := by decide +kernel
theorem dX9_groups_53 : decode cX9_groups 53 = .ok (.ireturn, 1) := by decide +kernel
def f_X9_groups (N : Nat) (now_height : Nat → Int32) (now_kind : Nat → Int32) (now_figure : Nat → Int32) (now_rail : Nat → Int32) (now_shut : Int32) (now_people : Int32) (now_needed : Int32) (p1 : Int32) : Option (Int32) := if p1 = (0 : Int32) then ob (f_X2_smallest N now_height now_kind now_figure now_rail now_shut now_people now_needed) (fun r2 => some r2) else if p1 = (1 : Int32) then ob (f_X2_leastOnes N now_height now_kind now_figure now_rail now_shut now_people now_needed) (fun r5 => some r5) else if p1 = (2 : Int32) then ob (f_X2_blocks N now_height now_kind now_figure now_rail now_shut now_people now_needed) (fun r8 => some r8) else some (-1 : Int32)
set_option maxHeartbeats 4000000 in
set_option maxRecDepth 100000 in
theorem c_X9_groups (l : Launch) (E : EE) (b_h : Nat) (now_h : Nat) (mind_h : Nat) (kept_h : Nat) (rails_h : Nat) (sa_h : Nat) (now_a0 : Nat) (now_a1 : Nat) (now_a2 : Nat) (now_a3 : Nat) (now_a4 : Nat) (now_a5 : Nat) (b_img : Int32) (now_height : Nat → Int32) (now_kind : Nat → Int32) (now_figure : Nat → Int32) (now_rail : Nat → Int32) (now_mood : Nat → Int32) (now_sight : Nat → Int32) (now_moving : Int32) (now_shut : Int32) (now_people : Int32) (now_needed : Int32) (now_day : Int32) (p1 : Int32) (N : Nat) (res : Int32) (hv : f_X9_groups N now_height now_kind now_figure now_rail now_shut now_people now_needed p1 = some res) : Rd l E yX9_groups cX9_groups 2 (some .int) ({ frames := 6, cells := 0, slots := 0, locals := 132 }) [.ref b_h, .int p1] [oBp b_h now_h mind_h kept_h b_img rails_h sa_h, oSt now_h now_a0 now_a1 now_a2 now_a3 now_a4 now_a5 now_moving now_shut now_people now_needed now_day, ai E now_a0 10 now_height, ai E now_a1 7 now_kind, ai E now_a2 7 now_figure, ai E now_a3 7 now_rail, ai E now_a4 7 now_mood, ai E now_a5 7 now_sight] (some (.int res)) := by
  refine Rd.intro RX9 (by decide) rfl (Nat.le_of_ble_eq_true rfl) ?_
  intro p e s m below meth c ls hC hr hlk hP hG hl
  obtain ⟨hx, hb, hml, hown, ht⟩ := id hC
  have hK := hG.1
  have hl : lv_has ls 2 [(0, .ref b_h), (1, .int p1)] := hl
  rw [f_X9_groups] at hv
  refine lv_iload_n hx hb dX9_groups_0 rfl (lv_at hl 1 rfl) ?_
  rcases Decidable.em (p1 = (0 : Int32)) with c1 | c1
  · have hv := if_y c1 hv
    refine lv_tableIn (tgt := 28) (off := 27) hx hb dX9_groups_1 (by rw [c1]; decide) (by rw [c1]; decide) (by rw [c1]; rfl) (by decide) ?_
    refine lv_aload_n hx hb dX9_groups_28 rfl (lv_at hl 0 rfl) ?_
    refine va_get (D := E.1) (ci := 3) (v := .ref now_h) (C := RX9) (T := TX9) (N := 6) hx hb ht i_X9 hown hK hP 0 rfl rfl 0 (by decide) (ht _ kw_1_138) (fun _ h9 => h9) rfl dX9_groups_29 ?_
    obtain ⟨r2, h3, hv⟩ := ob_s hv
    refine rdS (rest := []) (st1 := [.int r2]) (w := [oSt now_h now_a0 now_a1 now_a2 now_a3 now_a4 now_a5 now_moving now_shut now_people now_needed now_day, ai E now_a0 10 now_height, ai E now_a1 7 now_kind, ai E now_a2 7 now_figure, ai E now_a3 7 now_rail, ai E now_a4 7 now_mood, ai E now_a5 7 now_sight]) hC q_X2_smallest kw_2_230 (c_X2_smallest l E now_h now_a0 now_a1 now_a2 now_a3 now_a4 now_a5 now_height now_kind now_figure now_rail now_mood now_sight now_moving now_shut now_people now_needed now_day N r2 h3) ⟨rfl, rfl⟩ ⟨Nat.le_of_ble_eq_true rfl, Nat.le_of_ble_eq_true rfl⟩ ⟨Nat.zero_le _, Nat.zero_le _⟩ (hP.sub (ws' := [oSt now_h now_a0 now_a1 now_a2 now_a3 now_a4 now_a5 now_moving now_shut now_people now_needed now_day, ai E now_a0 10 now_height, ai E now_a1 7 now_kind, ai E now_a2 7 now_figure, ai E now_a3 7 now_rail, ai E now_a4 7 now_mood, ai E now_a5 7 now_sight]) [1, 2, 3, 4, 5, 6, 7] rfl) hG rfl hl.1 rfl (Nat.le_of_ble_eq_true rfl) dX9_groups_32 rfl ?_
    exact W.iret (v := r2) hx hb hr (fun t h9 _ => ⟨rv_i hv, h9⟩) (fun q h => absurd h List.not_mem_nil) dX9_groups_35 hlk
  · have hv := if_n c1 hv
    rcases Decidable.em (p1 = (1 : Int32)) with c4 | c4
    · have hv := if_y c4 hv
      refine lv_tableIn (tgt := 36) (off := 35) hx hb dX9_groups_1 (by rw [c4]; decide) (by rw [c4]; decide) (by rw [c4]; rfl) (by decide) ?_
      refine lv_aload_n hx hb dX9_groups_36 rfl (lv_at hl 0 rfl) ?_
      refine va_get (D := E.1) (ci := 3) (v := .ref now_h) (C := RX9) (T := TX9) (N := 6) hx hb ht i_X9 hown hK hP 0 rfl rfl 0 (by decide) (ht _ kw_1_138) (fun _ h9 => h9) rfl dX9_groups_37 ?_
      obtain ⟨r5, h6, hv⟩ := ob_s hv
      refine rdS (rest := []) (st1 := [.int r5]) (w := [oSt now_h now_a0 now_a1 now_a2 now_a3 now_a4 now_a5 now_moving now_shut now_people now_needed now_day, ai E now_a0 10 now_height, ai E now_a1 7 now_kind, ai E now_a2 7 now_figure, ai E now_a3 7 now_rail, ai E now_a4 7 now_mood, ai E now_a5 7 now_sight]) hC q_X2_leastOnes kw_2_236 (c_X2_leastOnes l E now_h now_a0 now_a1 now_a2 now_a3 now_a4 now_a5 now_height now_kind now_figure now_rail now_mood now_sight now_moving now_shut now_people now_needed now_day N r5 h6) ⟨rfl, rfl⟩ ⟨Nat.le_of_ble_eq_true rfl, Nat.le_of_ble_eq_true rfl⟩ ⟨Nat.zero_le _, Nat.zero_le _⟩ (hP.sub (ws' := [oSt now_h now_a0 now_a1 now_a2 now_a3 now_a4 now_a5 now_moving now_shut now_people now_needed now_day, ai E now_a0 10 now_height, ai E now_a1 7 now_kind, ai E now_a2 7 now_figure, ai E now_a3 7 now_rail, ai E now_a4 7 now_mood, ai E now_a5 7 now_sight]) [1, 2, 3, 4, 5, 6, 7] rfl) hG rfl hl.1 rfl (Nat.le_of_ble_eq_true rfl) dX9_groups_40 rfl ?_
      exact W.iret (v := r5) hx hb hr (fun t h9 _ => ⟨rv_i hv, h9⟩) (fun q h => absurd h List.not_mem_nil) dX9_groups_43 hlk
    · have hv := if_n c4 hv
      rcases Decidable.em (p1 = (2 : Int32)) with c7 | c7
      · have hv := if_y c7 hv
        refine lv_tableIn (tgt := 44) (off := 43) hx hb dX9_groups_1 (by rw [c7]; decide) (by rw [c7]; decide) (by rw [c7]; rfl) (by decide) ?_
        refine lv_aload_n hx hb dX9_groups_44 rfl (lv_at hl 0 rfl) ?_
        refine va_get (D := E.1) (ci := 3) (v := .ref now_h) (C := RX9) (T := TX9) (N := 6) hx hb ht i_X9 hown hK hP 0 rfl rfl 0 (by decide) (ht _ kw_1_138) (fun _ h9 => h9) rfl dX9_groups_45 ?_
        obtain ⟨r8, h9, hv⟩ := ob_s hv
        refine rdS (rest := []) (st1 := [.int r8]) (w := [oSt now_h now_a0 now_a1 now_a2 now_a3 now_a4 now_a5 now_moving now_shut now_people now_needed now_day, ai E now_a0 10 now_height, ai E now_a1 7 now_kind, ai E now_a2 7 now_figure, ai E now_a3 7 now_rail, ai E now_a4 7 now_mood, ai E now_a5 7 now_sight]) hC q_X2_blocks kw_3_2 (c_X2_blocks l E now_h now_a0 now_a1 now_a2 now_a3 now_a4 now_a5 now_height now_kind now_figure now_rail now_mood now_sight now_moving now_shut now_people now_needed now_day N r8 h9) ⟨rfl, rfl⟩ ⟨Nat.le_of_ble_eq_true rfl, Nat.le_of_ble_eq_true rfl⟩ ⟨Nat.zero_le _, Nat.zero_le _⟩ (hP.sub (ws' := [oSt now_h now_a0 now_a1 now_a2 now_a3 now_a4 now_a5 now_moving now_shut now_people now_needed now_day, ai E now_a0 10 now_height, ai E now_a1 7 now_kind, ai E now_a2 7 now_figure, ai E now_a3 7 now_rail, ai E now_a4 7 now_mood, ai E now_a5 7 now_sight]) [1, 2, 3, 4, 5, 6, 7] rfl) hG rfl hl.1 rfl (Nat.le_of_ble_eq_true rfl) dX9_groups_48 rfl ?_
        exact W.iret (v := r8) hx hb hr (fun t h9 _ => ⟨rv_i hv, h9⟩) (fun q h => absurd h List.not_mem_nil) dX9_groups_51 hlk
      · have hv := if_n c7 hv
        refine lv_tableD (tgt := 52) hx hb dX9_groups_1 (fun i h => match i, h with | 0, _ => Or.inr (lv_neT c1 (by decide)) | 1, _ => Or.inr (lv_neT c4 (by decide)) | 2, _ => Or.inr (lv_neT c7 (by decide)) | i + 3, h => absurd h (by simp)) rfl (by decide) ?_
        refine lv_iconst (v := (-1 : Int32)) hx hb dX9_groups_52 (by decide) ?_
        exact W.iret (v := (-1 : Int32)) hx hb hr (fun t h9 _ => ⟨rv_i hv, h9⟩) (fun q h => absurd h List.not_mem_nil) dX9_groups_53 hlk
theorem dX9_swings_0 : decode cX9_swings 0 = .ok (.aload_n 0, 1) := by decide +kernel
theorem dX9_swings_1 : decode cX9_swings 1 = .ok (.getfield 12, 3) := by decide +kernel
theorem dX9_swings_4 : decode cX9_swings 4 = .ok (.iload_n 1, 1) := by decide +kernel
theorem dX9_swings_5 : decode cX9_swings 5 = .ok (.invokevirtual 58, 3) := by decide +kernel
theorem dX9_swings_8 : decode cX9_swings 8 = .ok (.ifCond .ne 5, 3) := by decide +kernel
theorem dX9_swings_11 : decode cX9_swings 11 = .ok (.iconst (-1), 1) := by decide +kernel
theorem dX9_swings_12 : decode cX9_swings 12 = .ok (.ireturn, 1) := by decide +kernel
theorem dX9_swings_13 : decode cX9_swings 13 = .ok (.aload_n 0, 1) := by decide +kernel
theorem dX9_swings_14 : decode cX9_swings 14 = .ok (.getfield 12, 3) := by decide +kernel
theorem dX9_swings_17 : decode cX9_swings 17 = .ok (.iload_n 1, 1) := by decide +kernel
theorem dX9_swings_18 : decode cX9_swings 18 = .ok (.invokestatic 201, 3) := by decide +kernel
theorem dX9_swings_21 : decode cX9_swings 21 = .ok (.ireturn, 1) := by decide +kernel
def f_X9_swings (N : Nat) (now_height : Nat → Int32) (now_kind : Nat → Int32) (now_figure : Nat → Int32) (now_rail : Nat → Int32) (now_shut : Int32) (now_people : Int32) (now_needed : Int32) (p1 : Int32) : Option (Int32) := ob (f_X8_isThere now_people p1) (fun r1 => if r1 = 0 then some (-1 : Int32) else ob (f_X2_turnedGroups N now_height now_kind now_figure now_rail now_shut now_people now_needed p1) (fun r4 => some r4))
set_option maxHeartbeats 4000000 in
set_option maxRecDepth 100000 in
theorem c_X9_swings (l : Launch) (E : EE) (b_h : Nat) (now_h : Nat) (mind_h : Nat) (kept_h : Nat) (rails_h : Nat) (sa_h : Nat) (now_a0 : Nat) (now_a1 : Nat) (now_a2 : Nat) (now_a3 : Nat) (now_a4 : Nat) (now_a5 : Nat) (b_img : Int32) (now_height : Nat → Int32) (now_kind : Nat → Int32) (now_figure : Nat → Int32) (now_rail : Nat → Int32) (now_mood : Nat → Int32) (now_sight : Nat → Int32) (now_moving : Int32) (now_shut : Int32) (now_people : Int32) (now_needed : Int32) (now_day : Int32) (p1 : Int32) (N : Nat) (res : Int32) (hv : f_X9_swings N now_height now_kind now_figure now_rail now_shut now_people now_needed p1 = some res) : Rd l E yX9_swings cX9_swings 2 (some .int) ({ frames := 6, cells := 0, slots := 0, locals := 133 }) [.ref b_h, .int p1] [oBp b_h now_h mind_h kept_h b_img rails_h sa_h, oSt now_h now_a0 now_a1 now_a2 now_a3 now_a4 now_a5 now_moving now_shut now_people now_needed now_day, ai E now_a0 10 now_height, ai E now_a1 7 now_kind, ai E now_a2 7 now_figure, ai E now_a3 7 now_rail, ai E now_a4 7 now_mood, ai E now_a5 7 now_sight] (some (.int res)) := by
  refine Rd.intro RX9 (by decide) rfl (Nat.le_of_ble_eq_true rfl) ?_
  intro p e s m below meth c ls hC hr hlk hP hG hl
  obtain ⟨hx, hb, hml, hown, ht⟩ := id hC
  have hK := hG.1
  have hl : lv_has ls 2 [(0, .ref b_h), (1, .int p1)] := hl
  rw [f_X9_swings] at hv
  refine lv_aload_n hx hb dX9_swings_0 rfl (lv_at hl 0 rfl) ?_
  refine va_get (D := E.1) (ci := 3) (v := .ref now_h) (C := RX9) (T := TX9) (N := 6) hx hb ht i_X9 hown hK hP 0 rfl rfl 0 (by decide) (ht _ kw_1_138) (fun _ h9 => h9) rfl dX9_swings_1 ?_
  refine lv_iload_n hx hb dX9_swings_4 rfl (lv_at hl 1 rfl) ?_
  obtain ⟨r1, h2, hv⟩ := ob_s hv
  refine rdV 2 0 (As := [.int p1]) (rest := []) (st1 := [.int r1]) (w := [oSt now_h now_a0 now_a1 now_a2 now_a3 now_a4 now_a5 now_moving now_shut now_people now_needed now_day, ai E now_a0 10 now_height, ai E now_a1 7 now_kind, ai E now_a2 7 now_figure, ai E now_a3 7 now_rail, ai E now_a4 7 now_mood, ai E now_a5 7 now_sight]) hC q_X8_isThere kw_2_50 (c_X8_isThere l E now_h now_a0 now_a1 now_a2 now_a3 now_a4 now_a5 now_height now_kind now_figure now_rail now_mood now_sight now_moving now_shut now_people now_needed now_day p1 r1 h2) ⟨rfl, rfl⟩ ⟨Nat.le_of_ble_eq_true rfl, Nat.le_of_ble_eq_true rfl⟩ ⟨Nat.zero_le _, Nat.zero_le _⟩ (hP.sub (ws' := [oSt now_h now_a0 now_a1 now_a2 now_a3 now_a4 now_a5 now_moving now_shut now_people now_needed now_day, ai E now_a0 10 now_height, ai E now_a1 7 now_kind, ai E now_a2 7 now_figure, ai E now_a3 7 now_rail, ai E now_a4 7 now_mood, ai E now_a5 7 now_sight]) [1, 2, 3, 4, 5, 6, 7] rfl) rfl rfl rfl hG rfl hl.1 rfl (Nat.le_of_ble_eq_true rfl) dX9_swings_5 rfl ?_
  refine lv_if_ne (tgt := 13) hx hb dX9_swings_8 (by decide) (fun c3 => ?_) (fun c3 => ?_)
  · have hv := if_n c3 hv
    refine lv_aload_n hx hb dX9_swings_13 rfl (lv_at hl 0 rfl) ?_
    refine va_get (D := E.1) (ci := 3) (v := .ref now_h) (C := RX9) (T := TX9) (N := 6) hx hb ht i_X9 hown hK hP 0 rfl rfl 0 (by decide) (ht _ kw_1_138) (fun _ h9 => h9) rfl dX9_swings_14 ?_
    refine lv_iload_n hx hb dX9_swings_17 rfl (lv_at hl 1 rfl) ?_
    obtain ⟨r4, h5, hv⟩ := ob_s hv
    refine rdS (rest := []) (st1 := [.int r4]) (w := [oSt now_h now_a0 now_a1 now_a2 now_a3 now_a4 now_a5 now_moving now_shut now_people now_needed now_day, ai E now_a0 10 now_height, ai E now_a1 7 now_kind, ai E now_a2 7 now_figure, ai E now_a3 7 now_rail, ai E now_a4 7 now_mood, ai E now_a5 7 now_sight]) hC q_X2_turnedGroups kw_3_9 (c_X2_turnedGroups l E now_h now_a0 now_a1 now_a2 now_a3 now_a4 now_a5 now_height now_kind now_figure now_rail now_mood now_sight now_moving now_shut now_people now_needed now_day p1 N r4 h5) ⟨rfl, rfl⟩ ⟨Nat.le_of_ble_eq_true rfl, Nat.le_of_ble_eq_true rfl⟩ ⟨Nat.zero_le _, Nat.zero_le _⟩ (hP.sub (ws' := [oSt now_h now_a0 now_a1 now_a2 now_a3 now_a4 now_a5 now_moving now_shut now_people now_needed now_day, ai E now_a0 10 now_height, ai E now_a1 7 now_kind, ai E now_a2 7 now_figure, ai E now_a3 7 now_rail, ai E now_a4 7 now_mood, ai E now_a5 7 now_sight]) [1, 2, 3, 4, 5, 6, 7] rfl) hG rfl hl.1 rfl (Nat.le_of_ble_eq_true rfl) dX9_swings_18 rfl ?_
    exact W.iret (v := r4) hx hb hr (fun t h9 _ => ⟨rv_i hv, h9⟩) (fun q h => absurd h List.not_mem_nil) dX9_swings_21 hlk
  · have hv := if_y c3 hv
    refine lv_iconst (v := (-1 : Int32)) hx hb dX9_swings_11 (by decide) ?_
    exact W.iret (v := (-1 : Int32)) hx hb hr (fun t h9 _ => ⟨rv_i hv, h9⟩) (fun q h => absurd h List.not_mem_nil) dX9_swings_12 hlk
theorem dX9_rent_0 : decode cX9_rent 0 = .ok (.aload_n 0, 1) := by decide +kernel
theorem dX9_rent_1 : decode cX9_rent 1 = .ok (.getfield 12, 3) := by decide +kernel
theorem dX9_rent_4 : decode cX9_rent 4 = .ok (.iload_n 1, 1) := by decide +kernel
theorem dX9_rent_5 : decode cX9_rent 5 = .ok (.invokevirtual 58, 3) := by decide +kernel
theorem dX9_rent_8 : decode cX9_rent 8 = .ok (.ifCond .eq 10, 3) := by decide +kernel
theorem dX9_rent_11 : decode cX9_rent 11 = .ok (.iload_n 2, 1) := by decide +kernel
theorem dX9_rent_12 : decode cX9_rent 12 = .ok (.invokestatic 91, 3) := by decide +kernel
theorem dX9_rent_15 : decode cX9_rent 15 = .ok (.ifCond .ne 6, 3) := by decide +kernel
theorem dX9_rent_18 : decode cX9_rent 18 = .ok (.ldc 126, 2) := by decide +kernel
theorem dX9_rent_20 : decode cX9_rent 20 = .ok (.ireturn, 1) := by decide +kernel
theorem dX9_rent_21 : decode cX9_rent 21 = .ok (.aload_n 0, 1) := by decide +kernel
theorem dX9_rent_22 : decode cX9_rent 22 = .ok (.getfield 12, 3) := by decide +kernel
theorem dX9_rent_25 : decode cX9_rent 25 = .ok (.iload_n 1, 1) := by decide +kernel
theorem dX9_rent_26 : decode cX9_rent 26 = .ok (.aload_n 0, 1) := by decide +kernel
theorem dX9_rent_27 : decode cX9_rent 27 = .ok (.getfield 12, 3) := by decide +kernel
theorem dX9_rent_30 : decode cX9_rent 30 = .ok (.getfield 94, 3) := by decide +kernel
theorem dX9_rent_33 : decode cX9_rent 33 = .ok (.iload_n 2, 1) := by decide +kernel
theorem dX9_rent_34 : decode cX9_rent 34 = .ok (.iaload, 1) := by decide +kernel
theorem dX9_rent_35 : decode cX9_rent 35 = .ok (.invokevirtual 212, 3) := by decide +kernel
theorem dX9_rent_38 : decode cX9_rent 38 = .ok (.aload_n 0, 1) := by decide +kernel
theorem dX9_rent_39 : decode cX9_rent 39 = .ok (.getfield 12, 3) := by decide +kernel
theorem dX9_rent_42 : decode cX9_rent 42 = .ok (.iload_n 1, 1) := by decide +kernel
theorem dX9_rent_43 : decode cX9_rent 43 = .ok (.iconst 0, 1) := by decide +kernel
theorem dX9_rent_44 : decode cX9_rent 44 = .ok (.invokevirtual 212, 3) := by decide +kernel
theorem dX9_rent_47 : decode cX9_rent 47 = .ok (.isub, 1) := by decide +kernel
theorem dX9_rent_48 : decode cX9_rent 48 = .ok (.ireturn, 1) := by decide +kernel
def f_X9_rent (now_height : Nat → Int32) (now_kind : Nat → Int32) (now_figure : Nat → Int32) (now_people : Int32) (p1 : Int32) (p2 : Int32) : Option (Int32) := ob (f_X8_isThere now_people p1) (fun r1 => if r1 = 0 then some (1000000001 : Int32) else ob (f_X9_isBalcony p2) (fun r4 => if r4 = 0 then some (1000000001 : Int32) else gd (ix p2 10) (ob (f_X8_weightAt now_kind now_figure p1 (now_height p2.toNatClampNeg)) (fun r8 => ob (f_X8_weightAt now_kind now_figure p1 (0 : Int32)) (fun r10 => some (r8 - r10))))))
set_option maxHeartbeats 4000000 in
set_option maxRecDepth 100000 in
theorem c_X9_rent (l : Launch) (E : EE) (b_h : Nat) (now_h : Nat) (mind_h : Nat) (kept_h : Nat) (rails_h : Nat) (sa_h : Nat) (now_a0 : Nat) (now_a1 : Nat) (now_a2 : Nat) (now_a3 : Nat) (now_a4 : Nat) (now_a5 : Nat) (b_img : Int32) (now_height : Nat → Int32) (now_kind : Nat → Int32) (now_figure : Nat → Int32) (now_rail : Nat → Int32) (now_mood : Nat → Int32) (now_sight : Nat → Int32) (now_moving : Int32) (now_shut : Int32) (now_people : Int32) (now_needed : Int32) (now_day : Int32) (p1 : Int32) (p2 : Int32) (res : Int32) (hv : f_X9_rent now_height now_kind now_figure now_people p1 p2 = some res) : Rd l E yX9_rent cX9_rent 3 (some .int) ({ frames := 2, cells := 0, slots := 0, locals := 44 }) [.ref b_h, .int p1, .int p2] [oBp b_h now_h mind_h kept_h b_img rails_h sa_h, oSt now_h now_a0 now_a1 now_a2 now_a3 now_a4 now_a5 now_moving now_shut now_people now_needed now_day, ai E now_a0 10 now_height, ai E now_a1 7 now_kind, ai E now_a2 7 now_figure, ai E now_a3 7 now_rail, ai E now_a4 7 now_mood, ai E now_a5 7 now_sight] (some (.int res)) := by
  refine Rd.intro RX9 (by decide) rfl (Nat.le_of_ble_eq_true rfl) ?_
  intro p e s m below meth c ls hC hr hlk hP hG hl
  obtain ⟨hx, hb, hml, hown, ht⟩ := id hC
  have hK := hG.1
  have hl : lv_has ls 3 [(0, .ref b_h), (1, .int p1), (2, .int p2)] := hl
  rw [f_X9_rent] at hv
  refine lv_aload_n hx hb dX9_rent_0 rfl (lv_at hl 0 rfl) ?_
  refine va_get (D := E.1) (ci := 3) (v := .ref now_h) (C := RX9) (T := TX9) (N := 6) hx hb ht i_X9 hown hK hP 0 rfl rfl 0 (by decide) (ht _ kw_1_138) (fun _ h9 => h9) rfl dX9_rent_1 ?_
  refine lv_iload_n hx hb dX9_rent_4 rfl (lv_at hl 1 rfl) ?_
  obtain ⟨r1, h2, hv⟩ := ob_s hv
  refine rdV 2 0 (As := [.int p1]) (rest := []) (st1 := [.int r1]) (w := [oSt now_h now_a0 now_a1 now_a2 now_a3 now_a4 now_a5 now_moving now_shut now_people now_needed now_day, ai E now_a0 10 now_height, ai E now_a1 7 now_kind, ai E now_a2 7 now_figure, ai E now_a3 7 now_rail, ai E now_a4 7 now_mood, ai E now_a5 7 now_sight]) hC q_X8_isThere kw_2_50 (c_X8_isThere l E now_h now_a0 now_a1 now_a2 now_a3 now_a4 now_a5 now_height now_kind now_figure now_rail now_mood now_sight now_moving now_shut now_people now_needed now_day p1 r1 h2) ⟨rfl, rfl⟩ ⟨Nat.le_of_ble_eq_true rfl, Nat.le_of_ble_eq_true rfl⟩ ⟨Nat.zero_le _, Nat.zero_le _⟩ (hP.sub (ws' := [oSt now_h now_a0 now_a1 now_a2 now_a3 now_a4 now_a5 now_moving now_shut now_people now_needed now_day, ai E now_a0 10 now_height, ai E now_a1 7 now_kind, ai E now_a2 7 now_figure, ai E now_a3 7 now_rail, ai E now_a4 7 now_mood, ai E now_a5 7 now_sight]) [1, 2, 3, 4, 5, 6, 7] rfl) rfl rfl rfl hG rfl hl.1 rfl (Nat.le_of_ble_eq_true rfl) dX9_rent_5 rfl ?_
  refine lv_if_eq (tgt := 18) hx hb dX9_rent_8 (by decide) (fun c3 => ?_) (fun c3 => ?_)
  · have hv := if_y c3 hv
    refine lv_ldc (v := (1000000001 : Int32)) hx hb hown (ht _ kw_2_95) dX9_rent_18 ?_
    exact W.iret (v := (1000000001 : Int32)) hx hb hr (fun t h9 _ => ⟨rv_i hv, h9⟩) (fun q h => absurd h List.not_mem_nil) dX9_rent_20 hlk
  · have hv := if_n c3 hv
    refine lv_iload_n hx hb dX9_rent_11 rfl (lv_at hl 2 rfl) ?_
    obtain ⟨r4, h5, hv⟩ := ob_s hv
    refine rdS (rest := []) (st1 := [.int r4]) (w := []) hC q_X9_isBalcony kw_2_67 (c_X9_isBalcony l E p2 r4 h5) ⟨rfl, rfl⟩ ⟨Nat.le_of_ble_eq_true rfl, Nat.le_of_ble_eq_true rfl⟩ ⟨Nat.zero_le _, Nat.zero_le _⟩ (hP.sub (ws' := []) [] rfl) hG rfl hl.1 rfl (Nat.le_of_ble_eq_true rfl) dX9_rent_12 rfl ?_
    refine lv_if_ne (tgt := 21) hx hb dX9_rent_15 (by decide) (fun c6 => ?_) (fun c6 => ?_)
    · have hv := if_n c6 hv
      refine lv_aload_n hx hb dX9_rent_21 rfl (lv_at hl 0 rfl) ?_
      refine va_get (D := E.1) (ci := 3) (v := .ref now_h) (C := RX9) (T := TX9) (N := 6) hx hb ht i_X9 hown hK hP 0 rfl rfl 0 (by decide) (ht _ kw_1_138) (fun _ h9 => h9) rfl dX9_rent_22 ?_
      refine lv_iload_n hx hb dX9_rent_25 rfl (lv_at hl 1 rfl) ?_
      refine lv_aload_n hx hb dX9_rent_26 rfl (lv_at hl 0 rfl) ?_
      refine va_get (D := E.1) (ci := 3) (v := .ref now_h) (C := RX9) (T := TX9) (N := 6) hx hb ht i_X9 hown hK hP 0 rfl rfl 0 (by decide) (ht _ kw_1_138) (fun _ h9 => h9) rfl dX9_rent_27 ?_
      refine va_get (D := E.1) (ci := 2) (v := .ref now_a0) (C := RX8) (T := TX8) (N := 11) hx hb ht i_X8 hown hK hP 1 rfl rfl 0 (by decide) (ht _ kw_1_37) (fun _ h9 => h9) rfl dX9_rent_30 ?_
      refine lv_iload_n hx hb dX9_rent_33 rfl (lv_at hl 2 rfl) ?_
      obtain ⟨g7, hv⟩ := gd_s hv
      refine va_iald hx hb hK hP 2 0 rfl rfl (ix_s g7) dX9_rent_34 ?_
      obtain ⟨r8, h9, hv⟩ := ob_s hv
      refine rdV 2 0 (As := [.int p1, .int (now_height p2.toNatClampNeg)]) (rest := []) (st1 := [.int r8]) (w := [oSt now_h now_a0 now_a1 now_a2 now_a3 now_a4 now_a5 now_moving now_shut now_people now_needed now_day, ai E now_a0 10 now_height, ai E now_a1 7 now_kind, ai E now_a2 7 now_figure, ai E now_a3 7 now_rail, ai E now_a4 7 now_mood, ai E now_a5 7 now_sight]) hC q_X8_weightAt kw_3_42 (c_X8_weightAt l E now_h now_a0 now_a1 now_a2 now_a3 now_a4 now_a5 now_height now_kind now_figure now_rail now_mood now_sight now_moving now_shut now_people now_needed now_day p1 (now_height p2.toNatClampNeg) r8 h9) ⟨rfl, rfl⟩ ⟨Nat.le_of_ble_eq_true rfl, Nat.le_of_ble_eq_true rfl⟩ ⟨Nat.zero_le _, Nat.zero_le _⟩ (hP.sub (ws' := [oSt now_h now_a0 now_a1 now_a2 now_a3 now_a4 now_a5 now_moving now_shut now_people now_needed now_day, ai E now_a0 10 now_height, ai E now_a1 7 now_kind, ai E now_a2 7 now_figure, ai E now_a3 7 now_rail, ai E now_a4 7 now_mood, ai E now_a5 7 now_sight]) [1, 2, 3, 4, 5, 6, 7] rfl) rfl rfl rfl hG rfl hl.1 rfl (Nat.le_of_ble_eq_true rfl) dX9_rent_35 rfl ?_
      refine lv_aload_n hx hb dX9_rent_38 rfl (lv_at hl 0 rfl) ?_
      refine va_get (D := E.1) (ci := 3) (v := .ref now_h) (C := RX9) (T := TX9) (N := 6) hx hb ht i_X9 hown hK hP 0 rfl rfl 0 (by decide) (ht _ kw_1_138) (fun _ h9 => h9) rfl dX9_rent_39 ?_
      refine lv_iload_n hx hb dX9_rent_42 rfl (lv_at hl 1 rfl) ?_
      refine lv_iconst (v := (0 : Int32)) hx hb dX9_rent_43 (by decide) ?_
      obtain ⟨r10, h11, hv⟩ := ob_s hv
      refine rdV 2 0 (As := [.int p1, .int (0 : Int32)]) (rest := [.int r8]) (st1 := [.int r10, .int r8]) (w := [oSt now_h now_a0 now_a1 now_a2 now_a3 now_a4 now_a5 now_moving now_shut now_people now_needed now_day, ai E now_a0 10 now_height, ai E now_a1 7 now_kind, ai E now_a2 7 now_figure, ai E now_a3 7 now_rail, ai E now_a4 7 now_mood, ai E now_a5 7 now_sight]) hC q_X8_weightAt kw_3_42 (c_X8_weightAt l E now_h now_a0 now_a1 now_a2 now_a3 now_a4 now_a5 now_height now_kind now_figure now_rail now_mood now_sight now_moving now_shut now_people now_needed now_day p1 (0 : Int32) r10 h11) ⟨rfl, rfl⟩ ⟨Nat.le_of_ble_eq_true rfl, Nat.le_of_ble_eq_true rfl⟩ ⟨Nat.zero_le _, Nat.zero_le _⟩ (hP.sub (ws' := [oSt now_h now_a0 now_a1 now_a2 now_a3 now_a4 now_a5 now_moving now_shut now_people now_needed now_day, ai E now_a0 10 now_height, ai E now_a1 7 now_kind, ai E now_a2 7 now_figure, ai E now_a3 7 now_rail, ai E now_a4 7 now_mood, ai E now_a5 7 now_sight]) [1, 2, 3, 4, 5, 6, 7] rfl) rfl rfl rfl hG rfl hl.1 rfl (Nat.le_of_ble_eq_true rfl) dX9_rent_44 rfl ?_
      refine lv_isub hx hb dX9_rent_47 ?_
      exact W.iret (v := (r8 - r10)) hx hb hr (fun t h9 _ => ⟨rv_i hv, h9⟩) (fun q h => absurd h List.not_mem_nil) dX9_rent_48 hlk
    · have hv := if_y c6 hv
      refine lv_ldc (v := (1000000001 : Int32)) hx hb hown (ht _ kw_2_95) dX9_rent_18 ?_
      exact W.iret (v := (1000000001 : Int32)) hx hb hr (fun t h9 _ => ⟨rv_i hv, h9⟩) (fun q h => absurd h List.not_mem_nil) dX9_rent_20 hlk
theorem dX9_bestRail_0 : decode cX9_bestRail 0 = .ok (.aload_n 0, 1) := by decide +kernel
theorem dX9_bestRail_1 : decode cX9_bestRail 1 = .ok (.getfield 12, 3) := by decide +kernel
theorem dX9_bestRail_4 : decode cX9_bestRail 4 = .ok (.iload_n 1, 1) := by decide +kernel
theorem dX9_bestRail_5 : decode cX9_bestRail 5 = .ok (.invokevirtual 58, 3) := by decide +kernel
theorem dX9_bestRail_8 : decode cX9_bestRail 8 = .ok (.ifCond .ne 5, 3) := by decide +kernel
theorem dX9_bestRail_11 : decode cX9_bestRail 11 = .ok (.iconst (-1), 1) := by decide +kernel
theorem dX9_bestRail_12 : decode cX9_bestRail 12 = .ok (.ireturn, 1) := by decide +kernel
theorem dX9_bestRail_13 : decode cX9_bestRail 13 = .ok (.iconst 0, 1) := by decide +kernel
theorem dX9_bestRail_14 : decode cX9_bestRail 14 = .ok (.istore_n 2, 1) := by decide +kernel
theorem dX9_bestRail_15 : decode cX9_bestRail 15 = .ok (.iconst 1, 1) := by decide +kernel
theorem dX9_bestRail_16 : decode cX9_bestRail 16 = .ok (.istore_n 3, 1) := by decide +kernel
theorem dX9_bestRail_17 : decode cX9_bestRail 17 = .ok (.iload_n 3, 1) := by decide +kernel
theorem dX9_bestRail_18 : decode cX9_bestRail 18 = .ok (.bipush 10, 2) := by decide +kernel
theorem dX9_bestRail_20 : decode cX9_bestRail 20 = .ok (.if_icmp .ge 48, 3) := by decide +kernel
theorem dX9_bestRail_23 : decode cX9_bestRail 23 = .ok (.aload_n 0, 1) := by decide +kernel
theorem dX9_bestRail_24 : decode cX9_bestRail 24 = .ok (.getfield 12, 3) := by decide +kernel
theorem dX9_bestRail_27 : decode cX9_bestRail 27 = .ok (.iload_n 1, 1) := by decide +kernel
theorem dX9_bestRail_28 : decode cX9_bestRail 28 = .ok (.aload_n 0, 1) := by decide +kernel
theorem dX9_bestRail_29 : decode cX9_bestRail 29 = .ok (.getfield 12, 3) := by decide +kernel
theorem dX9_bestRail_32 : decode cX9_bestRail 32 = .ok (.getfield 94, 3) := by decide +kernel
theorem dX9_bestRail_35 : decode cX9_bestRail 35 = .ok (.iload_n 3, 1) := by decide +kernel
theorem dX9_bestRail_36 : decode cX9_bestRail 36 = .ok (.iaload, 1) := by decide +kernel
theorem dX9_bestRail_37 : decode cX9_bestRail 37 = .ok (.invokevirtual 212, 3) := by decide +kernel
theorem dX9_bestRail_40 : decode cX9_bestRail 40 = .ok (.aload_n 0, 1) := by decide +kernel
theorem dX9_bestRail_41 : decode cX9_bestRail 41 = .ok (.getfield 12, 3) := by decide +kernel
theorem dX9_bestRail_44 : decode cX9_bestRail 44 = .ok (.iload_n 1, 1) := by decide +kernel
theorem dX9_bestRail_45 : decode cX9_bestRail 45 = .ok (.aload_n 0, 1) := by decide +kernel
theorem dX9_bestRail_46 : decode cX9_bestRail 46 = .ok (.getfield 12, 3) := by decide +kernel
theorem dX9_bestRail_49 : decode cX9_bestRail 49 = .ok (.getfield 94, 3) := by decide +kernel
theorem dX9_bestRail_52 : decode cX9_bestRail 52 = .ok (.iload_n 2, 1) := by decide +kernel
theorem dX9_bestRail_53 : decode cX9_bestRail 53 = .ok (.iaload, 1) := by decide +kernel
theorem dX9_bestRail_54 : decode cX9_bestRail 54 = .ok (.invokevirtual 212, 3) := by decide +kernel
theorem dX9_bestRail_57 : decode cX9_bestRail 57 = .ok (.if_icmp .le 5, 3) := by decide +kernel
theorem dX9_bestRail_60 : decode cX9_bestRail 60 = .ok (.iload_n 3, 1) := by decide +kernel
theorem dX9_bestRail_61 : decode cX9_bestRail 61 = .ok (.istore_n 2, 1) := by decide +kernel
theorem dX9_bestRail_62 : decode cX9_bestRail 62 = .ok (.iinc 3 1, 3) := by decide +kernel
theorem dX9_bestRail_65 : decode cX9_bestRail 65 = .ok (.goto (-48), 3) := by decide +kernel
theorem dX9_bestRail_68 : decode cX9_bestRail 68 = .ok (.iload_n 2, 1) := by decide +kernel
theorem dX9_bestRail_69 : decode cX9_bestRail 69 = .ok (.ireturn, 1) := by decide +kernel
def L_X9_bestRail_17 (now_height : Nat → Int32) (now_kind : Nat → Int32) (now_figure : Nat → Int32) (p1 : Int32) : Nat → Int32 → Int32 → Option (Int32)
  | 0, _, _ => none
  | n17 + 1, x4, x5 => if (10 : Int32) ≤ x4 then some x5 else gd (ix x4 10) (ob (f_X8_weightAt now_kind now_figure p1 (now_height x4.toNatClampNeg)) (fun r8 => gd (ix x5 10) (ob (f_X8_weightAt now_kind now_figure p1 (now_height x5.toNatClampNeg)) (fun r11 => if r8 ≤ r11 then L_X9_bestRail_17 now_height now_kind now_figure p1 n17 (x4 + (1 : Int32)) x5 else L_X9_bestRail_17 now_height now_kind now_figure p1 n17 (x4 + (1 : Int32)) x4))))
def f_X9_bestRail (N : Nat) (now_height : Nat → Int32) (now_kind : Nat → Int32) (now_figure : Nat → Int32) (now_people : Int32) (p1 : Int32) : Option (Int32) := ob (f_X8_isThere now_people p1) (fun r1 => if r1 = 0 then some (-1 : Int32) else L_X9_bestRail_17 now_height now_kind now_figure p1 N (1 : Int32) (0 : Int32))
set_option maxHeartbeats 4000000 in
set_option maxRecDepth 100000 in
theorem c_X9_bestRail (l : Launch) (E : EE) (b_h : Nat) (now_h : Nat) (mind_h : Nat) (kept_h : Nat) (rails_h : Nat) (sa_h : Nat) (now_a0 : Nat) (now_a1 : Nat) (now_a2 : Nat) (now_a3 : Nat) (now_a4 : Nat) (now_a5 : Nat) (b_img : Int32) (now_height : Nat → Int32) (now_kind : Nat → Int32) (now_figure : Nat → Int32) (now_rail : Nat → Int32) (now_mood : Nat → Int32) (now_sight : Nat → Int32) (now_moving : Int32) (now_shut : Int32) (now_people : Int32) (now_needed : Int32) (now_day : Int32) (p1 : Int32) (N : Nat) (res : Int32) (hv : f_X9_bestRail N now_height now_kind now_figure now_people p1 = some res) : Rd l E yX9_bestRail cX9_bestRail 4 (some .int) ({ frames := 2, cells := 0, slots := 0, locals := 44 }) [.ref b_h, .int p1] [oBp b_h now_h mind_h kept_h b_img rails_h sa_h, oSt now_h now_a0 now_a1 now_a2 now_a3 now_a4 now_a5 now_moving now_shut now_people now_needed now_day, ai E now_a0 10 now_height, ai E now_a1 7 now_kind, ai E now_a2 7 now_figure, ai E now_a3 7 now_rail, ai E now_a4 7 now_mood, ai E now_a5 7 now_sight] (some (.int res)) := by
  refine Rd.intro RX9 (by decide) rfl (Nat.le_of_ble_eq_true rfl) ?_
  intro p e s m below meth c ls hC hr hlk hP hG hl
  obtain ⟨hx, hb, hml, hown, ht⟩ := id hC
  have hK := hG.1
  have hl : lv_has ls 4 [(0, .ref b_h), (1, .int p1)] := hl
  rw [f_X9_bestRail] at hv
  refine lv_aload_n hx hb dX9_bestRail_0 rfl (lv_at hl 0 rfl) ?_
  refine va_get (D := E.1) (ci := 3) (v := .ref now_h) (C := RX9) (T := TX9) (N := 6) hx hb ht i_X9 hown hK hP 0 rfl rfl 0 (by decide) (ht _ kw_1_138) (fun _ h9 => h9) rfl dX9_bestRail_1 ?_
  refine lv_iload_n hx hb dX9_bestRail_4 rfl (lv_at hl 1 rfl) ?_
  obtain ⟨r1, h2, hv⟩ := ob_s hv
  refine rdV 2 0 (As := [.int p1]) (rest := []) (st1 := [.int r1]) (w := [oSt now_h now_a0 now_a1 now_a2 now_a3 now_a4 now_a5 now_moving now_shut now_people now_needed now_day, ai E now_a0 10 now_height, ai E now_a1 7 now_kind, ai E now_a2 7 now_figure, ai E now_a3 7 now_rail, ai E now_a4 7 now_mood, ai E now_a5 7 now_sight]) hC q_X8_isThere kw_2_50 (c_X8_isThere l E now_h now_a0 now_a1 now_a2 now_a3 now_a4 now_a5 now_height now_kind now_figure now_rail now_mood now_sight now_moving now_shut now_people now_needed now_day p1 r1 h2) ⟨rfl, rfl⟩ ⟨Nat.le_of_ble_eq_true rfl, Nat.le_of_ble_eq_true rfl⟩ ⟨Nat.zero_le _, Nat.zero_le _⟩ (hP.sub (ws' := [oSt now_h now_a0 now_a1 now_a2 now_a3 now_a4 now_a5 now_moving now_shut now_people now_needed now_day, ai E now_a0 10 now_height, ai E now_a1 7 now_kind, ai E now_a2 7 now_figure, ai E now_a3 7 now_rail, ai E now_a4 7 now_mood, ai E now_a5 7 now_sight]) [1, 2, 3, 4, 5, 6, 7] rfl) rfl rfl rfl hG rfl hl.1 rfl (Nat.le_of_ble_eq_true rfl) dX9_bestRail_5 rfl ?_
  refine lv_if_ne (tgt := 13) hx hb dX9_bestRail_8 (by decide) (fun c3 => ?_) (fun c3 => ?_)
  · have hv := if_n c3 hv
    refine lv_iconst (v := (0 : Int32)) hx hb dX9_bestRail_13 (by decide) ?_
    refine lv_istore_n (lv' := [(2, .int (0 : Int32)), (0, .ref b_h), (1, .int p1)]) hx hb dX9_bestRail_14 rfl hl (by decide) rfl (fun ls hl => ?_)
    refine lv_iconst (v := (1 : Int32)) hx hb dX9_bestRail_15 (by decide) ?_
    refine lv_istore_n (lv' := [(3, .int (1 : Int32)), (2, .int (0 : Int32)), (0, .ref b_h), (1, .int p1)]) hx hb dX9_bestRail_16 rfl hl (by decide) rfl (fun ls hl => ?_)
    have hL17 : ∀ (n : Nat) (x4 : Int32) (x5 : Int32) (ls : Array Slot), lv_has ls 4 [(3, .int x4), (2, .int x5), (0, .ref b_h), (1, .int p1)] → L_X9_bestRail_17 now_height now_kind now_figure p1 n x4 x5 = some res → W p l e ({ frames := 2, cells := 0, slots := 0, locals := 44 }) s m [.ref b_h, .int p1].toArray below meth c s.heap [] 0 0 (MQ below (RdQ (some (.int res))) [.ref b_h, .int p1].toArray s 0 0 (fun _ => False)) (F0 m 17 ls []) := by
      intro n
      induction n with
      | zero => intro x4 x5 ls hl hv; cases hv
      | succ n17 ih17 =>
        intro x4 x5 ls hl hv
        rw [L_X9_bestRail_17] at hv
        refine lv_iload_n hx hb dX9_bestRail_17 rfl (lv_at hl 0 rfl) ?_
        refine lv_bipush (v := (10 : Int32)) hx hb dX9_bestRail_18 (by decide) ?_
        refine lv_icmp_ge (tgt := 68) hx hb dX9_bestRail_20 (by decide) (fun c6 => ?_) (fun c6 => ?_)
        · have hv := if_y c6 hv
          refine lv_iload_n hx hb dX9_bestRail_68 rfl (lv_at hl 1 rfl) ?_
          exact W.iret (v := x5) hx hb hr (fun t h9 _ => ⟨rv_i hv, h9⟩) (fun q h => absurd h List.not_mem_nil) dX9_bestRail_69 hlk
        · have hv := if_n c6 hv
          refine lv_aload_n hx hb dX9_bestRail_23 rfl (lv_at hl 2 rfl) ?_
          refine va_get (D := E.1) (ci := 3) (v := .ref now_h) (C := RX9) (T := TX9) (N := 6) hx hb ht i_X9 hown hK hP 0 rfl rfl 0 (by decide) (ht _ kw_1_138) (fun _ h9 => h9) rfl dX9_bestRail_24 ?_
          refine lv_iload_n hx hb dX9_bestRail_27 rfl (lv_at hl 3 rfl) ?_
          refine lv_aload_n hx hb dX9_bestRail_28 rfl (lv_at hl 2 rfl) ?_
          refine va_get (D := E.1) (ci := 3) (v := .ref now_h) (C := RX9) (T := TX9) (N := 6) hx hb ht i_X9 hown hK hP 0 rfl rfl 0 (by decide) (ht _ kw_1_138) (fun _ h9 => h9) rfl dX9_bestRail_29 ?_
          refine va_get (D := E.1) (ci := 2) (v := .ref now_a0) (C := RX8) (T := TX8) (N := 11) hx hb ht i_X8 hown hK hP 1 rfl rfl 0 (by decide) (ht _ kw_1_37) (fun _ h9 => h9) rfl dX9_bestRail_32 ?_
          refine lv_iload_n hx hb dX9_bestRail_35 rfl (lv_at hl 0 rfl) ?_
          obtain ⟨g7, hv⟩ := gd_s hv
          refine va_iald hx hb hK hP 2 0 rfl rfl (ix_s g7) dX9_bestRail_36 ?_
          obtain ⟨r8, h9, hv⟩ := ob_s hv
          refine rdV 2 0 (As := [.int p1, .int (now_height x4.toNatClampNeg)]) (rest := []) (st1 := [.int r8]) (w := [oSt now_h now_a0 now_a1 now_a2 now_a3 now_a4 now_a5 now_moving now_shut now_people now_needed now_day, ai E now_a0 10 now_height, ai E now_a1 7 now_kind, ai E now_a2 7 now_figure, ai E now_a3 7 now_rail, ai E now_a4 7 now_mood, ai E now_a5 7 now_sight]) hC q_X8_weightAt kw_3_42 (c_X8_weightAt l E now_h now_a0 now_a1 now_a2 now_a3 now_a4 now_a5 now_height now_kind now_figure now_rail now_mood now_sight now_moving now_shut now_people now_needed now_day p1 (now_height x4.toNatClampNeg) r8 h9) ⟨rfl, rfl⟩ ⟨Nat.le_of_ble_eq_true rfl, Nat.le_of_ble_eq_true rfl⟩ ⟨Nat.zero_le _, Nat.zero_le _⟩ (hP.sub (ws' := [oSt now_h now_a0 now_a1 now_a2 now_a3 now_a4 now_a5 now_moving now_shut now_people now_needed now_day, ai E now_a0 10 now_height, ai E now_a1 7 now_kind, ai E now_a2 7 now_figure, ai E now_a3 7 now_rail, ai E now_a4 7 now_mood, ai E now_a5 7 now_sight]) [1, 2, 3, 4, 5, 6, 7] rfl) rfl rfl rfl hG rfl hl.1 rfl (Nat.le_of_ble_eq_true rfl) dX9_bestRail_37 rfl ?_
          refine lv_aload_n hx hb dX9_bestRail_40 rfl (lv_at hl 2 rfl) ?_
          refine va_get (D := E.1) (ci := 3) (v := .ref now_h) (C := RX9) (T := TX9) (N := 6) hx hb ht i_X9 hown hK hP 0 rfl rfl 0 (by decide) (ht _ kw_1_138) (fun _ h9 => h9) rfl dX9_bestRail_41 ?_
          refine lv_iload_n hx hb dX9_bestRail_44 rfl (lv_at hl 3 rfl) ?_
          refine lv_aload_n hx hb dX9_bestRail_45 rfl (lv_at hl 2 rfl) ?_
          refine va_get (D := E.1) (ci := 3) (v := .ref now_h) (C := RX9) (T := TX9) (N := 6) hx hb ht i_X9 hown hK hP 0 rfl rfl 0 (by decide) (ht _ kw_1_138) (fun _ h9 => h9) rfl dX9_bestRail_46 ?_
          refine va_get (D := E.1) (ci := 2) (v := .ref now_a0) (C := RX8) (T := TX8) (N := 11) hx hb ht i_X8 hown hK hP 1 rfl rfl 0 (by decide) (ht _ kw_1_37) (fun _ h9 => h9) rfl dX9_bestRail_49 ?_
          refine lv_iload_n hx hb dX9_bestRail_52 rfl (lv_at hl 1 rfl) ?_
          obtain ⟨g10, hv⟩ := gd_s hv
          refine va_iald hx hb hK hP 2 0 rfl rfl (ix_s g10) dX9_bestRail_53 ?_
          obtain ⟨r11, h12, hv⟩ := ob_s hv
          refine rdV 2 0 (As := [.int p1, .int (now_height x5.toNatClampNeg)]) (rest := [.int r8]) (st1 := [.int r11, .int r8]) (w := [oSt now_h now_a0 now_a1 now_a2 now_a3 now_a4 now_a5 now_moving now_shut now_people now_needed now_day, ai E now_a0 10 now_height, ai E now_a1 7 now_kind, ai E now_a2 7 now_figure, ai E now_a3 7 now_rail, ai E now_a4 7 now_mood, ai E now_a5 7 now_sight]) hC q_X8_weightAt kw_3_42 (c_X8_weightAt l E now_h now_a0 now_a1 now_a2 now_a3 now_a4 now_a5 now_height now_kind now_figure now_rail now_mood now_sight now_moving now_shut now_people now_needed now_day p1 (now_height x5.toNatClampNeg) r11 h12) ⟨rfl, rfl⟩ ⟨Nat.le_of_ble_eq_true rfl, Nat.le_of_ble_eq_true rfl⟩ ⟨Nat.zero_le _, Nat.zero_le _⟩ (hP.sub (ws' := [oSt now_h now_a0 now_a1 now_a2 now_a3 now_a4 now_a5 now_moving now_shut now_people now_needed now_day, ai E now_a0 10 now_height, ai E now_a1 7 now_kind, ai E now_a2 7 now_figure, ai E now_a3 7 now_rail, ai E now_a4 7 now_mood, ai E now_a5 7 now_sight]) [1, 2, 3, 4, 5, 6, 7] rfl) rfl rfl rfl hG rfl hl.1 rfl (Nat.le_of_ble_eq_true rfl) dX9_bestRail_54 rfl ?_
          refine lv_icmp_le (tgt := 62) hx hb dX9_bestRail_57 (by decide) (fun c13 => ?_) (fun c13 => ?_)
          · have hv := if_y c13 hv
            refine lv_iinc (v := (x4 + (1 : Int32))) (lv' := [(3, .int (x4 + (1 : Int32))), (2, .int x5), (0, .ref b_h), (1, .int p1)]) hx hb dX9_bestRail_62 hl (k := 0) rfl rfl (by decide) rfl (fun ls hl => ?_)
            refine lv_goto (tgt := 17) hx hb dX9_bestRail_65 (by decide) ?_
            exact ih17 (x4 + (1 : Int32)) x5 _ (lv_sub hl [0, 1, 2, 3] rfl) hv
          · have hv := if_n c13 hv
            refine lv_iload_n hx hb dX9_bestRail_60 rfl (lv_at hl 0 rfl) ?_
            refine lv_istore_n (lv' := [(2, .int x4), (3, .int x4), (0, .ref b_h), (1, .int p1)]) hx hb dX9_bestRail_61 rfl hl (by decide) rfl (fun ls hl => ?_)
            refine lv_iinc (v := (x4 + (1 : Int32))) (lv' := [(3, .int (x4 + (1 : Int32))), (2, .int x4), (0, .ref b_h), (1, .int p1)]) hx hb dX9_bestRail_62 hl (k := 1) rfl rfl (by decide) rfl (fun ls hl => ?_)
            refine lv_goto (tgt := 17) hx hb dX9_bestRail_65 (by decide) ?_
            exact ih17 (x4 + (1 : Int32)) x4 _ (lv_sub hl [0, 1, 2, 3] rfl) hv
    exact hL17 N (1 : Int32) (0 : Int32) _ (lv_sub hl [0, 1, 2, 3] rfl) hv
  · have hv := if_y c3 hv
    refine lv_iconst (v := (-1 : Int32)) hx hb dX9_bestRail_11 (by decide) ?_
    exact W.iret (v := (-1 : Int32)) hx hb hr (fun t h9 _ => ⟨rv_i hv, h9⟩) (fun q h => absurd h List.not_mem_nil) dX9_bestRail_12 hlk
theorem dX9_lines_0 : decode cX9_lines 0 = .ok (.iload_n 1, 1) := by decide +kernel
theorem dX9_lines_1 : decode cX9_lines 1 = .ok (.lookupswitch 43 #[(0, 27), (1, 35)], 27) := by decide +kernel
theorem dX9_lines_28 : decode cX9_lines 28 = .ok (.aload_n 0, 1) := by decide +kernel
theorem dX9_lines_29 : decode cX9_lines 29 = .ok (.getfield 12, 3) := by decide +kernel
theorem dX9_lines_32 : decode cX9_lines 32 = .ok (.invokevirtual 224, 3) := by decide +kernel
theorem dX9_lines_35 : decode cX9_lines 35 = .ok (.ireturn, 1) := by decide +kernel
theorem dX9_lines_36 : decode cX9_lines 36 = .ok (.aload_n 0, 1) := by decide +kernel
theorem dX9_lines_37 : decode cX9_lines 37 = .ok (.getfield 12, 3) := by decide +kernel
theorem dX9_lines_40 : decode cX9_lines 40 = .ok (.invokevirtual 227, 3) := by decide +kernel
theorem dX9_lines_43 : decode cX9_lines 43 = .ok (.ireturn, 1) := by decide +kernel
theorem dX9_lines_44 : decode cX9_lines 44 = .ok (.iconst (-1), 1) := by decide +kernel
theorem dX9_lines_45 : decode cX9_lines 45 = .ok (.ireturn, 1) := by decide +kernel
def f_X9_lines (N : Nat) (now_height : Nat → Int32) (now_kind : Nat → Int32) (now_figure : Nat → Int32) (now_rail : Nat → Int32) (now_shut : Int32) (now_people : Int32) (p1 : Int32) : Option (Int32) := if p1 = (0 : Int32) then ob (f_X8_twosInSight N now_height now_rail now_people) (fun r2 => some r2) else if p1 = (1 : Int32) then ob (f_X8_loudest N now_height now_kind now_figure now_rail now_shut now_people) (fun r5 => some r5) else some (-1 : Int32)
set_option maxHeartbeats 4000000 in
set_option maxRecDepth 100000 in
theorem c_X9_lines (l : Launch) (E : EE) (b_h : Nat) (now_h : Nat) (mind_h : Nat) (kept_h : Nat) (rails_h : Nat) (sa_h : Nat) (now_a0 : Nat) (now_a1 : Nat) (now_a2 : Nat) (now_a3 : Nat) (now_a4 : Nat) (now_a5 : Nat) (b_img : Int32) (now_height : Nat → Int32) (now_kind : Nat → Int32) (now_figure : Nat → Int32) (now_rail : Nat → Int32) (now_mood : Nat → Int32) (now_sight : Nat → Int32) (now_moving : Int32) (now_shut : Int32) (now_people : Int32) (now_needed : Int32) (now_day : Int32) (p1 : Int32) (N : Nat) (res : Int32) (hv : f_X9_lines N now_height now_kind now_figure now_rail now_shut now_people p1 = some res) : Rd l E yX9_lines cX9_lines 2 (some .int) ({ frames := 3, cells := 0, slots := 0, locals := 66 }) [.ref b_h, .int p1] [oBp b_h now_h mind_h kept_h b_img rails_h sa_h, oSt now_h now_a0 now_a1 now_a2 now_a3 now_a4 now_a5 now_moving now_shut now_people now_needed now_day, ai E now_a0 10 now_height, ai E now_a1 7 now_kind, ai E now_a2 7 now_figure, ai E now_a3 7 now_rail, ai E now_a4 7 now_mood, ai E now_a5 7 now_sight] (some (.int res)) := by
  refine Rd.intro RX9 (by decide) rfl (Nat.le_of_ble_eq_true rfl) ?_
  intro p e s m below meth c ls hC hr hlk hP hG hl
  obtain ⟨hx, hb, hml, hown, ht⟩ := id hC
  have hK := hG.1
  have hl : lv_has ls 2 [(0, .ref b_h), (1, .int p1)] := hl
  rw [f_X9_lines] at hv
  refine lv_iload_n hx hb dX9_lines_0 rfl (lv_at hl 1 rfl) ?_
  rcases Decidable.em (p1 = (0 : Int32)) with c1 | c1
  · have hv := if_y c1 hv
    refine lv_lookup (tgt := 28) (off := 27) hx hb dX9_lines_1 (by decide) (by rw [c1]; decide) (by decide) ?_
    refine lv_aload_n hx hb dX9_lines_28 rfl (lv_at hl 0 rfl) ?_
    refine va_get (D := E.1) (ci := 3) (v := .ref now_h) (C := RX9) (T := TX9) (N := 6) hx hb ht i_X9 hown hK hP 0 rfl rfl 0 (by decide) (ht _ kw_1_138) (fun _ h9 => h9) rfl dX9_lines_29 ?_
    obtain ⟨r2, h3, hv⟩ := ob_s hv
    refine rdV 2 0 (As := []) (rest := []) (st1 := [.int r2]) (w := [oSt now_h now_a0 now_a1 now_a2 now_a3 now_a4 now_a5 now_moving now_shut now_people now_needed now_day, ai E now_a0 10 now_height, ai E now_a1 7 now_kind, ai E now_a2 7 now_figure, ai E now_a3 7 now_rail, ai E now_a4 7 now_mood, ai E now_a5 7 now_sight]) hC q_X8_twosInSight kw_3_82 (c_X8_twosInSight l E now_h now_a0 now_a1 now_a2 now_a3 now_a4 now_a5 now_height now_kind now_figure now_rail now_mood now_sight now_moving now_shut now_people now_needed now_day N r2 h3) ⟨rfl, rfl⟩ ⟨Nat.le_of_ble_eq_true rfl, Nat.le_of_ble_eq_true rfl⟩ ⟨Nat.zero_le _, Nat.zero_le _⟩ (hP.sub (ws' := [oSt now_h now_a0 now_a1 now_a2 now_a3 now_a4 now_a5 now_moving now_shut now_people now_needed now_day, ai E now_a0 10 now_height, ai E now_a1 7 now_kind, ai E now_a2 7 now_figure, ai E now_a3 7 now_rail, ai E now_a4 7 now_mood, ai E now_a5 7 now_sight]) [1, 2, 3, 4, 5, 6, 7] rfl) rfl rfl rfl hG rfl hl.1 rfl (Nat.le_of_ble_eq_true rfl) dX9_lines_32 rfl ?_
    exact W.iret (v := r2) hx hb hr (fun t h9 _ => ⟨rv_i hv, h9⟩) (fun q h => absurd h List.not_mem_nil) dX9_lines_35 hlk
  · have hv := if_n c1 hv
    rcases Decidable.em (p1 = (1 : Int32)) with c4 | c4
    · have hv := if_y c4 hv
      refine lv_lookup (tgt := 36) (off := 35) hx hb dX9_lines_1 (by decide) (by rw [c4]; decide) (by decide) ?_
      refine lv_aload_n hx hb dX9_lines_36 rfl (lv_at hl 0 rfl) ?_
      refine va_get (D := E.1) (ci := 3) (v := .ref now_h) (C := RX9) (T := TX9) (N := 6) hx hb ht i_X9 hown hK hP 0 rfl rfl 0 (by decide) (ht _ kw_1_138) (fun _ h9 => h9) rfl dX9_lines_37 ?_
      obtain ⟨r5, h6, hv⟩ := ob_s hv
      refine rdV 2 0 (As := []) (rest := []) (st1 := [.int r5]) (w := [oSt now_h now_a0 now_a1 now_a2 now_a3 now_a4 now_a5 now_moving now_shut now_people now_needed now_day, ai E now_a0 10 now_height, ai E now_a1 7 now_kind, ai E now_a2 7 now_figure, ai E now_a3 7 now_rail, ai E now_a4 7 now_mood, ai E now_a5 7 now_sight]) hC q_X8_loudest kw_3_86 (c_X8_loudest l E now_h now_a0 now_a1 now_a2 now_a3 now_a4 now_a5 now_height now_kind now_figure now_rail now_mood now_sight now_moving now_shut now_people now_needed now_day N r5 h6) ⟨rfl, rfl⟩ ⟨Nat.le_of_ble_eq_true rfl, Nat.le_of_ble_eq_true rfl⟩ ⟨Nat.zero_le _, Nat.zero_le _⟩ (hP.sub (ws' := [oSt now_h now_a0 now_a1 now_a2 now_a3 now_a4 now_a5 now_moving now_shut now_people now_needed now_day, ai E now_a0 10 now_height, ai E now_a1 7 now_kind, ai E now_a2 7 now_figure, ai E now_a3 7 now_rail, ai E now_a4 7 now_mood, ai E now_a5 7 now_sight]) [1, 2, 3, 4, 5, 6, 7] rfl) rfl rfl rfl hG rfl hl.1 rfl (Nat.le_of_ble_eq_true rfl) dX9_lines_40 rfl ?_
      exact W.iret (v := r5) hx hb hr (fun t h9 _ => ⟨rv_i hv, h9⟩) (fun q h => absurd h List.not_mem_nil) dX9_lines_43 hlk
    · have hv := if_n c4 hv
      refine lv_lookup (tgt := 44) (off := 43) hx hb dX9_lines_1 (by decide) (by rw [lv_osw c1 (by decide), lv_osw c4 (by decide)]; rfl) (by decide) ?_
      refine lv_iconst (v := (-1 : Int32)) hx hb dX9_lines_44 (by decide) ?_
      exact W.iret (v := (-1 : Int32)) hx hb hr (fun t h9 _ => ⟨rv_i hv, h9⟩) (fun q h => absurd h List.not_mem_nil) dX9_lines_45 hlk
theorem dX9_rain_0 : decode cX9_rain 0 = .ok (.iload_n 1, 1) := by decide +kernel
theorem dX9_rain_1 : decode cX9_rain 1 = .ok (.iconst 2, 1) := by decide +kernel
theorem dX9_rain_2 : decode cX9_rain 2 = .ok (.bipush 20, 2) := by decide +kernel
theorem dX9_rain_4 : decode cX9_rain 4 = .ok (.invokestatic 118, 3) := by decide +kernel
theorem dX9_rain_7 : decode cX9_rain 7 = .ok (.ifCond .eq 12, 3) := by decide +kernel
theorem dX9_rain_10 : decode cX9_rain 10 = .ok (.iload_n 2, 1) := by decide +kernel
theorem dX9_rain_11 : decode cX9_rain 11 = .ok (.iconst 0, 1) := by decide +kernel
theorem dX9_rain_12 : decode cX9_rain 12 = .ok (.iconst 1, 1) := by decide +kernel
theorem dX9_rain_13 : decode cX9_rain 13 = .ok (.invokestatic 118, 3) := by decide +kernel
theorem dX9_rain_16 : decode cX9_rain 16 = .ok (.ifCond .ne 7, 3) := by decide +kernel
theorem dX9_rain_19 : decode cX9_rain 19 = .ok (.ldc2_w 175, 3) := by decide +kernel
theorem dX9_rain_22 : decode cX9_rain 22 = .ok (.lreturn, 1) := by decide +kernel
theorem dX9_rain_23 : decode cX9_rain 23 = .ok (.aload_n 0, 1) := by decide +kernel
theorem dX9_rain_24 : decode cX9_rain 24 = .ok (.getfield 12, 3) := by decide +kernel
theorem dX9_rain_27 : decode cX9_rain 27 = .ok (.invokevirtual 139, 3) := by decide +kernel
theorem dX9_rain_30 : decode cX9_rain 30 = .ok (.istore_n 3, 1) := by decide +kernel
theorem dX9_rain_31 : decode cX9_rain 31 = .ok (.iconst 1, 1) := by decide +kernel
theorem dX9_rain_32 : decode cX9_rain 32 = .ok (.aload_n 0, 1) := by decide +kernel
theorem dX9_rain_33 : decode cX9_rain 33 = .ok (.getfield 12, 3) := by decide +kernel
theorem dX9_rain_36 : decode cX9_rain 36 = .ok (.getfield 115, 3) := by decide +kernel
theorem dX9_rain_39 : decode cX9_rain 39 = .ok (.ishl, 1) := by decide +kernel
theorem dX9_rain_40 : decode cX9_rain 40 = .ok (.istore 4, 2) := by decide +kernel
theorem dX9_rain_42 : decode cX9_rain 42 = .ok (.lconst 0, 1) := by decide +kernel
theorem dX9_rain_43 : decode cX9_rain 43 = .ok (.lstore 5, 2) := by decide +kernel
theorem dX9_rain_45 : decode cX9_rain 45 = .ok (.iconst 0, 1) := by decide +kernel
theorem dX9_rain_46 : decode cX9_rain 46 = .ok (.istore 7, 2) := by decide +kernel
theorem dX9_rain_48 : decode cX9_rain 48 = .ok (.iload 7, 2) := by decide +kernel
theorem dX9_rain_50 : decode cX9_rain 50 = .ok (.iload 4, 2) := by decide +kernel
theorem dX9_rain_52 : decode cX9_rain 52 = .ok (.if_icmp .ge 39, 3) := by decide +kernel
theorem dX9_rain_55 : decode cX9_rain 55 = .ok (.aload_n 0, 1) := by decide +kernel
theorem dX9_rain_56 : decode cX9_rain 56 = .ok (.getfield 12, 3) := by decide +kernel
theorem dX9_rain_59 : decode cX9_rain 59 = .ok (.iload_n 3, 1) := by decide +kernel
theorem dX9_rain_60 : decode cX9_rain 60 = .ok (.iload 7, 2) := by decide +kernel
theorem dX9_rain_62 : decode cX9_rain 62 = .ok (.iand, 1) := by decide +kernel
theorem dX9_rain_63 : decode cX9_rain 63 = .ok (.invokevirtual 151, 3) := by decide +kernel
theorem dX9_rain_66 : decode cX9_rain 66 = .ok (.ifCond .ne 19, 3) := by decide +kernel
theorem dX9_rain_69 : decode cX9_rain 69 = .ok (.lload 5, 2) := by decide +kernel
theorem dX9_rain_71 : decode cX9_rain 71 = .ok (.iload_n 1, 1) := by decide +kernel
theorem dX9_rain_72 : decode cX9_rain 72 = .ok (.iconst 1, 1) := by decide +kernel
theorem dX9_rain_73 : decode cX9_rain 73 = .ok (.isub, 1) := by decide +kernel
theorem dX9_rain_74 : decode cX9_rain 74 = .ok (.iload 7, 2) := by decide +kernel
theorem dX9_rain_76 : decode cX9_rain 76 = .ok (.invokestatic 250, 3) := by decide +kernel
theorem dX9_rain_79 : decode cX9_rain 79 = .ok (.invokestatic 255, 3) := by decide +kernel
theorem dX9_rain_82 : decode cX9_rain 82 = .ok (.ladd, 1) := by decide +kernel
theorem dX9_rain_83 : decode cX9_rain 83 = .ok (.lstore 5, 2) := by decide +kernel
theorem dX9_rain_85 : decode cX9_rain 85 = .ok (.iinc 7 1, 3) := by decide +kernel
theorem dX9_rain_88 : decode cX9_rain 88 = .ok (.goto (-40), 3) := by decide +kernel
theorem dX9_rain_91 : decode cX9_rain 91 = .ok (.lload 5, 2) := by decide +kernel
theorem dX9_rain_93 : decode cX9_rain 93 = .ok (.iload_n 1, 1) := by decide +kernel
theorem dX9_rain_94 : decode cX9_rain 94 = .ok (.aload_n 0, 1) := by decide +kernel
theorem dX9_rain_95 : decode cX9_rain 95 = .ok (.getfield 12, 3) := by decide +kernel
theorem dX9_rain_98 : decode cX9_rain 98 = .ok (.getfield 115, 3) := by decide +kernel
theorem dX9_rain_101 : decode cX9_rain 101 = .ok (.invokestatic 255, 3) := by decide +kernel
theorem dX9_rain_104 : decode cX9_rain 104 = .ok (.iload_n 2, 1) := by decide +kernel
theorem dX9_rain_105 : decode cX9_rain 105 = .ok (.invokestatic 185, 3) := by decide +kernel
theorem dX9_rain_108 : decode cX9_rain 108 = .ok (.lreturn, 1) := by decide +kernel
def L_X9_rain_48 (N : Nat) (now_height : Nat → Int32) (now_kind : Nat → Int32) (now_figure : Nat → Int32) (now_rail : Nat → Int32) (now_mood : Nat → Int32) (now_people : Int32) (now_needed : Int32) (p1 : Int32) (p2 : Int32) (r7 : Int32) (z9 : Int32) : Nat → Int32 → Int64 → Option (Int64)
  | 0, _, _ => none
  | n48 + 1, x10, x11 => if z9 ≤ x10 then ob (f_X9_toThePower N p1 now_people) (fun r13 => ob (f_X1_inLeastTerms N x11 r13 p2) (fun r15 => some r15)) else ob (f_X8_whyNot N now_height now_kind now_figure now_rail now_mood now_people now_needed (r7 &&& x10)) (fun r17 => if r17 = 0 then ob (f_J6_bitCount_0f7a4 x10) (fun r20 => ob (f_X9_toThePower N (p1 - (1 : Int32)) r20) (fun r22 => L_X9_rain_48 N now_height now_kind now_figure now_rail now_mood now_people now_needed p1 p2 r7 z9 n48 (x10 + (1 : Int32)) (x11 + r22))) else L_X9_rain_48 N now_height now_kind now_figure now_rail now_mood now_people now_needed p1 p2 r7 z9 n48 (x10 + (1 : Int32)) x11)
def f_X9_rain (N : Nat) (now_height : Nat → Int32) (now_kind : Nat → Int32) (now_figure : Nat → Int32) (now_rail : Nat → Int32) (now_mood : Nat → Int32) (now_shut : Int32) (now_people : Int32) (now_needed : Int32) (p1 : Int32) (p2 : Int32) : Option (Int64) := ob (f_X9_isWithin p1 (2 : Int32) (20 : Int32)) (fun r1 => if r1 = 0 then some (1000000001 : Int64) else ob (f_X9_isWithin p2 (0 : Int32) (1 : Int32)) (fun r4 => if r4 = 0 then some (1000000001 : Int64) else ob (f_X8_heardOnes N now_rail now_shut now_people) (fun r7 => nm ((1 : Int32) <<< (now_people &&& 31)) (fun z9 => L_X9_rain_48 N now_height now_kind now_figure now_rail now_mood now_people now_needed p1 p2 r7 z9 N (0 : Int32) (0 : Int64)))))
set_option maxHeartbeats 4000000 in
set_option maxRecDepth 100000 in
theorem c_X9_rain (l : Launch) (E : EE) (b_h : Nat) (now_h : Nat) (mind_h : Nat) (kept_h : Nat) (rails_h : Nat) (sa_h : Nat) (now_a0 : Nat) (now_a1 : Nat) (now_a2 : Nat) (now_a3 : Nat) (now_a4 : Nat) (now_a5 : Nat) (b_img : Int32) (now_height : Nat → Int32) (now_kind : Nat → Int32) (now_figure : Nat → Int32) (now_rail : Nat → Int32) (now_mood : Nat → Int32) (now_sight : Nat → Int32) (now_moving : Int32) (now_shut : Int32) (now_people : Int32) (now_needed : Int32) (now_day : Int32) (p1 : Int32) (p2 : Int32) (N : Nat) (res : Int64) (hv : f_X9_rain N now_height now_kind now_figure now_rail now_mood now_shut now_people now_needed p1 p2 = some res) : Rd l E yX9_rain cX9_rain 8 (some .long) ({ frames := 4, cells := 0, slots := 0, locals := 89 }) [.ref b_h, .int p1, .int p2] [oBp b_h now_h mind_h kept_h b_img rails_h sa_h, oSt now_h now_a0 now_a1 now_a2 now_a3 now_a4 now_a5 now_moving now_shut now_people now_needed now_day, ai E now_a0 10 now_height, ai E now_a1 7 now_kind, ai E now_a2 7 now_figure, ai E now_a3 7 now_rail, ai E now_a4 7 now_mood, ai E now_a5 7 now_sight] (some (.long res)) := by
  refine Rd.intro RX9 (by decide) rfl (Nat.le_of_ble_eq_true rfl) ?_
  intro p e s m below meth c ls hC hr hlk hP hG hl
  obtain ⟨hx, hb, hml, hown, ht⟩ := id hC
  have hK := hG.1
  have hl : lv_has ls 8 [(0, .ref b_h), (1, .int p1), (2, .int p2)] := hl
  rw [f_X9_rain] at hv
  refine lv_iload_n hx hb dX9_rain_0 rfl (lv_at hl 1 rfl) ?_
  refine lv_iconst (v := (2 : Int32)) hx hb dX9_rain_1 (by decide) ?_
  refine lv_bipush (v := (20 : Int32)) hx hb dX9_rain_2 (by decide) ?_
  obtain ⟨r1, h2, hv⟩ := ob_s hv
  refine rdS (rest := []) (st1 := [.int r1]) (w := []) hC q_X9_isWithin kw_1_168 (c_X9_isWithin l E p1 (2 : Int32) (20 : Int32) r1 h2) ⟨rfl, rfl⟩ ⟨Nat.le_of_ble_eq_true rfl, Nat.le_of_ble_eq_true rfl⟩ ⟨Nat.zero_le _, Nat.zero_le _⟩ (hP.sub (ws' := []) [] rfl) hG rfl hl.1 rfl (Nat.le_of_ble_eq_true rfl) dX9_rain_4 rfl ?_
  refine lv_if_eq (tgt := 19) hx hb dX9_rain_7 (by decide) (fun c3 => ?_) (fun c3 => ?_)
  · have hv := if_y c3 hv
    refine lv_ldc2 (v := (1000000001 : Int64)) hx hb hown (ht _ kw_2_200) dX9_rain_19 ?_
    exact W.lret (v := (1000000001 : Int64)) hx hb hr (fun t h9 _ => ⟨rv_l hv, h9⟩) (fun q h => absurd h List.not_mem_nil) dX9_rain_22 hlk
  · have hv := if_n c3 hv
    refine lv_iload_n hx hb dX9_rain_10 rfl (lv_at hl 2 rfl) ?_
    refine lv_iconst (v := (0 : Int32)) hx hb dX9_rain_11 (by decide) ?_
    refine lv_iconst (v := (1 : Int32)) hx hb dX9_rain_12 (by decide) ?_
    obtain ⟨r4, h5, hv⟩ := ob_s hv
    refine rdS (rest := []) (st1 := [.int r4]) (w := []) hC q_X9_isWithin kw_1_168 (c_X9_isWithin l E p2 (0 : Int32) (1 : Int32) r4 h5) ⟨rfl, rfl⟩ ⟨Nat.le_of_ble_eq_true rfl, Nat.le_of_ble_eq_true rfl⟩ ⟨Nat.zero_le _, Nat.zero_le _⟩ (hP.sub (ws' := []) [] rfl) hG rfl hl.1 rfl (Nat.le_of_ble_eq_true rfl) dX9_rain_13 rfl ?_
    refine lv_if_ne (tgt := 23) hx hb dX9_rain_16 (by decide) (fun c6 => ?_) (fun c6 => ?_)
    · have hv := if_n c6 hv
      refine lv_aload_n hx hb dX9_rain_23 rfl (lv_at hl 0 rfl) ?_
      refine va_get (D := E.1) (ci := 3) (v := .ref now_h) (C := RX9) (T := TX9) (N := 6) hx hb ht i_X9 hown hK hP 0 rfl rfl 0 (by decide) (ht _ kw_1_138) (fun _ h9 => h9) rfl dX9_rain_24 ?_
      obtain ⟨r7, h8, hv⟩ := ob_s hv
      refine rdV 2 0 (As := []) (rest := []) (st1 := [.int r7]) (w := [oSt now_h now_a0 now_a1 now_a2 now_a3 now_a4 now_a5 now_moving now_shut now_people now_needed now_day, ai E now_a0 10 now_height, ai E now_a1 7 now_kind, ai E now_a2 7 now_figure, ai E now_a3 7 now_rail, ai E now_a4 7 now_mood, ai E now_a5 7 now_sight]) hC q_X8_heardOnes kw_2_146 (c_X8_heardOnes l E now_h now_a0 now_a1 now_a2 now_a3 now_a4 now_a5 now_height now_kind now_figure now_rail now_mood now_sight now_moving now_shut now_people now_needed now_day N r7 h8) ⟨rfl, rfl⟩ ⟨Nat.le_of_ble_eq_true rfl, Nat.le_of_ble_eq_true rfl⟩ ⟨Nat.zero_le _, Nat.zero_le _⟩ (hP.sub (ws' := [oSt now_h now_a0 now_a1 now_a2 now_a3 now_a4 now_a5 now_moving now_shut now_people now_needed now_day, ai E now_a0 10 now_height, ai E now_a1 7 now_kind, ai E now_a2 7 now_figure, ai E now_a3 7 now_rail, ai E now_a4 7 now_mood, ai E now_a5 7 now_sight]) [1, 2, 3, 4, 5, 6, 7] rfl) rfl rfl rfl hG rfl hl.1 rfl (Nat.le_of_ble_eq_true rfl) dX9_rain_27 rfl ?_
      refine lv_istore_n (lv' := [(3, .int r7), (0, .ref b_h), (1, .int p1), (2, .int p2)]) hx hb dX9_rain_30 rfl hl (by decide) rfl (fun ls hl => ?_)
      refine lv_iconst (v := (1 : Int32)) hx hb dX9_rain_31 (by decide) ?_
      refine lv_aload_n hx hb dX9_rain_32 rfl (lv_at hl 1 rfl) ?_
      refine va_get (D := E.1) (ci := 3) (v := .ref now_h) (C := RX9) (T := TX9) (N := 6) hx hb ht i_X9 hown hK hP 0 rfl rfl 0 (by decide) (ht _ kw_1_138) (fun _ h9 => h9) rfl dX9_rain_33 ?_
      refine va_get (D := E.1) (ci := 2) (v := .int now_people) (C := RX8) (T := TX8) (N := 11) hx hb ht i_X8 hown hK hP 1 rfl rfl 8 (by decide) (ht _ kw_1_54) (fun _ h9 => h9) rfl dX9_rain_36 ?_
      refine lv_ishl hx hb dX9_rain_39 ?_
      refine lv_topi (fun z9 ez9 => ?_)
      have hv := nm_s ez9 hv
      refine lv_istore (lv' := [(4, .int z9), (3, .int r7), (0, .ref b_h), (1, .int p1), (2, .int p2)]) hx hb dX9_rain_40 hl (by decide) rfl (fun ls hl => ?_)
      refine lv_lconst (v := (0 : Int64)) hx hb dX9_rain_42 (by decide) ?_
      refine lv_lstore (lv' := [(5, .long (0 : Int64)), (4, .int z9), (3, .int r7), (0, .ref b_h), (1, .int p1), (2, .int p2)]) hx hb dX9_rain_43 hl (by decide) rfl (fun ls hl => ?_)
      refine lv_iconst (v := (0 : Int32)) hx hb dX9_rain_45 (by decide) ?_
      refine lv_istore (lv' := [(7, .int (0 : Int32)), (5, .long (0 : Int64)), (4, .int z9), (3, .int r7), (0, .ref b_h), (1, .int p1), (2, .int p2)]) hx hb dX9_rain_46 hl (by decide) rfl (fun ls hl => ?_)
      have hL48 : ∀ (n : Nat) (x10 : Int32) (x11 : Int64) (ls : Array Slot), lv_has ls 8 [(7, .int x10), (5, .long x11), (4, .int z9), (3, .int r7), (0, .ref b_h), (1, .int p1), (2, .int p2)] → L_X9_rain_48 N now_height now_kind now_figure now_rail now_mood now_people now_needed p1 p2 r7 z9 n x10 x11 = some res → W p l e ({ frames := 4, cells := 0, slots := 0, locals := 89 }) s m [.ref b_h, .int p1, .int p2].toArray below meth c s.heap [] 0 0 (MQ below (RdQ (some (.long res))) [.ref b_h, .int p1, .int p2].toArray s 0 0 (fun _ => False)) (F0 m 48 ls []) := by
        intro n
        induction n with
        | zero => intro x10 x11 ls hl hv; cases hv
        | succ n48 ih48 =>
          intro x10 x11 ls hl hv
          rw [L_X9_rain_48] at hv
          refine lv_iload hx hb dX9_rain_48 (lv_at hl 0 rfl) ?_
          refine lv_iload hx hb dX9_rain_50 (lv_at hl 2 rfl) ?_
          refine lv_icmp_ge (tgt := 91) hx hb dX9_rain_52 (by decide) (fun c12 => ?_) (fun c12 => ?_)
          · have hv := if_y c12 hv
            refine lv_lload hx hb dX9_rain_91 (lv_at hl 1 rfl) ?_
            refine lv_iload_n hx hb dX9_rain_93 rfl (lv_at hl 5 rfl) ?_
            refine lv_aload_n hx hb dX9_rain_94 rfl (lv_at hl 4 rfl) ?_
            refine va_get (D := E.1) (ci := 3) (v := .ref now_h) (C := RX9) (T := TX9) (N := 6) hx hb ht i_X9 hown hK hP 0 rfl rfl 0 (by decide) (ht _ kw_1_138) (fun _ h9 => h9) rfl dX9_rain_95 ?_
            refine va_get (D := E.1) (ci := 2) (v := .int now_people) (C := RX8) (T := TX8) (N := 11) hx hb ht i_X8 hown hK hP 1 rfl rfl 8 (by decide) (ht _ kw_1_54) (fun _ h9 => h9) rfl dX9_rain_98 ?_
            obtain ⟨r13, h14, hv⟩ := ob_s hv
            refine rdS (rest := [.long x11]) (st1 := [.long r13, .long x11]) (w := []) hC q_X9_toThePower kw_3_147 (c_X9_toThePower l E p1 now_people N r13 h14) ⟨rfl, rfl⟩ ⟨Nat.le_of_ble_eq_true rfl, Nat.le_of_ble_eq_true rfl⟩ ⟨Nat.zero_le _, Nat.zero_le _⟩ (hP.sub (ws' := []) [] rfl) hG rfl hl.1 rfl (Nat.le_of_ble_eq_true rfl) dX9_rain_101 rfl ?_
            refine lv_iload_n hx hb dX9_rain_104 rfl (lv_at hl 6 rfl) ?_
            obtain ⟨r15, h16, hv⟩ := ob_s hv
            refine rdS (rest := []) (st1 := [.long r15]) (w := []) hC q_X1_inLeastTerms kw_2_217 (c_X1_inLeastTerms l E x11 r13 p2 N r15 h16) ⟨rfl, rfl⟩ ⟨Nat.le_of_ble_eq_true rfl, Nat.le_of_ble_eq_true rfl⟩ ⟨Nat.zero_le _, Nat.zero_le _⟩ (hP.sub (ws' := []) [] rfl) hG rfl hl.1 rfl (Nat.le_of_ble_eq_true rfl) dX9_rain_105 rfl ?_
            exact W.lret (v := r15) hx hb hr (fun t h9 _ => ⟨rv_l hv, h9⟩) (fun q h => absurd h List.not_mem_nil) dX9_rain_108 hlk
          · have hv := if_n c12 hv
            refine lv_aload_n hx hb dX9_rain_55 rfl (lv_at hl 4 rfl) ?_
            refine va_get (D := E.1) (ci := 3) (v := .ref now_h) (C := RX9) (T := TX9) (N := 6) hx hb ht i_X9 hown hK hP 0 rfl rfl 0 (by decide) (ht _ kw_1_138) (fun _ h9 => h9) rfl dX9_rain_56 ?_
            refine lv_iload_n hx hb dX9_rain_59 rfl (lv_at hl 3 rfl) ?_
            refine lv_iload hx hb dX9_rain_60 (lv_at hl 0 rfl) ?_
            refine lv_iand hx hb dX9_rain_62 ?_
            obtain ⟨r17, h18, hv⟩ := ob_s hv
            refine rdV 2 0 (As := [.int (r7 &&& x10)]) (rest := []) (st1 := [.int r17]) (w := [oSt now_h now_a0 now_a1 now_a2 now_a3 now_a4 now_a5 now_moving now_shut now_people now_needed now_day, ai E now_a0 10 now_height, ai E now_a1 7 now_kind, ai E now_a2 7 now_figure, ai E now_a3 7 now_rail, ai E now_a4 7 now_mood, ai E now_a5 7 now_sight]) hC q_X8_whyNot kw_2_152 (c_X8_whyNot l E now_h now_a0 now_a1 now_a2 now_a3 now_a4 now_a5 now_height now_kind now_figure now_rail now_mood now_sight now_moving now_shut now_people now_needed now_day (r7 &&& x10) N r17 h18) ⟨rfl, rfl⟩ ⟨Nat.le_of_ble_eq_true rfl, Nat.le_of_ble_eq_true rfl⟩ ⟨Nat.zero_le _, Nat.zero_le _⟩ (hP.sub (ws' := [oSt now_h now_a0 now_a1 now_a2 now_a3 now_a4 now_a5 now_moving now_shut now_people now_needed now_day, ai E now_a0 10 now_height, ai E now_a1 7 now_kind, ai E now_a2 7 now_figure, ai E now_a3 7 now_rail, ai E now_a4 7 now_mood, ai E now_a5 7 now_sight]) [1, 2, 3, 4, 5, 6, 7] rfl) rfl rfl rfl hG rfl hl.1 rfl (Nat.le_of_ble_eq_true rfl) dX9_rain_63 rfl ?_
            refine lv_if_ne (tgt := 85) hx hb dX9_rain_66 (by decide) (fun c19 => ?_) (fun c19 => ?_)
            · have hv := if_n c19 hv
              refine lv_iinc (v := (x10 + (1 : Int32))) (lv' := [(7, .int (x10 + (1 : Int32))), (5, .long x11), (4, .int z9), (3, .int r7), (0, .ref b_h), (1, .int p1), (2, .int p2)]) hx hb dX9_rain_85 hl (k := 0) rfl rfl (by decide) rfl (fun ls hl => ?_)
              refine lv_goto (tgt := 48) hx hb dX9_rain_88 (by decide) ?_
              exact ih48 (x10 + (1 : Int32)) x11 _ (lv_sub hl [0, 1, 2, 3, 4, 5, 6] rfl) hv
            · have hv := if_y c19 hv
              refine lv_lload hx hb dX9_rain_69 (lv_at hl 1 rfl) ?_
              refine lv_iload_n hx hb dX9_rain_71 rfl (lv_at hl 5 rfl) ?_
              refine lv_iconst (v := (1 : Int32)) hx hb dX9_rain_72 (by decide) ?_
              refine lv_isub hx hb dX9_rain_73 ?_
              refine lv_iload hx hb dX9_rain_74 (lv_at hl 0 rfl) ?_
              obtain ⟨r20, h21, hv⟩ := ob_s hv
              refine rdS (rest := [.int (p1 - (1 : Int32)), .long x11]) (st1 := [.int r20, .int (p1 - (1 : Int32)), .long x11]) (w := []) hC q_J6_bitCount_0f7a4 kw_3_146 (c_J6_bitCount_0f7a4 l E x10 r20 h21) ⟨rfl, rfl⟩ ⟨Nat.le_of_ble_eq_true rfl, Nat.le_of_ble_eq_true rfl⟩ ⟨Nat.zero_le _, Nat.zero_le _⟩ (hP.sub (ws' := []) [] rfl) hG rfl hl.1 rfl (Nat.le_of_ble_eq_true rfl) dX9_rain_76 rfl ?_
              obtain ⟨r22, h23, hv⟩ := ob_s hv
              refine rdS (rest := [.long x11]) (st1 := [.long r22, .long x11]) (w := []) hC q_X9_toThePower kw_3_147 (c_X9_toThePower l E (p1 - (1 : Int32)) r20 N r22 h23) ⟨rfl, rfl⟩ ⟨Nat.le_of_ble_eq_true rfl, Nat.le_of_ble_eq_true rfl⟩ ⟨Nat.zero_le _, Nat.zero_le _⟩ (hP.sub (ws' := []) [] rfl) hG rfl hl.1 rfl (Nat.le_of_ble_eq_true rfl) dX9_rain_79 rfl ?_
              refine lv_ladd hx hb dX9_rain_82 ?_
              refine lv_lstore (lv' := [(5, .long (x11 + r22)), (7, .int x10), (4, .int z9), (3, .int r7), (0, .ref b_h), (1, .int p1), (2, .int p2)]) hx hb dX9_rain_83 hl (by decide) rfl (fun ls hl => ?_)
              refine lv_iinc (v := (x10 + (1 : Int32))) (lv' := [(7, .int (x10 + (1 : Int32))), (5, .long (x11 + r22)), (4, .int z9), (3, .int r7), (0, .ref b_h), (1, .int p1), (2, .int p2)]) hx hb dX9_rain_85 hl (k := 1) rfl rfl (by decide) rfl (fun ls hl => ?_)
              refine lv_goto (tgt := 48) hx hb dX9_rain_88 (by decide) ?_
              exact ih48 (x10 + (1 : Int32)) (x11 + r22) _ (lv_sub hl [0, 1, 2, 3, 4, 5, 6] rfl) hv
      exact hL48 N (0 : Int32) (0 : Int64) _ (lv_sub hl [0, 1, 2, 3, 4, 5, 6] rfl) hv
    · have hv := if_y c6 hv
      refine lv_ldc2 (v := (1000000001 : Int64)) hx hb hown (ht _ kw_2_200) dX9_rain_19 ?_
      exact W.lret (v := (1000000001 : Int64)) hx hb hr (fun t h9 _ => ⟨rv_l hv, h9⟩) (fun q h => absurd h List.not_mem_nil) dX9_rain_22 hlk
theorem dX9_mean_0 : decode cX9_mean 0 = .ok (.iload_n 1, 1) := by decide +kernel
theorem dX9_mean_1 : decode cX9_mean 1 = .ok (.iconst 0, 1) := by decide +kernel
theorem dX9_mean_2 : decode cX9_mean 2 = .ok (.iconst 1, 1) := by decide +kernel
theorem dX9_mean_3 : decode cX9_mean 3 = .ok (.invokestatic 118, 3) := by decide +kernel
theorem dX9_mean_6 : decode cX9_mean 6 = .ok (.ifCond .ne 7, 3) := by decide +kernel
theorem dX9_mean_9 : decode cX9_mean 9 = .ok (.ldc2_w 175, 3) := by decide +kernel
theorem dX9_mean_12 : decode cX9_mean 12 = .ok (.lreturn, 1) := by decide +kernel
theorem dX9_mean_13 : decode cX9_mean 13 = .ok (.iconst 0, 1) := by decide +kernel
theorem dX9_mean_14 : decode cX9_mean 14 = .ok (.istore_n 2, 1) := by decide +kernel
theorem dX9_mean_15 : decode cX9_mean 15 = .ok (.iconst 0, 1) := by decide +kernel
theorem dX9_mean_16 : decode cX9_mean 16 = .ok (.istore_n 3, 1) := by decide +kernel
theorem dX9_mean_17 : decode cX9_mean 17 = .ok (.iload_n 3, 1) := by decide +kernel
theorem dX9_mean_18 : decode cX9_mean 18 = .ok (.aload_n 0, 1) := by decide +kernel
theorem dX9_mean_19 : decode cX9_mean 19 = .ok (.getfield 12, 3) := by decide +kernel
theorem dX9_mean_22 : decode cX9_mean 22 = .ok (.getfield 115, 3) := by decide +kernel
theorem dX9_mean_25 : decode cX9_mean 25 = .ok (.if_icmp .ge 21, 3) := by decide +kernel
theorem dX9_mean_28 : decode cX9_mean 28 = .ok (.iload_n 2, 1) := by decide +kernel
theorem dX9_mean_29 : decode cX9_mean 29 = .ok (.aload_n 0, 1) := by decide +kernel
theorem dX9_mean_30 : decode cX9_mean 30 = .ok (.getfield 12, 3) := by decide +kernel
theorem dX9_mean_33 : decode cX9_mean 33 = .ok (.getfield 72, 3) := by decide +kernel
theorem dX9_mean_36 : decode cX9_mean 36 = .ok (.iload_n 3, 1) := by decide +kernel
theorem dX9_mean_37 : decode cX9_mean 37 = .ok (.iaload, 1) := by decide +kernel
theorem dX9_mean_38 : decode cX9_mean 38 = .ok (.iadd, 1) := by decide +kernel
theorem dX9_mean_39 : decode cX9_mean 39 = .ok (.istore_n 2, 1) := by decide +kernel
theorem dX9_mean_40 : decode cX9_mean 40 = .ok (.iinc 3 1, 3) := by decide +kernel
theorem dX9_mean_43 : decode cX9_mean 43 = .ok (.goto (-26), 3) := by decide +kernel
theorem dX9_mean_46 : decode cX9_mean 46 = .ok (.iload_n 2, 1) := by decide +kernel
theorem dX9_mean_47 : decode cX9_mean 47 = .ok (.i2l, 1) := by decide +kernel
theorem dX9_mean_48 : decode cX9_mean 48 = .ok (.iconst 1, 1) := by decide +kernel
theorem dX9_mean_49 : decode cX9_mean 49 = .ok (.aload_n 0, 1) := by decide +kernel
theorem dX9_mean_50 : decode cX9_mean 50 = .ok (.getfield 12, 3) := by decide +kernel
theorem dX9_mean_53 : decode cX9_mean 53 = .ok (.getfield 115, 3) := by decide +kernel
theorem dX9_mean_56 : decode cX9_mean 56 = .ok (.invokestatic 146, 3) := by decide +kernel
theorem dX9_mean_59 : decode cX9_mean 59 = .ok (.i2l, 1) := by decide +kernel
theorem dX9_mean_60 : decode cX9_mean 60 = .ok (.iload_n 1, 1) := by decide +kernel
theorem dX9_mean_61 : decode cX9_mean 61 = .ok (.invokestatic 185, 3) := by decide +kernel
theorem dX9_mean_64 : decode cX9_mean 64 = .ok (.lreturn, 1) := by decide +kernel
def L_X9_mean_17 (N : Nat) (now_mood : Nat → Int32) (now_people : Int32) (p1 : Int32) : Nat → Int32 → Int32 → Option (Int64)
  | 0, _, _ => none
  | n17 + 1, x4, x5 => if now_people ≤ x4 then ob (f_X1_inLeastTerms N (x5.toInt64) ((if (1 : Int32) < now_people then now_people else (1 : Int32)).toInt64) p1) (fun r7 => some r7) else gd (ix x4 7) (L_X9_mean_17 N now_mood now_people p1 n17 (x4 + (1 : Int32)) (x5 + (now_mood x4.toNatClampNeg)))
def f_X9_mean (N : Nat) (now_mood : Nat → Int32) (now_people : Int32) (p1 : Int32) : Option (Int64) := ob (f_X9_isWithin p1 (0 : Int32) (1 : Int32)) (fun r1 => if r1 = 0 then some (1000000001 : Int64) else L_X9_mean_17 N now_mood now_people p1 N (0 : Int32) (0 : Int32))
set_option maxHeartbeats 4000000 in
set_option maxRecDepth 100000 in
theorem c_X9_mean (l : Launch) (E : EE) (b_h : Nat) (now_h : Nat) (mind_h : Nat) (kept_h : Nat) (rails_h : Nat) (sa_h : Nat) (now_a0 : Nat) (now_a1 : Nat) (now_a2 : Nat) (now_a3 : Nat) (now_a4 : Nat) (now_a5 : Nat) (b_img : Int32) (now_height : Nat → Int32) (now_kind : Nat → Int32) (now_figure : Nat → Int32) (now_rail : Nat → Int32) (now_mood : Nat → Int32) (now_sight : Nat → Int32) (now_moving : Int32) (now_shut : Int32) (now_people : Int32) (now_needed : Int32) (now_day : Int32) (p1 : Int32) (N : Nat) (res : Int64) (hv : f_X9_mean N now_mood now_people p1 = some res) : Rd l E yX9_mean cX9_mean 4 (some .long) ({ frames := 2, cells := 0, slots := 0, locals := 56 }) [.ref b_h, .int p1] [oBp b_h now_h mind_h kept_h b_img rails_h sa_h, oSt now_h now_a0 now_a1 now_a2 now_a3 now_a4 now_a5 now_moving now_shut now_people now_needed now_day, ai E now_a0 10 now_height, ai E now_a1 7 now_kind, ai E now_a2 7 now_figure, ai E now_a3 7 now_rail, ai E now_a4 7 now_mood, ai E now_a5 7 now_sight] (some (.long res)) := by
  refine Rd.intro RX9 (by decide) rfl (Nat.le_of_ble_eq_true rfl) ?_
  intro p e s m below meth c ls hC hr hlk hP hG hl
  obtain ⟨hx, hb, hml, hown, ht⟩ := id hC
  have hK := hG.1
  have hl : lv_has ls 4 [(0, .ref b_h), (1, .int p1)] := hl
  rw [f_X9_mean] at hv
  refine lv_iload_n hx hb dX9_mean_0 rfl (lv_at hl 1 rfl) ?_
  refine lv_iconst (v := (0 : Int32)) hx hb dX9_mean_1 (by decide) ?_
  refine lv_iconst (v := (1 : Int32)) hx hb dX9_mean_2 (by decide) ?_
  obtain ⟨r1, h2, hv⟩ := ob_s hv
  refine rdS (rest := []) (st1 := [.int r1]) (w := []) hC q_X9_isWithin kw_1_168 (c_X9_isWithin l E p1 (0 : Int32) (1 : Int32) r1 h2) ⟨rfl, rfl⟩ ⟨Nat.le_of_ble_eq_true rfl, Nat.le_of_ble_eq_true rfl⟩ ⟨Nat.zero_le _, Nat.zero_le _⟩ (hP.sub (ws' := []) [] rfl) hG rfl hl.1 rfl (Nat.le_of_ble_eq_true rfl) dX9_mean_3 rfl ?_
  refine lv_if_ne (tgt := 13) hx hb dX9_mean_6 (by decide) (fun c3 => ?_) (fun c3 => ?_)
  · have hv := if_n c3 hv
    refine lv_iconst (v := (0 : Int32)) hx hb dX9_mean_13 (by decide) ?_
    refine lv_istore_n (lv' := [(2, .int (0 : Int32)), (0, .ref b_h), (1, .int p1)]) hx hb dX9_mean_14 rfl hl (by decide) rfl (fun ls hl => ?_)
    refine lv_iconst (v := (0 : Int32)) hx hb dX9_mean_15 (by decide) ?_
    refine lv_istore_n (lv' := [(3, .int (0 : Int32)), (2, .int (0 : Int32)), (0, .ref b_h), (1, .int p1)]) hx hb dX9_mean_16 rfl hl (by decide) rfl (fun ls hl => ?_)
    have hL17 : ∀ (n : Nat) (x4 : Int32) (x5 : Int32) (ls : Array Slot), lv_has ls 4 [(3, .int x4), (2, .int x5), (0, .ref b_h), (1, .int p1)] → L_X9_mean_17 N now_mood now_people p1 n x4 x5 = some res → W p l e ({ frames := 2, cells := 0, slots := 0, locals := 56 }) s m [.ref b_h, .int p1].toArray below meth c s.heap [] 0 0 (MQ below (RdQ (some (.long res))) [.ref b_h, .int p1].toArray s 0 0 (fun _ => False)) (F0 m 17 ls []) := by
      intro n
      induction n with
      | zero => intro x4 x5 ls hl hv; cases hv
      | succ n17 ih17 =>
        intro x4 x5 ls hl hv
        rw [L_X9_mean_17] at hv
        refine lv_iload_n hx hb dX9_mean_17 rfl (lv_at hl 0 rfl) ?_
        refine lv_aload_n hx hb dX9_mean_18 rfl (lv_at hl 2 rfl) ?_
        refine va_get (D := E.1) (ci := 3) (v := .ref now_h) (C := RX9) (T := TX9) (N := 6) hx hb ht i_X9 hown hK hP 0 rfl rfl 0 (by decide) (ht _ kw_1_138) (fun _ h9 => h9) rfl dX9_mean_19 ?_
        refine va_get (D := E.1) (ci := 2) (v := .int now_people) (C := RX8) (T := TX8) (N := 11) hx hb ht i_X8 hown hK hP 1 rfl rfl 8 (by decide) (ht _ kw_1_54) (fun _ h9 => h9) rfl dX9_mean_22 ?_
        refine lv_icmp_ge (tgt := 46) hx hb dX9_mean_25 (by decide) (fun c6 => ?_) (fun c6 => ?_)
        · have hv := if_y c6 hv
          refine lv_iload_n hx hb dX9_mean_46 rfl (lv_at hl 1 rfl) ?_
          refine lv_i2l (v := (x5.toInt64)) hx hb dX9_mean_47 rfl ?_
          refine lv_iconst (v := (1 : Int32)) hx hb dX9_mean_48 (by decide) ?_
          refine lv_aload_n hx hb dX9_mean_49 rfl (lv_at hl 2 rfl) ?_
          refine va_get (D := E.1) (ci := 3) (v := .ref now_h) (C := RX9) (T := TX9) (N := 6) hx hb ht i_X9 hown hK hP 0 rfl rfl 0 (by decide) (ht _ kw_1_138) (fun _ h9 => h9) rfl dX9_mean_50 ?_
          refine va_get (D := E.1) (ci := 2) (v := .int now_people) (C := RX8) (T := TX8) (N := 11) hx hb ht i_X8 hown hK hP 1 rfl rfl 8 (by decide) (ht _ kw_1_54) (fun _ h9 => h9) rfl dX9_mean_53 ?_
          refine va_mmax hx hb (by rw [hml]; exact hl.1.symm) hown (ht _ kw_2_151) (ht _ kw_2_44) (ht _ kw_1_8) (ht _ kw_2_45) (Nat.le_of_ble_eq_true rfl) (Nat.le_of_ble_eq_true rfl) (Nat.zero_le _) (Nat.zero_le _) dX9_mean_56 ?_
          refine lv_i2l (v := ((if (1 : Int32) < now_people then now_people else (1 : Int32)).toInt64)) hx hb dX9_mean_59 rfl ?_
          refine lv_iload_n hx hb dX9_mean_60 rfl (lv_at hl 3 rfl) ?_
          obtain ⟨r7, h8, hv⟩ := ob_s hv
          refine rdS (rest := []) (st1 := [.long r7]) (w := []) hC q_X1_inLeastTerms kw_2_217 (c_X1_inLeastTerms l E (x5.toInt64) ((if (1 : Int32) < now_people then now_people else (1 : Int32)).toInt64) p1 N r7 h8) ⟨rfl, rfl⟩ ⟨Nat.le_of_ble_eq_true rfl, Nat.le_of_ble_eq_true rfl⟩ ⟨Nat.zero_le _, Nat.zero_le _⟩ (hP.sub (ws' := []) [] rfl) hG rfl hl.1 rfl (Nat.le_of_ble_eq_true rfl) dX9_mean_61 rfl ?_
          exact W.lret (v := r7) hx hb hr (fun t h9 _ => ⟨rv_l hv, h9⟩) (fun q h => absurd h List.not_mem_nil) dX9_mean_64 hlk
        · have hv := if_n c6 hv
          refine lv_iload_n hx hb dX9_mean_28 rfl (lv_at hl 1 rfl) ?_
          refine lv_aload_n hx hb dX9_mean_29 rfl (lv_at hl 2 rfl) ?_
          refine va_get (D := E.1) (ci := 3) (v := .ref now_h) (C := RX9) (T := TX9) (N := 6) hx hb ht i_X9 hown hK hP 0 rfl rfl 0 (by decide) (ht _ kw_1_138) (fun _ h9 => h9) rfl dX9_mean_30 ?_
          refine va_get (D := E.1) (ci := 2) (v := .ref now_a4) (C := RX8) (T := TX8) (N := 11) hx hb ht i_X8 hown hK hP 1 rfl rfl 4 (by decide) (ht _ kw_1_46) (fun _ h9 => h9) rfl dX9_mean_33 ?_
          refine lv_iload_n hx hb dX9_mean_36 rfl (lv_at hl 0 rfl) ?_
          obtain ⟨g9, hv⟩ := gd_s hv
          refine va_iald hx hb hK hP 6 0 rfl rfl (ix_s g9) dX9_mean_37 ?_
          refine lv_iadd hx hb dX9_mean_38 ?_
          refine lv_istore_n (lv' := [(2, .int (x5 + (now_mood x4.toNatClampNeg))), (3, .int x4), (0, .ref b_h), (1, .int p1)]) hx hb dX9_mean_39 rfl hl (by decide) rfl (fun ls hl => ?_)
          refine lv_iinc (v := (x4 + (1 : Int32))) (lv' := [(3, .int (x4 + (1 : Int32))), (2, .int (x5 + (now_mood x4.toNatClampNeg))), (0, .ref b_h), (1, .int p1)]) hx hb dX9_mean_40 hl (k := 1) rfl rfl (by decide) rfl (fun ls hl => ?_)
          refine lv_goto (tgt := 17) hx hb dX9_mean_43 (by decide) ?_
          exact ih17 (x4 + (1 : Int32)) (x5 + (now_mood x4.toNatClampNeg)) _ (lv_sub hl [0, 1, 2, 3] rfl) hv
    exact hL17 N (0 : Int32) (0 : Int32) _ (lv_sub hl [0, 1, 2, 3] rfl) hv
  · have hv := if_y c3 hv
    refine lv_ldc2 (v := (1000000001 : Int64)) hx hb hown (ht _ kw_2_200) dX9_mean_9 ?_
    exact W.lret (v := (1000000001 : Int64)) hx hb hr (fun t h9 _ => ⟨rv_l hv, h9⟩) (fun q h => absurd h List.not_mem_nil) dX9_mean_12 hlk
theorem dX9_count_0 : decode cX9_count 0 = .ok (.iload_n 1, 1) := by decide +kernel
theorem dX9_count_1 : decode cX9_count 1 = .ok (.tableswitch 99 0 6 #[43, 51, 59, 67, 75, 83, 91], 43) := by decide +kernel
theorem dX9_count_44 : decode cX9_count 44 = .ok (.aload_n 0, 1) := by decide +kernel
theorem dX9_count_45 : decode cX9_count 45 = .ok (.getfield 12, 3) := by decide +kernel
theorem dX9_count_48 : decode cX9_count 48 = .ok (.getfield 115, 3) := by decide +kernel
theorem dX9_count_51 : decode cX9_count 51 = .ok (.ireturn, 1) := by decide +kernel
theorem dX9_count_52 : decode cX9_count 52 = .ok (.aload_n 0, 1) := by decide +kernel
theorem dX9_count_53 : decode cX9_count 53 = .ok (.getfield 12, 3) := by decide +kernel
theorem dX9_count_56 : decode cX9_count 56 = .ok (.getfield 271, 3) := by decide +kernel
theorem dX9_count_59 : decode cX9_count 59 = .ok (.ireturn, 1) := by decide +kernel
theorem dX9_count_60 : decode cX9_count 60 = .ok (.aload_n 0, 1) := by decide +kernel
theorem dX9_count_61 : decode cX9_count 61 = .ok (.getfield 12, 3) := by decide +kernel
theorem dX9_count_64 : decode cX9_count 64 = .ok (.getfield 127, 3) := by decide +kernel
theorem dX9_count_67 : decode cX9_count 67 = .ok (.ireturn, 1) := by decide +kernel
theorem dX9_count_68 : decode cX9_count 68 = .ok (.aload_n 0, 1) := by decide +kernel
theorem dX9_count_69 : decode cX9_count 69 = .ok (.getfield 12, 3) := by decide +kernel
theorem dX9_count_72 : decode cX9_count 72 = .ok (.invokevirtual 139, 3) := by decide +kernel
theorem dX9_count_75 : decode cX9_count 75 = .ok (.ireturn, 1) := by decide +kernel
theorem dX9_count_76 : decode cX9_count 76 = .ok (.aload_n 0, 1) := by decide +kernel
theorem dX9_count_77 : decode cX9_count 77 = .ok (.getfield 12, 3) := by decide +kernel
theorem dX9_count_80 : decode cX9_count 80 = .ok (.invokevirtual 274, 3) := by decide +kernel
theorem dX9_count_83 : decode cX9_count 83 = .ok (.ireturn, 1) := by decide +kernel
theorem dX9_count_84 : decode cX9_count 84 = .ok (.aload_n 0, 1) := by decide +kernel
theorem dX9_count_85 : decode cX9_count 85 = .ok (.getfield 12, 3) := by decide +kernel
theorem dX9_count_88 : decode cX9_count 88 = .ok (.invokevirtual 277, 3) := by decide +kernel
theorem dX9_count_91 : decode cX9_count 91 = .ok (.ireturn, 1) := by decide +kernel
theorem dX9_count_92 : decode cX9_count 92 = .ok (.aload_n 0, 1) := by decide +kernel
theorem dX9_count_93 : decode cX9_count 93 = .ok (.getfield 12, 3) := by decide +kernel
theorem dX9_count_96 : decode cX9_count 96 = .ok (.getfield 280, 3) := by decide +kernel
theorem dX9_count_99 : decode cX9_count 99 = .ok (.ireturn, 1) := by decide +kernel
theorem dX9_count_100 : decode cX9_count 100 = .ok (.iconst (-1), 1) := by decide +kernel
theorem dX9_count_101 : decode cX9_count 101 = .ok (.ireturn, 1) := by decide +kernel
def f_X9_count (N : Nat) (now_rail : Nat → Int32) (now_mood : Nat → Int32) (now_shut : Int32) (now_people : Int32) (now_needed : Int32) (now_day : Int32) (p1 : Int32) : Option (Int32) := if p1 = (0 : Int32) then some now_people else if p1 = (1 : Int32) then some now_day else if p1 = (2 : Int32) then some now_needed else if p1 = (3 : Int32) then ob (f_X8_heardOnes N now_rail now_shut now_people) (fun r5 => some r5) else if p1 = (4 : Int32) then ob (f_X8_onesFor N now_mood now_people) (fun r8 => some r8) else if p1 = (5 : Int32) then ob (f_X8_onesAgainst N now_mood now_people) (fun r11 => some r11) else if p1 = (6 : Int32) then some now_shut else some (-1 : Int32)
set_option maxHeartbeats 4000000 in
set_option maxRecDepth 100000 in
theorem c_X9_count (l : Launch) (E : EE) (b_h : Nat) (now_h : Nat) (mind_h : Nat) (kept_h : Nat) (rails_h : Nat) (sa_h : Nat) (now_a0 : Nat) (now_a1 : Nat) (now_a2 : Nat) (now_a3 : Nat) (now_a4 : Nat) (now_a5 : Nat) (b_img : Int32) (now_height : Nat → Int32) (now_kind : Nat → Int32) (now_figure : Nat → Int32) (now_rail : Nat → Int32) (now_mood : Nat → Int32) (now_sight : Nat → Int32) (now_moving : Int32) (now_shut : Int32) (now_people : Int32) (now_needed : Int32) (now_day : Int32) (p1 : Int32) (N : Nat) (res : Int32) (hv : f_X9_count N now_rail now_mood now_shut now_people now_needed now_day p1 = some res) : Rd l E yX9_count cX9_count 2 (some .int) ({ frames := 3, cells := 0, slots := 0, locals := 64 }) [.ref b_h, .int p1] [oBp b_h now_h mind_h kept_h b_img rails_h sa_h, oSt now_h now_a0 now_a1 now_a2 now_a3 now_a4 now_a5 now_moving now_shut now_people now_needed now_day, ai E now_a0 10 now_height, ai E now_a1 7 now_kind, ai E now_a2 7 now_figure, ai E now_a3 7 now_rail, ai E now_a4 7 now_mood, ai E now_a5 7 now_sight] (some (.int res)) := by
  refine Rd.intro RX9 (by decide) rfl (Nat.le_of_ble_eq_true rfl) ?_
  intro p e s m below meth c ls hC hr hlk hP hG hl
  obtain ⟨hx, hb, hml, hown, ht⟩ := id hC
  have hK := hG.1
  have hl : lv_has ls 2 [(0, .ref b_h), (1, .int p1)] := hl
  rw [f_X9_count] at hv
  refine lv_iload_n hx hb dX9_count_0 rfl (lv_at hl 1 rfl) ?_
  rcases Decidable.em (p1 = (0 : Int32)) with c1 | c1
  · have hv := if_y c1 hv
    refine lv_tableIn (tgt := 44) (off := 43) hx hb dX9_count_1 (by rw [c1]; decide) (by rw [c1]; decide) (by rw [c1]; rfl) (by decide) ?_
    refine lv_aload_n hx hb dX9_count_44 rfl (lv_at hl 0 rfl) ?_
    refine va_get (D := E.1) (ci := 3) (v := .ref now_h) (C := RX9) (T := TX9) (N := 6) hx hb ht i_X9 hown hK hP 0 rfl rfl 0 (by decide) (ht _ kw_1_138) (fun _ h9 => h9) rfl dX9_count_45 ?_
    refine va_get (D := E.1) (ci := 2) (v := .int now_people) (C := RX8) (T := TX8) (N := 11) hx hb ht i_X8 hown hK hP 1 rfl rfl 8 (by decide) (ht _ kw_1_54) (fun _ h9 => h9) rfl dX9_count_48 ?_
    exact W.iret (v := now_people) hx hb hr (fun t h9 _ => ⟨rv_i hv, h9⟩) (fun q h => absurd h List.not_mem_nil) dX9_count_51 hlk
  · have hv := if_n c1 hv
    rcases Decidable.em (p1 = (1 : Int32)) with c2 | c2
    · have hv := if_y c2 hv
      refine lv_tableIn (tgt := 52) (off := 51) hx hb dX9_count_1 (by rw [c2]; decide) (by rw [c2]; decide) (by rw [c2]; rfl) (by decide) ?_
      refine lv_aload_n hx hb dX9_count_52 rfl (lv_at hl 0 rfl) ?_
      refine va_get (D := E.1) (ci := 3) (v := .ref now_h) (C := RX9) (T := TX9) (N := 6) hx hb ht i_X9 hown hK hP 0 rfl rfl 0 (by decide) (ht _ kw_1_138) (fun _ h9 => h9) rfl dX9_count_53 ?_
      refine va_get (D := E.1) (ci := 2) (v := .int now_day) (C := RX8) (T := TX8) (N := 11) hx hb ht i_X8 hown hK hP 1 rfl rfl 10 (by decide) (ht _ kw_1_61) (fun _ h9 => h9) rfl dX9_count_56 ?_
      exact W.iret (v := now_day) hx hb hr (fun t h9 _ => ⟨rv_i hv, h9⟩) (fun q h => absurd h List.not_mem_nil) dX9_count_59 hlk
    · have hv := if_n c2 hv
      rcases Decidable.em (p1 = (2 : Int32)) with c3 | c3
      · have hv := if_y c3 hv
        refine lv_tableIn (tgt := 60) (off := 59) hx hb dX9_count_1 (by rw [c3]; decide) (by rw [c3]; decide) (by rw [c3]; rfl) (by decide) ?_
        refine lv_aload_n hx hb dX9_count_60 rfl (lv_at hl 0 rfl) ?_
        refine va_get (D := E.1) (ci := 3) (v := .ref now_h) (C := RX9) (T := TX9) (N := 6) hx hb ht i_X9 hown hK hP 0 rfl rfl 0 (by decide) (ht _ kw_1_138) (fun _ h9 => h9) rfl dX9_count_61 ?_
        refine va_get (D := E.1) (ci := 2) (v := .int now_needed) (C := RX8) (T := TX8) (N := 11) hx hb ht i_X8 hown hK hP 1 rfl rfl 9 (by decide) (ht _ kw_1_59) (fun _ h9 => h9) rfl dX9_count_64 ?_
        exact W.iret (v := now_needed) hx hb hr (fun t h9 _ => ⟨rv_i hv, h9⟩) (fun q h => absurd h List.not_mem_nil) dX9_count_67 hlk
      · have hv := if_n c3 hv
        rcases Decidable.em (p1 = (3 : Int32)) with c4 | c4
        · have hv := if_y c4 hv
          refine lv_tableIn (tgt := 68) (off := 67) hx hb dX9_count_1 (by rw [c4]; decide) (by rw [c4]; decide) (by rw [c4]; rfl) (by decide) ?_
          refine lv_aload_n hx hb dX9_count_68 rfl (lv_at hl 0 rfl) ?_
          refine va_get (D := E.1) (ci := 3) (v := .ref now_h) (C := RX9) (T := TX9) (N := 6) hx hb ht i_X9 hown hK hP 0 rfl rfl 0 (by decide) (ht _ kw_1_138) (fun _ h9 => h9) rfl dX9_count_69 ?_
          obtain ⟨r5, h6, hv⟩ := ob_s hv
          refine rdV 2 0 (As := []) (rest := []) (st1 := [.int r5]) (w := [oSt now_h now_a0 now_a1 now_a2 now_a3 now_a4 now_a5 now_moving now_shut now_people now_needed now_day, ai E now_a0 10 now_height, ai E now_a1 7 now_kind, ai E now_a2 7 now_figure, ai E now_a3 7 now_rail, ai E now_a4 7 now_mood, ai E now_a5 7 now_sight]) hC q_X8_heardOnes kw_2_146 (c_X8_heardOnes l E now_h now_a0 now_a1 now_a2 now_a3 now_a4 now_a5 now_height now_kind now_figure now_rail now_mood now_sight now_moving now_shut now_people now_needed now_day N r5 h6) ⟨rfl, rfl⟩ ⟨Nat.le_of_ble_eq_true rfl, Nat.le_of_ble_eq_true rfl⟩ ⟨Nat.zero_le _, Nat.zero_le _⟩ (hP.sub (ws' := [oSt now_h now_a0 now_a1 now_a2 now_a3 now_a4 now_a5 now_moving now_shut now_people now_needed now_day, ai E now_a0 10 now_height, ai E now_a1 7 now_kind, ai E now_a2 7 now_figure, ai E now_a3 7 now_rail, ai E now_a4 7 now_mood, ai E now_a5 7 now_sight]) [1, 2, 3, 4, 5, 6, 7] rfl) rfl rfl rfl hG rfl hl.1 rfl (Nat.le_of_ble_eq_true rfl) dX9_count_72 rfl ?_
          exact W.iret (v := r5) hx hb hr (fun t h9 _ => ⟨rv_i hv, h9⟩) (fun q h => absurd h List.not_mem_nil) dX9_count_75 hlk
        · have hv := if_n c4 hv
          rcases Decidable.em (p1 = (4 : Int32)) with c7 | c7
          · have hv := if_y c7 hv
            refine lv_tableIn (tgt := 76) (off := 75) hx hb dX9_count_1 (by rw [c7]; decide) (by rw [c7]; decide) (by rw [c7]; rfl) (by decide) ?_
            refine lv_aload_n hx hb dX9_count_76 rfl (lv_at hl 0 rfl) ?_
            refine va_get (D := E.1) (ci := 3) (v := .ref now_h) (C := RX9) (T := TX9) (N := 6) hx hb ht i_X9 hown hK hP 0 rfl rfl 0 (by decide) (ht _ kw_1_138) (fun _ h9 => h9) rfl dX9_count_77 ?_
            obtain ⟨r8, h9, hv⟩ := ob_s hv
            refine rdV 2 0 (As := []) (rest := []) (st1 := [.int r8]) (w := [oSt now_h now_a0 now_a1 now_a2 now_a3 now_a4 now_a5 now_moving now_shut now_people now_needed now_day, ai E now_a0 10 now_height, ai E now_a1 7 now_kind, ai E now_a2 7 now_figure, ai E now_a3 7 now_rail, ai E now_a4 7 now_mood, ai E now_a5 7 now_sight]) hC q_X8_onesFor kw_3_191 (c_X8_onesFor l E now_h now_a0 now_a1 now_a2 now_a3 now_a4 now_a5 now_height now_kind now_figure now_rail now_mood now_sight now_moving now_shut now_people now_needed now_day N r8 h9) ⟨rfl, rfl⟩ ⟨Nat.le_of_ble_eq_true rfl, Nat.le_of_ble_eq_true rfl⟩ ⟨Nat.zero_le _, Nat.zero_le _⟩ (hP.sub (ws' := [oSt now_h now_a0 now_a1 now_a2 now_a3 now_a4 now_a5 now_moving now_shut now_people now_needed now_day, ai E now_a0 10 now_height, ai E now_a1 7 now_kind, ai E now_a2 7 now_figure, ai E now_a3 7 now_rail, ai E now_a4 7 now_mood, ai E now_a5 7 now_sight]) [1, 2, 3, 4, 5, 6, 7] rfl) rfl rfl rfl hG rfl hl.1 rfl (Nat.le_of_ble_eq_true rfl) dX9_count_80 rfl ?_
            exact W.iret (v := r8) hx hb hr (fun t h9 _ => ⟨rv_i hv, h9⟩) (fun q h => absurd h List.not_mem_nil) dX9_count_83 hlk
          · have hv := if_n c7 hv
            rcases Decidable.em (p1 = (5 : Int32)) with c10 | c10
            · have hv := if_y c10 hv
              refine lv_tableIn (tgt := 84) (off := 83) hx hb dX9_count_1 (by rw [c10]; decide) (by rw [c10]; decide) (by rw [c10]; rfl) (by decide) ?_
              refine lv_aload_n hx hb dX9_count_84 rfl (lv_at hl 0 rfl) ?_
              refine va_get (D := E.1) (ci := 3) (v := .ref now_h) (C := RX9) (T := TX9) (N := 6) hx hb ht i_X9 hown hK hP 0 rfl rfl 0 (by decide) (ht _ kw_1_138) (fun _ h9 => h9) rfl dX9_count_85 ?_
              obtain ⟨r11, h12, hv⟩ := ob_s hv
              refine rdV 2 0 (As := []) (rest := []) (st1 := [.int r11]) (w := [oSt now_h now_a0 now_a1 now_a2 now_a3 now_a4 now_a5 now_moving now_shut now_people now_needed now_day, ai E now_a0 10 now_height, ai E now_a1 7 now_kind, ai E now_a2 7 now_figure, ai E now_a3 7 now_rail, ai E now_a4 7 now_mood, ai E now_a5 7 now_sight]) hC q_X8_onesAgainst kw_3_192 (c_X8_onesAgainst l E now_h now_a0 now_a1 now_a2 now_a3 now_a4 now_a5 now_height now_kind now_figure now_rail now_mood now_sight now_moving now_shut now_people now_needed now_day N r11 h12) ⟨rfl, rfl⟩ ⟨Nat.le_of_ble_eq_true rfl, Nat.le_of_ble_eq_true rfl⟩ ⟨Nat.zero_le _, Nat.zero_le _⟩ (hP.sub (ws' := [oSt now_h now_a0 now_a1 now_a2 now_a3 now_a4 now_a5 now_moving now_shut now_people now_needed now_day, ai E now_a0 10 now_height, ai E now_a1 7 now_kind, ai E now_a2 7 now_figure, ai E now_a3 7 now_rail, ai E now_a4 7 now_mood, ai E now_a5 7 now_sight]) [1, 2, 3, 4, 5, 6, 7] rfl) rfl rfl rfl hG rfl hl.1 rfl (Nat.le_of_ble_eq_true rfl) dX9_count_88 rfl ?_
              exact W.iret (v := r11) hx hb hr (fun t h9 _ => ⟨rv_i hv, h9⟩) (fun q h => absurd h List.not_mem_nil) dX9_count_91 hlk
            · have hv := if_n c10 hv
              rcases Decidable.em (p1 = (6 : Int32)) with c13 | c13
              · have hv := if_y c13 hv
                refine lv_tableIn (tgt := 92) (off := 91) hx hb dX9_count_1 (by rw [c13]; decide) (by rw [c13]; decide) (by rw [c13]; rfl) (by decide) ?_
                refine lv_aload_n hx hb dX9_count_92 rfl (lv_at hl 0 rfl) ?_
                refine va_get (D := E.1) (ci := 3) (v := .ref now_h) (C := RX9) (T := TX9) (N := 6) hx hb ht i_X9 hown hK hP 0 rfl rfl 0 (by decide) (ht _ kw_1_138) (fun _ h9 => h9) rfl dX9_count_93 ?_
                refine va_get (D := E.1) (ci := 2) (v := .int now_shut) (C := RX8) (T := TX8) (N := 11) hx hb ht i_X8 hown hK hP 1 rfl rfl 7 (by decide) (ht _ kw_1_51) (fun _ h9 => h9) rfl dX9_count_96 ?_
                exact W.iret (v := now_shut) hx hb hr (fun t h9 _ => ⟨rv_i hv, h9⟩) (fun q h => absurd h List.not_mem_nil) dX9_count_99 hlk
              · have hv := if_n c13 hv
                refine lv_tableD (tgt := 100) hx hb dX9_count_1 (fun i h => match i, h with | 0, _ => Or.inr (lv_neT c1 (by decide)) | 1, _ => Or.inr (lv_neT c2 (by decide)) | 2, _ => Or.inr (lv_neT c3 (by decide)) | 3, _ => Or.inr (lv_neT c4 (by decide)) | 4, _ => Or.inr (lv_neT c7 (by decide)) | 5, _ => Or.inr (lv_neT c10 (by decide)) | 6, _ => Or.inr (lv_neT c13 (by decide)) | i + 7, h => absurd h (by simp)) rfl (by decide) ?_
                refine lv_iconst (v := (-1 : Int32)) hx hb dX9_count_100 (by decide) ?_
                exact W.iret (v := (-1 : Int32)) hx hb hr (fun t h9 _ => ⟨rv_i hv, h9⟩) (fun q h => absurd h List.not_mem_nil) dX9_count_101 hlk
