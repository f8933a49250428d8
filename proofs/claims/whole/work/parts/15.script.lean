theorem dX6_tryHeight_0 : decode cX6_tryHeight 0 = .ok (.iload_n 1, 1) := by decide +kernel
theorem dX6_tryHeight_1 : decode cX6_tryHeight 1 = .ok (.invokestatic 57, 3) := by decide +kernel
theorem dX6_tryHeight_4 : decode cX6_tryHeight 4 = .ok (.ifCond .eq 13, 3) := by decide +kernel
theorem dX6_tryHeight_7 : decode cX6_tryHeight 7 = .ok (.iload_n 2, 1) := by decide +kernel
theorem dX6_tryHeight_8 : decode cX6_tryHeight 8 = .ok (.iconst 0, 1) := by decide +kernel
theorem dX6_tryHeight_9 : decode cX6_tryHeight 9 = .ok (.bipush 7, 2) := by decide +kernel
theorem dX6_tryHeight_11 : decode cX6_tryHeight 11 = .ok (.invokestatic 32, 3) := by decide +kernel
theorem dX6_tryHeight_14 : decode cX6_tryHeight 14 = .ok (.ifCond .ne 5, 3) := by decide +kernel
theorem dX6_tryHeight_17 : decode cX6_tryHeight 17 = .ok (.iconst 0, 1) := by decide +kernel
theorem dX6_tryHeight_18 : decode cX6_tryHeight 18 = .ok (.ireturn, 1) := by decide +kernel
theorem dX6_tryHeight_19 : decode cX6_tryHeight 19 = .ok (.aload_n 0, 1) := by decide +kernel
theorem dX6_tryHeight_20 : decode cX6_tryHeight 20 = .ok (.getfield 61, 3) := by decide +kernel
theorem dX6_tryHeight_23 : decode cX6_tryHeight 23 = .ok (.iload_n 1, 1) := by decide +kernel
theorem dX6_tryHeight_24 : decode cX6_tryHeight 24 = .ok (.iload_n 2, 1) := by decide +kernel
theorem dX6_tryHeight_25 : decode cX6_tryHeight 25 = .ok (.iastore, 1) := by decide +kernel
theorem dX6_tryHeight_26 : decode cX6_tryHeight 26 = .ok (.iconst 1, 1) := by decide +kernel
theorem dX6_tryHeight_27 : decode cX6_tryHeight 27 = .ok (.ireturn, 1) := by decide +kernel
def f_X6_tryHeight (a_height : Nat → Int32) (p1 : Int32) (p2 : Int32) : Option (Int32 × (Nat → Int32)) := ob (f_X9_isBalcony p1) (fun r1 => if r1 = 0 then nm (0 : Int32) (fun z4 => some (z4, a_height)) else ob (f_X9_isWithin p2 (0 : Int32) (7 : Int32)) (fun r5 => if r5 = 0 then nm (0 : Int32) (fun z11 => some (z11, a_height)) else gd (ix p1 10) (nm (upd a_height p1.toNatClampNeg p2) (fun f9 => nm (1 : Int32) (fun z10 => some (z10, f9))))))
set_option maxHeartbeats 4000000 in
set_option maxRecDepth 100000 in
theorem c_X6_tryHeight (l : Launch) (E : EE) (a_h : Nat) (a_a0 : Nat) (a_a1 : Nat) (a_a2 : Nat) (a_a3 : Nat) (a_a4 : Nat) (a_a5 : Nat) (a_height : Nat → Int32) (a_kind : Nat → Int32) (a_figure : Nat → Int32) (a_rail : Nat → Int32) (a_mood : Nat → Int32) (a_sight : Nat → Int32) (a_moving : Int32) (a_shut : Int32) (a_people : Int32) (a_needed : Int32) (a_day : Int32) (p1 : Int32) (p2 : Int32) (res : Int32) (w_a_height : Nat → Int32) (hv : f_X6_tryHeight a_height p1 p2 = some (res, w_a_height)) : Wr l E yX6_tryHeight cX6_tryHeight 3 (some .boolean) ({ frames := 2, cells := 0, slots := 0, locals := 42 }) [.ref a_h, .int p1, .int p2] [oSt a_h a_a0 a_a1 a_a2 a_a3 a_a4 a_a5 a_moving a_shut a_people a_needed a_day, ai E a_a0 10 a_height, ai E a_a1 7 a_kind, ai E a_a2 7 a_figure, ai E a_a3 7 a_rail, ai E a_a4 7 a_mood, ai E a_a5 7 a_sight] [oSt a_h a_a0 a_a1 a_a2 a_a3 a_a4 a_a5 a_moving a_shut a_people a_needed a_day, ai E a_a0 10 w_a_height, ai E a_a1 7 a_kind, ai E a_a2 7 a_figure, ai E a_a3 7 a_rail, ai E a_a4 7 a_mood, ai E a_a5 7 a_sight] (some (.int res)) := by
  refine Wr.intro RX6 (by decide) rfl (Nat.le_of_ble_eq_true rfl) ?_
  intro p e s m below meth c ls A hC hr hlk hmn hP hD hS hA hG hl
  obtain ⟨hx, hb, hml, hown, ht⟩ := id hC
  have hK := hG.1
  have hl : lv_has ls 3 [(0, .ref a_h), (1, .int p1), (2, .int p2)] := hl
  rw [f_X6_tryHeight] at hv
  refine lv_iload_n hx hb dX6_tryHeight_0 rfl (lv_at hl 1 rfl) ?_
  obtain ⟨r1, h2, hv⟩ := ob_s hv
  refine rdSN (rest := []) (st1 := [.int r1]) (w := []) hC q_X9_isBalcony (List.mem_of_getElem? (i := 3) rfl) (c_X9_isBalcony l E p1 r1 h2) ⟨rfl, rfl⟩ ⟨Nat.le_of_ble_eq_true rfl, Nat.le_of_ble_eq_true rfl⟩ ⟨Nat.zero_le _, Nat.zero_le _⟩ (hP.sub (ws' := []) [] rfl) hG rfl hl.1 rfl (Nat.le_of_ble_eq_true rfl) dX6_tryHeight_1 rfl ?_
  refine lv_if_eq (tgt := 17) hx hb dX6_tryHeight_4 (by decide) (fun c3 => ?_) (fun c3 => ?_)
  · have hv := if_y c3 hv
    refine lv_iconst (v := (0 : Int32)) hx hb dX6_tryHeight_17 (by decide) ?_
    refine lv_topi (fun z4 ez4 => ?_)
    have hv := nm_s ez4 hv
    have hn9 : narrow .boolean (.int z4) = .int z4 := (by rw [ez4]; rfl)
    cases hv
    exact W.zret hx hb hr hn9 (fun t h9 _ => ⟨rfl, by rw [h9]; exact hP, hS.F h9⟩) hS.2.2 dX6_tryHeight_18 hlk
  · have hv := if_n c3 hv
    refine lv_iload_n hx hb dX6_tryHeight_7 rfl (lv_at hl 2 rfl) ?_
    refine lv_iconst (v := (0 : Int32)) hx hb dX6_tryHeight_8 (by decide) ?_
    refine lv_bipush (v := (7 : Int32)) hx hb dX6_tryHeight_9 (by decide) ?_
    obtain ⟨r5, h6, hv⟩ := ob_s hv
    refine rdSN (rest := []) (st1 := [.int r5]) (w := []) hC q_X9_isWithin (List.mem_of_getElem? (i := 2) rfl) (c_X9_isWithin l E p2 (0 : Int32) (7 : Int32) r5 h6) ⟨rfl, rfl⟩ ⟨Nat.le_of_ble_eq_true rfl, Nat.le_of_ble_eq_true rfl⟩ ⟨Nat.zero_le _, Nat.zero_le _⟩ (hP.sub (ws' := []) [] rfl) hG rfl hl.1 rfl (Nat.le_of_ble_eq_true rfl) dX6_tryHeight_11 rfl ?_
    refine lv_if_ne (tgt := 19) hx hb dX6_tryHeight_14 (by decide) (fun c7 => ?_) (fun c7 => ?_)
    · have hv := if_n c7 hv
      refine lv_aload_n hx hb dX6_tryHeight_19 rfl (lv_at hl 0 rfl) ?_
      refine va_get (D := E.1) (ci := 2) (v := .ref a_a0) (C := RX8) (T := TX8) (N := 11) hx hb ht i_X8 hown hK hP 0 rfl rfl 0 (by decide) (ht _ kw_1_38) (fun _ h9 => h9) rfl dX6_tryHeight_20 ?_
      refine lv_iload_n hx hb dX6_tryHeight_23 rfl (lv_at hl 1 rfl) ?_
      refine lv_iload_n hx hb dX6_tryHeight_24 rfl (lv_at hl 2 rfl) ?_
      obtain ⟨g8, hv⟩ := gd_s hv
      refine va_iast hx hb hK hP hD hS 1 0 rfl rfl (ix_s g8) dX6_tryHeight_25 (fun H locs hP hD hS => ?_)
      have hP : va_P E.1 vwCl [oSt a_h a_a0 a_a1 a_a2 a_a3 a_a4 a_a5 a_moving a_shut a_people a_needed a_day, ai E a_a0 10 (upd a_height p1.toNatClampNeg p2), ai E a_a1 7 a_kind, ai E a_a2 7 a_figure, ai E a_a3 7 a_rail, ai E a_a4 7 a_mood, ai E a_a5 7 a_sight] H := hP
      have hD : va_D A [oSt a_h a_a0 a_a1 a_a2 a_a3 a_a4 a_a5 a_moving a_shut a_people a_needed a_day, ai E a_a0 10 (upd a_height p1.toNatClampNeg p2), ai E a_a1 7 a_kind, ai E a_a2 7 a_figure, ai E a_a3 7 a_rail, ai E a_a4 7 a_mood, ai E a_a5 7 a_sight] := hD
      obtain ⟨f9, ef9⟩ : ∃ z, z = (upd a_height p1.toNatClampNeg p2) := ⟨_, rfl⟩
      rw [← ef9] at hP hD
      have hv := nm_s ef9 hv
      refine lv_iconst (v := (1 : Int32)) hx hb dX6_tryHeight_26 (by decide) ?_
      refine lv_topi (fun z10 ez10 => ?_)
      have hv := nm_s ez10 hv
      have hn9 : narrow .boolean (.int z10) = .int z10 := (by rw [ez10]; rfl)
      cases hv
      exact W.zret hx hb hr hn9 (fun t h9 _ => ⟨rfl, by rw [h9]; exact hP, hS.F h9⟩) hS.2.2 dX6_tryHeight_27 hlk
    · have hv := if_y c7 hv
      refine lv_iconst (v := (0 : Int32)) hx hb dX6_tryHeight_17 (by decide) ?_
      refine lv_topi (fun z11 ez11 => ?_)
      have hv := nm_s ez11 hv
      have hn9 : narrow .boolean (.int z11) = .int z11 := (by rw [ez11]; rfl)
      cases hv
      exact W.zret hx hb hr hn9 (fun t h9 _ => ⟨rfl, by rw [h9]; exact hP, hS.F h9⟩) hS.2.2 dX6_tryHeight_18 hlk
theorem dX6_tryToAdmit_0 : decode cX6_tryToAdmit 0 = .ok (.iload_n 1, 1) := by decide +kernel
theorem dX6_tryToAdmit_1 : decode cX6_tryToAdmit 1 = .ok (.iconst 0, 1) := by decide +kernel
theorem dX6_tryToAdmit_2 : decode cX6_tryToAdmit 2 = .ok (.bipush 7, 2) := by decide +kernel
theorem dX6_tryToAdmit_4 : decode cX6_tryToAdmit 4 = .ok (.invokestatic 32, 3) := by decide +kernel
theorem dX6_tryToAdmit_7 : decode cX6_tryToAdmit 7 = .ok (.ifCond .eq 17, 3) := by decide +kernel
theorem dX6_tryToAdmit_10 : decode cX6_tryToAdmit 10 = .ok (.iload_n 3, 1) := by decide +kernel
theorem dX6_tryToAdmit_11 : decode cX6_tryToAdmit 11 = .ok (.invokestatic 57, 3) := by decide +kernel
theorem dX6_tryToAdmit_14 : decode cX6_tryToAdmit 14 = .ok (.ifCond .eq 10, 3) := by decide +kernel
theorem dX6_tryToAdmit_17 : decode cX6_tryToAdmit 17 = .ok (.aload_n 0, 1) := by decide +kernel
theorem dX6_tryToAdmit_18 : decode cX6_tryToAdmit 18 = .ok (.invokevirtual 67, 3) := by decide +kernel
theorem dX6_tryToAdmit_21 : decode cX6_tryToAdmit 21 = .ok (.ifCond .ne 5, 3) := by decide +kernel
theorem dX6_tryToAdmit_24 : decode cX6_tryToAdmit 24 = .ok (.iconst 0, 1) := by decide +kernel
theorem dX6_tryToAdmit_25 : decode cX6_tryToAdmit 25 = .ok (.ireturn, 1) := by decide +kernel
theorem dX6_tryToAdmit_26 : decode cX6_tryToAdmit 26 = .ok (.aload_n 0, 1) := by decide +kernel
theorem dX6_tryToAdmit_27 : decode cX6_tryToAdmit 27 = .ok (.iload_n 1, 1) := by decide +kernel
theorem dX6_tryToAdmit_28 : decode cX6_tryToAdmit 28 = .ok (.iload_n 2, 1) := by decide +kernel
theorem dX6_tryToAdmit_29 : decode cX6_tryToAdmit 29 = .ok (.iload_n 3, 1) := by decide +kernel
theorem dX6_tryToAdmit_30 : decode cX6_tryToAdmit 30 = .ok (.invokevirtual 71, 3) := by decide +kernel
theorem dX6_tryToAdmit_33 : decode cX6_tryToAdmit 33 = .ok (.iconst 1, 1) := by decide +kernel
theorem dX6_tryToAdmit_34 : decode cX6_tryToAdmit 34 = .ok (.ireturn, 1) := by decide +kernel
def f_X6_tryToAdmit (a_kind : Nat → Int32) (a_figure : Nat → Int32) (a_rail : Nat → Int32) (a_mood : Nat → Int32) (a_people : Int32) (p1 : Int32) (p2 : Int32) (p3 : Int32) : Option (Int32 × Int32 × (Nat → Int32) × (Nat → Int32) × (Nat → Int32) × (Nat → Int32)) := ob (f_X9_isWithin p1 (0 : Int32) (7 : Int32)) (fun r1 => if r1 = 0 then nm (0 : Int32) (fun z4 => some (z4, a_people, a_kind, a_figure, a_rail, a_mood)) else ob (f_X9_isBalcony p3) (fun r5 => if r5 = 0 then nm (0 : Int32) (fun z8 => some (z8, a_people, a_kind, a_figure, a_rail, a_mood)) else ob (f_X8_hasRoom a_people) (fun r9 => if r9 = 0 then nm (0 : Int32) (fun z19 => some (z19, a_people, a_kind, a_figure, a_rail, a_mood)) else ob (f_X8_admit a_kind a_figure a_rail a_mood a_people p1 p2 p3) (fun (y12, y13, y14, y15, y16) => nm (1 : Int32) (fun z18 => some (z18, y12, y13, y14, y15, y16))))))
set_option maxHeartbeats 4000000 in
set_option maxRecDepth 100000 in
theorem c_X6_tryToAdmit (l : Launch) (E : EE) (a_h : Nat) (a_a0 : Nat) (a_a1 : Nat) (a_a2 : Nat) (a_a3 : Nat) (a_a4 : Nat) (a_a5 : Nat) (a_height : Nat → Int32) (a_kind : Nat → Int32) (a_figure : Nat → Int32) (a_rail : Nat → Int32) (a_mood : Nat → Int32) (a_sight : Nat → Int32) (a_moving : Int32) (a_shut : Int32) (a_people : Int32) (a_needed : Int32) (a_day : Int32) (p1 : Int32) (p2 : Int32) (p3 : Int32) (res : Int32) (w_a_people : Int32) (w_a_kind : Nat → Int32) (w_a_figure : Nat → Int32) (w_a_rail : Nat → Int32) (w_a_mood : Nat → Int32) (hv : f_X6_tryToAdmit a_kind a_figure a_rail a_mood a_people p1 p2 p3 = some (res, w_a_people, w_a_kind, w_a_figure, w_a_rail, w_a_mood)) : Wr l E yX6_tryToAdmit cX6_tryToAdmit 4 (some .boolean) ({ frames := 2, cells := 0, slots := 0, locals := 43 }) [.ref a_h, .int p1, .int p2, .int p3] [oSt a_h a_a0 a_a1 a_a2 a_a3 a_a4 a_a5 a_moving a_shut a_people a_needed a_day, ai E a_a0 10 a_height, ai E a_a1 7 a_kind, ai E a_a2 7 a_figure, ai E a_a3 7 a_rail, ai E a_a4 7 a_mood, ai E a_a5 7 a_sight] [oSt a_h a_a0 a_a1 a_a2 a_a3 a_a4 a_a5 a_moving a_shut w_a_people a_needed a_day, ai E a_a0 10 a_height, ai E a_a1 7 w_a_kind, ai E a_a2 7 w_a_figure, ai E a_a3 7 w_a_rail, ai E a_a4 7 w_a_mood, ai E a_a5 7 a_sight] (some (.int res)) := by
  refine Wr.intro RX6 (by decide) rfl (Nat.le_of_ble_eq_true rfl) ?_
  intro p e s m below meth c ls A hC hr hlk hmn hP hD hS hA hG hl
  obtain ⟨hx, hb, hml, hown, ht⟩ := id hC
  have hK := hG.1
  have hl : lv_has ls 4 [(0, .ref a_h), (1, .int p1), (2, .int p2), (3, .int p3)] := hl
  rw [f_X6_tryToAdmit] at hv
  refine lv_iload_n hx hb dX6_tryToAdmit_0 rfl (lv_at hl 1 rfl) ?_
  refine lv_iconst (v := (0 : Int32)) hx hb dX6_tryToAdmit_1 (by decide) ?_
  refine lv_bipush (v := (7 : Int32)) hx hb dX6_tryToAdmit_2 (by decide) ?_
  obtain ⟨r1, h2, hv⟩ := ob_s hv
  refine rdSN (rest := []) (st1 := [.int r1]) (w := []) hC q_X9_isWithin (List.mem_of_getElem? (i := 2) rfl) (c_X9_isWithin l E p1 (0 : Int32) (7 : Int32) r1 h2) ⟨rfl, rfl⟩ ⟨Nat.le_of_ble_eq_true rfl, Nat.le_of_ble_eq_true rfl⟩ ⟨Nat.zero_le _, Nat.zero_le _⟩ (hP.sub (ws' := []) [] rfl) hG rfl hl.1 rfl (Nat.le_of_ble_eq_true rfl) dX6_tryToAdmit_4 rfl ?_
  refine lv_if_eq (tgt := 24) hx hb dX6_tryToAdmit_7 (by decide) (fun c3 => ?_) (fun c3 => ?_)
  · have hv := if_y c3 hv
    refine lv_iconst (v := (0 : Int32)) hx hb dX6_tryToAdmit_24 (by decide) ?_
    refine lv_topi (fun z4 ez4 => ?_)
    have hv := nm_s ez4 hv
    have hn9 : narrow .boolean (.int z4) = .int z4 := (by rw [ez4]; rfl)
    cases hv
    exact W.zret hx hb hr hn9 (fun t h9 _ => ⟨rfl, by rw [h9]; exact hP, hS.F h9⟩) hS.2.2 dX6_tryToAdmit_25 hlk
  · have hv := if_n c3 hv
    refine lv_iload_n hx hb dX6_tryToAdmit_10 rfl (lv_at hl 3 rfl) ?_
    obtain ⟨r5, h6, hv⟩ := ob_s hv
    refine rdSN (rest := []) (st1 := [.int r5]) (w := []) hC q_X9_isBalcony (List.mem_of_getElem? (i := 3) rfl) (c_X9_isBalcony l E p3 r5 h6) ⟨rfl, rfl⟩ ⟨Nat.le_of_ble_eq_true rfl, Nat.le_of_ble_eq_true rfl⟩ ⟨Nat.zero_le _, Nat.zero_le _⟩ (hP.sub (ws' := []) [] rfl) hG rfl hl.1 rfl (Nat.le_of_ble_eq_true rfl) dX6_tryToAdmit_11 rfl ?_
    refine lv_if_eq (tgt := 24) hx hb dX6_tryToAdmit_14 (by decide) (fun c7 => ?_) (fun c7 => ?_)
    · have hv := if_y c7 hv
      refine lv_iconst (v := (0 : Int32)) hx hb dX6_tryToAdmit_24 (by decide) ?_
      refine lv_topi (fun z8 ez8 => ?_)
      have hv := nm_s ez8 hv
      have hn9 : narrow .boolean (.int z8) = .int z8 := (by rw [ez8]; rfl)
      cases hv
      exact W.zret hx hb hr hn9 (fun t h9 _ => ⟨rfl, by rw [h9]; exact hP, hS.F h9⟩) hS.2.2 dX6_tryToAdmit_25 hlk
    · have hv := if_n c7 hv
      refine lv_aload_n hx hb dX6_tryToAdmit_17 rfl (lv_at hl 0 rfl) ?_
      obtain ⟨r9, h10, hv⟩ := ob_s hv
      refine rdV 2 0 (As := []) (rest := []) (st1 := [.int r9]) (w := [oSt a_h a_a0 a_a1 a_a2 a_a3 a_a4 a_a5 a_moving a_shut a_people a_needed a_day, ai E a_a0 10 a_height, ai E a_a1 7 a_kind, ai E a_a2 7 a_figure, ai E a_a3 7 a_rail, ai E a_a4 7 a_mood, ai E a_a5 7 a_sight]) hC q_X8_hasRoom kw_1_208 (c_X8_hasRoom l E a_h a_a0 a_a1 a_a2 a_a3 a_a4 a_a5 a_height a_kind a_figure a_rail a_mood a_sight a_moving a_shut a_people a_needed a_day r9 h10) ⟨rfl, rfl⟩ ⟨Nat.le_of_ble_eq_true rfl, Nat.le_of_ble_eq_true rfl⟩ ⟨Nat.zero_le _, Nat.zero_le _⟩ hP rfl rfl rfl hG rfl hl.1 rfl (Nat.le_of_ble_eq_true rfl) dX6_tryToAdmit_18 rfl ?_
      refine lv_if_ne (tgt := 26) hx hb dX6_tryToAdmit_21 (by decide) (fun c11 => ?_) (fun c11 => ?_)
      · have hv := if_n c11 hv
        refine lv_aload_n hx hb dX6_tryToAdmit_26 rfl (lv_at hl 0 rfl) ?_
        refine lv_iload_n hx hb dX6_tryToAdmit_27 rfl (lv_at hl 1 rfl) ?_
        refine lv_iload_n hx hb dX6_tryToAdmit_28 rfl (lv_at hl 2 rfl) ?_
        refine lv_iload_n hx hb dX6_tryToAdmit_29 rfl (lv_at hl 3 rfl) ?_
        obtain ⟨⟨y12, y13, y14, y15, y16⟩, h17, hv⟩ := ob_s hv
        refine wrV (as := [a_h, a_a0, a_a1, a_a2, a_a3, a_a4, a_a5]) (wr := []) [0, 1, 2, 3, 4, 5, 6] [] 2 0 (ws := [oSt a_h a_a0 a_a1 a_a2 a_a3 a_a4 a_a5 a_moving a_shut a_people a_needed a_day, ai E a_a0 10 a_height, ai E a_a1 7 a_kind, ai E a_a2 7 a_figure, ai E a_a3 7 a_rail, ai E a_a4 7 a_mood, ai E a_a5 7 a_sight]) (ws' := [oSt a_h a_a0 a_a1 a_a2 a_a3 a_a4 a_a5 a_moving a_shut y12 a_needed a_day, ai E a_a0 10 a_height, ai E a_a1 7 y13, ai E a_a2 7 y14, ai E a_a3 7 y15, ai E a_a4 7 y16, ai E a_a5 7 a_sight]) (As := [.int p1, .int p2, .int p3]) (rest := []) (st1 := []) hC q_X8_admit kw_1_212 (c_X8_admit l E a_h a_a0 a_a1 a_a2 a_a3 a_a4 a_a5 a_height a_kind a_figure a_rail a_mood a_sight a_moving a_shut a_people a_needed a_day p1 p2 p3 y12 y13 y14 y15 y16 h17) ⟨rfl, rfl⟩ ⟨Nat.le_of_ble_eq_true rfl, Nat.le_of_ble_eq_true rfl⟩ ⟨Nat.zero_le _, Nat.zero_le _⟩ hP hD hS hA rfl rfl rfl hG (by decide) rfl rfl rfl rfl rfl rfl rfl rfl hl.1 rfl (Nat.le_of_ble_eq_true rfl) dX6_tryToAdmit_30 rfl (fun H locs hP hD hS => ?_)
        refine lv_iconst (v := (1 : Int32)) hx hb dX6_tryToAdmit_33 (by decide) ?_
        refine lv_topi (fun z18 ez18 => ?_)
        have hv := nm_s ez18 hv
        have hn9 : narrow .boolean (.int z18) = .int z18 := (by rw [ez18]; rfl)
        cases hv
        exact W.zret hx hb hr hn9 (fun t h9 _ => ⟨rfl, by rw [h9]; exact hP, hS.F h9⟩) hS.2.2 dX6_tryToAdmit_34 hlk
      · have hv := if_y c11 hv
        refine lv_iconst (v := (0 : Int32)) hx hb dX6_tryToAdmit_24 (by decide) ?_
        refine lv_topi (fun z19 ez19 => ?_)
        have hv := nm_s ez19 hv
        have hn9 : narrow .boolean (.int z19) = .int z19 := (by rw [ez19]; rfl)
        cases hv
        exact W.zret hx hb hr hn9 (fun t h9 _ => ⟨rfl, by rw [h9]; exact hP, hS.F h9⟩) hS.2.2 dX6_tryToAdmit_25 hlk
theorem dX6_tryMood_0 : decode cX6_tryMood 0 = .ok (.aload_n 0, 1) := by decide +kernel
theorem dX6_tryMood_1 : decode cX6_tryMood 1 = .ok (.iload_n 1, 1) := by decide +kernel
theorem dX6_tryMood_2 : decode cX6_tryMood 2 = .ok (.invokevirtual 75, 3) := by decide +kernel
theorem dX6_tryMood_5 : decode cX6_tryMood 5 = .ok (.ifCond .ne 5, 3) := by decide +kernel
theorem dX6_tryMood_8 : decode cX6_tryMood 8 = .ok (.iconst 0, 1) := by decide +kernel
theorem dX6_tryMood_9 : decode cX6_tryMood 9 = .ok (.ireturn, 1) := by decide +kernel
theorem dX6_tryMood_10 : decode cX6_tryMood 10 = .ok (.aload_n 0, 1) := by decide +kernel
theorem dX6_tryMood_11 : decode cX6_tryMood 11 = .ok (.getfield 78, 3) := by decide +kernel
theorem dX6_tryMood_14 : decode cX6_tryMood 14 = .ok (.iload_n 1, 1) := by decide +kernel
theorem dX6_tryMood_15 : decode cX6_tryMood 15 = .ok (.iload_n 2, 1) := by decide +kernel
theorem dX6_tryMood_16 : decode cX6_tryMood 16 = .ok (.iastore, 1) := by decide +kernel
theorem dX6_tryMood_17 : decode cX6_tryMood 17 = .ok (.iconst 1, 1) := by decide +kernel
theorem dX6_tryMood_18 : decode cX6_tryMood 18 = .ok (.ireturn, 1) := by decide +kernel
def f_X6_tryMood (a_mood : Nat → Int32) (a_people : Int32) (p1 : Int32) (p2 : Int32) : Option (Int32 × (Nat → Int32)) := ob (f_X8_isThere a_people p1) (fun r1 => if r1 = 0 then nm (0 : Int32) (fun z7 => some (z7, a_mood)) else gd (ix p1 7) (nm (upd a_mood p1.toNatClampNeg p2) (fun f5 => nm (1 : Int32) (fun z6 => some (z6, f5)))))
set_option maxHeartbeats 4000000 in
set_option maxRecDepth 100000 in
theorem c_X6_tryMood (l : Launch) (E : EE) (a_h : Nat) (a_a0 : Nat) (a_a1 : Nat) (a_a2 : Nat) (a_a3 : Nat) (a_a4 : Nat) (a_a5 : Nat) (a_height : Nat → Int32) (a_kind : Nat → Int32) (a_figure : Nat → Int32) (a_rail : Nat → Int32) (a_mood : Nat → Int32) (a_sight : Nat → Int32) (a_moving : Int32) (a_shut : Int32) (a_people : Int32) (a_needed : Int32) (a_day : Int32) (p1 : Int32) (p2 : Int32) (res : Int32) (w_a_mood : Nat → Int32) (hv : f_X6_tryMood a_mood a_people p1 p2 = some (res, w_a_mood)) : Wr l E yX6_tryMood cX6_tryMood 3 (some .boolean) ({ frames := 1, cells := 0, slots := 0, locals := 21 }) [.ref a_h, .int p1, .int p2] [oSt a_h a_a0 a_a1 a_a2 a_a3 a_a4 a_a5 a_moving a_shut a_people a_needed a_day, ai E a_a0 10 a_height, ai E a_a1 7 a_kind, ai E a_a2 7 a_figure, ai E a_a3 7 a_rail, ai E a_a4 7 a_mood, ai E a_a5 7 a_sight] [oSt a_h a_a0 a_a1 a_a2 a_a3 a_a4 a_a5 a_moving a_shut a_people a_needed a_day, ai E a_a0 10 a_height, ai E a_a1 7 a_kind, ai E a_a2 7 a_figure, ai E a_a3 7 a_rail, ai E a_a4 7 w_a_mood, ai E a_a5 7 a_sight] (some (.int res)) := by
  refine Wr.intro RX6 (by decide) rfl (Nat.le_of_ble_eq_true rfl) ?_
  intro p e s m below meth c ls A hC hr hlk hmn hP hD hS hA hG hl
  obtain ⟨hx, hb, hml, hown, ht⟩ := id hC
  have hK := hG.1
  have hl : lv_has ls 3 [(0, .ref a_h), (1, .int p1), (2, .int p2)] := hl
  rw [f_X6_tryMood] at hv
  refine lv_aload_n hx hb dX6_tryMood_0 rfl (lv_at hl 0 rfl) ?_
  refine lv_iload_n hx hb dX6_tryMood_1 rfl (lv_at hl 1 rfl) ?_
  obtain ⟨r1, h2, hv⟩ := ob_s hv
  refine rdV 2 0 (As := [.int p1]) (rest := []) (st1 := [.int r1]) (w := [oSt a_h a_a0 a_a1 a_a2 a_a3 a_a4 a_a5 a_moving a_shut a_people a_needed a_day, ai E a_a0 10 a_height, ai E a_a1 7 a_kind, ai E a_a2 7 a_figure, ai E a_a3 7 a_rail, ai E a_a4 7 a_mood, ai E a_a5 7 a_sight]) hC q_X8_isThere kw_1_220 (c_X8_isThere l E a_h a_a0 a_a1 a_a2 a_a3 a_a4 a_a5 a_height a_kind a_figure a_rail a_mood a_sight a_moving a_shut a_people a_needed a_day p1 r1 h2) ⟨rfl, rfl⟩ ⟨Nat.le_of_ble_eq_true rfl, Nat.le_of_ble_eq_true rfl⟩ ⟨Nat.zero_le _, Nat.zero_le _⟩ hP rfl rfl rfl hG rfl hl.1 rfl (Nat.le_of_ble_eq_true rfl) dX6_tryMood_2 rfl ?_
  refine lv_if_ne (tgt := 10) hx hb dX6_tryMood_5 (by decide) (fun c3 => ?_) (fun c3 => ?_)
  · have hv := if_n c3 hv
    refine lv_aload_n hx hb dX6_tryMood_10 rfl (lv_at hl 0 rfl) ?_
    refine va_get (D := E.1) (ci := 2) (v := .ref a_a4) (C := RX8) (T := TX8) (N := 11) hx hb ht i_X8 hown hK hP 0 rfl rfl 4 (by decide) (ht _ kw_1_47) (fun _ h9 => h9) rfl dX6_tryMood_11 ?_
    refine lv_iload_n hx hb dX6_tryMood_14 rfl (lv_at hl 1 rfl) ?_
    refine lv_iload_n hx hb dX6_tryMood_15 rfl (lv_at hl 2 rfl) ?_
    obtain ⟨g4, hv⟩ := gd_s hv
    refine va_iast hx hb hK hP hD hS 5 0 rfl rfl (ix_s g4) dX6_tryMood_16 (fun H locs hP hD hS => ?_)
    have hP : va_P E.1 vwCl [oSt a_h a_a0 a_a1 a_a2 a_a3 a_a4 a_a5 a_moving a_shut a_people a_needed a_day, ai E a_a0 10 a_height, ai E a_a1 7 a_kind, ai E a_a2 7 a_figure, ai E a_a3 7 a_rail, ai E a_a4 7 (upd a_mood p1.toNatClampNeg p2), ai E a_a5 7 a_sight] H := hP
    have hD : va_D A [oSt a_h a_a0 a_a1 a_a2 a_a3 a_a4 a_a5 a_moving a_shut a_people a_needed a_day, ai E a_a0 10 a_height, ai E a_a1 7 a_kind, ai E a_a2 7 a_figure, ai E a_a3 7 a_rail, ai E a_a4 7 (upd a_mood p1.toNatClampNeg p2), ai E a_a5 7 a_sight] := hD
    obtain ⟨f5, ef5⟩ : ∃ z, z = (upd a_mood p1.toNatClampNeg p2) := ⟨_, rfl⟩
    rw [← ef5] at hP hD
    have hv := nm_s ef5 hv
    refine lv_iconst (v := (1 : Int32)) hx hb dX6_tryMood_17 (by decide) ?_
    refine lv_topi (fun z6 ez6 => ?_)
    have hv := nm_s ez6 hv
    have hn9 : narrow .boolean (.int z6) = .int z6 := (by rw [ez6]; rfl)
    cases hv
    exact W.zret hx hb hr hn9 (fun t h9 _ => ⟨rfl, by rw [h9]; exact hP, hS.F h9⟩) hS.2.2 dX6_tryMood_18 hlk
  · have hv := if_y c3 hv
    refine lv_iconst (v := (0 : Int32)) hx hb dX6_tryMood_8 (by decide) ?_
    refine lv_topi (fun z7 ez7 => ?_)
    have hv := nm_s ez7 hv
    have hn9 : narrow .boolean (.int z7) = .int z7 := (by rw [ez7]; rfl)
    cases hv
    exact W.zret hx hb hr hn9 (fun t h9 _ => ⟨rfl, by rw [h9]; exact hP, hS.F h9⟩) hS.2.2 dX6_tryMood_9 hlk
theorem dX6_tryShutter_0 : decode cX6_tryShutter 0 = .ok (.iload_n 1, 1) := by decide +kernel
theorem dX6_tryShutter_1 : decode cX6_tryShutter 1 = .ok (.invokestatic 57, 3) := by decide +kernel
theorem dX6_tryShutter_4 : decode cX6_tryShutter 4 = .ok (.ifCond .ne 5, 3) := by decide +kernel
theorem dX6_tryShutter_7 : decode cX6_tryShutter 7 = .ok (.iconst 0, 1) := by decide +kernel
theorem dX6_tryShutter_8 : decode cX6_tryShutter 8 = .ok (.ireturn, 1) := by decide +kernel
theorem dX6_tryShutter_9 : decode cX6_tryShutter 9 = .ok (.aload_n 0, 1) := by decide +kernel
theorem dX6_tryShutter_10 : decode cX6_tryShutter 10 = .ok (.iload_n 1, 1) := by decide +kernel
theorem dX6_tryShutter_11 : decode cX6_tryShutter 11 = .ok (.invokevirtual 81, 3) := by decide +kernel
theorem dX6_tryShutter_14 : decode cX6_tryShutter 14 = .ok (.iconst 1, 1) := by decide +kernel
theorem dX6_tryShutter_15 : decode cX6_tryShutter 15 = .ok (.ireturn, 1) := by decide +kernel
def f_X6_tryShutter (a_shut : Int32) (p1 : Int32) : Option (Int32 × Int32) := ob (f_X9_isBalcony p1) (fun r1 => if r1 = 0 then nm (0 : Int32) (fun z7 => some (z7, a_shut)) else ob (f_X8_turnShutter a_shut p1) (fun y4 => nm (1 : Int32) (fun z6 => some (z6, y4))))
set_option maxHeartbeats 4000000 in
set_option maxRecDepth 100000 in
theorem c_X6_tryShutter (l : Launch) (E : EE) (a_h : Nat) (a_a0 : Nat) (a_a1 : Nat) (a_a2 : Nat) (a_a3 : Nat) (a_a4 : Nat) (a_a5 : Nat) (a_height : Nat → Int32) (a_kind : Nat → Int32) (a_figure : Nat → Int32) (a_rail : Nat → Int32) (a_mood : Nat → Int32) (a_sight : Nat → Int32) (a_moving : Int32) (a_shut : Int32) (a_people : Int32) (a_needed : Int32) (a_day : Int32) (p1 : Int32) (res : Int32) (w_a_shut : Int32) (hv : f_X6_tryShutter a_shut p1 = some (res, w_a_shut)) : Wr l E yX6_tryShutter cX6_tryShutter 2 (some .boolean) ({ frames := 2, cells := 0, slots := 0, locals := 42 }) [.ref a_h, .int p1] [oSt a_h a_a0 a_a1 a_a2 a_a3 a_a4 a_a5 a_moving a_shut a_people a_needed a_day, ai E a_a0 10 a_height, ai E a_a1 7 a_kind, ai E a_a2 7 a_figure, ai E a_a3 7 a_rail, ai E a_a4 7 a_mood, ai E a_a5 7 a_sight] [oSt a_h a_a0 a_a1 a_a2 a_a3 a_a4 a_a5 a_moving w_a_shut a_people a_needed a_day, ai E a_a0 10 a_height, ai E a_a1 7 a_kind, ai E a_a2 7 a_figure, ai E a_a3 7 a_rail, ai E a_a4 7 a_mood, ai E a_a5 7 a_sight] (some (.int res)) := by
  refine Wr.intro RX6 (by decide) rfl (Nat.le_of_ble_eq_true rfl) ?_
  intro p e s m below meth c ls A hC hr hlk hmn hP hD hS hA hG hl
  obtain ⟨hx, hb, hml, hown, ht⟩ := id hC
  have hK := hG.1
  have hl : lv_has ls 2 [(0, .ref a_h), (1, .int p1)] := hl
  rw [f_X6_tryShutter] at hv
  refine lv_iload_n hx hb dX6_tryShutter_0 rfl (lv_at hl 1 rfl) ?_
  obtain ⟨r1, h2, hv⟩ := ob_s hv
  refine rdSN (rest := []) (st1 := [.int r1]) (w := []) hC q_X9_isBalcony (List.mem_of_getElem? (i := 3) rfl) (c_X9_isBalcony l E p1 r1 h2) ⟨rfl, rfl⟩ ⟨Nat.le_of_ble_eq_true rfl, Nat.le_of_ble_eq_true rfl⟩ ⟨Nat.zero_le _, Nat.zero_le _⟩ (hP.sub (ws' := []) [] rfl) hG rfl hl.1 rfl (Nat.le_of_ble_eq_true rfl) dX6_tryShutter_1 rfl ?_
  refine lv_if_ne (tgt := 9) hx hb dX6_tryShutter_4 (by decide) (fun c3 => ?_) (fun c3 => ?_)
  · have hv := if_n c3 hv
    refine lv_aload_n hx hb dX6_tryShutter_9 rfl (lv_at hl 0 rfl) ?_
    refine lv_iload_n hx hb dX6_tryShutter_10 rfl (lv_at hl 1 rfl) ?_
    obtain ⟨y4, h5, hv⟩ := ob_s hv
    refine wrV (as := [a_h, a_a0, a_a1, a_a2, a_a3, a_a4, a_a5]) (wr := []) [0, 1, 2, 3, 4, 5, 6] [] 2 0 (ws := [oSt a_h a_a0 a_a1 a_a2 a_a3 a_a4 a_a5 a_moving a_shut a_people a_needed a_day, ai E a_a0 10 a_height, ai E a_a1 7 a_kind, ai E a_a2 7 a_figure, ai E a_a3 7 a_rail, ai E a_a4 7 a_mood, ai E a_a5 7 a_sight]) (ws' := [oSt a_h a_a0 a_a1 a_a2 a_a3 a_a4 a_a5 a_moving y4 a_people a_needed a_day, ai E a_a0 10 a_height, ai E a_a1 7 a_kind, ai E a_a2 7 a_figure, ai E a_a3 7 a_rail, ai E a_a4 7 a_mood, ai E a_a5 7 a_sight]) (As := [.int p1]) (rest := []) (st1 := []) hC q_X8_turnShutter kw_1_227 (c_X8_turnShutter l E a_h a_a0 a_a1 a_a2 a_a3 a_a4 a_a5 a_height a_kind a_figure a_rail a_mood a_sight a_moving a_shut a_people a_needed a_day p1 y4 h5) ⟨rfl, rfl⟩ ⟨Nat.le_of_ble_eq_true rfl, Nat.le_of_ble_eq_true rfl⟩ ⟨Nat.zero_le _, Nat.zero_le _⟩ hP hD hS hA rfl rfl rfl hG (by decide) rfl rfl rfl rfl rfl rfl rfl rfl hl.1 rfl (Nat.le_of_ble_eq_true rfl) dX6_tryShutter_11 rfl (fun H locs hP hD hS => ?_)
    refine lv_iconst (v := (1 : Int32)) hx hb dX6_tryShutter_14 (by decide) ?_
    refine lv_topi (fun z6 ez6 => ?_)
    have hv := nm_s ez6 hv
    have hn9 : narrow .boolean (.int z6) = .int z6 := (by rw [ez6]; rfl)
    cases hv
    exact W.zret hx hb hr hn9 (fun t h9 _ => ⟨rfl, by rw [h9]; exact hP, hS.F h9⟩) hS.2.2 dX6_tryShutter_15 hlk
  · have hv := if_y c3 hv
    refine lv_iconst (v := (0 : Int32)) hx hb dX6_tryShutter_7 (by decide) ?_
    refine lv_topi (fun z7 ez7 => ?_)
    have hv := nm_s ez7 hv
    have hn9 : narrow .boolean (.int z7) = .int z7 := (by rw [ez7]; rfl)
    cases hv
    exact W.zret hx hb hr hn9 (fun t h9 _ => ⟨rfl, by rw [h9]; exact hP, hS.F h9⟩) hS.2.2 dX6_tryShutter_8 hlk
theorem dX6_tryQuota_0 : decode cX6_tryQuota 0 = .ok (.iload_n 1, 1) := by decide +kernel
theorem dX6_tryQuota_1 : decode cX6_tryQuota 1 = .ok (.iconst 1, 1) := by decide +kernel
theorem dX6_tryQuota_2 : decode cX6_tryQuota 2 = .ok (.bipush 99, 2) := by decide +kernel
theorem dX6_tryQuota_4 : decode cX6_tryQuota 4 = .ok (.invokestatic 32, 3) := by decide +kernel
theorem dX6_tryQuota_7 : decode cX6_tryQuota 7 = .ok (.ifCond .ne 5, 3) := by decide +kernel
theorem dX6_tryQuota_10 : decode cX6_tryQuota 10 = .ok (.iconst 0, 1) := by decide +kernel
theorem dX6_tryQuota_11 : decode cX6_tryQuota 11 = .ok (.ireturn, 1) := by decide +kernel
theorem dX6_tryQuota_12 : decode cX6_tryQuota 12 = .ok (.aload_n 0, 1) := by decide +kernel
theorem dX6_tryQuota_13 : decode cX6_tryQuota 13 = .ok (.iload_n 1, 1) := by decide +kernel
theorem dX6_tryQuota_14 : decode cX6_tryQuota 14 = .ok (.putfield 85, 3) := by decide +kernel
theorem dX6_tryQuota_17 : decode cX6_tryQuota 17 = .ok (.iconst 1, 1) := by decide +kernel
theorem dX6_tryQuota_18 : decode cX6_tryQuota 18 = .ok (.ireturn, 1) := by decide +kernel
def f_X6_tryQuota (a_needed : Int32) (p1 : Int32) : Option (Int32 × Int32) := ob (f_X9_isWithin p1 (1 : Int32) (99 : Int32)) (fun r1 => if r1 = 0 then nm (0 : Int32) (fun z5 => some (z5, a_needed)) else nm (1 : Int32) (fun z4 => some (z4, p1)))
set_option maxHeartbeats 4000000 in
set_option maxRecDepth 100000 in
theorem c_X6_tryQuota (l : Launch) (E : EE) (a_h : Nat) (a_a0 : Nat) (a_a1 : Nat) (a_a2 : Nat) (a_a3 : Nat) (a_a4 : Nat) (a_a5 : Nat) (a_height : Nat → Int32) (a_kind : Nat → Int32) (a_figure : Nat → Int32) (a_rail : Nat → Int32) (a_mood : Nat → Int32) (a_sight : Nat → Int32) (a_moving : Int32) (a_shut : Int32) (a_people : Int32) (a_needed : Int32) (a_day : Int32) (p1 : Int32) (res : Int32) (w_a_needed : Int32) (hv : f_X6_tryQuota a_needed p1 = some (res, w_a_needed)) : Wr l E yX6_tryQuota cX6_tryQuota 2 (some .boolean) ({ frames := 1, cells := 0, slots := 0, locals := 22 }) [.ref a_h, .int p1] [oSt a_h a_a0 a_a1 a_a2 a_a3 a_a4 a_a5 a_moving a_shut a_people a_needed a_day, ai E a_a0 10 a_height, ai E a_a1 7 a_kind, ai E a_a2 7 a_figure, ai E a_a3 7 a_rail, ai E a_a4 7 a_mood, ai E a_a5 7 a_sight] [oSt a_h a_a0 a_a1 a_a2 a_a3 a_a4 a_a5 a_moving a_shut a_people w_a_needed a_day, ai E a_a0 10 a_height, ai E a_a1 7 a_kind, ai E a_a2 7 a_figure, ai E a_a3 7 a_rail, ai E a_a4 7 a_mood, ai E a_a5 7 a_sight] (some (.int res)) := by
  refine Wr.intro RX6 (by decide) rfl (Nat.le_of_ble_eq_true rfl) ?_
  intro p e s m below meth c ls A hC hr hlk hmn hP hD hS hA hG hl
  obtain ⟨hx, hb, hml, hown, ht⟩ := id hC
  have hK := hG.1
  have hl : lv_has ls 2 [(0, .ref a_h), (1, .int p1)] := hl
  rw [f_X6_tryQuota] at hv
  refine lv_iload_n hx hb dX6_tryQuota_0 rfl (lv_at hl 1 rfl) ?_
  refine lv_iconst (v := (1 : Int32)) hx hb dX6_tryQuota_1 (by decide) ?_
  refine lv_bipush (v := (99 : Int32)) hx hb dX6_tryQuota_2 (by decide) ?_
  obtain ⟨r1, h2, hv⟩ := ob_s hv
  refine rdSN (rest := []) (st1 := [.int r1]) (w := []) hC q_X9_isWithin (List.mem_of_getElem? (i := 2) rfl) (c_X9_isWithin l E p1 (1 : Int32) (99 : Int32) r1 h2) ⟨rfl, rfl⟩ ⟨Nat.le_of_ble_eq_true rfl, Nat.le_of_ble_eq_true rfl⟩ ⟨Nat.zero_le _, Nat.zero_le _⟩ (hP.sub (ws' := []) [] rfl) hG rfl hl.1 rfl (Nat.le_of_ble_eq_true rfl) dX6_tryQuota_4 rfl ?_
  refine lv_if_ne (tgt := 12) hx hb dX6_tryQuota_7 (by decide) (fun c3 => ?_) (fun c3 => ?_)
  · have hv := if_n c3 hv
    refine lv_aload_n hx hb dX6_tryQuota_12 rfl (lv_at hl 0 rfl) ?_
    refine lv_iload_n hx hb dX6_tryQuota_13 rfl (lv_at hl 1 rfl) ?_
    refine va_put (D := E.1) (ci := 2) (v := .int p1) (ty := .int) (C := RX8) (T := TX8) (N := 11) hx hb ht i_X8 tyX8 tyX8_ok nmX8 hown hK hP hD hS 0 rfl rfl 9 (by decide) (ht _ kw_1_58) (fun _ h9 => h9) rfl (by decide +kernel) rfl rfl (Nat.le_of_ble_eq_true rfl) dX6_tryQuota_14 (fun H locs hP hD hS => ?_)
    have hP : va_P E.1 vwCl [oSt a_h a_a0 a_a1 a_a2 a_a3 a_a4 a_a5 a_moving a_shut a_people p1 a_day, ai E a_a0 10 a_height, ai E a_a1 7 a_kind, ai E a_a2 7 a_figure, ai E a_a3 7 a_rail, ai E a_a4 7 a_mood, ai E a_a5 7 a_sight] H := hP
    have hD : va_D A [oSt a_h a_a0 a_a1 a_a2 a_a3 a_a4 a_a5 a_moving a_shut a_people p1 a_day, ai E a_a0 10 a_height, ai E a_a1 7 a_kind, ai E a_a2 7 a_figure, ai E a_a3 7 a_rail, ai E a_a4 7 a_mood, ai E a_a5 7 a_sight] := hD
    refine lv_iconst (v := (1 : Int32)) hx hb dX6_tryQuota_17 (by decide) ?_
    refine lv_topi (fun z4 ez4 => ?_)
    have hv := nm_s ez4 hv
    have hn9 : narrow .boolean (.int z4) = .int z4 := (by rw [ez4]; rfl)
    cases hv
    exact W.zret hx hb hr hn9 (fun t h9 _ => ⟨rfl, by rw [h9]; exact hP, hS.F h9⟩) hS.2.2 dX6_tryQuota_18 hlk
  · have hv := if_y c3 hv
    refine lv_iconst (v := (0 : Int32)) hx hb dX6_tryQuota_10 (by decide) ?_
    refine lv_topi (fun z5 ez5 => ?_)
    have hv := nm_s ez5 hv
    have hn9 : narrow .boolean (.int z5) = .int z5 := (by rw [ez5]; rfl)
    cases hv
    exact W.zret hx hb hr hn9 (fun t h9 _ => ⟨rfl, by rw [h9]; exact hP, hS.F h9⟩) hS.2.2 dX6_tryQuota_11 hlk
theorem dX6_tryDays_0 : decode cX6_tryDays 0 = .ok (.iload_n 1, 1) := by decide +kernel
theorem dX6_tryDays_1 : decode cX6_tryDays 1 = .ok (.iconst 1, 1) := by decide +kernel
theorem dX6_tryDays_2 : decode cX6_tryDays 2 = .ok (.bipush 60, 2) := by decide +kernel
theorem dX6_tryDays_4 : decode cX6_tryDays 4 = .ok (.invokestatic 32, 3) := by decide +kernel
theorem dX6_tryDays_7 : decode cX6_tryDays 7 = .ok (.ifCond .eq 11, 3) := by decide +kernel
theorem dX6_tryDays_10 : decode cX6_tryDays 10 = .ok (.aload_n 0, 1) := by decide +kernel
theorem dX6_tryDays_11 : decode cX6_tryDays 11 = .ok (.iload_n 1, 1) := by decide +kernel
theorem dX6_tryDays_12 : decode cX6_tryDays 12 = .ok (.invokevirtual 88, 3) := by decide +kernel
theorem dX6_tryDays_15 : decode cX6_tryDays 15 = .ok (.ifCond .ne 5, 3) := by decide +kernel
theorem dX6_tryDays_18 : decode cX6_tryDays 18 = .ok (.iconst 0, 1) := by decide +kernel
theorem dX6_tryDays_19 : decode cX6_tryDays 19 = .ok (.ireturn, 1) := by decide +kernel
theorem dX6_tryDays_20 : decode cX6_tryDays 20 = .ok (.aload_n 0, 1) := by decide +kernel
theorem dX6_tryDays_21 : decode cX6_tryDays 21 = .ok (.iload_n 1, 1) := by decide +kernel
theorem dX6_tryDays_22 : decode cX6_tryDays 22 = .ok (.invokevirtual 91, 3) := by decide +kernel
theorem dX6_tryDays_25 : decode cX6_tryDays 25 = .ok (.iconst 1, 1) := by decide +kernel
theorem dX6_tryDays_26 : decode cX6_tryDays 26 = .ok (.ireturn, 1) := by decide +kernel
def f_X6_tryDays (N : Nat) (a_height : Nat → Int32) (a_kind : Nat → Int32) (a_figure : Nat → Int32) (a_rail : Nat → Int32) (a_mood : Nat → Int32) (a_sight : Nat → Int32) (a_moving : Int32) (a_shut : Int32) (a_people : Int32) (a_day : Int32) (p1 : Int32) : Option (Int32 × Int32 × Int32 × (Nat → Int32) × (Nat → Int32)) := ob (f_X9_isWithin p1 (1 : Int32) (60 : Int32)) (fun r1 => if r1 = 0 then nm (0 : Int32) (fun z4 => some (z4, a_moving, a_day, a_mood, a_sight)) else ob (f_X8_hasDaysLeft a_day p1) (fun r5 => if r5 = 0 then nm (0 : Int32) (fun z14 => some (z14, a_moving, a_day, a_mood, a_sight)) else ob (f_X8_live N a_height a_kind a_figure a_rail a_mood a_sight a_shut a_people a_day p1) (fun (y8, y9, y10, y11) => nm (1 : Int32) (fun z13 => some (z13, y8, y9, y10, y11)))))
set_option maxHeartbeats 4000000 in
set_option maxRecDepth 100000 in
theorem c_X6_tryDays (l : Launch) (E : EE) (a_h : Nat) (a_a0 : Nat) (a_a1 : Nat) (a_a2 : Nat) (a_a3 : Nat) (a_a4 : Nat) (a_a5 : Nat) (a_height : Nat → Int32) (a_kind : Nat → Int32) (a_figure : Nat → Int32) (a_rail : Nat → Int32) (a_mood : Nat → Int32) (a_sight : Nat → Int32) (a_moving : Int32) (a_shut : Int32) (a_people : Int32) (a_needed : Int32) (a_day : Int32) (p1 : Int32) (N : Nat) (res : Int32) (w_a_moving : Int32) (w_a_day : Int32) (w_a_mood : Nat → Int32) (w_a_sight : Nat → Int32) (hv : f_X6_tryDays N a_height a_kind a_figure a_rail a_mood a_sight a_moving a_shut a_people a_day p1 = some (res, w_a_moving, w_a_day, w_a_mood, w_a_sight)) : Wr l E yX6_tryDays cX6_tryDays 2 (some .boolean) ({ frames := 4, cells := 0, slots := 0, locals := 89 }) [.ref a_h, .int p1] [oSt a_h a_a0 a_a1 a_a2 a_a3 a_a4 a_a5 a_moving a_shut a_people a_needed a_day, ai E a_a0 10 a_height, ai E a_a1 7 a_kind, ai E a_a2 7 a_figure, ai E a_a3 7 a_rail, ai E a_a4 7 a_mood, ai E a_a5 7 a_sight] [oSt a_h a_a0 a_a1 a_a2 a_a3 a_a4 a_a5 w_a_moving a_shut a_people a_needed w_a_day, ai E a_a0 10 a_height, ai E a_a1 7 a_kind, ai E a_a2 7 a_figure, ai E a_a3 7 a_rail, ai E a_a4 7 w_a_mood, ai E a_a5 7 w_a_sight] (some (.int res)) := by
  refine Wr.intro RX6 (by decide) rfl (Nat.le_of_ble_eq_true rfl) ?_
  intro p e s m below meth c ls A hC hr hlk hmn hP hD hS hA hG hl
  obtain ⟨hx, hb, hml, hown, ht⟩ := id hC
  have hK := hG.1
  have hl : lv_has ls 2 [(0, .ref a_h), (1, .int p1)] := hl
  rw [f_X6_tryDays] at hv
  refine lv_iload_n hx hb dX6_tryDays_0 rfl (lv_at hl 1 rfl) ?_
  refine lv_iconst (v := (1 : Int32)) hx hb dX6_tryDays_1 (by decide) ?_
  refine lv_bipush (v := (60 : Int32)) hx hb dX6_tryDays_2 (by decide) ?_
  obtain ⟨r1, h2, hv⟩ := ob_s hv
  refine rdSN (rest := []) (st1 := [.int r1]) (w := []) hC q_X9_isWithin (List.mem_of_getElem? (i := 2) rfl) (c_X9_isWithin l E p1 (1 : Int32) (60 : Int32) r1 h2) ⟨rfl, rfl⟩ ⟨Nat.le_of_ble_eq_true rfl, Nat.le_of_ble_eq_true rfl⟩ ⟨Nat.zero_le _, Nat.zero_le _⟩ (hP.sub (ws' := []) [] rfl) hG rfl hl.1 rfl (Nat.le_of_ble_eq_true rfl) dX6_tryDays_4 rfl ?_
  refine lv_if_eq (tgt := 18) hx hb dX6_tryDays_7 (by decide) (fun c3 => ?_) (fun c3 => ?_)
  · have hv := if_y c3 hv
    refine lv_iconst (v := (0 : Int32)) hx hb dX6_tryDays_18 (by decide) ?_
    refine lv_topi (fun z4 ez4 => ?_)
    have hv := nm_s ez4 hv
    have hn9 : narrow .boolean (.int z4) = .int z4 := (by rw [ez4]; rfl)
    cases hv
    exact W.zret hx hb hr hn9 (fun t h9 _ => ⟨rfl, by rw [h9]; exact hP, hS.F h9⟩) hS.2.2 dX6_tryDays_19 hlk
  · have hv := if_n c3 hv
    refine lv_aload_n hx hb dX6_tryDays_10 rfl (lv_at hl 0 rfl) ?_
    refine lv_iload_n hx hb dX6_tryDays_11 rfl (lv_at hl 1 rfl) ?_
    obtain ⟨r5, h6, hv⟩ := ob_s hv
    refine rdV 2 0 (As := [.int p1]) (rest := []) (st1 := [.int r5]) (w := [oSt a_h a_a0 a_a1 a_a2 a_a3 a_a4 a_a5 a_moving a_shut a_people a_needed a_day, ai E a_a0 10 a_height, ai E a_a1 7 a_kind, ai E a_a2 7 a_figure, ai E a_a3 7 a_rail, ai E a_a4 7 a_mood, ai E a_a5 7 a_sight]) hC q_X8_hasDaysLeft kw_1_237 (c_X8_hasDaysLeft l E a_h a_a0 a_a1 a_a2 a_a3 a_a4 a_a5 a_height a_kind a_figure a_rail a_mood a_sight a_moving a_shut a_people a_needed a_day p1 r5 h6) ⟨rfl, rfl⟩ ⟨Nat.le_of_ble_eq_true rfl, Nat.le_of_ble_eq_true rfl⟩ ⟨Nat.zero_le _, Nat.zero_le _⟩ hP rfl rfl rfl hG rfl hl.1 rfl (Nat.le_of_ble_eq_true rfl) dX6_tryDays_12 rfl ?_
    refine lv_if_ne (tgt := 20) hx hb dX6_tryDays_15 (by decide) (fun c7 => ?_) (fun c7 => ?_)
    · have hv := if_n c7 hv
      refine lv_aload_n hx hb dX6_tryDays_20 rfl (lv_at hl 0 rfl) ?_
      refine lv_iload_n hx hb dX6_tryDays_21 rfl (lv_at hl 1 rfl) ?_
      obtain ⟨⟨y8, y9, y10, y11⟩, h12, hv⟩ := ob_s hv
      refine wrV (as := [a_h, a_a0, a_a1, a_a2, a_a3, a_a4, a_a5]) (wr := []) [0, 1, 2, 3, 4, 5, 6] [] 2 0 (ws := [oSt a_h a_a0 a_a1 a_a2 a_a3 a_a4 a_a5 a_moving a_shut a_people a_needed a_day, ai E a_a0 10 a_height, ai E a_a1 7 a_kind, ai E a_a2 7 a_figure, ai E a_a3 7 a_rail, ai E a_a4 7 a_mood, ai E a_a5 7 a_sight]) (ws' := [oSt a_h a_a0 a_a1 a_a2 a_a3 a_a4 a_a5 y8 a_shut a_people a_needed y9, ai E a_a0 10 a_height, ai E a_a1 7 a_kind, ai E a_a2 7 a_figure, ai E a_a3 7 a_rail, ai E a_a4 7 y10, ai E a_a5 7 y11]) (As := [.int p1]) (rest := []) (st1 := []) hC q_X8_live kw_2_1 (c_X8_live l E a_h a_a0 a_a1 a_a2 a_a3 a_a4 a_a5 a_height a_kind a_figure a_rail a_mood a_sight a_moving a_shut a_people a_needed a_day p1 N y8 y9 y10 y11 h12) ⟨rfl, rfl⟩ ⟨Nat.le_of_ble_eq_true rfl, Nat.le_of_ble_eq_true rfl⟩ ⟨Nat.zero_le _, Nat.zero_le _⟩ hP hD hS hA rfl rfl rfl hG (by decide) rfl rfl rfl rfl rfl rfl rfl rfl hl.1 rfl (Nat.le_of_ble_eq_true rfl) dX6_tryDays_22 rfl (fun H locs hP hD hS => ?_)
      refine lv_iconst (v := (1 : Int32)) hx hb dX6_tryDays_25 (by decide) ?_
      refine lv_topi (fun z13 ez13 => ?_)
      have hv := nm_s ez13 hv
      have hn9 : narrow .boolean (.int z13) = .int z13 := (by rw [ez13]; rfl)
      cases hv
      exact W.zret hx hb hr hn9 (fun t h9 _ => ⟨rfl, by rw [h9]; exact hP, hS.F h9⟩) hS.2.2 dX6_tryDays_26 hlk
    · have hv := if_y c7 hv
      refine lv_iconst (v := (0 : Int32)) hx hb dX6_tryDays_18 (by decide) ?_
      refine lv_topi (fun z14 ez14 => ?_)
      have hv := nm_s ez14 hv
      have hn9 : narrow .boolean (.int z14) = .int z14 := (by rw [ez14]; rfl)
      cases hv
      exact W.zret hx hb hr hn9 (fun t h9 _ => ⟨rfl, by rw [h9]; exact hP, hS.F h9⟩) hS.2.2 dX6_tryDays_19 hlk
theorem dX6_tryStatement_0 : decode cX6_tryStatement 0 = .ok (.aload_n 0, 1) := by decide +kernel
theorem dX6_tryStatement_1 : decode cX6_tryStatement 1 = .ok (.iload_n 1, 1) := by decide +kernel
theorem dX6_tryStatement_2 : decode cX6_tryStatement 2 = .ok (.iconst 1, 1) := by decide +kernel
theorem dX6_tryStatement_3 : decode cX6_tryStatement 3 = .ok (.iadd, 1) := by decide +kernel
theorem dX6_tryStatement_4 : decode cX6_tryStatement 4 = .ok (.invokevirtual 25, 3) := by decide +kernel
theorem dX6_tryStatement_7 : decode cX6_tryStatement 7 = .ok (.bipush 48, 2) := by decide +kernel
theorem dX6_tryStatement_9 : decode cX6_tryStatement 9 = .ok (.isub, 1) := by decide +kernel
theorem dX6_tryStatement_10 : decode cX6_tryStatement 10 = .ok (.istore_n 3, 1) := by decide +kernel
theorem dX6_tryStatement_11 : decode cX6_tryStatement 11 = .ok (.aload_n 0, 1) := by decide +kernel
theorem dX6_tryStatement_12 : decode cX6_tryStatement 12 = .ok (.iload_n 1, 1) := by decide +kernel
theorem dX6_tryStatement_13 : decode cX6_tryStatement 13 = .ok (.iconst 2, 1) := by decide +kernel
theorem dX6_tryStatement_14 : decode cX6_tryStatement 14 = .ok (.iadd, 1) := by decide +kernel
theorem dX6_tryStatement_15 : decode cX6_tryStatement 15 = .ok (.invokevirtual 25, 3) := by decide +kernel
theorem dX6_tryStatement_18 : decode cX6_tryStatement 18 = .ok (.bipush 48, 2) := by decide +kernel
theorem dX6_tryStatement_20 : decode cX6_tryStatement 20 = .ok (.isub, 1) := by decide +kernel
theorem dX6_tryStatement_21 : decode cX6_tryStatement 21 = .ok (.istore 4, 2) := by decide +kernel
theorem dX6_tryStatement_23 : decode cX6_tryStatement 23 = .ok (.bipush 10, 2) := by decide +kernel
theorem dX6_tryStatement_25 : decode cX6_tryStatement 25 = .ok (.iload_n 3, 1) := by decide +kernel
theorem dX6_tryStatement_26 : decode cX6_tryStatement 26 = .ok (.imul, 1) := by decide +kernel
theorem dX6_tryStatement_27 : decode cX6_tryStatement 27 = .ok (.iload 4, 2) := by decide +kernel
theorem dX6_tryStatement_29 : decode cX6_tryStatement 29 = .ok (.iadd, 1) := by decide +kernel
theorem dX6_tryStatement_30 : decode cX6_tryStatement 30 = .ok (.istore 5, 2) := by decide +kernel
theorem dX6_tryStatement_32 : decode cX6_tryStatement 32 = .ok (.aload_n 0, 1) := by decide +kernel
theorem dX6_tryStatement_33 : decode cX6_tryStatement 33 = .ok (.iload_n 1, 1) := by decide +kernel
theorem dX6_tryStatement_34 : decode cX6_tryStatement 34 = .ok (.invokevirtual 25, 3) := by decide +kernel
theorem dX6_tryStatement_37 : decode cX6_tryStatement 37 = .ok (.tableswitch 147 97 115 #[125, 91, 147, 147, 147, 117, 147, 147, 147, 147, 147, 147, 147, 147, 134, 147, 140, 147, 99], 91) := by decide +kernel
theorem dX6_tryStatement_128 : decode cX6_tryStatement 128 = .ok (.aload_n 2, 1) := by decide +kernel
theorem dX6_tryStatement_129 : decode cX6_tryStatement 129 = .ok (.iload_n 3, 1) := by decide +kernel
theorem dX6_tryStatement_130 : decode cX6_tryStatement 130 = .ok (.iload 4, 2) := by decide +kernel
theorem dX6_tryStatement_132 : decode cX6_tryStatement 132 = .ok (.invokestatic 36, 3) := by decide +kernel
theorem dX6_tryStatement_135 : decode cX6_tryStatement 135 = .ok (.ireturn, 1) := by decide +kernel
theorem dX6_tryStatement_136 : decode cX6_tryStatement 136 = .ok (.aload_n 2, 1) := by decide +kernel
theorem dX6_tryStatement_137 : decode cX6_tryStatement 137 = .ok (.iload_n 3, 1) := by decide +kernel
theorem dX6_tryStatement_138 : decode cX6_tryStatement 138 = .ok (.iload 4, 2) := by decide +kernel
theorem dX6_tryStatement_140 : decode cX6_tryStatement 140 = .ok (.aload_n 0, 1) := by decide +kernel
theorem dX6_tryStatement_141 : decode cX6_tryStatement 141 = .ok (.iload_n 1, 1) := by decide +kernel
theorem dX6_tryStatement_142 : decode cX6_tryStatement 142 = .ok (.iconst 3, 1) := by decide +kernel
theorem dX6_tryStatement_143 : decode cX6_tryStatement 143 = .ok (.iadd, 1) := by decide +kernel
theorem dX6_tryStatement_144 : decode cX6_tryStatement 144 = .ok (.invokevirtual 25, 3) := by decide +kernel
theorem dX6_tryStatement_147 : decode cX6_tryStatement 147 = .ok (.bipush 48, 2) := by decide +kernel
theorem dX6_tryStatement_149 : decode cX6_tryStatement 149 = .ok (.isub, 1) := by decide +kernel
theorem dX6_tryStatement_150 : decode cX6_tryStatement 150 = .ok (.invokestatic 40, 3) := by decide +kernel
theorem dX6_tryStatement_153 : decode cX6_tryStatement 153 = .ok (.ireturn, 1) := by decide +kernel
theorem dX6_tryStatement_154 : decode cX6_tryStatement 154 = .ok (.aload_n 2, 1) := by decide +kernel
theorem dX6_tryStatement_155 : decode cX6_tryStatement 155 = .ok (.iload_n 3, 1) := by decide +kernel
theorem dX6_tryStatement_156 : decode cX6_tryStatement 156 = .ok (.iload 4, 2) := by decide +kernel
theorem dX6_tryStatement_158 : decode cX6_tryStatement 158 = .ok (.invokestatic 44, 3) := by decide +kernel
theorem dX6_tryStatement_161 : decode cX6_tryStatement 161 = .ok (.ireturn, 1) := by decide +kernel
theorem dX6_tryStatement_162 : decode cX6_tryStatement 162 = .ok (.aload_n 2, 1) := by decide +kernel
theorem dX6_tryStatement_163 : decode cX6_tryStatement 163 = .ok (.iload_n 3, 1) := by decide +kernel
theorem dX6_tryStatement_164 : decode cX6_tryStatement 164 = .ok (.iload 4, 2) := by decide +kernel
theorem dX6_tryStatement_166 : decode cX6_tryStatement 166 = .ok (.ineg, 1) := by decide +kernel
theorem dX6_tryStatement_167 : decode cX6_tryStatement 167 = .ok (.invokestatic 44, 3) := by decide +kernel
theorem dX6_tryStatement_170 : decode cX6_tryStatement 170 = .ok (.ireturn, 1) := by decide +kernel
theorem dX6_tryStatement_171 : decode cX6_tryStatement 171 = .ok (.aload_n 2, 1) := by decide +kernel
theorem dX6_tryStatement_172 : decode cX6_tryStatement 172 = .ok (.iload_n 3, 1) := by decide +kernel
theorem dX6_tryStatement_173 : decode cX6_tryStatement 173 = .ok (.invokestatic 47, 3) := by decide +kernel
theorem dX6_tryStatement_176 : decode cX6_tryStatement 176 = .ok (.ireturn, 1) := by decide +kernel
theorem dX6_tryStatement_177 : decode cX6_tryStatement 177 = .ok (.aload_n 2, 1) := by decide +kernel
theorem dX6_tryStatement_178 : decode cX6_tryStatement 178 = .ok (.iload 5, 2) := by decide +kernel
theorem dX6_tryStatement_180 : decode cX6_tryStatement 180 = .ok (.invokestatic 51, 3) := by decide +kernel
theorem dX6_tryStatement_183 : decode cX6_tryStatement 183 = .ok (.ireturn, 1) := by decide +kernel
theorem dX6_tryStatement_184 : decode cX6_tryStatement 184 = .ok (.aload_n 2, 1) := by decide +kernel
theorem dX6_tryStatement_185 : decode cX6_tryStatement 185 = .ok (.iload 5, 2) := by decide +kernel
theorem dX6_tryStatement_187 : decode cX6_tryStatement 187 = .ok (.invokestatic 54, 3) := by decide +kernel
theorem dX6_tryStatement_190 : decode cX6_tryStatement 190 = .ok (.ireturn, 1) := by decide +kernel
def f_X6_tryStatement (N : Nat) (q_elements : Nat → Int32) (q_size : Int32) (a_height : Nat → Int32) (a_kind : Nat → Int32) (a_figure : Nat → Int32) (a_rail : Nat → Int32) (a_mood : Nat → Int32) (a_sight : Nat → Int32) (a_moving : Int32) (a_shut : Int32) (a_people : Int32) (a_needed : Int32) (a_day : Int32) (p1 : Int32) : Option (Int32 × Int32 × Int32 × Int32 × Int32 × Int32 × (Nat → Int32) × (Nat → Int32) × (Nat → Int32) × (Nat → Int32) × (Nat → Int32) × (Nat → Int32)) := ob (f_X7_at q_elements q_size (p1 + (1 : Int32))) (fun r1 => ob (f_X7_at q_elements q_size (p1 + (2 : Int32))) (fun r3 => nm (((10 : Int32) * (r1 - (48 : Int32))) + (r3 - (48 : Int32))) (fun z5 => ob (f_X7_at q_elements q_size p1) (fun r6 => if r6 = (97 : Int32) then ob (f_X6_tryMood a_mood a_people (r1 - (48 : Int32)) (-(r3 - (48 : Int32)))) (fun (r9, y10) => gd (bz r9) (some (r9, a_moving, a_shut, a_people, a_needed, a_day, a_height, a_kind, a_figure, a_rail, y10, a_sight))) else if r6 = (98 : Int32) then ob (f_X6_tryHeight a_height (r1 - (48 : Int32)) (r3 - (48 : Int32))) (fun (r14, y15) => gd (bz r14) (some (r14, a_moving, a_shut, a_people, a_needed, a_day, y15, a_kind, a_figure, a_rail, a_mood, a_sight))) else if r6 = (102 : Int32) then ob (f_X6_tryMood a_mood a_people (r1 - (48 : Int32)) (r3 - (48 : Int32))) (fun (r19, y20) => gd (bz r19) (some (r19, a_moving, a_shut, a_people, a_needed, a_day, a_height, a_kind, a_figure, a_rail, y20, a_sight))) else if r6 = (111 : Int32) then ob (f_X6_tryShutter a_shut (r1 - (48 : Int32))) (fun (r24, y25) => gd (bz r24) (some (r24, a_moving, y25, a_people, a_needed, a_day, a_height, a_kind, a_figure, a_rail, a_mood, a_sight))) else if r6 = (113 : Int32) then ob (f_X6_tryQuota a_needed z5) (fun (r29, y30) => gd (bz r29) (some (r29, a_moving, a_shut, a_people, y30, a_day, a_height, a_kind, a_figure, a_rail, a_mood, a_sight))) else if r6 = (115 : Int32) then ob (f_X7_at q_elements q_size (p1 + (3 : Int32))) (fun r34 => ob (f_X6_tryToAdmit a_kind a_figure a_rail a_mood a_people (r1 - (48 : Int32)) (r3 - (48 : Int32)) (r34 - (48 : Int32))) (fun (r36, y37, y38, y39, y40, y41) => gd (bz r36) (some (r36, a_moving, a_shut, y37, a_needed, a_day, a_height, y38, y39, y40, y41, a_sight)))) else ob (f_X6_tryDays N a_height a_kind a_figure a_rail a_mood a_sight a_moving a_shut a_people a_day z5) (fun (r44, y45, y46, y47, y48) => gd (bz r44) (some (r44, y45, a_shut, a_people, a_needed, y46, a_height, a_kind, a_figure, a_rail, y47, y48)))))))
set_option maxHeartbeats 4000000 in
set_option maxRecDepth 100000 in
theorem c_X6_tryStatement (l : Launch) (E : EE) (q_h : Nat) (q_a0 : Nat) (a_h : Nat) (a_a0 : Nat) (a_a1 : Nat) (a_a2 : Nat) (a_a3 : Nat) (a_a4 : Nat) (a_a5 : Nat) (q_elements : Nat → Int32) (q_holds : Int32) (q_kind : Int32) (q_figure : Int32) (q_sort : Int32) (q_size : Int32) (a_height : Nat → Int32) (a_kind : Nat → Int32) (a_figure : Nat → Int32) (a_rail : Nat → Int32) (a_mood : Nat → Int32) (a_sight : Nat → Int32) (a_moving : Int32) (a_shut : Int32) (a_people : Int32) (a_needed : Int32) (a_day : Int32) (p1 : Int32) (N : Nat) (res : Int32) (w_a_moving : Int32) (w_a_shut : Int32) (w_a_people : Int32) (w_a_needed : Int32) (w_a_day : Int32) (w_a_height : Nat → Int32) (w_a_kind : Nat → Int32) (w_a_figure : Nat → Int32) (w_a_rail : Nat → Int32) (w_a_mood : Nat → Int32) (w_a_sight : Nat → Int32) (hv : f_X6_tryStatement N q_elements q_size a_height a_kind a_figure a_rail a_mood a_sight a_moving a_shut a_people a_needed a_day p1 = some (res, w_a_moving, w_a_shut, w_a_people, w_a_needed, w_a_day, w_a_height, w_a_kind, w_a_figure, w_a_rail, w_a_mood, w_a_sight)) : Wr l E yX6_tryStatement cX6_tryStatement 6 (some .boolean) ({ frames := 5, cells := 0, slots := 0, locals := 110 }) [.ref q_h, .int p1, .ref a_h] [oSh q_h q_a0 q_holds q_kind q_figure q_sort q_size, ai E q_a0 100 q_elements, oSt a_h a_a0 a_a1 a_a2 a_a3 a_a4 a_a5 a_moving a_shut a_people a_needed a_day, ai E a_a0 10 a_height, ai E a_a1 7 a_kind, ai E a_a2 7 a_figure, ai E a_a3 7 a_rail, ai E a_a4 7 a_mood, ai E a_a5 7 a_sight] [oSh q_h q_a0 q_holds q_kind q_figure q_sort q_size, ai E q_a0 100 q_elements, oSt a_h a_a0 a_a1 a_a2 a_a3 a_a4 a_a5 w_a_moving w_a_shut w_a_people w_a_needed w_a_day, ai E a_a0 10 w_a_height, ai E a_a1 7 w_a_kind, ai E a_a2 7 w_a_figure, ai E a_a3 7 w_a_rail, ai E a_a4 7 w_a_mood, ai E a_a5 7 w_a_sight] (some (.int res)) := by
  refine Wr.intro RX6 (by decide) rfl (Nat.le_of_ble_eq_true rfl) ?_
  intro p e s m below meth c ls A hC hr hlk hmn hP hD hS hA hG hl
  obtain ⟨hx, hb, hml, hown, ht⟩ := id hC
  have hK := hG.1
  have hl : lv_has ls 6 [(0, .ref q_h), (1, .int p1), (2, .ref a_h)] := hl
  rw [f_X6_tryStatement] at hv
  refine lv_aload_n hx hb dX6_tryStatement_0 rfl (lv_at hl 0 rfl) ?_
  refine lv_iload_n hx hb dX6_tryStatement_1 rfl (lv_at hl 1 rfl) ?_
  refine lv_iconst (v := (1 : Int32)) hx hb dX6_tryStatement_2 (by decide) ?_
  refine lv_iadd hx hb dX6_tryStatement_3 ?_
  obtain ⟨r1, h2, hv⟩ := ob_s hv
  refine rdV 1 0 (As := [.int (p1 + (1 : Int32))]) (rest := []) (st1 := [.int r1]) (w := [oSh q_h q_a0 q_holds q_kind q_figure q_sort q_size, ai E q_a0 100 q_elements]) hC q_X7_at kw_1_184 (c_X7_at l E q_h q_a0 q_elements q_holds q_kind q_figure q_sort q_size (p1 + (1 : Int32)) r1 h2) ⟨rfl, rfl⟩ ⟨Nat.le_of_ble_eq_true rfl, Nat.le_of_ble_eq_true rfl⟩ ⟨Nat.zero_le _, Nat.zero_le _⟩ (hP.sub (ws' := [oSh q_h q_a0 q_holds q_kind q_figure q_sort q_size, ai E q_a0 100 q_elements]) [0, 1] rfl) rfl rfl rfl hG rfl hl.1 rfl (Nat.le_of_ble_eq_true rfl) dX6_tryStatement_4 rfl ?_
  refine lv_bipush (v := (48 : Int32)) hx hb dX6_tryStatement_7 (by decide) ?_
  refine lv_isub hx hb dX6_tryStatement_9 ?_
  refine lv_istore_n (lv' := [(3, .int (r1 - (48 : Int32))), (0, .ref q_h), (1, .int p1), (2, .ref a_h)]) hx hb dX6_tryStatement_10 rfl hl (by decide) rfl (fun ls hl => ?_)
  refine lv_aload_n hx hb dX6_tryStatement_11 rfl (lv_at hl 1 rfl) ?_
  refine lv_iload_n hx hb dX6_tryStatement_12 rfl (lv_at hl 2 rfl) ?_
  refine lv_iconst (v := (2 : Int32)) hx hb dX6_tryStatement_13 (by decide) ?_
  refine lv_iadd hx hb dX6_tryStatement_14 ?_
  obtain ⟨r3, h4, hv⟩ := ob_s hv
  refine rdV 1 0 (As := [.int (p1 + (2 : Int32))]) (rest := []) (st1 := [.int r3]) (w := [oSh q_h q_a0 q_holds q_kind q_figure q_sort q_size, ai E q_a0 100 q_elements]) hC q_X7_at kw_1_184 (c_X7_at l E q_h q_a0 q_elements q_holds q_kind q_figure q_sort q_size (p1 + (2 : Int32)) r3 h4) ⟨rfl, rfl⟩ ⟨Nat.le_of_ble_eq_true rfl, Nat.le_of_ble_eq_true rfl⟩ ⟨Nat.zero_le _, Nat.zero_le _⟩ (hP.sub (ws' := [oSh q_h q_a0 q_holds q_kind q_figure q_sort q_size, ai E q_a0 100 q_elements]) [0, 1] rfl) rfl rfl rfl hG rfl hl.1 rfl (Nat.le_of_ble_eq_true rfl) dX6_tryStatement_15 rfl ?_
  refine lv_bipush (v := (48 : Int32)) hx hb dX6_tryStatement_18 (by decide) ?_
  refine lv_isub hx hb dX6_tryStatement_20 ?_
  refine lv_istore (lv' := [(4, .int (r3 - (48 : Int32))), (3, .int (r1 - (48 : Int32))), (0, .ref q_h), (1, .int p1), (2, .ref a_h)]) hx hb dX6_tryStatement_21 hl (by decide) rfl (fun ls hl => ?_)
  refine lv_bipush (v := (10 : Int32)) hx hb dX6_tryStatement_23 (by decide) ?_
  refine lv_iload_n hx hb dX6_tryStatement_25 rfl (lv_at hl 1 rfl) ?_
  refine lv_imul hx hb dX6_tryStatement_26 ?_
  refine lv_iload hx hb dX6_tryStatement_27 (lv_at hl 0 rfl) ?_
  refine lv_iadd hx hb dX6_tryStatement_29 ?_
  refine lv_topi (fun z5 ez5 => ?_)
  have hv := nm_s ez5 hv
  refine lv_istore (lv' := [(5, .int z5), (4, .int (r3 - (48 : Int32))), (3, .int (r1 - (48 : Int32))), (0, .ref q_h), (1, .int p1), (2, .ref a_h)]) hx hb dX6_tryStatement_30 hl (by decide) rfl (fun ls hl => ?_)
  refine lv_aload_n hx hb dX6_tryStatement_32 rfl (lv_at hl 3 rfl) ?_
  refine lv_iload_n hx hb dX6_tryStatement_33 rfl (lv_at hl 4 rfl) ?_
  obtain ⟨r6, h7, hv⟩ := ob_s hv
  refine rdV 1 0 (As := [.int p1]) (rest := []) (st1 := [.int r6]) (w := [oSh q_h q_a0 q_holds q_kind q_figure q_sort q_size, ai E q_a0 100 q_elements]) hC q_X7_at kw_1_184 (c_X7_at l E q_h q_a0 q_elements q_holds q_kind q_figure q_sort q_size p1 r6 h7) ⟨rfl, rfl⟩ ⟨Nat.le_of_ble_eq_true rfl, Nat.le_of_ble_eq_true rfl⟩ ⟨Nat.zero_le _, Nat.zero_le _⟩ (hP.sub (ws' := [oSh q_h q_a0 q_holds q_kind q_figure q_sort q_size, ai E q_a0 100 q_elements]) [0, 1] rfl) rfl rfl rfl hG rfl hl.1 rfl (Nat.le_of_ble_eq_true rfl) dX6_tryStatement_34 rfl ?_
  rcases Decidable.em (r6 = (97 : Int32)) with c8 | c8
  · have hv := if_y c8 hv
    refine lv_tableIn (tgt := 162) (off := 125) hx hb dX6_tryStatement_37 (by rw [c8]; decide) (by rw [c8]; decide) (by rw [c8]; rfl) (by decide) ?_
    refine lv_aload_n hx hb dX6_tryStatement_162 rfl (lv_at hl 5 rfl) ?_
    refine lv_iload_n hx hb dX6_tryStatement_163 rfl (lv_at hl 2 rfl) ?_
    refine lv_iload hx hb dX6_tryStatement_164 (lv_at hl 1 rfl) ?_
    refine lv_ineg hx hb dX6_tryStatement_166 ?_
    obtain ⟨⟨r9, y10⟩, h11, hv⟩ := ob_s hv
    refine wrS (as := [q_h, q_a0, a_h, a_a0, a_a1, a_a2, a_a3, a_a4, a_a5]) (wr := [oSh q_h q_a0 q_holds q_kind q_figure q_sort q_size, ai E q_a0 100 q_elements]) [2, 3, 4, 5, 6, 7, 8] [0, 1] (ws := [oSh q_h q_a0 q_holds q_kind q_figure q_sort q_size, ai E q_a0 100 q_elements, oSt a_h a_a0 a_a1 a_a2 a_a3 a_a4 a_a5 a_moving a_shut a_people a_needed a_day, ai E a_a0 10 a_height, ai E a_a1 7 a_kind, ai E a_a2 7 a_figure, ai E a_a3 7 a_rail, ai E a_a4 7 a_mood, ai E a_a5 7 a_sight]) (ws' := [oSh q_h q_a0 q_holds q_kind q_figure q_sort q_size, ai E q_a0 100 q_elements, oSt a_h a_a0 a_a1 a_a2 a_a3 a_a4 a_a5 a_moving a_shut a_people a_needed a_day, ai E a_a0 10 a_height, ai E a_a1 7 a_kind, ai E a_a2 7 a_figure, ai E a_a3 7 a_rail, ai E a_a4 7 y10, ai E a_a5 7 a_sight]) (rest := []) (st1 := [.int r9]) hC q_X6_tryMood kw_1_217 (c_X6_tryMood l E a_h a_a0 a_a1 a_a2 a_a3 a_a4 a_a5 a_height a_kind a_figure a_rail a_mood a_sight a_moving a_shut a_people a_needed a_day (r1 - (48 : Int32)) (-(r3 - (48 : Int32))) r9 y10 h11) ⟨rfl, rfl⟩ ⟨Nat.le_of_ble_eq_true rfl, Nat.le_of_ble_eq_true rfl⟩ ⟨Nat.zero_le _, Nat.zero_le _⟩ hP hD hS hA hG (by decide) rfl rfl rfl rfl rfl rfl rfl rfl hl.1 rfl (Nat.le_of_ble_eq_true rfl) dX6_tryStatement_167 rfl (fun H locs hP hD hS => ?_)
    obtain ⟨g12, hv⟩ := gd_s hv
    cases hv
    exact W.zret hx hb hr (bz_s g12) (fun t h9 _ => ⟨rfl, by rw [h9]; exact hP, hS.F h9⟩) hS.2.2 dX6_tryStatement_170 hlk
  · have hv := if_n c8 hv
    rcases Decidable.em (r6 = (98 : Int32)) with c13 | c13
    · have hv := if_y c13 hv
      refine lv_tableIn (tgt := 128) (off := 91) hx hb dX6_tryStatement_37 (by rw [c13]; decide) (by rw [c13]; decide) (by rw [c13]; rfl) (by decide) ?_
      refine lv_aload_n hx hb dX6_tryStatement_128 rfl (lv_at hl 5 rfl) ?_
      refine lv_iload_n hx hb dX6_tryStatement_129 rfl (lv_at hl 2 rfl) ?_
      refine lv_iload hx hb dX6_tryStatement_130 (lv_at hl 1 rfl) ?_
      obtain ⟨⟨r14, y15⟩, h16, hv⟩ := ob_s hv
      refine wrS (as := [q_h, q_a0, a_h, a_a0, a_a1, a_a2, a_a3, a_a4, a_a5]) (wr := [oSh q_h q_a0 q_holds q_kind q_figure q_sort q_size, ai E q_a0 100 q_elements]) [2, 3, 4, 5, 6, 7, 8] [0, 1] (ws := [oSh q_h q_a0 q_holds q_kind q_figure q_sort q_size, ai E q_a0 100 q_elements, oSt a_h a_a0 a_a1 a_a2 a_a3 a_a4 a_a5 a_moving a_shut a_people a_needed a_day, ai E a_a0 10 a_height, ai E a_a1 7 a_kind, ai E a_a2 7 a_figure, ai E a_a3 7 a_rail, ai E a_a4 7 a_mood, ai E a_a5 7 a_sight]) (ws' := [oSh q_h q_a0 q_holds q_kind q_figure q_sort q_size, ai E q_a0 100 q_elements, oSt a_h a_a0 a_a1 a_a2 a_a3 a_a4 a_a5 a_moving a_shut a_people a_needed a_day, ai E a_a0 10 y15, ai E a_a1 7 a_kind, ai E a_a2 7 a_figure, ai E a_a3 7 a_rail, ai E a_a4 7 a_mood, ai E a_a5 7 a_sight]) (rest := []) (st1 := [.int r14]) hC q_X6_tryHeight kw_1_199 (c_X6_tryHeight l E a_h a_a0 a_a1 a_a2 a_a3 a_a4 a_a5 a_height a_kind a_figure a_rail a_mood a_sight a_moving a_shut a_people a_needed a_day (r1 - (48 : Int32)) (r3 - (48 : Int32)) r14 y15 h16) ⟨rfl, rfl⟩ ⟨Nat.le_of_ble_eq_true rfl, Nat.le_of_ble_eq_true rfl⟩ ⟨Nat.zero_le _, Nat.zero_le _⟩ hP hD hS hA hG (by decide) rfl rfl rfl rfl rfl rfl rfl rfl hl.1 rfl (Nat.le_of_ble_eq_true rfl) dX6_tryStatement_132 rfl (fun H locs hP hD hS => ?_)
      obtain ⟨g17, hv⟩ := gd_s hv
      cases hv
      exact W.zret hx hb hr (bz_s g17) (fun t h9 _ => ⟨rfl, by rw [h9]; exact hP, hS.F h9⟩) hS.2.2 dX6_tryStatement_135 hlk
    · have hv := if_n c13 hv
      rcases Decidable.em (r6 = (102 : Int32)) with c18 | c18
      · have hv := if_y c18 hv
        refine lv_tableIn (tgt := 154) (off := 117) hx hb dX6_tryStatement_37 (by rw [c18]; decide) (by rw [c18]; decide) (by rw [c18]; rfl) (by decide) ?_
        refine lv_aload_n hx hb dX6_tryStatement_154 rfl (lv_at hl 5 rfl) ?_
        refine lv_iload_n hx hb dX6_tryStatement_155 rfl (lv_at hl 2 rfl) ?_
        refine lv_iload hx hb dX6_tryStatement_156 (lv_at hl 1 rfl) ?_
        obtain ⟨⟨r19, y20⟩, h21, hv⟩ := ob_s hv
        refine wrS (as := [q_h, q_a0, a_h, a_a0, a_a1, a_a2, a_a3, a_a4, a_a5]) (wr := [oSh q_h q_a0 q_holds q_kind q_figure q_sort q_size, ai E q_a0 100 q_elements]) [2, 3, 4, 5, 6, 7, 8] [0, 1] (ws := [oSh q_h q_a0 q_holds q_kind q_figure q_sort q_size, ai E q_a0 100 q_elements, oSt a_h a_a0 a_a1 a_a2 a_a3 a_a4 a_a5 a_moving a_shut a_people a_needed a_day, ai E a_a0 10 a_height, ai E a_a1 7 a_kind, ai E a_a2 7 a_figure, ai E a_a3 7 a_rail, ai E a_a4 7 a_mood, ai E a_a5 7 a_sight]) (ws' := [oSh q_h q_a0 q_holds q_kind q_figure q_sort q_size, ai E q_a0 100 q_elements, oSt a_h a_a0 a_a1 a_a2 a_a3 a_a4 a_a5 a_moving a_shut a_people a_needed a_day, ai E a_a0 10 a_height, ai E a_a1 7 a_kind, ai E a_a2 7 a_figure, ai E a_a3 7 a_rail, ai E a_a4 7 y20, ai E a_a5 7 a_sight]) (rest := []) (st1 := [.int r19]) hC q_X6_tryMood kw_1_217 (c_X6_tryMood l E a_h a_a0 a_a1 a_a2 a_a3 a_a4 a_a5 a_height a_kind a_figure a_rail a_mood a_sight a_moving a_shut a_people a_needed a_day (r1 - (48 : Int32)) (r3 - (48 : Int32)) r19 y20 h21) ⟨rfl, rfl⟩ ⟨Nat.le_of_ble_eq_true rfl, Nat.le_of_ble_eq_true rfl⟩ ⟨Nat.zero_le _, Nat.zero_le _⟩ hP hD hS hA hG (by decide) rfl rfl rfl rfl rfl rfl rfl rfl hl.1 rfl (Nat.le_of_ble_eq_true rfl) dX6_tryStatement_158 rfl (fun H locs hP hD hS => ?_)
        obtain ⟨g22, hv⟩ := gd_s hv
        cases hv
        exact W.zret hx hb hr (bz_s g22) (fun t h9 _ => ⟨rfl, by rw [h9]; exact hP, hS.F h9⟩) hS.2.2 dX6_tryStatement_161 hlk
      · have hv := if_n c18 hv
        rcases Decidable.em (r6 = (111 : Int32)) with c23 | c23
        · have hv := if_y c23 hv
          refine lv_tableIn (tgt := 171) (off := 134) hx hb dX6_tryStatement_37 (by rw [c23]; decide) (by rw [c23]; decide) (by rw [c23]; rfl) (by decide) ?_
          refine lv_aload_n hx hb dX6_tryStatement_171 rfl (lv_at hl 5 rfl) ?_
          refine lv_iload_n hx hb dX6_tryStatement_172 rfl (lv_at hl 2 rfl) ?_
          obtain ⟨⟨r24, y25⟩, h26, hv⟩ := ob_s hv
          refine wrS (as := [q_h, q_a0, a_h, a_a0, a_a1, a_a2, a_a3, a_a4, a_a5]) (wr := [oSh q_h q_a0 q_holds q_kind q_figure q_sort q_size, ai E q_a0 100 q_elements]) [2, 3, 4, 5, 6, 7, 8] [0, 1] (ws := [oSh q_h q_a0 q_holds q_kind q_figure q_sort q_size, ai E q_a0 100 q_elements, oSt a_h a_a0 a_a1 a_a2 a_a3 a_a4 a_a5 a_moving a_shut a_people a_needed a_day, ai E a_a0 10 a_height, ai E a_a1 7 a_kind, ai E a_a2 7 a_figure, ai E a_a3 7 a_rail, ai E a_a4 7 a_mood, ai E a_a5 7 a_sight]) (ws' := [oSh q_h q_a0 q_holds q_kind q_figure q_sort q_size, ai E q_a0 100 q_elements, oSt a_h a_a0 a_a1 a_a2 a_a3 a_a4 a_a5 a_moving y25 a_people a_needed a_day, ai E a_a0 10 a_height, ai E a_a1 7 a_kind, ai E a_a2 7 a_figure, ai E a_a3 7 a_rail, ai E a_a4 7 a_mood, ai E a_a5 7 a_sight]) (rest := []) (st1 := [.int r24]) hC q_X6_tryShutter kw_1_224 (c_X6_tryShutter l E a_h a_a0 a_a1 a_a2 a_a3 a_a4 a_a5 a_height a_kind a_figure a_rail a_mood a_sight a_moving a_shut a_people a_needed a_day (r1 - (48 : Int32)) r24 y25 h26) ⟨rfl, rfl⟩ ⟨Nat.le_of_ble_eq_true rfl, Nat.le_of_ble_eq_true rfl⟩ ⟨Nat.zero_le _, Nat.zero_le _⟩ hP hD hS hA hG (by decide) rfl rfl rfl rfl rfl rfl rfl rfl hl.1 rfl (Nat.le_of_ble_eq_true rfl) dX6_tryStatement_173 rfl (fun H locs hP hD hS => ?_)
          obtain ⟨g27, hv⟩ := gd_s hv
          cases hv
          exact W.zret hx hb hr (bz_s g27) (fun t h9 _ => ⟨rfl, by rw [h9]; exact hP, hS.F h9⟩) hS.2.2 dX6_tryStatement_176 hlk
        · have hv := if_n c23 hv
          rcases Decidable.em (r6 = (113 : Int32)) with c28 | c28
          · have hv := if_y c28 hv
            refine lv_tableIn (tgt := 177) (off := 140) hx hb dX6_tryStatement_37 (by rw [c28]; decide) (by rw [c28]; decide) (by rw [c28]; rfl) (by decide) ?_
            refine lv_aload_n hx hb dX6_tryStatement_177 rfl (lv_at hl 5 rfl) ?_
            refine lv_iload hx hb dX6_tryStatement_178 (lv_at hl 0 rfl) ?_
            obtain ⟨⟨r29, y30⟩, h31, hv⟩ := ob_s hv
            refine wrS (as := [q_h, q_a0, a_h, a_a0, a_a1, a_a2, a_a3, a_a4, a_a5]) (wr := [oSh q_h q_a0 q_holds q_kind q_figure q_sort q_size, ai E q_a0 100 q_elements]) [2, 3, 4, 5, 6, 7, 8] [0, 1] (ws := [oSh q_h q_a0 q_holds q_kind q_figure q_sort q_size, ai E q_a0 100 q_elements, oSt a_h a_a0 a_a1 a_a2 a_a3 a_a4 a_a5 a_moving a_shut a_people a_needed a_day, ai E a_a0 10 a_height, ai E a_a1 7 a_kind, ai E a_a2 7 a_figure, ai E a_a3 7 a_rail, ai E a_a4 7 a_mood, ai E a_a5 7 a_sight]) (ws' := [oSh q_h q_a0 q_holds q_kind q_figure q_sort q_size, ai E q_a0 100 q_elements, oSt a_h a_a0 a_a1 a_a2 a_a3 a_a4 a_a5 a_moving a_shut a_people y30 a_day, ai E a_a0 10 a_height, ai E a_a1 7 a_kind, ai E a_a2 7 a_figure, ai E a_a3 7 a_rail, ai E a_a4 7 a_mood, ai E a_a5 7 a_sight]) (rest := []) (st1 := [.int r29]) hC q_X6_tryQuota kw_1_231 (c_X6_tryQuota l E a_h a_a0 a_a1 a_a2 a_a3 a_a4 a_a5 a_height a_kind a_figure a_rail a_mood a_sight a_moving a_shut a_people a_needed a_day z5 r29 y30 h31) ⟨rfl, rfl⟩ ⟨Nat.le_of_ble_eq_true rfl, Nat.le_of_ble_eq_true rfl⟩ ⟨Nat.zero_le _, Nat.zero_le _⟩ hP hD hS hA hG (by decide) rfl rfl rfl rfl rfl rfl rfl rfl hl.1 rfl (Nat.le_of_ble_eq_true rfl) dX6_tryStatement_180 rfl (fun H locs hP hD hS => ?_)
            obtain ⟨g32, hv⟩ := gd_s hv
            cases hv
            exact W.zret hx hb hr (bz_s g32) (fun t h9 _ => ⟨rfl, by rw [h9]; exact hP, hS.F h9⟩) hS.2.2 dX6_tryStatement_183 hlk
          · have hv := if_n c28 hv
            rcases Decidable.em (r6 = (115 : Int32)) with c33 | c33
            · have hv := if_y c33 hv
              refine lv_tableIn (tgt := 136) (off := 99) hx hb dX6_tryStatement_37 (by rw [c33]; decide) (by rw [c33]; decide) (by rw [c33]; rfl) (by decide) ?_
              refine lv_aload_n hx hb dX6_tryStatement_136 rfl (lv_at hl 5 rfl) ?_
              refine lv_iload_n hx hb dX6_tryStatement_137 rfl (lv_at hl 2 rfl) ?_
              refine lv_iload hx hb dX6_tryStatement_138 (lv_at hl 1 rfl) ?_
              refine lv_aload_n hx hb dX6_tryStatement_140 rfl (lv_at hl 3 rfl) ?_
              refine lv_iload_n hx hb dX6_tryStatement_141 rfl (lv_at hl 4 rfl) ?_
              refine lv_iconst (v := (3 : Int32)) hx hb dX6_tryStatement_142 (by decide) ?_
              refine lv_iadd hx hb dX6_tryStatement_143 ?_
              obtain ⟨r34, h35, hv⟩ := ob_s hv
              refine rdV 1 0 (As := [.int (p1 + (3 : Int32))]) (rest := [.int (r3 - (48 : Int32)), .int (r1 - (48 : Int32)), .ref a_h]) (st1 := [.int r34, .int (r3 - (48 : Int32)), .int (r1 - (48 : Int32)), .ref a_h]) (w := [oSh q_h q_a0 q_holds q_kind q_figure q_sort q_size, ai E q_a0 100 q_elements]) hC q_X7_at kw_1_184 (c_X7_at l E q_h q_a0 q_elements q_holds q_kind q_figure q_sort q_size (p1 + (3 : Int32)) r34 h35) ⟨rfl, rfl⟩ ⟨Nat.le_of_ble_eq_true rfl, Nat.le_of_ble_eq_true rfl⟩ ⟨Nat.zero_le _, Nat.zero_le _⟩ (hP.sub (ws' := [oSh q_h q_a0 q_holds q_kind q_figure q_sort q_size, ai E q_a0 100 q_elements]) [0, 1] rfl) rfl rfl rfl hG rfl hl.1 rfl (Nat.le_of_ble_eq_true rfl) dX6_tryStatement_144 rfl ?_
              refine lv_bipush (v := (48 : Int32)) hx hb dX6_tryStatement_147 (by decide) ?_
              refine lv_isub hx hb dX6_tryStatement_149 ?_
              obtain ⟨⟨r36, y37, y38, y39, y40, y41⟩, h42, hv⟩ := ob_s hv
              refine wrS (as := [q_h, q_a0, a_h, a_a0, a_a1, a_a2, a_a3, a_a4, a_a5]) (wr := [oSh q_h q_a0 q_holds q_kind q_figure q_sort q_size, ai E q_a0 100 q_elements]) [2, 3, 4, 5, 6, 7, 8] [0, 1] (ws := [oSh q_h q_a0 q_holds q_kind q_figure q_sort q_size, ai E q_a0 100 q_elements, oSt a_h a_a0 a_a1 a_a2 a_a3 a_a4 a_a5 a_moving a_shut a_people a_needed a_day, ai E a_a0 10 a_height, ai E a_a1 7 a_kind, ai E a_a2 7 a_figure, ai E a_a3 7 a_rail, ai E a_a4 7 a_mood, ai E a_a5 7 a_sight]) (ws' := [oSh q_h q_a0 q_holds q_kind q_figure q_sort q_size, ai E q_a0 100 q_elements, oSt a_h a_a0 a_a1 a_a2 a_a3 a_a4 a_a5 a_moving a_shut y37 a_needed a_day, ai E a_a0 10 a_height, ai E a_a1 7 y38, ai E a_a2 7 y39, ai E a_a3 7 y40, ai E a_a4 7 y41, ai E a_a5 7 a_sight]) (rest := []) (st1 := [.int r36]) hC q_X6_tryToAdmit kw_1_205 (c_X6_tryToAdmit l E a_h a_a0 a_a1 a_a2 a_a3 a_a4 a_a5 a_height a_kind a_figure a_rail a_mood a_sight a_moving a_shut a_people a_needed a_day (r1 - (48 : Int32)) (r3 - (48 : Int32)) (r34 - (48 : Int32)) r36 y37 y38 y39 y40 y41 h42) ⟨rfl, rfl⟩ ⟨Nat.le_of_ble_eq_true rfl, Nat.le_of_ble_eq_true rfl⟩ ⟨Nat.zero_le _, Nat.zero_le _⟩ hP hD hS hA hG (by decide) rfl rfl rfl rfl rfl rfl rfl rfl hl.1 rfl (Nat.le_of_ble_eq_true rfl) dX6_tryStatement_150 rfl (fun H locs hP hD hS => ?_)
              obtain ⟨g43, hv⟩ := gd_s hv
              cases hv
              exact W.zret hx hb hr (bz_s g43) (fun t h9 _ => ⟨rfl, by rw [h9]; exact hP, hS.F h9⟩) hS.2.2 dX6_tryStatement_153 hlk
            · have hv := if_n c33 hv
              refine lv_tableD (tgt := 184) hx hb dX6_tryStatement_37 (fun i h => match i, h with | 0, _ => Or.inr (lv_neT c8 (by decide)) | 1, _ => Or.inr (lv_neT c13 (by decide)) | 2, _ => Or.inl rfl | 3, _ => Or.inl rfl | 4, _ => Or.inl rfl | 5, _ => Or.inr (lv_neT c18 (by decide)) | 6, _ => Or.inl rfl | 7, _ => Or.inl rfl | 8, _ => Or.inl rfl | 9, _ => Or.inl rfl | 10, _ => Or.inl rfl | 11, _ => Or.inl rfl | 12, _ => Or.inl rfl | 13, _ => Or.inl rfl | 14, _ => Or.inr (lv_neT c23 (by decide)) | 15, _ => Or.inl rfl | 16, _ => Or.inr (lv_neT c28 (by decide)) | 17, _ => Or.inl rfl | 18, _ => Or.inr (lv_neT c33 (by decide)) | i + 19, h => absurd h (by simp)) rfl (by decide) ?_
              refine lv_aload_n hx hb dX6_tryStatement_184 rfl (lv_at hl 5 rfl) ?_
              refine lv_iload hx hb dX6_tryStatement_185 (lv_at hl 0 rfl) ?_
              obtain ⟨⟨r44, y45, y46, y47, y48⟩, h49, hv⟩ := ob_s hv
              refine wrS (as := [q_h, q_a0, a_h, a_a0, a_a1, a_a2, a_a3, a_a4, a_a5]) (wr := [oSh q_h q_a0 q_holds q_kind q_figure q_sort q_size, ai E q_a0 100 q_elements]) [2, 3, 4, 5, 6, 7, 8] [0, 1] (ws := [oSh q_h q_a0 q_holds q_kind q_figure q_sort q_size, ai E q_a0 100 q_elements, oSt a_h a_a0 a_a1 a_a2 a_a3 a_a4 a_a5 a_moving a_shut a_people a_needed a_day, ai E a_a0 10 a_height, ai E a_a1 7 a_kind, ai E a_a2 7 a_figure, ai E a_a3 7 a_rail, ai E a_a4 7 a_mood, ai E a_a5 7 a_sight]) (ws' := [oSh q_h q_a0 q_holds q_kind q_figure q_sort q_size, ai E q_a0 100 q_elements, oSt a_h a_a0 a_a1 a_a2 a_a3 a_a4 a_a5 y45 a_shut a_people a_needed y46, ai E a_a0 10 a_height, ai E a_a1 7 a_kind, ai E a_a2 7 a_figure, ai E a_a3 7 a_rail, ai E a_a4 7 y47, ai E a_a5 7 y48]) (rest := []) (st1 := [.int r44]) hC q_X6_tryDays kw_1_234 (c_X6_tryDays l E a_h a_a0 a_a1 a_a2 a_a3 a_a4 a_a5 a_height a_kind a_figure a_rail a_mood a_sight a_moving a_shut a_people a_needed a_day z5 N r44 y45 y46 y47 y48 h49) ⟨rfl, rfl⟩ ⟨Nat.le_of_ble_eq_true rfl, Nat.le_of_ble_eq_true rfl⟩ ⟨Nat.zero_le _, Nat.zero_le _⟩ hP hD hS hA hG (by decide) rfl rfl rfl rfl rfl rfl rfl rfl hl.1 rfl (Nat.le_of_ble_eq_true rfl) dX6_tryStatement_187 rfl (fun H locs hP hD hS => ?_)
              obtain ⟨g50, hv⟩ := gd_s hv
              cases hv
              exact W.zret hx hb hr (bz_s g50) (fun t h9 _ => ⟨rfl, by rw [h9]; exact hP, hS.F h9⟩) hS.2.2 dX6_tryStatement_190 hlk
theorem dX6_placeOfUnfitByte_0 : decode cX6_placeOfUnfitByte 0 = .ok (.iconst (-1), 1) := by decide +kernel
theorem dX6_placeOfUnfitByte_1 : decode cX6_placeOfUnfitByte 1 = .ok (.istore_n 1, 1) := by decide +kernel
theorem dX6_placeOfUnfitByte_2 : decode cX6_placeOfUnfitByte 2 = .ok (.iconst 0, 1) := by decide +kernel
theorem dX6_placeOfUnfitByte_3 : decode cX6_placeOfUnfitByte 3 = .ok (.istore_n 2, 1) := by decide +kernel
theorem dX6_placeOfUnfitByte_4 : decode cX6_placeOfUnfitByte 4 = .ok (.iload_n 2, 1) := by decide +kernel
theorem dX6_placeOfUnfitByte_5 : decode cX6_placeOfUnfitByte 5 = .ok (.aload_n 0, 1) := by decide +kernel
theorem dX6_placeOfUnfitByte_6 : decode cX6_placeOfUnfitByte 6 = .ok (.getfield 15, 3) := by decide +kernel
theorem dX6_placeOfUnfitByte_9 : decode cX6_placeOfUnfitByte 9 = .ok (.if_icmp .ge 65, 3) := by decide +kernel
theorem dX6_placeOfUnfitByte_12 : decode cX6_placeOfUnfitByte 12 = .ok (.aload_n 0, 1) := by decide +kernel
theorem dX6_placeOfUnfitByte_13 : decode cX6_placeOfUnfitByte 13 = .ok (.iload_n 2, 1) := by decide +kernel
theorem dX6_placeOfUnfitByte_14 : decode cX6_placeOfUnfitByte 14 = .ok (.invokevirtual 25, 3) := by decide +kernel
theorem dX6_placeOfUnfitByte_17 : decode cX6_placeOfUnfitByte 17 = .ok (.istore_n 3, 1) := by decide +kernel
theorem dX6_placeOfUnfitByte_18 : decode cX6_placeOfUnfitByte 18 = .ok (.iload_n 1, 1) := by decide +kernel
theorem dX6_placeOfUnfitByte_19 : decode cX6_placeOfUnfitByte 19 = .ok (.iconst (-1), 1) := by decide +kernel
theorem dX6_placeOfUnfitByte_20 : decode cX6_placeOfUnfitByte 20 = .ok (.if_icmp .ne 15, 3) := by decide +kernel
theorem dX6_placeOfUnfitByte_23 : decode cX6_placeOfUnfitByte 23 = .ok (.iload_n 3, 1) := by decide +kernel
theorem dX6_placeOfUnfitByte_24 : decode cX6_placeOfUnfitByte 24 = .ok (.invokestatic 29, 3) := by decide +kernel
theorem dX6_placeOfUnfitByte_27 : decode cX6_placeOfUnfitByte 27 = .ok (.istore_n 1, 1) := by decide +kernel
theorem dX6_placeOfUnfitByte_28 : decode cX6_placeOfUnfitByte 28 = .ok (.iload_n 1, 1) := by decide +kernel
theorem dX6_placeOfUnfitByte_29 : decode cX6_placeOfUnfitByte 29 = .ok (.iconst 1, 1) := by decide +kernel
theorem dX6_placeOfUnfitByte_30 : decode cX6_placeOfUnfitByte 30 = .ok (.if_icmp .ge 38, 3) := by decide +kernel
theorem dX6_placeOfUnfitByte_33 : decode cX6_placeOfUnfitByte 33 = .ok (.iload_n 2, 1) := by decide +kernel
theorem dX6_placeOfUnfitByte_34 : decode cX6_placeOfUnfitByte 34 = .ok (.ireturn, 1) := by decide +kernel
theorem dX6_placeOfUnfitByte_35 : decode cX6_placeOfUnfitByte 35 = .ok (.iload_n 1, 1) := by decide +kernel
theorem dX6_placeOfUnfitByte_36 : decode cX6_placeOfUnfitByte 36 = .ok (.ifCond .le 22, 3) := by decide +kernel
theorem dX6_placeOfUnfitByte_39 : decode cX6_placeOfUnfitByte 39 = .ok (.iload_n 3, 1) := by decide +kernel
theorem dX6_placeOfUnfitByte_40 : decode cX6_placeOfUnfitByte 40 = .ok (.bipush 48, 2) := by decide +kernel
theorem dX6_placeOfUnfitByte_42 : decode cX6_placeOfUnfitByte 42 = .ok (.bipush 57, 2) := by decide +kernel
theorem dX6_placeOfUnfitByte_44 : decode cX6_placeOfUnfitByte 44 = .ok (.invokestatic 32, 3) := by decide +kernel
theorem dX6_placeOfUnfitByte_47 : decode cX6_placeOfUnfitByte 47 = .ok (.ifCond .ne 5, 3) := by decide +kernel
theorem dX6_placeOfUnfitByte_50 : decode cX6_placeOfUnfitByte 50 = .ok (.iload_n 2, 1) := by decide +kernel
theorem dX6_placeOfUnfitByte_51 : decode cX6_placeOfUnfitByte 51 = .ok (.ireturn, 1) := by decide +kernel
theorem dX6_placeOfUnfitByte_52 : decode cX6_placeOfUnfitByte 52 = .ok (.iinc 1 (-1), 3) := by decide +kernel
theorem dX6_placeOfUnfitByte_55 : decode cX6_placeOfUnfitByte 55 = .ok (.goto 13, 3) := by decide +kernel
theorem dX6_placeOfUnfitByte_58 : decode cX6_placeOfUnfitByte 58 = .ok (.iload_n 3, 1) := by decide +kernel
theorem dX6_placeOfUnfitByte_59 : decode cX6_placeOfUnfitByte 59 = .ok (.bipush 59, 2) := by decide +kernel
theorem dX6_placeOfUnfitByte_61 : decode cX6_placeOfUnfitByte 61 = .ok (.if_icmp .eq 5, 3) := by decide +kernel
theorem dX6_placeOfUnfitByte_64 : decode cX6_placeOfUnfitByte 64 = .ok (.iload_n 2, 1) := by decide +kernel
theorem dX6_placeOfUnfitByte_65 : decode cX6_placeOfUnfitByte 65 = .ok (.ireturn, 1) := by decide +kernel
theorem dX6_placeOfUnfitByte_66 : decode cX6_placeOfUnfitByte 66 = .ok (.iconst (-1), 1) := by decide +kernel
theorem dX6_placeOfUnfitByte_67 : decode cX6_placeOfUnfitByte 67 = .ok (.istore_n 1, 1) := by decide +kernel
theorem dX6_placeOfUnfitByte_68 : decode cX6_placeOfUnfitByte 68 = .ok (.iinc 2 1, 3) := by decide +kernel
theorem dX6_placeOfUnfitByte_71 : decode cX6_placeOfUnfitByte 71 = .ok (.goto (-67), 3) := by decide +kernel
theorem dX6_placeOfUnfitByte_74 : decode cX6_placeOfUnfitByte 74 = .ok (.aload_n 0, 1) := by decide +kernel
theorem dX6_placeOfUnfitByte_75 : decode cX6_placeOfUnfitByte 75 = .ok (.getfield 15, 3) := by decide +kernel
theorem dX6_placeOfUnfitByte_78 : decode cX6_placeOfUnfitByte 78 = .ok (.ifCond .le 12, 3) := by decide +kernel
theorem dX6_placeOfUnfitByte_81 : decode cX6_placeOfUnfitByte 81 = .ok (.iload_n 1, 1) := by decide +kernel
theorem dX6_placeOfUnfitByte_82 : decode cX6_placeOfUnfitByte 82 = .ok (.iconst (-1), 1) := by decide +kernel
theorem dX6_placeOfUnfitByte_83 : decode cX6_placeOfUnfitByte 83 = .ok (.if_icmp .ne 7, 3) := by decide +kernel
theorem dX6_placeOfUnfitByte_86 : decode cX6_placeOfUnfitByte 86 = .ok (.iconst (-1), 1) := by decide +kernel
theorem dX6_placeOfUnfitByte_87 : decode cX6_placeOfUnfitByte 87 = .ok (.goto 7, 3) := by decide +kernel
theorem dX6_placeOfUnfitByte_90 : decode cX6_placeOfUnfitByte 90 = .ok (.aload_n 0, 1) := by decide +kernel
theorem dX6_placeOfUnfitByte_91 : decode cX6_placeOfUnfitByte 91 = .ok (.getfield 15, 3) := by decide +kernel
theorem dX6_placeOfUnfitByte_94 : decode cX6_placeOfUnfitByte 94 = .ok (.ireturn, 1) := by decide +kernel
def L_X6_placeOfUnfitByte_4 (q_elements : Nat → Int32) (q_size : Int32) : Nat → Int32 → Int32 → Option (Int32)
  | 0, _, _ => none
  | n4 + 1, x1, x2 => if q_size ≤ x1 then if q_size ≤ 0 then some q_size else if x2 = (-1 : Int32) then some (-1 : Int32) else some q_size else ob (f_X7_at q_elements q_size x1) (fun r6 => if x2 = (-1 : Int32) then ob (f_X6_digitsBehind r6) (fun r14 => if (1 : Int32) ≤ r14 then L_X6_placeOfUnfitByte_4 q_elements q_size n4 (x1 + (1 : Int32)) r14 else some x1) else if x2 ≤ 0 then if r6 = (59 : Int32) then L_X6_placeOfUnfitByte_4 q_elements q_size n4 (x1 + (1 : Int32)) (-1 : Int32) else some x1 else ob (f_X9_isWithin r6 (48 : Int32) (57 : Int32)) (fun r11 => if r11 = 0 then some x1 else L_X6_placeOfUnfitByte_4 q_elements q_size n4 (x1 + (1 : Int32)) (x2 + (-1 : Int32))))
def f_X6_placeOfUnfitByte (N : Nat) (q_elements : Nat → Int32) (q_size : Int32) : Option (Int32) := L_X6_placeOfUnfitByte_4 q_elements q_size N (0 : Int32) (-1 : Int32)
set_option maxHeartbeats 4000000 in
set_option maxRecDepth 100000 in
theorem c_X6_placeOfUnfitByte (l : Launch) (E : EE) (q_h : Nat) (q_a0 : Nat) (q_elements : Nat → Int32) (q_holds : Int32) (q_kind : Int32) (q_figure : Int32) (q_sort : Int32) (q_size : Int32) (N : Nat) (res : Int32) (hv : f_X6_placeOfUnfitByte N q_elements q_size = some res) : Rd l E yX6_placeOfUnfitByte cX6_placeOfUnfitByte 4 (some .int) ({ frames := 2, cells := 0, slots := 0, locals := 42 }) [.ref q_h] [oSh q_h q_a0 q_holds q_kind q_figure q_sort q_size, ai E q_a0 100 q_elements] (some (.int res)) := by
  refine Rd.intro RX6 (by decide) rfl (Nat.le_of_ble_eq_true rfl) ?_
  intro p e s m below meth c ls hC hr hlk hP hG hl
  obtain ⟨hx, hb, hml, hown, ht⟩ := id hC
  have hK := hG.1
  have hl : lv_has ls 4 [(0, .ref q_h)] := hl
  rw [f_X6_placeOfUnfitByte] at hv
  refine lv_iconst (v := (-1 : Int32)) hx hb dX6_placeOfUnfitByte_0 (by decide) ?_
  refine lv_istore_n (lv' := [(1, .int (-1 : Int32)), (0, .ref q_h)]) hx hb dX6_placeOfUnfitByte_1 rfl hl (by decide) rfl (fun ls hl => ?_)
  refine lv_iconst (v := (0 : Int32)) hx hb dX6_placeOfUnfitByte_2 (by decide) ?_
  refine lv_istore_n (lv' := [(2, .int (0 : Int32)), (1, .int (-1 : Int32)), (0, .ref q_h)]) hx hb dX6_placeOfUnfitByte_3 rfl hl (by decide) rfl (fun ls hl => ?_)
  have hL4 : ∀ (n : Nat) (x1 : Int32) (x2 : Int32) (ls : Array Slot), lv_has ls 4 [(2, .int x1), (1, .int x2), (0, .ref q_h)] → L_X6_placeOfUnfitByte_4 q_elements q_size n x1 x2 = some res → W p l e ({ frames := 2, cells := 0, slots := 0, locals := 42 }) s m [.ref q_h].toArray below meth c s.heap [] 0 0 (MQ below (RdQ (some (.int res))) [.ref q_h].toArray s 0 0 (fun _ => False)) (F0 m 4 ls []) := by
    intro n
    induction n with
    | zero => intro x1 x2 ls hl hv; cases hv
    | succ n4 ih4 =>
      intro x1 x2 ls hl hv
      rw [L_X6_placeOfUnfitByte_4] at hv
      refine lv_iload_n hx hb dX6_placeOfUnfitByte_4 rfl (lv_at hl 0 rfl) ?_
      refine lv_aload_n hx hb dX6_placeOfUnfitByte_5 rfl (lv_at hl 2 rfl) ?_
      refine va_get (D := E.1) (ci := 1) (v := .int q_size) (C := RX7) (T := TX7) (N := 6) hx hb ht i_X7 hown hK hP 0 rfl rfl 5 (by decide) (ht _ kw_1_122) (fun _ h9 => h9) rfl dX6_placeOfUnfitByte_6 ?_
      refine lv_icmp_ge (tgt := 74) hx hb dX6_placeOfUnfitByte_9 (by decide) (fun c3 => ?_) (fun c3 => ?_)
      · have hv := if_y c3 hv
        refine lv_aload_n hx hb dX6_placeOfUnfitByte_74 rfl (lv_at hl 2 rfl) ?_
        refine va_get (D := E.1) (ci := 1) (v := .int q_size) (C := RX7) (T := TX7) (N := 6) hx hb ht i_X7 hown hK hP 0 rfl rfl 5 (by decide) (ht _ kw_1_122) (fun _ h9 => h9) rfl dX6_placeOfUnfitByte_75 ?_
        refine lv_if_le (tgt := 90) hx hb dX6_placeOfUnfitByte_78 (by decide) (fun c4 => ?_) (fun c4 => ?_)
        · have hv := if_y c4 hv
          refine lv_aload_n hx hb dX6_placeOfUnfitByte_90 rfl (lv_at hl 2 rfl) ?_
          refine va_get (D := E.1) (ci := 1) (v := .int q_size) (C := RX7) (T := TX7) (N := 6) hx hb ht i_X7 hown hK hP 0 rfl rfl 5 (by decide) (ht _ kw_1_122) (fun _ h9 => h9) rfl dX6_placeOfUnfitByte_91 ?_
          exact W.iret (v := q_size) hx hb hr (fun t h9 _ => ⟨rv_i hv, h9⟩) (fun q h => absurd h List.not_mem_nil) dX6_placeOfUnfitByte_94 hlk
        · have hv := if_n c4 hv
          refine lv_iload_n hx hb dX6_placeOfUnfitByte_81 rfl (lv_at hl 1 rfl) ?_
          refine lv_iconst (v := (-1 : Int32)) hx hb dX6_placeOfUnfitByte_82 (by decide) ?_
          refine lv_icmp_ne (tgt := 90) hx hb dX6_placeOfUnfitByte_83 (by decide) (fun c5 => ?_) (fun c5 => ?_)
          · have hv := if_n c5 hv
            refine lv_aload_n hx hb dX6_placeOfUnfitByte_90 rfl (lv_at hl 2 rfl) ?_
            refine va_get (D := E.1) (ci := 1) (v := .int q_size) (C := RX7) (T := TX7) (N := 6) hx hb ht i_X7 hown hK hP 0 rfl rfl 5 (by decide) (ht _ kw_1_122) (fun _ h9 => h9) rfl dX6_placeOfUnfitByte_91 ?_
            exact W.iret (v := q_size) hx hb hr (fun t h9 _ => ⟨rv_i hv, h9⟩) (fun q h => absurd h List.not_mem_nil) dX6_placeOfUnfitByte_94 hlk
          · have hv := if_y c5 hv
            refine lv_iconst (v := (-1 : Int32)) hx hb dX6_placeOfUnfitByte_86 (by decide) ?_
            refine lv_goto (tgt := 94) hx hb dX6_placeOfUnfitByte_87 (by decide) ?_
            exact W.iret (v := (-1 : Int32)) hx hb hr (fun t h9 _ => ⟨rv_i hv, h9⟩) (fun q h => absurd h List.not_mem_nil) dX6_placeOfUnfitByte_94 hlk
      · have hv := if_n c3 hv
        refine lv_aload_n hx hb dX6_placeOfUnfitByte_12 rfl (lv_at hl 2 rfl) ?_
        refine lv_iload_n hx hb dX6_placeOfUnfitByte_13 rfl (lv_at hl 0 rfl) ?_
        obtain ⟨r6, h7, hv⟩ := ob_s hv
        refine rdV 1 0 (As := [.int x1]) (rest := []) (st1 := [.int r6]) (w := [oSh q_h q_a0 q_holds q_kind q_figure q_sort q_size, ai E q_a0 100 q_elements]) hC q_X7_at kw_1_184 (c_X7_at l E q_h q_a0 q_elements q_holds q_kind q_figure q_sort q_size x1 r6 h7) ⟨rfl, rfl⟩ ⟨Nat.le_of_ble_eq_true rfl, Nat.le_of_ble_eq_true rfl⟩ ⟨Nat.zero_le _, Nat.zero_le _⟩ hP rfl rfl rfl hG rfl hl.1 rfl (Nat.le_of_ble_eq_true rfl) dX6_placeOfUnfitByte_14 rfl ?_
        refine lv_istore_n (lv' := [(3, .int r6), (2, .int x1), (1, .int x2), (0, .ref q_h)]) hx hb dX6_placeOfUnfitByte_17 rfl hl (by decide) rfl (fun ls hl => ?_)
        refine lv_iload_n hx hb dX6_placeOfUnfitByte_18 rfl (lv_at hl 2 rfl) ?_
        refine lv_iconst (v := (-1 : Int32)) hx hb dX6_placeOfUnfitByte_19 (by decide) ?_
        refine lv_icmp_ne (tgt := 35) hx hb dX6_placeOfUnfitByte_20 (by decide) (fun c8 => ?_) (fun c8 => ?_)
        · have hv := if_n c8 hv
          refine lv_iload_n hx hb dX6_placeOfUnfitByte_35 rfl (lv_at hl 2 rfl) ?_
          refine lv_if_le (tgt := 58) hx hb dX6_placeOfUnfitByte_36 (by decide) (fun c9 => ?_) (fun c9 => ?_)
          · have hv := if_y c9 hv
            refine lv_iload_n hx hb dX6_placeOfUnfitByte_58 rfl (lv_at hl 0 rfl) ?_
            refine lv_bipush (v := (59 : Int32)) hx hb dX6_placeOfUnfitByte_59 (by decide) ?_
            refine lv_icmp_eq (tgt := 66) hx hb dX6_placeOfUnfitByte_61 (by decide) (fun c10 => ?_) (fun c10 => ?_)
            · have hv := if_y c10 hv
              refine lv_iconst (v := (-1 : Int32)) hx hb dX6_placeOfUnfitByte_66 (by decide) ?_
              refine lv_istore_n (lv' := [(1, .int (-1 : Int32)), (3, .int r6), (2, .int x1), (0, .ref q_h)]) hx hb dX6_placeOfUnfitByte_67 rfl hl (by decide) rfl (fun ls hl => ?_)
              refine lv_iinc (v := (x1 + (1 : Int32))) (lv' := [(2, .int (x1 + (1 : Int32))), (1, .int (-1 : Int32)), (3, .int r6), (0, .ref q_h)]) hx hb dX6_placeOfUnfitByte_68 hl (k := 2) rfl rfl (by decide) rfl (fun ls hl => ?_)
              refine lv_goto (tgt := 4) hx hb dX6_placeOfUnfitByte_71 (by decide) ?_
              exact ih4 (x1 + (1 : Int32)) (-1 : Int32) _ (lv_sub hl [0, 1, 3] rfl) hv
            · have hv := if_n c10 hv
              refine lv_iload_n hx hb dX6_placeOfUnfitByte_64 rfl (lv_at hl 1 rfl) ?_
              exact W.iret (v := x1) hx hb hr (fun t h9 _ => ⟨rv_i hv, h9⟩) (fun q h => absurd h List.not_mem_nil) dX6_placeOfUnfitByte_65 hlk
          · have hv := if_n c9 hv
            refine lv_iload_n hx hb dX6_placeOfUnfitByte_39 rfl (lv_at hl 0 rfl) ?_
            refine lv_bipush (v := (48 : Int32)) hx hb dX6_placeOfUnfitByte_40 (by decide) ?_
            refine lv_bipush (v := (57 : Int32)) hx hb dX6_placeOfUnfitByte_42 (by decide) ?_
            obtain ⟨r11, h12, hv⟩ := ob_s hv
            refine rdSN (rest := []) (st1 := [.int r11]) (w := []) hC q_X9_isWithin (List.mem_of_getElem? (i := 2) rfl) (c_X9_isWithin l E r6 (48 : Int32) (57 : Int32) r11 h12) ⟨rfl, rfl⟩ ⟨Nat.le_of_ble_eq_true rfl, Nat.le_of_ble_eq_true rfl⟩ ⟨Nat.zero_le _, Nat.zero_le _⟩ (hP.sub (ws' := []) [] rfl) hG rfl hl.1 rfl (Nat.le_of_ble_eq_true rfl) dX6_placeOfUnfitByte_44 rfl ?_
            refine lv_if_ne (tgt := 52) hx hb dX6_placeOfUnfitByte_47 (by decide) (fun c13 => ?_) (fun c13 => ?_)
            · have hv := if_n c13 hv
              refine lv_iinc (v := (x2 + (-1 : Int32))) (lv' := [(1, .int (x2 + (-1 : Int32))), (3, .int r6), (2, .int x1), (0, .ref q_h)]) hx hb dX6_placeOfUnfitByte_52 hl (k := 2) rfl rfl (by decide) rfl (fun ls hl => ?_)
              refine lv_goto (tgt := 68) hx hb dX6_placeOfUnfitByte_55 (by decide) ?_
              refine lv_iinc (v := (x1 + (1 : Int32))) (lv' := [(2, .int (x1 + (1 : Int32))), (1, .int (x2 + (-1 : Int32))), (3, .int r6), (0, .ref q_h)]) hx hb dX6_placeOfUnfitByte_68 hl (k := 2) rfl rfl (by decide) rfl (fun ls hl => ?_)
              refine lv_goto (tgt := 4) hx hb dX6_placeOfUnfitByte_71 (by decide) ?_
              exact ih4 (x1 + (1 : Int32)) (x2 + (-1 : Int32)) _ (lv_sub hl [0, 1, 3] rfl) hv
            · have hv := if_y c13 hv
              refine lv_iload_n hx hb dX6_placeOfUnfitByte_50 rfl (lv_at hl 1 rfl) ?_
              exact W.iret (v := x1) hx hb hr (fun t h9 _ => ⟨rv_i hv, h9⟩) (fun q h => absurd h List.not_mem_nil) dX6_placeOfUnfitByte_51 hlk
        · have hv := if_y c8 hv
          refine lv_iload_n hx hb dX6_placeOfUnfitByte_23 rfl (lv_at hl 0 rfl) ?_
          obtain ⟨r14, h15, hv⟩ := ob_s hv
          refine rdS (rest := []) (st1 := [.int r14]) (w := []) hC q_X6_digitsBehind kw_1_192 (c_X6_digitsBehind l E r6 r14 h15) ⟨rfl, rfl⟩ ⟨Nat.le_of_ble_eq_true rfl, Nat.le_of_ble_eq_true rfl⟩ ⟨Nat.zero_le _, Nat.zero_le _⟩ (hP.sub (ws' := []) [] rfl) hG rfl hl.1 rfl (Nat.le_of_ble_eq_true rfl) dX6_placeOfUnfitByte_24 rfl ?_
          refine lv_istore_n (lv' := [(1, .int r14), (3, .int r6), (2, .int x1), (0, .ref q_h)]) hx hb dX6_placeOfUnfitByte_27 rfl hl (by decide) rfl (fun ls hl => ?_)
          refine lv_iload_n hx hb dX6_placeOfUnfitByte_28 rfl (lv_at hl 0 rfl) ?_
          refine lv_iconst (v := (1 : Int32)) hx hb dX6_placeOfUnfitByte_29 (by decide) ?_
          refine lv_icmp_ge (tgt := 68) hx hb dX6_placeOfUnfitByte_30 (by decide) (fun c16 => ?_) (fun c16 => ?_)
          · have hv := if_y c16 hv
            refine lv_iinc (v := (x1 + (1 : Int32))) (lv' := [(2, .int (x1 + (1 : Int32))), (1, .int r14), (3, .int r6), (0, .ref q_h)]) hx hb dX6_placeOfUnfitByte_68 hl (k := 2) rfl rfl (by decide) rfl (fun ls hl => ?_)
            refine lv_goto (tgt := 4) hx hb dX6_placeOfUnfitByte_71 (by decide) ?_
            exact ih4 (x1 + (1 : Int32)) r14 _ (lv_sub hl [0, 1, 3] rfl) hv
          · have hv := if_n c16 hv
            refine lv_iload_n hx hb dX6_placeOfUnfitByte_33 rfl (lv_at hl 2 rfl) ?_
            exact W.iret (v := x1) hx hb hr (fun t h9 _ => ⟨rv_i hv, h9⟩) (fun q h => absurd h List.not_mem_nil) dX6_placeOfUnfitByte_34 hlk
  exact hL4 N (0 : Int32) (-1 : Int32) _ (lv_sub hl [0, 1, 2] rfl) hv
theorem dX6_play_0 : decode cX6_play 0 = .ok (.aload_n 0, 1) := by decide +kernel
theorem dX6_play_1 : decode cX6_play 1 = .ok (.invokestatic 9, 3) := by decide +kernel
theorem dX6_play_4 : decode cX6_play 4 = .ok (.istore_n 2, 1) := by decide +kernel
theorem dX6_play_5 : decode cX6_play 5 = .ok (.iload_n 2, 1) := by decide +kernel
theorem dX6_play_6 : decode cX6_play 6 = .ok (.iconst (-1), 1) := by decide +kernel
theorem dX6_play_7 : decode cX6_play 7 = .ok (.if_icmp .eq 9, 3) := by decide +kernel
theorem dX6_play_10 : decode cX6_play 10 = .ok (.sipush (-1000), 3) := by decide +kernel
theorem dX6_play_13 : decode cX6_play 13 = .ok (.iload_n 2, 1) := by decide +kernel
theorem dX6_play_14 : decode cX6_play 14 = .ok (.isub, 1) := by decide +kernel
theorem dX6_play_15 : decode cX6_play 15 = .ok (.ireturn, 1) := by decide +kernel
theorem dX6_play_16 : decode cX6_play 16 = .ok (.iconst 0, 1) := by decide +kernel
theorem dX6_play_17 : decode cX6_play 17 = .ok (.istore_n 3, 1) := by decide +kernel
theorem dX6_play_18 : decode cX6_play 18 = .ok (.iconst 0, 1) := by decide +kernel
theorem dX6_play_19 : decode cX6_play 19 = .ok (.istore 4, 2) := by decide +kernel
theorem dX6_play_21 : decode cX6_play 21 = .ok (.iload 4, 2) := by decide +kernel
theorem dX6_play_23 : decode cX6_play 23 = .ok (.aload_n 0, 1) := by decide +kernel
theorem dX6_play_24 : decode cX6_play 24 = .ok (.getfield 15, 3) := by decide +kernel
theorem dX6_play_27 : decode cX6_play 27 = .ok (.if_icmp .ge 42, 3) := by decide +kernel
theorem dX6_play_30 : decode cX6_play 30 = .ok (.aload_n 0, 1) := by decide +kernel
theorem dX6_play_31 : decode cX6_play 31 = .ok (.iload 4, 2) := by decide +kernel
theorem dX6_play_33 : decode cX6_play 33 = .ok (.aload_n 1, 1) := by decide +kernel
theorem dX6_play_34 : decode cX6_play 34 = .ok (.invokestatic 21, 3) := by decide +kernel
theorem dX6_play_37 : decode cX6_play 37 = .ok (.ifCond .ne 10, 3) := by decide +kernel
theorem dX6_play_40 : decode cX6_play 40 = .ok (.sipush (-2000), 3) := by decide +kernel
theorem dX6_play_43 : decode cX6_play 43 = .ok (.iload 4, 2) := by decide +kernel
theorem dX6_play_45 : decode cX6_play 45 = .ok (.isub, 1) := by decide +kernel
theorem dX6_play_46 : decode cX6_play 46 = .ok (.ireturn, 1) := by decide +kernel
theorem dX6_play_47 : decode cX6_play 47 = .ok (.iinc 3 1, 3) := by decide +kernel
theorem dX6_play_50 : decode cX6_play 50 = .ok (.iload 4, 2) := by decide +kernel
theorem dX6_play_52 : decode cX6_play 52 = .ok (.aload_n 0, 1) := by decide +kernel
theorem dX6_play_53 : decode cX6_play 53 = .ok (.iload 4, 2) := by decide +kernel
theorem dX6_play_55 : decode cX6_play 55 = .ok (.invokevirtual 25, 3) := by decide +kernel
theorem dX6_play_58 : decode cX6_play 58 = .ok (.invokestatic 29, 3) := by decide +kernel
theorem dX6_play_61 : decode cX6_play 61 = .ok (.iconst 2, 1) := by decide +kernel
theorem dX6_play_62 : decode cX6_play 62 = .ok (.iadd, 1) := by decide +kernel
theorem dX6_play_63 : decode cX6_play 63 = .ok (.iadd, 1) := by decide +kernel
theorem dX6_play_64 : decode cX6_play 64 = .ok (.istore 4, 2) := by decide +kernel
theorem dX6_play_66 : decode cX6_play 66 = .ok (.goto (-45), 3) := by decide +kernel
theorem dX6_play_69 : decode cX6_play 69 = .ok (.iload_n 3, 1) := by decide +kernel
theorem dX6_play_70 : decode cX6_play 70 = .ok (.ireturn, 1) := by decide +kernel
def L_X6_play_21 (N : Nat) (q_elements : Nat → Int32) (q_size : Int32) : Nat → Int32 → Int32 → Int32 → Int32 → Int32 → Int32 → Int32 → (Nat → Int32) → (Nat → Int32) → (Nat → Int32) → (Nat → Int32) → (Nat → Int32) → (Nat → Int32) → Option (Int32 × Int32 × Int32 × Int32 × Int32 × Int32 × (Nat → Int32) × (Nat → Int32) × (Nat → Int32) × (Nat → Int32) × (Nat → Int32) × (Nat → Int32))
  | 0, _, _, _, _, _, _, _, _, _, _, _, _, _ => none
  | n21 + 1, x4, x5, y6, y7, y8, y9, y10, y11, y12, y13, y14, y15, y16 => if q_size ≤ x4 then some (x5, y6, y7, y8, y9, y10, y11, y12, y13, y14, y15, y16) else ob (f_X6_tryStatement N q_elements q_size y11 y12 y13 y14 y15 y16 y6 y7 y8 y9 y10 x4) (fun (r18, y19, y20, y21, y22, y23, y24, y25, y26, y27, y28, y29) => if r18 = 0 then nm ((-2000 : Int32) - x4) (fun z36 => some (z36, y19, y20, y21, y22, y23, y24, y25, y26, y27, y28, y29)) else ob (f_X7_at q_elements q_size x4) (fun r32 => ob (f_X6_digitsBehind r32) (fun r34 => L_X6_play_21 N q_elements q_size n21 (x4 + (r34 + (2 : Int32))) (x5 + (1 : Int32)) y19 y20 y21 y22 y23 y24 y25 y26 y27 y28 y29)))
def f_X6_play (N : Nat) (q_elements : Nat → Int32) (q_size : Int32) (a_height : Nat → Int32) (a_kind : Nat → Int32) (a_figure : Nat → Int32) (a_rail : Nat → Int32) (a_mood : Nat → Int32) (a_sight : Nat → Int32) (a_moving : Int32) (a_shut : Int32) (a_people : Int32) (a_needed : Int32) (a_day : Int32) : Option (Int32 × Int32 × Int32 × Int32 × Int32 × Int32 × (Nat → Int32) × (Nat → Int32) × (Nat → Int32) × (Nat → Int32) × (Nat → Int32) × (Nat → Int32)) := ob (f_X6_placeOfUnfitByte N q_elements q_size) (fun r1 => if r1 = (-1 : Int32) then L_X6_play_21 N q_elements q_size N (0 : Int32) (0 : Int32) a_moving a_shut a_people a_needed a_day a_height a_kind a_figure a_rail a_mood a_sight else nm ((-1000 : Int32) - r1) (fun z37 => some (z37, a_moving, a_shut, a_people, a_needed, a_day, a_height, a_kind, a_figure, a_rail, a_mood, a_sight)))
set_option maxHeartbeats 4000000 in
set_option maxRecDepth 100000 in
theorem c_X6_play (l : Launch) (E : EE) (q_h : Nat) (q_a0 : Nat) (a_h : Nat) (a_a0 : Nat) (a_a1 : Nat) (a_a2 : Nat) (a_a3 : Nat) (a_a4 : Nat) (a_a5 : Nat) (q_elements : Nat → Int32) (q_holds : Int32) (q_kind : Int32) (q_figure : Int32) (q_sort : Int32) (q_size : Int32) (a_height : Nat → Int32) (a_kind : Nat → Int32) (a_figure : Nat → Int32) (a_rail : Nat → Int32) (a_mood : Nat → Int32) (a_sight : Nat → Int32) (a_moving : Int32) (a_shut : Int32) (a_people : Int32) (a_needed : Int32) (a_day : Int32) (N : Nat) (res : Int32) (w_a_moving : Int32) (w_a_shut : Int32) (w_a_people : Int32) (w_a_needed : Int32) (w_a_day : Int32) (w_a_height : Nat → Int32) (w_a_kind : Nat → Int32) (w_a_figure : Nat → Int32) (w_a_rail : Nat → Int32) (w_a_mood : Nat → Int32) (w_a_sight : Nat → Int32) (hv : f_X6_play N q_elements q_size a_height a_kind a_figure a_rail a_mood a_sight a_moving a_shut a_people a_needed a_day = some (res, w_a_moving, w_a_shut, w_a_people, w_a_needed, w_a_day, w_a_height, w_a_kind, w_a_figure, w_a_rail, w_a_mood, w_a_sight)) : Wr l E yX6_play cX6_play 5 (some .int) ({ frames := 6, cells := 0, slots := 0, locals := 135 }) [.ref q_h, .ref a_h] [oSh q_h q_a0 q_holds q_kind q_figure q_sort q_size, ai E q_a0 100 q_elements, oSt a_h a_a0 a_a1 a_a2 a_a3 a_a4 a_a5 a_moving a_shut a_people a_needed a_day, ai E a_a0 10 a_height, ai E a_a1 7 a_kind, ai E a_a2 7 a_figure, ai E a_a3 7 a_rail, ai E a_a4 7 a_mood, ai E a_a5 7 a_sight] [oSh q_h q_a0 q_holds q_kind q_figure q_sort q_size, ai E q_a0 100 q_elements, oSt a_h a_a0 a_a1 a_a2 a_a3 a_a4 a_a5 w_a_moving w_a_shut w_a_people w_a_needed w_a_day, ai E a_a0 10 w_a_height, ai E a_a1 7 w_a_kind, ai E a_a2 7 w_a_figure, ai E a_a3 7 w_a_rail, ai E a_a4 7 w_a_mood, ai E a_a5 7 w_a_sight] (some (.int res)) := by
  refine Wr.intro RX6 (by decide) rfl (Nat.le_of_ble_eq_true rfl) ?_
  intro p e s m below meth c ls A hC hr hlk hmn hP hD hS hA hG hl
  obtain ⟨hx, hb, hml, hown, ht⟩ := id hC
  have hK := hG.1
  have hl : lv_has ls 5 [(0, .ref q_h), (1, .ref a_h)] := hl
  rw [f_X6_play] at hv
  refine lv_aload_n hx hb dX6_play_0 rfl (lv_at hl 0 rfl) ?_
  obtain ⟨r1, h2, hv⟩ := ob_s hv
  refine rdS (rest := []) (st1 := [.int r1]) (w := [oSh q_h q_a0 q_holds q_kind q_figure q_sort q_size, ai E q_a0 100 q_elements]) hC q_X6_placeOfUnfitByte kw_1_181 (c_X6_placeOfUnfitByte l E q_h q_a0 q_elements q_holds q_kind q_figure q_sort q_size N r1 h2) ⟨rfl, rfl⟩ ⟨Nat.le_of_ble_eq_true rfl, Nat.le_of_ble_eq_true rfl⟩ ⟨Nat.zero_le _, Nat.zero_le _⟩ (hP.sub (ws' := [oSh q_h q_a0 q_holds q_kind q_figure q_sort q_size, ai E q_a0 100 q_elements]) [0, 1] rfl) hG rfl hl.1 rfl (Nat.le_of_ble_eq_true rfl) dX6_play_1 rfl ?_
  refine lv_istore_n (lv' := [(2, .int r1), (0, .ref q_h), (1, .ref a_h)]) hx hb dX6_play_4 rfl hl (by decide) rfl (fun ls hl => ?_)
  refine lv_iload_n hx hb dX6_play_5 rfl (lv_at hl 0 rfl) ?_
  refine lv_iconst (v := (-1 : Int32)) hx hb dX6_play_6 (by decide) ?_
  refine lv_icmp_eq (tgt := 16) hx hb dX6_play_7 (by decide) (fun c3 => ?_) (fun c3 => ?_)
  · have hv := if_y c3 hv
    refine lv_iconst (v := (0 : Int32)) hx hb dX6_play_16 (by decide) ?_
    refine lv_istore_n (lv' := [(3, .int (0 : Int32)), (2, .int r1), (0, .ref q_h), (1, .ref a_h)]) hx hb dX6_play_17 rfl hl (by decide) rfl (fun ls hl => ?_)
    refine lv_iconst (v := (0 : Int32)) hx hb dX6_play_18 (by decide) ?_
    refine lv_istore (lv' := [(4, .int (0 : Int32)), (3, .int (0 : Int32)), (2, .int r1), (0, .ref q_h), (1, .ref a_h)]) hx hb dX6_play_19 hl (by decide) rfl (fun ls hl => ?_)
    have hL21 : ∀ (n : Nat) (x4 : Int32) (x5 : Int32) (y6 : Int32) (y7 : Int32) (y8 : Int32) (y9 : Int32) (y10 : Int32) (y11 : Nat → Int32) (y12 : Nat → Int32) (y13 : Nat → Int32) (y14 : Nat → Int32) (y15 : Nat → Int32) (y16 : Nat → Int32) (H : Heap) (locs : List Loc) (ls : Array Slot), va_P E.1 vwCl [oSh q_h q_a0 q_holds q_kind q_figure q_sort q_size, ai E q_a0 100 q_elements, oSt a_h a_a0 a_a1 a_a2 a_a3 a_a4 a_a5 y6 y7 y8 y9 y10, ai E a_a0 10 y11, ai E a_a1 7 y12, ai E a_a2 7 y13, ai E a_a3 7 y14, ai E a_a4 7 y15, ai E a_a5 7 y16] H → va_D A [oSh q_h q_a0 q_holds q_kind q_figure q_sort q_size, ai E q_a0 100 q_elements, oSt a_h a_a0 a_a1 a_a2 a_a3 a_a4 a_a5 y6 y7 y8 y9 y10, ai E a_a0 10 y11, ai E a_a1 7 y12, ai E a_a2 7 y13, ai E a_a3 7 y14, ai E a_a4 7 y15, ai E a_a5 7 y16] → va_S A s.heap H locs → lv_has ls 5 [(4, .int x4), (3, .int x5), (0, .ref q_h), (1, .ref a_h)] → L_X6_play_21 N q_elements q_size n x4 x5 y6 y7 y8 y9 y10 y11 y12 y13 y14 y15 y16 = some (res, w_a_moving, w_a_shut, w_a_people, w_a_needed, w_a_day, w_a_height, w_a_kind, w_a_figure, w_a_rail, w_a_mood, w_a_sight) → W p l e ({ frames := 6, cells := 0, slots := 0, locals := 135 }) s m [.ref q_h, .ref a_h].toArray below meth c H locs 0 0 (MQ below (fun _ st oc t => oc = .returned (some (.int res)) ∧ va_P E.1 vwCl [oSh q_h q_a0 q_holds q_kind q_figure q_sort q_size, ai E q_a0 100 q_elements, oSt a_h a_a0 a_a1 a_a2 a_a3 a_a4 a_a5 w_a_moving w_a_shut w_a_people w_a_needed w_a_day, ai E a_a0 10 w_a_height, ai E a_a1 7 w_a_kind, ai E a_a2 7 w_a_figure, ai E a_a3 7 w_a_rail, ai E a_a4 7 w_a_mood, ai E a_a5 7 w_a_sight] t.heap ∧ va_F A st t) [.ref q_h, .ref a_h].toArray s 0 0 A) (F0 m 21 ls []) := by
      intro n
      induction n with
      | zero => intro x4 x5 y6 y7 y8 y9 y10 y11 y12 y13 y14 y15 y16 H locs ls hP hD hS hl hv; cases hv
      | succ n21 ih21 =>
        intro x4 x5 y6 y7 y8 y9 y10 y11 y12 y13 y14 y15 y16 H locs ls hP hD hS hl hv
        rw [L_X6_play_21] at hv
        refine lv_iload hx hb dX6_play_21 (lv_at hl 0 rfl) ?_
        refine lv_aload_n hx hb dX6_play_23 rfl (lv_at hl 2 rfl) ?_
        refine va_get (D := E.1) (ci := 1) (v := .int q_size) (C := RX7) (T := TX7) (N := 6) hx hb ht i_X7 hown hK hP 0 rfl rfl 5 (by decide) (ht _ kw_1_122) (fun _ h9 => h9) rfl dX6_play_24 ?_
        refine lv_icmp_ge (tgt := 69) hx hb dX6_play_27 (by decide) (fun c17 => ?_) (fun c17 => ?_)
        · have hv := if_y c17 hv
          refine lv_iload_n hx hb dX6_play_69 rfl (lv_at hl 1 rfl) ?_
          cases hv
          exact W.iret hx hb hr (fun t h9 _ => ⟨rfl, by rw [h9]; exact hP, hS.F h9⟩) hS.2.2 dX6_play_70 hlk
        · have hv := if_n c17 hv
          refine lv_aload_n hx hb dX6_play_30 rfl (lv_at hl 2 rfl) ?_
          refine lv_iload hx hb dX6_play_31 (lv_at hl 0 rfl) ?_
          refine lv_aload_n hx hb dX6_play_33 rfl (lv_at hl 3 rfl) ?_
          obtain ⟨⟨r18, y19, y20, y21, y22, y23, y24, y25, y26, y27, y28, y29⟩, h30, hv⟩ := ob_s hv
          refine wrS (as := [q_h, q_a0, a_h, a_a0, a_a1, a_a2, a_a3, a_a4, a_a5]) (wr := []) [0, 1, 2, 3, 4, 5, 6, 7, 8] [] (ws := [oSh q_h q_a0 q_holds q_kind q_figure q_sort q_size, ai E q_a0 100 q_elements, oSt a_h a_a0 a_a1 a_a2 a_a3 a_a4 a_a5 y6 y7 y8 y9 y10, ai E a_a0 10 y11, ai E a_a1 7 y12, ai E a_a2 7 y13, ai E a_a3 7 y14, ai E a_a4 7 y15, ai E a_a5 7 y16]) (ws' := [oSh q_h q_a0 q_holds q_kind q_figure q_sort q_size, ai E q_a0 100 q_elements, oSt a_h a_a0 a_a1 a_a2 a_a3 a_a4 a_a5 y19 y20 y21 y22 y23, ai E a_a0 10 y24, ai E a_a1 7 y25, ai E a_a2 7 y26, ai E a_a3 7 y27, ai E a_a4 7 y28, ai E a_a5 7 y29]) (rest := []) (st1 := [.int r18]) hC q_X6_tryStatement kw_1_196 (c_X6_tryStatement l E q_h q_a0 a_h a_a0 a_a1 a_a2 a_a3 a_a4 a_a5 q_elements q_holds q_kind q_figure q_sort q_size y11 y12 y13 y14 y15 y16 y6 y7 y8 y9 y10 x4 N r18 y19 y20 y21 y22 y23 y24 y25 y26 y27 y28 y29 h30) ⟨rfl, rfl⟩ ⟨Nat.le_of_ble_eq_true rfl, Nat.le_of_ble_eq_true rfl⟩ ⟨Nat.zero_le _, Nat.zero_le _⟩ hP hD hS hA hG (by decide) rfl rfl rfl rfl rfl rfl rfl rfl hl.1 rfl (Nat.le_of_ble_eq_true rfl) dX6_play_34 rfl (fun H locs hP hD hS => ?_)
          refine lv_if_ne (tgt := 47) hx hb dX6_play_37 (by decide) (fun c31 => ?_) (fun c31 => ?_)
          · have hv := if_n c31 hv
            refine lv_iinc (v := (x5 + (1 : Int32))) (lv' := [(3, .int (x5 + (1 : Int32))), (4, .int x4), (0, .ref q_h), (1, .ref a_h)]) hx hb dX6_play_47 hl (k := 1) rfl rfl (by decide) rfl (fun ls hl => ?_)
            refine lv_iload hx hb dX6_play_50 (lv_at hl 1 rfl) ?_
            refine lv_aload_n hx hb dX6_play_52 rfl (lv_at hl 2 rfl) ?_
            refine lv_iload hx hb dX6_play_53 (lv_at hl 1 rfl) ?_
            obtain ⟨r32, h33, hv⟩ := ob_s hv
            refine rdV 1 0 (As := [.int x4]) (rest := [.int x4]) (st1 := [.int r32, .int x4]) (w := [oSh q_h q_a0 q_holds q_kind q_figure q_sort q_size, ai E q_a0 100 q_elements]) hC q_X7_at kw_1_184 (c_X7_at l E q_h q_a0 q_elements q_holds q_kind q_figure q_sort q_size x4 r32 h33) ⟨rfl, rfl⟩ ⟨Nat.le_of_ble_eq_true rfl, Nat.le_of_ble_eq_true rfl⟩ ⟨Nat.zero_le _, Nat.zero_le _⟩ (hP.sub (ws' := [oSh q_h q_a0 q_holds q_kind q_figure q_sort q_size, ai E q_a0 100 q_elements]) [0, 1] rfl) rfl rfl rfl hG rfl hl.1 rfl (Nat.le_of_ble_eq_true rfl) dX6_play_55 rfl ?_
            obtain ⟨r34, h35, hv⟩ := ob_s hv
            refine rdS (rest := [.int x4]) (st1 := [.int r34, .int x4]) (w := []) hC q_X6_digitsBehind kw_1_192 (c_X6_digitsBehind l E r32 r34 h35) ⟨rfl, rfl⟩ ⟨Nat.le_of_ble_eq_true rfl, Nat.le_of_ble_eq_true rfl⟩ ⟨Nat.zero_le _, Nat.zero_le _⟩ (hP.sub (ws' := []) [] rfl) hG rfl hl.1 rfl (Nat.le_of_ble_eq_true rfl) dX6_play_58 rfl ?_
            refine lv_iconst (v := (2 : Int32)) hx hb dX6_play_61 (by decide) ?_
            refine lv_iadd hx hb dX6_play_62 ?_
            refine lv_iadd hx hb dX6_play_63 ?_
            refine lv_istore (lv' := [(4, .int (x4 + (r34 + (2 : Int32)))), (3, .int (x5 + (1 : Int32))), (0, .ref q_h), (1, .ref a_h)]) hx hb dX6_play_64 hl (by decide) rfl (fun ls hl => ?_)
            refine lv_goto (tgt := 21) hx hb dX6_play_66 (by decide) ?_
            exact ih21 (x4 + (r34 + (2 : Int32))) (x5 + (1 : Int32)) y19 y20 y21 y22 y23 y24 y25 y26 y27 y28 y29 _ _ _ hP hD hS (lv_sub hl [0, 1, 2, 3] rfl) hv
          · have hv := if_y c31 hv
            refine lv_sipush (v := (-2000 : Int32)) hx hb dX6_play_40 (by decide) ?_
            refine lv_iload hx hb dX6_play_43 (lv_at hl 0 rfl) ?_
            refine lv_isub hx hb dX6_play_45 ?_
            refine lv_topi (fun z36 ez36 => ?_)
            have hv := nm_s ez36 hv
            cases hv
            exact W.iret hx hb hr (fun t h9 _ => ⟨rfl, by rw [h9]; exact hP, hS.F h9⟩) hS.2.2 dX6_play_46 hlk
    exact hL21 N (0 : Int32) (0 : Int32) a_moving a_shut a_people a_needed a_day a_height a_kind a_figure a_rail a_mood a_sight _ _ _ hP hD hS (lv_sub hl [0, 1, 3, 4] rfl) hv
  · have hv := if_n c3 hv
    refine lv_sipush (v := (-1000 : Int32)) hx hb dX6_play_10 (by decide) ?_
    refine lv_iload_n hx hb dX6_play_13 rfl (lv_at hl 0 rfl) ?_
    refine lv_isub hx hb dX6_play_14 ?_
    refine lv_topi (fun z37 ez37 => ?_)
    have hv := nm_s ez37 hv
    cases hv
    exact W.iret hx hb hr (fun t h9 _ => ⟨rfl, by rw [h9]; exact hP, hS.F h9⟩) hS.2.2 dX6_play_15 hlk
