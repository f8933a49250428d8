theorem dX10_isIn_0 : decode cX10_isIn 0 = .ok (.iload_n 0, 1) := by decide +kernel
theorem dX10_isIn_1 : decode cX10_isIn 1 = .ok (.iload_n 1, 1) := by decide +kernel
theorem dX10_isIn_2 : decode cX10_isIn 2 = .ok (.if_icmp .lt 12, 3) := by decide +kernel
theorem dX10_isIn_5 : decode cX10_isIn 5 = .ok (.iload_n 0, 1) := by decide +kernel
theorem dX10_isIn_6 : decode cX10_isIn 6 = .ok (.iload_n 2, 1) := by decide +kernel
theorem dX10_isIn_7 : decode cX10_isIn 7 = .ok (.if_icmp .gt 7, 3) := by decide +kernel
theorem dX10_isIn_10 : decode cX10_isIn 10 = .ok (.iconst 1, 1) := by decide +kernel
theorem dX10_isIn_11 : decode cX10_isIn 11 = .ok (.goto 4, 3) := by decide +kernel
theorem dX10_isIn_14 : decode cX10_isIn 14 = .ok (.iconst 0, 1) := by decide +kernel
theorem dX10_isIn_15 : decode cX10_isIn 15 = .ok (.ireturn, 1) := by decide +kernel
def f_X10_isIn (p0 : Int32) (p1 : Int32) (p2 : Int32) : Option (Int32) := if p0 < p1 then some (0 : Int32) else if p2 < p0 then some (0 : Int32) else some (1 : Int32)
set_option maxHeartbeats 4000000 in
set_option maxRecDepth 100000 in
theorem c_X10_isIn (l : Launch) (E : EE) (p0 : Int32) (p1 : Int32) (p2 : Int32) (res : Int32) (hv : f_X10_isIn p0 p1 p2 = some res) : Rd l E yX10_isIn cX10_isIn 3 (some .boolean) ({ frames := 0, cells := 0, slots := 0, locals := 0 }) [.int p0, .int p1, .int p2] [] (some (.int res)) := by
  refine Rd.intro RX10 (by decide) rfl (Nat.le_of_ble_eq_true rfl) ?_
  intro p e s m below meth c ls hC hr hlk hP hG hl
  obtain ⟨hx, hb, hml, hown, ht⟩ := id hC
  have hK := hG.1
  have hl : lv_has ls 3 [(0, .int p0), (1, .int p1), (2, .int p2)] := hl
  rw [f_X10_isIn] at hv
  refine lv_iload_n hx hb dX10_isIn_0 rfl (lv_at hl 0 rfl) ?_
  refine lv_iload_n hx hb dX10_isIn_1 rfl (lv_at hl 1 rfl) ?_
  refine lv_icmp_lt (tgt := 14) hx hb dX10_isIn_2 (by decide) (fun c1 => ?_) (fun c1 => ?_)
  · have hv := if_y c1 hv
    refine lv_iconst (v := (0 : Int32)) hx hb dX10_isIn_14 (by decide) ?_
    exact W.zret (v := (0 : Int32)) hx hb hr rfl (fun t h9 _ => ⟨rv_i hv, h9⟩) (fun q h => absurd h List.not_mem_nil) dX10_isIn_15 hlk
  · have hv := if_n c1 hv
    refine lv_iload_n hx hb dX10_isIn_5 rfl (lv_at hl 0 rfl) ?_
    refine lv_iload_n hx hb dX10_isIn_6 rfl (lv_at hl 2 rfl) ?_
    refine lv_icmp_gt (tgt := 14) hx hb dX10_isIn_7 (by decide) (fun c2 => ?_) (fun c2 => ?_)
    · have hv := if_y c2 hv
      refine lv_iconst (v := (0 : Int32)) hx hb dX10_isIn_14 (by decide) ?_
      exact W.zret (v := (0 : Int32)) hx hb hr rfl (fun t h9 _ => ⟨rv_i hv, h9⟩) (fun q h => absurd h List.not_mem_nil) dX10_isIn_15 hlk
    · have hv := if_n c2 hv
      refine lv_iconst (v := (1 : Int32)) hx hb dX10_isIn_10 (by decide) ?_
      refine lv_goto (tgt := 15) hx hb dX10_isIn_11 (by decide) ?_
      exact W.zret (v := (1 : Int32)) hx hb hr rfl (fun t h9 _ => ⟨rv_i hv, h9⟩) (fun q h => absurd h List.not_mem_nil) dX10_isIn_15 hlk
theorem dX10_copies_0 : decode cX10_copies 0 = .ok (.iconst 0, 1) := by decide +kernel
theorem dX10_copies_1 : decode cX10_copies 1 = .ok (.istore_n 2, 1) := by decide +kernel
theorem dX10_copies_2 : decode cX10_copies 2 = .ok (.iload_n 2, 1) := by decide +kernel
theorem dX10_copies_3 : decode cX10_copies 3 = .ok (.bipush 42, 2) := by decide +kernel
theorem dX10_copies_5 : decode cX10_copies 5 = .ok (.if_icmp .ge 15, 3) := by decide +kernel
theorem dX10_copies_8 : decode cX10_copies 8 = .ok (.aload_n 1, 1) := by decide +kernel
theorem dX10_copies_9 : decode cX10_copies 9 = .ok (.iload_n 2, 1) := by decide +kernel
theorem dX10_copies_10 : decode cX10_copies 10 = .ok (.aload_n 0, 1) := by decide +kernel
theorem dX10_copies_11 : decode cX10_copies 11 = .ok (.iload_n 2, 1) := by decide +kernel
theorem dX10_copies_12 : decode cX10_copies 12 = .ok (.iaload, 1) := by decide +kernel
theorem dX10_copies_13 : decode cX10_copies 13 = .ok (.iastore, 1) := by decide +kernel
theorem dX10_copies_14 : decode cX10_copies 14 = .ok (.iinc 2 1, 3) := by decide +kernel
theorem dX10_copies_17 : decode cX10_copies 17 = .ok (.goto (-15), 3) := by decide +kernel
theorem dX10_copies_20 : decode cX10_copies 20 = .ok (.return_, 1) := by decide +kernel
def L_X10_copies_2 (ra : Nat → Int32) : Nat → Int32 → (Nat → Int32) → Option ((Nat → Int32))
  | 0, _, _ => none
  | n2 + 1, x1, y2 => if (42 : Int32) ≤ x1 then some y2 else gd (ix x1 42) (gd (ix x1 42) (nm (upd y2 x1.toNatClampNeg (ra x1.toNatClampNeg)) (fun f6 => L_X10_copies_2 ra n2 (x1 + (1 : Int32)) f6)))
def f_X10_copies (N : Nat) (ra : Nat → Int32) (ta : Nat → Int32) : Option ((Nat → Int32)) := L_X10_copies_2 ra N (0 : Int32) ta
set_option maxHeartbeats 4000000 in
set_option maxRecDepth 100000 in
theorem c_X10_copies (l : Launch) (E : EE) (ra_h : Nat) (ta_h : Nat) (ra : Nat → Int32) (ta : Nat → Int32) (N : Nat) (w_ta : Nat → Int32) (hv : f_X10_copies N ra ta = some w_ta) : Wr l E yX10_copies cX10_copies 3 none ({ frames := 0, cells := 0, slots := 0, locals := 0 }) [.ref ra_h, .ref ta_h] [ai E ra_h 42 ra, ai E ta_h 42 ta] [ai E ra_h 42 ra, ai E ta_h 42 w_ta] none := by
  refine Wr.intro RX10 (by decide) rfl (Nat.le_of_ble_eq_true rfl) ?_
  intro p e s m below meth c ls A hC hr hlk hmn hP hD hS hA hG hl
  obtain ⟨hx, hb, hml, hown, ht⟩ := id hC
  have hK := hG.1
  have hl : lv_has ls 3 [(0, .ref ra_h), (1, .ref ta_h)] := hl
  rw [f_X10_copies] at hv
  refine lv_iconst (v := (0 : Int32)) hx hb dX10_copies_0 (by decide) ?_
  refine lv_istore_n (lv' := [(2, .int (0 : Int32)), (0, .ref ra_h), (1, .ref ta_h)]) hx hb dX10_copies_1 rfl hl (by decide) rfl (fun ls hl => ?_)
  have hL2 : ∀ (n : Nat) (x1 : Int32) (y2 : Nat → Int32) (H : Heap) (locs : List Loc) (ls : Array Slot), va_P E.1 vwCl [ai E ra_h 42 ra, ai E ta_h 42 y2] H → va_D A [ai E ra_h 42 ra, ai E ta_h 42 y2] → va_S A s.heap H locs → lv_has ls 3 [(2, .int x1), (0, .ref ra_h), (1, .ref ta_h)] → L_X10_copies_2 ra n x1 y2 = some w_ta → W p l e ({ frames := 0, cells := 0, slots := 0, locals := 0 }) s m [.ref ra_h, .ref ta_h].toArray below meth c H locs 0 0 (MQ below (fun _ st oc t => oc = .returned none ∧ va_P E.1 vwCl [ai E ra_h 42 ra, ai E ta_h 42 w_ta] t.heap ∧ va_F A st t) [.ref ra_h, .ref ta_h].toArray s 0 0 A) (F0 m 2 ls []) := by
    intro n
    induction n with
    | zero => intro x1 y2 H locs ls hP hD hS hl hv; cases hv
    | succ n2 ih2 =>
      intro x1 y2 H locs ls hP hD hS hl hv
      rw [L_X10_copies_2] at hv
      refine lv_iload_n hx hb dX10_copies_2 rfl (lv_at hl 0 rfl) ?_
      refine lv_bipush (v := (42 : Int32)) hx hb dX10_copies_3 (by decide) ?_
      refine lv_icmp_ge (tgt := 20) hx hb dX10_copies_5 (by decide) (fun c3 => ?_) (fun c3 => ?_)
      · have hv := if_y c3 hv
        cases hv
        exact W.vret hx hb hr (fun t h9 _ => ⟨rfl, by rw [h9]; exact hP, hS.F h9⟩) hS.2.2 dX10_copies_20 hlk
      · have hv := if_n c3 hv
        refine lv_aload_n hx hb dX10_copies_8 rfl (lv_at hl 2 rfl) ?_
        refine lv_iload_n hx hb dX10_copies_9 rfl (lv_at hl 0 rfl) ?_
        refine lv_aload_n hx hb dX10_copies_10 rfl (lv_at hl 1 rfl) ?_
        refine lv_iload_n hx hb dX10_copies_11 rfl (lv_at hl 0 rfl) ?_
        obtain ⟨g4, hv⟩ := gd_s hv
        refine va_iald hx hb hK hP 0 0 rfl rfl (ix_s g4) dX10_copies_12 ?_
        obtain ⟨g5, hv⟩ := gd_s hv
        refine va_iast hx hb hK hP hD hS 1 0 rfl rfl (ix_s g5) dX10_copies_13 (fun H locs hP hD hS => ?_)
        have hP : va_P E.1 vwCl [ai E ra_h 42 ra, ai E ta_h 42 (upd y2 x1.toNatClampNeg (ra x1.toNatClampNeg))] H := hP
        have hD : va_D A [ai E ra_h 42 ra, ai E ta_h 42 (upd y2 x1.toNatClampNeg (ra x1.toNatClampNeg))] := hD
        obtain ⟨f6, ef6⟩ : ∃ z, z = (upd y2 x1.toNatClampNeg (ra x1.toNatClampNeg)) := ⟨_, rfl⟩
        rw [← ef6] at hP hD
        have hv := nm_s ef6 hv
        refine lv_iinc (v := (x1 + (1 : Int32))) (lv' := [(2, .int (x1 + (1 : Int32))), (0, .ref ra_h), (1, .ref ta_h)]) hx hb dX10_copies_14 hl (k := 0) rfl rfl (by decide) rfl (fun ls hl => ?_)
        refine lv_goto (tgt := 2) hx hb dX10_copies_17 (by decide) ?_
        exact ih2 (x1 + (1 : Int32)) f6 _ _ _ hP hD hS (lv_sub hl [0, 1, 2] rfl) hv
  exact hL2 N (0 : Int32) ta _ _ _ hP hD hS (lv_sub hl [0, 1, 2] rfl) hv
theorem dX10_of_0 : decode cX10_of 0 = .ok (.bipush 14, 2) := by decide +kernel
theorem dX10_of_2 : decode cX10_of 2 = .ok (.iconst 4, 1) := by decide +kernel
theorem dX10_of_3 : decode cX10_of 3 = .ok (.iload_n 0, 1) := by decide +kernel
theorem dX10_of_4 : decode cX10_of 4 = .ok (.imul, 1) := by decide +kernel
theorem dX10_of_5 : decode cX10_of 5 = .ok (.iadd, 1) := by decide +kernel
theorem dX10_of_6 : decode cX10_of 6 = .ok (.iload_n 1, 1) := by decide +kernel
theorem dX10_of_7 : decode cX10_of 7 = .ok (.iadd, 1) := by decide +kernel
theorem dX10_of_8 : decode cX10_of 8 = .ok (.ireturn, 1) := by decide +kernel
def f_X10_of (p0 : Int32) (p1 : Int32) : Option (Int32) := some (((14 : Int32) + ((4 : Int32) * p0)) + p1)
set_option maxHeartbeats 4000000 in
set_option maxRecDepth 100000 in
theorem c_X10_of (l : Launch) (E : EE) (p0 : Int32) (p1 : Int32) (res : Int32) (hv : f_X10_of p0 p1 = some res) : Rd l E yX10_of cX10_of 2 (some .int) ({ frames := 0, cells := 0, slots := 0, locals := 0 }) [.int p0, .int p1] [] (some (.int res)) := by
  refine Rd.intro RX10 (by decide) rfl (Nat.le_of_ble_eq_true rfl) ?_
  intro p e s m below meth c ls hC hr hlk hP hG hl
  obtain ⟨hx, hb, hml, hown, ht⟩ := id hC
  have hK := hG.1
  have hl : lv_has ls 2 [(0, .int p0), (1, .int p1)] := hl
  rw [f_X10_of] at hv
  refine lv_bipush (v := (14 : Int32)) hx hb dX10_of_0 (by decide) ?_
  refine lv_iconst (v := (4 : Int32)) hx hb dX10_of_2 (by decide) ?_
  refine lv_iload_n hx hb dX10_of_3 rfl (lv_at hl 0 rfl) ?_
  refine lv_imul hx hb dX10_of_4 ?_
  refine lv_iadd hx hb dX10_of_5 ?_
  refine lv_iload_n hx hb dX10_of_6 rfl (lv_at hl 1 rfl) ?_
  refine lv_iadd hx hb dX10_of_7 ?_
  exact W.iret (v := (((14 : Int32) + ((4 : Int32) * p0)) + p1)) hx hb hr (fun t h9 _ => ⟨rv_i hv, h9⟩) (fun q h => absurd h List.not_mem_nil) dX10_of_8 hlk
theorem dX10_isSpeaker_0 : decode cX10_isSpeaker 0 = .ok (.iload_n 1, 1) := by decide +kernel
theorem dX10_isSpeaker_1 : decode cX10_isSpeaker 1 = .ok (.iconst 0, 1) := by decide +kernel
theorem dX10_isSpeaker_2 : decode cX10_isSpeaker 2 = .ok (.aload_n 0, 1) := by decide +kernel
theorem dX10_isSpeaker_3 : decode cX10_isSpeaker 3 = .ok (.getfield 9, 3) := by decide +kernel
theorem dX10_isSpeaker_6 : decode cX10_isSpeaker 6 = .ok (.iconst 0, 1) := by decide +kernel
theorem dX10_isSpeaker_7 : decode cX10_isSpeaker 7 = .ok (.iaload, 1) := by decide +kernel
theorem dX10_isSpeaker_8 : decode cX10_isSpeaker 8 = .ok (.iconst 1, 1) := by decide +kernel
theorem dX10_isSpeaker_9 : decode cX10_isSpeaker 9 = .ok (.isub, 1) := by decide +kernel
theorem dX10_isSpeaker_10 : decode cX10_isSpeaker 10 = .ok (.invokestatic 46, 3) := by decide +kernel
theorem dX10_isSpeaker_13 : decode cX10_isSpeaker 13 = .ok (.ireturn, 1) := by decide +kernel
def f_X10_isSpeaker (o_s : Nat → Int32) (p1 : Int32) : Option (Int32) := ob (f_X10_isIn p1 (0 : Int32) ((o_s 0) - (1 : Int32))) (fun r1 => gd (bz r1) (some r1))
set_option maxHeartbeats 4000000 in
set_option maxRecDepth 100000 in
theorem c_X10_isSpeaker (l : Launch) (E : EE) (o_h : Nat) (o_a0 : Nat) (o_a1 : Nat) (o_a2 : Nat) (o_a3 : Nat) (o_a8 : Nat) (o_a9 : Nat) (o_a11 : Nat) (o_a12 : Nat) (o_a13 : Nat) (o_a14 : Nat) (o_a15 : Nat) (o_a16 : Nat) (o_s : Nat → Int32) (o_m : Nat → Int32) (o_image : Nat → Int32) (o_was : Nat → Int32) (o_hasImage : Int32) (o_place : Int32) (o_rowAt : Int32) (o_rowEnd : Int32) (o_numbers : Nat → Int32) (o_most : Nat → Int32) (o_seed : Int32) (o_kept : Nat → Int32) (o_keptKind : Nat → Int32) (o_keptFigure : Nat → Int32) (o_sort : Nat → Int32) (o_size : Nat → Int32) (o_element : Nat → Int32) (o_thrown : Int32) (p1 : Int32) (res : Int32) (hv : f_X10_isSpeaker o_s p1 = some res) : Rd l E yX10_isSpeaker cX10_isSpeaker 2 (some .boolean) ({ frames := 1, cells := 0, slots := 0, locals := 22 }) [.ref o_h, .int p1] [oMo o_h o_a0 o_a1 o_a2 o_a3 o_hasImage o_place o_rowAt o_rowEnd o_a8 o_a9 o_seed o_a11 o_a12 o_a13 o_a14 o_a15 o_a16 o_thrown, ai E o_a0 42 o_s, ai E o_a1 42 o_m, ai E o_a2 42 o_image, ai E o_a3 42 o_was, ai E o_a8 3 o_numbers, ai E o_a9 8192 o_most, ai E o_a11 8 o_kept, ai E o_a12 8 o_keptKind, ai E o_a13 8 o_keptFigure, ai E o_a14 8 o_sort, ai E o_a15 8 o_size, ai E o_a16 800 o_element] (some (.int res)) := by
  refine Rd.intro RX10 (by decide) rfl (Nat.le_of_ble_eq_true rfl) ?_
  intro p e s m below meth c ls hC hr hlk hP hG hl
  obtain ⟨hx, hb, hml, hown, ht⟩ := id hC
  have hK := hG.1
  have hl : lv_has ls 2 [(0, .ref o_h), (1, .int p1)] := hl
  rw [f_X10_isSpeaker] at hv
  refine lv_iload_n hx hb dX10_isSpeaker_0 rfl (lv_at hl 1 rfl) ?_
  refine lv_iconst (v := (0 : Int32)) hx hb dX10_isSpeaker_1 (by decide) ?_
  refine lv_aload_n hx hb dX10_isSpeaker_2 rfl (lv_at hl 0 rfl) ?_
  refine va_get (D := E.1) (ci := 4) (v := .ref o_a0) (C := RX10) (T := TX10) (N := 18) hx hb ht i_X10 hown hK hP 0 rfl rfl 0 (by decide) (ht _ kw_4_134) (fun _ h9 => h9) rfl dX10_isSpeaker_3 ?_
  refine lv_iconst (v := (0 : Int32)) hx hb dX10_isSpeaker_6 (by decide) ?_
  refine va_iald hx hb hK hP 1 0 rfl rfl (ix_s (by decide)) dX10_isSpeaker_7 ?_
  refine W.eq (g2 := F0 m 8 ls [.int (o_s 0), .int (0 : Int32), .int p1]) rfl ?_
  refine lv_iconst (v := (1 : Int32)) hx hb dX10_isSpeaker_8 (by decide) ?_
  refine lv_isub hx hb dX10_isSpeaker_9 ?_
  obtain ⟨r1, h2, hv⟩ := ob_s hv
  refine rdS (rest := []) (st1 := [.int r1]) (w := []) hC q_X10_isIn kw_4_200 (c_X10_isIn l E p1 (0 : Int32) ((o_s 0) - (1 : Int32)) r1 h2) ⟨rfl, rfl⟩ ⟨Nat.le_of_ble_eq_true rfl, Nat.le_of_ble_eq_true rfl⟩ ⟨Nat.zero_le _, Nat.zero_le _⟩ (hP.sub (ws' := []) [] rfl) hG rfl hl.1 rfl (Nat.le_of_ble_eq_true rfl) dX10_isSpeaker_10 rfl ?_
  obtain ⟨g3, hv⟩ := gd_s hv
  exact W.zret (v := r1) hx hb hr (bz_s g3) (fun t h9 _ => ⟨rv_i hv, h9⟩) (fun q h => absurd h List.not_mem_nil) dX10_isSpeaker_13 hlk
theorem dX10_isRail_0 : decode cX10_isRail 0 = .ok (.iload_n 0, 1) := by decide +kernel
theorem dX10_isRail_1 : decode cX10_isRail 1 = .ok (.iconst 0, 1) := by decide +kernel
theorem dX10_isRail_2 : decode cX10_isRail 2 = .ok (.bipush 9, 2) := by decide +kernel
theorem dX10_isRail_4 : decode cX10_isRail 4 = .ok (.invokestatic 46, 3) := by decide +kernel
theorem dX10_isRail_7 : decode cX10_isRail 7 = .ok (.ireturn, 1) := by decide +kernel
def f_X10_isRail (p0 : Int32) : Option (Int32) := ob (f_X10_isIn p0 (0 : Int32) (9 : Int32)) (fun r1 => gd (bz r1) (some r1))
set_option maxHeartbeats 4000000 in
set_option maxRecDepth 100000 in
theorem c_X10_isRail (l : Launch) (E : EE) (p0 : Int32) (res : Int32) (hv : f_X10_isRail p0 = some res) : Rd l E yX10_isRail cX10_isRail 1 (some .boolean) ({ frames := 1, cells := 0, slots := 0, locals := 22 }) [.int p0] [] (some (.int res)) := by
  refine Rd.intro RX10 (by decide) rfl (Nat.le_of_ble_eq_true rfl) ?_
  intro p e s m below meth c ls hC hr hlk hP hG hl
  obtain ⟨hx, hb, hml, hown, ht⟩ := id hC
  have hK := hG.1
  have hl : lv_has ls 1 [(0, .int p0)] := hl
  rw [f_X10_isRail] at hv
  refine lv_iload_n hx hb dX10_isRail_0 rfl (lv_at hl 0 rfl) ?_
  refine lv_iconst (v := (0 : Int32)) hx hb dX10_isRail_1 (by decide) ?_
  refine lv_bipush (v := (9 : Int32)) hx hb dX10_isRail_2 (by decide) ?_
  obtain ⟨r1, h2, hv⟩ := ob_s hv
  refine rdS (rest := []) (st1 := [.int r1]) (w := []) hC q_X10_isIn kw_4_200 (c_X10_isIn l E p0 (0 : Int32) (9 : Int32) r1 h2) ⟨rfl, rfl⟩ ⟨Nat.le_of_ble_eq_true rfl, Nat.le_of_ble_eq_true rfl⟩ ⟨Nat.zero_le _, Nat.zero_le _⟩ hP hG rfl hl.1 rfl (Nat.le_of_ble_eq_true rfl) dX10_isRail_4 rfl ?_
  obtain ⟨g3, hv⟩ := gd_s hv
  exact W.zret (v := r1) hx hb hr (bz_s g3) (fun t h9 _ => ⟨rv_i hv, h9⟩) (fun q h => absurd h List.not_mem_nil) dX10_isRail_7 hlk
theorem dX10_has_0 : decode cX10_has 0 = .ok (.iload_n 0, 1) := by decide +kernel
theorem dX10_has_1 : decode cX10_has 1 = .ok (.iload_n 1, 1) := by decide +kernel
theorem dX10_has_2 : decode cX10_has 2 = .ok (.ishr, 1) := by decide +kernel
theorem dX10_has_3 : decode cX10_has 3 = .ok (.iconst 1, 1) := by decide +kernel
theorem dX10_has_4 : decode cX10_has 4 = .ok (.iand, 1) := by decide +kernel
theorem dX10_has_5 : decode cX10_has 5 = .ok (.iconst 1, 1) := by decide +kernel
theorem dX10_has_6 : decode cX10_has 6 = .ok (.if_icmp .ne 7, 3) := by decide +kernel
theorem dX10_has_9 : decode cX10_has 9 = .ok (.iconst 1, 1) := by decide +kernel
theorem dX10_has_10 : decode cX10_has 10 = .ok (.goto 4, 3) := by decide +kernel
theorem dX10_has_13 : decode cX10_has 13 = .ok (.iconst 0, 1) := by decide +kernel
theorem dX10_has_14 : decode cX10_has 14 = .ok (.ireturn, 1) := by decide +kernel
def f_X10_has (p0 : Int32) (p1 : Int32) : Option (Int32) := if ((p0 >>> (p1 &&& 31)) &&& (1 : Int32)) = (1 : Int32) then some (1 : Int32) else some (0 : Int32)
set_option maxHeartbeats 4000000 in
set_option maxRecDepth 100000 in
theorem c_X10_has (l : Launch) (E : EE) (p0 : Int32) (p1 : Int32) (res : Int32) (hv : f_X10_has p0 p1 = some res) : Rd l E yX10_has cX10_has 2 (some .boolean) ({ frames := 0, cells := 0, slots := 0, locals := 0 }) [.int p0, .int p1] [] (some (.int res)) := by
  refine Rd.intro RX10 (by decide) rfl (Nat.le_of_ble_eq_true rfl) ?_
  intro p e s m below meth c ls hC hr hlk hP hG hl
  obtain ⟨hx, hb, hml, hown, ht⟩ := id hC
  have hK := hG.1
  have hl : lv_has ls 2 [(0, .int p0), (1, .int p1)] := hl
  rw [f_X10_has] at hv
  refine lv_iload_n hx hb dX10_has_0 rfl (lv_at hl 0 rfl) ?_
  refine lv_iload_n hx hb dX10_has_1 rfl (lv_at hl 1 rfl) ?_
  refine lv_ishr hx hb dX10_has_2 ?_
  refine lv_iconst (v := (1 : Int32)) hx hb dX10_has_3 (by decide) ?_
  refine lv_iand hx hb dX10_has_4 ?_
  refine lv_iconst (v := (1 : Int32)) hx hb dX10_has_5 (by decide) ?_
  refine lv_icmp_ne (tgt := 13) hx hb dX10_has_6 (by decide) (fun c1 => ?_) (fun c1 => ?_)
  · have hv := if_n c1 hv
    refine lv_iconst (v := (0 : Int32)) hx hb dX10_has_13 (by decide) ?_
    exact W.zret (v := (0 : Int32)) hx hb hr rfl (fun t h9 _ => ⟨rv_i hv, h9⟩) (fun q h => absurd h List.not_mem_nil) dX10_has_14 hlk
  · have hv := if_y c1 hv
    refine lv_iconst (v := (1 : Int32)) hx hb dX10_has_9 (by decide) ?_
    refine lv_goto (tgt := 14) hx hb dX10_has_10 (by decide) ?_
    exact W.zret (v := (1 : Int32)) hx hb hr rfl (fun t h9 _ => ⟨rv_i hv, h9⟩) (fun q h => absurd h List.not_mem_nil) dX10_has_14 hlk
theorem dX10_bits_0 : decode cX10_bits 0 = .ok (.iconst 0, 1) := by decide +kernel
theorem dX10_bits_1 : decode cX10_bits 1 = .ok (.istore_n 1, 1) := by decide +kernel
theorem dX10_bits_2 : decode cX10_bits 2 = .ok (.iconst 0, 1) := by decide +kernel
theorem dX10_bits_3 : decode cX10_bits 3 = .ok (.istore_n 2, 1) := by decide +kernel
theorem dX10_bits_4 : decode cX10_bits 4 = .ok (.iload_n 2, 1) := by decide +kernel
theorem dX10_bits_5 : decode cX10_bits 5 = .ok (.bipush 10, 2) := by decide +kernel
theorem dX10_bits_7 : decode cX10_bits 7 = .ok (.if_icmp .ge 17, 3) := by decide +kernel
theorem dX10_bits_10 : decode cX10_bits 10 = .ok (.iload_n 1, 1) := by decide +kernel
theorem dX10_bits_11 : decode cX10_bits 11 = .ok (.iload_n 0, 1) := by decide +kernel
theorem dX10_bits_12 : decode cX10_bits 12 = .ok (.iload_n 2, 1) := by decide +kernel
theorem dX10_bits_13 : decode cX10_bits 13 = .ok (.ishr, 1) := by decide +kernel
theorem dX10_bits_14 : decode cX10_bits 14 = .ok (.iconst 1, 1) := by decide +kernel
theorem dX10_bits_15 : decode cX10_bits 15 = .ok (.iand, 1) := by decide +kernel
theorem dX10_bits_16 : decode cX10_bits 16 = .ok (.iadd, 1) := by decide +kernel
theorem dX10_bits_17 : decode cX10_bits 17 = .ok (.istore_n 1, 1) := by decide +kernel
theorem dX10_bits_18 : decode cX10_bits 18 = .ok (.iinc 2 1, 3) := by decide +kernel
theorem dX10_bits_21 : decode cX10_bits 21 = .ok (.goto (-17), 3) := by decide +kernel
theorem dX10_bits_24 : decode cX10_bits 24 = .ok (.iload_n 1, 1) := by decide +kernel
theorem dX10_bits_25 : decode cX10_bits 25 = .ok (.ireturn, 1) := by decide +kernel
def L_X10_bits_4 (p0 : Int32) : Nat → Int32 → Int32 → Option (Int32)
  | 0, _, _ => none
  | n4 + 1, x1, x2 => if (10 : Int32) ≤ x1 then some x2 else nm (x2 + ((p0 >>> (x1 &&& 31)) &&& (1 : Int32))) (fun z4 => L_X10_bits_4 p0 n4 (x1 + (1 : Int32)) z4)
def f_X10_bits (N : Nat) (p0 : Int32) : Option (Int32) := L_X10_bits_4 p0 N (0 : Int32) (0 : Int32)
set_option maxHeartbeats 4000000 in
set_option maxRecDepth 100000 in
theorem c_X10_bits (l : Launch) (E : EE) (p0 : Int32) (N : Nat) (res : Int32) (hv : f_X10_bits N p0 = some res) : Rd l E yX10_bits cX10_bits 3 (some .int) ({ frames := 0, cells := 0, slots := 0, locals := 0 }) [.int p0] [] (some (.int res)) := by
  refine Rd.intro RX10 (by decide) rfl (Nat.le_of_ble_eq_true rfl) ?_
  intro p e s m below meth c ls hC hr hlk hP hG hl
  obtain ⟨hx, hb, hml, hown, ht⟩ := id hC
  have hK := hG.1
  have hl : lv_has ls 3 [(0, .int p0)] := hl
  rw [f_X10_bits] at hv
  refine lv_iconst (v := (0 : Int32)) hx hb dX10_bits_0 (by decide) ?_
  refine lv_istore_n (lv' := [(1, .int (0 : Int32)), (0, .int p0)]) hx hb dX10_bits_1 rfl hl (by decide) rfl (fun ls hl => ?_)
  refine lv_iconst (v := (0 : Int32)) hx hb dX10_bits_2 (by decide) ?_
  refine lv_istore_n (lv' := [(2, .int (0 : Int32)), (1, .int (0 : Int32)), (0, .int p0)]) hx hb dX10_bits_3 rfl hl (by decide) rfl (fun ls hl => ?_)
  have hL4 : ∀ (n : Nat) (x1 : Int32) (x2 : Int32) (ls : Array Slot), lv_has ls 3 [(2, .int x1), (1, .int x2), (0, .int p0)] → L_X10_bits_4 p0 n x1 x2 = some res → W p l e ({ frames := 0, cells := 0, slots := 0, locals := 0 }) s m [.int p0].toArray below meth c s.heap [] 0 0 (MQ below (RdQ (some (.int res))) [.int p0].toArray s 0 0 (fun _ => False)) (F0 m 4 ls []) := by
    intro n
    induction n with
    | zero => intro x1 x2 ls hl hv; cases hv
    | succ n4 ih4 =>
      intro x1 x2 ls hl hv
      rw [L_X10_bits_4] at hv
      refine lv_iload_n hx hb dX10_bits_4 rfl (lv_at hl 0 rfl) ?_
      refine lv_bipush (v := (10 : Int32)) hx hb dX10_bits_5 (by decide) ?_
      refine lv_icmp_ge (tgt := 24) hx hb dX10_bits_7 (by decide) (fun c3 => ?_) (fun c3 => ?_)
      · have hv := if_y c3 hv
        refine lv_iload_n hx hb dX10_bits_24 rfl (lv_at hl 1 rfl) ?_
        exact W.iret (v := x2) hx hb hr (fun t h9 _ => ⟨rv_i hv, h9⟩) (fun q h => absurd h List.not_mem_nil) dX10_bits_25 hlk
      · have hv := if_n c3 hv
        refine lv_iload_n hx hb dX10_bits_10 rfl (lv_at hl 1 rfl) ?_
        refine lv_iload_n hx hb dX10_bits_11 rfl (lv_at hl 2 rfl) ?_
        refine lv_iload_n hx hb dX10_bits_12 rfl (lv_at hl 0 rfl) ?_
        refine lv_ishr hx hb dX10_bits_13 ?_
        refine lv_iconst (v := (1 : Int32)) hx hb dX10_bits_14 (by decide) ?_
        refine lv_iand hx hb dX10_bits_15 ?_
        refine lv_iadd hx hb dX10_bits_16 ?_
        refine lv_topi (fun z4 ez4 => ?_)
        have hv := nm_s ez4 hv
        refine lv_istore_n (lv' := [(1, .int z4), (2, .int x1), (0, .int p0)]) hx hb dX10_bits_17 rfl hl (by decide) rfl (fun ls hl => ?_)
        refine lv_iinc (v := (x1 + (1 : Int32))) (lv' := [(2, .int (x1 + (1 : Int32))), (1, .int z4), (0, .int p0)]) hx hb dX10_bits_18 hl (k := 1) rfl rfl (by decide) rfl (fun ls hl => ?_)
        refine lv_goto (tgt := 4) hx hb dX10_bits_21 (by decide) ?_
        exact ih4 (x1 + (1 : Int32)) z4 _ (lv_sub hl [0, 1, 2] rfl) hv
  exact hL4 N (0 : Int32) (0 : Int32) _ (lv_sub hl [0, 1, 2] rfl) hv
theorem dX10_weightBy_0 : decode cX10_weightBy 0 = .ok (.iload_n 0, 1) := by decide +kernel
theorem dX10_weightBy_1 : decode cX10_weightBy 1 = .ok (.tableswitch 72 1 7 #[43, 47, 51, 53, 57, 60, 66], 43) := by decide +kernel
theorem dX10_weightBy_44 : decode cX10_weightBy 44 = .ok (.iconst 2, 1) := by decide +kernel
theorem dX10_weightBy_45 : decode cX10_weightBy 45 = .ok (.iload_n 2, 1) := by decide +kernel
theorem dX10_weightBy_46 : decode cX10_weightBy 46 = .ok (.imul, 1) := by decide +kernel
theorem dX10_weightBy_47 : decode cX10_weightBy 47 = .ok (.ireturn, 1) := by decide +kernel
theorem dX10_weightBy_48 : decode cX10_weightBy 48 = .ok (.iload_n 1, 1) := by decide +kernel
theorem dX10_weightBy_49 : decode cX10_weightBy 49 = .ok (.iconst 3, 1) := by decide +kernel
theorem dX10_weightBy_50 : decode cX10_weightBy 50 = .ok (.idiv, 1) := by decide +kernel
theorem dX10_weightBy_51 : decode cX10_weightBy 51 = .ok (.ireturn, 1) := by decide +kernel
theorem dX10_weightBy_52 : decode cX10_weightBy 52 = .ok (.iload_n 2, 1) := by decide +kernel
theorem dX10_weightBy_53 : decode cX10_weightBy 53 = .ok (.ireturn, 1) := by decide +kernel
theorem dX10_weightBy_54 : decode cX10_weightBy 54 = .ok (.iload_n 2, 1) := by decide +kernel
theorem dX10_weightBy_55 : decode cX10_weightBy 55 = .ok (.iconst 2, 1) := by decide +kernel
theorem dX10_weightBy_56 : decode cX10_weightBy 56 = .ok (.idiv, 1) := by decide +kernel
theorem dX10_weightBy_57 : decode cX10_weightBy 57 = .ok (.ireturn, 1) := by decide +kernel
theorem dX10_weightBy_58 : decode cX10_weightBy 58 = .ok (.bipush 9, 2) := by decide +kernel
theorem dX10_weightBy_60 : decode cX10_weightBy 60 = .ok (.ireturn, 1) := by decide +kernel
theorem dX10_weightBy_61 : decode cX10_weightBy 61 = .ok (.iconst 2, 1) := by decide +kernel
theorem dX10_weightBy_62 : decode cX10_weightBy 62 = .ok (.iload_n 2, 1) := by decide +kernel
theorem dX10_weightBy_63 : decode cX10_weightBy 63 = .ok (.imul, 1) := by decide +kernel
theorem dX10_weightBy_64 : decode cX10_weightBy 64 = .ok (.iload_n 1, 1) := by decide +kernel
theorem dX10_weightBy_65 : decode cX10_weightBy 65 = .ok (.iadd, 1) := by decide +kernel
theorem dX10_weightBy_66 : decode cX10_weightBy 66 = .ok (.ireturn, 1) := by decide +kernel
theorem dX10_weightBy_67 : decode cX10_weightBy 67 = .ok (.iconst 3, 1) := by decide +kernel
theorem dX10_weightBy_68 : decode cX10_weightBy 68 = .ok (.iload_n 1, 1) := by decide +kernel
theorem dX10_weightBy_69 : decode cX10_weightBy 69 = .ok (.iconst 2, 1) := by decide +kernel
theorem dX10_weightBy_70 : decode cX10_weightBy 70 = .ok (.idiv, 1) := by decide +kernel
theorem dX10_weightBy_71 : decode cX10_weightBy 71 = .ok (.iadd, 1) := by decide +kernel
theorem dX10_weightBy_72 : decode cX10_weightBy 72 = .ok (.ireturn, 1) := by decide +kernel
theorem dX10_weightBy_73 : decode cX10_weightBy 73 = .ok (.iconst 1, 1) := by decide +kernel
theorem dX10_weightBy_74 : decode cX10_weightBy 74 = .ok (.iload_n 2, 1) := by decide +kernel
theorem dX10_weightBy_75 : decode cX10_weightBy 75 = .ok (.iadd, 1) := by decide +kernel
theorem dX10_weightBy_76 : decode cX10_weightBy 76 = .ok (.ireturn, 1) := by decide +kernel
def f_X10_weightBy (p0 : Int32) (p1 : Int32) (p2 : Int32) : Option (Int32) := if p0 = (1 : Int32) then some ((2 : Int32) * p2) else if p0 = (2 : Int32) then some (p1 / (3 : Int32)) else if p0 = (3 : Int32) then some p2 else if p0 = (4 : Int32) then some (p2 / (2 : Int32)) else if p0 = (5 : Int32) then some (9 : Int32) else if p0 = (6 : Int32) then some (((2 : Int32) * p2) + p1) else if p0 = (7 : Int32) then some ((3 : Int32) + (p1 / (2 : Int32))) else some ((1 : Int32) + p2)
set_option maxHeartbeats 4000000 in
set_option maxRecDepth 100000 in
theorem c_X10_weightBy (l : Launch) (E : EE) (p0 : Int32) (p1 : Int32) (p2 : Int32) (res : Int32) (hv : f_X10_weightBy p0 p1 p2 = some res) : Rd l E yX10_weightBy cX10_weightBy 3 (some .int) ({ frames := 0, cells := 0, slots := 0, locals := 0 }) [.int p0, .int p1, .int p2] [] (some (.int res)) := by
  refine Rd.intro RX10 (by decide) rfl (Nat.le_of_ble_eq_true rfl) ?_
  intro p e s m below meth c ls hC hr hlk hP hG hl
  obtain ⟨hx, hb, hml, hown, ht⟩ := id hC
  have hK := hG.1
  have hl : lv_has ls 3 [(0, .int p0), (1, .int p1), (2, .int p2)] := hl
  rw [f_X10_weightBy] at hv
  refine lv_iload_n hx hb dX10_weightBy_0 rfl (lv_at hl 0 rfl) ?_
  rcases Decidable.em (p0 = (1 : Int32)) with c1 | c1
  · have hv := if_y c1 hv
    refine lv_tableIn (tgt := 44) (off := 43) hx hb dX10_weightBy_1 (by rw [c1]; decide) (by rw [c1]; decide) (by rw [c1]; rfl) (by decide) ?_
    refine lv_iconst (v := (2 : Int32)) hx hb dX10_weightBy_44 (by decide) ?_
    refine lv_iload_n hx hb dX10_weightBy_45 rfl (lv_at hl 2 rfl) ?_
    refine lv_imul hx hb dX10_weightBy_46 ?_
    exact W.iret (v := ((2 : Int32) * p2)) hx hb hr (fun t h9 _ => ⟨rv_i hv, h9⟩) (fun q h => absurd h List.not_mem_nil) dX10_weightBy_47 hlk
  · have hv := if_n c1 hv
    rcases Decidable.em (p0 = (2 : Int32)) with c2 | c2
    · have hv := if_y c2 hv
      refine lv_tableIn (tgt := 48) (off := 47) hx hb dX10_weightBy_1 (by rw [c2]; decide) (by rw [c2]; decide) (by rw [c2]; rfl) (by decide) ?_
      refine lv_iload_n hx hb dX10_weightBy_48 rfl (lv_at hl 1 rfl) ?_
      refine lv_iconst (v := (3 : Int32)) hx hb dX10_weightBy_49 (by decide) ?_
      refine lv_idiv hx hb dX10_weightBy_50 (by decide) ?_
      exact W.iret (v := (p1 / (3 : Int32))) hx hb hr (fun t h9 _ => ⟨rv_i hv, h9⟩) (fun q h => absurd h List.not_mem_nil) dX10_weightBy_51 hlk
    · have hv := if_n c2 hv
      rcases Decidable.em (p0 = (3 : Int32)) with c3 | c3
      · have hv := if_y c3 hv
        refine lv_tableIn (tgt := 52) (off := 51) hx hb dX10_weightBy_1 (by rw [c3]; decide) (by rw [c3]; decide) (by rw [c3]; rfl) (by decide) ?_
        refine lv_iload_n hx hb dX10_weightBy_52 rfl (lv_at hl 2 rfl) ?_
        exact W.iret (v := p2) hx hb hr (fun t h9 _ => ⟨rv_i hv, h9⟩) (fun q h => absurd h List.not_mem_nil) dX10_weightBy_53 hlk
      · have hv := if_n c3 hv
        rcases Decidable.em (p0 = (4 : Int32)) with c4 | c4
        · have hv := if_y c4 hv
          refine lv_tableIn (tgt := 54) (off := 53) hx hb dX10_weightBy_1 (by rw [c4]; decide) (by rw [c4]; decide) (by rw [c4]; rfl) (by decide) ?_
          refine lv_iload_n hx hb dX10_weightBy_54 rfl (lv_at hl 2 rfl) ?_
          refine lv_iconst (v := (2 : Int32)) hx hb dX10_weightBy_55 (by decide) ?_
          refine lv_idiv hx hb dX10_weightBy_56 (by decide) ?_
          exact W.iret (v := (p2 / (2 : Int32))) hx hb hr (fun t h9 _ => ⟨rv_i hv, h9⟩) (fun q h => absurd h List.not_mem_nil) dX10_weightBy_57 hlk
        · have hv := if_n c4 hv
          rcases Decidable.em (p0 = (5 : Int32)) with c5 | c5
          · have hv := if_y c5 hv
            refine lv_tableIn (tgt := 58) (off := 57) hx hb dX10_weightBy_1 (by rw [c5]; decide) (by rw [c5]; decide) (by rw [c5]; rfl) (by decide) ?_
            refine lv_bipush (v := (9 : Int32)) hx hb dX10_weightBy_58 (by decide) ?_
            exact W.iret (v := (9 : Int32)) hx hb hr (fun t h9 _ => ⟨rv_i hv, h9⟩) (fun q h => absurd h List.not_mem_nil) dX10_weightBy_60 hlk
          · have hv := if_n c5 hv
            rcases Decidable.em (p0 = (6 : Int32)) with c6 | c6
            · have hv := if_y c6 hv
              refine lv_tableIn (tgt := 61) (off := 60) hx hb dX10_weightBy_1 (by rw [c6]; decide) (by rw [c6]; decide) (by rw [c6]; rfl) (by decide) ?_
              refine lv_iconst (v := (2 : Int32)) hx hb dX10_weightBy_61 (by decide) ?_
              refine lv_iload_n hx hb dX10_weightBy_62 rfl (lv_at hl 2 rfl) ?_
              refine lv_imul hx hb dX10_weightBy_63 ?_
              refine lv_iload_n hx hb dX10_weightBy_64 rfl (lv_at hl 1 rfl) ?_
              refine lv_iadd hx hb dX10_weightBy_65 ?_
              exact W.iret (v := (((2 : Int32) * p2) + p1)) hx hb hr (fun t h9 _ => ⟨rv_i hv, h9⟩) (fun q h => absurd h List.not_mem_nil) dX10_weightBy_66 hlk
            · have hv := if_n c6 hv
              rcases Decidable.em (p0 = (7 : Int32)) with c7 | c7
              · have hv := if_y c7 hv
                refine lv_tableIn (tgt := 67) (off := 66) hx hb dX10_weightBy_1 (by rw [c7]; decide) (by rw [c7]; decide) (by rw [c7]; rfl) (by decide) ?_
                refine lv_iconst (v := (3 : Int32)) hx hb dX10_weightBy_67 (by decide) ?_
                refine lv_iload_n hx hb dX10_weightBy_68 rfl (lv_at hl 1 rfl) ?_
                refine lv_iconst (v := (2 : Int32)) hx hb dX10_weightBy_69 (by decide) ?_
                refine lv_idiv hx hb dX10_weightBy_70 (by decide) ?_
                refine lv_iadd hx hb dX10_weightBy_71 ?_
                exact W.iret (v := ((3 : Int32) + (p1 / (2 : Int32)))) hx hb hr (fun t h9 _ => ⟨rv_i hv, h9⟩) (fun q h => absurd h List.not_mem_nil) dX10_weightBy_72 hlk
              · have hv := if_n c7 hv
                refine lv_tableD (tgt := 73) hx hb dX10_weightBy_1 (fun i h => match i, h with | 0, _ => Or.inr (lv_neT c1 (by decide)) | 1, _ => Or.inr (lv_neT c2 (by decide)) | 2, _ => Or.inr (lv_neT c3 (by decide)) | 3, _ => Or.inr (lv_neT c4 (by decide)) | 4, _ => Or.inr (lv_neT c5 (by decide)) | 5, _ => Or.inr (lv_neT c6 (by decide)) | 6, _ => Or.inr (lv_neT c7 (by decide)) | i + 7, h => absurd h (by simp)) rfl (by decide) ?_
                refine lv_iconst (v := (1 : Int32)) hx hb dX10_weightBy_73 (by decide) ?_
                refine lv_iload_n hx hb dX10_weightBy_74 rfl (lv_at hl 2 rfl) ?_
                refine lv_iadd hx hb dX10_weightBy_75 ?_
                exact W.iret (v := ((1 : Int32) + p2)) hx hb hr (fun t h9 _ => ⟨rv_i hv, h9⟩) (fun q h => absurd h List.not_mem_nil) dX10_weightBy_76 hlk
theorem dX10_swayBy_0 : decode cX10_swayBy 0 = .ok (.iload_n 0, 1) := by decide +kernel
theorem dX10_swayBy_1 : decode cX10_swayBy 1 = .ok (.tableswitch 51 1 6 #[39, 51, 41, 43, 49, 39], 39) := by decide +kernel
theorem dX10_swayBy_40 : decode cX10_swayBy 40 = .ok (.iconst 0, 1) := by decide +kernel
theorem dX10_swayBy_41 : decode cX10_swayBy 41 = .ok (.ireturn, 1) := by decide +kernel
theorem dX10_swayBy_42 : decode cX10_swayBy 42 = .ok (.iconst 2, 1) := by decide +kernel
theorem dX10_swayBy_43 : decode cX10_swayBy 43 = .ok (.ireturn, 1) := by decide +kernel
theorem dX10_swayBy_44 : decode cX10_swayBy 44 = .ok (.iconst 2, 1) := by decide +kernel
theorem dX10_swayBy_45 : decode cX10_swayBy 45 = .ok (.iload_n 1, 1) := by decide +kernel
theorem dX10_swayBy_46 : decode cX10_swayBy 46 = .ok (.iconst 3, 1) := by decide +kernel
theorem dX10_swayBy_47 : decode cX10_swayBy 47 = .ok (.idiv, 1) := by decide +kernel
theorem dX10_swayBy_48 : decode cX10_swayBy 48 = .ok (.iadd, 1) := by decide +kernel
theorem dX10_swayBy_49 : decode cX10_swayBy 49 = .ok (.ireturn, 1) := by decide +kernel
theorem dX10_swayBy_50 : decode cX10_swayBy 50 = .ok (.iconst 3, 1) := by decide +kernel
theorem dX10_swayBy_51 : decode cX10_swayBy 51 = .ok (.ireturn, 1) := by decide +kernel
theorem dX10_swayBy_52 : decode cX10_swayBy 52 = .ok (.iconst 1, 1) := by decide +kernel
theorem dX10_swayBy_53 : decode cX10_swayBy 53 = .ok (.ireturn, 1) := by decide +kernel
def f_X10_swayBy (p0 : Int32) (p1 : Int32) : Option (Int32) := if p0 = (1 : Int32) then some (0 : Int32) else if p0 = (3 : Int32) then some (2 : Int32) else if p0 = (4 : Int32) then some ((2 : Int32) + (p1 / (3 : Int32))) else if p0 = (5 : Int32) then some (3 : Int32) else if p0 = (6 : Int32) then some (0 : Int32) else some (1 : Int32)
set_option maxHeartbeats 4000000 in
set_option maxRecDepth 100000 in
theorem c_X10_swayBy (l : Launch) (E : EE) (p0 : Int32) (p1 : Int32) (res : Int32) (hv : f_X10_swayBy p0 p1 = some res) : Rd l E yX10_swayBy cX10_swayBy 2 (some .int) ({ frames := 0, cells := 0, slots := 0, locals := 0 }) [.int p0, .int p1] [] (some (.int res)) := by
  refine Rd.intro RX10 (by decide) rfl (Nat.le_of_ble_eq_true rfl) ?_
  intro p e s m below meth c ls hC hr hlk hP hG hl
  obtain ⟨hx, hb, hml, hown, ht⟩ := id hC
  have hK := hG.1
  have hl : lv_has ls 2 [(0, .int p0), (1, .int p1)] := hl
  rw [f_X10_swayBy] at hv
  refine lv_iload_n hx hb dX10_swayBy_0 rfl (lv_at hl 0 rfl) ?_
  rcases Decidable.em (p0 = (1 : Int32)) with c1 | c1
  · have hv := if_y c1 hv
    refine lv_tableIn (tgt := 40) (off := 39) hx hb dX10_swayBy_1 (by rw [c1]; decide) (by rw [c1]; decide) (by rw [c1]; rfl) (by decide) ?_
    refine lv_iconst (v := (0 : Int32)) hx hb dX10_swayBy_40 (by decide) ?_
    exact W.iret (v := (0 : Int32)) hx hb hr (fun t h9 _ => ⟨rv_i hv, h9⟩) (fun q h => absurd h List.not_mem_nil) dX10_swayBy_41 hlk
  · have hv := if_n c1 hv
    rcases Decidable.em (p0 = (3 : Int32)) with c2 | c2
    · have hv := if_y c2 hv
      refine lv_tableIn (tgt := 42) (off := 41) hx hb dX10_swayBy_1 (by rw [c2]; decide) (by rw [c2]; decide) (by rw [c2]; rfl) (by decide) ?_
      refine lv_iconst (v := (2 : Int32)) hx hb dX10_swayBy_42 (by decide) ?_
      exact W.iret (v := (2 : Int32)) hx hb hr (fun t h9 _ => ⟨rv_i hv, h9⟩) (fun q h => absurd h List.not_mem_nil) dX10_swayBy_43 hlk
    · have hv := if_n c2 hv
      rcases Decidable.em (p0 = (4 : Int32)) with c3 | c3
      · have hv := if_y c3 hv
        refine lv_tableIn (tgt := 44) (off := 43) hx hb dX10_swayBy_1 (by rw [c3]; decide) (by rw [c3]; decide) (by rw [c3]; rfl) (by decide) ?_
        refine lv_iconst (v := (2 : Int32)) hx hb dX10_swayBy_44 (by decide) ?_
        refine lv_iload_n hx hb dX10_swayBy_45 rfl (lv_at hl 1 rfl) ?_
        refine lv_iconst (v := (3 : Int32)) hx hb dX10_swayBy_46 (by decide) ?_
        refine lv_idiv hx hb dX10_swayBy_47 (by decide) ?_
        refine lv_iadd hx hb dX10_swayBy_48 ?_
        exact W.iret (v := ((2 : Int32) + (p1 / (3 : Int32)))) hx hb hr (fun t h9 _ => ⟨rv_i hv, h9⟩) (fun q h => absurd h List.not_mem_nil) dX10_swayBy_49 hlk
      · have hv := if_n c3 hv
        rcases Decidable.em (p0 = (5 : Int32)) with c4 | c4
        · have hv := if_y c4 hv
          refine lv_tableIn (tgt := 50) (off := 49) hx hb dX10_swayBy_1 (by rw [c4]; decide) (by rw [c4]; decide) (by rw [c4]; rfl) (by decide) ?_
          refine lv_iconst (v := (3 : Int32)) hx hb dX10_swayBy_50 (by decide) ?_
          exact W.iret (v := (3 : Int32)) hx hb hr (fun t h9 _ => ⟨rv_i hv, h9⟩) (fun q h => absurd h List.not_mem_nil) dX10_swayBy_51 hlk
        · have hv := if_n c4 hv
          rcases Decidable.em (p0 = (6 : Int32)) with c5 | c5
          · have hv := if_y c5 hv
            refine lv_tableIn (tgt := 40) (off := 39) hx hb dX10_swayBy_1 (by rw [c5]; decide) (by rw [c5]; decide) (by rw [c5]; rfl) (by decide) ?_
            refine lv_iconst (v := (0 : Int32)) hx hb dX10_swayBy_40 (by decide) ?_
            exact W.iret (v := (0 : Int32)) hx hb hr (fun t h9 _ => ⟨rv_i hv, h9⟩) (fun q h => absurd h List.not_mem_nil) dX10_swayBy_41 hlk
          · have hv := if_n c5 hv
            refine lv_tableD (tgt := 52) hx hb dX10_swayBy_1 (fun i h => match i, h with | 0, _ => Or.inr (lv_neT c1 (by decide)) | 1, _ => Or.inl rfl | 2, _ => Or.inr (lv_neT c2 (by decide)) | 3, _ => Or.inr (lv_neT c3 (by decide)) | 4, _ => Or.inr (lv_neT c4 (by decide)) | 5, _ => Or.inr (lv_neT c5 (by decide)) | i + 6, h => absurd h (by simp)) rfl (by decide) ?_
            refine lv_iconst (v := (1 : Int32)) hx hb dX10_swayBy_52 (by decide) ?_
            exact W.iret (v := (1 : Int32)) hx hb hr (fun t h9 _ => ⟨rv_i hv, h9⟩) (fun q h => absurd h List.not_mem_nil) dX10_swayBy_53 hlk
theorem dX10_heightOf_0 : decode cX10_heightOf 0 = .ok (.aload_n 0, 1) := by decide +kernel
theorem dX10_heightOf_1 : decode cX10_heightOf 1 = .ok (.iconst 4, 1) := by decide +kernel
theorem dX10_heightOf_2 : decode cX10_heightOf 2 = .ok (.aload_n 0, 1) := by decide +kernel
theorem dX10_heightOf_3 : decode cX10_heightOf 3 = .ok (.iload_n 1, 1) := by decide +kernel
theorem dX10_heightOf_4 : decode cX10_heightOf 4 = .ok (.iconst 2, 1) := by decide +kernel
theorem dX10_heightOf_5 : decode cX10_heightOf 5 = .ok (.invokestatic 50, 3) := by decide +kernel
theorem dX10_heightOf_8 : decode cX10_heightOf 8 = .ok (.iaload, 1) := by decide +kernel
theorem dX10_heightOf_9 : decode cX10_heightOf 9 = .ok (.iadd, 1) := by decide +kernel
theorem dX10_heightOf_10 : decode cX10_heightOf 10 = .ok (.iaload, 1) := by decide +kernel
theorem dX10_heightOf_11 : decode cX10_heightOf 11 = .ok (.ireturn, 1) := by decide +kernel
def f_X10_heightOf (ra : Nat → Int32) (p1 : Int32) : Option (Int32) := ob (f_X10_of p1 (2 : Int32)) (fun r1 => gd (ix r1 42) (gd (ix ((4 : Int32) + (ra r1.toNatClampNeg)) 42) (some (ra ((4 : Int32) + (ra r1.toNatClampNeg)).toNatClampNeg))))
set_option maxHeartbeats 4000000 in
set_option maxRecDepth 100000 in
theorem c_X10_heightOf (l : Launch) (E : EE) (ra_h : Nat) (ra : Nat → Int32) (p1 : Int32) (res : Int32) (hv : f_X10_heightOf ra p1 = some res) : Rd l E yX10_heightOf cX10_heightOf 2 (some .int) ({ frames := 1, cells := 0, slots := 0, locals := 21 }) [.ref ra_h, .int p1] [ai E ra_h 42 ra] (some (.int res)) := by
  refine Rd.intro RX10 (by decide) rfl (Nat.le_of_ble_eq_true rfl) ?_
  intro p e s m below meth c ls hC hr hlk hP hG hl
  obtain ⟨hx, hb, hml, hown, ht⟩ := id hC
  have hK := hG.1
  have hl : lv_has ls 2 [(0, .ref ra_h), (1, .int p1)] := hl
  rw [f_X10_heightOf] at hv
  refine lv_aload_n hx hb dX10_heightOf_0 rfl (lv_at hl 0 rfl) ?_
  refine lv_iconst (v := (4 : Int32)) hx hb dX10_heightOf_1 (by decide) ?_
  refine lv_aload_n hx hb dX10_heightOf_2 rfl (lv_at hl 0 rfl) ?_
  refine lv_iload_n hx hb dX10_heightOf_3 rfl (lv_at hl 1 rfl) ?_
  refine lv_iconst (v := (2 : Int32)) hx hb dX10_heightOf_4 (by decide) ?_
  obtain ⟨r1, h2, hv⟩ := ob_s hv
  refine rdS (rest := [.ref ra_h, .int (4 : Int32), .ref ra_h]) (st1 := [.int r1, .ref ra_h, .int (4 : Int32), .ref ra_h]) (w := []) hC q_X10_of kw_4_226 (c_X10_of l E p1 (2 : Int32) r1 h2) ⟨rfl, rfl⟩ ⟨Nat.le_of_ble_eq_true rfl, Nat.le_of_ble_eq_true rfl⟩ ⟨Nat.zero_le _, Nat.zero_le _⟩ (hP.sub (ws' := []) [] rfl) hG rfl hl.1 rfl (Nat.le_of_ble_eq_true rfl) dX10_heightOf_5 rfl ?_
  obtain ⟨g3, hv⟩ := gd_s hv
  refine va_iald hx hb hK hP 0 0 rfl rfl (ix_s g3) dX10_heightOf_8 ?_
  refine lv_iadd hx hb dX10_heightOf_9 ?_
  obtain ⟨g4, hv⟩ := gd_s hv
  refine va_iald hx hb hK hP 0 0 rfl rfl (ix_s g4) dX10_heightOf_10 ?_
  exact W.iret (v := (ra ((4 : Int32) + (ra r1.toNatClampNeg)).toNatClampNeg)) hx hb hr (fun t h9 _ => ⟨rv_i hv, h9⟩) (fun q h => absurd h List.not_mem_nil) dX10_heightOf_11 hlk
theorem dX10_weight_0 : decode cX10_weight 0 = .ok (.aload_n 0, 1) := by decide +kernel
theorem dX10_weight_1 : decode cX10_weight 1 = .ok (.iload_n 1, 1) := by decide +kernel
theorem dX10_weight_2 : decode cX10_weight 2 = .ok (.iconst 0, 1) := by decide +kernel
theorem dX10_weight_3 : decode cX10_weight 3 = .ok (.invokestatic 50, 3) := by decide +kernel
theorem dX10_weight_6 : decode cX10_weight 6 = .ok (.iaload, 1) := by decide +kernel
theorem dX10_weight_7 : decode cX10_weight 7 = .ok (.aload_n 0, 1) := by decide +kernel
theorem dX10_weight_8 : decode cX10_weight 8 = .ok (.iload_n 1, 1) := by decide +kernel
theorem dX10_weight_9 : decode cX10_weight 9 = .ok (.iconst 1, 1) := by decide +kernel
theorem dX10_weight_10 : decode cX10_weight 10 = .ok (.invokestatic 50, 3) := by decide +kernel
theorem dX10_weight_13 : decode cX10_weight 13 = .ok (.iaload, 1) := by decide +kernel
theorem dX10_weight_14 : decode cX10_weight 14 = .ok (.aload_n 0, 1) := by decide +kernel
theorem dX10_weight_15 : decode cX10_weight 15 = .ok (.iload_n 1, 1) := by decide +kernel
theorem dX10_weight_16 : decode cX10_weight 16 = .ok (.invokestatic 54, 3) := by decide +kernel
theorem dX10_weight_19 : decode cX10_weight 19 = .ok (.invokestatic 58, 3) := by decide +kernel
theorem dX10_weight_22 : decode cX10_weight 22 = .ok (.ireturn, 1) := by decide +kernel
def f_X10_weight (ra : Nat → Int32) (p1 : Int32) : Option (Int32) := ob (f_X10_of p1 (0 : Int32)) (fun r1 => gd (ix r1 42) (ob (f_X10_of p1 (1 : Int32)) (fun r4 => gd (ix r4 42) (ob (f_X10_heightOf ra p1) (fun r7 => ob (f_X10_weightBy (ra r1.toNatClampNeg) (ra r4.toNatClampNeg) r7) (fun r9 => some r9))))))
set_option maxHeartbeats 4000000 in
set_option maxRecDepth 100000 in
theorem c_X10_weight (l : Launch) (E : EE) (ra_h : Nat) (ra : Nat → Int32) (p1 : Int32) (res : Int32) (hv : f_X10_weight ra p1 = some res) : Rd l E yX10_weight cX10_weight 2 (some .int) ({ frames := 2, cells := 0, slots := 0, locals := 42 }) [.ref ra_h, .int p1] [ai E ra_h 42 ra] (some (.int res)) := by
  refine Rd.intro RX10 (by decide) rfl (Nat.le_of_ble_eq_true rfl) ?_
  intro p e s m below meth c ls hC hr hlk hP hG hl
  obtain ⟨hx, hb, hml, hown, ht⟩ := id hC
  have hK := hG.1
  have hl : lv_has ls 2 [(0, .ref ra_h), (1, .int p1)] := hl
  rw [f_X10_weight] at hv
  refine lv_aload_n hx hb dX10_weight_0 rfl (lv_at hl 0 rfl) ?_
  refine lv_iload_n hx hb dX10_weight_1 rfl (lv_at hl 1 rfl) ?_
  refine lv_iconst (v := (0 : Int32)) hx hb dX10_weight_2 (by decide) ?_
  obtain ⟨r1, h2, hv⟩ := ob_s hv
  refine rdS (rest := [.ref ra_h]) (st1 := [.int r1, .ref ra_h]) (w := []) hC q_X10_of kw_4_226 (c_X10_of l E p1 (0 : Int32) r1 h2) ⟨rfl, rfl⟩ ⟨Nat.le_of_ble_eq_true rfl, Nat.le_of_ble_eq_true rfl⟩ ⟨Nat.zero_le _, Nat.zero_le _⟩ (hP.sub (ws' := []) [] rfl) hG rfl hl.1 rfl (Nat.le_of_ble_eq_true rfl) dX10_weight_3 rfl ?_
  obtain ⟨g3, hv⟩ := gd_s hv
  refine va_iald hx hb hK hP 0 0 rfl rfl (ix_s g3) dX10_weight_6 ?_
  refine lv_aload_n hx hb dX10_weight_7 rfl (lv_at hl 0 rfl) ?_
  refine lv_iload_n hx hb dX10_weight_8 rfl (lv_at hl 1 rfl) ?_
  refine lv_iconst (v := (1 : Int32)) hx hb dX10_weight_9 (by decide) ?_
  obtain ⟨r4, h5, hv⟩ := ob_s hv
  refine rdS (rest := [.ref ra_h, .int (ra r1.toNatClampNeg)]) (st1 := [.int r4, .ref ra_h, .int (ra r1.toNatClampNeg)]) (w := []) hC q_X10_of kw_4_226 (c_X10_of l E p1 (1 : Int32) r4 h5) ⟨rfl, rfl⟩ ⟨Nat.le_of_ble_eq_true rfl, Nat.le_of_ble_eq_true rfl⟩ ⟨Nat.zero_le _, Nat.zero_le _⟩ (hP.sub (ws' := []) [] rfl) hG rfl hl.1 rfl (Nat.le_of_ble_eq_true rfl) dX10_weight_10 rfl ?_
  obtain ⟨g6, hv⟩ := gd_s hv
  refine va_iald hx hb hK hP 0 0 rfl rfl (ix_s g6) dX10_weight_13 ?_
  refine lv_aload_n hx hb dX10_weight_14 rfl (lv_at hl 0 rfl) ?_
  refine lv_iload_n hx hb dX10_weight_15 rfl (lv_at hl 1 rfl) ?_
  obtain ⟨r7, h8, hv⟩ := ob_s hv
  refine rdS (rest := [.int (ra r4.toNatClampNeg), .int (ra r1.toNatClampNeg)]) (st1 := [.int r7, .int (ra r4.toNatClampNeg), .int (ra r1.toNatClampNeg)]) (w := [ai E ra_h 42 ra]) hC q_X10_heightOf kw_5_14 (c_X10_heightOf l E ra_h ra p1 r7 h8) ⟨rfl, rfl⟩ ⟨Nat.le_of_ble_eq_true rfl, Nat.le_of_ble_eq_true rfl⟩ ⟨Nat.zero_le _, Nat.zero_le _⟩ hP hG rfl hl.1 rfl (Nat.le_of_ble_eq_true rfl) dX10_weight_16 rfl ?_
  obtain ⟨r9, h10, hv⟩ := ob_s hv
  refine rdS (rest := []) (st1 := [.int r9]) (w := []) hC q_X10_weightBy kw_5_27 (c_X10_weightBy l E (ra r1.toNatClampNeg) (ra r4.toNatClampNeg) r7 r9 h10) ⟨rfl, rfl⟩ ⟨Nat.le_of_ble_eq_true rfl, Nat.le_of_ble_eq_true rfl⟩ ⟨Nat.zero_le _, Nat.zero_le _⟩ (hP.sub (ws' := []) [] rfl) hG rfl hl.1 rfl (Nat.le_of_ble_eq_true rfl) dX10_weight_19 rfl ?_
  exact W.iret (v := r9) hx hb hr (fun t h9 _ => ⟨rv_i hv, h9⟩) (fun q h => absurd h List.not_mem_nil) dX10_weight_22 hlk
theorem dX10_sideOf_0 : decode cX10_sideOf 0 = .ok (.aload_n 0, 1) := by decide +kernel
theorem dX10_sideOf_1 : decode cX10_sideOf 1 = .ok (.iload_n 1, 1) := by decide +kernel
theorem dX10_sideOf_2 : decode cX10_sideOf 2 = .ok (.iconst 2, 1) := by decide +kernel
theorem dX10_sideOf_3 : decode cX10_sideOf 3 = .ok (.invokestatic 50, 3) := by decide +kernel
theorem dX10_sideOf_6 : decode cX10_sideOf 6 = .ok (.iaload, 1) := by decide +kernel
theorem dX10_sideOf_7 : decode cX10_sideOf 7 = .ok (.iconst 2, 1) := by decide +kernel
theorem dX10_sideOf_8 : decode cX10_sideOf 8 = .ok (.irem, 1) := by decide +kernel
theorem dX10_sideOf_9 : decode cX10_sideOf 9 = .ok (.ireturn, 1) := by decide +kernel
def f_X10_sideOf (ra : Nat → Int32) (p1 : Int32) : Option (Int32) := ob (f_X10_of p1 (2 : Int32)) (fun r1 => gd (ix r1 42) (some ((ra r1.toNatClampNeg) - (ra r1.toNatClampNeg) / (2 : Int32) * (2 : Int32))))
set_option maxHeartbeats 4000000 in
set_option maxRecDepth 100000 in
theorem c_X10_sideOf (l : Launch) (E : EE) (ra_h : Nat) (ra : Nat → Int32) (p1 : Int32) (res : Int32) (hv : f_X10_sideOf ra p1 = some res) : Rd l E yX10_sideOf cX10_sideOf 2 (some .int) ({ frames := 1, cells := 0, slots := 0, locals := 21 }) [.ref ra_h, .int p1] [ai E ra_h 42 ra] (some (.int res)) := by
  refine Rd.intro RX10 (by decide) rfl (Nat.le_of_ble_eq_true rfl) ?_
  intro p e s m below meth c ls hC hr hlk hP hG hl
  obtain ⟨hx, hb, hml, hown, ht⟩ := id hC
  have hK := hG.1
  have hl : lv_has ls 2 [(0, .ref ra_h), (1, .int p1)] := hl
  rw [f_X10_sideOf] at hv
  refine lv_aload_n hx hb dX10_sideOf_0 rfl (lv_at hl 0 rfl) ?_
  refine lv_iload_n hx hb dX10_sideOf_1 rfl (lv_at hl 1 rfl) ?_
  refine lv_iconst (v := (2 : Int32)) hx hb dX10_sideOf_2 (by decide) ?_
  obtain ⟨r1, h2, hv⟩ := ob_s hv
  refine rdS (rest := [.ref ra_h]) (st1 := [.int r1, .ref ra_h]) (w := []) hC q_X10_of kw_4_226 (c_X10_of l E p1 (2 : Int32) r1 h2) ⟨rfl, rfl⟩ ⟨Nat.le_of_ble_eq_true rfl, Nat.le_of_ble_eq_true rfl⟩ ⟨Nat.zero_le _, Nat.zero_le _⟩ (hP.sub (ws' := []) [] rfl) hG rfl hl.1 rfl (Nat.le_of_ble_eq_true rfl) dX10_sideOf_3 rfl ?_
  obtain ⟨g3, hv⟩ := gd_s hv
  refine va_iald hx hb hK hP 0 0 rfl rfl (ix_s g3) dX10_sideOf_6 ?_
  refine lv_iconst (v := (2 : Int32)) hx hb dX10_sideOf_7 (by decide) ?_
  refine lv_irem hx hb dX10_sideOf_8 (by decide) ?_
  exact W.iret (v := ((ra r1.toNatClampNeg) - (ra r1.toNatClampNeg) / (2 : Int32) * (2 : Int32))) hx hb hr (fun t h9 _ => ⟨rv_i hv, h9⟩) (fun q h => absurd h List.not_mem_nil) dX10_sideOf_9 hlk
theorem dX10_isHeard_0 : decode cX10_isHeard 0 = .ok (.aload_n 0, 1) := by decide +kernel
theorem dX10_isHeard_1 : decode cX10_isHeard 1 = .ok (.iconst 3, 1) := by decide +kernel
theorem dX10_isHeard_2 : decode cX10_isHeard 2 = .ok (.iaload, 1) := by decide +kernel
theorem dX10_isHeard_3 : decode cX10_isHeard 3 = .ok (.aload_n 0, 1) := by decide +kernel
theorem dX10_isHeard_4 : decode cX10_isHeard 4 = .ok (.iload_n 1, 1) := by decide +kernel
theorem dX10_isHeard_5 : decode cX10_isHeard 5 = .ok (.iconst 2, 1) := by decide +kernel
theorem dX10_isHeard_6 : decode cX10_isHeard 6 = .ok (.invokestatic 50, 3) := by decide +kernel
theorem dX10_isHeard_9 : decode cX10_isHeard 9 = .ok (.iaload, 1) := by decide +kernel
theorem dX10_isHeard_10 : decode cX10_isHeard 10 = .ok (.invokestatic 62, 3) := by decide +kernel
theorem dX10_isHeard_13 : decode cX10_isHeard 13 = .ok (.ifCond .ne 7, 3) := by decide +kernel
theorem dX10_isHeard_16 : decode cX10_isHeard 16 = .ok (.iconst 1, 1) := by decide +kernel
theorem dX10_isHeard_17 : decode cX10_isHeard 17 = .ok (.goto 4, 3) := by decide +kernel
theorem dX10_isHeard_20 : decode cX10_isHeard 20 = .ok (.iconst 0, 1) := by decide +kernel
theorem dX10_isHeard_21 : decode cX10_isHeard 21 = .ok (.ireturn, 1) := by decide +kernel
def f_X10_isHeard (ra : Nat → Int32) (p1 : Int32) : Option (Int32) := ob (f_X10_of p1 (2 : Int32)) (fun r1 => gd (ix r1 42) (ob (f_X10_has (ra 3) (ra r1.toNatClampNeg)) (fun r4 => if r4 = 0 then some (1 : Int32) else some (0 : Int32))))
set_option maxHeartbeats 4000000 in
set_option maxRecDepth 100000 in
theorem c_X10_isHeard (l : Launch) (E : EE) (ra_h : Nat) (ra : Nat → Int32) (p1 : Int32) (res : Int32) (hv : f_X10_isHeard ra p1 = some res) : Rd l E yX10_isHeard cX10_isHeard 2 (some .boolean) ({ frames := 1, cells := 0, slots := 0, locals := 21 }) [.ref ra_h, .int p1] [ai E ra_h 42 ra] (some (.int res)) := by
  refine Rd.intro RX10 (by decide) rfl (Nat.le_of_ble_eq_true rfl) ?_
  intro p e s m below meth c ls hC hr hlk hP hG hl
  obtain ⟨hx, hb, hml, hown, ht⟩ := id hC
  have hK := hG.1
  have hl : lv_has ls 2 [(0, .ref ra_h), (1, .int p1)] := hl
  rw [f_X10_isHeard] at hv
  refine lv_aload_n hx hb dX10_isHeard_0 rfl (lv_at hl 0 rfl) ?_
  refine lv_iconst (v := (3 : Int32)) hx hb dX10_isHeard_1 (by decide) ?_
  refine va_iald hx hb hK hP 0 0 rfl rfl (ix_s (by decide)) dX10_isHeard_2 ?_
  refine W.eq (g2 := F0 m 3 ls [.int (ra 3)]) rfl ?_
  refine lv_aload_n hx hb dX10_isHeard_3 rfl (lv_at hl 0 rfl) ?_
  refine lv_iload_n hx hb dX10_isHeard_4 rfl (lv_at hl 1 rfl) ?_
  refine lv_iconst (v := (2 : Int32)) hx hb dX10_isHeard_5 (by decide) ?_
  obtain ⟨r1, h2, hv⟩ := ob_s hv
  refine rdS (rest := [.ref ra_h, .int (ra 3)]) (st1 := [.int r1, .ref ra_h, .int (ra 3)]) (w := []) hC q_X10_of kw_4_226 (c_X10_of l E p1 (2 : Int32) r1 h2) ⟨rfl, rfl⟩ ⟨Nat.le_of_ble_eq_true rfl, Nat.le_of_ble_eq_true rfl⟩ ⟨Nat.zero_le _, Nat.zero_le _⟩ (hP.sub (ws' := []) [] rfl) hG rfl hl.1 rfl (Nat.le_of_ble_eq_true rfl) dX10_isHeard_6 rfl ?_
  obtain ⟨g3, hv⟩ := gd_s hv
  refine va_iald hx hb hK hP 0 0 rfl rfl (ix_s g3) dX10_isHeard_9 ?_
  obtain ⟨r4, h5, hv⟩ := ob_s hv
  refine rdS (rest := []) (st1 := [.int r4]) (w := []) hC q_X10_has kw_5_5 (c_X10_has l E (ra 3) (ra r1.toNatClampNeg) r4 h5) ⟨rfl, rfl⟩ ⟨Nat.le_of_ble_eq_true rfl, Nat.le_of_ble_eq_true rfl⟩ ⟨Nat.zero_le _, Nat.zero_le _⟩ (hP.sub (ws' := []) [] rfl) hG rfl hl.1 rfl (Nat.le_of_ble_eq_true rfl) dX10_isHeard_10 rfl ?_
  refine lv_if_ne (tgt := 20) hx hb dX10_isHeard_13 (by decide) (fun c6 => ?_) (fun c6 => ?_)
  · have hv := if_n c6 hv
    refine lv_iconst (v := (0 : Int32)) hx hb dX10_isHeard_20 (by decide) ?_
    exact W.zret (v := (0 : Int32)) hx hb hr rfl (fun t h9 _ => ⟨rv_i hv, h9⟩) (fun q h => absurd h List.not_mem_nil) dX10_isHeard_21 hlk
  · have hv := if_y c6 hv
    refine lv_iconst (v := (1 : Int32)) hx hb dX10_isHeard_16 (by decide) ?_
    refine lv_goto (tgt := 21) hx hb dX10_isHeard_17 (by decide) ?_
    exact W.zret (v := (1 : Int32)) hx hb hr rfl (fun t h9 _ => ⟨rv_i hv, h9⟩) (fun q h => absurd h List.not_mem_nil) dX10_isHeard_21 hlk
theorem dX10_doesVeto_0 : decode cX10_doesVeto 0 = .ok (.aload_n 0, 1) := by decide +kernel
theorem dX10_doesVeto_1 : decode cX10_doesVeto 1 = .ok (.iload_n 1, 1) := by decide +kernel
theorem dX10_doesVeto_2 : decode cX10_doesVeto 2 = .ok (.iconst 3, 1) := by decide +kernel
theorem dX10_doesVeto_3 : decode cX10_doesVeto 3 = .ok (.invokestatic 50, 3) := by decide +kernel
theorem dX10_doesVeto_6 : decode cX10_doesVeto 6 = .ok (.iaload, 1) := by decide +kernel
theorem dX10_doesVeto_7 : decode cX10_doesVeto 7 = .ok (.istore_n 2, 1) := by decide +kernel
theorem dX10_doesVeto_8 : decode cX10_doesVeto 8 = .ok (.aload_n 0, 1) := by decide +kernel
theorem dX10_doesVeto_9 : decode cX10_doesVeto 9 = .ok (.iload_n 1, 1) := by decide +kernel
theorem dX10_doesVeto_10 : decode cX10_doesVeto 10 = .ok (.iconst 0, 1) := by decide +kernel
theorem dX10_doesVeto_11 : decode cX10_doesVeto 11 = .ok (.invokestatic 50, 3) := by decide +kernel
theorem dX10_doesVeto_14 : decode cX10_doesVeto 14 = .ok (.iaload, 1) := by decide +kernel
theorem dX10_doesVeto_15 : decode cX10_doesVeto 15 = .ok (.istore_n 3, 1) := by decide +kernel
theorem dX10_doesVeto_16 : decode cX10_doesVeto 16 = .ok (.iload_n 3, 1) := by decide +kernel
theorem dX10_doesVeto_17 : decode cX10_doesVeto 17 = .ok (.bipush 6, 2) := by decide +kernel
theorem dX10_doesVeto_19 : decode cX10_doesVeto 19 = .ok (.if_icmp .ne 7, 3) := by decide +kernel
theorem dX10_doesVeto_22 : decode cX10_doesVeto 22 = .ok (.iload_n 2, 1) := by decide +kernel
theorem dX10_doesVeto_23 : decode cX10_doesVeto 23 = .ok (.ifCond .lt 15, 3) := by decide +kernel
theorem dX10_doesVeto_26 : decode cX10_doesVeto 26 = .ok (.iload_n 3, 1) := by decide +kernel
theorem dX10_doesVeto_27 : decode cX10_doesVeto 27 = .ok (.bipush 7, 2) := by decide +kernel
theorem dX10_doesVeto_29 : decode cX10_doesVeto 29 = .ok (.if_icmp .ne 13, 3) := by decide +kernel
theorem dX10_doesVeto_32 : decode cX10_doesVeto 32 = .ok (.iload_n 2, 1) := by decide +kernel
theorem dX10_doesVeto_33 : decode cX10_doesVeto 33 = .ok (.bipush (-5), 2) := by decide +kernel
theorem dX10_doesVeto_35 : decode cX10_doesVeto 35 = .ok (.if_icmp .gt 7, 3) := by decide +kernel
theorem dX10_doesVeto_38 : decode cX10_doesVeto 38 = .ok (.iconst 1, 1) := by decide +kernel
theorem dX10_doesVeto_39 : decode cX10_doesVeto 39 = .ok (.goto 4, 3) := by decide +kernel
theorem dX10_doesVeto_42 : decode cX10_doesVeto 42 = .ok (.iconst 0, 1) := by decide +kernel
theorem dX10_doesVeto_43 : decode cX10_doesVeto 43 = .ok (.ireturn, 1) := by decide +kernel
def f_X10_doesVeto (ra : Nat → Int32) (p1 : Int32) : Option (Int32) := ob (f_X10_of p1 (3 : Int32)) (fun r1 => gd (ix r1 42) (ob (f_X10_of p1 (0 : Int32)) (fun r4 => gd (ix r4 42) (if (ra r4.toNatClampNeg) = (6 : Int32) then if (ra r1.toNatClampNeg) < 0 then some (1 : Int32) else if (ra r4.toNatClampNeg) = (7 : Int32) then if (-5 : Int32) < (ra r1.toNatClampNeg) then some (0 : Int32) else some (1 : Int32) else some (0 : Int32) else if (ra r4.toNatClampNeg) = (7 : Int32) then if (-5 : Int32) < (ra r1.toNatClampNeg) then some (0 : Int32) else some (1 : Int32) else some (0 : Int32)))))
set_option maxHeartbeats 4000000 in
set_option maxRecDepth 100000 in
theorem c_X10_doesVeto (l : Launch) (E : EE) (ra_h : Nat) (ra : Nat → Int32) (p1 : Int32) (res : Int32) (hv : f_X10_doesVeto ra p1 = some res) : Rd l E yX10_doesVeto cX10_doesVeto 4 (some .boolean) ({ frames := 1, cells := 0, slots := 0, locals := 21 }) [.ref ra_h, .int p1] [ai E ra_h 42 ra] (some (.int res)) := by
  refine Rd.intro RX10 (by decide) rfl (Nat.le_of_ble_eq_true rfl) ?_
  intro p e s m below meth c ls hC hr hlk hP hG hl
  obtain ⟨hx, hb, hml, hown, ht⟩ := id hC
  have hK := hG.1
  have hl : lv_has ls 4 [(0, .ref ra_h), (1, .int p1)] := hl
  rw [f_X10_doesVeto] at hv
  refine lv_aload_n hx hb dX10_doesVeto_0 rfl (lv_at hl 0 rfl) ?_
  refine lv_iload_n hx hb dX10_doesVeto_1 rfl (lv_at hl 1 rfl) ?_
  refine lv_iconst (v := (3 : Int32)) hx hb dX10_doesVeto_2 (by decide) ?_
  obtain ⟨r1, h2, hv⟩ := ob_s hv
  refine rdS (rest := [.ref ra_h]) (st1 := [.int r1, .ref ra_h]) (w := []) hC q_X10_of kw_4_226 (c_X10_of l E p1 (3 : Int32) r1 h2) ⟨rfl, rfl⟩ ⟨Nat.le_of_ble_eq_true rfl, Nat.le_of_ble_eq_true rfl⟩ ⟨Nat.zero_le _, Nat.zero_le _⟩ (hP.sub (ws' := []) [] rfl) hG rfl hl.1 rfl (Nat.le_of_ble_eq_true rfl) dX10_doesVeto_3 rfl ?_
  obtain ⟨g3, hv⟩ := gd_s hv
  refine va_iald hx hb hK hP 0 0 rfl rfl (ix_s g3) dX10_doesVeto_6 ?_
  refine lv_istore_n (lv' := [(2, .int (ra r1.toNatClampNeg)), (0, .ref ra_h), (1, .int p1)]) hx hb dX10_doesVeto_7 rfl hl (by decide) rfl (fun ls hl => ?_)
  refine lv_aload_n hx hb dX10_doesVeto_8 rfl (lv_at hl 1 rfl) ?_
  refine lv_iload_n hx hb dX10_doesVeto_9 rfl (lv_at hl 2 rfl) ?_
  refine lv_iconst (v := (0 : Int32)) hx hb dX10_doesVeto_10 (by decide) ?_
  obtain ⟨r4, h5, hv⟩ := ob_s hv
  refine rdS (rest := [.ref ra_h]) (st1 := [.int r4, .ref ra_h]) (w := []) hC q_X10_of kw_4_226 (c_X10_of l E p1 (0 : Int32) r4 h5) ⟨rfl, rfl⟩ ⟨Nat.le_of_ble_eq_true rfl, Nat.le_of_ble_eq_true rfl⟩ ⟨Nat.zero_le _, Nat.zero_le _⟩ (hP.sub (ws' := []) [] rfl) hG rfl hl.1 rfl (Nat.le_of_ble_eq_true rfl) dX10_doesVeto_11 rfl ?_
  obtain ⟨g6, hv⟩ := gd_s hv
  refine va_iald hx hb hK hP 0 0 rfl rfl (ix_s g6) dX10_doesVeto_14 ?_
  refine lv_istore_n (lv' := [(3, .int (ra r4.toNatClampNeg)), (2, .int (ra r1.toNatClampNeg)), (0, .ref ra_h), (1, .int p1)]) hx hb dX10_doesVeto_15 rfl hl (by decide) rfl (fun ls hl => ?_)
  refine lv_iload_n hx hb dX10_doesVeto_16 rfl (lv_at hl 0 rfl) ?_
  refine lv_bipush (v := (6 : Int32)) hx hb dX10_doesVeto_17 (by decide) ?_
  refine lv_icmp_ne (tgt := 26) hx hb dX10_doesVeto_19 (by decide) (fun c7 => ?_) (fun c7 => ?_)
  · have hv := if_n c7 hv
    refine lv_iload_n hx hb dX10_doesVeto_26 rfl (lv_at hl 0 rfl) ?_
    refine lv_bipush (v := (7 : Int32)) hx hb dX10_doesVeto_27 (by decide) ?_
    refine lv_icmp_ne (tgt := 42) hx hb dX10_doesVeto_29 (by decide) (fun c8 => ?_) (fun c8 => ?_)
    · have hv := if_n c8 hv
      refine lv_iconst (v := (0 : Int32)) hx hb dX10_doesVeto_42 (by decide) ?_
      exact W.zret (v := (0 : Int32)) hx hb hr rfl (fun t h9 _ => ⟨rv_i hv, h9⟩) (fun q h => absurd h List.not_mem_nil) dX10_doesVeto_43 hlk
    · have hv := if_y c8 hv
      refine lv_iload_n hx hb dX10_doesVeto_32 rfl (lv_at hl 1 rfl) ?_
      refine lv_bipush (v := (-5 : Int32)) hx hb dX10_doesVeto_33 (by decide) ?_
      refine lv_icmp_gt (tgt := 42) hx hb dX10_doesVeto_35 (by decide) (fun c9 => ?_) (fun c9 => ?_)
      · have hv := if_y c9 hv
        refine lv_iconst (v := (0 : Int32)) hx hb dX10_doesVeto_42 (by decide) ?_
        exact W.zret (v := (0 : Int32)) hx hb hr rfl (fun t h9 _ => ⟨rv_i hv, h9⟩) (fun q h => absurd h List.not_mem_nil) dX10_doesVeto_43 hlk
      · have hv := if_n c9 hv
        refine lv_iconst (v := (1 : Int32)) hx hb dX10_doesVeto_38 (by decide) ?_
        refine lv_goto (tgt := 43) hx hb dX10_doesVeto_39 (by decide) ?_
        exact W.zret (v := (1 : Int32)) hx hb hr rfl (fun t h9 _ => ⟨rv_i hv, h9⟩) (fun q h => absurd h List.not_mem_nil) dX10_doesVeto_43 hlk
  · have hv := if_y c7 hv
    refine lv_iload_n hx hb dX10_doesVeto_22 rfl (lv_at hl 1 rfl) ?_
    refine lv_if_lt (tgt := 38) hx hb dX10_doesVeto_23 (by decide) (fun c10 => ?_) (fun c10 => ?_)
    · have hv := if_y c10 hv
      refine lv_iconst (v := (1 : Int32)) hx hb dX10_doesVeto_38 (by decide) ?_
      refine lv_goto (tgt := 43) hx hb dX10_doesVeto_39 (by decide) ?_
      exact W.zret (v := (1 : Int32)) hx hb hr rfl (fun t h9 _ => ⟨rv_i hv, h9⟩) (fun q h => absurd h List.not_mem_nil) dX10_doesVeto_43 hlk
    · have hv := if_n c10 hv
      refine lv_iload_n hx hb dX10_doesVeto_26 rfl (lv_at hl 0 rfl) ?_
      refine lv_bipush (v := (7 : Int32)) hx hb dX10_doesVeto_27 (by decide) ?_
      refine lv_icmp_ne (tgt := 42) hx hb dX10_doesVeto_29 (by decide) (fun c11 => ?_) (fun c11 => ?_)
      · have hv := if_n c11 hv
        refine lv_iconst (v := (0 : Int32)) hx hb dX10_doesVeto_42 (by decide) ?_
        exact W.zret (v := (0 : Int32)) hx hb hr rfl (fun t h9 _ => ⟨rv_i hv, h9⟩) (fun q h => absurd h List.not_mem_nil) dX10_doesVeto_43 hlk
      · have hv := if_y c11 hv
        refine lv_iload_n hx hb dX10_doesVeto_32 rfl (lv_at hl 1 rfl) ?_
        refine lv_bipush (v := (-5 : Int32)) hx hb dX10_doesVeto_33 (by decide) ?_
        refine lv_icmp_gt (tgt := 42) hx hb dX10_doesVeto_35 (by decide) (fun c12 => ?_) (fun c12 => ?_)
        · have hv := if_y c12 hv
          refine lv_iconst (v := (0 : Int32)) hx hb dX10_doesVeto_42 (by decide) ?_
          exact W.zret (v := (0 : Int32)) hx hb hr rfl (fun t h9 _ => ⟨rv_i hv, h9⟩) (fun q h => absurd h List.not_mem_nil) dX10_doesVeto_43 hlk
        · have hv := if_n c12 hv
          refine lv_iconst (v := (1 : Int32)) hx hb dX10_doesVeto_38 (by decide) ?_
          refine lv_goto (tgt := 43) hx hb dX10_doesVeto_39 (by decide) ?_
          exact W.zret (v := (1 : Int32)) hx hb hr rfl (fun t h9 _ => ⟨rv_i hv, h9⟩) (fun q h => absurd h List.not_mem_nil) dX10_doesVeto_43 hlk
theorem dX10_heardIn_0 : decode cX10_heardIn 0 = .ok (.iconst 0, 1) := by decide +kernel
theorem dX10_heardIn_1 : decode cX10_heardIn 1 = .ok (.istore_n 1, 1) := by decide +kernel
theorem dX10_heardIn_2 : decode cX10_heardIn 2 = .ok (.iconst 0, 1) := by decide +kernel
theorem dX10_heardIn_3 : decode cX10_heardIn 3 = .ok (.istore_n 2, 1) := by decide +kernel
theorem dX10_heardIn_4 : decode cX10_heardIn 4 = .ok (.iload_n 2, 1) := by decide +kernel
theorem dX10_heardIn_5 : decode cX10_heardIn 5 = .ok (.aload_n 0, 1) := by decide +kernel
theorem dX10_heardIn_6 : decode cX10_heardIn 6 = .ok (.iconst 0, 1) := by decide +kernel
theorem dX10_heardIn_7 : decode cX10_heardIn 7 = .ok (.iaload, 1) := by decide +kernel
theorem dX10_heardIn_8 : decode cX10_heardIn 8 = .ok (.if_icmp .ge 27, 3) := by decide +kernel
theorem dX10_heardIn_11 : decode cX10_heardIn 11 = .ok (.iload_n 1, 1) := by decide +kernel
theorem dX10_heardIn_12 : decode cX10_heardIn 12 = .ok (.aload_n 0, 1) := by decide +kernel
theorem dX10_heardIn_13 : decode cX10_heardIn 13 = .ok (.iload_n 2, 1) := by decide +kernel
theorem dX10_heardIn_14 : decode cX10_heardIn 14 = .ok (.invokestatic 66, 3) := by decide +kernel
theorem dX10_heardIn_17 : decode cX10_heardIn 17 = .ok (.ifCond .eq 9, 3) := by decide +kernel
theorem dX10_heardIn_20 : decode cX10_heardIn 20 = .ok (.iconst 1, 1) := by decide +kernel
theorem dX10_heardIn_21 : decode cX10_heardIn 21 = .ok (.iload_n 2, 1) := by decide +kernel
theorem dX10_heardIn_22 : decode cX10_heardIn 22 = .ok (.ishl, 1) := by decide +kernel
theorem dX10_heardIn_23 : decode cX10_heardIn 23 = .ok (.goto 4, 3) := by decide +kernel
theorem dX10_heardIn_26 : decode cX10_heardIn 26 = .ok (.iconst 0, 1) := by decide +kernel
theorem dX10_heardIn_27 : decode cX10_heardIn 27 = .ok (.ior, 1) := by decide +kernel
theorem dX10_heardIn_28 : decode cX10_heardIn 28 = .ok (.istore_n 1, 1) := by decide +kernel
theorem dX10_heardIn_29 : decode cX10_heardIn 29 = .ok (.iinc 2 1, 3) := by decide +kernel
theorem dX10_heardIn_32 : decode cX10_heardIn 32 = .ok (.goto (-28), 3) := by decide +kernel
theorem dX10_heardIn_35 : decode cX10_heardIn 35 = .ok (.iload_n 1, 1) := by decide +kernel
theorem dX10_heardIn_36 : decode cX10_heardIn 36 = .ok (.ireturn, 1) := by decide +kernel
def L_X10_heardIn_4 (ra : Nat → Int32) : Nat → Int32 → Int32 → Option (Int32)
  | 0, _, _ => none
  | n4 + 1, x1, x2 => if (ra 0) ≤ x1 then some x2 else ob (f_X10_isHeard ra x1) (fun r4 => if r4 = 0 then L_X10_heardIn_4 ra n4 (x1 + (1 : Int32)) (x2 ||| (0 : Int32)) else nm (x2 ||| ((1 : Int32) <<< (x1 &&& 31))) (fun z7 => L_X10_heardIn_4 ra n4 (x1 + (1 : Int32)) z7))
def f_X10_heardIn (N : Nat) (ra : Nat → Int32) : Option (Int32) := L_X10_heardIn_4 ra N (0 : Int32) (0 : Int32)
set_option maxHeartbeats 4000000 in
set_option maxRecDepth 100000 in
theorem c_X10_heardIn (l : Launch) (E : EE) (ra_h : Nat) (ra : Nat → Int32) (N : Nat) (res : Int32) (hv : f_X10_heardIn N ra = some res) : Rd l E yX10_heardIn cX10_heardIn 3 (some .int) ({ frames := 2, cells := 0, slots := 0, locals := 42 }) [.ref ra_h] [ai E ra_h 42 ra] (some (.int res)) := by
  refine Rd.intro RX10 (by decide) rfl (Nat.le_of_ble_eq_true rfl) ?_
  intro p e s m below meth c ls hC hr hlk hP hG hl
  obtain ⟨hx, hb, hml, hown, ht⟩ := id hC
  have hK := hG.1
  have hl : lv_has ls 3 [(0, .ref ra_h)] := hl
  rw [f_X10_heardIn] at hv
  refine lv_iconst (v := (0 : Int32)) hx hb dX10_heardIn_0 (by decide) ?_
  refine lv_istore_n (lv' := [(1, .int (0 : Int32)), (0, .ref ra_h)]) hx hb dX10_heardIn_1 rfl hl (by decide) rfl (fun ls hl => ?_)
  refine lv_iconst (v := (0 : Int32)) hx hb dX10_heardIn_2 (by decide) ?_
  refine lv_istore_n (lv' := [(2, .int (0 : Int32)), (1, .int (0 : Int32)), (0, .ref ra_h)]) hx hb dX10_heardIn_3 rfl hl (by decide) rfl (fun ls hl => ?_)
  have hL4 : ∀ (n : Nat) (x1 : Int32) (x2 : Int32) (ls : Array Slot), lv_has ls 3 [(2, .int x1), (1, .int x2), (0, .ref ra_h)] → L_X10_heardIn_4 ra n x1 x2 = some res → W p l e ({ frames := 2, cells := 0, slots := 0, locals := 42 }) s m [.ref ra_h].toArray below meth c s.heap [] 0 0 (MQ below (RdQ (some (.int res))) [.ref ra_h].toArray s 0 0 (fun _ => False)) (F0 m 4 ls []) := by
    intro n
    induction n with
    | zero => intro x1 x2 ls hl hv; cases hv
    | succ n4 ih4 =>
      intro x1 x2 ls hl hv
      rw [L_X10_heardIn_4] at hv
      refine lv_iload_n hx hb dX10_heardIn_4 rfl (lv_at hl 0 rfl) ?_
      refine lv_aload_n hx hb dX10_heardIn_5 rfl (lv_at hl 2 rfl) ?_
      refine lv_iconst (v := (0 : Int32)) hx hb dX10_heardIn_6 (by decide) ?_
      refine va_iald hx hb hK hP 0 0 rfl rfl (ix_s (by decide)) dX10_heardIn_7 ?_
      refine W.eq (g2 := F0 m 8 ls [.int (ra 0), .int x1]) rfl ?_
      refine lv_icmp_ge (tgt := 35) hx hb dX10_heardIn_8 (by decide) (fun c3 => ?_) (fun c3 => ?_)
      · have hv := if_y c3 hv
        refine lv_iload_n hx hb dX10_heardIn_35 rfl (lv_at hl 1 rfl) ?_
        exact W.iret (v := x2) hx hb hr (fun t h9 _ => ⟨rv_i hv, h9⟩) (fun q h => absurd h List.not_mem_nil) dX10_heardIn_36 hlk
      · have hv := if_n c3 hv
        refine lv_iload_n hx hb dX10_heardIn_11 rfl (lv_at hl 1 rfl) ?_
        refine lv_aload_n hx hb dX10_heardIn_12 rfl (lv_at hl 2 rfl) ?_
        refine lv_iload_n hx hb dX10_heardIn_13 rfl (lv_at hl 0 rfl) ?_
        obtain ⟨r4, h5, hv⟩ := ob_s hv
        refine rdS (rest := [.int x2]) (st1 := [.int r4, .int x2]) (w := [ai E ra_h 42 ra]) hC q_X10_isHeard kw_5_2 (c_X10_isHeard l E ra_h ra x1 r4 h5) ⟨rfl, rfl⟩ ⟨Nat.le_of_ble_eq_true rfl, Nat.le_of_ble_eq_true rfl⟩ ⟨Nat.zero_le _, Nat.zero_le _⟩ hP hG rfl hl.1 rfl (Nat.le_of_ble_eq_true rfl) dX10_heardIn_14 rfl ?_
        refine lv_if_eq (tgt := 26) hx hb dX10_heardIn_17 (by decide) (fun c6 => ?_) (fun c6 => ?_)
        · have hv := if_y c6 hv
          refine lv_iconst (v := (0 : Int32)) hx hb dX10_heardIn_26 (by decide) ?_
          refine lv_ior hx hb dX10_heardIn_27 ?_
          refine lv_istore_n (lv' := [(1, .int (x2 ||| (0 : Int32))), (2, .int x1), (0, .ref ra_h)]) hx hb dX10_heardIn_28 rfl hl (by decide) rfl (fun ls hl => ?_)
          refine lv_iinc (v := (x1 + (1 : Int32))) (lv' := [(2, .int (x1 + (1 : Int32))), (1, .int (x2 ||| (0 : Int32))), (0, .ref ra_h)]) hx hb dX10_heardIn_29 hl (k := 1) rfl rfl (by decide) rfl (fun ls hl => ?_)
          refine lv_goto (tgt := 4) hx hb dX10_heardIn_32 (by decide) ?_
          exact ih4 (x1 + (1 : Int32)) (x2 ||| (0 : Int32)) _ (lv_sub hl [0, 1, 2] rfl) hv
        · have hv := if_n c6 hv
          refine lv_iconst (v := (1 : Int32)) hx hb dX10_heardIn_20 (by decide) ?_
          refine lv_iload_n hx hb dX10_heardIn_21 rfl (lv_at hl 0 rfl) ?_
          refine lv_ishl hx hb dX10_heardIn_22 ?_
          refine lv_goto (tgt := 27) hx hb dX10_heardIn_23 (by decide) ?_
          refine lv_ior hx hb dX10_heardIn_27 ?_
          refine lv_topi (fun z7 ez7 => ?_)
          have hv := nm_s ez7 hv
          refine lv_istore_n (lv' := [(1, .int z7), (2, .int x1), (0, .ref ra_h)]) hx hb dX10_heardIn_28 rfl hl (by decide) rfl (fun ls hl => ?_)
          refine lv_iinc (v := (x1 + (1 : Int32))) (lv' := [(2, .int (x1 + (1 : Int32))), (1, .int z7), (0, .ref ra_h)]) hx hb dX10_heardIn_29 hl (k := 1) rfl rfl (by decide) rfl (fun ls hl => ?_)
          refine lv_goto (tgt := 4) hx hb dX10_heardIn_32 (by decide) ?_
          exact ih4 (x1 + (1 : Int32)) z7 _ (lv_sub hl [0, 1, 2] rfl) hv
  exact hL4 N (0 : Int32) (0 : Int32) _ (lv_sub hl [0, 1, 2] rfl) hv
theorem dX10_moodSet_0 : decode cX10_moodSet 0 = .ok (.iconst 0, 1) := by decide +kernel
theorem dX10_moodSet_1 : decode cX10_moodSet 1 = .ok (.istore_n 2, 1) := by decide +kernel
theorem dX10_moodSet_2 : decode cX10_moodSet 2 = .ok (.iconst 0, 1) := by decide +kernel
theorem dX10_moodSet_3 : decode cX10_moodSet 3 = .ok (.istore_n 3, 1) := by decide +kernel
theorem dX10_moodSet_4 : decode cX10_moodSet 4 = .ok (.iload_n 3, 1) := by decide +kernel
theorem dX10_moodSet_5 : decode cX10_moodSet 5 = .ok (.aload_n 0, 1) := by decide +kernel
theorem dX10_moodSet_6 : decode cX10_moodSet 6 = .ok (.iconst 0, 1) := by decide +kernel
theorem dX10_moodSet_7 : decode cX10_moodSet 7 = .ok (.iaload, 1) := by decide +kernel
theorem dX10_moodSet_8 : decode cX10_moodSet 8 = .ok (.if_icmp .ge 31, 3) := by decide +kernel
theorem dX10_moodSet_11 : decode cX10_moodSet 11 = .ok (.iload_n 2, 1) := by decide +kernel
theorem dX10_moodSet_12 : decode cX10_moodSet 12 = .ok (.iload_n 1, 1) := by decide +kernel
theorem dX10_moodSet_13 : decode cX10_moodSet 13 = .ok (.aload_n 0, 1) := by decide +kernel
theorem dX10_moodSet_14 : decode cX10_moodSet 14 = .ok (.iload_n 3, 1) := by decide +kernel
theorem dX10_moodSet_15 : decode cX10_moodSet 15 = .ok (.iconst 3, 1) := by decide +kernel
theorem dX10_moodSet_16 : decode cX10_moodSet 16 = .ok (.invokestatic 50, 3) := by decide +kernel
theorem dX10_moodSet_19 : decode cX10_moodSet 19 = .ok (.iaload, 1) := by decide +kernel
theorem dX10_moodSet_20 : decode cX10_moodSet 20 = .ok (.imul, 1) := by decide +kernel
theorem dX10_moodSet_21 : decode cX10_moodSet 21 = .ok (.ifCond .le 9, 3) := by decide +kernel
theorem dX10_moodSet_24 : decode cX10_moodSet 24 = .ok (.iconst 1, 1) := by decide +kernel
theorem dX10_moodSet_25 : decode cX10_moodSet 25 = .ok (.iload_n 3, 1) := by decide +kernel
theorem dX10_moodSet_26 : decode cX10_moodSet 26 = .ok (.ishl, 1) := by decide +kernel
theorem dX10_moodSet_27 : decode cX10_moodSet 27 = .ok (.goto 4, 3) := by decide +kernel
theorem dX10_moodSet_30 : decode cX10_moodSet 30 = .ok (.iconst 0, 1) := by decide +kernel
theorem dX10_moodSet_31 : decode cX10_moodSet 31 = .ok (.ior, 1) := by decide +kernel
theorem dX10_moodSet_32 : decode cX10_moodSet 32 = .ok (.istore_n 2, 1) := by decide +kernel
theorem dX10_moodSet_33 : decode cX10_moodSet 33 = .ok (.iinc 3 1, 3) := by decide +kernel
theorem dX10_moodSet_36 : decode cX10_moodSet 36 = .ok (.goto (-32), 3) := by decide +kernel
theorem dX10_moodSet_39 : decode cX10_moodSet 39 = .ok (.iload_n 2, 1) := by decide +kernel
theorem dX10_moodSet_40 : decode cX10_moodSet 40 = .ok (.ireturn, 1) := by decide +kernel
def L_X10_moodSet_4 (ra : Nat → Int32) (p1 : Int32) : Nat → Int32 → Int32 → Option (Int32)
  | 0, _, _ => none
  | n4 + 1, x1, x2 => if (ra 0) ≤ x1 then some x2 else ob (f_X10_of x1 (3 : Int32)) (fun r4 => gd (ix r4 42) (if (p1 * (ra r4.toNatClampNeg)) ≤ 0 then L_X10_moodSet_4 ra p1 n4 (x1 + (1 : Int32)) (x2 ||| (0 : Int32)) else nm (x2 ||| ((1 : Int32) <<< (x1 &&& 31))) (fun z8 => L_X10_moodSet_4 ra p1 n4 (x1 + (1 : Int32)) z8)))
def f_X10_moodSet (N : Nat) (ra : Nat → Int32) (p1 : Int32) : Option (Int32) := L_X10_moodSet_4 ra p1 N (0 : Int32) (0 : Int32)
set_option maxHeartbeats 4000000 in
set_option maxRecDepth 100000 in
theorem c_X10_moodSet (l : Launch) (E : EE) (ra_h : Nat) (ra : Nat → Int32) (p1 : Int32) (N : Nat) (res : Int32) (hv : f_X10_moodSet N ra p1 = some res) : Rd l E yX10_moodSet cX10_moodSet 4 (some .int) ({ frames := 1, cells := 0, slots := 0, locals := 21 }) [.ref ra_h, .int p1] [ai E ra_h 42 ra] (some (.int res)) := by
  refine Rd.intro RX10 (by decide) rfl (Nat.le_of_ble_eq_true rfl) ?_
  intro p e s m below meth c ls hC hr hlk hP hG hl
  obtain ⟨hx, hb, hml, hown, ht⟩ := id hC
  have hK := hG.1
  have hl : lv_has ls 4 [(0, .ref ra_h), (1, .int p1)] := hl
  rw [f_X10_moodSet] at hv
  refine lv_iconst (v := (0 : Int32)) hx hb dX10_moodSet_0 (by decide) ?_
  refine lv_istore_n (lv' := [(2, .int (0 : Int32)), (0, .ref ra_h), (1, .int p1)]) hx hb dX10_moodSet_1 rfl hl (by decide) rfl (fun ls hl => ?_)
  refine lv_iconst (v := (0 : Int32)) hx hb dX10_moodSet_2 (by decide) ?_
  refine lv_istore_n (lv' := [(3, .int (0 : Int32)), (2, .int (0 : Int32)), (0, .ref ra_h), (1, .int p1)]) hx hb dX10_moodSet_3 rfl hl (by decide) rfl (fun ls hl => ?_)
  have hL4 : ∀ (n : Nat) (x1 : Int32) (x2 : Int32) (ls : Array Slot), lv_has ls 4 [(3, .int x1), (2, .int x2), (0, .ref ra_h), (1, .int p1)] → L_X10_moodSet_4 ra p1 n x1 x2 = some res → W p l e ({ frames := 1, cells := 0, slots := 0, locals := 21 }) s m [.ref ra_h, .int p1].toArray below meth c s.heap [] 0 0 (MQ below (RdQ (some (.int res))) [.ref ra_h, .int p1].toArray s 0 0 (fun _ => False)) (F0 m 4 ls []) := by
    intro n
    induction n with
    | zero => intro x1 x2 ls hl hv; cases hv
    | succ n4 ih4 =>
      intro x1 x2 ls hl hv
      rw [L_X10_moodSet_4] at hv
      refine lv_iload_n hx hb dX10_moodSet_4 rfl (lv_at hl 0 rfl) ?_
      refine lv_aload_n hx hb dX10_moodSet_5 rfl (lv_at hl 2 rfl) ?_
      refine lv_iconst (v := (0 : Int32)) hx hb dX10_moodSet_6 (by decide) ?_
      refine va_iald hx hb hK hP 0 0 rfl rfl (ix_s (by decide)) dX10_moodSet_7 ?_
      refine W.eq (g2 := F0 m 8 ls [.int (ra 0), .int x1]) rfl ?_
      refine lv_icmp_ge (tgt := 39) hx hb dX10_moodSet_8 (by decide) (fun c3 => ?_) (fun c3 => ?_)
      · have hv := if_y c3 hv
        refine lv_iload_n hx hb dX10_moodSet_39 rfl (lv_at hl 1 rfl) ?_
        exact W.iret (v := x2) hx hb hr (fun t h9 _ => ⟨rv_i hv, h9⟩) (fun q h => absurd h List.not_mem_nil) dX10_moodSet_40 hlk
      · have hv := if_n c3 hv
        refine lv_iload_n hx hb dX10_moodSet_11 rfl (lv_at hl 1 rfl) ?_
        refine lv_iload_n hx hb dX10_moodSet_12 rfl (lv_at hl 3 rfl) ?_
        refine lv_aload_n hx hb dX10_moodSet_13 rfl (lv_at hl 2 rfl) ?_
        refine lv_iload_n hx hb dX10_moodSet_14 rfl (lv_at hl 0 rfl) ?_
        refine lv_iconst (v := (3 : Int32)) hx hb dX10_moodSet_15 (by decide) ?_
        obtain ⟨r4, h5, hv⟩ := ob_s hv
        refine rdS (rest := [.ref ra_h, .int p1, .int x2]) (st1 := [.int r4, .ref ra_h, .int p1, .int x2]) (w := []) hC q_X10_of kw_4_226 (c_X10_of l E x1 (3 : Int32) r4 h5) ⟨rfl, rfl⟩ ⟨Nat.le_of_ble_eq_true rfl, Nat.le_of_ble_eq_true rfl⟩ ⟨Nat.zero_le _, Nat.zero_le _⟩ (hP.sub (ws' := []) [] rfl) hG rfl hl.1 rfl (Nat.le_of_ble_eq_true rfl) dX10_moodSet_16 rfl ?_
        obtain ⟨g6, hv⟩ := gd_s hv
        refine va_iald hx hb hK hP 0 0 rfl rfl (ix_s g6) dX10_moodSet_19 ?_
        refine lv_imul hx hb dX10_moodSet_20 ?_
        refine lv_if_le (tgt := 30) hx hb dX10_moodSet_21 (by decide) (fun c7 => ?_) (fun c7 => ?_)
        · have hv := if_y c7 hv
          refine lv_iconst (v := (0 : Int32)) hx hb dX10_moodSet_30 (by decide) ?_
          refine lv_ior hx hb dX10_moodSet_31 ?_
          refine lv_istore_n (lv' := [(2, .int (x2 ||| (0 : Int32))), (3, .int x1), (0, .ref ra_h), (1, .int p1)]) hx hb dX10_moodSet_32 rfl hl (by decide) rfl (fun ls hl => ?_)
          refine lv_iinc (v := (x1 + (1 : Int32))) (lv' := [(3, .int (x1 + (1 : Int32))), (2, .int (x2 ||| (0 : Int32))), (0, .ref ra_h), (1, .int p1)]) hx hb dX10_moodSet_33 hl (k := 1) rfl rfl (by decide) rfl (fun ls hl => ?_)
          refine lv_goto (tgt := 4) hx hb dX10_moodSet_36 (by decide) ?_
          exact ih4 (x1 + (1 : Int32)) (x2 ||| (0 : Int32)) _ (lv_sub hl [0, 1, 2, 3] rfl) hv
        · have hv := if_n c7 hv
          refine lv_iconst (v := (1 : Int32)) hx hb dX10_moodSet_24 (by decide) ?_
          refine lv_iload_n hx hb dX10_moodSet_25 rfl (lv_at hl 0 rfl) ?_
          refine lv_ishl hx hb dX10_moodSet_26 ?_
          refine lv_goto (tgt := 31) hx hb dX10_moodSet_27 (by decide) ?_
          refine lv_ior hx hb dX10_moodSet_31 ?_
          refine lv_topi (fun z8 ez8 => ?_)
          have hv := nm_s ez8 hv
          refine lv_istore_n (lv' := [(2, .int z8), (3, .int x1), (0, .ref ra_h), (1, .int p1)]) hx hb dX10_moodSet_32 rfl hl (by decide) rfl (fun ls hl => ?_)
          refine lv_iinc (v := (x1 + (1 : Int32))) (lv' := [(3, .int (x1 + (1 : Int32))), (2, .int z8), (0, .ref ra_h), (1, .int p1)]) hx hb dX10_moodSet_33 hl (k := 1) rfl rfl (by decide) rfl (fun ls hl => ?_)
          refine lv_goto (tgt := 4) hx hb dX10_moodSet_36 (by decide) ?_
          exact ih4 (x1 + (1 : Int32)) z8 _ (lv_sub hl [0, 1, 2, 3] rfl) hv
  exact hL4 N (0 : Int32) (0 : Int32) _ (lv_sub hl [0, 1, 2, 3] rfl) hv
theorem dX10_weightOf_0 : decode cX10_weightOf 0 = .ok (.iconst 0, 1) := by decide +kernel
theorem dX10_weightOf_1 : decode cX10_weightOf 1 = .ok (.istore_n 2, 1) := by decide +kernel
theorem dX10_weightOf_2 : decode cX10_weightOf 2 = .ok (.iconst 0, 1) := by decide +kernel
theorem dX10_weightOf_3 : decode cX10_weightOf 3 = .ok (.istore_n 3, 1) := by decide +kernel
theorem dX10_weightOf_4 : decode cX10_weightOf 4 = .ok (.iload_n 3, 1) := by decide +kernel
theorem dX10_weightOf_5 : decode cX10_weightOf 5 = .ok (.aload_n 0, 1) := by decide +kernel
theorem dX10_weightOf_6 : decode cX10_weightOf 6 = .ok (.iconst 0, 1) := by decide +kernel
theorem dX10_weightOf_7 : decode cX10_weightOf 7 = .ok (.iaload, 1) := by decide +kernel
theorem dX10_weightOf_8 : decode cX10_weightOf 8 = .ok (.if_icmp .ge 29, 3) := by decide +kernel
theorem dX10_weightOf_11 : decode cX10_weightOf 11 = .ok (.iload_n 2, 1) := by decide +kernel
theorem dX10_weightOf_12 : decode cX10_weightOf 12 = .ok (.iload_n 1, 1) := by decide +kernel
theorem dX10_weightOf_13 : decode cX10_weightOf 13 = .ok (.iload_n 3, 1) := by decide +kernel
theorem dX10_weightOf_14 : decode cX10_weightOf 14 = .ok (.invokestatic 62, 3) := by decide +kernel
theorem dX10_weightOf_17 : decode cX10_weightOf 17 = .ok (.ifCond .eq 11, 3) := by decide +kernel
theorem dX10_weightOf_20 : decode cX10_weightOf 20 = .ok (.aload_n 0, 1) := by decide +kernel
theorem dX10_weightOf_21 : decode cX10_weightOf 21 = .ok (.iload_n 3, 1) := by decide +kernel
theorem dX10_weightOf_22 : decode cX10_weightOf 22 = .ok (.invokestatic 70, 3) := by decide +kernel
theorem dX10_weightOf_25 : decode cX10_weightOf 25 = .ok (.goto 4, 3) := by decide +kernel
theorem dX10_weightOf_28 : decode cX10_weightOf 28 = .ok (.iconst 0, 1) := by decide +kernel
theorem dX10_weightOf_29 : decode cX10_weightOf 29 = .ok (.iadd, 1) := by decide +kernel
theorem dX10_weightOf_30 : decode cX10_weightOf 30 = .ok (.istore_n 2, 1) := by decide +kernel
theorem dX10_weightOf_31 : decode cX10_weightOf 31 = .ok (.iinc 3 1, 3) := by decide +kernel
theorem dX10_weightOf_34 : decode cX10_weightOf 34 = .ok (.goto (-30), 3) := by decide +kernel
theorem dX10_weightOf_37 : decode cX10_weightOf 37 = .ok (.iload_n 2, 1) := by decide +kernel
theorem dX10_weightOf_38 : decode cX10_weightOf 38 = .ok (.ireturn, 1) := by decide +kernel
def L_X10_weightOf_4 (ra : Nat → Int32) (p1 : Int32) : Nat → Int32 → Int32 → Option (Int32)
  | 0, _, _ => none
  | n4 + 1, x1, x2 => if (ra 0) ≤ x1 then some x2 else ob (f_X10_has p1 x1) (fun r4 => if r4 = 0 then L_X10_weightOf_4 ra p1 n4 (x1 + (1 : Int32)) (x2 + (0 : Int32)) else ob (f_X10_weight ra x1) (fun r7 => L_X10_weightOf_4 ra p1 n4 (x1 + (1 : Int32)) (x2 + r7)))
def f_X10_weightOf (N : Nat) (ra : Nat → Int32) (p1 : Int32) : Option (Int32) := L_X10_weightOf_4 ra p1 N (0 : Int32) (0 : Int32)
set_option maxHeartbeats 4000000 in
set_option maxRecDepth 100000 in
theorem c_X10_weightOf (l : Launch) (E : EE) (ra_h : Nat) (ra : Nat → Int32) (p1 : Int32) (N : Nat) (res : Int32) (hv : f_X10_weightOf N ra p1 = some res) : Rd l E yX10_weightOf cX10_weightOf 4 (some .int) ({ frames := 3, cells := 0, slots := 0, locals := 63 }) [.ref ra_h, .int p1] [ai E ra_h 42 ra] (some (.int res)) := by
  refine Rd.intro RX10 (by decide) rfl (Nat.le_of_ble_eq_true rfl) ?_
  intro p e s m below meth c ls hC hr hlk hP hG hl
  obtain ⟨hx, hb, hml, hown, ht⟩ := id hC
  have hK := hG.1
  have hl : lv_has ls 4 [(0, .ref ra_h), (1, .int p1)] := hl
  rw [f_X10_weightOf] at hv
  refine lv_iconst (v := (0 : Int32)) hx hb dX10_weightOf_0 (by decide) ?_
  refine lv_istore_n (lv' := [(2, .int (0 : Int32)), (0, .ref ra_h), (1, .int p1)]) hx hb dX10_weightOf_1 rfl hl (by decide) rfl (fun ls hl => ?_)
  refine lv_iconst (v := (0 : Int32)) hx hb dX10_weightOf_2 (by decide) ?_
  refine lv_istore_n (lv' := [(3, .int (0 : Int32)), (2, .int (0 : Int32)), (0, .ref ra_h), (1, .int p1)]) hx hb dX10_weightOf_3 rfl hl (by decide) rfl (fun ls hl => ?_)
  have hL4 : ∀ (n : Nat) (x1 : Int32) (x2 : Int32) (ls : Array Slot), lv_has ls 4 [(3, .int x1), (2, .int x2), (0, .ref ra_h), (1, .int p1)] → L_X10_weightOf_4 ra p1 n x1 x2 = some res → W p l e ({ frames := 3, cells := 0, slots := 0, locals := 63 }) s m [.ref ra_h, .int p1].toArray below meth c s.heap [] 0 0 (MQ below (RdQ (some (.int res))) [.ref ra_h, .int p1].toArray s 0 0 (fun _ => False)) (F0 m 4 ls []) := by
    intro n
    induction n with
    | zero => intro x1 x2 ls hl hv; cases hv
    | succ n4 ih4 =>
      intro x1 x2 ls hl hv
      rw [L_X10_weightOf_4] at hv
      refine lv_iload_n hx hb dX10_weightOf_4 rfl (lv_at hl 0 rfl) ?_
      refine lv_aload_n hx hb dX10_weightOf_5 rfl (lv_at hl 2 rfl) ?_
      refine lv_iconst (v := (0 : Int32)) hx hb dX10_weightOf_6 (by decide) ?_
      refine va_iald hx hb hK hP 0 0 rfl rfl (ix_s (by decide)) dX10_weightOf_7 ?_
      refine W.eq (g2 := F0 m 8 ls [.int (ra 0), .int x1]) rfl ?_
      refine lv_icmp_ge (tgt := 37) hx hb dX10_weightOf_8 (by decide) (fun c3 => ?_) (fun c3 => ?_)
      · have hv := if_y c3 hv
        refine lv_iload_n hx hb dX10_weightOf_37 rfl (lv_at hl 1 rfl) ?_
        exact W.iret (v := x2) hx hb hr (fun t h9 _ => ⟨rv_i hv, h9⟩) (fun q h => absurd h List.not_mem_nil) dX10_weightOf_38 hlk
      · have hv := if_n c3 hv
        refine lv_iload_n hx hb dX10_weightOf_11 rfl (lv_at hl 1 rfl) ?_
        refine lv_iload_n hx hb dX10_weightOf_12 rfl (lv_at hl 3 rfl) ?_
        refine lv_iload_n hx hb dX10_weightOf_13 rfl (lv_at hl 0 rfl) ?_
        obtain ⟨r4, h5, hv⟩ := ob_s hv
        refine rdS (rest := [.int x2]) (st1 := [.int r4, .int x2]) (w := []) hC q_X10_has kw_5_5 (c_X10_has l E p1 x1 r4 h5) ⟨rfl, rfl⟩ ⟨Nat.le_of_ble_eq_true rfl, Nat.le_of_ble_eq_true rfl⟩ ⟨Nat.zero_le _, Nat.zero_le _⟩ (hP.sub (ws' := []) [] rfl) hG rfl hl.1 rfl (Nat.le_of_ble_eq_true rfl) dX10_weightOf_14 rfl ?_
        refine lv_if_eq (tgt := 28) hx hb dX10_weightOf_17 (by decide) (fun c6 => ?_) (fun c6 => ?_)
        · have hv := if_y c6 hv
          refine lv_iconst (v := (0 : Int32)) hx hb dX10_weightOf_28 (by decide) ?_
          refine lv_iadd hx hb dX10_weightOf_29 ?_
          refine lv_istore_n (lv' := [(2, .int (x2 + (0 : Int32))), (3, .int x1), (0, .ref ra_h), (1, .int p1)]) hx hb dX10_weightOf_30 rfl hl (by decide) rfl (fun ls hl => ?_)
          refine lv_iinc (v := (x1 + (1 : Int32))) (lv' := [(3, .int (x1 + (1 : Int32))), (2, .int (x2 + (0 : Int32))), (0, .ref ra_h), (1, .int p1)]) hx hb dX10_weightOf_31 hl (k := 1) rfl rfl (by decide) rfl (fun ls hl => ?_)
          refine lv_goto (tgt := 4) hx hb dX10_weightOf_34 (by decide) ?_
          exact ih4 (x1 + (1 : Int32)) (x2 + (0 : Int32)) _ (lv_sub hl [0, 1, 2, 3] rfl) hv
        · have hv := if_n c6 hv
          refine lv_aload_n hx hb dX10_weightOf_20 rfl (lv_at hl 2 rfl) ?_
          refine lv_iload_n hx hb dX10_weightOf_21 rfl (lv_at hl 0 rfl) ?_
          obtain ⟨r7, h8, hv⟩ := ob_s hv
          refine rdS (rest := [.int x2]) (st1 := [.int r7, .int x2]) (w := [ai E ra_h 42 ra]) hC q_X10_weight kw_5_24 (c_X10_weight l E ra_h ra x1 r7 h8) ⟨rfl, rfl⟩ ⟨Nat.le_of_ble_eq_true rfl, Nat.le_of_ble_eq_true rfl⟩ ⟨Nat.zero_le _, Nat.zero_le _⟩ hP hG rfl hl.1 rfl (Nat.le_of_ble_eq_true rfl) dX10_weightOf_22 rfl ?_
          refine lv_goto (tgt := 29) hx hb dX10_weightOf_25 (by decide) ?_
          refine lv_iadd hx hb dX10_weightOf_29 ?_
          refine lv_istore_n (lv' := [(2, .int (x2 + r7)), (3, .int x1), (0, .ref ra_h), (1, .int p1)]) hx hb dX10_weightOf_30 rfl hl (by decide) rfl (fun ls hl => ?_)
          refine lv_iinc (v := (x1 + (1 : Int32))) (lv' := [(3, .int (x1 + (1 : Int32))), (2, .int (x2 + r7)), (0, .ref ra_h), (1, .int p1)]) hx hb dX10_weightOf_31 hl (k := 1) rfl rfl (by decide) rfl (fun ls hl => ?_)
          refine lv_goto (tgt := 4) hx hb dX10_weightOf_34 (by decide) ?_
          exact ih4 (x1 + (1 : Int32)) (x2 + r7) _ (lv_sub hl [0, 1, 2, 3] rfl) hv
  exact hL4 N (0 : Int32) (0 : Int32) _ (lv_sub hl [0, 1, 2, 3] rfl) hv
theorem dX10_isOnSide_0 : decode cX10_isOnSide 0 = .ok (.iconst 0, 1) := by decide +kernel
theorem dX10_isOnSide_1 : decode cX10_isOnSide 1 = .ok (.istore_n 3, 1) := by decide +kernel
theorem dX10_isOnSide_2 : decode cX10_isOnSide 2 = .ok (.iload_n 3, 1) := by decide +kernel
theorem dX10_isOnSide_3 : decode cX10_isOnSide 3 = .ok (.aload_n 0, 1) := by decide +kernel
theorem dX10_isOnSide_4 : decode cX10_isOnSide 4 = .ok (.iconst 0, 1) := by decide +kernel
theorem dX10_isOnSide_5 : decode cX10_isOnSide 5 = .ok (.iaload, 1) := by decide +kernel
theorem dX10_isOnSide_6 : decode cX10_isOnSide 6 = .ok (.if_icmp .ge 28, 3) := by decide +kernel
theorem dX10_isOnSide_9 : decode cX10_isOnSide 9 = .ok (.iload_n 1, 1) := by decide +kernel
theorem dX10_isOnSide_10 : decode cX10_isOnSide 10 = .ok (.iload_n 3, 1) := by decide +kernel
theorem dX10_isOnSide_11 : decode cX10_isOnSide 11 = .ok (.invokestatic 62, 3) := by decide +kernel
theorem dX10_isOnSide_14 : decode cX10_isOnSide 14 = .ok (.ifCond .eq 14, 3) := by decide +kernel
theorem dX10_isOnSide_17 : decode cX10_isOnSide 17 = .ok (.aload_n 0, 1) := by decide +kernel
theorem dX10_isOnSide_18 : decode cX10_isOnSide 18 = .ok (.iload_n 3, 1) := by decide +kernel
theorem dX10_isOnSide_19 : decode cX10_isOnSide 19 = .ok (.invokestatic 73, 3) := by decide +kernel
theorem dX10_isOnSide_22 : decode cX10_isOnSide 22 = .ok (.iload_n 2, 1) := by decide +kernel
theorem dX10_isOnSide_23 : decode cX10_isOnSide 23 = .ok (.if_icmp .ne 5, 3) := by decide +kernel
theorem dX10_isOnSide_26 : decode cX10_isOnSide 26 = .ok (.iconst 1, 1) := by decide +kernel
theorem dX10_isOnSide_27 : decode cX10_isOnSide 27 = .ok (.ireturn, 1) := by decide +kernel
theorem dX10_isOnSide_28 : decode cX10_isOnSide 28 = .ok (.iinc 3 1, 3) := by decide +kernel
theorem dX10_isOnSide_31 : decode cX10_isOnSide 31 = .ok (.goto (-29), 3) := by decide +kernel
theorem dX10_isOnSide_34 : decode cX10_isOnSide 34 = .ok (.iconst 0, 1) := by decide +kernel
theorem dX10_isOnSide_35 : decode cX10_isOnSide 35 = .ok (.ireturn, 1) := by decide +kernel
def L_X10_isOnSide_2 (ra : Nat → Int32) (p1 : Int32) (p2 : Int32) : Nat → Int32 → Option (Int32)
  | 0, _ => none
  | n2 + 1, x1 => if (ra 0) ≤ x1 then some (0 : Int32) else ob (f_X10_has p1 x1) (fun r3 => if r3 = 0 then L_X10_isOnSide_2 ra p1 p2 n2 (x1 + (1 : Int32)) else ob (f_X10_sideOf ra x1) (fun r6 => if r6 = p2 then some (1 : Int32) else L_X10_isOnSide_2 ra p1 p2 n2 (x1 + (1 : Int32))))
def f_X10_isOnSide (N : Nat) (ra : Nat → Int32) (p1 : Int32) (p2 : Int32) : Option (Int32) := L_X10_isOnSide_2 ra p1 p2 N (0 : Int32)
set_option maxHeartbeats 4000000 in
set_option maxRecDepth 100000 in
theorem c_X10_isOnSide (l : Launch) (E : EE) (ra_h : Nat) (ra : Nat → Int32) (p1 : Int32) (p2 : Int32) (N : Nat) (res : Int32) (hv : f_X10_isOnSide N ra p1 p2 = some res) : Rd l E yX10_isOnSide cX10_isOnSide 4 (some .boolean) ({ frames := 2, cells := 0, slots := 0, locals := 42 }) [.ref ra_h, .int p1, .int p2] [ai E ra_h 42 ra] (some (.int res)) := by
  refine Rd.intro RX10 (by decide) rfl (Nat.le_of_ble_eq_true rfl) ?_
  intro p e s m below meth c ls hC hr hlk hP hG hl
  obtain ⟨hx, hb, hml, hown, ht⟩ := id hC
  have hK := hG.1
  have hl : lv_has ls 4 [(0, .ref ra_h), (1, .int p1), (2, .int p2)] := hl
  rw [f_X10_isOnSide] at hv
  refine lv_iconst (v := (0 : Int32)) hx hb dX10_isOnSide_0 (by decide) ?_
  refine lv_istore_n (lv' := [(3, .int (0 : Int32)), (0, .ref ra_h), (1, .int p1), (2, .int p2)]) hx hb dX10_isOnSide_1 rfl hl (by decide) rfl (fun ls hl => ?_)
  have hL2 : ∀ (n : Nat) (x1 : Int32) (ls : Array Slot), lv_has ls 4 [(3, .int x1), (0, .ref ra_h), (1, .int p1), (2, .int p2)] → L_X10_isOnSide_2 ra p1 p2 n x1 = some res → W p l e ({ frames := 2, cells := 0, slots := 0, locals := 42 }) s m [.ref ra_h, .int p1, .int p2].toArray below meth c s.heap [] 0 0 (MQ below (RdQ (some (.int res))) [.ref ra_h, .int p1, .int p2].toArray s 0 0 (fun _ => False)) (F0 m 2 ls []) := by
    intro n
    induction n with
    | zero => intro x1 ls hl hv; cases hv
    | succ n2 ih2 =>
      intro x1 ls hl hv
      rw [L_X10_isOnSide_2] at hv
      refine lv_iload_n hx hb dX10_isOnSide_2 rfl (lv_at hl 0 rfl) ?_
      refine lv_aload_n hx hb dX10_isOnSide_3 rfl (lv_at hl 1 rfl) ?_
      refine lv_iconst (v := (0 : Int32)) hx hb dX10_isOnSide_4 (by decide) ?_
      refine va_iald hx hb hK hP 0 0 rfl rfl (ix_s (by decide)) dX10_isOnSide_5 ?_
      refine W.eq (g2 := F0 m 6 ls [.int (ra 0), .int x1]) rfl ?_
      refine lv_icmp_ge (tgt := 34) hx hb dX10_isOnSide_6 (by decide) (fun c2 => ?_) (fun c2 => ?_)
      · have hv := if_y c2 hv
        refine lv_iconst (v := (0 : Int32)) hx hb dX10_isOnSide_34 (by decide) ?_
        exact W.zret (v := (0 : Int32)) hx hb hr rfl (fun t h9 _ => ⟨rv_i hv, h9⟩) (fun q h => absurd h List.not_mem_nil) dX10_isOnSide_35 hlk
      · have hv := if_n c2 hv
        refine lv_iload_n hx hb dX10_isOnSide_9 rfl (lv_at hl 2 rfl) ?_
        refine lv_iload_n hx hb dX10_isOnSide_10 rfl (lv_at hl 0 rfl) ?_
        obtain ⟨r3, h4, hv⟩ := ob_s hv
        refine rdS (rest := []) (st1 := [.int r3]) (w := []) hC q_X10_has kw_5_5 (c_X10_has l E p1 x1 r3 h4) ⟨rfl, rfl⟩ ⟨Nat.le_of_ble_eq_true rfl, Nat.le_of_ble_eq_true rfl⟩ ⟨Nat.zero_le _, Nat.zero_le _⟩ (hP.sub (ws' := []) [] rfl) hG rfl hl.1 rfl (Nat.le_of_ble_eq_true rfl) dX10_isOnSide_11 rfl ?_
        refine lv_if_eq (tgt := 28) hx hb dX10_isOnSide_14 (by decide) (fun c5 => ?_) (fun c5 => ?_)
        · have hv := if_y c5 hv
          refine lv_iinc (v := (x1 + (1 : Int32))) (lv' := [(3, .int (x1 + (1 : Int32))), (0, .ref ra_h), (1, .int p1), (2, .int p2)]) hx hb dX10_isOnSide_28 hl (k := 0) rfl rfl (by decide) rfl (fun ls hl => ?_)
          refine lv_goto (tgt := 2) hx hb dX10_isOnSide_31 (by decide) ?_
          exact ih2 (x1 + (1 : Int32)) _ (lv_sub hl [0, 1, 2, 3] rfl) hv
        · have hv := if_n c5 hv
          refine lv_aload_n hx hb dX10_isOnSide_17 rfl (lv_at hl 1 rfl) ?_
          refine lv_iload_n hx hb dX10_isOnSide_18 rfl (lv_at hl 0 rfl) ?_
          obtain ⟨r6, h7, hv⟩ := ob_s hv
          refine rdS (rest := []) (st1 := [.int r6]) (w := [ai E ra_h 42 ra]) hC q_X10_sideOf kw_5_11 (c_X10_sideOf l E ra_h ra x1 r6 h7) ⟨rfl, rfl⟩ ⟨Nat.le_of_ble_eq_true rfl, Nat.le_of_ble_eq_true rfl⟩ ⟨Nat.zero_le _, Nat.zero_le _⟩ hP hG rfl hl.1 rfl (Nat.le_of_ble_eq_true rfl) dX10_isOnSide_19 rfl ?_
          refine lv_iload_n hx hb dX10_isOnSide_22 rfl (lv_at hl 3 rfl) ?_
          refine lv_icmp_ne (tgt := 28) hx hb dX10_isOnSide_23 (by decide) (fun c8 => ?_) (fun c8 => ?_)
          · have hv := if_n c8 hv
            refine lv_iinc (v := (x1 + (1 : Int32))) (lv' := [(3, .int (x1 + (1 : Int32))), (0, .ref ra_h), (1, .int p1), (2, .int p2)]) hx hb dX10_isOnSide_28 hl (k := 0) rfl rfl (by decide) rfl (fun ls hl => ?_)
            refine lv_goto (tgt := 2) hx hb dX10_isOnSide_31 (by decide) ?_
            exact ih2 (x1 + (1 : Int32)) _ (lv_sub hl [0, 1, 2, 3] rfl) hv
          · have hv := if_y c8 hv
            refine lv_iconst (v := (1 : Int32)) hx hb dX10_isOnSide_26 (by decide) ?_
            exact W.zret (v := (1 : Int32)) hx hb hr rfl (fun t h9 _ => ⟨rv_i hv, h9⟩) (fun q h => absurd h List.not_mem_nil) dX10_isOnSide_27 hlk
  exact hL2 N (0 : Int32) _ (lv_sub hl [0, 1, 2, 3] rfl) hv
theorem dX10_isVetoed_0 : decode cX10_isVetoed 0 = .ok (.iconst 0, 1) := by decide +kernel
theorem dX10_isVetoed_1 : decode cX10_isVetoed 1 = .ok (.istore_n 2, 1) := by decide +kernel
theorem dX10_isVetoed_2 : decode cX10_isVetoed 2 = .ok (.iload_n 2, 1) := by decide +kernel
theorem dX10_isVetoed_3 : decode cX10_isVetoed 3 = .ok (.aload_n 0, 1) := by decide +kernel
theorem dX10_isVetoed_4 : decode cX10_isVetoed 4 = .ok (.iconst 0, 1) := by decide +kernel
theorem dX10_isVetoed_5 : decode cX10_isVetoed 5 = .ok (.iaload, 1) := by decide +kernel
theorem dX10_isVetoed_6 : decode cX10_isVetoed 6 = .ok (.if_icmp .ge 27, 3) := by decide +kernel
theorem dX10_isVetoed_9 : decode cX10_isVetoed 9 = .ok (.iload_n 1, 1) := by decide +kernel
theorem dX10_isVetoed_10 : decode cX10_isVetoed 10 = .ok (.iload_n 2, 1) := by decide +kernel
theorem dX10_isVetoed_11 : decode cX10_isVetoed 11 = .ok (.invokestatic 62, 3) := by decide +kernel
theorem dX10_isVetoed_14 : decode cX10_isVetoed 14 = .ok (.ifCond .eq 13, 3) := by decide +kernel
theorem dX10_isVetoed_17 : decode cX10_isVetoed 17 = .ok (.aload_n 0, 1) := by decide +kernel
theorem dX10_isVetoed_18 : decode cX10_isVetoed 18 = .ok (.iload_n 2, 1) := by decide +kernel
theorem dX10_isVetoed_19 : decode cX10_isVetoed 19 = .ok (.invokestatic 76, 3) := by decide +kernel
theorem dX10_isVetoed_22 : decode cX10_isVetoed 22 = .ok (.ifCond .eq 5, 3) := by decide +kernel
theorem dX10_isVetoed_25 : decode cX10_isVetoed 25 = .ok (.iconst 1, 1) := by decide +kernel
theorem dX10_isVetoed_26 : decode cX10_isVetoed 26 = .ok (.ireturn, 1) := by decide +kernel
theorem dX10_isVetoed_27 : decode cX10_isVetoed 27 = .ok (.iinc 2 1, 3) := by decide +kernel
theorem dX10_isVetoed_30 : decode cX10_isVetoed 30 = .ok (.goto (-28), 3) := by decide +kernel
theorem dX10_isVetoed_33 : decode cX10_isVetoed 33 = .ok (.iconst 0, 1) := by decide +kernel
theorem dX10_isVetoed_34 : decode cX10_isVetoed 34 = .ok (.ireturn, 1) := by decide +kernel
def L_X10_isVetoed_2 (ra : Nat → Int32) (p1 : Int32) : Nat → Int32 → Option (Int32)
  | 0, _ => none
  | n2 + 1, x1 => if (ra 0) ≤ x1 then some (0 : Int32) else ob (f_X10_has p1 x1) (fun r3 => if r3 = 0 then L_X10_isVetoed_2 ra p1 n2 (x1 + (1 : Int32)) else ob (f_X10_doesVeto ra x1) (fun r6 => if r6 = 0 then L_X10_isVetoed_2 ra p1 n2 (x1 + (1 : Int32)) else some (1 : Int32)))
def f_X10_isVetoed (N : Nat) (ra : Nat → Int32) (p1 : Int32) : Option (Int32) := L_X10_isVetoed_2 ra p1 N (0 : Int32)
set_option maxHeartbeats 4000000 in
set_option maxRecDepth 100000 in
theorem c_X10_isVetoed (l : Launch) (E : EE) (ra_h : Nat) (ra : Nat → Int32) (p1 : Int32) (N : Nat) (res : Int32) (hv : f_X10_isVetoed N ra p1 = some res) : Rd l E yX10_isVetoed cX10_isVetoed 3 (some .boolean) ({ frames := 2, cells := 0, slots := 0, locals := 44 }) [.ref ra_h, .int p1] [ai E ra_h 42 ra] (some (.int res)) := by
  refine Rd.intro RX10 (by decide) rfl (Nat.le_of_ble_eq_true rfl) ?_
  intro p e s m below meth c ls hC hr hlk hP hG hl
  obtain ⟨hx, hb, hml, hown, ht⟩ := id hC
  have hK := hG.1
  have hl : lv_has ls 3 [(0, .ref ra_h), (1, .int p1)] := hl
  rw [f_X10_isVetoed] at hv
  refine lv_iconst (v := (0 : Int32)) hx hb dX10_isVetoed_0 (by decide) ?_
  refine lv_istore_n (lv' := [(2, .int (0 : Int32)), (0, .ref ra_h), (1, .int p1)]) hx hb dX10_isVetoed_1 rfl hl (by decide) rfl (fun ls hl => ?_)
  have hL2 : ∀ (n : Nat) (x1 : Int32) (ls : Array Slot), lv_has ls 3 [(2, .int x1), (0, .ref ra_h), (1, .int p1)] → L_X10_isVetoed_2 ra p1 n x1 = some res → W p l e ({ frames := 2, cells := 0, slots := 0, locals := 44 }) s m [.ref ra_h, .int p1].toArray below meth c s.heap [] 0 0 (MQ below (RdQ (some (.int res))) [.ref ra_h, .int p1].toArray s 0 0 (fun _ => False)) (F0 m 2 ls []) := by
    intro n
    induction n with
    | zero => intro x1 ls hl hv; cases hv
    | succ n2 ih2 =>
      intro x1 ls hl hv
      rw [L_X10_isVetoed_2] at hv
      refine lv_iload_n hx hb dX10_isVetoed_2 rfl (lv_at hl 0 rfl) ?_
      refine lv_aload_n hx hb dX10_isVetoed_3 rfl (lv_at hl 1 rfl) ?_
      refine lv_iconst (v := (0 : Int32)) hx hb dX10_isVetoed_4 (by decide) ?_
      refine va_iald hx hb hK hP 0 0 rfl rfl (ix_s (by decide)) dX10_isVetoed_5 ?_
      refine W.eq (g2 := F0 m 6 ls [.int (ra 0), .int x1]) rfl ?_
      refine lv_icmp_ge (tgt := 33) hx hb dX10_isVetoed_6 (by decide) (fun c2 => ?_) (fun c2 => ?_)
      · have hv := if_y c2 hv
        refine lv_iconst (v := (0 : Int32)) hx hb dX10_isVetoed_33 (by decide) ?_
        exact W.zret (v := (0 : Int32)) hx hb hr rfl (fun t h9 _ => ⟨rv_i hv, h9⟩) (fun q h => absurd h List.not_mem_nil) dX10_isVetoed_34 hlk
      · have hv := if_n c2 hv
        refine lv_iload_n hx hb dX10_isVetoed_9 rfl (lv_at hl 2 rfl) ?_
        refine lv_iload_n hx hb dX10_isVetoed_10 rfl (lv_at hl 0 rfl) ?_
        obtain ⟨r3, h4, hv⟩ := ob_s hv
        refine rdS (rest := []) (st1 := [.int r3]) (w := []) hC q_X10_has kw_5_5 (c_X10_has l E p1 x1 r3 h4) ⟨rfl, rfl⟩ ⟨Nat.le_of_ble_eq_true rfl, Nat.le_of_ble_eq_true rfl⟩ ⟨Nat.zero_le _, Nat.zero_le _⟩ (hP.sub (ws' := []) [] rfl) hG rfl hl.1 rfl (Nat.le_of_ble_eq_true rfl) dX10_isVetoed_11 rfl ?_
        refine lv_if_eq (tgt := 27) hx hb dX10_isVetoed_14 (by decide) (fun c5 => ?_) (fun c5 => ?_)
        · have hv := if_y c5 hv
          refine lv_iinc (v := (x1 + (1 : Int32))) (lv' := [(2, .int (x1 + (1 : Int32))), (0, .ref ra_h), (1, .int p1)]) hx hb dX10_isVetoed_27 hl (k := 0) rfl rfl (by decide) rfl (fun ls hl => ?_)
          refine lv_goto (tgt := 2) hx hb dX10_isVetoed_30 (by decide) ?_
          exact ih2 (x1 + (1 : Int32)) _ (lv_sub hl [0, 1, 2] rfl) hv
        · have hv := if_n c5 hv
          refine lv_aload_n hx hb dX10_isVetoed_17 rfl (lv_at hl 1 rfl) ?_
          refine lv_iload_n hx hb dX10_isVetoed_18 rfl (lv_at hl 0 rfl) ?_
          obtain ⟨r6, h7, hv⟩ := ob_s hv
          refine rdS (rest := []) (st1 := [.int r6]) (w := [ai E ra_h 42 ra]) hC q_X10_doesVeto kw_5_91 (c_X10_doesVeto l E ra_h ra x1 r6 h7) ⟨rfl, rfl⟩ ⟨Nat.le_of_ble_eq_true rfl, Nat.le_of_ble_eq_true rfl⟩ ⟨Nat.zero_le _, Nat.zero_le _⟩ hP hG rfl hl.1 rfl (Nat.le_of_ble_eq_true rfl) dX10_isVetoed_19 rfl ?_
          refine lv_if_eq (tgt := 27) hx hb dX10_isVetoed_22 (by decide) (fun c8 => ?_) (fun c8 => ?_)
          · have hv := if_y c8 hv
            refine lv_iinc (v := (x1 + (1 : Int32))) (lv' := [(2, .int (x1 + (1 : Int32))), (0, .ref ra_h), (1, .int p1)]) hx hb dX10_isVetoed_27 hl (k := 0) rfl rfl (by decide) rfl (fun ls hl => ?_)
            refine lv_goto (tgt := 2) hx hb dX10_isVetoed_30 (by decide) ?_
            exact ih2 (x1 + (1 : Int32)) _ (lv_sub hl [0, 1, 2] rfl) hv
          · have hv := if_n c8 hv
            refine lv_iconst (v := (1 : Int32)) hx hb dX10_isVetoed_25 (by decide) ?_
            exact W.zret (v := (1 : Int32)) hx hb hr rfl (fun t h9 _ => ⟨rv_i hv, h9⟩) (fun q h => absurd h List.not_mem_nil) dX10_isVetoed_26 hlk
  exact hL2 N (0 : Int32) _ (lv_sub hl [0, 1, 2] rfl) hv
theorem dX10_whyBy_0 : decode cX10_whyBy 0 = .ok (.aload_n 0, 1) := by decide +kernel
theorem dX10_whyBy_1 : decode cX10_whyBy 1 = .ok (.iconst 1, 1) := by decide +kernel
theorem dX10_whyBy_2 : decode cX10_whyBy 2 = .ok (.invokestatic 79, 3) := by decide +kernel
theorem dX10_whyBy_5 : decode cX10_whyBy 5 = .ok (.iload_n 1, 1) := by decide +kernel
theorem dX10_whyBy_6 : decode cX10_whyBy 6 = .ok (.iand, 1) := by decide +kernel
theorem dX10_whyBy_7 : decode cX10_whyBy 7 = .ok (.istore_n 2, 1) := by decide +kernel
theorem dX10_whyBy_8 : decode cX10_whyBy 8 = .ok (.aload_n 0, 1) := by decide +kernel
theorem dX10_whyBy_9 : decode cX10_whyBy 9 = .ok (.iload_n 2, 1) := by decide +kernel
theorem dX10_whyBy_10 : decode cX10_whyBy 10 = .ok (.iconst 0, 1) := by decide +kernel
theorem dX10_whyBy_11 : decode cX10_whyBy 11 = .ok (.invokestatic 82, 3) := by decide +kernel
theorem dX10_whyBy_14 : decode cX10_whyBy 14 = .ok (.ifCond .ne 5, 3) := by decide +kernel
theorem dX10_whyBy_17 : decode cX10_whyBy 17 = .ok (.iconst 1, 1) := by decide +kernel
theorem dX10_whyBy_18 : decode cX10_whyBy 18 = .ok (.ireturn, 1) := by decide +kernel
theorem dX10_whyBy_19 : decode cX10_whyBy 19 = .ok (.aload_n 0, 1) := by decide +kernel
theorem dX10_whyBy_20 : decode cX10_whyBy 20 = .ok (.iload_n 2, 1) := by decide +kernel
theorem dX10_whyBy_21 : decode cX10_whyBy 21 = .ok (.iconst 1, 1) := by decide +kernel
theorem dX10_whyBy_22 : decode cX10_whyBy 22 = .ok (.invokestatic 82, 3) := by decide +kernel
theorem dX10_whyBy_25 : decode cX10_whyBy 25 = .ok (.ifCond .ne 5, 3) := by decide +kernel
theorem dX10_whyBy_28 : decode cX10_whyBy 28 = .ok (.iconst 2, 1) := by decide +kernel
theorem dX10_whyBy_29 : decode cX10_whyBy 29 = .ok (.ireturn, 1) := by decide +kernel
theorem dX10_whyBy_30 : decode cX10_whyBy 30 = .ok (.aload_n 0, 1) := by decide +kernel
theorem dX10_whyBy_31 : decode cX10_whyBy 31 = .ok (.iload_n 2, 1) := by decide +kernel
theorem dX10_whyBy_32 : decode cX10_whyBy 32 = .ok (.invokestatic 86, 3) := by decide +kernel
theorem dX10_whyBy_35 : decode cX10_whyBy 35 = .ok (.aload_n 0, 1) := by decide +kernel
theorem dX10_whyBy_36 : decode cX10_whyBy 36 = .ok (.iconst 2, 1) := by decide +kernel
theorem dX10_whyBy_37 : decode cX10_whyBy 37 = .ok (.iaload, 1) := by decide +kernel
theorem dX10_whyBy_38 : decode cX10_whyBy 38 = .ok (.if_icmp .ge 5, 3) := by decide +kernel
theorem dX10_whyBy_41 : decode cX10_whyBy 41 = .ok (.iconst 3, 1) := by decide +kernel
theorem dX10_whyBy_42 : decode cX10_whyBy 42 = .ok (.ireturn, 1) := by decide +kernel
theorem dX10_whyBy_43 : decode cX10_whyBy 43 = .ok (.aload_n 0, 1) := by decide +kernel
theorem dX10_whyBy_44 : decode cX10_whyBy 44 = .ok (.iload_n 1, 1) := by decide +kernel
theorem dX10_whyBy_45 : decode cX10_whyBy 45 = .ok (.invokestatic 89, 3) := by decide +kernel
theorem dX10_whyBy_48 : decode cX10_whyBy 48 = .ok (.ifCond .eq 7, 3) := by decide +kernel
theorem dX10_whyBy_51 : decode cX10_whyBy 51 = .ok (.iconst 4, 1) := by decide +kernel
theorem dX10_whyBy_52 : decode cX10_whyBy 52 = .ok (.goto 4, 3) := by decide +kernel
theorem dX10_whyBy_55 : decode cX10_whyBy 55 = .ok (.iconst 0, 1) := by decide +kernel
theorem dX10_whyBy_56 : decode cX10_whyBy 56 = .ok (.ireturn, 1) := by decide +kernel
def f_X10_whyBy (N : Nat) (ra : Nat → Int32) (p1 : Int32) : Option (Int32) := ob (f_X10_moodSet N ra (1 : Int32)) (fun r1 => ob (f_X10_isOnSide N ra (r1 &&& p1) (0 : Int32)) (fun r3 => if r3 = 0 then some (1 : Int32) else ob (f_X10_isOnSide N ra (r1 &&& p1) (1 : Int32)) (fun r6 => if r6 = 0 then some (2 : Int32) else ob (f_X10_weightOf N ra (r1 &&& p1)) (fun r9 => if (ra 2) ≤ r9 then ob (f_X10_isVetoed N ra p1) (fun r12 => if r12 = 0 then some (0 : Int32) else some (4 : Int32)) else some (3 : Int32)))))
set_option maxHeartbeats 4000000 in
set_option maxRecDepth 100000 in
theorem c_X10_whyBy (l : Launch) (E : EE) (ra_h : Nat) (ra : Nat → Int32) (p1 : Int32) (N : Nat) (res : Int32) (hv : f_X10_whyBy N ra p1 = some res) : Rd l E yX10_whyBy cX10_whyBy 3 (some .int) ({ frames := 4, cells := 0, slots := 0, locals := 86 }) [.ref ra_h, .int p1] [ai E ra_h 42 ra] (some (.int res)) := by
  refine Rd.intro RX10 (by decide) rfl (Nat.le_of_ble_eq_true rfl) ?_
  intro p e s m below meth c ls hC hr hlk hP hG hl
  obtain ⟨hx, hb, hml, hown, ht⟩ := id hC
  have hK := hG.1
  have hl : lv_has ls 3 [(0, .ref ra_h), (1, .int p1)] := hl
  rw [f_X10_whyBy] at hv
  refine lv_aload_n hx hb dX10_whyBy_0 rfl (lv_at hl 0 rfl) ?_
  refine lv_iconst (v := (1 : Int32)) hx hb dX10_whyBy_1 (by decide) ?_
  obtain ⟨r1, h2, hv⟩ := ob_s hv
  refine rdS (rest := []) (st1 := [.int r1]) (w := [ai E ra_h 42 ra]) hC q_X10_moodSet kw_5_79 (c_X10_moodSet l E ra_h ra (1 : Int32) N r1 h2) ⟨rfl, rfl⟩ ⟨Nat.le_of_ble_eq_true rfl, Nat.le_of_ble_eq_true rfl⟩ ⟨Nat.zero_le _, Nat.zero_le _⟩ hP hG rfl hl.1 rfl (Nat.le_of_ble_eq_true rfl) dX10_whyBy_2 rfl ?_
  refine lv_iload_n hx hb dX10_whyBy_5 rfl (lv_at hl 1 rfl) ?_
  refine lv_iand hx hb dX10_whyBy_6 ?_
  refine lv_istore_n (lv' := [(2, .int (r1 &&& p1)), (0, .ref ra_h), (1, .int p1)]) hx hb dX10_whyBy_7 rfl hl (by decide) rfl (fun ls hl => ?_)
  refine lv_aload_n hx hb dX10_whyBy_8 rfl (lv_at hl 1 rfl) ?_
  refine lv_iload_n hx hb dX10_whyBy_9 rfl (lv_at hl 0 rfl) ?_
  refine lv_iconst (v := (0 : Int32)) hx hb dX10_whyBy_10 (by decide) ?_
  obtain ⟨r3, h4, hv⟩ := ob_s hv
  refine rdS (rest := []) (st1 := [.int r3]) (w := [ai E ra_h 42 ra]) hC q_X10_isOnSide kw_5_82 (c_X10_isOnSide l E ra_h ra (r1 &&& p1) (0 : Int32) N r3 h4) ⟨rfl, rfl⟩ ⟨Nat.le_of_ble_eq_true rfl, Nat.le_of_ble_eq_true rfl⟩ ⟨Nat.zero_le _, Nat.zero_le _⟩ hP hG rfl hl.1 rfl (Nat.le_of_ble_eq_true rfl) dX10_whyBy_11 rfl ?_
  refine lv_if_ne (tgt := 19) hx hb dX10_whyBy_14 (by decide) (fun c5 => ?_) (fun c5 => ?_)
  · have hv := if_n c5 hv
    refine lv_aload_n hx hb dX10_whyBy_19 rfl (lv_at hl 1 rfl) ?_
    refine lv_iload_n hx hb dX10_whyBy_20 rfl (lv_at hl 0 rfl) ?_
    refine lv_iconst (v := (1 : Int32)) hx hb dX10_whyBy_21 (by decide) ?_
    obtain ⟨r6, h7, hv⟩ := ob_s hv
    refine rdS (rest := []) (st1 := [.int r6]) (w := [ai E ra_h 42 ra]) hC q_X10_isOnSide kw_5_82 (c_X10_isOnSide l E ra_h ra (r1 &&& p1) (1 : Int32) N r6 h7) ⟨rfl, rfl⟩ ⟨Nat.le_of_ble_eq_true rfl, Nat.le_of_ble_eq_true rfl⟩ ⟨Nat.zero_le _, Nat.zero_le _⟩ hP hG rfl hl.1 rfl (Nat.le_of_ble_eq_true rfl) dX10_whyBy_22 rfl ?_
    refine lv_if_ne (tgt := 30) hx hb dX10_whyBy_25 (by decide) (fun c8 => ?_) (fun c8 => ?_)
    · have hv := if_n c8 hv
      refine lv_aload_n hx hb dX10_whyBy_30 rfl (lv_at hl 1 rfl) ?_
      refine lv_iload_n hx hb dX10_whyBy_31 rfl (lv_at hl 0 rfl) ?_
      obtain ⟨r9, h10, hv⟩ := ob_s hv
      refine rdS (rest := []) (st1 := [.int r9]) (w := [ai E ra_h 42 ra]) hC q_X10_weightOf kw_5_85 (c_X10_weightOf l E ra_h ra (r1 &&& p1) N r9 h10) ⟨rfl, rfl⟩ ⟨Nat.le_of_ble_eq_true rfl, Nat.le_of_ble_eq_true rfl⟩ ⟨Nat.zero_le _, Nat.zero_le _⟩ hP hG rfl hl.1 rfl (Nat.le_of_ble_eq_true rfl) dX10_whyBy_32 rfl ?_
      refine lv_aload_n hx hb dX10_whyBy_35 rfl (lv_at hl 1 rfl) ?_
      refine lv_iconst (v := (2 : Int32)) hx hb dX10_whyBy_36 (by decide) ?_
      refine va_iald hx hb hK hP 0 0 rfl rfl (ix_s (by decide)) dX10_whyBy_37 ?_
      refine W.eq (g2 := F0 m 38 ls [.int (ra 2), .int r9]) rfl ?_
      refine lv_icmp_ge (tgt := 43) hx hb dX10_whyBy_38 (by decide) (fun c11 => ?_) (fun c11 => ?_)
      · have hv := if_y c11 hv
        refine lv_aload_n hx hb dX10_whyBy_43 rfl (lv_at hl 1 rfl) ?_
        refine lv_iload_n hx hb dX10_whyBy_44 rfl (lv_at hl 2 rfl) ?_
        obtain ⟨r12, h13, hv⟩ := ob_s hv
        refine rdS (rest := []) (st1 := [.int r12]) (w := [ai E ra_h 42 ra]) hC q_X10_isVetoed kw_5_88 (c_X10_isVetoed l E ra_h ra p1 N r12 h13) ⟨rfl, rfl⟩ ⟨Nat.le_of_ble_eq_true rfl, Nat.le_of_ble_eq_true rfl⟩ ⟨Nat.zero_le _, Nat.zero_le _⟩ hP hG rfl hl.1 rfl (Nat.le_of_ble_eq_true rfl) dX10_whyBy_45 rfl ?_
        refine lv_if_eq (tgt := 55) hx hb dX10_whyBy_48 (by decide) (fun c14 => ?_) (fun c14 => ?_)
        · have hv := if_y c14 hv
          refine lv_iconst (v := (0 : Int32)) hx hb dX10_whyBy_55 (by decide) ?_
          exact W.iret (v := (0 : Int32)) hx hb hr (fun t h9 _ => ⟨rv_i hv, h9⟩) (fun q h => absurd h List.not_mem_nil) dX10_whyBy_56 hlk
        · have hv := if_n c14 hv
          refine lv_iconst (v := (4 : Int32)) hx hb dX10_whyBy_51 (by decide) ?_
          refine lv_goto (tgt := 56) hx hb dX10_whyBy_52 (by decide) ?_
          exact W.iret (v := (4 : Int32)) hx hb hr (fun t h9 _ => ⟨rv_i hv, h9⟩) (fun q h => absurd h List.not_mem_nil) dX10_whyBy_56 hlk
      · have hv := if_n c11 hv
        refine lv_iconst (v := (3 : Int32)) hx hb dX10_whyBy_41 (by decide) ?_
        exact W.iret (v := (3 : Int32)) hx hb hr (fun t h9 _ => ⟨rv_i hv, h9⟩) (fun q h => absurd h List.not_mem_nil) dX10_whyBy_42 hlk
    · have hv := if_y c8 hv
      refine lv_iconst (v := (2 : Int32)) hx hb dX10_whyBy_28 (by decide) ?_
      exact W.iret (v := (2 : Int32)) hx hb hr (fun t h9 _ => ⟨rv_i hv, h9⟩) (fun q h => absurd h List.not_mem_nil) dX10_whyBy_29 hlk
  · have hv := if_y c5 hv
    refine lv_iconst (v := (1 : Int32)) hx hb dX10_whyBy_17 (by decide) ?_
    exact W.iret (v := (1 : Int32)) hx hb hr (fun t h9 _ => ⟨rv_i hv, h9⟩) (fun q h => absurd h List.not_mem_nil) dX10_whyBy_18 hlk
theorem dX10_doesCarry_0 : decode cX10_doesCarry 0 = .ok (.aload_n 0, 1) := by decide +kernel
theorem dX10_doesCarry_1 : decode cX10_doesCarry 1 = .ok (.aload_n 0, 1) := by decide +kernel
theorem dX10_doesCarry_2 : decode cX10_doesCarry 2 = .ok (.invokestatic 92, 3) := by decide +kernel
theorem dX10_doesCarry_5 : decode cX10_doesCarry 5 = .ok (.invokestatic 96, 3) := by decide +kernel
theorem dX10_doesCarry_8 : decode cX10_doesCarry 8 = .ok (.ifCond .ne 7, 3) := by decide +kernel
theorem dX10_doesCarry_11 : decode cX10_doesCarry 11 = .ok (.iconst 1, 1) := by decide +kernel
theorem dX10_doesCarry_12 : decode cX10_doesCarry 12 = .ok (.goto 4, 3) := by decide +kernel
theorem dX10_doesCarry_15 : decode cX10_doesCarry 15 = .ok (.iconst 0, 1) := by decide +kernel
theorem dX10_doesCarry_16 : decode cX10_doesCarry 16 = .ok (.ireturn, 1) := by decide +kernel
def f_X10_doesCarry (N : Nat) (ra : Nat → Int32) : Option (Int32) := ob (f_X10_heardIn N ra) (fun r1 => ob (f_X10_whyBy N ra r1) (fun r3 => if r3 = 0 then some (1 : Int32) else some (0 : Int32)))
set_option maxHeartbeats 4000000 in
set_option maxRecDepth 100000 in
theorem c_X10_doesCarry (l : Launch) (E : EE) (ra_h : Nat) (ra : Nat → Int32) (N : Nat) (res : Int32) (hv : f_X10_doesCarry N ra = some res) : Rd l E yX10_doesCarry cX10_doesCarry 1 (some .boolean) ({ frames := 5, cells := 0, slots := 0, locals := 108 }) [.ref ra_h] [ai E ra_h 42 ra] (some (.int res)) := by
  refine Rd.intro RX10 (by decide) rfl (Nat.le_of_ble_eq_true rfl) ?_
  intro p e s m below meth c ls hC hr hlk hP hG hl
  obtain ⟨hx, hb, hml, hown, ht⟩ := id hC
  have hK := hG.1
  have hl : lv_has ls 1 [(0, .ref ra_h)] := hl
  rw [f_X10_doesCarry] at hv
  refine lv_aload_n hx hb dX10_doesCarry_0 rfl (lv_at hl 0 rfl) ?_
  refine lv_aload_n hx hb dX10_doesCarry_1 rfl (lv_at hl 0 rfl) ?_
  obtain ⟨r1, h2, hv⟩ := ob_s hv
  refine rdS (rest := [.ref ra_h]) (st1 := [.int r1, .ref ra_h]) (w := [ai E ra_h 42 ra]) hC q_X10_heardIn kw_5_73 (c_X10_heardIn l E ra_h ra N r1 h2) ⟨rfl, rfl⟩ ⟨Nat.le_of_ble_eq_true rfl, Nat.le_of_ble_eq_true rfl⟩ ⟨Nat.zero_le _, Nat.zero_le _⟩ hP hG rfl hl.1 rfl (Nat.le_of_ble_eq_true rfl) dX10_doesCarry_2 rfl ?_
  obtain ⟨r3, h4, hv⟩ := ob_s hv
  refine rdS (rest := []) (st1 := [.int r3]) (w := [ai E ra_h 42 ra]) hC q_X10_whyBy kw_5_76 (c_X10_whyBy l E ra_h ra r1 N r3 h4) ⟨rfl, rfl⟩ ⟨Nat.le_of_ble_eq_true rfl, Nat.le_of_ble_eq_true rfl⟩ ⟨Nat.zero_le _, Nat.zero_le _⟩ hP hG rfl hl.1 rfl (Nat.le_of_ble_eq_true rfl) dX10_doesCarry_5 rfl ?_
  refine lv_if_ne (tgt := 15) hx hb dX10_doesCarry_8 (by decide) (fun c5 => ?_) (fun c5 => ?_)
  · have hv := if_n c5 hv
    refine lv_iconst (v := (0 : Int32)) hx hb dX10_doesCarry_15 (by decide) ?_
    exact W.zret (v := (0 : Int32)) hx hb hr rfl (fun t h9 _ => ⟨rv_i hv, h9⟩) (fun q h => absurd h List.not_mem_nil) dX10_doesCarry_16 hlk
  · have hv := if_y c5 hv
    refine lv_iconst (v := (1 : Int32)) hx hb dX10_doesCarry_11 (by decide) ?_
    refine lv_goto (tgt := 16) hx hb dX10_doesCarry_12 (by decide) ?_
    exact W.zret (v := (1 : Int32)) hx hb hr rfl (fun t h9 _ => ⟨rv_i hv, h9⟩) (fun q h => absurd h List.not_mem_nil) dX10_doesCarry_16 hlk
theorem dX10_forIn_0 : decode cX10_forIn 0 = .ok (.aload_n 0, 1) := by decide +kernel
theorem dX10_forIn_1 : decode cX10_forIn 1 = .ok (.aload_n 0, 1) := by decide +kernel
theorem dX10_forIn_2 : decode cX10_forIn 2 = .ok (.iconst 1, 1) := by decide +kernel
theorem dX10_forIn_3 : decode cX10_forIn 3 = .ok (.invokestatic 79, 3) := by decide +kernel
theorem dX10_forIn_6 : decode cX10_forIn 6 = .ok (.aload_n 0, 1) := by decide +kernel
theorem dX10_forIn_7 : decode cX10_forIn 7 = .ok (.invokestatic 92, 3) := by decide +kernel
theorem dX10_forIn_10 : decode cX10_forIn 10 = .ok (.iand, 1) := by decide +kernel
theorem dX10_forIn_11 : decode cX10_forIn 11 = .ok (.invokestatic 86, 3) := by decide +kernel
theorem dX10_forIn_14 : decode cX10_forIn 14 = .ok (.ireturn, 1) := by decide +kernel
def f_X10_forIn (N : Nat) (ra : Nat → Int32) : Option (Int32) := ob (f_X10_moodSet N ra (1 : Int32)) (fun r1 => ob (f_X10_heardIn N ra) (fun r3 => ob (f_X10_weightOf N ra (r1 &&& r3)) (fun r5 => some r5)))
set_option maxHeartbeats 4000000 in
set_option maxRecDepth 100000 in
theorem c_X10_forIn (l : Launch) (E : EE) (ra_h : Nat) (ra : Nat → Int32) (N : Nat) (res : Int32) (hv : f_X10_forIn N ra = some res) : Rd l E yX10_forIn cX10_forIn 1 (some .int) ({ frames := 4, cells := 0, slots := 0, locals := 86 }) [.ref ra_h] [ai E ra_h 42 ra] (some (.int res)) := by
  refine Rd.intro RX10 (by decide) rfl (Nat.le_of_ble_eq_true rfl) ?_
  intro p e s m below meth c ls hC hr hlk hP hG hl
  obtain ⟨hx, hb, hml, hown, ht⟩ := id hC
  have hK := hG.1
  have hl : lv_has ls 1 [(0, .ref ra_h)] := hl
  rw [f_X10_forIn] at hv
  refine lv_aload_n hx hb dX10_forIn_0 rfl (lv_at hl 0 rfl) ?_
  refine lv_aload_n hx hb dX10_forIn_1 rfl (lv_at hl 0 rfl) ?_
  refine lv_iconst (v := (1 : Int32)) hx hb dX10_forIn_2 (by decide) ?_
  obtain ⟨r1, h2, hv⟩ := ob_s hv
  refine rdS (rest := [.ref ra_h]) (st1 := [.int r1, .ref ra_h]) (w := [ai E ra_h 42 ra]) hC q_X10_moodSet kw_5_79 (c_X10_moodSet l E ra_h ra (1 : Int32) N r1 h2) ⟨rfl, rfl⟩ ⟨Nat.le_of_ble_eq_true rfl, Nat.le_of_ble_eq_true rfl⟩ ⟨Nat.zero_le _, Nat.zero_le _⟩ hP hG rfl hl.1 rfl (Nat.le_of_ble_eq_true rfl) dX10_forIn_3 rfl ?_
  refine lv_aload_n hx hb dX10_forIn_6 rfl (lv_at hl 0 rfl) ?_
  obtain ⟨r3, h4, hv⟩ := ob_s hv
  refine rdS (rest := [.int r1, .ref ra_h]) (st1 := [.int r3, .int r1, .ref ra_h]) (w := [ai E ra_h 42 ra]) hC q_X10_heardIn kw_5_73 (c_X10_heardIn l E ra_h ra N r3 h4) ⟨rfl, rfl⟩ ⟨Nat.le_of_ble_eq_true rfl, Nat.le_of_ble_eq_true rfl⟩ ⟨Nat.zero_le _, Nat.zero_le _⟩ hP hG rfl hl.1 rfl (Nat.le_of_ble_eq_true rfl) dX10_forIn_7 rfl ?_
  refine lv_iand hx hb dX10_forIn_10 ?_
  obtain ⟨r5, h6, hv⟩ := ob_s hv
  refine rdS (rest := []) (st1 := [.int r5]) (w := [ai E ra_h 42 ra]) hC q_X10_weightOf kw_5_85 (c_X10_weightOf l E ra_h ra (r1 &&& r3) N r5 h6) ⟨rfl, rfl⟩ ⟨Nat.le_of_ble_eq_true rfl, Nat.le_of_ble_eq_true rfl⟩ ⟨Nat.zero_le _, Nat.zero_le _⟩ hP hG rfl hl.1 rfl (Nat.le_of_ble_eq_true rfl) dX10_forIn_11 rfl ?_
  exact W.iret (v := r5) hx hb hr (fun t h9 _ => ⟨rv_i hv, h9⟩) (fun q h => absurd h List.not_mem_nil) dX10_forIn_14 hlk
theorem dX10_doesSee_0 : decode cX10_doesSee 0 = .ok (.aload_n 0, 1) := by decide +kernel
theorem dX10_doesSee_1 : decode cX10_doesSee 1 = .ok (.iload_n 1, 1) := by decide +kernel
theorem dX10_doesSee_2 : decode cX10_doesSee 2 = .ok (.invokestatic 73, 3) := by decide +kernel
theorem dX10_doesSee_5 : decode cX10_doesSee 5 = .ok (.aload_n 0, 1) := by decide +kernel
theorem dX10_doesSee_6 : decode cX10_doesSee 6 = .ok (.iload_n 2, 1) := by decide +kernel
theorem dX10_doesSee_7 : decode cX10_doesSee 7 = .ok (.invokestatic 73, 3) := by decide +kernel
theorem dX10_doesSee_10 : decode cX10_doesSee 10 = .ok (.if_icmp .eq 26, 3) := by decide +kernel
theorem dX10_doesSee_13 : decode cX10_doesSee 13 = .ok (.aload_n 0, 1) := by decide +kernel
theorem dX10_doesSee_14 : decode cX10_doesSee 14 = .ok (.iload_n 1, 1) := by decide +kernel
theorem dX10_doesSee_15 : decode cX10_doesSee 15 = .ok (.invokestatic 54, 3) := by decide +kernel
theorem dX10_doesSee_18 : decode cX10_doesSee 18 = .ok (.aload_n 0, 1) := by decide +kernel
theorem dX10_doesSee_19 : decode cX10_doesSee 19 = .ok (.iload_n 2, 1) := by decide +kernel
theorem dX10_doesSee_20 : decode cX10_doesSee 20 = .ok (.invokestatic 54, 3) := by decide +kernel
theorem dX10_doesSee_23 : decode cX10_doesSee 23 = .ok (.isub, 1) := by decide +kernel
theorem dX10_doesSee_24 : decode cX10_doesSee 24 = .ok (.iconst (-1), 1) := by decide +kernel
theorem dX10_doesSee_25 : decode cX10_doesSee 25 = .ok (.iconst 1, 1) := by decide +kernel
theorem dX10_doesSee_26 : decode cX10_doesSee 26 = .ok (.invokestatic 46, 3) := by decide +kernel
theorem dX10_doesSee_29 : decode cX10_doesSee 29 = .ok (.ifCond .eq 7, 3) := by decide +kernel
theorem dX10_doesSee_32 : decode cX10_doesSee 32 = .ok (.iconst 1, 1) := by decide +kernel
theorem dX10_doesSee_33 : decode cX10_doesSee 33 = .ok (.goto 4, 3) := by decide +kernel
theorem dX10_doesSee_36 : decode cX10_doesSee 36 = .ok (.iconst 0, 1) := by decide +kernel
theorem dX10_doesSee_37 : decode cX10_doesSee 37 = .ok (.ireturn, 1) := by decide +kernel
def f_X10_doesSee (ra : Nat → Int32) (p1 : Int32) (p2 : Int32) : Option (Int32) := ob (f_X10_sideOf ra p1) (fun r1 => ob (f_X10_sideOf ra p2) (fun r3 => if r1 = r3 then some (0 : Int32) else ob (f_X10_heightOf ra p1) (fun r6 => ob (f_X10_heightOf ra p2) (fun r8 => ob (f_X10_isIn (r6 - r8) (-1 : Int32) (1 : Int32)) (fun r10 => if r10 = 0 then some (0 : Int32) else some (1 : Int32))))))
set_option maxHeartbeats 4000000 in
set_option maxRecDepth 100000 in
theorem c_X10_doesSee (l : Launch) (E : EE) (ra_h : Nat) (ra : Nat → Int32) (p1 : Int32) (p2 : Int32) (res : Int32) (hv : f_X10_doesSee ra p1 p2 = some res) : Rd l E yX10_doesSee cX10_doesSee 3 (some .boolean) ({ frames := 2, cells := 0, slots := 0, locals := 42 }) [.ref ra_h, .int p1, .int p2] [ai E ra_h 42 ra] (some (.int res)) := by
  refine Rd.intro RX10 (by decide) rfl (Nat.le_of_ble_eq_true rfl) ?_
  intro p e s m below meth c ls hC hr hlk hP hG hl
  obtain ⟨hx, hb, hml, hown, ht⟩ := id hC
  have hK := hG.1
  have hl : lv_has ls 3 [(0, .ref ra_h), (1, .int p1), (2, .int p2)] := hl
  rw [f_X10_doesSee] at hv
  refine lv_aload_n hx hb dX10_doesSee_0 rfl (lv_at hl 0 rfl) ?_
  refine lv_iload_n hx hb dX10_doesSee_1 rfl (lv_at hl 1 rfl) ?_
  obtain ⟨r1, h2, hv⟩ := ob_s hv
  refine rdS (rest := []) (st1 := [.int r1]) (w := [ai E ra_h 42 ra]) hC q_X10_sideOf kw_5_11 (c_X10_sideOf l E ra_h ra p1 r1 h2) ⟨rfl, rfl⟩ ⟨Nat.le_of_ble_eq_true rfl, Nat.le_of_ble_eq_true rfl⟩ ⟨Nat.zero_le _, Nat.zero_le _⟩ hP hG rfl hl.1 rfl (Nat.le_of_ble_eq_true rfl) dX10_doesSee_2 rfl ?_
  refine lv_aload_n hx hb dX10_doesSee_5 rfl (lv_at hl 0 rfl) ?_
  refine lv_iload_n hx hb dX10_doesSee_6 rfl (lv_at hl 2 rfl) ?_
  obtain ⟨r3, h4, hv⟩ := ob_s hv
  refine rdS (rest := [.int r1]) (st1 := [.int r3, .int r1]) (w := [ai E ra_h 42 ra]) hC q_X10_sideOf kw_5_11 (c_X10_sideOf l E ra_h ra p2 r3 h4) ⟨rfl, rfl⟩ ⟨Nat.le_of_ble_eq_true rfl, Nat.le_of_ble_eq_true rfl⟩ ⟨Nat.zero_le _, Nat.zero_le _⟩ hP hG rfl hl.1 rfl (Nat.le_of_ble_eq_true rfl) dX10_doesSee_7 rfl ?_
  refine lv_icmp_eq (tgt := 36) hx hb dX10_doesSee_10 (by decide) (fun c5 => ?_) (fun c5 => ?_)
  · have hv := if_y c5 hv
    refine lv_iconst (v := (0 : Int32)) hx hb dX10_doesSee_36 (by decide) ?_
    exact W.zret (v := (0 : Int32)) hx hb hr rfl (fun t h9 _ => ⟨rv_i hv, h9⟩) (fun q h => absurd h List.not_mem_nil) dX10_doesSee_37 hlk
  · have hv := if_n c5 hv
    refine lv_aload_n hx hb dX10_doesSee_13 rfl (lv_at hl 0 rfl) ?_
    refine lv_iload_n hx hb dX10_doesSee_14 rfl (lv_at hl 1 rfl) ?_
    obtain ⟨r6, h7, hv⟩ := ob_s hv
    refine rdS (rest := []) (st1 := [.int r6]) (w := [ai E ra_h 42 ra]) hC q_X10_heightOf kw_5_14 (c_X10_heightOf l E ra_h ra p1 r6 h7) ⟨rfl, rfl⟩ ⟨Nat.le_of_ble_eq_true rfl, Nat.le_of_ble_eq_true rfl⟩ ⟨Nat.zero_le _, Nat.zero_le _⟩ hP hG rfl hl.1 rfl (Nat.le_of_ble_eq_true rfl) dX10_doesSee_15 rfl ?_
    refine lv_aload_n hx hb dX10_doesSee_18 rfl (lv_at hl 0 rfl) ?_
    refine lv_iload_n hx hb dX10_doesSee_19 rfl (lv_at hl 2 rfl) ?_
    obtain ⟨r8, h9, hv⟩ := ob_s hv
    refine rdS (rest := [.int r6]) (st1 := [.int r8, .int r6]) (w := [ai E ra_h 42 ra]) hC q_X10_heightOf kw_5_14 (c_X10_heightOf l E ra_h ra p2 r8 h9) ⟨rfl, rfl⟩ ⟨Nat.le_of_ble_eq_true rfl, Nat.le_of_ble_eq_true rfl⟩ ⟨Nat.zero_le _, Nat.zero_le _⟩ hP hG rfl hl.1 rfl (Nat.le_of_ble_eq_true rfl) dX10_doesSee_20 rfl ?_
    refine lv_isub hx hb dX10_doesSee_23 ?_
    refine lv_iconst (v := (-1 : Int32)) hx hb dX10_doesSee_24 (by decide) ?_
    refine lv_iconst (v := (1 : Int32)) hx hb dX10_doesSee_25 (by decide) ?_
    obtain ⟨r10, h11, hv⟩ := ob_s hv
    refine rdS (rest := []) (st1 := [.int r10]) (w := []) hC q_X10_isIn kw_4_200 (c_X10_isIn l E (r6 - r8) (-1 : Int32) (1 : Int32) r10 h11) ⟨rfl, rfl⟩ ⟨Nat.le_of_ble_eq_true rfl, Nat.le_of_ble_eq_true rfl⟩ ⟨Nat.zero_le _, Nat.zero_le _⟩ (hP.sub (ws' := []) [] rfl) hG rfl hl.1 rfl (Nat.le_of_ble_eq_true rfl) dX10_doesSee_26 rfl ?_
    refine lv_if_eq (tgt := 36) hx hb dX10_doesSee_29 (by decide) (fun c12 => ?_) (fun c12 => ?_)
    · have hv := if_y c12 hv
      refine lv_iconst (v := (0 : Int32)) hx hb dX10_doesSee_36 (by decide) ?_
      exact W.zret (v := (0 : Int32)) hx hb hr rfl (fun t h9 _ => ⟨rv_i hv, h9⟩) (fun q h => absurd h List.not_mem_nil) dX10_doesSee_37 hlk
    · have hv := if_n c12 hv
      refine lv_iconst (v := (1 : Int32)) hx hb dX10_doesSee_32 (by decide) ?_
      refine lv_goto (tgt := 37) hx hb dX10_doesSee_33 (by decide) ?_
      exact W.zret (v := (1 : Int32)) hx hb hr rfl (fun t h9 _ => ⟨rv_i hv, h9⟩) (fun q h => absurd h List.not_mem_nil) dX10_doesSee_37 hlk
theorem dX10_looks_0 : decode cX10_looks 0 = .ok (.iconst 0, 1) := by decide +kernel
theorem dX10_looks_1 : decode cX10_looks 1 = .ok (.istore_n 2, 1) := by decide +kernel
theorem dX10_looks_2 : decode cX10_looks 2 = .ok (.iconst 0, 1) := by decide +kernel
theorem dX10_looks_3 : decode cX10_looks 3 = .ok (.istore_n 3, 1) := by decide +kernel
theorem dX10_looks_4 : decode cX10_looks 4 = .ok (.iconst 0, 1) := by decide +kernel
theorem dX10_looks_5 : decode cX10_looks 5 = .ok (.istore 4, 2) := by decide +kernel
theorem dX10_looks_7 : decode cX10_looks 7 = .ok (.iload 4, 2) := by decide +kernel
theorem dX10_looks_9 : decode cX10_looks 9 = .ok (.aload_n 0, 1) := by decide +kernel
theorem dX10_looks_10 : decode cX10_looks 10 = .ok (.iconst 0, 1) := by decide +kernel
theorem dX10_looks_11 : decode cX10_looks 11 = .ok (.iaload, 1) := by decide +kernel
theorem dX10_looks_12 : decode cX10_looks 12 = .ok (.if_icmp .ge 45, 3) := by decide +kernel
theorem dX10_looks_15 : decode cX10_looks 15 = .ok (.aload_n 0, 1) := by decide +kernel
theorem dX10_looks_16 : decode cX10_looks 16 = .ok (.iload 4, 2) := by decide +kernel
theorem dX10_looks_18 : decode cX10_looks 18 = .ok (.invokestatic 66, 3) := by decide +kernel
theorem dX10_looks_21 : decode cX10_looks 21 = .ok (.ifCond .eq 30, 3) := by decide +kernel
theorem dX10_looks_24 : decode cX10_looks 24 = .ok (.aload_n 0, 1) := by decide +kernel
theorem dX10_looks_25 : decode cX10_looks 25 = .ok (.iload_n 1, 1) := by decide +kernel
theorem dX10_looks_26 : decode cX10_looks 26 = .ok (.iload 4, 2) := by decide +kernel
theorem dX10_looks_28 : decode cX10_looks 28 = .ok (.invokestatic 99, 3) := by decide +kernel
theorem dX10_looks_31 : decode cX10_looks 31 = .ok (.ifCond .ne 6, 3) := by decide +kernel
theorem dX10_looks_34 : decode cX10_looks 34 = .ok (.goto 17, 3) := by decide +kernel
theorem dX10_looks_37 : decode cX10_looks 37 = .ok (.iinc 2 1, 3) := by decide +kernel
theorem dX10_looks_40 : decode cX10_looks 40 = .ok (.iload_n 3, 1) := by decide +kernel
theorem dX10_looks_41 : decode cX10_looks 41 = .ok (.aload_n 0, 1) := by decide +kernel
theorem dX10_looks_42 : decode cX10_looks 42 = .ok (.iload 4, 2) := by decide +kernel
theorem dX10_looks_44 : decode cX10_looks 44 = .ok (.iconst 3, 1) := by decide +kernel
theorem dX10_looks_45 : decode cX10_looks 45 = .ok (.invokestatic 50, 3) := by decide +kernel
theorem dX10_looks_48 : decode cX10_looks 48 = .ok (.iaload, 1) := by decide +kernel
theorem dX10_looks_49 : decode cX10_looks 49 = .ok (.iadd, 1) := by decide +kernel
theorem dX10_looks_50 : decode cX10_looks 50 = .ok (.istore_n 3, 1) := by decide +kernel
theorem dX10_looks_51 : decode cX10_looks 51 = .ok (.iinc 4 1, 3) := by decide +kernel
theorem dX10_looks_54 : decode cX10_looks 54 = .ok (.goto (-47), 3) := by decide +kernel
theorem dX10_looks_57 : decode cX10_looks 57 = .ok (.iload_n 2, 1) := by decide +kernel
theorem dX10_looks_58 : decode cX10_looks 58 = .ok (.ifCond .ne 4, 3) := by decide +kernel
theorem dX10_looks_61 : decode cX10_looks 61 = .ok (.return_, 1) := by decide +kernel
theorem dX10_looks_62 : decode cX10_looks 62 = .ok (.iload_n 3, 1) := by decide +kernel
theorem dX10_looks_63 : decode cX10_looks 63 = .ok (.iload_n 2, 1) := by decide +kernel
theorem dX10_looks_64 : decode cX10_looks 64 = .ok (.idiv, 1) := by decide +kernel
theorem dX10_looks_65 : decode cX10_looks 65 = .ok (.istore 4, 2) := by decide +kernel
theorem dX10_looks_67 : decode cX10_looks 67 = .ok (.iload 4, 2) := by decide +kernel
theorem dX10_looks_69 : decode cX10_looks 69 = .ok (.aload_n 0, 1) := by decide +kernel
theorem dX10_looks_70 : decode cX10_looks 70 = .ok (.iload_n 1, 1) := by decide +kernel
theorem dX10_looks_71 : decode cX10_looks 71 = .ok (.iconst 3, 1) := by decide +kernel
theorem dX10_looks_72 : decode cX10_looks 72 = .ok (.invokestatic 50, 3) := by decide +kernel
theorem dX10_looks_75 : decode cX10_looks 75 = .ok (.iaload, 1) := by decide +kernel
theorem dX10_looks_76 : decode cX10_looks 76 = .ok (.isub, 1) := by decide +kernel
theorem dX10_looks_77 : decode cX10_looks 77 = .ok (.istore 5, 2) := by decide +kernel
theorem dX10_looks_79 : decode cX10_looks 79 = .ok (.aload_n 0, 1) := by decide +kernel
theorem dX10_looks_80 : decode cX10_looks 80 = .ok (.iload_n 1, 1) := by decide +kernel
theorem dX10_looks_81 : decode cX10_looks 81 = .ok (.iconst 0, 1) := by decide +kernel
theorem dX10_looks_82 : decode cX10_looks 82 = .ok (.invokestatic 50, 3) := by decide +kernel
theorem dX10_looks_85 : decode cX10_looks 85 = .ok (.iaload, 1) := by decide +kernel
theorem dX10_looks_86 : decode cX10_looks 86 = .ok (.aload_n 0, 1) := by decide +kernel
theorem dX10_looks_87 : decode cX10_looks 87 = .ok (.iload_n 1, 1) := by decide +kernel
theorem dX10_looks_88 : decode cX10_looks 88 = .ok (.iconst 1, 1) := by decide +kernel
theorem dX10_looks_89 : decode cX10_looks 89 = .ok (.invokestatic 50, 3) := by decide +kernel
theorem dX10_looks_92 : decode cX10_looks 92 = .ok (.iaload, 1) := by decide +kernel
theorem dX10_looks_93 : decode cX10_looks 93 = .ok (.invokestatic 102, 3) := by decide +kernel
theorem dX10_looks_96 : decode cX10_looks 96 = .ok (.istore 6, 2) := by decide +kernel
theorem dX10_looks_98 : decode cX10_looks 98 = .ok (.aload_n 0, 1) := by decide +kernel
theorem dX10_looks_99 : decode cX10_looks 99 = .ok (.iload_n 1, 1) := by decide +kernel
theorem dX10_looks_100 : decode cX10_looks 100 = .ok (.iconst 3, 1) := by decide +kernel
theorem dX10_looks_101 : decode cX10_looks 101 = .ok (.invokestatic 50, 3) := by decide +kernel
theorem dX10_looks_104 : decode cX10_looks 104 = .ok (.dup2, 1) := by decide +kernel
theorem dX10_looks_105 : decode cX10_looks 105 = .ok (.iaload, 1) := by decide +kernel
theorem dX10_looks_106 : decode cX10_looks 106 = .ok (.iload 5, 2) := by decide +kernel
theorem dX10_looks_108 : decode cX10_looks 108 = .ok (.iload 6, 2) := by decide +kernel
theorem dX10_looks_110 : decode cX10_looks 110 = .ok (.if_icmp .le 8, 3) := by decide +kernel
theorem dX10_looks_113 : decode cX10_looks 113 = .ok (.iload 6, 2) := by decide +kernel
theorem dX10_looks_115 : decode cX10_looks 115 = .ok (.goto 19, 3) := by decide +kernel
theorem dX10_looks_118 : decode cX10_looks 118 = .ok (.iload 5, 2) := by decide +kernel
theorem dX10_looks_120 : decode cX10_looks 120 = .ok (.iload 6, 2) := by decide +kernel
theorem dX10_looks_122 : decode cX10_looks 122 = .ok (.ineg, 1) := by decide +kernel
theorem dX10_looks_123 : decode cX10_looks 123 = .ok (.if_icmp .ge 9, 3) := by decide +kernel
theorem dX10_looks_126 : decode cX10_looks 126 = .ok (.iload 6, 2) := by decide +kernel
theorem dX10_looks_128 : decode cX10_looks 128 = .ok (.ineg, 1) := by decide +kernel
theorem dX10_looks_129 : decode cX10_looks 129 = .ok (.goto 5, 3) := by decide +kernel
theorem dX10_looks_132 : decode cX10_looks 132 = .ok (.iload 5, 2) := by decide +kernel
theorem dX10_looks_134 : decode cX10_looks 134 = .ok (.iadd, 1) := by decide +kernel
theorem dX10_looks_135 : decode cX10_looks 135 = .ok (.iastore, 1) := by decide +kernel
theorem dX10_looks_136 : decode cX10_looks 136 = .ok (.return_, 1) := by decide +kernel
def L_X10_looks_7 (ra : Nat → Int32) (p1 : Int32) : Nat → Int32 → Int32 → Int32 → Option ((Nat → Int32))
  | 0, _, _, _ => none
  | n7 + 1, x1, x2, x3 => if (ra 0) ≤ x1 then if x3 = 0 then some ra else gd (nz x3) (ob (f_X10_of p1 (3 : Int32)) (fun r7 => gd (ix r7 42) (nm ((x2 / x3) - (ra r7.toNatClampNeg)) (fun z10 => ob (f_X10_of p1 (0 : Int32)) (fun r11 => gd (ix r11 42) (ob (f_X10_of p1 (1 : Int32)) (fun r14 => gd (ix r14 42) (ob (f_X10_swayBy (ra r11.toNatClampNeg) (ra r14.toNatClampNeg)) (fun r17 => ob (f_X10_of p1 (3 : Int32)) (fun r19 => gd (ix r19 42) (if z10 ≤ r17 then if (-r17) ≤ z10 then gd (ix r19 42) (nm (upd ra r19.toNatClampNeg ((ra r19.toNatClampNeg) + z10)) (fun f25 => some f25)) else gd (ix r19 42) (nm (upd ra r19.toNatClampNeg ((ra r19.toNatClampNeg) + (-r17))) (fun f27 => some f27)) else gd (ix r19 42) (nm (upd ra r19.toNatClampNeg ((ra r19.toNatClampNeg) + r17)) (fun f29 => some f29))))))))))))) else ob (f_X10_isHeard ra x1) (fun r30 => if r30 = 0 then L_X10_looks_7 ra p1 n7 (x1 + (1 : Int32)) x2 x3 else ob (f_X10_doesSee ra p1 x1) (fun r33 => if r33 = 0 then L_X10_looks_7 ra p1 n7 (x1 + (1 : Int32)) x2 x3 else ob (f_X10_of x1 (3 : Int32)) (fun r36 => gd (ix r36 42) (L_X10_looks_7 ra p1 n7 (x1 + (1 : Int32)) (x2 + (ra r36.toNatClampNeg)) (x3 + (1 : Int32))))))
def f_X10_looks (N : Nat) (ra : Nat → Int32) (p1 : Int32) : Option ((Nat → Int32)) := L_X10_looks_7 ra p1 N (0 : Int32) (0 : Int32) (0 : Int32)
set_option maxHeartbeats 4000000 in
set_option maxRecDepth 100000 in
theorem c_X10_looks (l : Launch) (E : EE) (ra_h : Nat) (ra : Nat → Int32) (p1 : Int32) (N : Nat) (w_ra : Nat → Int32) (hv : f_X10_looks N ra p1 = some w_ra) : Wr l E yX10_looks cX10_looks 7 none ({ frames := 3, cells := 0, slots := 0, locals := 64 }) [.ref ra_h, .int p1] [ai E ra_h 42 ra] [ai E ra_h 42 w_ra] none := by
  refine Wr.intro RX10 (by decide) rfl (Nat.le_of_ble_eq_true rfl) ?_
  intro p e s m below meth c ls A hC hr hlk hmn hP hD hS hA hG hl
  obtain ⟨hx, hb, hml, hown, ht⟩ := id hC
  have hK := hG.1
  have hl : lv_has ls 7 [(0, .ref ra_h), (1, .int p1)] := hl
  rw [f_X10_looks] at hv
  refine lv_iconst (v := (0 : Int32)) hx hb dX10_looks_0 (by decide) ?_
  refine lv_istore_n (lv' := [(2, .int (0 : Int32)), (0, .ref ra_h), (1, .int p1)]) hx hb dX10_looks_1 rfl hl (by decide) rfl (fun ls hl => ?_)
  refine lv_iconst (v := (0 : Int32)) hx hb dX10_looks_2 (by decide) ?_
  refine lv_istore_n (lv' := [(3, .int (0 : Int32)), (2, .int (0 : Int32)), (0, .ref ra_h), (1, .int p1)]) hx hb dX10_looks_3 rfl hl (by decide) rfl (fun ls hl => ?_)
  refine lv_iconst (v := (0 : Int32)) hx hb dX10_looks_4 (by decide) ?_
  refine lv_istore (lv' := [(4, .int (0 : Int32)), (3, .int (0 : Int32)), (2, .int (0 : Int32)), (0, .ref ra_h), (1, .int p1)]) hx hb dX10_looks_5 hl (by decide) rfl (fun ls hl => ?_)
  have hL7 : ∀ (n : Nat) (x1 : Int32) (x2 : Int32) (x3 : Int32) (H : Heap) (locs : List Loc) (ls : Array Slot), va_P E.1 vwCl [ai E ra_h 42 ra] H → va_D A [ai E ra_h 42 ra] → va_S A s.heap H locs → lv_has ls 7 [(4, .int x1), (3, .int x2), (2, .int x3), (0, .ref ra_h), (1, .int p1)] → L_X10_looks_7 ra p1 n x1 x2 x3 = some w_ra → W p l e ({ frames := 3, cells := 0, slots := 0, locals := 64 }) s m [.ref ra_h, .int p1].toArray below meth c H locs 0 0 (MQ below (fun _ st oc t => oc = .returned none ∧ va_P E.1 vwCl [ai E ra_h 42 w_ra] t.heap ∧ va_F A st t) [.ref ra_h, .int p1].toArray s 0 0 A) (F0 m 7 ls []) := by
    intro n
    induction n with
    | zero => intro x1 x2 x3 H locs ls hP hD hS hl hv; cases hv
    | succ n7 ih7 =>
      intro x1 x2 x3 H locs ls hP hD hS hl hv
      rw [L_X10_looks_7] at hv
      refine lv_iload hx hb dX10_looks_7 (lv_at hl 0 rfl) ?_
      refine lv_aload_n hx hb dX10_looks_9 rfl (lv_at hl 3 rfl) ?_
      refine lv_iconst (v := (0 : Int32)) hx hb dX10_looks_10 (by decide) ?_
      refine va_iald hx hb hK hP 0 0 rfl rfl (ix_s (by decide)) dX10_looks_11 ?_
      refine W.eq (g2 := F0 m 12 ls [.int (ra 0), .int x1]) rfl ?_
      refine lv_icmp_ge (tgt := 57) hx hb dX10_looks_12 (by decide) (fun c4 => ?_) (fun c4 => ?_)
      · have hv := if_y c4 hv
        refine lv_iload_n hx hb dX10_looks_57 rfl (lv_at hl 2 rfl) ?_
        refine lv_if_ne (tgt := 62) hx hb dX10_looks_58 (by decide) (fun c5 => ?_) (fun c5 => ?_)
        · have hv := if_n c5 hv
          refine lv_iload_n hx hb dX10_looks_62 rfl (lv_at hl 1 rfl) ?_
          refine lv_iload_n hx hb dX10_looks_63 rfl (lv_at hl 2 rfl) ?_
          obtain ⟨g6, hv⟩ := gd_s hv
          refine lv_idiv hx hb dX10_looks_64 (nz_s g6) ?_
          refine lv_istore (lv' := [(4, .int (x2 / x3)), (3, .int x2), (2, .int x3), (0, .ref ra_h), (1, .int p1)]) hx hb dX10_looks_65 hl (by decide) rfl (fun ls hl => ?_)
          refine lv_iload hx hb dX10_looks_67 (lv_at hl 0 rfl) ?_
          refine lv_aload_n hx hb dX10_looks_69 rfl (lv_at hl 3 rfl) ?_
          refine lv_iload_n hx hb dX10_looks_70 rfl (lv_at hl 4 rfl) ?_
          refine lv_iconst (v := (3 : Int32)) hx hb dX10_looks_71 (by decide) ?_
          obtain ⟨r7, h8, hv⟩ := ob_s hv
          refine rdS (rest := [.ref ra_h, .int (x2 / x3)]) (st1 := [.int r7, .ref ra_h, .int (x2 / x3)]) (w := []) hC q_X10_of kw_4_226 (c_X10_of l E p1 (3 : Int32) r7 h8) ⟨rfl, rfl⟩ ⟨Nat.le_of_ble_eq_true rfl, Nat.le_of_ble_eq_true rfl⟩ ⟨Nat.zero_le _, Nat.zero_le _⟩ (hP.sub (ws' := []) [] rfl) hG rfl hl.1 rfl (Nat.le_of_ble_eq_true rfl) dX10_looks_72 rfl ?_
          obtain ⟨g9, hv⟩ := gd_s hv
          refine va_iald hx hb hK hP 0 0 rfl rfl (ix_s g9) dX10_looks_75 ?_
          refine lv_isub hx hb dX10_looks_76 ?_
          refine lv_topi (fun z10 ez10 => ?_)
          have hv := nm_s ez10 hv
          refine lv_istore (lv' := [(5, .int z10), (4, .int (x2 / x3)), (3, .int x2), (2, .int x3), (0, .ref ra_h), (1, .int p1)]) hx hb dX10_looks_77 hl (by decide) rfl (fun ls hl => ?_)
          refine lv_aload_n hx hb dX10_looks_79 rfl (lv_at hl 4 rfl) ?_
          refine lv_iload_n hx hb dX10_looks_80 rfl (lv_at hl 5 rfl) ?_
          refine lv_iconst (v := (0 : Int32)) hx hb dX10_looks_81 (by decide) ?_
          obtain ⟨r11, h12, hv⟩ := ob_s hv
          refine rdS (rest := [.ref ra_h]) (st1 := [.int r11, .ref ra_h]) (w := []) hC q_X10_of kw_4_226 (c_X10_of l E p1 (0 : Int32) r11 h12) ⟨rfl, rfl⟩ ⟨Nat.le_of_ble_eq_true rfl, Nat.le_of_ble_eq_true rfl⟩ ⟨Nat.zero_le _, Nat.zero_le _⟩ (hP.sub (ws' := []) [] rfl) hG rfl hl.1 rfl (Nat.le_of_ble_eq_true rfl) dX10_looks_82 rfl ?_
          obtain ⟨g13, hv⟩ := gd_s hv
          refine va_iald hx hb hK hP 0 0 rfl rfl (ix_s g13) dX10_looks_85 ?_
          refine lv_aload_n hx hb dX10_looks_86 rfl (lv_at hl 4 rfl) ?_
          refine lv_iload_n hx hb dX10_looks_87 rfl (lv_at hl 5 rfl) ?_
          refine lv_iconst (v := (1 : Int32)) hx hb dX10_looks_88 (by decide) ?_
          obtain ⟨r14, h15, hv⟩ := ob_s hv
          refine rdS (rest := [.ref ra_h, .int (ra r11.toNatClampNeg)]) (st1 := [.int r14, .ref ra_h, .int (ra r11.toNatClampNeg)]) (w := []) hC q_X10_of kw_4_226 (c_X10_of l E p1 (1 : Int32) r14 h15) ⟨rfl, rfl⟩ ⟨Nat.le_of_ble_eq_true rfl, Nat.le_of_ble_eq_true rfl⟩ ⟨Nat.zero_le _, Nat.zero_le _⟩ (hP.sub (ws' := []) [] rfl) hG rfl hl.1 rfl (Nat.le_of_ble_eq_true rfl) dX10_looks_89 rfl ?_
          obtain ⟨g16, hv⟩ := gd_s hv
          refine va_iald hx hb hK hP 0 0 rfl rfl (ix_s g16) dX10_looks_92 ?_
          obtain ⟨r17, h18, hv⟩ := ob_s hv
          refine rdS (rest := []) (st1 := [.int r17]) (w := []) hC q_X10_swayBy kw_5_17 (c_X10_swayBy l E (ra r11.toNatClampNeg) (ra r14.toNatClampNeg) r17 h18) ⟨rfl, rfl⟩ ⟨Nat.le_of_ble_eq_true rfl, Nat.le_of_ble_eq_true rfl⟩ ⟨Nat.zero_le _, Nat.zero_le _⟩ (hP.sub (ws' := []) [] rfl) hG rfl hl.1 rfl (Nat.le_of_ble_eq_true rfl) dX10_looks_93 rfl ?_
          refine lv_istore (lv' := [(6, .int r17), (5, .int z10), (4, .int (x2 / x3)), (3, .int x2), (2, .int x3), (0, .ref ra_h), (1, .int p1)]) hx hb dX10_looks_96 hl (by decide) rfl (fun ls hl => ?_)
          refine lv_aload_n hx hb dX10_looks_98 rfl (lv_at hl 5 rfl) ?_
          refine lv_iload_n hx hb dX10_looks_99 rfl (lv_at hl 6 rfl) ?_
          refine lv_iconst (v := (3 : Int32)) hx hb dX10_looks_100 (by decide) ?_
          obtain ⟨r19, h20, hv⟩ := ob_s hv
          refine rdS (rest := [.ref ra_h]) (st1 := [.int r19, .ref ra_h]) (w := []) hC q_X10_of kw_4_226 (c_X10_of l E p1 (3 : Int32) r19 h20) ⟨rfl, rfl⟩ ⟨Nat.le_of_ble_eq_true rfl, Nat.le_of_ble_eq_true rfl⟩ ⟨Nat.zero_le _, Nat.zero_le _⟩ (hP.sub (ws' := []) [] rfl) hG rfl hl.1 rfl (Nat.le_of_ble_eq_true rfl) dX10_looks_101 rfl ?_
          refine lv_dup2_11 hx hb dX10_looks_104 rfl rfl ?_
          obtain ⟨g21, hv⟩ := gd_s hv
          refine va_iald hx hb hK hP 0 0 rfl rfl (ix_s g21) dX10_looks_105 ?_
          refine lv_iload hx hb dX10_looks_106 (lv_at hl 1 rfl) ?_
          refine lv_iload hx hb dX10_looks_108 (lv_at hl 0 rfl) ?_
          refine lv_icmp_le (tgt := 118) hx hb dX10_looks_110 (by decide) (fun c22 => ?_) (fun c22 => ?_)
          · have hv := if_y c22 hv
            refine lv_iload hx hb dX10_looks_118 (lv_at hl 1 rfl) ?_
            refine lv_iload hx hb dX10_looks_120 (lv_at hl 0 rfl) ?_
            refine lv_ineg hx hb dX10_looks_122 ?_
            refine lv_icmp_ge (tgt := 132) hx hb dX10_looks_123 (by decide) (fun c23 => ?_) (fun c23 => ?_)
            · have hv := if_y c23 hv
              refine lv_iload hx hb dX10_looks_132 (lv_at hl 1 rfl) ?_
              refine lv_iadd hx hb dX10_looks_134 ?_
              obtain ⟨g24, hv⟩ := gd_s hv
              refine va_iast hx hb hK hP hD hS 0 0 rfl rfl (ix_s g24) dX10_looks_135 (fun H locs hP hD hS => ?_)
              have hP : va_P E.1 vwCl [ai E ra_h 42 (upd ra r19.toNatClampNeg ((ra r19.toNatClampNeg) + z10))] H := hP
              have hD : va_D A [ai E ra_h 42 (upd ra r19.toNatClampNeg ((ra r19.toNatClampNeg) + z10))] := hD
              obtain ⟨f25, ef25⟩ : ∃ z, z = (upd ra r19.toNatClampNeg ((ra r19.toNatClampNeg) + z10)) := ⟨_, rfl⟩
              rw [← ef25] at hP hD
              have hv := nm_s ef25 hv
              cases hv
              exact W.vret hx hb hr (fun t h9 _ => ⟨rfl, by rw [h9]; exact hP, hS.F h9⟩) hS.2.2 dX10_looks_136 hlk
            · have hv := if_n c23 hv
              refine lv_iload hx hb dX10_looks_126 (lv_at hl 0 rfl) ?_
              refine lv_ineg hx hb dX10_looks_128 ?_
              refine lv_goto (tgt := 134) hx hb dX10_looks_129 (by decide) ?_
              refine lv_iadd hx hb dX10_looks_134 ?_
              obtain ⟨g26, hv⟩ := gd_s hv
              refine va_iast hx hb hK hP hD hS 0 0 rfl rfl (ix_s g26) dX10_looks_135 (fun H locs hP hD hS => ?_)
              have hP : va_P E.1 vwCl [ai E ra_h 42 (upd ra r19.toNatClampNeg ((ra r19.toNatClampNeg) + (-r17)))] H := hP
              have hD : va_D A [ai E ra_h 42 (upd ra r19.toNatClampNeg ((ra r19.toNatClampNeg) + (-r17)))] := hD
              obtain ⟨f27, ef27⟩ : ∃ z, z = (upd ra r19.toNatClampNeg ((ra r19.toNatClampNeg) + (-r17))) := ⟨_, rfl⟩
              rw [← ef27] at hP hD
              have hv := nm_s ef27 hv
              cases hv
              exact W.vret hx hb hr (fun t h9 _ => ⟨rfl, by rw [h9]; exact hP, hS.F h9⟩) hS.2.2 dX10_looks_136 hlk
          · have hv := if_n c22 hv
            refine lv_iload hx hb dX10_looks_113 (lv_at hl 0 rfl) ?_
            refine lv_goto (tgt := 134) hx hb dX10_looks_115 (by decide) ?_
            refine lv_iadd hx hb dX10_looks_134 ?_
            obtain ⟨g28, hv⟩ := gd_s hv
            refine va_iast hx hb hK hP hD hS 0 0 rfl rfl (ix_s g28) dX10_looks_135 (fun H locs hP hD hS => ?_)
            have hP : va_P E.1 vwCl [ai E ra_h 42 (upd ra r19.toNatClampNeg ((ra r19.toNatClampNeg) + r17))] H := hP
            have hD : va_D A [ai E ra_h 42 (upd ra r19.toNatClampNeg ((ra r19.toNatClampNeg) + r17))] := hD
            obtain ⟨f29, ef29⟩ : ∃ z, z = (upd ra r19.toNatClampNeg ((ra r19.toNatClampNeg) + r17)) := ⟨_, rfl⟩
            rw [← ef29] at hP hD
            have hv := nm_s ef29 hv
            cases hv
            exact W.vret hx hb hr (fun t h9 _ => ⟨rfl, by rw [h9]; exact hP, hS.F h9⟩) hS.2.2 dX10_looks_136 hlk
        · have hv := if_y c5 hv
          cases hv
          exact W.vret hx hb hr (fun t h9 _ => ⟨rfl, by rw [h9]; exact hP, hS.F h9⟩) hS.2.2 dX10_looks_61 hlk
      · have hv := if_n c4 hv
        refine lv_aload_n hx hb dX10_looks_15 rfl (lv_at hl 3 rfl) ?_
        refine lv_iload hx hb dX10_looks_16 (lv_at hl 0 rfl) ?_
        obtain ⟨r30, h31, hv⟩ := ob_s hv
        refine rdS (rest := []) (st1 := [.int r30]) (w := [ai E ra_h 42 ra]) hC q_X10_isHeard kw_5_2 (c_X10_isHeard l E ra_h ra x1 r30 h31) ⟨rfl, rfl⟩ ⟨Nat.le_of_ble_eq_true rfl, Nat.le_of_ble_eq_true rfl⟩ ⟨Nat.zero_le _, Nat.zero_le _⟩ hP hG rfl hl.1 rfl (Nat.le_of_ble_eq_true rfl) dX10_looks_18 rfl ?_
        refine lv_if_eq (tgt := 51) hx hb dX10_looks_21 (by decide) (fun c32 => ?_) (fun c32 => ?_)
        · have hv := if_y c32 hv
          refine lv_iinc (v := (x1 + (1 : Int32))) (lv' := [(4, .int (x1 + (1 : Int32))), (3, .int x2), (2, .int x3), (0, .ref ra_h), (1, .int p1)]) hx hb dX10_looks_51 hl (k := 0) rfl rfl (by decide) rfl (fun ls hl => ?_)
          refine lv_goto (tgt := 7) hx hb dX10_looks_54 (by decide) ?_
          exact ih7 (x1 + (1 : Int32)) x2 x3 _ _ _ hP hD hS (lv_sub hl [0, 1, 2, 3, 4] rfl) hv
        · have hv := if_n c32 hv
          refine lv_aload_n hx hb dX10_looks_24 rfl (lv_at hl 3 rfl) ?_
          refine lv_iload_n hx hb dX10_looks_25 rfl (lv_at hl 4 rfl) ?_
          refine lv_iload hx hb dX10_looks_26 (lv_at hl 0 rfl) ?_
          obtain ⟨r33, h34, hv⟩ := ob_s hv
          refine rdS (rest := []) (st1 := [.int r33]) (w := [ai E ra_h 42 ra]) hC q_X10_doesSee kw_5_8 (c_X10_doesSee l E ra_h ra p1 x1 r33 h34) ⟨rfl, rfl⟩ ⟨Nat.le_of_ble_eq_true rfl, Nat.le_of_ble_eq_true rfl⟩ ⟨Nat.zero_le _, Nat.zero_le _⟩ hP hG rfl hl.1 rfl (Nat.le_of_ble_eq_true rfl) dX10_looks_28 rfl ?_
          refine lv_if_ne (tgt := 37) hx hb dX10_looks_31 (by decide) (fun c35 => ?_) (fun c35 => ?_)
          · have hv := if_n c35 hv
            refine lv_iinc (v := (x3 + (1 : Int32))) (lv' := [(2, .int (x3 + (1 : Int32))), (4, .int x1), (3, .int x2), (0, .ref ra_h), (1, .int p1)]) hx hb dX10_looks_37 hl (k := 2) rfl rfl (by decide) rfl (fun ls hl => ?_)
            refine lv_iload_n hx hb dX10_looks_40 rfl (lv_at hl 2 rfl) ?_
            refine lv_aload_n hx hb dX10_looks_41 rfl (lv_at hl 3 rfl) ?_
            refine lv_iload hx hb dX10_looks_42 (lv_at hl 1 rfl) ?_
            refine lv_iconst (v := (3 : Int32)) hx hb dX10_looks_44 (by decide) ?_
            obtain ⟨r36, h37, hv⟩ := ob_s hv
            refine rdS (rest := [.ref ra_h, .int x2]) (st1 := [.int r36, .ref ra_h, .int x2]) (w := []) hC q_X10_of kw_4_226 (c_X10_of l E x1 (3 : Int32) r36 h37) ⟨rfl, rfl⟩ ⟨Nat.le_of_ble_eq_true rfl, Nat.le_of_ble_eq_true rfl⟩ ⟨Nat.zero_le _, Nat.zero_le _⟩ (hP.sub (ws' := []) [] rfl) hG rfl hl.1 rfl (Nat.le_of_ble_eq_true rfl) dX10_looks_45 rfl ?_
            obtain ⟨g38, hv⟩ := gd_s hv
            refine va_iald hx hb hK hP 0 0 rfl rfl (ix_s g38) dX10_looks_48 ?_
            refine lv_iadd hx hb dX10_looks_49 ?_
            refine lv_istore_n (lv' := [(3, .int (x2 + (ra r36.toNatClampNeg))), (2, .int (x3 + (1 : Int32))), (4, .int x1), (0, .ref ra_h), (1, .int p1)]) hx hb dX10_looks_50 rfl hl (by decide) rfl (fun ls hl => ?_)
            refine lv_iinc (v := (x1 + (1 : Int32))) (lv' := [(4, .int (x1 + (1 : Int32))), (3, .int (x2 + (ra r36.toNatClampNeg))), (2, .int (x3 + (1 : Int32))), (0, .ref ra_h), (1, .int p1)]) hx hb dX10_looks_51 hl (k := 2) rfl rfl (by decide) rfl (fun ls hl => ?_)
            refine lv_goto (tgt := 7) hx hb dX10_looks_54 (by decide) ?_
            exact ih7 (x1 + (1 : Int32)) (x2 + (ra r36.toNatClampNeg)) (x3 + (1 : Int32)) _ _ _ hP hD hS (lv_sub hl [0, 1, 2, 3, 4] rfl) hv
          · have hv := if_y c35 hv
            refine lv_goto (tgt := 51) hx hb dX10_looks_34 (by decide) ?_
            refine lv_iinc (v := (x1 + (1 : Int32))) (lv' := [(4, .int (x1 + (1 : Int32))), (3, .int x2), (2, .int x3), (0, .ref ra_h), (1, .int p1)]) hx hb dX10_looks_51 hl (k := 0) rfl rfl (by decide) rfl (fun ls hl => ?_)
            refine lv_goto (tgt := 7) hx hb dX10_looks_54 (by decide) ?_
            exact ih7 (x1 + (1 : Int32)) x2 x3 _ _ _ hP hD hS (lv_sub hl [0, 1, 2, 3, 4] rfl) hv
  exact hL7 N (0 : Int32) (0 : Int32) (0 : Int32) _ _ _ hP hD hS (lv_sub hl [0, 1, 2, 3, 4] rfl) hv
theorem dX10_day_0 : decode cX10_day 0 = .ok (.aload_n 0, 1) := by decide +kernel
theorem dX10_day_1 : decode cX10_day 1 = .ok (.iconst 1, 1) := by decide +kernel
theorem dX10_day_2 : decode cX10_day 2 = .ok (.dup2, 1) := by decide +kernel
theorem dX10_day_3 : decode cX10_day 3 = .ok (.iaload, 1) := by decide +kernel
theorem dX10_day_4 : decode cX10_day 4 = .ok (.iconst 1, 1) := by decide +kernel
theorem dX10_day_5 : decode cX10_day 5 = .ok (.iadd, 1) := by decide +kernel
theorem dX10_day_6 : decode cX10_day 6 = .ok (.iastore, 1) := by decide +kernel
theorem dX10_day_7 : decode cX10_day 7 = .ok (.iconst 0, 1) := by decide +kernel
theorem dX10_day_8 : decode cX10_day 8 = .ok (.istore_n 1, 1) := by decide +kernel
theorem dX10_day_9 : decode cX10_day 9 = .ok (.iload_n 1, 1) := by decide +kernel
theorem dX10_day_10 : decode cX10_day 10 = .ok (.aload_n 0, 1) := by decide +kernel
theorem dX10_day_11 : decode cX10_day 11 = .ok (.iconst 0, 1) := by decide +kernel
theorem dX10_day_12 : decode cX10_day 12 = .ok (.iaload, 1) := by decide +kernel
theorem dX10_day_13 : decode cX10_day 13 = .ok (.if_icmp .ge 14, 3) := by decide +kernel
theorem dX10_day_16 : decode cX10_day 16 = .ok (.aload_n 0, 1) := by decide +kernel
theorem dX10_day_17 : decode cX10_day 17 = .ok (.iload_n 1, 1) := by decide +kernel
theorem dX10_day_18 : decode cX10_day 18 = .ok (.invokestatic 105, 3) := by decide +kernel
theorem dX10_day_21 : decode cX10_day 21 = .ok (.iinc 1 1, 3) := by decide +kernel
theorem dX10_day_24 : decode cX10_day 24 = .ok (.goto (-15), 3) := by decide +kernel
theorem dX10_day_27 : decode cX10_day 27 = .ok (.return_, 1) := by decide +kernel
def L_X10_day_9 (N : Nat) : Nat → Int32 → (Nat → Int32) → Option ((Nat → Int32))
  | 0, _, _ => none
  | n9 + 1, x2, y3 => if (y3 0) ≤ x2 then some y3 else ob (f_X10_looks N y3 x2) (fun y5 => L_X10_day_9 N n9 (x2 + (1 : Int32)) y5)
def f_X10_day (N : Nat) (ra : Nat → Int32) : Option ((Nat → Int32)) := nm (upd ra 1 ((ra 1) + (1 : Int32))) (fun f1 => L_X10_day_9 N N (0 : Int32) f1)
set_option maxHeartbeats 4000000 in
set_option maxRecDepth 100000 in
theorem c_X10_day (l : Launch) (E : EE) (ra_h : Nat) (ra : Nat → Int32) (N : Nat) (w_ra : Nat → Int32) (hv : f_X10_day N ra = some w_ra) : Wr l E yX10_day cX10_day 2 none ({ frames := 4, cells := 0, slots := 0, locals := 90 }) [.ref ra_h] [ai E ra_h 42 ra] [ai E ra_h 42 w_ra] none := by
  refine Wr.intro RX10 (by decide) rfl (Nat.le_of_ble_eq_true rfl) ?_
  intro p e s m below meth c ls A hC hr hlk hmn hP hD hS hA hG hl
  obtain ⟨hx, hb, hml, hown, ht⟩ := id hC
  have hK := hG.1
  have hl : lv_has ls 2 [(0, .ref ra_h)] := hl
  rw [f_X10_day] at hv
  refine lv_aload_n hx hb dX10_day_0 rfl (lv_at hl 0 rfl) ?_
  refine lv_iconst (v := (1 : Int32)) hx hb dX10_day_1 (by decide) ?_
  refine lv_dup2_11 hx hb dX10_day_2 rfl rfl ?_
  refine va_iald hx hb hK hP 0 0 rfl rfl (ix_s (by decide)) dX10_day_3 ?_
  refine W.eq (g2 := F0 m 4 ls [.int (ra 1), .int (1 : Int32), .ref ra_h]) rfl ?_
  refine lv_iconst (v := (1 : Int32)) hx hb dX10_day_4 (by decide) ?_
  refine lv_iadd hx hb dX10_day_5 ?_
  refine va_iast hx hb hK hP hD hS 0 0 rfl rfl (ix_s (by decide)) dX10_day_6 (fun H locs hP hD hS => ?_)
  have hP : va_P E.1 vwCl [ai E ra_h 42 (upd ra 1 ((ra 1) + (1 : Int32)))] H := hP
  have hD : va_D A [ai E ra_h 42 (upd ra 1 ((ra 1) + (1 : Int32)))] := hD
  obtain ⟨f1, ef1⟩ : ∃ z, z = (upd ra 1 ((ra 1) + (1 : Int32))) := ⟨_, rfl⟩
  rw [← ef1] at hP hD
  have hv := nm_s ef1 hv
  refine lv_iconst (v := (0 : Int32)) hx hb dX10_day_7 (by decide) ?_
  refine lv_istore_n (lv' := [(1, .int (0 : Int32)), (0, .ref ra_h)]) hx hb dX10_day_8 rfl hl (by decide) rfl (fun ls hl => ?_)
  have hL9 : ∀ (n : Nat) (x2 : Int32) (y3 : Nat → Int32) (H : Heap) (locs : List Loc) (ls : Array Slot), va_P E.1 vwCl [ai E ra_h 42 y3] H → va_D A [ai E ra_h 42 y3] → va_S A s.heap H locs → lv_has ls 2 [(1, .int x2), (0, .ref ra_h)] → L_X10_day_9 N n x2 y3 = some w_ra → W p l e ({ frames := 4, cells := 0, slots := 0, locals := 90 }) s m [.ref ra_h].toArray below meth c H locs 0 0 (MQ below (fun _ st oc t => oc = .returned none ∧ va_P E.1 vwCl [ai E ra_h 42 w_ra] t.heap ∧ va_F A st t) [.ref ra_h].toArray s 0 0 A) (F0 m 9 ls []) := by
    intro n
    induction n with
    | zero => intro x2 y3 H locs ls hP hD hS hl hv; cases hv
    | succ n9 ih9 =>
      intro x2 y3 H locs ls hP hD hS hl hv
      rw [L_X10_day_9] at hv
      refine lv_iload_n hx hb dX10_day_9 rfl (lv_at hl 0 rfl) ?_
      refine lv_aload_n hx hb dX10_day_10 rfl (lv_at hl 1 rfl) ?_
      refine lv_iconst (v := (0 : Int32)) hx hb dX10_day_11 (by decide) ?_
      refine va_iald hx hb hK hP 0 0 rfl rfl (ix_s (by decide)) dX10_day_12 ?_
      refine W.eq (g2 := F0 m 13 ls [.int (y3 0), .int x2]) rfl ?_
      refine lv_icmp_ge (tgt := 27) hx hb dX10_day_13 (by decide) (fun c4 => ?_) (fun c4 => ?_)
      · have hv := if_y c4 hv
        cases hv
        exact W.vret hx hb hr (fun t h9 _ => ⟨rfl, by rw [h9]; exact hP, hS.F h9⟩) hS.2.2 dX10_day_27 hlk
      · have hv := if_n c4 hv
        refine lv_aload_n hx hb dX10_day_16 rfl (lv_at hl 1 rfl) ?_
        refine lv_iload_n hx hb dX10_day_17 rfl (lv_at hl 0 rfl) ?_
        obtain ⟨y5, h6, hv⟩ := ob_s hv
        refine wrS (as := [ra_h]) (wr := []) [0] [] (ws := [ai E ra_h 42 y3]) (ws' := [ai E ra_h 42 y5]) (rest := []) (st1 := []) hC q_X10_looks kw_4_239 (c_X10_looks l E ra_h y3 x2 N y5 h6) ⟨rfl, rfl⟩ ⟨Nat.le_of_ble_eq_true rfl, Nat.le_of_ble_eq_true rfl⟩ ⟨Nat.zero_le _, Nat.zero_le _⟩ hP hD hS hA hG (by decide) rfl rfl rfl rfl rfl rfl rfl rfl hl.1 rfl (Nat.le_of_ble_eq_true rfl) dX10_day_18 rfl (fun H locs hP hD hS => ?_)
        refine lv_iinc (v := (x2 + (1 : Int32))) (lv' := [(1, .int (x2 + (1 : Int32))), (0, .ref ra_h)]) hx hb dX10_day_21 hl (k := 0) rfl rfl (by decide) rfl (fun ls hl => ?_)
        refine lv_goto (tgt := 9) hx hb dX10_day_24 (by decide) ?_
        exact ih9 (x2 + (1 : Int32)) y5 _ _ _ hP hD hS (lv_sub hl [0, 1] rfl) hv
  exact hL9 N (0 : Int32) f1 _ _ _ hP hD hS (lv_sub hl [0, 1] rfl) hv
theorem dX10_daysOn_0 : decode cX10_daysOn 0 = .ok (.iconst 0, 1) := by decide +kernel
theorem dX10_daysOn_1 : decode cX10_daysOn 1 = .ok (.istore_n 2, 1) := by decide +kernel
theorem dX10_daysOn_2 : decode cX10_daysOn 2 = .ok (.iload_n 2, 1) := by decide +kernel
theorem dX10_daysOn_3 : decode cX10_daysOn 3 = .ok (.iload_n 1, 1) := by decide +kernel
theorem dX10_daysOn_4 : decode cX10_daysOn 4 = .ok (.if_icmp .ge 13, 3) := by decide +kernel
theorem dX10_daysOn_7 : decode cX10_daysOn 7 = .ok (.aload_n 0, 1) := by decide +kernel
theorem dX10_daysOn_8 : decode cX10_daysOn 8 = .ok (.invokestatic 109, 3) := by decide +kernel
theorem dX10_daysOn_11 : decode cX10_daysOn 11 = .ok (.iinc 2 1, 3) := by decide +kernel
theorem dX10_daysOn_14 : decode cX10_daysOn 14 = .ok (.goto (-12), 3) := by decide +kernel
theorem dX10_daysOn_17 : decode cX10_daysOn 17 = .ok (.return_, 1) := by decide +kernel
def L_X10_daysOn_2 (N : Nat) (p1 : Int32) : Nat → Int32 → (Nat → Int32) → Option ((Nat → Int32))
  | 0, _, _ => none
  | n2 + 1, x1, y2 => if p1 ≤ x1 then some y2 else ob (f_X10_day N y2) (fun y4 => L_X10_daysOn_2 N p1 n2 (x1 + (1 : Int32)) y4)
def f_X10_daysOn (N : Nat) (ra : Nat → Int32) (p1 : Int32) : Option ((Nat → Int32)) := L_X10_daysOn_2 N p1 N (0 : Int32) ra
set_option maxHeartbeats 4000000 in
set_option maxRecDepth 100000 in
theorem c_X10_daysOn (l : Launch) (E : EE) (ra_h : Nat) (ra : Nat → Int32) (p1 : Int32) (N : Nat) (w_ra : Nat → Int32) (hv : f_X10_daysOn N ra p1 = some w_ra) : Wr l E yX10_daysOn cX10_daysOn 3 none ({ frames := 5, cells := 0, slots := 0, locals := 111 }) [.ref ra_h, .int p1] [ai E ra_h 42 ra] [ai E ra_h 42 w_ra] none := by
  refine Wr.intro RX10 (by decide) rfl (Nat.le_of_ble_eq_true rfl) ?_
  intro p e s m below meth c ls A hC hr hlk hmn hP hD hS hA hG hl
  obtain ⟨hx, hb, hml, hown, ht⟩ := id hC
  have hK := hG.1
  have hl : lv_has ls 3 [(0, .ref ra_h), (1, .int p1)] := hl
  rw [f_X10_daysOn] at hv
  refine lv_iconst (v := (0 : Int32)) hx hb dX10_daysOn_0 (by decide) ?_
  refine lv_istore_n (lv' := [(2, .int (0 : Int32)), (0, .ref ra_h), (1, .int p1)]) hx hb dX10_daysOn_1 rfl hl (by decide) rfl (fun ls hl => ?_)
  have hL2 : ∀ (n : Nat) (x1 : Int32) (y2 : Nat → Int32) (H : Heap) (locs : List Loc) (ls : Array Slot), va_P E.1 vwCl [ai E ra_h 42 y2] H → va_D A [ai E ra_h 42 y2] → va_S A s.heap H locs → lv_has ls 3 [(2, .int x1), (0, .ref ra_h), (1, .int p1)] → L_X10_daysOn_2 N p1 n x1 y2 = some w_ra → W p l e ({ frames := 5, cells := 0, slots := 0, locals := 111 }) s m [.ref ra_h, .int p1].toArray below meth c H locs 0 0 (MQ below (fun _ st oc t => oc = .returned none ∧ va_P E.1 vwCl [ai E ra_h 42 w_ra] t.heap ∧ va_F A st t) [.ref ra_h, .int p1].toArray s 0 0 A) (F0 m 2 ls []) := by
    intro n
    induction n with
    | zero => intro x1 y2 H locs ls hP hD hS hl hv; cases hv
    | succ n2 ih2 =>
      intro x1 y2 H locs ls hP hD hS hl hv
      rw [L_X10_daysOn_2] at hv
      refine lv_iload_n hx hb dX10_daysOn_2 rfl (lv_at hl 0 rfl) ?_
      refine lv_iload_n hx hb dX10_daysOn_3 rfl (lv_at hl 2 rfl) ?_
      refine lv_icmp_ge (tgt := 17) hx hb dX10_daysOn_4 (by decide) (fun c3 => ?_) (fun c3 => ?_)
      · have hv := if_y c3 hv
        cases hv
        exact W.vret hx hb hr (fun t h9 _ => ⟨rfl, by rw [h9]; exact hP, hS.F h9⟩) hS.2.2 dX10_daysOn_17 hlk
      · have hv := if_n c3 hv
        refine lv_aload_n hx hb dX10_daysOn_7 rfl (lv_at hl 1 rfl) ?_
        obtain ⟨y4, h5, hv⟩ := ob_s hv
        refine wrS (as := [ra_h]) (wr := []) [0] [] (ws := [ai E ra_h 42 y2]) (ws' := [ai E ra_h 42 y4]) (rest := []) (st1 := []) hC q_X10_day kw_4_236 (c_X10_day l E ra_h y2 N y4 h5) ⟨rfl, rfl⟩ ⟨Nat.le_of_ble_eq_true rfl, Nat.le_of_ble_eq_true rfl⟩ ⟨Nat.zero_le _, Nat.zero_le _⟩ hP hD hS hA hG (by decide) rfl rfl rfl rfl rfl rfl rfl rfl hl.1 rfl (Nat.le_of_ble_eq_true rfl) dX10_daysOn_8 rfl (fun H locs hP hD hS => ?_)
        refine lv_iinc (v := (x1 + (1 : Int32))) (lv' := [(2, .int (x1 + (1 : Int32))), (0, .ref ra_h), (1, .int p1)]) hx hb dX10_daysOn_11 hl (k := 0) rfl rfl (by decide) rfl (fun ls hl => ?_)
        refine lv_goto (tgt := 2) hx hb dX10_daysOn_14 (by decide) ?_
        exact ih2 (x1 + (1 : Int32)) y4 _ _ _ hP hD hS (lv_sub hl [0, 1, 2] rfl) hv
  exact hL2 N (0 : Int32) ra _ _ _ hP hD hS (lv_sub hl [0, 1, 2] rfl) hv
theorem dX10_here_0 : decode cX10_here 0 = .ok (.aload_n 0, 1) := by decide +kernel
theorem dX10_here_1 : decode cX10_here 1 = .ok (.getfield 113, 3) := by decide +kernel
theorem dX10_here_4 : decode cX10_here 4 = .ok (.aload_n 0, 1) := by decide +kernel
theorem dX10_here_5 : decode cX10_here 5 = .ok (.getfield 117, 3) := by decide +kernel
theorem dX10_here_8 : decode cX10_here 8 = .ok (.if_icmp .ge 24, 3) := by decide +kernel
theorem dX10_here_11 : decode cX10_here 11 = .ok (.aload_n 0, 1) := by decide +kernel
theorem dX10_here_12 : decode cX10_here 12 = .ok (.getfield 43, 3) := by decide +kernel
theorem dX10_here_15 : decode cX10_here 15 = .ok (.aload_n 0, 1) := by decide +kernel
theorem dX10_here_16 : decode cX10_here 16 = .ok (.getfield 120, 3) := by decide +kernel
theorem dX10_here_19 : decode cX10_here 19 = .ok (.aload_n 0, 1) := by decide +kernel
theorem dX10_here_20 : decode cX10_here 20 = .ok (.getfield 113, 3) := by decide +kernel
theorem dX10_here_23 : decode cX10_here 23 = .ok (.iadd, 1) := by decide +kernel
theorem dX10_here_24 : decode cX10_here 24 = .ok (.iaload, 1) := by decide +kernel
theorem dX10_here_25 : decode cX10_here 25 = .ok (.sipush 255, 3) := by decide +kernel
theorem dX10_here_28 : decode cX10_here 28 = .ok (.iand, 1) := by decide +kernel
theorem dX10_here_29 : decode cX10_here 29 = .ok (.goto 4, 3) := by decide +kernel
theorem dX10_here_32 : decode cX10_here 32 = .ok (.iconst (-1), 1) := by decide +kernel
theorem dX10_here_33 : decode cX10_here 33 = .ok (.ireturn, 1) := by decide +kernel
def f_X10_here (o_place : Int32) (o_rowAt : Int32) (o_rowEnd : Int32) (o_element : Nat → Int32) : Option (Int32) := if o_rowEnd ≤ o_place then some (-1 : Int32) else gd (ix (o_rowAt + o_place) 800) (some ((o_element (o_rowAt + o_place).toNatClampNeg) &&& (255 : Int32)))
set_option maxHeartbeats 4000000 in
set_option maxRecDepth 100000 in
theorem c_X10_here (l : Launch) (E : EE) (o_h : Nat) (o_a0 : Nat) (o_a1 : Nat) (o_a2 : Nat) (o_a3 : Nat) (o_a8 : Nat) (o_a9 : Nat) (o_a11 : Nat) (o_a12 : Nat) (o_a13 : Nat) (o_a14 : Nat) (o_a15 : Nat) (o_a16 : Nat) (o_s : Nat → Int32) (o_m : Nat → Int32) (o_image : Nat → Int32) (o_was : Nat → Int32) (o_hasImage : Int32) (o_place : Int32) (o_rowAt : Int32) (o_rowEnd : Int32) (o_numbers : Nat → Int32) (o_most : Nat → Int32) (o_seed : Int32) (o_kept : Nat → Int32) (o_keptKind : Nat → Int32) (o_keptFigure : Nat → Int32) (o_sort : Nat → Int32) (o_size : Nat → Int32) (o_element : Nat → Int32) (o_thrown : Int32) (res : Int32) (hv : f_X10_here o_place o_rowAt o_rowEnd o_element = some res) : Rd l E yX10_here cX10_here 1 (some .int) ({ frames := 0, cells := 0, slots := 0, locals := 0 }) [.ref o_h] [oMo o_h o_a0 o_a1 o_a2 o_a3 o_hasImage o_place o_rowAt o_rowEnd o_a8 o_a9 o_seed o_a11 o_a12 o_a13 o_a14 o_a15 o_a16 o_thrown, ai E o_a0 42 o_s, ai E o_a1 42 o_m, ai E o_a2 42 o_image, ai E o_a3 42 o_was, ai E o_a8 3 o_numbers, ai E o_a9 8192 o_most, ai E o_a11 8 o_kept, ai E o_a12 8 o_keptKind, ai E o_a13 8 o_keptFigure, ai E o_a14 8 o_sort, ai E o_a15 8 o_size, ai E o_a16 800 o_element] (some (.int res)) := by
  refine Rd.intro RX10 (by decide) rfl (Nat.le_of_ble_eq_true rfl) ?_
  intro p e s m below meth c ls hC hr hlk hP hG hl
  obtain ⟨hx, hb, hml, hown, ht⟩ := id hC
  have hK := hG.1
  have hl : lv_has ls 1 [(0, .ref o_h)] := hl
  rw [f_X10_here] at hv
  refine lv_aload_n hx hb dX10_here_0 rfl (lv_at hl 0 rfl) ?_
  refine va_get (D := E.1) (ci := 4) (v := .int o_place) (C := RX10) (T := TX10) (N := 18) hx hb ht i_X10 hown hK hP 0 rfl rfl 5 (by decide) (ht _ kw_4_139) (fun _ h9 => h9) rfl dX10_here_1 ?_
  refine lv_aload_n hx hb dX10_here_4 rfl (lv_at hl 0 rfl) ?_
  refine va_get (D := E.1) (ci := 4) (v := .int o_rowEnd) (C := RX10) (T := TX10) (N := 18) hx hb ht i_X10 hown hK hP 0 rfl rfl 7 (by decide) (ht _ kw_4_141) (fun _ h9 => h9) rfl dX10_here_5 ?_
  refine lv_icmp_ge (tgt := 32) hx hb dX10_here_8 (by decide) (fun c1 => ?_) (fun c1 => ?_)
  · have hv := if_y c1 hv
    refine lv_iconst (v := (-1 : Int32)) hx hb dX10_here_32 (by decide) ?_
    exact W.iret (v := (-1 : Int32)) hx hb hr (fun t h9 _ => ⟨rv_i hv, h9⟩) (fun q h => absurd h List.not_mem_nil) dX10_here_33 hlk
  · have hv := if_n c1 hv
    refine lv_aload_n hx hb dX10_here_11 rfl (lv_at hl 0 rfl) ?_
    refine va_get (D := E.1) (ci := 4) (v := .ref o_a16) (C := RX10) (T := TX10) (N := 18) hx hb ht i_X10 hown hK hP 0 rfl rfl 16 (by decide) (ht _ kw_4_150) (fun _ h9 => h9) rfl dX10_here_12 ?_
    refine lv_aload_n hx hb dX10_here_15 rfl (lv_at hl 0 rfl) ?_
    refine va_get (D := E.1) (ci := 4) (v := .int o_rowAt) (C := RX10) (T := TX10) (N := 18) hx hb ht i_X10 hown hK hP 0 rfl rfl 6 (by decide) (ht _ kw_4_140) (fun _ h9 => h9) rfl dX10_here_16 ?_
    refine lv_aload_n hx hb dX10_here_19 rfl (lv_at hl 0 rfl) ?_
    refine va_get (D := E.1) (ci := 4) (v := .int o_place) (C := RX10) (T := TX10) (N := 18) hx hb ht i_X10 hown hK hP 0 rfl rfl 5 (by decide) (ht _ kw_4_139) (fun _ h9 => h9) rfl dX10_here_20 ?_
    refine lv_iadd hx hb dX10_here_23 ?_
    obtain ⟨g2, hv⟩ := gd_s hv
    refine va_iald hx hb hK hP 12 0 rfl rfl (ix_s g2) dX10_here_24 ?_
    refine lv_sipush (v := (255 : Int32)) hx hb dX10_here_25 (by decide) ?_
    refine lv_iand hx hb dX10_here_28 ?_
    refine lv_goto (tgt := 33) hx hb dX10_here_29 (by decide) ?_
    exact W.iret (v := ((o_element (o_rowAt + o_place).toNatClampNeg) &&& (255 : Int32))) hx hb hr (fun t h9 _ => ⟨rv_i hv, h9⟩) (fun q h => absurd h List.not_mem_nil) dX10_here_33 hlk
theorem dX10_readsNumber_0 : decode cX10_readsNumber 0 = .ok (.aload_n 0, 1) := by decide +kernel
theorem dX10_readsNumber_1 : decode cX10_readsNumber 1 = .ok (.getfield 22, 3) := by decide +kernel
theorem dX10_readsNumber_4 : decode cX10_readsNumber 4 = .ok (.iload_n 1, 1) := by decide +kernel
theorem dX10_readsNumber_5 : decode cX10_readsNumber 5 = .ok (.iconst 0, 1) := by decide +kernel
theorem dX10_readsNumber_6 : decode cX10_readsNumber 6 = .ok (.iastore, 1) := by decide +kernel
theorem dX10_readsNumber_7 : decode cX10_readsNumber 7 = .ok (.iconst 0, 1) := by decide +kernel
theorem dX10_readsNumber_8 : decode cX10_readsNumber 8 = .ok (.istore_n 3, 1) := by decide +kernel
theorem dX10_readsNumber_9 : decode cX10_readsNumber 9 = .ok (.iload_n 3, 1) := by decide +kernel
theorem dX10_readsNumber_10 : decode cX10_readsNumber 10 = .ok (.iload_n 2, 1) := by decide +kernel
theorem dX10_readsNumber_11 : decode cX10_readsNumber 11 = .ok (.if_icmp .ge 58, 3) := by decide +kernel
theorem dX10_readsNumber_14 : decode cX10_readsNumber 14 = .ok (.aload_n 0, 1) := by decide +kernel
theorem dX10_readsNumber_15 : decode cX10_readsNumber 15 = .ok (.invokevirtual 123, 3) := by decide +kernel
theorem dX10_readsNumber_18 : decode cX10_readsNumber 18 = .ok (.bipush 48, 2) := by decide +kernel
theorem dX10_readsNumber_20 : decode cX10_readsNumber 20 = .ok (.bipush 57, 2) := by decide +kernel
theorem dX10_readsNumber_22 : decode cX10_readsNumber 22 = .ok (.invokestatic 46, 3) := by decide +kernel
theorem dX10_readsNumber_25 : decode cX10_readsNumber 25 = .ok (.ifCond .ne 5, 3) := by decide +kernel
theorem dX10_readsNumber_28 : decode cX10_readsNumber 28 = .ok (.iconst 0, 1) := by decide +kernel
theorem dX10_readsNumber_29 : decode cX10_readsNumber 29 = .ok (.ireturn, 1) := by decide +kernel
theorem dX10_readsNumber_30 : decode cX10_readsNumber 30 = .ok (.aload_n 0, 1) := by decide +kernel
theorem dX10_readsNumber_31 : decode cX10_readsNumber 31 = .ok (.getfield 22, 3) := by decide +kernel
theorem dX10_readsNumber_34 : decode cX10_readsNumber 34 = .ok (.iload_n 1, 1) := by decide +kernel
theorem dX10_readsNumber_35 : decode cX10_readsNumber 35 = .ok (.bipush 10, 2) := by decide +kernel
theorem dX10_readsNumber_37 : decode cX10_readsNumber 37 = .ok (.aload_n 0, 1) := by decide +kernel
theorem dX10_readsNumber_38 : decode cX10_readsNumber 38 = .ok (.getfield 22, 3) := by decide +kernel
theorem dX10_readsNumber_41 : decode cX10_readsNumber 41 = .ok (.iload_n 1, 1) := by decide +kernel
theorem dX10_readsNumber_42 : decode cX10_readsNumber 42 = .ok (.iaload, 1) := by decide +kernel
theorem dX10_readsNumber_43 : decode cX10_readsNumber 43 = .ok (.imul, 1) := by decide +kernel
theorem dX10_readsNumber_44 : decode cX10_readsNumber 44 = .ok (.aload_n 0, 1) := by decide +kernel
theorem dX10_readsNumber_45 : decode cX10_readsNumber 45 = .ok (.invokevirtual 123, 3) := by decide +kernel
theorem dX10_readsNumber_48 : decode cX10_readsNumber 48 = .ok (.iadd, 1) := by decide +kernel
theorem dX10_readsNumber_49 : decode cX10_readsNumber 49 = .ok (.bipush 48, 2) := by decide +kernel
theorem dX10_readsNumber_51 : decode cX10_readsNumber 51 = .ok (.isub, 1) := by decide +kernel
theorem dX10_readsNumber_52 : decode cX10_readsNumber 52 = .ok (.iastore, 1) := by decide +kernel
theorem dX10_readsNumber_53 : decode cX10_readsNumber 53 = .ok (.aload_n 0, 1) := by decide +kernel
theorem dX10_readsNumber_54 : decode cX10_readsNumber 54 = .ok (.dup, 1) := by decide +kernel
theorem dX10_readsNumber_55 : decode cX10_readsNumber 55 = .ok (.getfield 113, 3) := by decide +kernel
theorem dX10_readsNumber_58 : decode cX10_readsNumber 58 = .ok (.iconst 1, 1) := by decide +kernel
theorem dX10_readsNumber_59 : decode cX10_readsNumber 59 = .ok (.iadd, 1) := by decide +kernel
theorem dX10_readsNumber_60 : decode cX10_readsNumber 60 = .ok (.putfield 113, 3) := by decide +kernel
theorem dX10_readsNumber_63 : decode cX10_readsNumber 63 = .ok (.iinc 3 1, 3) := by decide +kernel
theorem dX10_readsNumber_66 : decode cX10_readsNumber 66 = .ok (.goto (-57), 3) := by decide +kernel
theorem dX10_readsNumber_69 : decode cX10_readsNumber 69 = .ok (.iconst 1, 1) := by decide +kernel
theorem dX10_readsNumber_70 : decode cX10_readsNumber 70 = .ok (.ireturn, 1) := by decide +kernel
def L_X10_readsNumber_9 (o_rowAt : Int32) (o_rowEnd : Int32) (o_element : Nat → Int32) (p1 : Int32) (p2 : Int32) : Nat → Int32 → Int32 → (Nat → Int32) → Option (Int32 × Int32 × (Nat → Int32))
  | 0, _, _, _ => none
  | n9 + 1, x3, y4, y5 => if p2 ≤ x3 then nm (1 : Int32) (fun z7 => some (z7, y4, y5)) else ob (f_X10_here y4 o_rowAt o_rowEnd o_element) (fun r8 => ob (f_X10_isIn r8 (48 : Int32) (57 : Int32)) (fun r10 => if r10 = 0 then nm (0 : Int32) (fun z19 => some (z19, y4, y5)) else gd (ix p1 3) (ob (f_X10_here y4 o_rowAt o_rowEnd o_element) (fun r14 => gd (ix p1 3) (nm (upd y5 p1.toNatClampNeg ((((10 : Int32) * (y5 p1.toNatClampNeg)) + r14) - (48 : Int32))) (fun f17 => nm (y4 + (1 : Int32)) (fun z18 => L_X10_readsNumber_9 o_rowAt o_rowEnd o_element p1 p2 n9 (x3 + (1 : Int32)) z18 f17)))))))
def f_X10_readsNumber (N : Nat) (o_place : Int32) (o_rowAt : Int32) (o_rowEnd : Int32) (o_numbers : Nat → Int32) (o_element : Nat → Int32) (p1 : Int32) (p2 : Int32) : Option (Int32 × Int32 × (Nat → Int32)) := gd (ix p1 3) (nm (upd o_numbers p1.toNatClampNeg (0 : Int32)) (fun f2 => L_X10_readsNumber_9 o_rowAt o_rowEnd o_element p1 p2 N (0 : Int32) o_place f2))
set_option maxHeartbeats 4000000 in
set_option maxRecDepth 100000 in
theorem c_X10_readsNumber (l : Launch) (E : EE) (o_h : Nat) (o_a0 : Nat) (o_a1 : Nat) (o_a2 : Nat) (o_a3 : Nat) (o_a8 : Nat) (o_a9 : Nat) (o_a11 : Nat) (o_a12 : Nat) (o_a13 : Nat) (o_a14 : Nat) (o_a15 : Nat) (o_a16 : Nat) (o_s : Nat → Int32) (o_m : Nat → Int32) (o_image : Nat → Int32) (o_was : Nat → Int32) (o_hasImage : Int32) (o_place : Int32) (o_rowAt : Int32) (o_rowEnd : Int32) (o_numbers : Nat → Int32) (o_most : Nat → Int32) (o_seed : Int32) (o_kept : Nat → Int32) (o_keptKind : Nat → Int32) (o_keptFigure : Nat → Int32) (o_sort : Nat → Int32) (o_size : Nat → Int32) (o_element : Nat → Int32) (o_thrown : Int32) (p1 : Int32) (p2 : Int32) (N : Nat) (res : Int32) (w_o_place : Int32) (w_o_numbers : Nat → Int32) (hv : f_X10_readsNumber N o_place o_rowAt o_rowEnd o_numbers o_element p1 p2 = some (res, w_o_place, w_o_numbers)) : Wr l E yX10_readsNumber cX10_readsNumber 4 (some .boolean) ({ frames := 1, cells := 0, slots := 0, locals := 22 }) [.ref o_h, .int p1, .int p2] [oMo o_h o_a0 o_a1 o_a2 o_a3 o_hasImage o_place o_rowAt o_rowEnd o_a8 o_a9 o_seed o_a11 o_a12 o_a13 o_a14 o_a15 o_a16 o_thrown, ai E o_a0 42 o_s, ai E o_a1 42 o_m, ai E o_a2 42 o_image, ai E o_a3 42 o_was, ai E o_a8 3 o_numbers, ai E o_a9 8192 o_most, ai E o_a11 8 o_kept, ai E o_a12 8 o_keptKind, ai E o_a13 8 o_keptFigure, ai E o_a14 8 o_sort, ai E o_a15 8 o_size, ai E o_a16 800 o_element] [oMo o_h o_a0 o_a1 o_a2 o_a3 o_hasImage w_o_place o_rowAt o_rowEnd o_a8 o_a9 o_seed o_a11 o_a12 o_a13 o_a14 o_a15 o_a16 o_thrown, ai E o_a0 42 o_s, ai E o_a1 42 o_m, ai E o_a2 42 o_image, ai E o_a3 42 o_was, ai E o_a8 3 w_o_numbers, ai E o_a9 8192 o_most, ai E o_a11 8 o_kept, ai E o_a12 8 o_keptKind, ai E o_a13 8 o_keptFigure, ai E o_a14 8 o_sort, ai E o_a15 8 o_size, ai E o_a16 800 o_element] (some (.int res)) := by
  refine Wr.intro RX10 (by decide) rfl (Nat.le_of_ble_eq_true rfl) ?_
  intro p e s m below meth c ls A hC hr hlk hmn hP hD hS hA hG hl
  obtain ⟨hx, hb, hml, hown, ht⟩ := id hC
  have hK := hG.1
  have hl : lv_has ls 4 [(0, .ref o_h), (1, .int p1), (2, .int p2)] := hl
  rw [f_X10_readsNumber] at hv
  refine lv_aload_n hx hb dX10_readsNumber_0 rfl (lv_at hl 0 rfl) ?_
  refine va_get (D := E.1) (ci := 4) (v := .ref o_a8) (C := RX10) (T := TX10) (N := 18) hx hb ht i_X10 hown hK hP 0 rfl rfl 8 (by decide) (ht _ kw_4_142) (fun _ h9 => h9) rfl dX10_readsNumber_1 ?_
  refine lv_iload_n hx hb dX10_readsNumber_4 rfl (lv_at hl 1 rfl) ?_
  refine lv_iconst (v := (0 : Int32)) hx hb dX10_readsNumber_5 (by decide) ?_
  obtain ⟨g1, hv⟩ := gd_s hv
  refine va_iast hx hb hK hP hD hS 5 0 rfl rfl (ix_s g1) dX10_readsNumber_6 (fun H locs hP hD hS => ?_)
  have hP : va_P E.1 vwCl [oMo o_h o_a0 o_a1 o_a2 o_a3 o_hasImage o_place o_rowAt o_rowEnd o_a8 o_a9 o_seed o_a11 o_a12 o_a13 o_a14 o_a15 o_a16 o_thrown, ai E o_a0 42 o_s, ai E o_a1 42 o_m, ai E o_a2 42 o_image, ai E o_a3 42 o_was, ai E o_a8 3 (upd o_numbers p1.toNatClampNeg (0 : Int32)), ai E o_a9 8192 o_most, ai E o_a11 8 o_kept, ai E o_a12 8 o_keptKind, ai E o_a13 8 o_keptFigure, ai E o_a14 8 o_sort, ai E o_a15 8 o_size, ai E o_a16 800 o_element] H := hP
  have hD : va_D A [oMo o_h o_a0 o_a1 o_a2 o_a3 o_hasImage o_place o_rowAt o_rowEnd o_a8 o_a9 o_seed o_a11 o_a12 o_a13 o_a14 o_a15 o_a16 o_thrown, ai E o_a0 42 o_s, ai E o_a1 42 o_m, ai E o_a2 42 o_image, ai E o_a3 42 o_was, ai E o_a8 3 (upd o_numbers p1.toNatClampNeg (0 : Int32)), ai E o_a9 8192 o_most, ai E o_a11 8 o_kept, ai E o_a12 8 o_keptKind, ai E o_a13 8 o_keptFigure, ai E o_a14 8 o_sort, ai E o_a15 8 o_size, ai E o_a16 800 o_element] := hD
  obtain ⟨f2, ef2⟩ : ∃ z, z = (upd o_numbers p1.toNatClampNeg (0 : Int32)) := ⟨_, rfl⟩
  rw [← ef2] at hP hD
  have hv := nm_s ef2 hv
  refine lv_iconst (v := (0 : Int32)) hx hb dX10_readsNumber_7 (by decide) ?_
  refine lv_istore_n (lv' := [(3, .int (0 : Int32)), (0, .ref o_h), (1, .int p1), (2, .int p2)]) hx hb dX10_readsNumber_8 rfl hl (by decide) rfl (fun ls hl => ?_)
  have hL9 : ∀ (n : Nat) (x3 : Int32) (y4 : Int32) (y5 : Nat → Int32) (H : Heap) (locs : List Loc) (ls : Array Slot), va_P E.1 vwCl [oMo o_h o_a0 o_a1 o_a2 o_a3 o_hasImage y4 o_rowAt o_rowEnd o_a8 o_a9 o_seed o_a11 o_a12 o_a13 o_a14 o_a15 o_a16 o_thrown, ai E o_a0 42 o_s, ai E o_a1 42 o_m, ai E o_a2 42 o_image, ai E o_a3 42 o_was, ai E o_a8 3 y5, ai E o_a9 8192 o_most, ai E o_a11 8 o_kept, ai E o_a12 8 o_keptKind, ai E o_a13 8 o_keptFigure, ai E o_a14 8 o_sort, ai E o_a15 8 o_size, ai E o_a16 800 o_element] H → va_D A [oMo o_h o_a0 o_a1 o_a2 o_a3 o_hasImage y4 o_rowAt o_rowEnd o_a8 o_a9 o_seed o_a11 o_a12 o_a13 o_a14 o_a15 o_a16 o_thrown, ai E o_a0 42 o_s, ai E o_a1 42 o_m, ai E o_a2 42 o_image, ai E o_a3 42 o_was, ai E o_a8 3 y5, ai E o_a9 8192 o_most, ai E o_a11 8 o_kept, ai E o_a12 8 o_keptKind, ai E o_a13 8 o_keptFigure, ai E o_a14 8 o_sort, ai E o_a15 8 o_size, ai E o_a16 800 o_element] → va_S A s.heap H locs → lv_has ls 4 [(3, .int x3), (0, .ref o_h), (1, .int p1), (2, .int p2)] → L_X10_readsNumber_9 o_rowAt o_rowEnd o_element p1 p2 n x3 y4 y5 = some (res, w_o_place, w_o_numbers) → W p l e ({ frames := 1, cells := 0, slots := 0, locals := 22 }) s m [.ref o_h, .int p1, .int p2].toArray below meth c H locs 0 0 (MQ below (fun _ st oc t => oc = .returned (some (.int res)) ∧ va_P E.1 vwCl [oMo o_h o_a0 o_a1 o_a2 o_a3 o_hasImage w_o_place o_rowAt o_rowEnd o_a8 o_a9 o_seed o_a11 o_a12 o_a13 o_a14 o_a15 o_a16 o_thrown, ai E o_a0 42 o_s, ai E o_a1 42 o_m, ai E o_a2 42 o_image, ai E o_a3 42 o_was, ai E o_a8 3 w_o_numbers, ai E o_a9 8192 o_most, ai E o_a11 8 o_kept, ai E o_a12 8 o_keptKind, ai E o_a13 8 o_keptFigure, ai E o_a14 8 o_sort, ai E o_a15 8 o_size, ai E o_a16 800 o_element] t.heap ∧ va_F A st t) [.ref o_h, .int p1, .int p2].toArray s 0 0 A) (F0 m 9 ls []) := by
    intro n
    induction n with
    | zero => intro x3 y4 y5 H locs ls hP hD hS hl hv; cases hv
    | succ n9 ih9 =>
      intro x3 y4 y5 H locs ls hP hD hS hl hv
      rw [L_X10_readsNumber_9] at hv
      refine lv_iload_n hx hb dX10_readsNumber_9 rfl (lv_at hl 0 rfl) ?_
      refine lv_iload_n hx hb dX10_readsNumber_10 rfl (lv_at hl 3 rfl) ?_
      refine lv_icmp_ge (tgt := 69) hx hb dX10_readsNumber_11 (by decide) (fun c6 => ?_) (fun c6 => ?_)
      · have hv := if_y c6 hv
        refine lv_iconst (v := (1 : Int32)) hx hb dX10_readsNumber_69 (by decide) ?_
        refine lv_topi (fun z7 ez7 => ?_)
        have hv := nm_s ez7 hv
        have hn9 : narrow .boolean (.int z7) = .int z7 := (by rw [ez7]; rfl)
        cases hv
        exact W.zret hx hb hr hn9 (fun t h9 _ => ⟨rfl, by rw [h9]; exact hP, hS.F h9⟩) hS.2.2 dX10_readsNumber_70 hlk
      · have hv := if_n c6 hv
        refine lv_aload_n hx hb dX10_readsNumber_14 rfl (lv_at hl 1 rfl) ?_
        obtain ⟨r8, h9, hv⟩ := ob_s hv
        refine rdV 4 0 (As := []) (rest := []) (st1 := [.int r8]) (w := [oMo o_h o_a0 o_a1 o_a2 o_a3 o_hasImage y4 o_rowAt o_rowEnd o_a8 o_a9 o_seed o_a11 o_a12 o_a13 o_a14 o_a15 o_a16 o_thrown, ai E o_a0 42 o_s, ai E o_a1 42 o_m, ai E o_a2 42 o_image, ai E o_a3 42 o_was, ai E o_a8 3 y5, ai E o_a9 8192 o_most, ai E o_a11 8 o_kept, ai E o_a12 8 o_keptKind, ai E o_a13 8 o_keptFigure, ai E o_a14 8 o_sort, ai E o_a15 8 o_size, ai E o_a16 800 o_element]) hC q_X10_here kw_4_207 (c_X10_here l E o_h o_a0 o_a1 o_a2 o_a3 o_a8 o_a9 o_a11 o_a12 o_a13 o_a14 o_a15 o_a16 o_s o_m o_image o_was o_hasImage y4 o_rowAt o_rowEnd y5 o_most o_seed o_kept o_keptKind o_keptFigure o_sort o_size o_element o_thrown r8 h9) ⟨rfl, rfl⟩ ⟨Nat.le_of_ble_eq_true rfl, Nat.le_of_ble_eq_true rfl⟩ ⟨Nat.zero_le _, Nat.zero_le _⟩ hP rfl rfl rfl hG rfl hl.1 rfl (Nat.le_of_ble_eq_true rfl) dX10_readsNumber_15 rfl ?_
        refine lv_bipush (v := (48 : Int32)) hx hb dX10_readsNumber_18 (by decide) ?_
        refine lv_bipush (v := (57 : Int32)) hx hb dX10_readsNumber_20 (by decide) ?_
        obtain ⟨r10, h11, hv⟩ := ob_s hv
        refine rdS (rest := []) (st1 := [.int r10]) (w := []) hC q_X10_isIn kw_4_200 (c_X10_isIn l E r8 (48 : Int32) (57 : Int32) r10 h11) ⟨rfl, rfl⟩ ⟨Nat.le_of_ble_eq_true rfl, Nat.le_of_ble_eq_true rfl⟩ ⟨Nat.zero_le _, Nat.zero_le _⟩ (hP.sub (ws' := []) [] rfl) hG rfl hl.1 rfl (Nat.le_of_ble_eq_true rfl) dX10_readsNumber_22 rfl ?_
        refine lv_if_ne (tgt := 30) hx hb dX10_readsNumber_25 (by decide) (fun c12 => ?_) (fun c12 => ?_)
        · have hv := if_n c12 hv
          refine lv_aload_n hx hb dX10_readsNumber_30 rfl (lv_at hl 1 rfl) ?_
          refine va_get (D := E.1) (ci := 4) (v := .ref o_a8) (C := RX10) (T := TX10) (N := 18) hx hb ht i_X10 hown hK hP 0 rfl rfl 8 (by decide) (ht _ kw_4_142) (fun _ h9 => h9) rfl dX10_readsNumber_31 ?_
          refine lv_iload_n hx hb dX10_readsNumber_34 rfl (lv_at hl 2 rfl) ?_
          refine lv_bipush (v := (10 : Int32)) hx hb dX10_readsNumber_35 (by decide) ?_
          refine lv_aload_n hx hb dX10_readsNumber_37 rfl (lv_at hl 1 rfl) ?_
          refine va_get (D := E.1) (ci := 4) (v := .ref o_a8) (C := RX10) (T := TX10) (N := 18) hx hb ht i_X10 hown hK hP 0 rfl rfl 8 (by decide) (ht _ kw_4_142) (fun _ h9 => h9) rfl dX10_readsNumber_38 ?_
          refine lv_iload_n hx hb dX10_readsNumber_41 rfl (lv_at hl 2 rfl) ?_
          obtain ⟨g13, hv⟩ := gd_s hv
          refine va_iald hx hb hK hP 5 0 rfl rfl (ix_s g13) dX10_readsNumber_42 ?_
          refine lv_imul hx hb dX10_readsNumber_43 ?_
          refine lv_aload_n hx hb dX10_readsNumber_44 rfl (lv_at hl 1 rfl) ?_
          obtain ⟨r14, h15, hv⟩ := ob_s hv
          refine rdV 4 0 (As := []) (rest := [.int ((10 : Int32) * (y5 p1.toNatClampNeg)), .int p1, .ref o_a8]) (st1 := [.int r14, .int ((10 : Int32) * (y5 p1.toNatClampNeg)), .int p1, .ref o_a8]) (w := [oMo o_h o_a0 o_a1 o_a2 o_a3 o_hasImage y4 o_rowAt o_rowEnd o_a8 o_a9 o_seed o_a11 o_a12 o_a13 o_a14 o_a15 o_a16 o_thrown, ai E o_a0 42 o_s, ai E o_a1 42 o_m, ai E o_a2 42 o_image, ai E o_a3 42 o_was, ai E o_a8 3 y5, ai E o_a9 8192 o_most, ai E o_a11 8 o_kept, ai E o_a12 8 o_keptKind, ai E o_a13 8 o_keptFigure, ai E o_a14 8 o_sort, ai E o_a15 8 o_size, ai E o_a16 800 o_element]) hC q_X10_here kw_4_207 (c_X10_here l E o_h o_a0 o_a1 o_a2 o_a3 o_a8 o_a9 o_a11 o_a12 o_a13 o_a14 o_a15 o_a16 o_s o_m o_image o_was o_hasImage y4 o_rowAt o_rowEnd y5 o_most o_seed o_kept o_keptKind o_keptFigure o_sort o_size o_element o_thrown r14 h15) ⟨rfl, rfl⟩ ⟨Nat.le_of_ble_eq_true rfl, Nat.le_of_ble_eq_true rfl⟩ ⟨Nat.zero_le _, Nat.zero_le _⟩ hP rfl rfl rfl hG rfl hl.1 rfl (Nat.le_of_ble_eq_true rfl) dX10_readsNumber_45 rfl ?_
          refine lv_iadd hx hb dX10_readsNumber_48 ?_
          refine lv_bipush (v := (48 : Int32)) hx hb dX10_readsNumber_49 (by decide) ?_
          refine lv_isub hx hb dX10_readsNumber_51 ?_
          obtain ⟨g16, hv⟩ := gd_s hv
          refine va_iast hx hb hK hP hD hS 5 0 rfl rfl (ix_s g16) dX10_readsNumber_52 (fun H locs hP hD hS => ?_)
          have hP : va_P E.1 vwCl [oMo o_h o_a0 o_a1 o_a2 o_a3 o_hasImage y4 o_rowAt o_rowEnd o_a8 o_a9 o_seed o_a11 o_a12 o_a13 o_a14 o_a15 o_a16 o_thrown, ai E o_a0 42 o_s, ai E o_a1 42 o_m, ai E o_a2 42 o_image, ai E o_a3 42 o_was, ai E o_a8 3 (upd y5 p1.toNatClampNeg ((((10 : Int32) * (y5 p1.toNatClampNeg)) + r14) - (48 : Int32))), ai E o_a9 8192 o_most, ai E o_a11 8 o_kept, ai E o_a12 8 o_keptKind, ai E o_a13 8 o_keptFigure, ai E o_a14 8 o_sort, ai E o_a15 8 o_size, ai E o_a16 800 o_element] H := hP
          have hD : va_D A [oMo o_h o_a0 o_a1 o_a2 o_a3 o_hasImage y4 o_rowAt o_rowEnd o_a8 o_a9 o_seed o_a11 o_a12 o_a13 o_a14 o_a15 o_a16 o_thrown, ai E o_a0 42 o_s, ai E o_a1 42 o_m, ai E o_a2 42 o_image, ai E o_a3 42 o_was, ai E o_a8 3 (upd y5 p1.toNatClampNeg ((((10 : Int32) * (y5 p1.toNatClampNeg)) + r14) - (48 : Int32))), ai E o_a9 8192 o_most, ai E o_a11 8 o_kept, ai E o_a12 8 o_keptKind, ai E o_a13 8 o_keptFigure, ai E o_a14 8 o_sort, ai E o_a15 8 o_size, ai E o_a16 800 o_element] := hD
          obtain ⟨f17, ef17⟩ : ∃ z, z = (upd y5 p1.toNatClampNeg ((((10 : Int32) * (y5 p1.toNatClampNeg)) + r14) - (48 : Int32))) := ⟨_, rfl⟩
          rw [← ef17] at hP hD
          have hv := nm_s ef17 hv
          refine lv_aload_n hx hb dX10_readsNumber_53 rfl (lv_at hl 1 rfl) ?_
          refine lv_dup hx hb dX10_readsNumber_54 rfl ?_
          refine va_get (D := E.1) (ci := 4) (v := .int y4) (C := RX10) (T := TX10) (N := 18) hx hb ht i_X10 hown hK hP 0 rfl rfl 5 (by decide) (ht _ kw_4_139) (fun _ h9 => h9) rfl dX10_readsNumber_55 ?_
          refine lv_iconst (v := (1 : Int32)) hx hb dX10_readsNumber_58 (by decide) ?_
          refine lv_iadd hx hb dX10_readsNumber_59 ?_
          refine lv_topi (fun z18 ez18 => ?_)
          have hv := nm_s ez18 hv
          refine va_put (D := E.1) (ci := 4) (v := .int z18) (ty := .int) (C := RX10) (T := TX10) (N := 18) hx hb ht i_X10 tyX10 tyX10_ok nmX10 hown hK hP hD hS 0 rfl rfl 5 (by decide) (ht _ kw_4_139) (fun _ h9 => h9) rfl (by decide +kernel) rfl rfl (Nat.le_of_ble_eq_true rfl) dX10_readsNumber_60 (fun H locs hP hD hS => ?_)
          have hP : va_P E.1 vwCl [oMo o_h o_a0 o_a1 o_a2 o_a3 o_hasImage z18 o_rowAt o_rowEnd o_a8 o_a9 o_seed o_a11 o_a12 o_a13 o_a14 o_a15 o_a16 o_thrown, ai E o_a0 42 o_s, ai E o_a1 42 o_m, ai E o_a2 42 o_image, ai E o_a3 42 o_was, ai E o_a8 3 f17, ai E o_a9 8192 o_most, ai E o_a11 8 o_kept, ai E o_a12 8 o_keptKind, ai E o_a13 8 o_keptFigure, ai E o_a14 8 o_sort, ai E o_a15 8 o_size, ai E o_a16 800 o_element] H := hP
          have hD : va_D A [oMo o_h o_a0 o_a1 o_a2 o_a3 o_hasImage z18 o_rowAt o_rowEnd o_a8 o_a9 o_seed o_a11 o_a12 o_a13 o_a14 o_a15 o_a16 o_thrown, ai E o_a0 42 o_s, ai E o_a1 42 o_m, ai E o_a2 42 o_image, ai E o_a3 42 o_was, ai E o_a8 3 f17, ai E o_a9 8192 o_most, ai E o_a11 8 o_kept, ai E o_a12 8 o_keptKind, ai E o_a13 8 o_keptFigure, ai E o_a14 8 o_sort, ai E o_a15 8 o_size, ai E o_a16 800 o_element] := hD
          refine lv_iinc (v := (x3 + (1 : Int32))) (lv' := [(3, .int (x3 + (1 : Int32))), (0, .ref o_h), (1, .int p1), (2, .int p2)]) hx hb dX10_readsNumber_63 hl (k := 0) rfl rfl (by decide) rfl (fun ls hl => ?_)
          refine lv_goto (tgt := 9) hx hb dX10_readsNumber_66 (by decide) ?_
          exact ih9 (x3 + (1 : Int32)) z18 f17 _ _ _ hP hD hS (lv_sub hl [0, 1, 2, 3] rfl) hv
        · have hv := if_y c12 hv
          refine lv_iconst (v := (0 : Int32)) hx hb dX10_readsNumber_28 (by decide) ?_
          refine lv_topi (fun z19 ez19 => ?_)
          have hv := nm_s ez19 hv
          have hn9 : narrow .boolean (.int z19) = .int z19 := (by rw [ez19]; rfl)
          cases hv
          exact W.zret hx hb hr hn9 (fun t h9 _ => ⟨rfl, by rw [h9]; exact hP, hS.F h9⟩) hS.2.2 dX10_readsNumber_29 hlk
  exact hL9 N (0 : Int32) o_place f2 _ _ _ hP hD hS (lv_sub hl [0, 1, 2, 3] rfl) hv
theorem dX10_readsStatement_0 : decode cX10_readsStatement 0 = .ok (.aload_n 0, 1) := by decide +kernel
theorem dX10_readsStatement_1 : decode cX10_readsStatement 1 = .ok (.invokevirtual 123, 3) := by decide +kernel
theorem dX10_readsStatement_4 : decode cX10_readsStatement 4 = .ok (.istore_n 1, 1) := by decide +kernel
theorem dX10_readsStatement_5 : decode cX10_readsStatement 5 = .ok (.aload_n 0, 1) := by decide +kernel
theorem dX10_readsStatement_6 : decode cX10_readsStatement 6 = .ok (.dup, 1) := by decide +kernel
theorem dX10_readsStatement_7 : decode cX10_readsStatement 7 = .ok (.getfield 113, 3) := by decide +kernel
theorem dX10_readsStatement_10 : decode cX10_readsStatement 10 = .ok (.iconst 1, 1) := by decide +kernel
theorem dX10_readsStatement_11 : decode cX10_readsStatement 11 = .ok (.iadd, 1) := by decide +kernel
theorem dX10_readsStatement_12 : decode cX10_readsStatement 12 = .ok (.putfield 113, 3) := by decide +kernel
theorem dX10_readsStatement_15 : decode cX10_readsStatement 15 = .ok (.iload_n 1, 1) := by decide +kernel
theorem dX10_readsStatement_16 : decode cX10_readsStatement 16 = .ok (.tableswitch 175 97 115 #[92, 92, 175, 165, 175, 92, 175, 175, 175, 175, 175, 175, 175, 175, 155, 175, 165, 175, 119], 92) := by decide +kernel
theorem dX10_readsStatement_108 : decode cX10_readsStatement 108 = .ok (.aload_n 0, 1) := by decide +kernel
theorem dX10_readsStatement_109 : decode cX10_readsStatement 109 = .ok (.iconst 0, 1) := by decide +kernel
theorem dX10_readsStatement_110 : decode cX10_readsStatement 110 = .ok (.iconst 1, 1) := by decide +kernel
theorem dX10_readsStatement_111 : decode cX10_readsStatement 111 = .ok (.invokevirtual 127, 3) := by decide +kernel
theorem dX10_readsStatement_114 : decode cX10_readsStatement 114 = .ok (.ifCond .eq 16, 3) := by decide +kernel
theorem dX10_readsStatement_117 : decode cX10_readsStatement 117 = .ok (.aload_n 0, 1) := by decide +kernel
theorem dX10_readsStatement_118 : decode cX10_readsStatement 118 = .ok (.iconst 1, 1) := by decide +kernel
theorem dX10_readsStatement_119 : decode cX10_readsStatement 119 = .ok (.iconst 1, 1) := by decide +kernel
theorem dX10_readsStatement_120 : decode cX10_readsStatement 120 = .ok (.invokevirtual 127, 3) := by decide +kernel
theorem dX10_readsStatement_123 : decode cX10_readsStatement 123 = .ok (.ifCond .eq 7, 3) := by decide +kernel
theorem dX10_readsStatement_126 : decode cX10_readsStatement 126 = .ok (.iconst 1, 1) := by decide +kernel
theorem dX10_readsStatement_127 : decode cX10_readsStatement 127 = .ok (.goto 4, 3) := by decide +kernel
theorem dX10_readsStatement_130 : decode cX10_readsStatement 130 = .ok (.iconst 0, 1) := by decide +kernel
theorem dX10_readsStatement_131 : decode cX10_readsStatement 131 = .ok (.istore_n 2, 1) := by decide +kernel
theorem dX10_readsStatement_132 : decode cX10_readsStatement 132 = .ok (.goto 71, 3) := by decide +kernel
theorem dX10_readsStatement_135 : decode cX10_readsStatement 135 = .ok (.aload_n 0, 1) := by decide +kernel
theorem dX10_readsStatement_136 : decode cX10_readsStatement 136 = .ok (.iconst 0, 1) := by decide +kernel
theorem dX10_readsStatement_137 : decode cX10_readsStatement 137 = .ok (.iconst 1, 1) := by decide +kernel
theorem dX10_readsStatement_138 : decode cX10_readsStatement 138 = .ok (.invokevirtual 127, 3) := by decide +kernel
theorem dX10_readsStatement_141 : decode cX10_readsStatement 141 = .ok (.ifCond .eq 25, 3) := by decide +kernel
theorem dX10_readsStatement_144 : decode cX10_readsStatement 144 = .ok (.aload_n 0, 1) := by decide +kernel
theorem dX10_readsStatement_145 : decode cX10_readsStatement 145 = .ok (.iconst 1, 1) := by decide +kernel
theorem dX10_readsStatement_146 : decode cX10_readsStatement 146 = .ok (.iconst 1, 1) := by decide +kernel
theorem dX10_readsStatement_147 : decode cX10_readsStatement 147 = .ok (.invokevirtual 127, 3) := by decide +kernel
theorem dX10_readsStatement_150 : decode cX10_readsStatement 150 = .ok (.ifCond .eq 16, 3) := by decide +kernel
theorem dX10_readsStatement_153 : decode cX10_readsStatement 153 = .ok (.aload_n 0, 1) := by decide +kernel
theorem dX10_readsStatement_154 : decode cX10_readsStatement 154 = .ok (.iconst 2, 1) := by decide +kernel
theorem dX10_readsStatement_155 : decode cX10_readsStatement 155 = .ok (.iconst 1, 1) := by decide +kernel
theorem dX10_readsStatement_156 : decode cX10_readsStatement 156 = .ok (.invokevirtual 127, 3) := by decide +kernel
theorem dX10_readsStatement_159 : decode cX10_readsStatement 159 = .ok (.ifCond .eq 7, 3) := by decide +kernel
theorem dX10_readsStatement_162 : decode cX10_readsStatement 162 = .ok (.iconst 1, 1) := by decide +kernel
theorem dX10_readsStatement_163 : decode cX10_readsStatement 163 = .ok (.goto 4, 3) := by decide +kernel
theorem dX10_readsStatement_166 : decode cX10_readsStatement 166 = .ok (.iconst 0, 1) := by decide +kernel
theorem dX10_readsStatement_167 : decode cX10_readsStatement 167 = .ok (.istore_n 2, 1) := by decide +kernel
theorem dX10_readsStatement_168 : decode cX10_readsStatement 168 = .ok (.goto 35, 3) := by decide +kernel
theorem dX10_readsStatement_171 : decode cX10_readsStatement 171 = .ok (.aload_n 0, 1) := by decide +kernel
theorem dX10_readsStatement_172 : decode cX10_readsStatement 172 = .ok (.iconst 0, 1) := by decide +kernel
theorem dX10_readsStatement_173 : decode cX10_readsStatement 173 = .ok (.iconst 1, 1) := by decide +kernel
theorem dX10_readsStatement_174 : decode cX10_readsStatement 174 = .ok (.invokevirtual 127, 3) := by decide +kernel
theorem dX10_readsStatement_177 : decode cX10_readsStatement 177 = .ok (.istore_n 2, 1) := by decide +kernel
theorem dX10_readsStatement_178 : decode cX10_readsStatement 178 = .ok (.goto 25, 3) := by decide +kernel
theorem dX10_readsStatement_181 : decode cX10_readsStatement 181 = .ok (.aload_n 0, 1) := by decide +kernel
theorem dX10_readsStatement_182 : decode cX10_readsStatement 182 = .ok (.iconst 0, 1) := by decide +kernel
theorem dX10_readsStatement_183 : decode cX10_readsStatement 183 = .ok (.iconst 2, 1) := by decide +kernel
theorem dX10_readsStatement_184 : decode cX10_readsStatement 184 = .ok (.invokevirtual 127, 3) := by decide +kernel
theorem dX10_readsStatement_187 : decode cX10_readsStatement 187 = .ok (.istore_n 2, 1) := by decide +kernel
theorem dX10_readsStatement_188 : decode cX10_readsStatement 188 = .ok (.goto 15, 3) := by decide +kernel
theorem dX10_readsStatement_191 : decode cX10_readsStatement 191 = .ok (.aload_n 0, 1) := by decide +kernel
theorem dX10_readsStatement_192 : decode cX10_readsStatement 192 = .ok (.dup, 1) := by decide +kernel
theorem dX10_readsStatement_193 : decode cX10_readsStatement 193 = .ok (.getfield 113, 3) := by decide +kernel
theorem dX10_readsStatement_196 : decode cX10_readsStatement 196 = .ok (.iconst 1, 1) := by decide +kernel
theorem dX10_readsStatement_197 : decode cX10_readsStatement 197 = .ok (.isub, 1) := by decide +kernel
theorem dX10_readsStatement_198 : decode cX10_readsStatement 198 = .ok (.putfield 113, 3) := by decide +kernel
theorem dX10_readsStatement_201 : decode cX10_readsStatement 201 = .ok (.iconst 0, 1) := by decide +kernel
theorem dX10_readsStatement_202 : decode cX10_readsStatement 202 = .ok (.ireturn, 1) := by decide +kernel
theorem dX10_readsStatement_203 : decode cX10_readsStatement 203 = .ok (.iload_n 2, 1) := by decide +kernel
theorem dX10_readsStatement_204 : decode cX10_readsStatement 204 = .ok (.ifCond .eq 12, 3) := by decide +kernel
theorem dX10_readsStatement_207 : decode cX10_readsStatement 207 = .ok (.aload_n 0, 1) := by decide +kernel
theorem dX10_readsStatement_208 : decode cX10_readsStatement 208 = .ok (.invokevirtual 123, 3) := by decide +kernel
theorem dX10_readsStatement_211 : decode cX10_readsStatement 211 = .ok (.bipush 59, 2) := by decide +kernel
theorem dX10_readsStatement_213 : decode cX10_readsStatement 213 = .ok (.if_icmp .eq 5, 3) := by decide +kernel
theorem dX10_readsStatement_216 : decode cX10_readsStatement 216 = .ok (.iconst 0, 1) := by decide +kernel
theorem dX10_readsStatement_217 : decode cX10_readsStatement 217 = .ok (.ireturn, 1) := by decide +kernel
theorem dX10_readsStatement_218 : decode cX10_readsStatement 218 = .ok (.aload_n 0, 1) := by decide +kernel
theorem dX10_readsStatement_219 : decode cX10_readsStatement 219 = .ok (.dup, 1) := by decide +kernel
theorem dX10_readsStatement_220 : decode cX10_readsStatement 220 = .ok (.getfield 113, 3) := by decide +kernel
theorem dX10_readsStatement_223 : decode cX10_readsStatement 223 = .ok (.iconst 1, 1) := by decide +kernel
theorem dX10_readsStatement_224 : decode cX10_readsStatement 224 = .ok (.iadd, 1) := by decide +kernel
theorem dX10_readsStatement_225 : decode cX10_readsStatement 225 = .ok (.putfield 113, 3) := by decide +kernel
theorem dX10_readsStatement_228 : decode cX10_readsStatement 228 = .ok (.iconst 1, 1) := by decide +kernel
theorem dX10_readsStatement_229 : decode cX10_readsStatement 229 = .ok (.ireturn, 1) := by decide +kernel
def f_X10_readsStatement (N : Nat) (o_place : Int32) (o_rowAt : Int32) (o_rowEnd : Int32) (o_numbers : Nat → Int32) (o_element : Nat → Int32) : Option (Int32 × Int32 × (Nat → Int32)) := ob (f_X10_here o_place o_rowAt o_rowEnd o_element) (fun r1 => nm (o_place + (1 : Int32)) (fun z3 => if r1 = (97 : Int32) then ob (f_X10_readsNumber N z3 o_rowAt o_rowEnd o_numbers o_element (0 : Int32) (1 : Int32)) (fun (r5, y6, y7) => if r5 = 0 then if (0 : Int32) = 0 then nm (0 : Int32) (fun z11 => some (z11, y6, y7)) else ob (f_X10_here y6 o_rowAt o_rowEnd o_element) (fun r12 => if r12 = (59 : Int32) then nm (y6 + (1 : Int32)) (fun z15 => nm (1 : Int32) (fun z16 => some (z16, z15, y7))) else nm (0 : Int32) (fun z17 => some (z17, y6, y7))) else ob (f_X10_readsNumber N y6 o_rowAt o_rowEnd y7 o_element (1 : Int32) (1 : Int32)) (fun (r18, y19, y20) => if r18 = 0 then if (0 : Int32) = 0 then nm (0 : Int32) (fun z24 => some (z24, y19, y20)) else ob (f_X10_here y19 o_rowAt o_rowEnd o_element) (fun r25 => if r25 = (59 : Int32) then nm (y19 + (1 : Int32)) (fun z28 => nm (1 : Int32) (fun z29 => some (z29, z28, y20))) else nm (0 : Int32) (fun z30 => some (z30, y19, y20))) else if (1 : Int32) = 0 then nm (0 : Int32) (fun z32 => some (z32, y19, y20)) else ob (f_X10_here y19 o_rowAt o_rowEnd o_element) (fun r33 => if r33 = (59 : Int32) then nm (y19 + (1 : Int32)) (fun z36 => nm (1 : Int32) (fun z37 => some (z37, z36, y20))) else nm (0 : Int32) (fun z38 => some (z38, y19, y20))))) else if r1 = (98 : Int32) then ob (f_X10_readsNumber N z3 o_rowAt o_rowEnd o_numbers o_element (0 : Int32) (1 : Int32)) (fun (r40, y41, y42) => if r40 = 0 then if (0 : Int32) = 0 then nm (0 : Int32) (fun z46 => some (z46, y41, y42)) else ob (f_X10_here y41 o_rowAt o_rowEnd o_element) (fun r47 => if r47 = (59 : Int32) then nm (y41 + (1 : Int32)) (fun z50 => nm (1 : Int32) (fun z51 => some (z51, z50, y42))) else nm (0 : Int32) (fun z52 => some (z52, y41, y42))) else ob (f_X10_readsNumber N y41 o_rowAt o_rowEnd y42 o_element (1 : Int32) (1 : Int32)) (fun (r53, y54, y55) => if r53 = 0 then if (0 : Int32) = 0 then nm (0 : Int32) (fun z59 => some (z59, y54, y55)) else ob (f_X10_here y54 o_rowAt o_rowEnd o_element) (fun r60 => if r60 = (59 : Int32) then nm (y54 + (1 : Int32)) (fun z63 => nm (1 : Int32) (fun z64 => some (z64, z63, y55))) else nm (0 : Int32) (fun z65 => some (z65, y54, y55))) else if (1 : Int32) = 0 then nm (0 : Int32) (fun z67 => some (z67, y54, y55)) else ob (f_X10_here y54 o_rowAt o_rowEnd o_element) (fun r68 => if r68 = (59 : Int32) then nm (y54 + (1 : Int32)) (fun z71 => nm (1 : Int32) (fun z72 => some (z72, z71, y55))) else nm (0 : Int32) (fun z73 => some (z73, y54, y55))))) else if r1 = (100 : Int32) then ob (f_X10_readsNumber N z3 o_rowAt o_rowEnd o_numbers o_element (0 : Int32) (2 : Int32)) (fun (r75, y76, y77) => if r75 = 0 then nm (0 : Int32) (fun z80 => some (z80, y76, y77)) else ob (f_X10_here y76 o_rowAt o_rowEnd o_element) (fun r81 => if r81 = (59 : Int32) then nm (y76 + (1 : Int32)) (fun z84 => nm (1 : Int32) (fun z85 => some (z85, z84, y77))) else nm (0 : Int32) (fun z86 => some (z86, y76, y77)))) else if r1 = (102 : Int32) then ob (f_X10_readsNumber N z3 o_rowAt o_rowEnd o_numbers o_element (0 : Int32) (1 : Int32)) (fun (r88, y89, y90) => if r88 = 0 then if (0 : Int32) = 0 then nm (0 : Int32) (fun z94 => some (z94, y89, y90)) else ob (f_X10_here y89 o_rowAt o_rowEnd o_element) (fun r95 => if r95 = (59 : Int32) then nm (y89 + (1 : Int32)) (fun z98 => nm (1 : Int32) (fun z99 => some (z99, z98, y90))) else nm (0 : Int32) (fun z100 => some (z100, y89, y90))) else ob (f_X10_readsNumber N y89 o_rowAt o_rowEnd y90 o_element (1 : Int32) (1 : Int32)) (fun (r101, y102, y103) => if r101 = 0 then if (0 : Int32) = 0 then nm (0 : Int32) (fun z107 => some (z107, y102, y103)) else ob (f_X10_here y102 o_rowAt o_rowEnd o_element) (fun r108 => if r108 = (59 : Int32) then nm (y102 + (1 : Int32)) (fun z111 => nm (1 : Int32) (fun z112 => some (z112, z111, y103))) else nm (0 : Int32) (fun z113 => some (z113, y102, y103))) else if (1 : Int32) = 0 then nm (0 : Int32) (fun z115 => some (z115, y102, y103)) else ob (f_X10_here y102 o_rowAt o_rowEnd o_element) (fun r116 => if r116 = (59 : Int32) then nm (y102 + (1 : Int32)) (fun z119 => nm (1 : Int32) (fun z120 => some (z120, z119, y103))) else nm (0 : Int32) (fun z121 => some (z121, y102, y103))))) else if r1 = (111 : Int32) then ob (f_X10_readsNumber N z3 o_rowAt o_rowEnd o_numbers o_element (0 : Int32) (1 : Int32)) (fun (r123, y124, y125) => if r123 = 0 then nm (0 : Int32) (fun z128 => some (z128, y124, y125)) else ob (f_X10_here y124 o_rowAt o_rowEnd o_element) (fun r129 => if r129 = (59 : Int32) then nm (y124 + (1 : Int32)) (fun z132 => nm (1 : Int32) (fun z133 => some (z133, z132, y125))) else nm (0 : Int32) (fun z134 => some (z134, y124, y125)))) else if r1 = (113 : Int32) then ob (f_X10_readsNumber N z3 o_rowAt o_rowEnd o_numbers o_element (0 : Int32) (2 : Int32)) (fun (r136, y137, y138) => if r136 = 0 then nm (0 : Int32) (fun z141 => some (z141, y137, y138)) else ob (f_X10_here y137 o_rowAt o_rowEnd o_element) (fun r142 => if r142 = (59 : Int32) then nm (y137 + (1 : Int32)) (fun z145 => nm (1 : Int32) (fun z146 => some (z146, z145, y138))) else nm (0 : Int32) (fun z147 => some (z147, y137, y138)))) else if r1 = (115 : Int32) then ob (f_X10_readsNumber N z3 o_rowAt o_rowEnd o_numbers o_element (0 : Int32) (1 : Int32)) (fun (r149, y150, y151) => if r149 = 0 then if (0 : Int32) = 0 then nm (0 : Int32) (fun z155 => some (z155, y150, y151)) else ob (f_X10_here y150 o_rowAt o_rowEnd o_element) (fun r156 => if r156 = (59 : Int32) then nm (y150 + (1 : Int32)) (fun z159 => nm (1 : Int32) (fun z160 => some (z160, z159, y151))) else nm (0 : Int32) (fun z161 => some (z161, y150, y151))) else ob (f_X10_readsNumber N y150 o_rowAt o_rowEnd y151 o_element (1 : Int32) (1 : Int32)) (fun (r162, y163, y164) => if r162 = 0 then if (0 : Int32) = 0 then nm (0 : Int32) (fun z168 => some (z168, y163, y164)) else ob (f_X10_here y163 o_rowAt o_rowEnd o_element) (fun r169 => if r169 = (59 : Int32) then nm (y163 + (1 : Int32)) (fun z172 => nm (1 : Int32) (fun z173 => some (z173, z172, y164))) else nm (0 : Int32) (fun z174 => some (z174, y163, y164))) else ob (f_X10_readsNumber N y163 o_rowAt o_rowEnd y164 o_element (2 : Int32) (1 : Int32)) (fun (r175, y176, y177) => if r175 = 0 then if (0 : Int32) = 0 then nm (0 : Int32) (fun z181 => some (z181, y176, y177)) else ob (f_X10_here y176 o_rowAt o_rowEnd o_element) (fun r182 => if r182 = (59 : Int32) then nm (y176 + (1 : Int32)) (fun z185 => nm (1 : Int32) (fun z186 => some (z186, z185, y177))) else nm (0 : Int32) (fun z187 => some (z187, y176, y177))) else if (1 : Int32) = 0 then nm (0 : Int32) (fun z189 => some (z189, y176, y177)) else ob (f_X10_here y176 o_rowAt o_rowEnd o_element) (fun r190 => if r190 = (59 : Int32) then nm (y176 + (1 : Int32)) (fun z193 => nm (1 : Int32) (fun z194 => some (z194, z193, y177))) else nm (0 : Int32) (fun z195 => some (z195, y176, y177)))))) else nm (z3 - (1 : Int32)) (fun z196 => nm (0 : Int32) (fun z197 => some (z197, z196, o_numbers)))))
set_option maxHeartbeats 4000000 in
set_option maxRecDepth 100000 in
theorem c_X10_readsStatement (l : Launch) (E : EE) (o_h : Nat) (o_a0 : Nat) (o_a1 : Nat) (o_a2 : Nat) (o_a3 : Nat) (o_a8 : Nat) (o_a9 : Nat) (o_a11 : Nat) (o_a12 : Nat) (o_a13 : Nat) (o_a14 : Nat) (o_a15 : Nat) (o_a16 : Nat) (o_s : Nat → Int32) (o_m : Nat → Int32) (o_image : Nat → Int32) (o_was : Nat → Int32) (o_hasImage : Int32) (o_place : Int32) (o_rowAt : Int32) (o_rowEnd : Int32) (o_numbers : Nat → Int32) (o_most : Nat → Int32) (o_seed : Int32) (o_kept : Nat → Int32) (o_keptKind : Nat → Int32) (o_keptFigure : Nat → Int32) (o_sort : Nat → Int32) (o_size : Nat → Int32) (o_element : Nat → Int32) (o_thrown : Int32) (N : Nat) (res : Int32) (w_o_place : Int32) (w_o_numbers : Nat → Int32) (hv : f_X10_readsStatement N o_place o_rowAt o_rowEnd o_numbers o_element = some (res, w_o_place, w_o_numbers)) : Wr l E yX10_readsStatement cX10_readsStatement 3 (some .boolean) ({ frames := 2, cells := 0, slots := 0, locals := 45 }) [.ref o_h] [oMo o_h o_a0 o_a1 o_a2 o_a3 o_hasImage o_place o_rowAt o_rowEnd o_a8 o_a9 o_seed o_a11 o_a12 o_a13 o_a14 o_a15 o_a16 o_thrown, ai E o_a0 42 o_s, ai E o_a1 42 o_m, ai E o_a2 42 o_image, ai E o_a3 42 o_was, ai E o_a8 3 o_numbers, ai E o_a9 8192 o_most, ai E o_a11 8 o_kept, ai E o_a12 8 o_keptKind, ai E o_a13 8 o_keptFigure, ai E o_a14 8 o_sort, ai E o_a15 8 o_size, ai E o_a16 800 o_element] [oMo o_h o_a0 o_a1 o_a2 o_a3 o_hasImage w_o_place o_rowAt o_rowEnd o_a8 o_a9 o_seed o_a11 o_a12 o_a13 o_a14 o_a15 o_a16 o_thrown, ai E o_a0 42 o_s, ai E o_a1 42 o_m, ai E o_a2 42 o_image, ai E o_a3 42 o_was, ai E o_a8 3 w_o_numbers, ai E o_a9 8192 o_most, ai E o_a11 8 o_kept, ai E o_a12 8 o_keptKind, ai E o_a13 8 o_keptFigure, ai E o_a14 8 o_sort, ai E o_a15 8 o_size, ai E o_a16 800 o_element] (some (.int res)) := by
  refine Wr.intro RX10 (by decide) rfl (Nat.le_of_ble_eq_true rfl) ?_
  intro p e s m below meth c ls A hC hr hlk hmn hP hD hS hA hG hl
  obtain ⟨hx, hb, hml, hown, ht⟩ := id hC
  have hK := hG.1
  have hl : lv_has ls 3 [(0, .ref o_h)] := hl
  rw [f_X10_readsStatement] at hv
  refine lv_aload_n hx hb dX10_readsStatement_0 rfl (lv_at hl 0 rfl) ?_
  obtain ⟨r1, h2, hv⟩ := ob_s hv
  refine rdV 4 0 (As := []) (rest := []) (st1 := [.int r1]) (w := [oMo o_h o_a0 o_a1 o_a2 o_a3 o_hasImage o_place o_rowAt o_rowEnd o_a8 o_a9 o_seed o_a11 o_a12 o_a13 o_a14 o_a15 o_a16 o_thrown, ai E o_a0 42 o_s, ai E o_a1 42 o_m, ai E o_a2 42 o_image, ai E o_a3 42 o_was, ai E o_a8 3 o_numbers, ai E o_a9 8192 o_most, ai E o_a11 8 o_kept, ai E o_a12 8 o_keptKind, ai E o_a13 8 o_keptFigure, ai E o_a14 8 o_sort, ai E o_a15 8 o_size, ai E o_a16 800 o_element]) hC q_X10_here kw_4_207 (c_X10_here l E o_h o_a0 o_a1 o_a2 o_a3 o_a8 o_a9 o_a11 o_a12 o_a13 o_a14 o_a15 o_a16 o_s o_m o_image o_was o_hasImage o_place o_rowAt o_rowEnd o_numbers o_most o_seed o_kept o_keptKind o_keptFigure o_sort o_size o_element o_thrown r1 h2) ⟨rfl, rfl⟩ ⟨Nat.le_of_ble_eq_true rfl, Nat.le_of_ble_eq_true rfl⟩ ⟨Nat.zero_le _, Nat.zero_le _⟩ hP rfl rfl rfl hG rfl hl.1 rfl (Nat.le_of_ble_eq_true rfl) dX10_readsStatement_1 rfl ?_
  refine lv_istore_n (lv' := [(1, .int r1), (0, .ref o_h)]) hx hb dX10_readsStatement_4 rfl hl (by decide) rfl (fun ls hl => ?_)
  refine lv_aload_n hx hb dX10_readsStatement_5 rfl (lv_at hl 1 rfl) ?_
  refine lv_dup hx hb dX10_readsStatement_6 rfl ?_
  refine va_get (D := E.1) (ci := 4) (v := .int o_place) (C := RX10) (T := TX10) (N := 18) hx hb ht i_X10 hown hK hP 0 rfl rfl 5 (by decide) (ht _ kw_4_139) (fun _ h9 => h9) rfl dX10_readsStatement_7 ?_
  refine lv_iconst (v := (1 : Int32)) hx hb dX10_readsStatement_10 (by decide) ?_
  refine lv_iadd hx hb dX10_readsStatement_11 ?_
  refine lv_topi (fun z3 ez3 => ?_)
  have hv := nm_s ez3 hv
  refine va_put (D := E.1) (ci := 4) (v := .int z3) (ty := .int) (C := RX10) (T := TX10) (N := 18) hx hb ht i_X10 tyX10 tyX10_ok nmX10 hown hK hP hD hS 0 rfl rfl 5 (by decide) (ht _ kw_4_139) (fun _ h9 => h9) rfl (by decide +kernel) rfl rfl (Nat.le_of_ble_eq_true rfl) dX10_readsStatement_12 (fun H locs hP hD hS => ?_)
  have hP : va_P E.1 vwCl [oMo o_h o_a0 o_a1 o_a2 o_a3 o_hasImage z3 o_rowAt o_rowEnd o_a8 o_a9 o_seed o_a11 o_a12 o_a13 o_a14 o_a15 o_a16 o_thrown, ai E o_a0 42 o_s, ai E o_a1 42 o_m, ai E o_a2 42 o_image, ai E o_a3 42 o_was, ai E o_a8 3 o_numbers, ai E o_a9 8192 o_most, ai E o_a11 8 o_kept, ai E o_a12 8 o_keptKind, ai E o_a13 8 o_keptFigure, ai E o_a14 8 o_sort, ai E o_a15 8 o_size, ai E o_a16 800 o_element] H := hP
  have hD : va_D A [oMo o_h o_a0 o_a1 o_a2 o_a3 o_hasImage z3 o_rowAt o_rowEnd o_a8 o_a9 o_seed o_a11 o_a12 o_a13 o_a14 o_a15 o_a16 o_thrown, ai E o_a0 42 o_s, ai E o_a1 42 o_m, ai E o_a2 42 o_image, ai E o_a3 42 o_was, ai E o_a8 3 o_numbers, ai E o_a9 8192 o_most, ai E o_a11 8 o_kept, ai E o_a12 8 o_keptKind, ai E o_a13 8 o_keptFigure, ai E o_a14 8 o_sort, ai E o_a15 8 o_size, ai E o_a16 800 o_element] := hD
  refine lv_iload_n hx hb dX10_readsStatement_15 rfl (lv_at hl 0 rfl) ?_
  rcases Decidable.em (r1 = (97 : Int32)) with c4 | c4
  · have hv := if_y c4 hv
    refine lv_tableIn (tgt := 108) (off := 92) hx hb dX10_readsStatement_16 (by rw [c4]; decide) (by rw [c4]; decide) (by rw [c4]; rfl) (by decide) ?_
    refine lv_aload_n hx hb dX10_readsStatement_108 rfl (lv_at hl 1 rfl) ?_
    refine lv_iconst (v := (0 : Int32)) hx hb dX10_readsStatement_109 (by decide) ?_
    refine lv_iconst (v := (1 : Int32)) hx hb dX10_readsStatement_110 (by decide) ?_
    obtain ⟨⟨r5, y6, y7⟩, h8, hv⟩ := ob_s hv
    refine wrV (as := [o_h, o_a0, o_a1, o_a2, o_a3, o_a8, o_a9, o_a11, o_a12, o_a13, o_a14, o_a15, o_a16]) (wr := []) [0, 1, 2, 3, 4, 5, 6, 7, 8, 9, 10, 11, 12] [] 4 0 (ws := [oMo o_h o_a0 o_a1 o_a2 o_a3 o_hasImage z3 o_rowAt o_rowEnd o_a8 o_a9 o_seed o_a11 o_a12 o_a13 o_a14 o_a15 o_a16 o_thrown, ai E o_a0 42 o_s, ai E o_a1 42 o_m, ai E o_a2 42 o_image, ai E o_a3 42 o_was, ai E o_a8 3 o_numbers, ai E o_a9 8192 o_most, ai E o_a11 8 o_kept, ai E o_a12 8 o_keptKind, ai E o_a13 8 o_keptFigure, ai E o_a14 8 o_sort, ai E o_a15 8 o_size, ai E o_a16 800 o_element]) (ws' := [oMo o_h o_a0 o_a1 o_a2 o_a3 o_hasImage y6 o_rowAt o_rowEnd o_a8 o_a9 o_seed o_a11 o_a12 o_a13 o_a14 o_a15 o_a16 o_thrown, ai E o_a0 42 o_s, ai E o_a1 42 o_m, ai E o_a2 42 o_image, ai E o_a3 42 o_was, ai E o_a8 3 y7, ai E o_a9 8192 o_most, ai E o_a11 8 o_kept, ai E o_a12 8 o_keptKind, ai E o_a13 8 o_keptFigure, ai E o_a14 8 o_sort, ai E o_a15 8 o_size, ai E o_a16 800 o_element]) (As := [.int (0 : Int32), .int (1 : Int32)]) (rest := []) (st1 := [.int r5]) hC q_X10_readsNumber kw_4_211 (c_X10_readsNumber l E o_h o_a0 o_a1 o_a2 o_a3 o_a8 o_a9 o_a11 o_a12 o_a13 o_a14 o_a15 o_a16 o_s o_m o_image o_was o_hasImage z3 o_rowAt o_rowEnd o_numbers o_most o_seed o_kept o_keptKind o_keptFigure o_sort o_size o_element o_thrown (0 : Int32) (1 : Int32) N r5 y6 y7 h8) ⟨rfl, rfl⟩ ⟨Nat.le_of_ble_eq_true rfl, Nat.le_of_ble_eq_true rfl⟩ ⟨Nat.zero_le _, Nat.zero_le _⟩ hP hD hS hA rfl rfl rfl hG (by decide) rfl rfl rfl rfl rfl rfl rfl rfl hl.1 rfl (Nat.le_of_ble_eq_true rfl) dX10_readsStatement_111 rfl (fun H locs hP hD hS => ?_)
    refine lv_if_eq (tgt := 130) hx hb dX10_readsStatement_114 (by decide) (fun c9 => ?_) (fun c9 => ?_)
    · have hv := if_y c9 hv
      refine lv_iconst (v := (0 : Int32)) hx hb dX10_readsStatement_130 (by decide) ?_
      refine lv_istore_n (lv' := [(2, .int (0 : Int32)), (1, .int r1), (0, .ref o_h)]) hx hb dX10_readsStatement_131 rfl hl (by decide) rfl (fun ls hl => ?_)
      refine lv_goto (tgt := 203) hx hb dX10_readsStatement_132 (by decide) ?_
      refine lv_iload_n hx hb dX10_readsStatement_203 rfl (lv_at hl 0 rfl) ?_
      refine lv_if_eq (tgt := 216) hx hb dX10_readsStatement_204 (by decide) (fun c10 => ?_) (fun c10 => ?_)
      · have hv := if_y c10 hv
        refine lv_iconst (v := (0 : Int32)) hx hb dX10_readsStatement_216 (by decide) ?_
        refine lv_topi (fun z11 ez11 => ?_)
        have hv := nm_s ez11 hv
        have hn9 : narrow .boolean (.int z11) = .int z11 := (by rw [ez11]; rfl)
        cases hv
        exact W.zret hx hb hr hn9 (fun t h9 _ => ⟨rfl, by rw [h9]; exact hP, hS.F h9⟩) hS.2.2 dX10_readsStatement_217 hlk
      · have hv := if_n c10 hv
        refine lv_aload_n hx hb dX10_readsStatement_207 rfl (lv_at hl 2 rfl) ?_
        obtain ⟨r12, h13, hv⟩ := ob_s hv
        refine rdV 4 0 (As := []) (rest := []) (st1 := [.int r12]) (w := [oMo o_h o_a0 o_a1 o_a2 o_a3 o_hasImage y6 o_rowAt o_rowEnd o_a8 o_a9 o_seed o_a11 o_a12 o_a13 o_a14 o_a15 o_a16 o_thrown, ai E o_a0 42 o_s, ai E o_a1 42 o_m, ai E o_a2 42 o_image, ai E o_a3 42 o_was, ai E o_a8 3 y7, ai E o_a9 8192 o_most, ai E o_a11 8 o_kept, ai E o_a12 8 o_keptKind, ai E o_a13 8 o_keptFigure, ai E o_a14 8 o_sort, ai E o_a15 8 o_size, ai E o_a16 800 o_element]) hC q_X10_here kw_4_207 (c_X10_here l E o_h o_a0 o_a1 o_a2 o_a3 o_a8 o_a9 o_a11 o_a12 o_a13 o_a14 o_a15 o_a16 o_s o_m o_image o_was o_hasImage y6 o_rowAt o_rowEnd y7 o_most o_seed o_kept o_keptKind o_keptFigure o_sort o_size o_element o_thrown r12 h13) ⟨rfl, rfl⟩ ⟨Nat.le_of_ble_eq_true rfl, Nat.le_of_ble_eq_true rfl⟩ ⟨Nat.zero_le _, Nat.zero_le _⟩ hP rfl rfl rfl hG rfl hl.1 rfl (Nat.le_of_ble_eq_true rfl) dX10_readsStatement_208 rfl ?_
        refine lv_bipush (v := (59 : Int32)) hx hb dX10_readsStatement_211 (by decide) ?_
        refine lv_icmp_eq (tgt := 218) hx hb dX10_readsStatement_213 (by decide) (fun c14 => ?_) (fun c14 => ?_)
        · have hv := if_y c14 hv
          refine lv_aload_n hx hb dX10_readsStatement_218 rfl (lv_at hl 2 rfl) ?_
          refine lv_dup hx hb dX10_readsStatement_219 rfl ?_
          refine va_get (D := E.1) (ci := 4) (v := .int y6) (C := RX10) (T := TX10) (N := 18) hx hb ht i_X10 hown hK hP 0 rfl rfl 5 (by decide) (ht _ kw_4_139) (fun _ h9 => h9) rfl dX10_readsStatement_220 ?_
          refine lv_iconst (v := (1 : Int32)) hx hb dX10_readsStatement_223 (by decide) ?_
          refine lv_iadd hx hb dX10_readsStatement_224 ?_
          refine lv_topi (fun z15 ez15 => ?_)
          have hv := nm_s ez15 hv
          refine va_put (D := E.1) (ci := 4) (v := .int z15) (ty := .int) (C := RX10) (T := TX10) (N := 18) hx hb ht i_X10 tyX10 tyX10_ok nmX10 hown hK hP hD hS 0 rfl rfl 5 (by decide) (ht _ kw_4_139) (fun _ h9 => h9) rfl (by decide +kernel) rfl rfl (Nat.le_of_ble_eq_true rfl) dX10_readsStatement_225 (fun H locs hP hD hS => ?_)
          have hP : va_P E.1 vwCl [oMo o_h o_a0 o_a1 o_a2 o_a3 o_hasImage z15 o_rowAt o_rowEnd o_a8 o_a9 o_seed o_a11 o_a12 o_a13 o_a14 o_a15 o_a16 o_thrown, ai E o_a0 42 o_s, ai E o_a1 42 o_m, ai E o_a2 42 o_image, ai E o_a3 42 o_was, ai E o_a8 3 y7, ai E o_a9 8192 o_most, ai E o_a11 8 o_kept, ai E o_a12 8 o_keptKind, ai E o_a13 8 o_keptFigure, ai E o_a14 8 o_sort, ai E o_a15 8 o_size, ai E o_a16 800 o_element] H := hP
          have hD : va_D A [oMo o_h o_a0 o_a1 o_a2 o_a3 o_hasImage z15 o_rowAt o_rowEnd o_a8 o_a9 o_seed o_a11 o_a12 o_a13 o_a14 o_a15 o_a16 o_thrown, ai E o_a0 42 o_s, ai E o_a1 42 o_m, ai E o_a2 42 o_image, ai E o_a3 42 o_was, ai E o_a8 3 y7, ai E o_a9 8192 o_most, ai E o_a11 8 o_kept, ai E o_a12 8 o_keptKind, ai E o_a13 8 o_keptFigure, ai E o_a14 8 o_sort, ai E o_a15 8 o_size, ai E o_a16 800 o_element] := hD
          refine lv_iconst (v := (1 : Int32)) hx hb dX10_readsStatement_228 (by decide) ?_
          refine lv_topi (fun z16 ez16 => ?_)
          have hv := nm_s ez16 hv
          have hn9 : narrow .boolean (.int z16) = .int z16 := (by rw [ez16]; rfl)
          cases hv
          exact W.zret hx hb hr hn9 (fun t h9 _ => ⟨rfl, by rw [h9]; exact hP, hS.F h9⟩) hS.2.2 dX10_readsStatement_229 hlk
        · have hv := if_n c14 hv
          refine lv_iconst (v := (0 : Int32)) hx hb dX10_readsStatement_216 (by decide) ?_
          refine lv_topi (fun z17 ez17 => ?_)
          have hv := nm_s ez17 hv
          have hn9 : narrow .boolean (.int z17) = .int z17 := (by rw [ez17]; rfl)
          cases hv
          exact W.zret hx hb hr hn9 (fun t h9 _ => ⟨rfl, by rw [h9]; exact hP, hS.F h9⟩) hS.2.2 dX10_readsStatement_217 hlk
    · have hv := if_n c9 hv
      refine lv_aload_n hx hb dX10_readsStatement_117 rfl (lv_at hl 1 rfl) ?_
      refine lv_iconst (v := (1 : Int32)) hx hb dX10_readsStatement_118 (by decide) ?_
      refine lv_iconst (v := (1 : Int32)) hx hb dX10_readsStatement_119 (by decide) ?_
      obtain ⟨⟨r18, y19, y20⟩, h21, hv⟩ := ob_s hv
      refine wrV (as := [o_h, o_a0, o_a1, o_a2, o_a3, o_a8, o_a9, o_a11, o_a12, o_a13, o_a14, o_a15, o_a16]) (wr := []) [0, 1, 2, 3, 4, 5, 6, 7, 8, 9, 10, 11, 12] [] 4 0 (ws := [oMo o_h o_a0 o_a1 o_a2 o_a3 o_hasImage y6 o_rowAt o_rowEnd o_a8 o_a9 o_seed o_a11 o_a12 o_a13 o_a14 o_a15 o_a16 o_thrown, ai E o_a0 42 o_s, ai E o_a1 42 o_m, ai E o_a2 42 o_image, ai E o_a3 42 o_was, ai E o_a8 3 y7, ai E o_a9 8192 o_most, ai E o_a11 8 o_kept, ai E o_a12 8 o_keptKind, ai E o_a13 8 o_keptFigure, ai E o_a14 8 o_sort, ai E o_a15 8 o_size, ai E o_a16 800 o_element]) (ws' := [oMo o_h o_a0 o_a1 o_a2 o_a3 o_hasImage y19 o_rowAt o_rowEnd o_a8 o_a9 o_seed o_a11 o_a12 o_a13 o_a14 o_a15 o_a16 o_thrown, ai E o_a0 42 o_s, ai E o_a1 42 o_m, ai E o_a2 42 o_image, ai E o_a3 42 o_was, ai E o_a8 3 y20, ai E o_a9 8192 o_most, ai E o_a11 8 o_kept, ai E o_a12 8 o_keptKind, ai E o_a13 8 o_keptFigure, ai E o_a14 8 o_sort, ai E o_a15 8 o_size, ai E o_a16 800 o_element]) (As := [.int (1 : Int32), .int (1 : Int32)]) (rest := []) (st1 := [.int r18]) hC q_X10_readsNumber kw_4_211 (c_X10_readsNumber l E o_h o_a0 o_a1 o_a2 o_a3 o_a8 o_a9 o_a11 o_a12 o_a13 o_a14 o_a15 o_a16 o_s o_m o_image o_was o_hasImage y6 o_rowAt o_rowEnd y7 o_most o_seed o_kept o_keptKind o_keptFigure o_sort o_size o_element o_thrown (1 : Int32) (1 : Int32) N r18 y19 y20 h21) ⟨rfl, rfl⟩ ⟨Nat.le_of_ble_eq_true rfl, Nat.le_of_ble_eq_true rfl⟩ ⟨Nat.zero_le _, Nat.zero_le _⟩ hP hD hS hA rfl rfl rfl hG (by decide) rfl rfl rfl rfl rfl rfl rfl rfl hl.1 rfl (Nat.le_of_ble_eq_true rfl) dX10_readsStatement_120 rfl (fun H locs hP hD hS => ?_)
      refine lv_if_eq (tgt := 130) hx hb dX10_readsStatement_123 (by decide) (fun c22 => ?_) (fun c22 => ?_)
      · have hv := if_y c22 hv
        refine lv_iconst (v := (0 : Int32)) hx hb dX10_readsStatement_130 (by decide) ?_
        refine lv_istore_n (lv' := [(2, .int (0 : Int32)), (1, .int r1), (0, .ref o_h)]) hx hb dX10_readsStatement_131 rfl hl (by decide) rfl (fun ls hl => ?_)
        refine lv_goto (tgt := 203) hx hb dX10_readsStatement_132 (by decide) ?_
        refine lv_iload_n hx hb dX10_readsStatement_203 rfl (lv_at hl 0 rfl) ?_
        refine lv_if_eq (tgt := 216) hx hb dX10_readsStatement_204 (by decide) (fun c23 => ?_) (fun c23 => ?_)
        · have hv := if_y c23 hv
          refine lv_iconst (v := (0 : Int32)) hx hb dX10_readsStatement_216 (by decide) ?_
          refine lv_topi (fun z24 ez24 => ?_)
          have hv := nm_s ez24 hv
          have hn9 : narrow .boolean (.int z24) = .int z24 := (by rw [ez24]; rfl)
          cases hv
          exact W.zret hx hb hr hn9 (fun t h9 _ => ⟨rfl, by rw [h9]; exact hP, hS.F h9⟩) hS.2.2 dX10_readsStatement_217 hlk
        · have hv := if_n c23 hv
          refine lv_aload_n hx hb dX10_readsStatement_207 rfl (lv_at hl 2 rfl) ?_
          obtain ⟨r25, h26, hv⟩ := ob_s hv
          refine rdV 4 0 (As := []) (rest := []) (st1 := [.int r25]) (w := [oMo o_h o_a0 o_a1 o_a2 o_a3 o_hasImage y19 o_rowAt o_rowEnd o_a8 o_a9 o_seed o_a11 o_a12 o_a13 o_a14 o_a15 o_a16 o_thrown, ai E o_a0 42 o_s, ai E o_a1 42 o_m, ai E o_a2 42 o_image, ai E o_a3 42 o_was, ai E o_a8 3 y20, ai E o_a9 8192 o_most, ai E o_a11 8 o_kept, ai E o_a12 8 o_keptKind, ai E o_a13 8 o_keptFigure, ai E o_a14 8 o_sort, ai E o_a15 8 o_size, ai E o_a16 800 o_element]) hC q_X10_here kw_4_207 (c_X10_here l E o_h o_a0 o_a1 o_a2 o_a3 o_a8 o_a9 o_a11 o_a12 o_a13 o_a14 o_a15 o_a16 o_s o_m o_image o_was o_hasImage y19 o_rowAt o_rowEnd y20 o_most o_seed o_kept o_keptKind o_keptFigure o_sort o_size o_element o_thrown r25 h26) ⟨rfl, rfl⟩ ⟨Nat.le_of_ble_eq_true rfl, Nat.le_of_ble_eq_true rfl⟩ ⟨Nat.zero_le _, Nat.zero_le _⟩ hP rfl rfl rfl hG rfl hl.1 rfl (Nat.le_of_ble_eq_true rfl) dX10_readsStatement_208 rfl ?_
          refine lv_bipush (v := (59 : Int32)) hx hb dX10_readsStatement_211 (by decide) ?_
          refine lv_icmp_eq (tgt := 218) hx hb dX10_readsStatement_213 (by decide) (fun c27 => ?_) (fun c27 => ?_)
          · have hv := if_y c27 hv
            refine lv_aload_n hx hb dX10_readsStatement_218 rfl (lv_at hl 2 rfl) ?_
            refine lv_dup hx hb dX10_readsStatement_219 rfl ?_
            refine va_get (D := E.1) (ci := 4) (v := .int y19) (C := RX10) (T := TX10) (N := 18) hx hb ht i_X10 hown hK hP 0 rfl rfl 5 (by decide) (ht _ kw_4_139) (fun _ h9 => h9) rfl dX10_readsStatement_220 ?_
            refine lv_iconst (v := (1 : Int32)) hx hb dX10_readsStatement_223 (by decide) ?_
            refine lv_iadd hx hb dX10_readsStatement_224 ?_
            refine lv_topi (fun z28 ez28 => ?_)
            have hv := nm_s ez28 hv
            refine va_put (D := E.1) (ci := 4) (v := .int z28) (ty := .int) (C := RX10) (T := TX10) (N := 18) hx hb ht i_X10 tyX10 tyX10_ok nmX10 hown hK hP hD hS 0 rfl rfl 5 (by decide) (ht _ kw_4_139) (fun _ h9 => h9) rfl (by decide +kernel) rfl rfl (Nat.le_of_ble_eq_true rfl) dX10_readsStatement_225 (fun H locs hP hD hS => ?_)
            have hP : va_P E.1 vwCl [oMo o_h o_a0 o_a1 o_a2 o_a3 o_hasImage z28 o_rowAt o_rowEnd o_a8 o_a9 o_seed o_a11 o_a12 o_a13 o_a14 o_a15 o_a16 o_thrown, ai E o_a0 42 o_s, ai E o_a1 42 o_m, ai E o_a2 42 o_image, ai E o_a3 42 o_was, ai E o_a8 3 y20, ai E o_a9 8192 o_most, ai E o_a11 8 o_kept, ai E o_a12 8 o_keptKind, ai E o_a13 8 o_keptFigure, ai E o_a14 8 o_sort, ai E o_a15 8 o_size, ai E o_a16 800 o_element] H := hP
            have hD : va_D A [oMo o_h o_a0 o_a1 o_a2 o_a3 o_hasImage z28 o_rowAt o_rowEnd o_a8 o_a9 o_seed o_a11 o_a12 o_a13 o_a14 o_a15 o_a16 o_thrown, ai E o_a0 42 o_s, ai E o_a1 42 o_m, ai E o_a2 42 o_image, ai E o_a3 42 o_was, ai E o_a8 3 y20, ai E o_a9 8192 o_most, ai E o_a11 8 o_kept, ai E o_a12 8 o_keptKind, ai E o_a13 8 o_keptFigure, ai E o_a14 8 o_sort, ai E o_a15 8 o_size, ai E o_a16 800 o_element] := hD
            refine lv_iconst (v := (1 : Int32)) hx hb dX10_readsStatement_228 (by decide) ?_
            refine lv_topi (fun z29 ez29 => ?_)
            have hv := nm_s ez29 hv
            have hn9 : narrow .boolean (.int z29) = .int z29 := (by rw [ez29]; rfl)
            cases hv
            exact W.zret hx hb hr hn9 (fun t h9 _ => ⟨rfl, by rw [h9]; exact hP, hS.F h9⟩) hS.2.2 dX10_readsStatement_229 hlk
          · have hv := if_n c27 hv
            refine lv_iconst (v := (0 : Int32)) hx hb dX10_readsStatement_216 (by decide) ?_
            refine lv_topi (fun z30 ez30 => ?_)
            have hv := nm_s ez30 hv
            have hn9 : narrow .boolean (.int z30) = .int z30 := (by rw [ez30]; rfl)
            cases hv
            exact W.zret hx hb hr hn9 (fun t h9 _ => ⟨rfl, by rw [h9]; exact hP, hS.F h9⟩) hS.2.2 dX10_readsStatement_217 hlk
      · have hv := if_n c22 hv
        refine lv_iconst (v := (1 : Int32)) hx hb dX10_readsStatement_126 (by decide) ?_
        refine lv_goto (tgt := 131) hx hb dX10_readsStatement_127 (by decide) ?_
        refine lv_istore_n (lv' := [(2, .int (1 : Int32)), (1, .int r1), (0, .ref o_h)]) hx hb dX10_readsStatement_131 rfl hl (by decide) rfl (fun ls hl => ?_)
        refine lv_goto (tgt := 203) hx hb dX10_readsStatement_132 (by decide) ?_
        refine lv_iload_n hx hb dX10_readsStatement_203 rfl (lv_at hl 0 rfl) ?_
        refine lv_if_eq (tgt := 216) hx hb dX10_readsStatement_204 (by decide) (fun c31 => ?_) (fun c31 => ?_)
        · have hv := if_y c31 hv
          refine lv_iconst (v := (0 : Int32)) hx hb dX10_readsStatement_216 (by decide) ?_
          refine lv_topi (fun z32 ez32 => ?_)
          have hv := nm_s ez32 hv
          have hn9 : narrow .boolean (.int z32) = .int z32 := (by rw [ez32]; rfl)
          cases hv
          exact W.zret hx hb hr hn9 (fun t h9 _ => ⟨rfl, by rw [h9]; exact hP, hS.F h9⟩) hS.2.2 dX10_readsStatement_217 hlk
        · have hv := if_n c31 hv
          refine lv_aload_n hx hb dX10_readsStatement_207 rfl (lv_at hl 2 rfl) ?_
          obtain ⟨r33, h34, hv⟩ := ob_s hv
          refine rdV 4 0 (As := []) (rest := []) (st1 := [.int r33]) (w := [oMo o_h o_a0 o_a1 o_a2 o_a3 o_hasImage y19 o_rowAt o_rowEnd o_a8 o_a9 o_seed o_a11 o_a12 o_a13 o_a14 o_a15 o_a16 o_thrown, ai E o_a0 42 o_s, ai E o_a1 42 o_m, ai E o_a2 42 o_image, ai E o_a3 42 o_was, ai E o_a8 3 y20, ai E o_a9 8192 o_most, ai E o_a11 8 o_kept, ai E o_a12 8 o_keptKind, ai E o_a13 8 o_keptFigure, ai E o_a14 8 o_sort, ai E o_a15 8 o_size, ai E o_a16 800 o_element]) hC q_X10_here kw_4_207 (c_X10_here l E o_h o_a0 o_a1 o_a2 o_a3 o_a8 o_a9 o_a11 o_a12 o_a13 o_a14 o_a15 o_a16 o_s o_m o_image o_was o_hasImage y19 o_rowAt o_rowEnd y20 o_most o_seed o_kept o_keptKind o_keptFigure o_sort o_size o_element o_thrown r33 h34) ⟨rfl, rfl⟩ ⟨Nat.le_of_ble_eq_true rfl, Nat.le_of_ble_eq_true rfl⟩ ⟨Nat.zero_le _, Nat.zero_le _⟩ hP rfl rfl rfl hG rfl hl.1 rfl (Nat.le_of_ble_eq_true rfl) dX10_readsStatement_208 rfl ?_
          refine lv_bipush (v := (59 : Int32)) hx hb dX10_readsStatement_211 (by decide) ?_
          refine lv_icmp_eq (tgt := 218) hx hb dX10_readsStatement_213 (by decide) (fun c35 => ?_) (fun c35 => ?_)
          · have hv := if_y c35 hv
            refine lv_aload_n hx hb dX10_readsStatement_218 rfl (lv_at hl 2 rfl) ?_
            refine lv_dup hx hb dX10_readsStatement_219 rfl ?_
            refine va_get (D := E.1) (ci := 4) (v := .int y19) (C := RX10) (T := TX10) (N := 18) hx hb ht i_X10 hown hK hP 0 rfl rfl 5 (by decide) (ht _ kw_4_139) (fun _ h9 => h9) rfl dX10_readsStatement_220 ?_
            refine lv_iconst (v := (1 : Int32)) hx hb dX10_readsStatement_223 (by decide) ?_
            refine lv_iadd hx hb dX10_readsStatement_224 ?_
            refine lv_topi (fun z36 ez36 => ?_)
            have hv := nm_s ez36 hv
            refine va_put (D := E.1) (ci := 4) (v := .int z36) (ty := .int) (C := RX10) (T := TX10) (N := 18) hx hb ht i_X10 tyX10 tyX10_ok nmX10 hown hK hP hD hS 0 rfl rfl 5 (by decide) (ht _ kw_4_139) (fun _ h9 => h9) rfl (by decide +kernel) rfl rfl (Nat.le_of_ble_eq_true rfl) dX10_readsStatement_225 (fun H locs hP hD hS => ?_)
            have hP : va_P E.1 vwCl [oMo o_h o_a0 o_a1 o_a2 o_a3 o_hasImage z36 o_rowAt o_rowEnd o_a8 o_a9 o_seed o_a11 o_a12 o_a13 o_a14 o_a15 o_a16 o_thrown, ai E o_a0 42 o_s, ai E o_a1 42 o_m, ai E o_a2 42 o_image, ai E o_a3 42 o_was, ai E o_a8 3 y20, ai E o_a9 8192 o_most, ai E o_a11 8 o_kept, ai E o_a12 8 o_keptKind, ai E o_a13 8 o_keptFigure, ai E o_a14 8 o_sort, ai E o_a15 8 o_size, ai E o_a16 800 o_element] H := hP
            have hD : va_D A [oMo o_h o_a0 o_a1 o_a2 o_a3 o_hasImage z36 o_rowAt o_rowEnd o_a8 o_a9 o_seed o_a11 o_a12 o_a13 o_a14 o_a15 o_a16 o_thrown, ai E o_a0 42 o_s, ai E o_a1 42 o_m, ai E o_a2 42 o_image, ai E o_a3 42 o_was, ai E o_a8 3 y20, ai E o_a9 8192 o_most, ai E o_a11 8 o_kept, ai E o_a12 8 o_keptKind, ai E o_a13 8 o_keptFigure, ai E o_a14 8 o_sort, ai E o_a15 8 o_size, ai E o_a16 800 o_element] := hD
            refine lv_iconst (v := (1 : Int32)) hx hb dX10_readsStatement_228 (by decide) ?_
            refine lv_topi (fun z37 ez37 => ?_)
            have hv := nm_s ez37 hv
            have hn9 : narrow .boolean (.int z37) = .int z37 := (by rw [ez37]; rfl)
            cases hv
            exact W.zret hx hb hr hn9 (fun t h9 _ => ⟨rfl, by rw [h9]; exact hP, hS.F h9⟩) hS.2.2 dX10_readsStatement_229 hlk
          · have hv := if_n c35 hv
            refine lv_iconst (v := (0 : Int32)) hx hb dX10_readsStatement_216 (by decide) ?_
            refine lv_topi (fun z38 ez38 => ?_)
            have hv := nm_s ez38 hv
            have hn9 : narrow .boolean (.int z38) = .int z38 := (by rw [ez38]; rfl)
            cases hv
            exact W.zret hx hb hr hn9 (fun t h9 _ => ⟨rfl, by rw [h9]; exact hP, hS.F h9⟩) hS.2.2 dX10_readsStatement_217 hlk
  · have hv := if_n c4 hv
    rcases Decidable.em (r1 = (98 : Int32)) with c39 | c39
    · have hv := if_y c39 hv
      refine lv_tableIn (tgt := 108) (off := 92) hx hb dX10_readsStatement_16 (by rw [c39]; decide) (by rw [c39]; decide) (by rw [c39]; rfl) (by decide) ?_
      refine lv_aload_n hx hb dX10_readsStatement_108 rfl (lv_at hl 1 rfl) ?_
      refine lv_iconst (v := (0 : Int32)) hx hb dX10_readsStatement_109 (by decide) ?_
      refine lv_iconst (v := (1 : Int32)) hx hb dX10_readsStatement_110 (by decide) ?_
      obtain ⟨⟨r40, y41, y42⟩, h43, hv⟩ := ob_s hv
      refine wrV (as := [o_h, o_a0, o_a1, o_a2, o_a3, o_a8, o_a9, o_a11, o_a12, o_a13, o_a14, o_a15, o_a16]) (wr := []) [0, 1, 2, 3, 4, 5, 6, 7, 8, 9, 10, 11, 12] [] 4 0 (ws := [oMo o_h o_a0 o_a1 o_a2 o_a3 o_hasImage z3 o_rowAt o_rowEnd o_a8 o_a9 o_seed o_a11 o_a12 o_a13 o_a14 o_a15 o_a16 o_thrown, ai E o_a0 42 o_s, ai E o_a1 42 o_m, ai E o_a2 42 o_image, ai E o_a3 42 o_was, ai E o_a8 3 o_numbers, ai E o_a9 8192 o_most, ai E o_a11 8 o_kept, ai E o_a12 8 o_keptKind, ai E o_a13 8 o_keptFigure, ai E o_a14 8 o_sort, ai E o_a15 8 o_size, ai E o_a16 800 o_element]) (ws' := [oMo o_h o_a0 o_a1 o_a2 o_a3 o_hasImage y41 o_rowAt o_rowEnd o_a8 o_a9 o_seed o_a11 o_a12 o_a13 o_a14 o_a15 o_a16 o_thrown, ai E o_a0 42 o_s, ai E o_a1 42 o_m, ai E o_a2 42 o_image, ai E o_a3 42 o_was, ai E o_a8 3 y42, ai E o_a9 8192 o_most, ai E o_a11 8 o_kept, ai E o_a12 8 o_keptKind, ai E o_a13 8 o_keptFigure, ai E o_a14 8 o_sort, ai E o_a15 8 o_size, ai E o_a16 800 o_element]) (As := [.int (0 : Int32), .int (1 : Int32)]) (rest := []) (st1 := [.int r40]) hC q_X10_readsNumber kw_4_211 (c_X10_readsNumber l E o_h o_a0 o_a1 o_a2 o_a3 o_a8 o_a9 o_a11 o_a12 o_a13 o_a14 o_a15 o_a16 o_s o_m o_image o_was o_hasImage z3 o_rowAt o_rowEnd o_numbers o_most o_seed o_kept o_keptKind o_keptFigure o_sort o_size o_element o_thrown (0 : Int32) (1 : Int32) N r40 y41 y42 h43) ⟨rfl, rfl⟩ ⟨Nat.le_of_ble_eq_true rfl, Nat.le_of_ble_eq_true rfl⟩ ⟨Nat.zero_le _, Nat.zero_le _⟩ hP hD hS hA rfl rfl rfl hG (by decide) rfl rfl rfl rfl rfl rfl rfl rfl hl.1 rfl (Nat.le_of_ble_eq_true rfl) dX10_readsStatement_111 rfl (fun H locs hP hD hS => ?_)
      refine lv_if_eq (tgt := 130) hx hb dX10_readsStatement_114 (by decide) (fun c44 => ?_) (fun c44 => ?_)
      · have hv := if_y c44 hv
        refine lv_iconst (v := (0 : Int32)) hx hb dX10_readsStatement_130 (by decide) ?_
        refine lv_istore_n (lv' := [(2, .int (0 : Int32)), (1, .int r1), (0, .ref o_h)]) hx hb dX10_readsStatement_131 rfl hl (by decide) rfl (fun ls hl => ?_)
        refine lv_goto (tgt := 203) hx hb dX10_readsStatement_132 (by decide) ?_
        refine lv_iload_n hx hb dX10_readsStatement_203 rfl (lv_at hl 0 rfl) ?_
        refine lv_if_eq (tgt := 216) hx hb dX10_readsStatement_204 (by decide) (fun c45 => ?_) (fun c45 => ?_)
        · have hv := if_y c45 hv
          refine lv_iconst (v := (0 : Int32)) hx hb dX10_readsStatement_216 (by decide) ?_
          refine lv_topi (fun z46 ez46 => ?_)
          have hv := nm_s ez46 hv
          have hn9 : narrow .boolean (.int z46) = .int z46 := (by rw [ez46]; rfl)
          cases hv
          exact W.zret hx hb hr hn9 (fun t h9 _ => ⟨rfl, by rw [h9]; exact hP, hS.F h9⟩) hS.2.2 dX10_readsStatement_217 hlk
        · have hv := if_n c45 hv
          refine lv_aload_n hx hb dX10_readsStatement_207 rfl (lv_at hl 2 rfl) ?_
          obtain ⟨r47, h48, hv⟩ := ob_s hv
          refine rdV 4 0 (As := []) (rest := []) (st1 := [.int r47]) (w := [oMo o_h o_a0 o_a1 o_a2 o_a3 o_hasImage y41 o_rowAt o_rowEnd o_a8 o_a9 o_seed o_a11 o_a12 o_a13 o_a14 o_a15 o_a16 o_thrown, ai E o_a0 42 o_s, ai E o_a1 42 o_m, ai E o_a2 42 o_image, ai E o_a3 42 o_was, ai E o_a8 3 y42, ai E o_a9 8192 o_most, ai E o_a11 8 o_kept, ai E o_a12 8 o_keptKind, ai E o_a13 8 o_keptFigure, ai E o_a14 8 o_sort, ai E o_a15 8 o_size, ai E o_a16 800 o_element]) hC q_X10_here kw_4_207 (c_X10_here l E o_h o_a0 o_a1 o_a2 o_a3 o_a8 o_a9 o_a11 o_a12 o_a13 o_a14 o_a15 o_a16 o_s o_m o_image o_was o_hasImage y41 o_rowAt o_rowEnd y42 o_most o_seed o_kept o_keptKind o_keptFigure o_sort o_size o_element o_thrown r47 h48) ⟨rfl, rfl⟩ ⟨Nat.le_of_ble_eq_true rfl, Nat.le_of_ble_eq_true rfl⟩ ⟨Nat.zero_le _, Nat.zero_le _⟩ hP rfl rfl rfl hG rfl hl.1 rfl (Nat.le_of_ble_eq_true rfl) dX10_readsStatement_208 rfl ?_
          refine lv_bipush (v := (59 : Int32)) hx hb dX10_readsStatement_211 (by decide) ?_
          refine lv_icmp_eq (tgt := 218) hx hb dX10_readsStatement_213 (by decide) (fun c49 => ?_) (fun c49 => ?_)
          · have hv := if_y c49 hv
            refine lv_aload_n hx hb dX10_readsStatement_218 rfl (lv_at hl 2 rfl) ?_
            refine lv_dup hx hb dX10_readsStatement_219 rfl ?_
            refine va_get (D := E.1) (ci := 4) (v := .int y41) (C := RX10) (T := TX10) (N := 18) hx hb ht i_X10 hown hK hP 0 rfl rfl 5 (by decide) (ht _ kw_4_139) (fun _ h9 => h9) rfl dX10_readsStatement_220 ?_
            refine lv_iconst (v := (1 : Int32)) hx hb dX10_readsStatement_223 (by decide) ?_
            refine lv_iadd hx hb dX10_readsStatement_224 ?_
            refine lv_topi (fun z50 ez50 => ?_)
            have hv := nm_s ez50 hv
            refine va_put (D := E.1) (ci := 4) (v := .int z50) (ty := .int) (C := RX10) (T := TX10) (N := 18) hx hb ht i_X10 tyX10 tyX10_ok nmX10 hown hK hP hD hS 0 rfl rfl 5 (by decide) (ht _ kw_4_139) (fun _ h9 => h9) rfl (by decide +kernel) rfl rfl (Nat.le_of_ble_eq_true rfl) dX10_readsStatement_225 (fun H locs hP hD hS => ?_)
            have hP : va_P E.1 vwCl [oMo o_h o_a0 o_a1 o_a2 o_a3 o_hasImage z50 o_rowAt o_rowEnd o_a8 o_a9 o_seed o_a11 o_a12 o_a13 o_a14 o_a15 o_a16 o_thrown, ai E o_a0 42 o_s, ai E o_a1 42 o_m, ai E o_a2 42 o_image, ai E o_a3 42 o_was, ai E o_a8 3 y42, ai E o_a9 8192 o_most, ai E o_a11 8 o_kept, ai E o_a12 8 o_keptKind, ai E o_a13 8 o_keptFigure, ai E o_a14 8 o_sort, ai E o_a15 8 o_size, ai E o_a16 800 o_element] H := hP
            have hD : va_D A [oMo o_h o_a0 o_a1 o_a2 o_a3 o_hasImage z50 o_rowAt o_rowEnd o_a8 o_a9 o_seed o_a11 o_a12 o_a13 o_a14 o_a15 o_a16 o_thrown, ai E o_a0 42 o_s, ai E o_a1 42 o_m, ai E o_a2 42 o_image, ai E o_a3 42 o_was, ai E o_a8 3 y42, ai E o_a9 8192 o_most, ai E o_a11 8 o_kept, ai E o_a12 8 o_keptKind, ai E o_a13 8 o_keptFigure, ai E o_a14 8 o_sort, ai E o_a15 8 o_size, ai E o_a16 800 o_element] := hD
            refine lv_iconst (v := (1 : Int32)) hx hb dX10_readsStatement_228 (by decide) ?_
            refine lv_topi (fun z51 ez51 => ?_)
            have hv := nm_s ez51 hv
            have hn9 : narrow .boolean (.int z51) = .int z51 := (by rw [ez51]; rfl)
            cases hv
            exact W.zret hx hb hr hn9 (fun t h9 _ => ⟨rfl, by rw [h9]; exact hP, hS.F h9⟩) hS.2.2 dX10_readsStatement_229 hlk
          · have hv := if_n c49 hv
            refine lv_iconst (v := (0 : Int32)) hx hb dX10_readsStatement_216 (by decide) ?_
            refine lv_topi (fun z52 ez52 => ?_)
            have hv := nm_s ez52 hv
            have hn9 : narrow .boolean (.int z52) = .int z52 := (by rw [ez52]; rfl)
            cases hv
            exact W.zret hx hb hr hn9 (fun t h9 _ => ⟨rfl, by rw [h9]; exact hP, hS.F h9⟩) hS.2.2 dX10_readsStatement_217 hlk
      · have hv := if_n c44 hv
        refine lv_aload_n hx hb dX10_readsStatement_117 rfl (lv_at hl 1 rfl) ?_
        refine lv_iconst (v := (1 : Int32)) hx hb dX10_readsStatement_118 (by decide) ?_
        refine lv_iconst (v := (1 : Int32)) hx hb dX10_readsStatement_119 (by decide) ?_
        obtain ⟨⟨r53, y54, y55⟩, h56, hv⟩ := ob_s hv
        refine wrV (as := [o_h, o_a0, o_a1, o_a2, o_a3, o_a8, o_a9, o_a11, o_a12, o_a13, o_a14, o_a15, o_a16]) (wr := []) [0, 1, 2, 3, 4, 5, 6, 7, 8, 9, 10, 11, 12] [] 4 0 (ws := [oMo o_h o_a0 o_a1 o_a2 o_a3 o_hasImage y41 o_rowAt o_rowEnd o_a8 o_a9 o_seed o_a11 o_a12 o_a13 o_a14 o_a15 o_a16 o_thrown, ai E o_a0 42 o_s, ai E o_a1 42 o_m, ai E o_a2 42 o_image, ai E o_a3 42 o_was, ai E o_a8 3 y42, ai E o_a9 8192 o_most, ai E o_a11 8 o_kept, ai E o_a12 8 o_keptKind, ai E o_a13 8 o_keptFigure, ai E o_a14 8 o_sort, ai E o_a15 8 o_size, ai E o_a16 800 o_element]) (ws' := [oMo o_h o_a0 o_a1 o_a2 o_a3 o_hasImage y54 o_rowAt o_rowEnd o_a8 o_a9 o_seed o_a11 o_a12 o_a13 o_a14 o_a15 o_a16 o_thrown, ai E o_a0 42 o_s, ai E o_a1 42 o_m, ai E o_a2 42 o_image, ai E o_a3 42 o_was, ai E o_a8 3 y55, ai E o_a9 8192 o_most, ai E o_a11 8 o_kept, ai E o_a12 8 o_keptKind, ai E o_a13 8 o_keptFigure, ai E o_a14 8 o_sort, ai E o_a15 8 o_size, ai E o_a16 800 o_element]) (As := [.int (1 : Int32), .int (1 : Int32)]) (rest := []) (st1 := [.int r53]) hC q_X10_readsNumber kw_4_211 (c_X10_readsNumber l E o_h o_a0 o_a1 o_a2 o_a3 o_a8 o_a9 o_a11 o_a12 o_a13 o_a14 o_a15 o_a16 o_s o_m o_image o_was o_hasImage y41 o_rowAt o_rowEnd y42 o_most o_seed o_kept o_keptKind o_keptFigure o_sort o_size o_element o_thrown (1 : Int32) (1 : Int32) N r53 y54 y55 h56) ⟨rfl, rfl⟩ ⟨Nat.le_of_ble_eq_true rfl, Nat.le_of_ble_eq_true rfl⟩ ⟨Nat.zero_le _, Nat.zero_le _⟩ hP hD hS hA rfl rfl rfl hG (by decide) rfl rfl rfl rfl rfl rfl rfl rfl hl.1 rfl (Nat.le_of_ble_eq_true rfl) dX10_readsStatement_120 rfl (fun H locs hP hD hS => ?_)
        refine lv_if_eq (tgt := 130) hx hb dX10_readsStatement_123 (by decide) (fun c57 => ?_) (fun c57 => ?_)
        · have hv := if_y c57 hv
          refine lv_iconst (v := (0 : Int32)) hx hb dX10_readsStatement_130 (by decide) ?_
          refine lv_istore_n (lv' := [(2, .int (0 : Int32)), (1, .int r1), (0, .ref o_h)]) hx hb dX10_readsStatement_131 rfl hl (by decide) rfl (fun ls hl => ?_)
          refine lv_goto (tgt := 203) hx hb dX10_readsStatement_132 (by decide) ?_
          refine lv_iload_n hx hb dX10_readsStatement_203 rfl (lv_at hl 0 rfl) ?_
          refine lv_if_eq (tgt := 216) hx hb dX10_readsStatement_204 (by decide) (fun c58 => ?_) (fun c58 => ?_)
          · have hv := if_y c58 hv
            refine lv_iconst (v := (0 : Int32)) hx hb dX10_readsStatement_216 (by decide) ?_
            refine lv_topi (fun z59 ez59 => ?_)
            have hv := nm_s ez59 hv
            have hn9 : narrow .boolean (.int z59) = .int z59 := (by rw [ez59]; rfl)
            cases hv
            exact W.zret hx hb hr hn9 (fun t h9 _ => ⟨rfl, by rw [h9]; exact hP, hS.F h9⟩) hS.2.2 dX10_readsStatement_217 hlk
          · have hv := if_n c58 hv
            refine lv_aload_n hx hb dX10_readsStatement_207 rfl (lv_at hl 2 rfl) ?_
            obtain ⟨r60, h61, hv⟩ := ob_s hv
            refine rdV 4 0 (As := []) (rest := []) (st1 := [.int r60]) (w := [oMo o_h o_a0 o_a1 o_a2 o_a3 o_hasImage y54 o_rowAt o_rowEnd o_a8 o_a9 o_seed o_a11 o_a12 o_a13 o_a14 o_a15 o_a16 o_thrown, ai E o_a0 42 o_s, ai E o_a1 42 o_m, ai E o_a2 42 o_image, ai E o_a3 42 o_was, ai E o_a8 3 y55, ai E o_a9 8192 o_most, ai E o_a11 8 o_kept, ai E o_a12 8 o_keptKind, ai E o_a13 8 o_keptFigure, ai E o_a14 8 o_sort, ai E o_a15 8 o_size, ai E o_a16 800 o_element]) hC q_X10_here kw_4_207 (c_X10_here l E o_h o_a0 o_a1 o_a2 o_a3 o_a8 o_a9 o_a11 o_a12 o_a13 o_a14 o_a15 o_a16 o_s o_m o_image o_was o_hasImage y54 o_rowAt o_rowEnd y55 o_most o_seed o_kept o_keptKind o_keptFigure o_sort o_size o_element o_thrown r60 h61) ⟨rfl, rfl⟩ ⟨Nat.le_of_ble_eq_true rfl, Nat.le_of_ble_eq_true rfl⟩ ⟨Nat.zero_le _, Nat.zero_le _⟩ hP rfl rfl rfl hG rfl hl.1 rfl (Nat.le_of_ble_eq_true rfl) dX10_readsStatement_208 rfl ?_
            refine lv_bipush (v := (59 : Int32)) hx hb dX10_readsStatement_211 (by decide) ?_
            refine lv_icmp_eq (tgt := 218) hx hb dX10_readsStatement_213 (by decide) (fun c62 => ?_) (fun c62 => ?_)
            · have hv := if_y c62 hv
              refine lv_aload_n hx hb dX10_readsStatement_218 rfl (lv_at hl 2 rfl) ?_
              refine lv_dup hx hb dX10_readsStatement_219 rfl ?_
              refine va_get (D := E.1) (ci := 4) (v := .int y54) (C := RX10) (T := TX10) (N := 18) hx hb ht i_X10 hown hK hP 0 rfl rfl 5 (by decide) (ht _ kw_4_139) (fun _ h9 => h9) rfl dX10_readsStatement_220 ?_
              refine lv_iconst (v := (1 : Int32)) hx hb dX10_readsStatement_223 (by decide) ?_
              refine lv_iadd hx hb dX10_readsStatement_224 ?_
              refine lv_topi (fun z63 ez63 => ?_)
              have hv := nm_s ez63 hv
              refine va_put (D := E.1) (ci := 4) (v := .int z63) (ty := .int) (C := RX10) (T := TX10) (N := 18) hx hb ht i_X10 tyX10 tyX10_ok nmX10 hown hK hP hD hS 0 rfl rfl 5 (by decide) (ht _ kw_4_139) (fun _ h9 => h9) rfl (by decide +kernel) rfl rfl (Nat.le_of_ble_eq_true rfl) dX10_readsStatement_225 (fun H locs hP hD hS => ?_)
              have hP : va_P E.1 vwCl [oMo o_h o_a0 o_a1 o_a2 o_a3 o_hasImage z63 o_rowAt o_rowEnd o_a8 o_a9 o_seed o_a11 o_a12 o_a13 o_a14 o_a15 o_a16 o_thrown, ai E o_a0 42 o_s, ai E o_a1 42 o_m, ai E o_a2 42 o_image, ai E o_a3 42 o_was, ai E o_a8 3 y55, ai E o_a9 8192 o_most, ai E o_a11 8 o_kept, ai E o_a12 8 o_keptKind, ai E o_a13 8 o_keptFigure, ai E o_a14 8 o_sort, ai E o_a15 8 o_size, ai E o_a16 800 o_element] H := hP
              have hD : va_D A [oMo o_h o_a0 o_a1 o_a2 o_a3 o_hasImage z63 o_rowAt o_rowEnd o_a8 o_a9 o_seed o_a11 o_a12 o_a13 o_a14 o_a15 o_a16 o_thrown, ai E o_a0 42 o_s, ai E o_a1 42 o_m, ai E o_a2 42 o_image, ai E o_a3 42 o_was, ai E o_a8 3 y55, ai E o_a9 8192 o_most, ai E o_a11 8 o_kept, ai E o_a12 8 o_keptKind, ai E o_a13 8 o_keptFigure, ai E o_a14 8 o_sort, ai E o_a15 8 o_size, ai E o_a16 800 o_element] := hD
              refine lv_iconst (v := (1 : Int32)) hx hb dX10_readsStatement_228 (by decide) ?_
              refine lv_topi (fun z64 ez64 => ?_)
              have hv := nm_s ez64 hv
              have hn9 : narrow .boolean (.int z64) = .int z64 := (by rw [ez64]; rfl)
              cases hv
              exact W.zret hx hb hr hn9 (fun t h9 _ => ⟨rfl, by rw [h9]; exact hP, hS.F h9⟩) hS.2.2 dX10_readsStatement_229 hlk
            · have hv := if_n c62 hv
              refine lv_iconst (v := (0 : Int32)) hx hb dX10_readsStatement_216 (by decide) ?_
              refine lv_topi (fun z65 ez65 => ?_)
              have hv := nm_s ez65 hv
              have hn9 : narrow .boolean (.int z65) = .int z65 := (by rw [ez65]; rfl)
              cases hv
              exact W.zret hx hb hr hn9 (fun t h9 _ => ⟨rfl, by rw [h9]; exact hP, hS.F h9⟩) hS.2.2 dX10_readsStatement_217 hlk
        · have hv := if_n c57 hv
          refine lv_iconst (v := (1 : Int32)) hx hb dX10_readsStatement_126 (by decide) ?_
          refine lv_goto (tgt := 131) hx hb dX10_readsStatement_127 (by decide) ?_
          refine lv_istore_n (lv' := [(2, .int (1 : Int32)), (1, .int r1), (0, .ref o_h)]) hx hb dX10_readsStatement_131 rfl hl (by decide) rfl (fun ls hl => ?_)
          refine lv_goto (tgt := 203) hx hb dX10_readsStatement_132 (by decide) ?_
          refine lv_iload_n hx hb dX10_readsStatement_203 rfl (lv_at hl 0 rfl) ?_
          refine lv_if_eq (tgt := 216) hx hb dX10_readsStatement_204 (by decide) (fun c66 => ?_) (fun c66 => ?_)
          · have hv := if_y c66 hv
            refine lv_iconst (v := (0 : Int32)) hx hb dX10_readsStatement_216 (by decide) ?_
            refine lv_topi (fun z67 ez67 => ?_)
            have hv := nm_s ez67 hv
            have hn9 : narrow .boolean (.int z67) = .int z67 := (by rw [ez67]; rfl)
            cases hv
            exact W.zret hx hb hr hn9 (fun t h9 _ => ⟨rfl, by rw [h9]; exact hP, hS.F h9⟩) hS.2.2 dX10_readsStatement_217 hlk
          · have hv := if_n c66 hv
            refine lv_aload_n hx hb dX10_readsStatement_207 rfl (lv_at hl 2 rfl) ?_
            obtain ⟨r68, h69, hv⟩ := ob_s hv
            refine rdV 4 0 (As := []) (rest := []) (st1 := [.int r68]) (w := [oMo o_h o_a0 o_a1 o_a2 o_a3 o_hasImage y54 o_rowAt o_rowEnd o_a8 o_a9 o_seed o_a11 o_a12 o_a13 o_a14 o_a15 o_a16 o_thrown, ai E o_a0 42 o_s, ai E o_a1 42 o_m, ai E o_a2 42 o_image, ai E o_a3 42 o_was, ai E o_a8 3 y55, ai E o_a9 8192 o_most, ai E o_a11 8 o_kept, ai E o_a12 8 o_keptKind, ai E o_a13 8 o_keptFigure, ai E o_a14 8 o_sort, ai E o_a15 8 o_size, ai E o_a16 800 o_element]) hC q_X10_here kw_4_207 (c_X10_here l E o_h o_a0 o_a1 o_a2 o_a3 o_a8 o_a9 o_a11 o_a12 o_a13 o_a14 o_a15 o_a16 o_s o_m o_image o_was o_hasImage y54 o_rowAt o_rowEnd y55 o_most o_seed o_kept o_keptKind o_keptFigure o_sort o_size o_element o_thrown r68 h69) ⟨rfl, rfl⟩ ⟨Nat.le_of_ble_eq_true rfl, Nat.le_of_ble_eq_true rfl⟩ ⟨Nat.zero_le _, Nat.zero_le _⟩ hP rfl rfl rfl hG rfl hl.1 rfl (Nat.le_of_ble_eq_true rfl) dX10_readsStatement_208 rfl ?_
            refine lv_bipush (v := (59 : Int32)) hx hb dX10_readsStatement_211 (by decide) ?_
            refine lv_icmp_eq (tgt := 218) hx hb dX10_readsStatement_213 (by decide) (fun c70 => ?_) (fun c70 => ?_)
            · have hv := if_y c70 hv
              refine lv_aload_n hx hb dX10_readsStatement_218 rfl (lv_at hl 2 rfl) ?_
              refine lv_dup hx hb dX10_readsStatement_219 rfl ?_
              refine va_get (D := E.1) (ci := 4) (v := .int y54) (C := RX10) (T := TX10) (N := 18) hx hb ht i_X10 hown hK hP 0 rfl rfl 5 (by decide) (ht _ kw_4_139) (fun _ h9 => h9) rfl dX10_readsStatement_220 ?_
              refine lv_iconst (v := (1 : Int32)) hx hb dX10_readsStatement_223 (by decide) ?_
              refine lv_iadd hx hb dX10_readsStatement_224 ?_
              refine lv_topi (fun z71 ez71 => ?_)
              have hv := nm_s ez71 hv
              refine va_put (D := E.1) (ci := 4) (v := .int z71) (ty := .int) (C := RX10) (T := TX10) (N := 18) hx hb ht i_X10 tyX10 tyX10_ok nmX10 hown hK hP hD hS 0 rfl rfl 5 (by decide) (ht _ kw_4_139) (fun _ h9 => h9) rfl (by decide +kernel) rfl rfl (Nat.le_of_ble_eq_true rfl) dX10_readsStatement_225 (fun H locs hP hD hS => ?_)
              have hP : va_P E.1 vwCl [oMo o_h o_a0 o_a1 o_a2 o_a3 o_hasImage z71 o_rowAt o_rowEnd o_a8 o_a9 o_seed o_a11 o_a12 o_a13 o_a14 o_a15 o_a16 o_thrown, ai E o_a0 42 o_s, ai E o_a1 42 o_m, ai E o_a2 42 o_image, ai E o_a3 42 o_was, ai E o_a8 3 y55, ai E o_a9 8192 o_most, ai E o_a11 8 o_kept, ai E o_a12 8 o_keptKind, ai E o_a13 8 o_keptFigure, ai E o_a14 8 o_sort, ai E o_a15 8 o_size, ai E o_a16 800 o_element] H := hP
              have hD : va_D A [oMo o_h o_a0 o_a1 o_a2 o_a3 o_hasImage z71 o_rowAt o_rowEnd o_a8 o_a9 o_seed o_a11 o_a12 o_a13 o_a14 o_a15 o_a16 o_thrown, ai E o_a0 42 o_s, ai E o_a1 42 o_m, ai E o_a2 42 o_image, ai E o_a3 42 o_was, ai E o_a8 3 y55, ai E o_a9 8192 o_most, ai E o_a11 8 o_kept, ai E o_a12 8 o_keptKind, ai E o_a13 8 o_keptFigure, ai E o_a14 8 o_sort, ai E o_a15 8 o_size, ai E o_a16 800 o_element] := hD
              refine lv_iconst (v := (1 : Int32)) hx hb dX10_readsStatement_228 (by decide) ?_
              refine lv_topi (fun z72 ez72 => ?_)
              have hv := nm_s ez72 hv
              have hn9 : narrow .boolean (.int z72) = .int z72 := (by rw [ez72]; rfl)
              cases hv
              exact W.zret hx hb hr hn9 (fun t h9 _ => ⟨rfl, by rw [h9]; exact hP, hS.F h9⟩) hS.2.2 dX10_readsStatement_229 hlk
            · have hv := if_n c70 hv
              refine lv_iconst (v := (0 : Int32)) hx hb dX10_readsStatement_216 (by decide) ?_
              refine lv_topi (fun z73 ez73 => ?_)
              have hv := nm_s ez73 hv
              have hn9 : narrow .boolean (.int z73) = .int z73 := (by rw [ez73]; rfl)
              cases hv
              exact W.zret hx hb hr hn9 (fun t h9 _ => ⟨rfl, by rw [h9]; exact hP, hS.F h9⟩) hS.2.2 dX10_readsStatement_217 hlk
    · have hv := if_n c39 hv
      rcases Decidable.em (r1 = (100 : Int32)) with c74 | c74
      · have hv := if_y c74 hv
        refine lv_tableIn (tgt := 181) (off := 165) hx hb dX10_readsStatement_16 (by rw [c74]; decide) (by rw [c74]; decide) (by rw [c74]; rfl) (by decide) ?_
        refine lv_aload_n hx hb dX10_readsStatement_181 rfl (lv_at hl 1 rfl) ?_
        refine lv_iconst (v := (0 : Int32)) hx hb dX10_readsStatement_182 (by decide) ?_
        refine lv_iconst (v := (2 : Int32)) hx hb dX10_readsStatement_183 (by decide) ?_
        obtain ⟨⟨r75, y76, y77⟩, h78, hv⟩ := ob_s hv
        refine wrV (as := [o_h, o_a0, o_a1, o_a2, o_a3, o_a8, o_a9, o_a11, o_a12, o_a13, o_a14, o_a15, o_a16]) (wr := []) [0, 1, 2, 3, 4, 5, 6, 7, 8, 9, 10, 11, 12] [] 4 0 (ws := [oMo o_h o_a0 o_a1 o_a2 o_a3 o_hasImage z3 o_rowAt o_rowEnd o_a8 o_a9 o_seed o_a11 o_a12 o_a13 o_a14 o_a15 o_a16 o_thrown, ai E o_a0 42 o_s, ai E o_a1 42 o_m, ai E o_a2 42 o_image, ai E o_a3 42 o_was, ai E o_a8 3 o_numbers, ai E o_a9 8192 o_most, ai E o_a11 8 o_kept, ai E o_a12 8 o_keptKind, ai E o_a13 8 o_keptFigure, ai E o_a14 8 o_sort, ai E o_a15 8 o_size, ai E o_a16 800 o_element]) (ws' := [oMo o_h o_a0 o_a1 o_a2 o_a3 o_hasImage y76 o_rowAt o_rowEnd o_a8 o_a9 o_seed o_a11 o_a12 o_a13 o_a14 o_a15 o_a16 o_thrown, ai E o_a0 42 o_s, ai E o_a1 42 o_m, ai E o_a2 42 o_image, ai E o_a3 42 o_was, ai E o_a8 3 y77, ai E o_a9 8192 o_most, ai E o_a11 8 o_kept, ai E o_a12 8 o_keptKind, ai E o_a13 8 o_keptFigure, ai E o_a14 8 o_sort, ai E o_a15 8 o_size, ai E o_a16 800 o_element]) (As := [.int (0 : Int32), .int (2 : Int32)]) (rest := []) (st1 := [.int r75]) hC q_X10_readsNumber kw_4_211 (c_X10_readsNumber l E o_h o_a0 o_a1 o_a2 o_a3 o_a8 o_a9 o_a11 o_a12 o_a13 o_a14 o_a15 o_a16 o_s o_m o_image o_was o_hasImage z3 o_rowAt o_rowEnd o_numbers o_most o_seed o_kept o_keptKind o_keptFigure o_sort o_size o_element o_thrown (0 : Int32) (2 : Int32) N r75 y76 y77 h78) ⟨rfl, rfl⟩ ⟨Nat.le_of_ble_eq_true rfl, Nat.le_of_ble_eq_true rfl⟩ ⟨Nat.zero_le _, Nat.zero_le _⟩ hP hD hS hA rfl rfl rfl hG (by decide) rfl rfl rfl rfl rfl rfl rfl rfl hl.1 rfl (Nat.le_of_ble_eq_true rfl) dX10_readsStatement_184 rfl (fun H locs hP hD hS => ?_)
        refine lv_istore_n (lv' := [(2, .int r75), (1, .int r1), (0, .ref o_h)]) hx hb dX10_readsStatement_187 rfl hl (by decide) rfl (fun ls hl => ?_)
        refine lv_goto (tgt := 203) hx hb dX10_readsStatement_188 (by decide) ?_
        refine lv_iload_n hx hb dX10_readsStatement_203 rfl (lv_at hl 0 rfl) ?_
        refine lv_if_eq (tgt := 216) hx hb dX10_readsStatement_204 (by decide) (fun c79 => ?_) (fun c79 => ?_)
        · have hv := if_y c79 hv
          refine lv_iconst (v := (0 : Int32)) hx hb dX10_readsStatement_216 (by decide) ?_
          refine lv_topi (fun z80 ez80 => ?_)
          have hv := nm_s ez80 hv
          have hn9 : narrow .boolean (.int z80) = .int z80 := (by rw [ez80]; rfl)
          cases hv
          exact W.zret hx hb hr hn9 (fun t h9 _ => ⟨rfl, by rw [h9]; exact hP, hS.F h9⟩) hS.2.2 dX10_readsStatement_217 hlk
        · have hv := if_n c79 hv
          refine lv_aload_n hx hb dX10_readsStatement_207 rfl (lv_at hl 2 rfl) ?_
          obtain ⟨r81, h82, hv⟩ := ob_s hv
          refine rdV 4 0 (As := []) (rest := []) (st1 := [.int r81]) (w := [oMo o_h o_a0 o_a1 o_a2 o_a3 o_hasImage y76 o_rowAt o_rowEnd o_a8 o_a9 o_seed o_a11 o_a12 o_a13 o_a14 o_a15 o_a16 o_thrown, ai E o_a0 42 o_s, ai E o_a1 42 o_m, ai E o_a2 42 o_image, ai E o_a3 42 o_was, ai E o_a8 3 y77, ai E o_a9 8192 o_most, ai E o_a11 8 o_kept, ai E o_a12 8 o_keptKind, ai E o_a13 8 o_keptFigure, ai E o_a14 8 o_sort, ai E o_a15 8 o_size, ai E o_a16 800 o_element]) hC q_X10_here kw_4_207 (c_X10_here l E o_h o_a0 o_a1 o_a2 o_a3 o_a8 o_a9 o_a11 o_a12 o_a13 o_a14 o_a15 o_a16 o_s o_m o_image o_was o_hasImage y76 o_rowAt o_rowEnd y77 o_most o_seed o_kept o_keptKind o_keptFigure o_sort o_size o_element o_thrown r81 h82) ⟨rfl, rfl⟩ ⟨Nat.le_of_ble_eq_true rfl, Nat.le_of_ble_eq_true rfl⟩ ⟨Nat.zero_le _, Nat.zero_le _⟩ hP rfl rfl rfl hG rfl hl.1 rfl (Nat.le_of_ble_eq_true rfl) dX10_readsStatement_208 rfl ?_
          refine lv_bipush (v := (59 : Int32)) hx hb dX10_readsStatement_211 (by decide) ?_
          refine lv_icmp_eq (tgt := 218) hx hb dX10_readsStatement_213 (by decide) (fun c83 => ?_) (fun c83 => ?_)
          · have hv := if_y c83 hv
            refine lv_aload_n hx hb dX10_readsStatement_218 rfl (lv_at hl 2 rfl) ?_
            refine lv_dup hx hb dX10_readsStatement_219 rfl ?_
            refine va_get (D := E.1) (ci := 4) (v := .int y76) (C := RX10) (T := TX10) (N := 18) hx hb ht i_X10 hown hK hP 0 rfl rfl 5 (by decide) (ht _ kw_4_139) (fun _ h9 => h9) rfl dX10_readsStatement_220 ?_
            refine lv_iconst (v := (1 : Int32)) hx hb dX10_readsStatement_223 (by decide) ?_
            refine lv_iadd hx hb dX10_readsStatement_224 ?_
            refine lv_topi (fun z84 ez84 => ?_)
            have hv := nm_s ez84 hv
            refine va_put (D := E.1) (ci := 4) (v := .int z84) (ty := .int) (C := RX10) (T := TX10) (N := 18) hx hb ht i_X10 tyX10 tyX10_ok nmX10 hown hK hP hD hS 0 rfl rfl 5 (by decide) (ht _ kw_4_139) (fun _ h9 => h9) rfl (by decide +kernel) rfl rfl (Nat.le_of_ble_eq_true rfl) dX10_readsStatement_225 (fun H locs hP hD hS => ?_)
            have hP : va_P E.1 vwCl [oMo o_h o_a0 o_a1 o_a2 o_a3 o_hasImage z84 o_rowAt o_rowEnd o_a8 o_a9 o_seed o_a11 o_a12 o_a13 o_a14 o_a15 o_a16 o_thrown, ai E o_a0 42 o_s, ai E o_a1 42 o_m, ai E o_a2 42 o_image, ai E o_a3 42 o_was, ai E o_a8 3 y77, ai E o_a9 8192 o_most, ai E o_a11 8 o_kept, ai E o_a12 8 o_keptKind, ai E o_a13 8 o_keptFigure, ai E o_a14 8 o_sort, ai E o_a15 8 o_size, ai E o_a16 800 o_element] H := hP
            have hD : va_D A [oMo o_h o_a0 o_a1 o_a2 o_a3 o_hasImage z84 o_rowAt o_rowEnd o_a8 o_a9 o_seed o_a11 o_a12 o_a13 o_a14 o_a15 o_a16 o_thrown, ai E o_a0 42 o_s, ai E o_a1 42 o_m, ai E o_a2 42 o_image, ai E o_a3 42 o_was, ai E o_a8 3 y77, ai E o_a9 8192 o_most, ai E o_a11 8 o_kept, ai E o_a12 8 o_keptKind, ai E o_a13 8 o_keptFigure, ai E o_a14 8 o_sort, ai E o_a15 8 o_size, ai E o_a16 800 o_element] := hD
            refine lv_iconst (v := (1 : Int32)) hx hb dX10_readsStatement_228 (by decide) ?_
            refine lv_topi (fun z85 ez85 => ?_)
            have hv := nm_s ez85 hv
            have hn9 : narrow .boolean (.int z85) = .int z85 := (by rw [ez85]; rfl)
            cases hv
            exact W.zret hx hb hr hn9 (fun t h9 _ => ⟨rfl, by rw [h9]; exact hP, hS.F h9⟩) hS.2.2 dX10_readsStatement_229 hlk
          · have hv := if_n c83 hv
            refine lv_iconst (v := (0 : Int32)) hx hb dX10_readsStatement_216 (by decide) ?_
            refine lv_topi (fun z86 ez86 => ?_)
            have hv := nm_s ez86 hv
            have hn9 : narrow .boolean (.int z86) = .int z86 := (by rw [ez86]; rfl)
            cases hv
            exact W.zret hx hb hr hn9 (fun t h9 _ => ⟨rfl, by rw [h9]; exact hP, hS.F h9⟩) hS.2.2 dX10_readsStatement_217 hlk
      · have hv := if_n c74 hv
        rcases Decidable.em (r1 = (102 : Int32)) with c87 | c87
        · have hv := if_y c87 hv
          refine lv_tableIn (tgt := 108) (off := 92) hx hb dX10_readsStatement_16 (by rw [c87]; decide) (by rw [c87]; decide) (by rw [c87]; rfl) (by decide) ?_
          refine lv_aload_n hx hb dX10_readsStatement_108 rfl (lv_at hl 1 rfl) ?_
          refine lv_iconst (v := (0 : Int32)) hx hb dX10_readsStatement_109 (by decide) ?_
          refine lv_iconst (v := (1 : Int32)) hx hb dX10_readsStatement_110 (by decide) ?_
          obtain ⟨⟨r88, y89, y90⟩, h91, hv⟩ := ob_s hv
          refine wrV (as := [o_h, o_a0, o_a1, o_a2, o_a3, o_a8, o_a9, o_a11, o_a12, o_a13, o_a14, o_a15, o_a16]) (wr := []) [0, 1, 2, 3, 4, 5, 6, 7, 8, 9, 10, 11, 12] [] 4 0 (ws := [oMo o_h o_a0 o_a1 o_a2 o_a3 o_hasImage z3 o_rowAt o_rowEnd o_a8 o_a9 o_seed o_a11 o_a12 o_a13 o_a14 o_a15 o_a16 o_thrown, ai E o_a0 42 o_s, ai E o_a1 42 o_m, ai E o_a2 42 o_image, ai E o_a3 42 o_was, ai E o_a8 3 o_numbers, ai E o_a9 8192 o_most, ai E o_a11 8 o_kept, ai E o_a12 8 o_keptKind, ai E o_a13 8 o_keptFigure, ai E o_a14 8 o_sort, ai E o_a15 8 o_size, ai E o_a16 800 o_element]) (ws' := [oMo o_h o_a0 o_a1 o_a2 o_a3 o_hasImage y89 o_rowAt o_rowEnd o_a8 o_a9 o_seed o_a11 o_a12 o_a13 o_a14 o_a15 o_a16 o_thrown, ai E o_a0 42 o_s, ai E o_a1 42 o_m, ai E o_a2 42 o_image, ai E o_a3 42 o_was, ai E o_a8 3 y90, ai E o_a9 8192 o_most, ai E o_a11 8 o_kept, ai E o_a12 8 o_keptKind, ai E o_a13 8 o_keptFigure, ai E o_a14 8 o_sort, ai E o_a15 8 o_size, ai E o_a16 800 o_element]) (As := [.int (0 : Int32), .int (1 : Int32)]) (rest := []) (st1 := [.int r88]) hC q_X10_readsNumber kw_4_211 (c_X10_readsNumber l E o_h o_a0 o_a1 o_a2 o_a3 o_a8 o_a9 o_a11 o_a12 o_a13 o_a14 o_a15 o_a16 o_s o_m o_image o_was o_hasImage z3 o_rowAt o_rowEnd o_numbers o_most o_seed o_kept o_keptKind o_keptFigure o_sort o_size o_element o_thrown (0 : Int32) (1 : Int32) N r88 y89 y90 h91) ⟨rfl, rfl⟩ ⟨Nat.le_of_ble_eq_true rfl, Nat.le_of_ble_eq_true rfl⟩ ⟨Nat.zero_le _, Nat.zero_le _⟩ hP hD hS hA rfl rfl rfl hG (by decide) rfl rfl rfl rfl rfl rfl rfl rfl hl.1 rfl (Nat.le_of_ble_eq_true rfl) dX10_readsStatement_111 rfl (fun H locs hP hD hS => ?_)
          refine lv_if_eq (tgt := 130) hx hb dX10_readsStatement_114 (by decide) (fun c92 => ?_) (fun c92 => ?_)
          · have hv := if_y c92 hv
            refine lv_iconst (v := (0 : Int32)) hx hb dX10_readsStatement_130 (by decide) ?_
            refine lv_istore_n (lv' := [(2, .int (0 : Int32)), (1, .int r1), (0, .ref o_h)]) hx hb dX10_readsStatement_131 rfl hl (by decide) rfl (fun ls hl => ?_)
            refine lv_goto (tgt := 203) hx hb dX10_readsStatement_132 (by decide) ?_
            refine lv_iload_n hx hb dX10_readsStatement_203 rfl (lv_at hl 0 rfl) ?_
            refine lv_if_eq (tgt := 216) hx hb dX10_readsStatement_204 (by decide) (fun c93 => ?_) (fun c93 => ?_)
            · have hv := if_y c93 hv
              refine lv_iconst (v := (0 : Int32)) hx hb dX10_readsStatement_216 (by decide) ?_
              refine lv_topi (fun z94 ez94 => ?_)
              have hv := nm_s ez94 hv
              have hn9 : narrow .boolean (.int z94) = .int z94 := (by rw [ez94]; rfl)
              cases hv
              exact W.zret hx hb hr hn9 (fun t h9 _ => ⟨rfl, by rw [h9]; exact hP, hS.F h9⟩) hS.2.2 dX10_readsStatement_217 hlk
            · have hv := if_n c93 hv
              refine lv_aload_n hx hb dX10_readsStatement_207 rfl (lv_at hl 2 rfl) ?_
              obtain ⟨r95, h96, hv⟩ := ob_s hv
              refine rdV 4 0 (As := []) (rest := []) (st1 := [.int r95]) (w := [oMo o_h o_a0 o_a1 o_a2 o_a3 o_hasImage y89 o_rowAt o_rowEnd o_a8 o_a9 o_seed o_a11 o_a12 o_a13 o_a14 o_a15 o_a16 o_thrown, ai E o_a0 42 o_s, ai E o_a1 42 o_m, ai E o_a2 42 o_image, ai E o_a3 42 o_was, ai E o_a8 3 y90, ai E o_a9 8192 o_most, ai E o_a11 8 o_kept, ai E o_a12 8 o_keptKind, ai E o_a13 8 o_keptFigure, ai E o_a14 8 o_sort, ai E o_a15 8 o_size, ai E o_a16 800 o_element]) hC q_X10_here kw_4_207 (c_X10_here l E o_h o_a0 o_a1 o_a2 o_a3 o_a8 o_a9 o_a11 o_a12 o_a13 o_a14 o_a15 o_a16 o_s o_m o_image o_was o_hasImage y89 o_rowAt o_rowEnd y90 o_most o_seed o_kept o_keptKind o_keptFigure o_sort o_size o_element o_thrown r95 h96) ⟨rfl, rfl⟩ ⟨Nat.le_of_ble_eq_true rfl, Nat.le_of_ble_eq_true rfl⟩ ⟨Nat.zero_le _, Nat.zero_le _⟩ hP rfl rfl rfl hG rfl hl.1 rfl (Nat.le_of_ble_eq_true rfl) dX10_readsStatement_208 rfl ?_
              refine lv_bipush (v := (59 : Int32)) hx hb dX10_readsStatement_211 (by decide) ?_
              refine lv_icmp_eq (tgt := 218) hx hb dX10_readsStatement_213 (by decide) (fun c97 => ?_) (fun c97 => ?_)
              · have hv := if_y c97 hv
                refine lv_aload_n hx hb dX10_readsStatement_218 rfl (lv_at hl 2 rfl) ?_
                refine lv_dup hx hb dX10_readsStatement_219 rfl ?_
                refine va_get (D := E.1) (ci := 4) (v := .int y89) (C := RX10) (T := TX10) (N := 18) hx hb ht i_X10 hown hK hP 0 rfl rfl 5 (by decide) (ht _ kw_4_139) (fun _ h9 => h9) rfl dX10_readsStatement_220 ?_
                refine lv_iconst (v := (1 : Int32)) hx hb dX10_readsStatement_223 (by decide) ?_
                refine lv_iadd hx hb dX10_readsStatement_224 ?_
                refine lv_topi (fun z98 ez98 => ?_)
                have hv := nm_s ez98 hv
                refine va_put (D := E.1) (ci := 4) (v := .int z98) (ty := .int) (C := RX10) (T := TX10) (N := 18) hx hb ht i_X10 tyX10 tyX10_ok nmX10 hown hK hP hD hS 0 rfl rfl 5 (by decide) (ht _ kw_4_139) (fun _ h9 => h9) rfl (by decide +kernel) rfl rfl (Nat.le_of_ble_eq_true rfl) dX10_readsStatement_225 (fun H locs hP hD hS => ?_)
                have hP : va_P E.1 vwCl [oMo o_h o_a0 o_a1 o_a2 o_a3 o_hasImage z98 o_rowAt o_rowEnd o_a8 o_a9 o_seed o_a11 o_a12 o_a13 o_a14 o_a15 o_a16 o_thrown, ai E o_a0 42 o_s, ai E o_a1 42 o_m, ai E o_a2 42 o_image, ai E o_a3 42 o_was, ai E o_a8 3 y90, ai E o_a9 8192 o_most, ai E o_a11 8 o_kept, ai E o_a12 8 o_keptKind, ai E o_a13 8 o_keptFigure, ai E o_a14 8 o_sort, ai E o_a15 8 o_size, ai E o_a16 800 o_element] H := hP
                have hD : va_D A [oMo o_h o_a0 o_a1 o_a2 o_a3 o_hasImage z98 o_rowAt o_rowEnd o_a8 o_a9 o_seed o_a11 o_a12 o_a13 o_a14 o_a15 o_a16 o_thrown, ai E o_a0 42 o_s, ai E o_a1 42 o_m, ai E o_a2 42 o_image, ai E o_a3 42 o_was, ai E o_a8 3 y90, ai E o_a9 8192 o_most, ai E o_a11 8 o_kept, ai E o_a12 8 o_keptKind, ai E o_a13 8 o_keptFigure, ai E o_a14 8 o_sort, ai E o_a15 8 o_size, ai E o_a16 800 o_element] := hD
                refine lv_iconst (v := (1 : Int32)) hx hb dX10_readsStatement_228 (by decide) ?_
                refine lv_topi (fun z99 ez99 => ?_)
                have hv := nm_s ez99 hv
                have hn9 : narrow .boolean (.int z99) = .int z99 := (by rw [ez99]; rfl)
                cases hv
                exact W.zret hx hb hr hn9 (fun t h9 _ => ⟨rfl, by rw [h9]; exact hP, hS.F h9⟩) hS.2.2 dX10_readsStatement_229 hlk
              · have hv := if_n c97 hv
                refine lv_iconst (v := (0 : Int32)) hx hb dX10_readsStatement_216 (by decide) ?_
                refine lv_topi (fun z100 ez100 => ?_)
                have hv := nm_s ez100 hv
                have hn9 : narrow .boolean (.int z100) = .int z100 := (by rw [ez100]; rfl)
                cases hv
                exact W.zret hx hb hr hn9 (fun t h9 _ => ⟨rfl, by rw [h9]; exact hP, hS.F h9⟩) hS.2.2 dX10_readsStatement_217 hlk
          · have hv := if_n c92 hv
            refine lv_aload_n hx hb dX10_readsStatement_117 rfl (lv_at hl 1 rfl) ?_
            refine lv_iconst (v := (1 : Int32)) hx hb dX10_readsStatement_118 (by decide) ?_
            refine lv_iconst (v := (1 : Int32)) hx hb dX10_readsStatement_119 (by decide) ?_
            obtain ⟨⟨r101, y102, y103⟩, h104, hv⟩ := ob_s hv
            refine wrV (as := [o_h, o_a0, o_a1, o_a2, o_a3, o_a8, o_a9, o_a11, o_a12, o_a13, o_a14, o_a15, o_a16]) (wr := []) [0, 1, 2, 3, 4, 5, 6, 7, 8, 9, 10, 11, 12] [] 4 0 (ws := [oMo o_h o_a0 o_a1 o_a2 o_a3 o_hasImage y89 o_rowAt o_rowEnd o_a8 o_a9 o_seed o_a11 o_a12 o_a13 o_a14 o_a15 o_a16 o_thrown, ai E o_a0 42 o_s, ai E o_a1 42 o_m, ai E o_a2 42 o_image, ai E o_a3 42 o_was, ai E o_a8 3 y90, ai E o_a9 8192 o_most, ai E o_a11 8 o_kept, ai E o_a12 8 o_keptKind, ai E o_a13 8 o_keptFigure, ai E o_a14 8 o_sort, ai E o_a15 8 o_size, ai E o_a16 800 o_element]) (ws' := [oMo o_h o_a0 o_a1 o_a2 o_a3 o_hasImage y102 o_rowAt o_rowEnd o_a8 o_a9 o_seed o_a11 o_a12 o_a13 o_a14 o_a15 o_a16 o_thrown, ai E o_a0 42 o_s, ai E o_a1 42 o_m, ai E o_a2 42 o_image, ai E o_a3 42 o_was, ai E o_a8 3 y103, ai E o_a9 8192 o_most, ai E o_a11 8 o_kept, ai E o_a12 8 o_keptKind, ai E o_a13 8 o_keptFigure, ai E o_a14 8 o_sort, ai E o_a15 8 o_size, ai E o_a16 800 o_element]) (As := [.int (1 : Int32), .int (1 : Int32)]) (rest := []) (st1 := [.int r101]) hC q_X10_readsNumber kw_4_211 (c_X10_readsNumber l E o_h o_a0 o_a1 o_a2 o_a3 o_a8 o_a9 o_a11 o_a12 o_a13 o_a14 o_a15 o_a16 o_s o_m o_image o_was o_hasImage y89 o_rowAt o_rowEnd y90 o_most o_seed o_kept o_keptKind o_keptFigure o_sort o_size o_element o_thrown (1 : Int32) (1 : Int32) N r101 y102 y103 h104) ⟨rfl, rfl⟩ ⟨Nat.le_of_ble_eq_true rfl, Nat.le_of_ble_eq_true rfl⟩ ⟨Nat.zero_le _, Nat.zero_le _⟩ hP hD hS hA rfl rfl rfl hG (by decide) rfl rfl rfl rfl rfl rfl rfl rfl hl.1 rfl (Nat.le_of_ble_eq_true rfl) dX10_readsStatement_120 rfl (fun H locs hP hD hS => ?_)
            refine lv_if_eq (tgt := 130) hx hb dX10_readsStatement_123 (by decide) (fun c105 => ?_) (fun c105 => ?_)
            · have hv := if_y c105 hv
              refine lv_iconst (v := (0 : Int32)) hx hb dX10_readsStatement_130 (by decide) ?_
              refine lv_istore_n (lv' := [(2, .int (0 : Int32)), (1, .int r1), (0, .ref o_h)]) hx hb dX10_readsStatement_131 rfl hl (by decide) rfl (fun ls hl => ?_)
              refine lv_goto (tgt := 203) hx hb dX10_readsStatement_132 (by decide) ?_
              refine lv_iload_n hx hb dX10_readsStatement_203 rfl (lv_at hl 0 rfl) ?_
              refine lv_if_eq (tgt := 216) hx hb dX10_readsStatement_204 (by decide) (fun c106 => ?_) (fun c106 => ?_)
              · have hv := if_y c106 hv
                refine lv_iconst (v := (0 : Int32)) hx hb dX10_readsStatement_216 (by decide) ?_
                refine lv_topi (fun z107 ez107 => ?_)
                have hv := nm_s ez107 hv
                have hn9 : narrow .boolean (.int z107) = .int z107 := (by rw [ez107]; rfl)
                cases hv
                exact W.zret hx hb hr hn9 (fun t h9 _ => ⟨rfl, by rw [h9]; exact hP, hS.F h9⟩) hS.2.2 dX10_readsStatement_217 hlk
              · have hv := if_n c106 hv
                refine lv_aload_n hx hb dX10_readsStatement_207 rfl (lv_at hl 2 rfl) ?_
                obtain ⟨r108, h109, hv⟩ := ob_s hv
                refine rdV 4 0 (As := []) (rest := []) (st1 := [.int r108]) (w := [oMo o_h o_a0 o_a1 o_a2 o_a3 o_hasImage y102 o_rowAt o_rowEnd o_a8 o_a9 o_seed o_a11 o_a12 o_a13 o_a14 o_a15 o_a16 o_thrown, ai E o_a0 42 o_s, ai E o_a1 42 o_m, ai E o_a2 42 o_image, ai E o_a3 42 o_was, ai E o_a8 3 y103, ai E o_a9 8192 o_most, ai E o_a11 8 o_kept, ai E o_a12 8 o_keptKind, ai E o_a13 8 o_keptFigure, ai E o_a14 8 o_sort, ai E o_a15 8 o_size, ai E o_a16 800 o_element]) hC q_X10_here kw_4_207 (c_X10_here l E o_h o_a0 o_a1 o_a2 o_a3 o_a8 o_a9 o_a11 o_a12 o_a13 o_a14 o_a15 o_a16 o_s o_m o_image o_was o_hasImage y102 o_rowAt o_rowEnd y103 o_most o_seed o_kept o_keptKind o_keptFigure o_sort o_size o_element o_thrown r108 h109) ⟨rfl, rfl⟩ ⟨Nat.le_of_ble_eq_true rfl, Nat.le_of_ble_eq_true rfl⟩ ⟨Nat.zero_le _, Nat.zero_le _⟩ hP rfl rfl rfl hG rfl hl.1 rfl (Nat.le_of_ble_eq_true rfl) dX10_readsStatement_208 rfl ?_
                refine lv_bipush (v := (59 : Int32)) hx hb dX10_readsStatement_211 (by decide) ?_
                refine lv_icmp_eq (tgt := 218) hx hb dX10_readsStatement_213 (by decide) (fun c110 => ?_) (fun c110 => ?_)
                · have hv := if_y c110 hv
                  refine lv_aload_n hx hb dX10_readsStatement_218 rfl (lv_at hl 2 rfl) ?_
                  refine lv_dup hx hb dX10_readsStatement_219 rfl ?_
                  refine va_get (D := E.1) (ci := 4) (v := .int y102) (C := RX10) (T := TX10) (N := 18) hx hb ht i_X10 hown hK hP 0 rfl rfl 5 (by decide) (ht _ kw_4_139) (fun _ h9 => h9) rfl dX10_readsStatement_220 ?_
                  refine lv_iconst (v := (1 : Int32)) hx hb dX10_readsStatement_223 (by decide) ?_
                  refine lv_iadd hx hb dX10_readsStatement_224 ?_
                  refine lv_topi (fun z111 ez111 => ?_)
                  have hv := nm_s ez111 hv
                  refine va_put (D := E.1) (ci := 4) (v := .int z111) (ty := .int) (C := RX10) (T := TX10) (N := 18) hx hb ht i_X10 tyX10 tyX10_ok nmX10 hown hK hP hD hS 0 rfl rfl 5 (by decide) (ht _ kw_4_139) (fun _ h9 => h9) rfl (by decide +kernel) rfl rfl (Nat.le_of_ble_eq_true rfl) dX10_readsStatement_225 (fun H locs hP hD hS => ?_)
                  have hP : va_P E.1 vwCl [oMo o_h o_a0 o_a1 o_a2 o_a3 o_hasImage z111 o_rowAt o_rowEnd o_a8 o_a9 o_seed o_a11 o_a12 o_a13 o_a14 o_a15 o_a16 o_thrown, ai E o_a0 42 o_s, ai E o_a1 42 o_m, ai E o_a2 42 o_image, ai E o_a3 42 o_was, ai E o_a8 3 y103, ai E o_a9 8192 o_most, ai E o_a11 8 o_kept, ai E o_a12 8 o_keptKind, ai E o_a13 8 o_keptFigure, ai E o_a14 8 o_sort, ai E o_a15 8 o_size, ai E o_a16 800 o_element] H := hP
                  have hD : va_D A [oMo o_h o_a0 o_a1 o_a2 o_a3 o_hasImage z111 o_rowAt o_rowEnd o_a8 o_a9 o_seed o_a11 o_a12 o_a13 o_a14 o_a15 o_a16 o_thrown, ai E o_a0 42 o_s, ai E o_a1 42 o_m, ai E o_a2 42 o_image, ai E o_a3 42 o_was, ai E o_a8 3 y103, ai E o_a9 8192 o_most, ai E o_a11 8 o_kept, ai E o_a12 8 o_keptKind, ai E o_a13 8 o_keptFigure, ai E o_a14 8 o_sort, ai E o_a15 8 o_size, ai E o_a16 800 o_element] := hD
                  refine lv_iconst (v := (1 : Int32)) hx hb dX10_readsStatement_228 (by decide) ?_
                  refine lv_topi (fun z112 ez112 => ?_)
                  have hv := nm_s ez112 hv
                  have hn9 : narrow .boolean (.int z112) = .int z112 := (by rw [ez112]; rfl)
                  cases hv
                  exact W.zret hx hb hr hn9 (fun t h9 _ => ⟨rfl, by rw [h9]; exact hP, hS.F h9⟩) hS.2.2 dX10_readsStatement_229 hlk
                · have hv := if_n c110 hv
                  refine lv_iconst (v := (0 : Int32)) hx hb dX10_readsStatement_216 (by decide) ?_
                  refine lv_topi (fun z113 ez113 => ?_)
                  have hv := nm_s ez113 hv
                  have hn9 : narrow .boolean (.int z113) = .int z113 := (by rw [ez113]; rfl)
                  cases hv
                  exact W.zret hx hb hr hn9 (fun t h9 _ => ⟨rfl, by rw [h9]; exact hP, hS.F h9⟩) hS.2.2 dX10_readsStatement_217 hlk
            · have hv := if_n c105 hv
              refine lv_iconst (v := (1 : Int32)) hx hb dX10_readsStatement_126 (by decide) ?_
              refine lv_goto (tgt := 131) hx hb dX10_readsStatement_127 (by decide) ?_
              refine lv_istore_n (lv' := [(2, .int (1 : Int32)), (1, .int r1), (0, .ref o_h)]) hx hb dX10_readsStatement_131 rfl hl (by decide) rfl (fun ls hl => ?_)
              refine lv_goto (tgt := 203) hx hb dX10_readsStatement_132 (by decide) ?_
              refine lv_iload_n hx hb dX10_readsStatement_203 rfl (lv_at hl 0 rfl) ?_
              refine lv_if_eq (tgt := 216) hx hb dX10_readsStatement_204 (by decide) (fun c114 => ?_) (fun c114 => ?_)
              · have hv := if_y c114 hv
                refine lv_iconst (v := (0 : Int32)) hx hb dX10_readsStatement_216 (by decide) ?_
                refine lv_topi (fun z115 ez115 => ?_)
                have hv := nm_s ez115 hv
                have hn9 : narrow .boolean (.int z115) = .int z115 := (by rw [ez115]; rfl)
                cases hv
                exact W.zret hx hb hr hn9 (fun t h9 _ => ⟨rfl, by rw [h9]; exact hP, hS.F h9⟩) hS.2.2 dX10_readsStatement_217 hlk
              · have hv := if_n c114 hv
                refine lv_aload_n hx hb dX10_readsStatement_207 rfl (lv_at hl 2 rfl) ?_
                obtain ⟨r116, h117, hv⟩ := ob_s hv
                refine rdV 4 0 (As := []) (rest := []) (st1 := [.int r116]) (w := [oMo o_h o_a0 o_a1 o_a2 o_a3 o_hasImage y102 o_rowAt o_rowEnd o_a8 o_a9 o_seed o_a11 o_a12 o_a13 o_a14 o_a15 o_a16 o_thrown, ai E o_a0 42 o_s, ai E o_a1 42 o_m, ai E o_a2 42 o_image, ai E o_a3 42 o_was, ai E o_a8 3 y103, ai E o_a9 8192 o_most, ai E o_a11 8 o_kept, ai E o_a12 8 o_keptKind, ai E o_a13 8 o_keptFigure, ai E o_a14 8 o_sort, ai E o_a15 8 o_size, ai E o_a16 800 o_element]) hC q_X10_here kw_4_207 (c_X10_here l E o_h o_a0 o_a1 o_a2 o_a3 o_a8 o_a9 o_a11 o_a12 o_a13 o_a14 o_a15 o_a16 o_s o_m o_image o_was o_hasImage y102 o_rowAt o_rowEnd y103 o_most o_seed o_kept o_keptKind o_keptFigure o_sort o_size o_element o_thrown r116 h117) ⟨rfl, rfl⟩ ⟨Nat.le_of_ble_eq_true rfl, Nat.le_of_ble_eq_true rfl⟩ ⟨Nat.zero_le _, Nat.zero_le _⟩ hP rfl rfl rfl hG rfl hl.1 rfl (Nat.le_of_ble_eq_true rfl) dX10_readsStatement_208 rfl ?_
                refine lv_bipush (v := (59 : Int32)) hx hb dX10_readsStatement_211 (by decide) ?_
                refine lv_icmp_eq (tgt := 218) hx hb dX10_readsStatement_213 (by decide) (fun c118 => ?_) (fun c118 => ?_)
                · have hv := if_y c118 hv
                  refine lv_aload_n hx hb dX10_readsStatement_218 rfl (lv_at hl 2 rfl) ?_
                  refine lv_dup hx hb dX10_readsStatement_219 rfl ?_
                  refine va_get (D := E.1) (ci := 4) (v := .int y102) (C := RX10) (T := TX10) (N := 18) hx hb ht i_X10 hown hK hP 0 rfl rfl 5 (by decide) (ht _ kw_4_139) (fun _ h9 => h9) rfl dX10_readsStatement_220 ?_
                  refine lv_iconst (v := (1 : Int32)) hx hb dX10_readsStatement_223 (by decide) ?_
                  refine lv_iadd hx hb dX10_readsStatement_224 ?_
                  refine lv_topi (fun z119 ez119 => ?_)
                  have hv := nm_s ez119 hv
                  refine va_put (D := E.1) (ci := 4) (v := .int z119) (ty := .int) (C := RX10) (T := TX10) (N := 18) hx hb ht i_X10 tyX10 tyX10_ok nmX10 hown hK hP hD hS 0 rfl rfl 5 (by decide) (ht _ kw_4_139) (fun _ h9 => h9) rfl (by decide +kernel) rfl rfl (Nat.le_of_ble_eq_true rfl) dX10_readsStatement_225 (fun H locs hP hD hS => ?_)
                  have hP : va_P E.1 vwCl [oMo o_h o_a0 o_a1 o_a2 o_a3 o_hasImage z119 o_rowAt o_rowEnd o_a8 o_a9 o_seed o_a11 o_a12 o_a13 o_a14 o_a15 o_a16 o_thrown, ai E o_a0 42 o_s, ai E o_a1 42 o_m, ai E o_a2 42 o_image, ai E o_a3 42 o_was, ai E o_a8 3 y103, ai E o_a9 8192 o_most, ai E o_a11 8 o_kept, ai E o_a12 8 o_keptKind, ai E o_a13 8 o_keptFigure, ai E o_a14 8 o_sort, ai E o_a15 8 o_size, ai E o_a16 800 o_element] H := hP
                  have hD : va_D A [oMo o_h o_a0 o_a1 o_a2 o_a3 o_hasImage z119 o_rowAt o_rowEnd o_a8 o_a9 o_seed o_a11 o_a12 o_a13 o_a14 o_a15 o_a16 o_thrown, ai E o_a0 42 o_s, ai E o_a1 42 o_m, ai E o_a2 42 o_image, ai E o_a3 42 o_was, ai E o_a8 3 y103, ai E o_a9 8192 o_most, ai E o_a11 8 o_kept, ai E o_a12 8 o_keptKind, ai E o_a13 8 o_keptFigure, ai E o_a14 8 o_sort, ai E o_a15 8 o_size, ai E o_a16 800 o_element] := hD
                  refine lv_iconst (v := (1 : Int32)) hx hb dX10_readsStatement_228 (by decide) ?_
                  refine lv_topi (fun z120 ez120 => ?_)
                  have hv := nm_s ez120 hv
                  have hn9 : narrow .boolean (.int z120) = .int z120 := (by rw [ez120]; rfl)
                  cases hv
                  exact W.zret hx hb hr hn9 (fun t h9 _ => ⟨rfl, by rw [h9]; exact hP, hS.F h9⟩) hS.2.2 dX10_readsStatement_229 hlk
                · have hv := if_n c118 hv
                  refine lv_iconst (v := (0 : Int32)) hx hb dX10_readsStatement_216 (by decide) ?_
                  refine lv_topi (fun z121 ez121 => ?_)
                  have hv := nm_s ez121 hv
                  have hn9 : narrow .boolean (.int z121) = .int z121 := (by rw [ez121]; rfl)
                  cases hv
                  exact W.zret hx hb hr hn9 (fun t h9 _ => ⟨rfl, by rw [h9]; exact hP, hS.F h9⟩) hS.2.2 dX10_readsStatement_217 hlk
        · have hv := if_n c87 hv
          rcases Decidable.em (r1 = (111 : Int32)) with c122 | c122
          · have hv := if_y c122 hv
            refine lv_tableIn (tgt := 171) (off := 155) hx hb dX10_readsStatement_16 (by rw [c122]; decide) (by rw [c122]; decide) (by rw [c122]; rfl) (by decide) ?_
            refine lv_aload_n hx hb dX10_readsStatement_171 rfl (lv_at hl 1 rfl) ?_
            refine lv_iconst (v := (0 : Int32)) hx hb dX10_readsStatement_172 (by decide) ?_
            refine lv_iconst (v := (1 : Int32)) hx hb dX10_readsStatement_173 (by decide) ?_
            obtain ⟨⟨r123, y124, y125⟩, h126, hv⟩ := ob_s hv
            refine wrV (as := [o_h, o_a0, o_a1, o_a2, o_a3, o_a8, o_a9, o_a11, o_a12, o_a13, o_a14, o_a15, o_a16]) (wr := []) [0, 1, 2, 3, 4, 5, 6, 7, 8, 9, 10, 11, 12] [] 4 0 (ws := [oMo o_h o_a0 o_a1 o_a2 o_a3 o_hasImage z3 o_rowAt o_rowEnd o_a8 o_a9 o_seed o_a11 o_a12 o_a13 o_a14 o_a15 o_a16 o_thrown, ai E o_a0 42 o_s, ai E o_a1 42 o_m, ai E o_a2 42 o_image, ai E o_a3 42 o_was, ai E o_a8 3 o_numbers, ai E o_a9 8192 o_most, ai E o_a11 8 o_kept, ai E o_a12 8 o_keptKind, ai E o_a13 8 o_keptFigure, ai E o_a14 8 o_sort, ai E o_a15 8 o_size, ai E o_a16 800 o_element]) (ws' := [oMo o_h o_a0 o_a1 o_a2 o_a3 o_hasImage y124 o_rowAt o_rowEnd o_a8 o_a9 o_seed o_a11 o_a12 o_a13 o_a14 o_a15 o_a16 o_thrown, ai E o_a0 42 o_s, ai E o_a1 42 o_m, ai E o_a2 42 o_image, ai E o_a3 42 o_was, ai E o_a8 3 y125, ai E o_a9 8192 o_most, ai E o_a11 8 o_kept, ai E o_a12 8 o_keptKind, ai E o_a13 8 o_keptFigure, ai E o_a14 8 o_sort, ai E o_a15 8 o_size, ai E o_a16 800 o_element]) (As := [.int (0 : Int32), .int (1 : Int32)]) (rest := []) (st1 := [.int r123]) hC q_X10_readsNumber kw_4_211 (c_X10_readsNumber l E o_h o_a0 o_a1 o_a2 o_a3 o_a8 o_a9 o_a11 o_a12 o_a13 o_a14 o_a15 o_a16 o_s o_m o_image o_was o_hasImage z3 o_rowAt o_rowEnd o_numbers o_most o_seed o_kept o_keptKind o_keptFigure o_sort o_size o_element o_thrown (0 : Int32) (1 : Int32) N r123 y124 y125 h126) ⟨rfl, rfl⟩ ⟨Nat.le_of_ble_eq_true rfl, Nat.le_of_ble_eq_true rfl⟩ ⟨Nat.zero_le _, Nat.zero_le _⟩ hP hD hS hA rfl rfl rfl hG (by decide) rfl rfl rfl rfl rfl rfl rfl rfl hl.1 rfl (Nat.le_of_ble_eq_true rfl) dX10_readsStatement_174 rfl (fun H locs hP hD hS => ?_)
            refine lv_istore_n (lv' := [(2, .int r123), (1, .int r1), (0, .ref o_h)]) hx hb dX10_readsStatement_177 rfl hl (by decide) rfl (fun ls hl => ?_)
            refine lv_goto (tgt := 203) hx hb dX10_readsStatement_178 (by decide) ?_
            refine lv_iload_n hx hb dX10_readsStatement_203 rfl (lv_at hl 0 rfl) ?_
            refine lv_if_eq (tgt := 216) hx hb dX10_readsStatement_204 (by decide) (fun c127 => ?_) (fun c127 => ?_)
            · have hv := if_y c127 hv
              refine lv_iconst (v := (0 : Int32)) hx hb dX10_readsStatement_216 (by decide) ?_
              refine lv_topi (fun z128 ez128 => ?_)
              have hv := nm_s ez128 hv
              have hn9 : narrow .boolean (.int z128) = .int z128 := (by rw [ez128]; rfl)
              cases hv
              exact W.zret hx hb hr hn9 (fun t h9 _ => ⟨rfl, by rw [h9]; exact hP, hS.F h9⟩) hS.2.2 dX10_readsStatement_217 hlk
            · have hv := if_n c127 hv
              refine lv_aload_n hx hb dX10_readsStatement_207 rfl (lv_at hl 2 rfl) ?_
              obtain ⟨r129, h130, hv⟩ := ob_s hv
              refine rdV 4 0 (As := []) (rest := []) (st1 := [.int r129]) (w := [oMo o_h o_a0 o_a1 o_a2 o_a3 o_hasImage y124 o_rowAt o_rowEnd o_a8 o_a9 o_seed o_a11 o_a12 o_a13 o_a14 o_a15 o_a16 o_thrown, ai E o_a0 42 o_s, ai E o_a1 42 o_m, ai E o_a2 42 o_image, ai E o_a3 42 o_was, ai E o_a8 3 y125, ai E o_a9 8192 o_most, ai E o_a11 8 o_kept, ai E o_a12 8 o_keptKind, ai E o_a13 8 o_keptFigure, ai E o_a14 8 o_sort, ai E o_a15 8 o_size, ai E o_a16 800 o_element]) hC q_X10_here kw_4_207 (c_X10_here l E o_h o_a0 o_a1 o_a2 o_a3 o_a8 o_a9 o_a11 o_a12 o_a13 o_a14 o_a15 o_a16 o_s o_m o_image o_was o_hasImage y124 o_rowAt o_rowEnd y125 o_most o_seed o_kept o_keptKind o_keptFigure o_sort o_size o_element o_thrown r129 h130) ⟨rfl, rfl⟩ ⟨Nat.le_of_ble_eq_true rfl, Nat.le_of_ble_eq_true rfl⟩ ⟨Nat.zero_le _, Nat.zero_le _⟩ hP rfl rfl rfl hG rfl hl.1 rfl (Nat.le_of_ble_eq_true rfl) dX10_readsStatement_208 rfl ?_
              refine lv_bipush (v := (59 : Int32)) hx hb dX10_readsStatement_211 (by decide) ?_
              refine lv_icmp_eq (tgt := 218) hx hb dX10_readsStatement_213 (by decide) (fun c131 => ?_) (fun c131 => ?_)
              · have hv := if_y c131 hv
                refine lv_aload_n hx hb dX10_readsStatement_218 rfl (lv_at hl 2 rfl) ?_
                refine lv_dup hx hb dX10_readsStatement_219 rfl ?_
                refine va_get (D := E.1) (ci := 4) (v := .int y124) (C := RX10) (T := TX10) (N := 18) hx hb ht i_X10 hown hK hP 0 rfl rfl 5 (by decide) (ht _ kw_4_139) (fun _ h9 => h9) rfl dX10_readsStatement_220 ?_
                refine lv_iconst (v := (1 : Int32)) hx hb dX10_readsStatement_223 (by decide) ?_
                refine lv_iadd hx hb dX10_readsStatement_224 ?_
                refine lv_topi (fun z132 ez132 => ?_)
                have hv := nm_s ez132 hv
                refine va_put (D := E.1) (ci := 4) (v := .int z132) (ty := .int) (C := RX10) (T := TX10) (N := 18) hx hb ht i_X10 tyX10 tyX10_ok nmX10 hown hK hP hD hS 0 rfl rfl 5 (by decide) (ht _ kw_4_139) (fun _ h9 => h9) rfl (by decide +kernel) rfl rfl (Nat.le_of_ble_eq_true rfl) dX10_readsStatement_225 (fun H locs hP hD hS => ?_)
                have hP : va_P E.1 vwCl [oMo o_h o_a0 o_a1 o_a2 o_a3 o_hasImage z132 o_rowAt o_rowEnd o_a8 o_a9 o_seed o_a11 o_a12 o_a13 o_a14 o_a15 o_a16 o_thrown, ai E o_a0 42 o_s, ai E o_a1 42 o_m, ai E o_a2 42 o_image, ai E o_a3 42 o_was, ai E o_a8 3 y125, ai E o_a9 8192 o_most, ai E o_a11 8 o_kept, ai E o_a12 8 o_keptKind, ai E o_a13 8 o_keptFigure, ai E o_a14 8 o_sort, ai E o_a15 8 o_size, ai E o_a16 800 o_element] H := hP
                have hD : va_D A [oMo o_h o_a0 o_a1 o_a2 o_a3 o_hasImage z132 o_rowAt o_rowEnd o_a8 o_a9 o_seed o_a11 o_a12 o_a13 o_a14 o_a15 o_a16 o_thrown, ai E o_a0 42 o_s, ai E o_a1 42 o_m, ai E o_a2 42 o_image, ai E o_a3 42 o_was, ai E o_a8 3 y125, ai E o_a9 8192 o_most, ai E o_a11 8 o_kept, ai E o_a12 8 o_keptKind, ai E o_a13 8 o_keptFigure, ai E o_a14 8 o_sort, ai E o_a15 8 o_size, ai E o_a16 800 o_element] := hD
                refine lv_iconst (v := (1 : Int32)) hx hb dX10_readsStatement_228 (by decide) ?_
                refine lv_topi (fun z133 ez133 => ?_)
                have hv := nm_s ez133 hv
                have hn9 : narrow .boolean (.int z133) = .int z133 := (by rw [ez133]; rfl)
                cases hv
                exact W.zret hx hb hr hn9 (fun t h9 _ => ⟨rfl, by rw [h9]; exact hP, hS.F h9⟩) hS.2.2 dX10_readsStatement_229 hlk
              · have hv := if_n c131 hv
                refine lv_iconst (v := (0 : Int32)) hx hb dX10_readsStatement_216 (by decide) ?_
                refine lv_topi (fun z134 ez134 => ?_)
                have hv := nm_s ez134 hv
                have hn9 : narrow .boolean (.int z134) = .int z134 := (by rw [ez134]; rfl)
                cases hv
                exact W.zret hx hb hr hn9 (fun t h9 _ => ⟨rfl, by rw [h9]; exact hP, hS.F h9⟩) hS.2.2 dX10_readsStatement_217 hlk
          · have hv := if_n c122 hv
            rcases Decidable.em (r1 = (113 : Int32)) with c135 | c135
            · have hv := if_y c135 hv
              refine lv_tableIn (tgt := 181) (off := 165) hx hb dX10_readsStatement_16 (by rw [c135]; decide) (by rw [c135]; decide) (by rw [c135]; rfl) (by decide) ?_
              refine lv_aload_n hx hb dX10_readsStatement_181 rfl (lv_at hl 1 rfl) ?_
              refine lv_iconst (v := (0 : Int32)) hx hb dX10_readsStatement_182 (by decide) ?_
              refine lv_iconst (v := (2 : Int32)) hx hb dX10_readsStatement_183 (by decide) ?_
              obtain ⟨⟨r136, y137, y138⟩, h139, hv⟩ := ob_s hv
              refine wrV (as := [o_h, o_a0, o_a1, o_a2, o_a3, o_a8, o_a9, o_a11, o_a12, o_a13, o_a14, o_a15, o_a16]) (wr := []) [0, 1, 2, 3, 4, 5, 6, 7, 8, 9, 10, 11, 12] [] 4 0 (ws := [oMo o_h o_a0 o_a1 o_a2 o_a3 o_hasImage z3 o_rowAt o_rowEnd o_a8 o_a9 o_seed o_a11 o_a12 o_a13 o_a14 o_a15 o_a16 o_thrown, ai E o_a0 42 o_s, ai E o_a1 42 o_m, ai E o_a2 42 o_image, ai E o_a3 42 o_was, ai E o_a8 3 o_numbers, ai E o_a9 8192 o_most, ai E o_a11 8 o_kept, ai E o_a12 8 o_keptKind, ai E o_a13 8 o_keptFigure, ai E o_a14 8 o_sort, ai E o_a15 8 o_size, ai E o_a16 800 o_element]) (ws' := [oMo o_h o_a0 o_a1 o_a2 o_a3 o_hasImage y137 o_rowAt o_rowEnd o_a8 o_a9 o_seed o_a11 o_a12 o_a13 o_a14 o_a15 o_a16 o_thrown, ai E o_a0 42 o_s, ai E o_a1 42 o_m, ai E o_a2 42 o_image, ai E o_a3 42 o_was, ai E o_a8 3 y138, ai E o_a9 8192 o_most, ai E o_a11 8 o_kept, ai E o_a12 8 o_keptKind, ai E o_a13 8 o_keptFigure, ai E o_a14 8 o_sort, ai E o_a15 8 o_size, ai E o_a16 800 o_element]) (As := [.int (0 : Int32), .int (2 : Int32)]) (rest := []) (st1 := [.int r136]) hC q_X10_readsNumber kw_4_211 (c_X10_readsNumber l E o_h o_a0 o_a1 o_a2 o_a3 o_a8 o_a9 o_a11 o_a12 o_a13 o_a14 o_a15 o_a16 o_s o_m o_image o_was o_hasImage z3 o_rowAt o_rowEnd o_numbers o_most o_seed o_kept o_keptKind o_keptFigure o_sort o_size o_element o_thrown (0 : Int32) (2 : Int32) N r136 y137 y138 h139) ⟨rfl, rfl⟩ ⟨Nat.le_of_ble_eq_true rfl, Nat.le_of_ble_eq_true rfl⟩ ⟨Nat.zero_le _, Nat.zero_le _⟩ hP hD hS hA rfl rfl rfl hG (by decide) rfl rfl rfl rfl rfl rfl rfl rfl hl.1 rfl (Nat.le_of_ble_eq_true rfl) dX10_readsStatement_184 rfl (fun H locs hP hD hS => ?_)
              refine lv_istore_n (lv' := [(2, .int r136), (1, .int r1), (0, .ref o_h)]) hx hb dX10_readsStatement_187 rfl hl (by decide) rfl (fun ls hl => ?_)
              refine lv_goto (tgt := 203) hx hb dX10_readsStatement_188 (by decide) ?_
              refine lv_iload_n hx hb dX10_readsStatement_203 rfl (lv_at hl 0 rfl) ?_
              refine lv_if_eq (tgt := 216) hx hb dX10_readsStatement_204 (by decide) (fun c140 => ?_) (fun c140 => ?_)
              · have hv := if_y c140 hv
                refine lv_iconst (v := (0 : Int32)) hx hb dX10_readsStatement_216 (by decide) ?_
                refine lv_topi (fun z141 ez141 => ?_)
                have hv := nm_s ez141 hv
                have hn9 : narrow .boolean (.int z141) = .int z141 := (by rw [ez141]; rfl)
                cases hv
                exact W.zret hx hb hr hn9 (fun t h9 _ => ⟨rfl, by rw [h9]; exact hP, hS.F h9⟩) hS.2.2 dX10_readsStatement_217 hlk
              · have hv := if_n c140 hv
                refine lv_aload_n hx hb dX10_readsStatement_207 rfl (lv_at hl 2 rfl) ?_
                obtain ⟨r142, h143, hv⟩ := ob_s hv
                refine rdV 4 0 (As := []) (rest := []) (st1 := [.int r142]) (w := [oMo o_h o_a0 o_a1 o_a2 o_a3 o_hasImage y137 o_rowAt o_rowEnd o_a8 o_a9 o_seed o_a11 o_a12 o_a13 o_a14 o_a15 o_a16 o_thrown, ai E o_a0 42 o_s, ai E o_a1 42 o_m, ai E o_a2 42 o_image, ai E o_a3 42 o_was, ai E o_a8 3 y138, ai E o_a9 8192 o_most, ai E o_a11 8 o_kept, ai E o_a12 8 o_keptKind, ai E o_a13 8 o_keptFigure, ai E o_a14 8 o_sort, ai E o_a15 8 o_size, ai E o_a16 800 o_element]) hC q_X10_here kw_4_207 (c_X10_here l E o_h o_a0 o_a1 o_a2 o_a3 o_a8 o_a9 o_a11 o_a12 o_a13 o_a14 o_a15 o_a16 o_s o_m o_image o_was o_hasImage y137 o_rowAt o_rowEnd y138 o_most o_seed o_kept o_keptKind o_keptFigure o_sort o_size o_element o_thrown r142 h143) ⟨rfl, rfl⟩ ⟨Nat.le_of_ble_eq_true rfl, Nat.le_of_ble_eq_true rfl⟩ ⟨Nat.zero_le _, Nat.zero_le _⟩ hP rfl rfl rfl hG rfl hl.1 rfl (Nat.le_of_ble_eq_true rfl) dX10_readsStatement_208 rfl ?_
                refine lv_bipush (v := (59 : Int32)) hx hb dX10_readsStatement_211 (by decide) ?_
                refine lv_icmp_eq (tgt := 218) hx hb dX10_readsStatement_213 (by decide) (fun c144 => ?_) (fun c144 => ?_)
                · have hv := if_y c144 hv
                  refine lv_aload_n hx hb dX10_readsStatement_218 rfl (lv_at hl 2 rfl) ?_
                  refine lv_dup hx hb dX10_readsStatement_219 rfl ?_
                  refine va_get (D := E.1) (ci := 4) (v := .int y137) (C := RX10) (T := TX10) (N := 18) hx hb ht i_X10 hown hK hP 0 rfl rfl 5 (by decide) (ht _ kw_4_139) (fun _ h9 => h9) rfl dX10_readsStatement_220 ?_
                  refine lv_iconst (v := (1 : Int32)) hx hb dX10_readsStatement_223 (by decide) ?_
                  refine lv_iadd hx hb dX10_readsStatement_224 ?_
                  refine lv_topi (fun z145 ez145 => ?_)
                  have hv := nm_s ez145 hv
                  refine va_put (D := E.1) (ci := 4) (v := .int z145) (ty := .int) (C := RX10) (T := TX10) (N := 18) hx hb ht i_X10 tyX10 tyX10_ok nmX10 hown hK hP hD hS 0 rfl rfl 5 (by decide) (ht _ kw_4_139) (fun _ h9 => h9) rfl (by decide +kernel) rfl rfl (Nat.le_of_ble_eq_true rfl) dX10_readsStatement_225 (fun H locs hP hD hS => ?_)
                  have hP : va_P E.1 vwCl [oMo o_h o_a0 o_a1 o_a2 o_a3 o_hasImage z145 o_rowAt o_rowEnd o_a8 o_a9 o_seed o_a11 o_a12 o_a13 o_a14 o_a15 o_a16 o_thrown, ai E o_a0 42 o_s, ai E o_a1 42 o_m, ai E o_a2 42 o_image, ai E o_a3 42 o_was, ai E o_a8 3 y138, ai E o_a9 8192 o_most, ai E o_a11 8 o_kept, ai E o_a12 8 o_keptKind, ai E o_a13 8 o_keptFigure, ai E o_a14 8 o_sort, ai E o_a15 8 o_size, ai E o_a16 800 o_element] H := hP
                  have hD : va_D A [oMo o_h o_a0 o_a1 o_a2 o_a3 o_hasImage z145 o_rowAt o_rowEnd o_a8 o_a9 o_seed o_a11 o_a12 o_a13 o_a14 o_a15 o_a16 o_thrown, ai E o_a0 42 o_s, ai E o_a1 42 o_m, ai E o_a2 42 o_image, ai E o_a3 42 o_was, ai E o_a8 3 y138, ai E o_a9 8192 o_most, ai E o_a11 8 o_kept, ai E o_a12 8 o_keptKind, ai E o_a13 8 o_keptFigure, ai E o_a14 8 o_sort, ai E o_a15 8 o_size, ai E o_a16 800 o_element] := hD
                  refine lv_iconst (v := (1 : Int32)) hx hb dX10_readsStatement_228 (by decide) ?_
                  refine lv_topi (fun z146 ez146 => ?_)
                  have hv := nm_s ez146 hv
                  have hn9 : narrow .boolean (.int z146) = .int z146 := (by rw [ez146]; rfl)
                  cases hv
                  exact W.zret hx hb hr hn9 (fun t h9 _ => ⟨rfl, by rw [h9]; exact hP, hS.F h9⟩) hS.2.2 dX10_readsStatement_229 hlk
                · have hv := if_n c144 hv
                  refine lv_iconst (v := (0 : Int32)) hx hb dX10_readsStatement_216 (by decide) ?_
                  refine lv_topi (fun z147 ez147 => ?_)
                  have hv := nm_s ez147 hv
                  have hn9 : narrow .boolean (.int z147) = .int z147 := (by rw [ez147]; rfl)
                  cases hv
                  exact W.zret hx hb hr hn9 (fun t h9 _ => ⟨rfl, by rw [h9]; exact hP, hS.F h9⟩) hS.2.2 dX10_readsStatement_217 hlk
            · have hv := if_n c135 hv
              rcases Decidable.em (r1 = (115 : Int32)) with c148 | c148
              · have hv := if_y c148 hv
                refine lv_tableIn (tgt := 135) (off := 119) hx hb dX10_readsStatement_16 (by rw [c148]; decide) (by rw [c148]; decide) (by rw [c148]; rfl) (by decide) ?_
                refine lv_aload_n hx hb dX10_readsStatement_135 rfl (lv_at hl 1 rfl) ?_
                refine lv_iconst (v := (0 : Int32)) hx hb dX10_readsStatement_136 (by decide) ?_
                refine lv_iconst (v := (1 : Int32)) hx hb dX10_readsStatement_137 (by decide) ?_
                obtain ⟨⟨r149, y150, y151⟩, h152, hv⟩ := ob_s hv
                refine wrV (as := [o_h, o_a0, o_a1, o_a2, o_a3, o_a8, o_a9, o_a11, o_a12, o_a13, o_a14, o_a15, o_a16]) (wr := []) [0, 1, 2, 3, 4, 5, 6, 7, 8, 9, 10, 11, 12] [] 4 0 (ws := [oMo o_h o_a0 o_a1 o_a2 o_a3 o_hasImage z3 o_rowAt o_rowEnd o_a8 o_a9 o_seed o_a11 o_a12 o_a13 o_a14 o_a15 o_a16 o_thrown, ai E o_a0 42 o_s, ai E o_a1 42 o_m, ai E o_a2 42 o_image, ai E o_a3 42 o_was, ai E o_a8 3 o_numbers, ai E o_a9 8192 o_most, ai E o_a11 8 o_kept, ai E o_a12 8 o_keptKind, ai E o_a13 8 o_keptFigure, ai E o_a14 8 o_sort, ai E o_a15 8 o_size, ai E o_a16 800 o_element]) (ws' := [oMo o_h o_a0 o_a1 o_a2 o_a3 o_hasImage y150 o_rowAt o_rowEnd o_a8 o_a9 o_seed o_a11 o_a12 o_a13 o_a14 o_a15 o_a16 o_thrown, ai E o_a0 42 o_s, ai E o_a1 42 o_m, ai E o_a2 42 o_image, ai E o_a3 42 o_was, ai E o_a8 3 y151, ai E o_a9 8192 o_most, ai E o_a11 8 o_kept, ai E o_a12 8 o_keptKind, ai E o_a13 8 o_keptFigure, ai E o_a14 8 o_sort, ai E o_a15 8 o_size, ai E o_a16 800 o_element]) (As := [.int (0 : Int32), .int (1 : Int32)]) (rest := []) (st1 := [.int r149]) hC q_X10_readsNumber kw_4_211 (c_X10_readsNumber l E o_h o_a0 o_a1 o_a2 o_a3 o_a8 o_a9 o_a11 o_a12 o_a13 o_a14 o_a15 o_a16 o_s o_m o_image o_was o_hasImage z3 o_rowAt o_rowEnd o_numbers o_most o_seed o_kept o_keptKind o_keptFigure o_sort o_size o_element o_thrown (0 : Int32) (1 : Int32) N r149 y150 y151 h152) ⟨rfl, rfl⟩ ⟨Nat.le_of_ble_eq_true rfl, Nat.le_of_ble_eq_true rfl⟩ ⟨Nat.zero_le _, Nat.zero_le _⟩ hP hD hS hA rfl rfl rfl hG (by decide) rfl rfl rfl rfl rfl rfl rfl rfl hl.1 rfl (Nat.le_of_ble_eq_true rfl) dX10_readsStatement_138 rfl (fun H locs hP hD hS => ?_)
                refine lv_if_eq (tgt := 166) hx hb dX10_readsStatement_141 (by decide) (fun c153 => ?_) (fun c153 => ?_)
                · have hv := if_y c153 hv
                  refine lv_iconst (v := (0 : Int32)) hx hb dX10_readsStatement_166 (by decide) ?_
                  refine lv_istore_n (lv' := [(2, .int (0 : Int32)), (1, .int r1), (0, .ref o_h)]) hx hb dX10_readsStatement_167 rfl hl (by decide) rfl (fun ls hl => ?_)
                  refine lv_goto (tgt := 203) hx hb dX10_readsStatement_168 (by decide) ?_
                  refine lv_iload_n hx hb dX10_readsStatement_203 rfl (lv_at hl 0 rfl) ?_
                  refine lv_if_eq (tgt := 216) hx hb dX10_readsStatement_204 (by decide) (fun c154 => ?_) (fun c154 => ?_)
                  · have hv := if_y c154 hv
                    refine lv_iconst (v := (0 : Int32)) hx hb dX10_readsStatement_216 (by decide) ?_
                    refine lv_topi (fun z155 ez155 => ?_)
                    have hv := nm_s ez155 hv
                    have hn9 : narrow .boolean (.int z155) = .int z155 := (by rw [ez155]; rfl)
                    cases hv
                    exact W.zret hx hb hr hn9 (fun t h9 _ => ⟨rfl, by rw [h9]; exact hP, hS.F h9⟩) hS.2.2 dX10_readsStatement_217 hlk
                  · have hv := if_n c154 hv
                    refine lv_aload_n hx hb dX10_readsStatement_207 rfl (lv_at hl 2 rfl) ?_
                    obtain ⟨r156, h157, hv⟩ := ob_s hv
                    refine rdV 4 0 (As := []) (rest := []) (st1 := [.int r156]) (w := [oMo o_h o_a0 o_a1 o_a2 o_a3 o_hasImage y150 o_rowAt o_rowEnd o_a8 o_a9 o_seed o_a11 o_a12 o_a13 o_a14 o_a15 o_a16 o_thrown, ai E o_a0 42 o_s, ai E o_a1 42 o_m, ai E o_a2 42 o_image, ai E o_a3 42 o_was, ai E o_a8 3 y151, ai E o_a9 8192 o_most, ai E o_a11 8 o_kept, ai E o_a12 8 o_keptKind, ai E o_a13 8 o_keptFigure, ai E o_a14 8 o_sort, ai E o_a15 8 o_size, ai E o_a16 800 o_element]) hC q_X10_here kw_4_207 (c_X10_here l E o_h o_a0 o_a1 o_a2 o_a3 o_a8 o_a9 o_a11 o_a12 o_a13 o_a14 o_a15 o_a16 o_s o_m o_image o_was o_hasImage y150 o_rowAt o_rowEnd y151 o_most o_seed o_kept o_keptKind o_keptFigure o_sort o_size o_element o_thrown r156 h157) ⟨rfl, rfl⟩ ⟨Nat.le_of_ble_eq_true rfl, Nat.le_of_ble_eq_true rfl⟩ ⟨Nat.zero_le _, Nat.zero_le _⟩ hP rfl rfl rfl hG rfl hl.1 rfl (Nat.le_of_ble_eq_true rfl) dX10_readsStatement_208 rfl ?_
                    refine lv_bipush (v := (59 : Int32)) hx hb dX10_readsStatement_211 (by decide) ?_
                    refine lv_icmp_eq (tgt := 218) hx hb dX10_readsStatement_213 (by decide) (fun c158 => ?_) (fun c158 => ?_)
                    · have hv := if_y c158 hv
                      refine lv_aload_n hx hb dX10_readsStatement_218 rfl (lv_at hl 2 rfl) ?_
                      refine lv_dup hx hb dX10_readsStatement_219 rfl ?_
                      refine va_get (D := E.1) (ci := 4) (v := .int y150) (C := RX10) (T := TX10) (N := 18) hx hb ht i_X10 hown hK hP 0 rfl rfl 5 (by decide) (ht _ kw_4_139) (fun _ h9 => h9) rfl dX10_readsStatement_220 ?_
                      refine lv_iconst (v := (1 : Int32)) hx hb dX10_readsStatement_223 (by decide) ?_
                      refine lv_iadd hx hb dX10_readsStatement_224 ?_
                      refine lv_topi (fun z159 ez159 => ?_)
                      have hv := nm_s ez159 hv
                      refine va_put (D := E.1) (ci := 4) (v := .int z159) (ty := .int) (C := RX10) (T := TX10) (N := 18) hx hb ht i_X10 tyX10 tyX10_ok nmX10 hown hK hP hD hS 0 rfl rfl 5 (by decide) (ht _ kw_4_139) (fun _ h9 => h9) rfl (by decide +kernel) rfl rfl (Nat.le_of_ble_eq_true rfl) dX10_readsStatement_225 (fun H locs hP hD hS => ?_)
                      have hP : va_P E.1 vwCl [oMo o_h o_a0 o_a1 o_a2 o_a3 o_hasImage z159 o_rowAt o_rowEnd o_a8 o_a9 o_seed o_a11 o_a12 o_a13 o_a14 o_a15 o_a16 o_thrown, ai E o_a0 42 o_s, ai E o_a1 42 o_m, ai E o_a2 42 o_image, ai E o_a3 42 o_was, ai E o_a8 3 y151, ai E o_a9 8192 o_most, ai E o_a11 8 o_kept, ai E o_a12 8 o_keptKind, ai E o_a13 8 o_keptFigure, ai E o_a14 8 o_sort, ai E o_a15 8 o_size, ai E o_a16 800 o_element] H := hP
                      have hD : va_D A [oMo o_h o_a0 o_a1 o_a2 o_a3 o_hasImage z159 o_rowAt o_rowEnd o_a8 o_a9 o_seed o_a11 o_a12 o_a13 o_a14 o_a15 o_a16 o_thrown, ai E o_a0 42 o_s, ai E o_a1 42 o_m, ai E o_a2 42 o_image, ai E o_a3 42 o_was, ai E o_a8 3 y151, ai E o_a9 8192 o_most, ai E o_a11 8 o_kept, ai E o_a12 8 o_keptKind, ai E o_a13 8 o_keptFigure, ai E o_a14 8 o_sort, ai E o_a15 8 o_size, ai E o_a16 800 o_element] := hD
                      refine lv_iconst (v := (1 : Int32)) hx hb dX10_readsStatement_228 (by decide) ?_
                      refine lv_topi (fun z160 ez160 => ?_)
                      have hv := nm_s ez160 hv
                      have hn9 : narrow .boolean (.int z160) = .int z160 := (by rw [ez160]; rfl)
                      cases hv
                      exact W.zret hx hb hr hn9 (fun t h9 _ => ⟨rfl, by rw [h9]; exact hP, hS.F h9⟩) hS.2.2 dX10_readsStatement_229 hlk
                    · have hv := if_n c158 hv
                      refine lv_iconst (v := (0 : Int32)) hx hb dX10_readsStatement_216 (by decide) ?_
                      refine lv_topi (fun z161 ez161 => ?_)
                      have hv := nm_s ez161 hv
                      have hn9 : narrow .boolean (.int z161) = .int z161 := (by rw [ez161]; rfl)
                      cases hv
                      exact W.zret hx hb hr hn9 (fun t h9 _ => ⟨rfl, by rw [h9]; exact hP, hS.F h9⟩) hS.2.2 dX10_readsStatement_217 hlk
                · have hv := if_n c153 hv
                  refine lv_aload_n hx hb dX10_readsStatement_144 rfl (lv_at hl 1 rfl) ?_
                  refine lv_iconst (v := (1 : Int32)) hx hb dX10_readsStatement_145 (by decide) ?_
                  refine lv_iconst (v := (1 : Int32)) hx hb dX10_readsStatement_146 (by decide) ?_
                  obtain ⟨⟨r162, y163, y164⟩, h165, hv⟩ := ob_s hv
                  refine wrV (as := [o_h, o_a0, o_a1, o_a2, o_a3, o_a8, o_a9, o_a11, o_a12, o_a13, o_a14, o_a15, o_a16]) (wr := []) [0, 1, 2, 3, 4, 5, 6, 7, 8, 9, 10, 11, 12] [] 4 0 (ws := [oMo o_h o_a0 o_a1 o_a2 o_a3 o_hasImage y150 o_rowAt o_rowEnd o_a8 o_a9 o_seed o_a11 o_a12 o_a13 o_a14 o_a15 o_a16 o_thrown, ai E o_a0 42 o_s, ai E o_a1 42 o_m, ai E o_a2 42 o_image, ai E o_a3 42 o_was, ai E o_a8 3 y151, ai E o_a9 8192 o_most, ai E o_a11 8 o_kept, ai E o_a12 8 o_keptKind, ai E o_a13 8 o_keptFigure, ai E o_a14 8 o_sort, ai E o_a15 8 o_size, ai E o_a16 800 o_element]) (ws' := [oMo o_h o_a0 o_a1 o_a2 o_a3 o_hasImage y163 o_rowAt o_rowEnd o_a8 o_a9 o_seed o_a11 o_a12 o_a13 o_a14 o_a15 o_a16 o_thrown, ai E o_a0 42 o_s, ai E o_a1 42 o_m, ai E o_a2 42 o_image, ai E o_a3 42 o_was, ai E o_a8 3 y164, ai E o_a9 8192 o_most, ai E o_a11 8 o_kept, ai E o_a12 8 o_keptKind, ai E o_a13 8 o_keptFigure, ai E o_a14 8 o_sort, ai E o_a15 8 o_size, ai E o_a16 800 o_element]) (As := [.int (1 : Int32), .int (1 : Int32)]) (rest := []) (st1 := [.int r162]) hC q_X10_readsNumber kw_4_211 (c_X10_readsNumber l E o_h o_a0 o_a1 o_a2 o_a3 o_a8 o_a9 o_a11 o_a12 o_a13 o_a14 o_a15 o_a16 o_s o_m o_image o_was o_hasImage y150 o_rowAt o_rowEnd y151 o_most o_seed o_kept o_keptKind o_keptFigure o_sort o_size o_element o_thrown (1 : Int32) (1 : Int32) N r162 y163 y164 h165) ⟨rfl, rfl⟩ ⟨Nat.le_of_ble_eq_true rfl, Nat.le_of_ble_eq_true rfl⟩ ⟨Nat.zero_le _, Nat.zero_le _⟩ hP hD hS hA rfl rfl rfl hG (by decide) rfl rfl rfl rfl rfl rfl rfl rfl hl.1 rfl (Nat.le_of_ble_eq_true rfl) dX10_readsStatement_147 rfl (fun H locs hP hD hS => ?_)
                  refine lv_if_eq (tgt := 166) hx hb dX10_readsStatement_150 (by decide) (fun c166 => ?_) (fun c166 => ?_)
                  · have hv := if_y c166 hv
                    refine lv_iconst (v := (0 : Int32)) hx hb dX10_readsStatement_166 (by decide) ?_
                    refine lv_istore_n (lv' := [(2, .int (0 : Int32)), (1, .int r1), (0, .ref o_h)]) hx hb dX10_readsStatement_167 rfl hl (by decide) rfl (fun ls hl => ?_)
                    refine lv_goto (tgt := 203) hx hb dX10_readsStatement_168 (by decide) ?_
                    refine lv_iload_n hx hb dX10_readsStatement_203 rfl (lv_at hl 0 rfl) ?_
                    refine lv_if_eq (tgt := 216) hx hb dX10_readsStatement_204 (by decide) (fun c167 => ?_) (fun c167 => ?_)
                    · have hv := if_y c167 hv
                      refine lv_iconst (v := (0 : Int32)) hx hb dX10_readsStatement_216 (by decide) ?_
                      refine lv_topi (fun z168 ez168 => ?_)
                      have hv := nm_s ez168 hv
                      have hn9 : narrow .boolean (.int z168) = .int z168 := (by rw [ez168]; rfl)
                      cases hv
                      exact W.zret hx hb hr hn9 (fun t h9 _ => ⟨rfl, by rw [h9]; exact hP, hS.F h9⟩) hS.2.2 dX10_readsStatement_217 hlk
                    · have hv := if_n c167 hv
                      refine lv_aload_n hx hb dX10_readsStatement_207 rfl (lv_at hl 2 rfl) ?_
                      obtain ⟨r169, h170, hv⟩ := ob_s hv
                      refine rdV 4 0 (As := []) (rest := []) (st1 := [.int r169]) (w := [oMo o_h o_a0 o_a1 o_a2 o_a3 o_hasImage y163 o_rowAt o_rowEnd o_a8 o_a9 o_seed o_a11 o_a12 o_a13 o_a14 o_a15 o_a16 o_thrown, ai E o_a0 42 o_s, ai E o_a1 42 o_m, ai E o_a2 42 o_image, ai E o_a3 42 o_was, ai E o_a8 3 y164, ai E o_a9 8192 o_most, ai E o_a11 8 o_kept, ai E o_a12 8 o_keptKind, ai E o_a13 8 o_keptFigure, ai E o_a14 8 o_sort, ai E o_a15 8 o_size, ai E o_a16 800 o_element]) hC q_X10_here kw_4_207 (c_X10_here l E o_h o_a0 o_a1 o_a2 o_a3 o_a8 o_a9 o_a11 o_a12 o_a13 o_a14 o_a15 o_a16 o_s o_m o_image o_was o_hasImage y163 o_rowAt o_rowEnd y164 o_most o_seed o_kept o_keptKind o_keptFigure o_sort o_size o_element o_thrown r169 h170) ⟨rfl, rfl⟩ ⟨Nat.le_of_ble_eq_true rfl, Nat.le_of_ble_eq_true rfl⟩ ⟨Nat.zero_le _, Nat.zero_le _⟩ hP rfl rfl rfl hG rfl hl.1 rfl (Nat.le_of_ble_eq_true rfl) dX10_readsStatement_208 rfl ?_
                      refine lv_bipush (v := (59 : Int32)) hx hb dX10_readsStatement_211 (by decide) ?_
                      refine lv_icmp_eq (tgt := 218) hx hb dX10_readsStatement_213 (by decide) (fun c171 => ?_) (fun c171 => ?_)
                      · have hv := if_y c171 hv
                        refine lv_aload_n hx hb dX10_readsStatement_218 rfl (lv_at hl 2 rfl) ?_
                        refine lv_dup hx hb dX10_readsStatement_219 rfl ?_
                        refine va_get (D := E.1) (ci := 4) (v := .int y163) (C := RX10) (T := TX10) (N := 18) hx hb ht i_X10 hown hK hP 0 rfl rfl 5 (by decide) (ht _ kw_4_139) (fun _ h9 => h9) rfl dX10_readsStatement_220 ?_
                        refine lv_iconst (v := (1 : Int32)) hx hb dX10_readsStatement_223 (by decide) ?_
                        refine lv_iadd hx hb dX10_readsStatement_224 ?_
                        refine lv_topi (fun z172 ez172 => ?_)
                        have hv := nm_s ez172 hv
                        refine va_put (D := E.1) (ci := 4) (v := .int z172) (ty := .int) (C := RX10) (T := TX10) (N := 18) hx hb ht i_X10 tyX10 tyX10_ok nmX10 hown hK hP hD hS 0 rfl rfl 5 (by decide) (ht _ kw_4_139) (fun _ h9 => h9) rfl (by decide +kernel) rfl rfl (Nat.le_of_ble_eq_true rfl) dX10_readsStatement_225 (fun H locs hP hD hS => ?_)
                        have hP : va_P E.1 vwCl [oMo o_h o_a0 o_a1 o_a2 o_a3 o_hasImage z172 o_rowAt o_rowEnd o_a8 o_a9 o_seed o_a11 o_a12 o_a13 o_a14 o_a15 o_a16 o_thrown, ai E o_a0 42 o_s, ai E o_a1 42 o_m, ai E o_a2 42 o_image, ai E o_a3 42 o_was, ai E o_a8 3 y164, ai E o_a9 8192 o_most, ai E o_a11 8 o_kept, ai E o_a12 8 o_keptKind, ai E o_a13 8 o_keptFigure, ai E o_a14 8 o_sort, ai E o_a15 8 o_size, ai E o_a16 800 o_element] H := hP
                        have hD : va_D A [oMo o_h o_a0 o_a1 o_a2 o_a3 o_hasImage z172 o_rowAt o_rowEnd o_a8 o_a9 o_seed o_a11 o_a12 o_a13 o_a14 o_a15 o_a16 o_thrown, ai E o_a0 42 o_s, ai E o_a1 42 o_m, ai E o_a2 42 o_image, ai E o_a3 42 o_was, ai E o_a8 3 y164, ai E o_a9 8192 o_most, ai E o_a11 8 o_kept, ai E o_a12 8 o_keptKind, ai E o_a13 8 o_keptFigure, ai E o_a14 8 o_sort, ai E o_a15 8 o_size, ai E o_a16 800 o_element] := hD
                        refine lv_iconst (v := (1 : Int32)) hx hb dX10_readsStatement_228 (by decide) ?_
                        refine lv_topi (fun z173 ez173 => ?_)
                        have hv := nm_s ez173 hv
                        have hn9 : narrow .boolean (.int z173) = .int z173 := (by rw [ez173]; rfl)
                        cases hv
                        exact W.zret hx hb hr hn9 (fun t h9 _ => ⟨rfl, by rw [h9]; exact hP, hS.F h9⟩) hS.2.2 dX10_readsStatement_229 hlk
                      · have hv := if_n c171 hv
                        refine lv_iconst (v := (0 : Int32)) hx hb dX10_readsStatement_216 (by decide) ?_
                        refine lv_topi (fun z174 ez174 => ?_)
                        have hv := nm_s ez174 hv
                        have hn9 : narrow .boolean (.int z174) = .int z174 := (by rw [ez174]; rfl)
                        cases hv
                        exact W.zret hx hb hr hn9 (fun t h9 _ => ⟨rfl, by rw [h9]; exact hP, hS.F h9⟩) hS.2.2 dX10_readsStatement_217 hlk
                  · have hv := if_n c166 hv
                    refine lv_aload_n hx hb dX10_readsStatement_153 rfl (lv_at hl 1 rfl) ?_
                    refine lv_iconst (v := (2 : Int32)) hx hb dX10_readsStatement_154 (by decide) ?_
                    refine lv_iconst (v := (1 : Int32)) hx hb dX10_readsStatement_155 (by decide) ?_
                    obtain ⟨⟨r175, y176, y177⟩, h178, hv⟩ := ob_s hv
                    refine wrV (as := [o_h, o_a0, o_a1, o_a2, o_a3, o_a8, o_a9, o_a11, o_a12, o_a13, o_a14, o_a15, o_a16]) (wr := []) [0, 1, 2, 3, 4, 5, 6, 7, 8, 9, 10, 11, 12] [] 4 0 (ws := [oMo o_h o_a0 o_a1 o_a2 o_a3 o_hasImage y163 o_rowAt o_rowEnd o_a8 o_a9 o_seed o_a11 o_a12 o_a13 o_a14 o_a15 o_a16 o_thrown, ai E o_a0 42 o_s, ai E o_a1 42 o_m, ai E o_a2 42 o_image, ai E o_a3 42 o_was, ai E o_a8 3 y164, ai E o_a9 8192 o_most, ai E o_a11 8 o_kept, ai E o_a12 8 o_keptKind, ai E o_a13 8 o_keptFigure, ai E o_a14 8 o_sort, ai E o_a15 8 o_size, ai E o_a16 800 o_element]) (ws' := [oMo o_h o_a0 o_a1 o_a2 o_a3 o_hasImage y176 o_rowAt o_rowEnd o_a8 o_a9 o_seed o_a11 o_a12 o_a13 o_a14 o_a15 o_a16 o_thrown, ai E o_a0 42 o_s, ai E o_a1 42 o_m, ai E o_a2 42 o_image, ai E o_a3 42 o_was, ai E o_a8 3 y177, ai E o_a9 8192 o_most, ai E o_a11 8 o_kept, ai E o_a12 8 o_keptKind, ai E o_a13 8 o_keptFigure, ai E o_a14 8 o_sort, ai E o_a15 8 o_size, ai E o_a16 800 o_element]) (As := [.int (2 : Int32), .int (1 : Int32)]) (rest := []) (st1 := [.int r175]) hC q_X10_readsNumber kw_4_211 (c_X10_readsNumber l E o_h o_a0 o_a1 o_a2 o_a3 o_a8 o_a9 o_a11 o_a12 o_a13 o_a14 o_a15 o_a16 o_s o_m o_image o_was o_hasImage y163 o_rowAt o_rowEnd y164 o_most o_seed o_kept o_keptKind o_keptFigure o_sort o_size o_element o_thrown (2 : Int32) (1 : Int32) N r175 y176 y177 h178) ⟨rfl, rfl⟩ ⟨Nat.le_of_ble_eq_true rfl, Nat.le_of_ble_eq_true rfl⟩ ⟨Nat.zero_le _, Nat.zero_le _⟩ hP hD hS hA rfl rfl rfl hG (by decide) rfl rfl rfl rfl rfl rfl rfl rfl hl.1 rfl (Nat.le_of_ble_eq_true rfl) dX10_readsStatement_156 rfl (fun H locs hP hD hS => ?_)
                    refine lv_if_eq (tgt := 166) hx hb dX10_readsStatement_159 (by decide) (fun c179 => ?_) (fun c179 => ?_)
                    · have hv := if_y c179 hv
                      refine lv_iconst (v := (0 : Int32)) hx hb dX10_readsStatement_166 (by decide) ?_
                      refine lv_istore_n (lv' := [(2, .int (0 : Int32)), (1, .int r1), (0, .ref o_h)]) hx hb dX10_readsStatement_167 rfl hl (by decide) rfl (fun ls hl => ?_)
                      refine lv_goto (tgt := 203) hx hb dX10_readsStatement_168 (by decide) ?_
                      refine lv_iload_n hx hb dX10_readsStatement_203 rfl (lv_at hl 0 rfl) ?_
                      refine lv_if_eq (tgt := 216) hx hb dX10_readsStatement_204 (by decide) (fun c180 => ?_) (fun c180 => ?_)
                      · have hv := if_y c180 hv
                        refine lv_iconst (v := (0 : Int32)) hx hb dX10_readsStatement_216 (by decide) ?_
                        refine lv_topi (fun z181 ez181 => ?_)
                        have hv := nm_s ez181 hv
                        have hn9 : narrow .boolean (.int z181) = .int z181 := (by rw [ez181]; rfl)
                        cases hv
                        exact W.zret hx hb hr hn9 (fun t h9 _ => ⟨rfl, by rw [h9]; exact hP, hS.F h9⟩) hS.2.2 dX10_readsStatement_217 hlk
                      · have hv := if_n c180 hv
                        refine lv_aload_n hx hb dX10_readsStatement_207 rfl (lv_at hl 2 rfl) ?_
                        obtain ⟨r182, h183, hv⟩ := ob_s hv
                        refine rdV 4 0 (As := []) (rest := []) (st1 := [.int r182]) (w := [oMo o_h o_a0 o_a1 o_a2 o_a3 o_hasImage y176 o_rowAt o_rowEnd o_a8 o_a9 o_seed o_a11 o_a12 o_a13 o_a14 o_a15 o_a16 o_thrown, ai E o_a0 42 o_s, ai E o_a1 42 o_m, ai E o_a2 42 o_image, ai E o_a3 42 o_was, ai E o_a8 3 y177, ai E o_a9 8192 o_most, ai E o_a11 8 o_kept, ai E o_a12 8 o_keptKind, ai E o_a13 8 o_keptFigure, ai E o_a14 8 o_sort, ai E o_a15 8 o_size, ai E o_a16 800 o_element]) hC q_X10_here kw_4_207 (c_X10_here l E o_h o_a0 o_a1 o_a2 o_a3 o_a8 o_a9 o_a11 o_a12 o_a13 o_a14 o_a15 o_a16 o_s o_m o_image o_was o_hasImage y176 o_rowAt o_rowEnd y177 o_most o_seed o_kept o_keptKind o_keptFigure o_sort o_size o_element o_thrown r182 h183) ⟨rfl, rfl⟩ ⟨Nat.le_of_ble_eq_true rfl, Nat.le_of_ble_eq_true rfl⟩ ⟨Nat.zero_le _, Nat.zero_le _⟩ hP rfl rfl rfl hG rfl hl.1 rfl (Nat.le_of_ble_eq_true rfl) dX10_readsStatement_208 rfl ?_
                        refine lv_bipush (v := (59 : Int32)) hx hb dX10_readsStatement_211 (by decide) ?_
                        refine lv_icmp_eq (tgt := 218) hx hb dX10_readsStatement_213 (by decide) (fun c184 => ?_) (fun c184 => ?_)
                        · have hv := if_y c184 hv
                          refine lv_aload_n hx hb dX10_readsStatement_218 rfl (lv_at hl 2 rfl) ?_
                          refine lv_dup hx hb dX10_readsStatement_219 rfl ?_
                          refine va_get (D := E.1) (ci := 4) (v := .int y176) (C := RX10) (T := TX10) (N := 18) hx hb ht i_X10 hown hK hP 0 rfl rfl 5 (by decide) (ht _ kw_4_139) (fun _ h9 => h9) rfl dX10_readsStatement_220 ?_
                          refine lv_iconst (v := (1 : Int32)) hx hb dX10_readsStatement_223 (by decide) ?_
                          refine lv_iadd hx hb dX10_readsStatement_224 ?_
                          refine lv_topi (fun z185 ez185 => ?_)
                          have hv := nm_s ez185 hv
                          refine va_put (D := E.1) (ci := 4) (v := .int z185) (ty := .int) (C := RX10) (T := TX10) (N := 18) hx hb ht i_X10 tyX10 tyX10_ok nmX10 hown hK hP hD hS 0 rfl rfl 5 (by decide) (ht _ kw_4_139) (fun _ h9 => h9) rfl (by decide +kernel) rfl rfl (Nat.le_of_ble_eq_true rfl) dX10_readsStatement_225 (fun H locs hP hD hS => ?_)
                          have hP : va_P E.1 vwCl [oMo o_h o_a0 o_a1 o_a2 o_a3 o_hasImage z185 o_rowAt o_rowEnd o_a8 o_a9 o_seed o_a11 o_a12 o_a13 o_a14 o_a15 o_a16 o_thrown, ai E o_a0 42 o_s, ai E o_a1 42 o_m, ai E o_a2 42 o_image, ai E o_a3 42 o_was, ai E o_a8 3 y177, ai E o_a9 8192 o_most, ai E o_a11 8 o_kept, ai E o_a12 8 o_keptKind, ai E o_a13 8 o_keptFigure, ai E o_a14 8 o_sort, ai E o_a15 8 o_size, ai E o_a16 800 o_element] H := hP
                          have hD : va_D A [oMo o_h o_a0 o_a1 o_a2 o_a3 o_hasImage z185 o_rowAt o_rowEnd o_a8 o_a9 o_seed o_a11 o_a12 o_a13 o_a14 o_a15 o_a16 o_thrown, ai E o_a0 42 o_s, ai E o_a1 42 o_m, ai E o_a2 42 o_image, ai E o_a3 42 o_was, ai E o_a8 3 y177, ai E o_a9 8192 o_most, ai E o_a11 8 o_kept, ai E o_a12 8 o_keptKind, ai E o_a13 8 o_keptFigure, ai E o_a14 8 o_sort, ai E o_a15 8 o_size, ai E o_a16 800 o_element] := hD
                          refine lv_iconst (v := (1 : Int32)) hx hb dX10_readsStatement_228 (by decide) ?_
                          refine lv_topi (fun z186 ez186 => ?_)
                          have hv := nm_s ez186 hv
                          have hn9 : narrow .boolean (.int z186) = .int z186 := (by rw [ez186]; rfl)
                          cases hv
                          exact W.zret hx hb hr hn9 (fun t h9 _ => ⟨rfl, by rw [h9]; exact hP, hS.F h9⟩) hS.2.2 dX10_readsStatement_229 hlk
                        · have hv := if_n c184 hv
                          refine lv_iconst (v := (0 : Int32)) hx hb dX10_readsStatement_216 (by decide) ?_
                          refine lv_topi (fun z187 ez187 => ?_)
                          have hv := nm_s ez187 hv
                          have hn9 : narrow .boolean (.int z187) = .int z187 := (by rw [ez187]; rfl)
                          cases hv
                          exact W.zret hx hb hr hn9 (fun t h9 _ => ⟨rfl, by rw [h9]; exact hP, hS.F h9⟩) hS.2.2 dX10_readsStatement_217 hlk
                    · have hv := if_n c179 hv
                      refine lv_iconst (v := (1 : Int32)) hx hb dX10_readsStatement_162 (by decide) ?_
                      refine lv_goto (tgt := 167) hx hb dX10_readsStatement_163 (by decide) ?_
                      refine lv_istore_n (lv' := [(2, .int (1 : Int32)), (1, .int r1), (0, .ref o_h)]) hx hb dX10_readsStatement_167 rfl hl (by decide) rfl (fun ls hl => ?_)
                      refine lv_goto (tgt := 203) hx hb dX10_readsStatement_168 (by decide) ?_
                      refine lv_iload_n hx hb dX10_readsStatement_203 rfl (lv_at hl 0 rfl) ?_
                      refine lv_if_eq (tgt := 216) hx hb dX10_readsStatement_204 (by decide) (fun c188 => ?_) (fun c188 => ?_)
                      · have hv := if_y c188 hv
                        refine lv_iconst (v := (0 : Int32)) hx hb dX10_readsStatement_216 (by decide) ?_
                        refine lv_topi (fun z189 ez189 => ?_)
                        have hv := nm_s ez189 hv
                        have hn9 : narrow .boolean (.int z189) = .int z189 := (by rw [ez189]; rfl)
                        cases hv
                        exact W.zret hx hb hr hn9 (fun t h9 _ => ⟨rfl, by rw [h9]; exact hP, hS.F h9⟩) hS.2.2 dX10_readsStatement_217 hlk
                      · have hv := if_n c188 hv
                        refine lv_aload_n hx hb dX10_readsStatement_207 rfl (lv_at hl 2 rfl) ?_
                        obtain ⟨r190, h191, hv⟩ := ob_s hv
                        refine rdV 4 0 (As := []) (rest := []) (st1 := [.int r190]) (w := [oMo o_h o_a0 o_a1 o_a2 o_a3 o_hasImage y176 o_rowAt o_rowEnd o_a8 o_a9 o_seed o_a11 o_a12 o_a13 o_a14 o_a15 o_a16 o_thrown, ai E o_a0 42 o_s, ai E o_a1 42 o_m, ai E o_a2 42 o_image, ai E o_a3 42 o_was, ai E o_a8 3 y177, ai E o_a9 8192 o_most, ai E o_a11 8 o_kept, ai E o_a12 8 o_keptKind, ai E o_a13 8 o_keptFigure, ai E o_a14 8 o_sort, ai E o_a15 8 o_size, ai E o_a16 800 o_element]) hC q_X10_here kw_4_207 (c_X10_here l E o_h o_a0 o_a1 o_a2 o_a3 o_a8 o_a9 o_a11 o_a12 o_a13 o_a14 o_a15 o_a16 o_s o_m o_image o_was o_hasImage y176 o_rowAt o_rowEnd y177 o_most o_seed o_kept o_keptKind o_keptFigure o_sort o_size o_element o_thrown r190 h191) ⟨rfl, rfl⟩ ⟨Nat.le_of_ble_eq_true rfl, Nat.le_of_ble_eq_true rfl⟩ ⟨Nat.zero_le _, Nat.zero_le _⟩ hP rfl rfl rfl hG rfl hl.1 rfl (Nat.le_of_ble_eq_true rfl) dX10_readsStatement_208 rfl ?_
                        refine lv_bipush (v := (59 : Int32)) hx hb dX10_readsStatement_211 (by decide) ?_
                        refine lv_icmp_eq (tgt := 218) hx hb dX10_readsStatement_213 (by decide) (fun c192 => ?_) (fun c192 => ?_)
                        · have hv := if_y c192 hv
                          refine lv_aload_n hx hb dX10_readsStatement_218 rfl (lv_at hl 2 rfl) ?_
                          refine lv_dup hx hb dX10_readsStatement_219 rfl ?_
                          refine va_get (D := E.1) (ci := 4) (v := .int y176) (C := RX10) (T := TX10) (N := 18) hx hb ht i_X10 hown hK hP 0 rfl rfl 5 (by decide) (ht _ kw_4_139) (fun _ h9 => h9) rfl dX10_readsStatement_220 ?_
                          refine lv_iconst (v := (1 : Int32)) hx hb dX10_readsStatement_223 (by decide) ?_
                          refine lv_iadd hx hb dX10_readsStatement_224 ?_
                          refine lv_topi (fun z193 ez193 => ?_)
                          have hv := nm_s ez193 hv
                          refine va_put (D := E.1) (ci := 4) (v := .int z193) (ty := .int) (C := RX10) (T := TX10) (N := 18) hx hb ht i_X10 tyX10 tyX10_ok nmX10 hown hK hP hD hS 0 rfl rfl 5 (by decide) (ht _ kw_4_139) (fun _ h9 => h9) rfl (by decide +kernel) rfl rfl (Nat.le_of_ble_eq_true rfl) dX10_readsStatement_225 (fun H locs hP hD hS => ?_)
                          have hP : va_P E.1 vwCl [oMo o_h o_a0 o_a1 o_a2 o_a3 o_hasImage z193 o_rowAt o_rowEnd o_a8 o_a9 o_seed o_a11 o_a12 o_a13 o_a14 o_a15 o_a16 o_thrown, ai E o_a0 42 o_s, ai E o_a1 42 o_m, ai E o_a2 42 o_image, ai E o_a3 42 o_was, ai E o_a8 3 y177, ai E o_a9 8192 o_most, ai E o_a11 8 o_kept, ai E o_a12 8 o_keptKind, ai E o_a13 8 o_keptFigure, ai E o_a14 8 o_sort, ai E o_a15 8 o_size, ai E o_a16 800 o_element] H := hP
                          have hD : va_D A [oMo o_h o_a0 o_a1 o_a2 o_a3 o_hasImage z193 o_rowAt o_rowEnd o_a8 o_a9 o_seed o_a11 o_a12 o_a13 o_a14 o_a15 o_a16 o_thrown, ai E o_a0 42 o_s, ai E o_a1 42 o_m, ai E o_a2 42 o_image, ai E o_a3 42 o_was, ai E o_a8 3 y177, ai E o_a9 8192 o_most, ai E o_a11 8 o_kept, ai E o_a12 8 o_keptKind, ai E o_a13 8 o_keptFigure, ai E o_a14 8 o_sort, ai E o_a15 8 o_size, ai E o_a16 800 o_element] := hD
                          refine lv_iconst (v := (1 : Int32)) hx hb dX10_readsStatement_228 (by decide) ?_
                          refine lv_topi (fun z194 ez194 => ?_)
                          have hv := nm_s ez194 hv
                          have hn9 : narrow .boolean (.int z194) = .int z194 := (by rw [ez194]; rfl)
                          cases hv
                          exact W.zret hx hb hr hn9 (fun t h9 _ => ⟨rfl, by rw [h9]; exact hP, hS.F h9⟩) hS.2.2 dX10_readsStatement_229 hlk
                        · have hv := if_n c192 hv
                          refine lv_iconst (v := (0 : Int32)) hx hb dX10_readsStatement_216 (by decide) ?_
                          refine lv_topi (fun z195 ez195 => ?_)
                          have hv := nm_s ez195 hv
                          have hn9 : narrow .boolean (.int z195) = .int z195 := (by rw [ez195]; rfl)
                          cases hv
                          exact W.zret hx hb hr hn9 (fun t h9 _ => ⟨rfl, by rw [h9]; exact hP, hS.F h9⟩) hS.2.2 dX10_readsStatement_217 hlk
              · have hv := if_n c148 hv
                refine lv_tableD (tgt := 191) hx hb dX10_readsStatement_16 (fun i h => match i, h with | 0, _ => Or.inr (lv_neT c4 (by decide)) | 1, _ => Or.inr (lv_neT c39 (by decide)) | 2, _ => Or.inl rfl | 3, _ => Or.inr (lv_neT c74 (by decide)) | 4, _ => Or.inl rfl | 5, _ => Or.inr (lv_neT c87 (by decide)) | 6, _ => Or.inl rfl | 7, _ => Or.inl rfl | 8, _ => Or.inl rfl | 9, _ => Or.inl rfl | 10, _ => Or.inl rfl | 11, _ => Or.inl rfl | 12, _ => Or.inl rfl | 13, _ => Or.inl rfl | 14, _ => Or.inr (lv_neT c122 (by decide)) | 15, _ => Or.inl rfl | 16, _ => Or.inr (lv_neT c135 (by decide)) | 17, _ => Or.inl rfl | 18, _ => Or.inr (lv_neT c148 (by decide)) | i + 19, h => absurd h (by simp)) rfl (by decide) ?_
                refine lv_aload_n hx hb dX10_readsStatement_191 rfl (lv_at hl 1 rfl) ?_
                refine lv_dup hx hb dX10_readsStatement_192 rfl ?_
                refine va_get (D := E.1) (ci := 4) (v := .int z3) (C := RX10) (T := TX10) (N := 18) hx hb ht i_X10 hown hK hP 0 rfl rfl 5 (by decide) (ht _ kw_4_139) (fun _ h9 => h9) rfl dX10_readsStatement_193 ?_
                refine lv_iconst (v := (1 : Int32)) hx hb dX10_readsStatement_196 (by decide) ?_
                refine lv_isub hx hb dX10_readsStatement_197 ?_
                refine lv_topi (fun z196 ez196 => ?_)
                have hv := nm_s ez196 hv
                refine va_put (D := E.1) (ci := 4) (v := .int z196) (ty := .int) (C := RX10) (T := TX10) (N := 18) hx hb ht i_X10 tyX10 tyX10_ok nmX10 hown hK hP hD hS 0 rfl rfl 5 (by decide) (ht _ kw_4_139) (fun _ h9 => h9) rfl (by decide +kernel) rfl rfl (Nat.le_of_ble_eq_true rfl) dX10_readsStatement_198 (fun H locs hP hD hS => ?_)
                have hP : va_P E.1 vwCl [oMo o_h o_a0 o_a1 o_a2 o_a3 o_hasImage z196 o_rowAt o_rowEnd o_a8 o_a9 o_seed o_a11 o_a12 o_a13 o_a14 o_a15 o_a16 o_thrown, ai E o_a0 42 o_s, ai E o_a1 42 o_m, ai E o_a2 42 o_image, ai E o_a3 42 o_was, ai E o_a8 3 o_numbers, ai E o_a9 8192 o_most, ai E o_a11 8 o_kept, ai E o_a12 8 o_keptKind, ai E o_a13 8 o_keptFigure, ai E o_a14 8 o_sort, ai E o_a15 8 o_size, ai E o_a16 800 o_element] H := hP
                have hD : va_D A [oMo o_h o_a0 o_a1 o_a2 o_a3 o_hasImage z196 o_rowAt o_rowEnd o_a8 o_a9 o_seed o_a11 o_a12 o_a13 o_a14 o_a15 o_a16 o_thrown, ai E o_a0 42 o_s, ai E o_a1 42 o_m, ai E o_a2 42 o_image, ai E o_a3 42 o_was, ai E o_a8 3 o_numbers, ai E o_a9 8192 o_most, ai E o_a11 8 o_kept, ai E o_a12 8 o_keptKind, ai E o_a13 8 o_keptFigure, ai E o_a14 8 o_sort, ai E o_a15 8 o_size, ai E o_a16 800 o_element] := hD
                refine lv_iconst (v := (0 : Int32)) hx hb dX10_readsStatement_201 (by decide) ?_
                refine lv_topi (fun z197 ez197 => ?_)
                have hv := nm_s ez197 hv
                have hn9 : narrow .boolean (.int z197) = .int z197 := (by rw [ez197]; rfl)
                cases hv
                exact W.zret hx hb hr hn9 (fun t h9 _ => ⟨rfl, by rw [h9]; exact hP, hS.F h9⟩) hS.2.2 dX10_readsStatement_202 hlk
theorem dX10_adds_0 : decode cX10_adds 0 = .ok (.aload_n 0, 1) := by decide +kernel
theorem dX10_adds_1 : decode cX10_adds 1 = .ok (.getfield 9, 3) := by decide +kernel
theorem dX10_adds_4 : decode cX10_adds 4 = .ok (.iconst 0, 1) := by decide +kernel
theorem dX10_adds_5 : decode cX10_adds 5 = .ok (.iaload, 1) := by decide +kernel
theorem dX10_adds_6 : decode cX10_adds 6 = .ok (.istore 4, 2) := by decide +kernel
theorem dX10_adds_8 : decode cX10_adds 8 = .ok (.aload_n 0, 1) := by decide +kernel
theorem dX10_adds_9 : decode cX10_adds 9 = .ok (.getfield 9, 3) := by decide +kernel
theorem dX10_adds_12 : decode cX10_adds 12 = .ok (.iload 4, 2) := by decide +kernel
theorem dX10_adds_14 : decode cX10_adds 14 = .ok (.iconst 0, 1) := by decide +kernel
theorem dX10_adds_15 : decode cX10_adds 15 = .ok (.invokestatic 50, 3) := by decide +kernel
theorem dX10_adds_18 : decode cX10_adds 18 = .ok (.iload_n 1, 1) := by decide +kernel
theorem dX10_adds_19 : decode cX10_adds 19 = .ok (.iastore, 1) := by decide +kernel
theorem dX10_adds_20 : decode cX10_adds 20 = .ok (.aload_n 0, 1) := by decide +kernel
theorem dX10_adds_21 : decode cX10_adds 21 = .ok (.getfield 9, 3) := by decide +kernel
theorem dX10_adds_24 : decode cX10_adds 24 = .ok (.iload 4, 2) := by decide +kernel
theorem dX10_adds_26 : decode cX10_adds 26 = .ok (.iconst 1, 1) := by decide +kernel
theorem dX10_adds_27 : decode cX10_adds 27 = .ok (.invokestatic 50, 3) := by decide +kernel
theorem dX10_adds_30 : decode cX10_adds 30 = .ok (.iload_n 2, 1) := by decide +kernel
theorem dX10_adds_31 : decode cX10_adds 31 = .ok (.iastore, 1) := by decide +kernel
theorem dX10_adds_32 : decode cX10_adds 32 = .ok (.aload_n 0, 1) := by decide +kernel
theorem dX10_adds_33 : decode cX10_adds 33 = .ok (.getfield 9, 3) := by decide +kernel
theorem dX10_adds_36 : decode cX10_adds 36 = .ok (.iload 4, 2) := by decide +kernel
theorem dX10_adds_38 : decode cX10_adds 38 = .ok (.iconst 2, 1) := by decide +kernel
theorem dX10_adds_39 : decode cX10_adds 39 = .ok (.invokestatic 50, 3) := by decide +kernel
theorem dX10_adds_42 : decode cX10_adds 42 = .ok (.iload_n 3, 1) := by decide +kernel
theorem dX10_adds_43 : decode cX10_adds 43 = .ok (.iastore, 1) := by decide +kernel
theorem dX10_adds_44 : decode cX10_adds 44 = .ok (.aload_n 0, 1) := by decide +kernel
theorem dX10_adds_45 : decode cX10_adds 45 = .ok (.getfield 9, 3) := by decide +kernel
theorem dX10_adds_48 : decode cX10_adds 48 = .ok (.iload 4, 2) := by decide +kernel
theorem dX10_adds_50 : decode cX10_adds 50 = .ok (.iconst 3, 1) := by decide +kernel
theorem dX10_adds_51 : decode cX10_adds 51 = .ok (.invokestatic 50, 3) := by decide +kernel
theorem dX10_adds_54 : decode cX10_adds 54 = .ok (.iconst 0, 1) := by decide +kernel
theorem dX10_adds_55 : decode cX10_adds 55 = .ok (.iastore, 1) := by decide +kernel
theorem dX10_adds_56 : decode cX10_adds 56 = .ok (.aload_n 0, 1) := by decide +kernel
theorem dX10_adds_57 : decode cX10_adds 57 = .ok (.getfield 9, 3) := by decide +kernel
theorem dX10_adds_60 : decode cX10_adds 60 = .ok (.iconst 0, 1) := by decide +kernel
theorem dX10_adds_61 : decode cX10_adds 61 = .ok (.dup2, 1) := by decide +kernel
theorem dX10_adds_62 : decode cX10_adds 62 = .ok (.iaload, 1) := by decide +kernel
theorem dX10_adds_63 : decode cX10_adds 63 = .ok (.iconst 1, 1) := by decide +kernel
theorem dX10_adds_64 : decode cX10_adds 64 = .ok (.iadd, 1) := by decide +kernel
theorem dX10_adds_65 : decode cX10_adds 65 = .ok (.iastore, 1) := by decide +kernel
theorem dX10_adds_66 : decode cX10_adds 66 = .ok (.return_, 1) := by decide +kernel
def f_X10_adds (o_s : Nat → Int32) (p1 : Int32) (p2 : Int32) (p3 : Int32) : Option ((Nat → Int32)) := ob (f_X10_of (o_s 0) (0 : Int32)) (fun r1 => gd (ix r1 42) (nm (upd o_s r1.toNatClampNeg p1) (fun f4 => ob (f_X10_of (o_s 0) (1 : Int32)) (fun r5 => gd (ix r5 42) (nm (upd f4 r5.toNatClampNeg p2) (fun f8 => ob (f_X10_of (o_s 0) (2 : Int32)) (fun r9 => gd (ix r9 42) (nm (upd f8 r9.toNatClampNeg p3) (fun f12 => ob (f_X10_of (o_s 0) (3 : Int32)) (fun r13 => gd (ix r13 42) (nm (upd f12 r13.toNatClampNeg (0 : Int32)) (fun f16 => nm (upd f16 0 ((f16 0) + (1 : Int32))) (fun f17 => some f17)))))))))))))
set_option maxHeartbeats 4000000 in
set_option maxRecDepth 100000 in
theorem c_X10_adds (l : Launch) (E : EE) (o_h : Nat) (o_a0 : Nat) (o_a1 : Nat) (o_a2 : Nat) (o_a3 : Nat) (o_a8 : Nat) (o_a9 : Nat) (o_a11 : Nat) (o_a12 : Nat) (o_a13 : Nat) (o_a14 : Nat) (o_a15 : Nat) (o_a16 : Nat) (o_s : Nat → Int32) (o_m : Nat → Int32) (o_image : Nat → Int32) (o_was : Nat → Int32) (o_hasImage : Int32) (o_place : Int32) (o_rowAt : Int32) (o_rowEnd : Int32) (o_numbers : Nat → Int32) (o_most : Nat → Int32) (o_seed : Int32) (o_kept : Nat → Int32) (o_keptKind : Nat → Int32) (o_keptFigure : Nat → Int32) (o_sort : Nat → Int32) (o_size : Nat → Int32) (o_element : Nat → Int32) (o_thrown : Int32) (p1 : Int32) (p2 : Int32) (p3 : Int32) (w_o_s : Nat → Int32) (hv : f_X10_adds o_s p1 p2 p3 = some w_o_s) : Wr l E yX10_adds cX10_adds 5 none ({ frames := 1, cells := 0, slots := 0, locals := 21 }) [.ref o_h, .int p1, .int p2, .int p3] [oMo o_h o_a0 o_a1 o_a2 o_a3 o_hasImage o_place o_rowAt o_rowEnd o_a8 o_a9 o_seed o_a11 o_a12 o_a13 o_a14 o_a15 o_a16 o_thrown, ai E o_a0 42 o_s, ai E o_a1 42 o_m, ai E o_a2 42 o_image, ai E o_a3 42 o_was, ai E o_a8 3 o_numbers, ai E o_a9 8192 o_most, ai E o_a11 8 o_kept, ai E o_a12 8 o_keptKind, ai E o_a13 8 o_keptFigure, ai E o_a14 8 o_sort, ai E o_a15 8 o_size, ai E o_a16 800 o_element] [oMo o_h o_a0 o_a1 o_a2 o_a3 o_hasImage o_place o_rowAt o_rowEnd o_a8 o_a9 o_seed o_a11 o_a12 o_a13 o_a14 o_a15 o_a16 o_thrown, ai E o_a0 42 w_o_s, ai E o_a1 42 o_m, ai E o_a2 42 o_image, ai E o_a3 42 o_was, ai E o_a8 3 o_numbers, ai E o_a9 8192 o_most, ai E o_a11 8 o_kept, ai E o_a12 8 o_keptKind, ai E o_a13 8 o_keptFigure, ai E o_a14 8 o_sort, ai E o_a15 8 o_size, ai E o_a16 800 o_element] none := by
  refine Wr.intro RX10 (by decide) rfl (Nat.le_of_ble_eq_true rfl) ?_
  intro p e s m below meth c ls A hC hr hlk hmn hP hD hS hA hG hl
  obtain ⟨hx, hb, hml, hown, ht⟩ := id hC
  have hK := hG.1
  have hl : lv_has ls 5 [(0, .ref o_h), (1, .int p1), (2, .int p2), (3, .int p3)] := hl
  rw [f_X10_adds] at hv
  refine lv_aload_n hx hb dX10_adds_0 rfl (lv_at hl 0 rfl) ?_
  refine va_get (D := E.1) (ci := 4) (v := .ref o_a0) (C := RX10) (T := TX10) (N := 18) hx hb ht i_X10 hown hK hP 0 rfl rfl 0 (by decide) (ht _ kw_4_134) (fun _ h9 => h9) rfl dX10_adds_1 ?_
  refine lv_iconst (v := (0 : Int32)) hx hb dX10_adds_4 (by decide) ?_
  refine va_iald hx hb hK hP 1 0 rfl rfl (ix_s (by decide)) dX10_adds_5 ?_
  refine W.eq (g2 := F0 m 6 ls [.int (o_s 0)]) rfl ?_
  refine lv_istore (lv' := [(4, .int (o_s 0)), (0, .ref o_h), (1, .int p1), (2, .int p2), (3, .int p3)]) hx hb dX10_adds_6 hl (by decide) rfl (fun ls hl => ?_)
  refine lv_aload_n hx hb dX10_adds_8 rfl (lv_at hl 1 rfl) ?_
  refine va_get (D := E.1) (ci := 4) (v := .ref o_a0) (C := RX10) (T := TX10) (N := 18) hx hb ht i_X10 hown hK hP 0 rfl rfl 0 (by decide) (ht _ kw_4_134) (fun _ h9 => h9) rfl dX10_adds_9 ?_
  refine lv_iload hx hb dX10_adds_12 (lv_at hl 0 rfl) ?_
  refine lv_iconst (v := (0 : Int32)) hx hb dX10_adds_14 (by decide) ?_
  obtain ⟨r1, h2, hv⟩ := ob_s hv
  refine rdS (rest := [.ref o_a0]) (st1 := [.int r1, .ref o_a0]) (w := []) hC q_X10_of kw_4_226 (c_X10_of l E (o_s 0) (0 : Int32) r1 h2) ⟨rfl, rfl⟩ ⟨Nat.le_of_ble_eq_true rfl, Nat.le_of_ble_eq_true rfl⟩ ⟨Nat.zero_le _, Nat.zero_le _⟩ (hP.sub (ws' := []) [] rfl) hG rfl hl.1 rfl (Nat.le_of_ble_eq_true rfl) dX10_adds_15 rfl ?_
  refine lv_iload_n hx hb dX10_adds_18 rfl (lv_at hl 2 rfl) ?_
  obtain ⟨g3, hv⟩ := gd_s hv
  refine va_iast hx hb hK hP hD hS 1 0 rfl rfl (ix_s g3) dX10_adds_19 (fun H locs hP hD hS => ?_)
  have hP : va_P E.1 vwCl [oMo o_h o_a0 o_a1 o_a2 o_a3 o_hasImage o_place o_rowAt o_rowEnd o_a8 o_a9 o_seed o_a11 o_a12 o_a13 o_a14 o_a15 o_a16 o_thrown, ai E o_a0 42 (upd o_s r1.toNatClampNeg p1), ai E o_a1 42 o_m, ai E o_a2 42 o_image, ai E o_a3 42 o_was, ai E o_a8 3 o_numbers, ai E o_a9 8192 o_most, ai E o_a11 8 o_kept, ai E o_a12 8 o_keptKind, ai E o_a13 8 o_keptFigure, ai E o_a14 8 o_sort, ai E o_a15 8 o_size, ai E o_a16 800 o_element] H := hP
  have hD : va_D A [oMo o_h o_a0 o_a1 o_a2 o_a3 o_hasImage o_place o_rowAt o_rowEnd o_a8 o_a9 o_seed o_a11 o_a12 o_a13 o_a14 o_a15 o_a16 o_thrown, ai E o_a0 42 (upd o_s r1.toNatClampNeg p1), ai E o_a1 42 o_m, ai E o_a2 42 o_image, ai E o_a3 42 o_was, ai E o_a8 3 o_numbers, ai E o_a9 8192 o_most, ai E o_a11 8 o_kept, ai E o_a12 8 o_keptKind, ai E o_a13 8 o_keptFigure, ai E o_a14 8 o_sort, ai E o_a15 8 o_size, ai E o_a16 800 o_element] := hD
  obtain ⟨f4, ef4⟩ : ∃ z, z = (upd o_s r1.toNatClampNeg p1) := ⟨_, rfl⟩
  rw [← ef4] at hP hD
  have hv := nm_s ef4 hv
  refine lv_aload_n hx hb dX10_adds_20 rfl (lv_at hl 1 rfl) ?_
  refine va_get (D := E.1) (ci := 4) (v := .ref o_a0) (C := RX10) (T := TX10) (N := 18) hx hb ht i_X10 hown hK hP 0 rfl rfl 0 (by decide) (ht _ kw_4_134) (fun _ h9 => h9) rfl dX10_adds_21 ?_
  refine lv_iload hx hb dX10_adds_24 (lv_at hl 0 rfl) ?_
  refine lv_iconst (v := (1 : Int32)) hx hb dX10_adds_26 (by decide) ?_
  obtain ⟨r5, h6, hv⟩ := ob_s hv
  refine rdS (rest := [.ref o_a0]) (st1 := [.int r5, .ref o_a0]) (w := []) hC q_X10_of kw_4_226 (c_X10_of l E (o_s 0) (1 : Int32) r5 h6) ⟨rfl, rfl⟩ ⟨Nat.le_of_ble_eq_true rfl, Nat.le_of_ble_eq_true rfl⟩ ⟨Nat.zero_le _, Nat.zero_le _⟩ (hP.sub (ws' := []) [] rfl) hG rfl hl.1 rfl (Nat.le_of_ble_eq_true rfl) dX10_adds_27 rfl ?_
  refine lv_iload_n hx hb dX10_adds_30 rfl (lv_at hl 3 rfl) ?_
  obtain ⟨g7, hv⟩ := gd_s hv
  refine va_iast hx hb hK hP hD hS 1 0 rfl rfl (ix_s g7) dX10_adds_31 (fun H locs hP hD hS => ?_)
  have hP : va_P E.1 vwCl [oMo o_h o_a0 o_a1 o_a2 o_a3 o_hasImage o_place o_rowAt o_rowEnd o_a8 o_a9 o_seed o_a11 o_a12 o_a13 o_a14 o_a15 o_a16 o_thrown, ai E o_a0 42 (upd f4 r5.toNatClampNeg p2), ai E o_a1 42 o_m, ai E o_a2 42 o_image, ai E o_a3 42 o_was, ai E o_a8 3 o_numbers, ai E o_a9 8192 o_most, ai E o_a11 8 o_kept, ai E o_a12 8 o_keptKind, ai E o_a13 8 o_keptFigure, ai E o_a14 8 o_sort, ai E o_a15 8 o_size, ai E o_a16 800 o_element] H := hP
  have hD : va_D A [oMo o_h o_a0 o_a1 o_a2 o_a3 o_hasImage o_place o_rowAt o_rowEnd o_a8 o_a9 o_seed o_a11 o_a12 o_a13 o_a14 o_a15 o_a16 o_thrown, ai E o_a0 42 (upd f4 r5.toNatClampNeg p2), ai E o_a1 42 o_m, ai E o_a2 42 o_image, ai E o_a3 42 o_was, ai E o_a8 3 o_numbers, ai E o_a9 8192 o_most, ai E o_a11 8 o_kept, ai E o_a12 8 o_keptKind, ai E o_a13 8 o_keptFigure, ai E o_a14 8 o_sort, ai E o_a15 8 o_size, ai E o_a16 800 o_element] := hD
  obtain ⟨f8, ef8⟩ : ∃ z, z = (upd f4 r5.toNatClampNeg p2) := ⟨_, rfl⟩
  rw [← ef8] at hP hD
  have hv := nm_s ef8 hv
  refine lv_aload_n hx hb dX10_adds_32 rfl (lv_at hl 1 rfl) ?_
  refine va_get (D := E.1) (ci := 4) (v := .ref o_a0) (C := RX10) (T := TX10) (N := 18) hx hb ht i_X10 hown hK hP 0 rfl rfl 0 (by decide) (ht _ kw_4_134) (fun _ h9 => h9) rfl dX10_adds_33 ?_
  refine lv_iload hx hb dX10_adds_36 (lv_at hl 0 rfl) ?_
  refine lv_iconst (v := (2 : Int32)) hx hb dX10_adds_38 (by decide) ?_
  obtain ⟨r9, h10, hv⟩ := ob_s hv
  refine rdS (rest := [.ref o_a0]) (st1 := [.int r9, .ref o_a0]) (w := []) hC q_X10_of kw_4_226 (c_X10_of l E (o_s 0) (2 : Int32) r9 h10) ⟨rfl, rfl⟩ ⟨Nat.le_of_ble_eq_true rfl, Nat.le_of_ble_eq_true rfl⟩ ⟨Nat.zero_le _, Nat.zero_le _⟩ (hP.sub (ws' := []) [] rfl) hG rfl hl.1 rfl (Nat.le_of_ble_eq_true rfl) dX10_adds_39 rfl ?_
  refine lv_iload_n hx hb dX10_adds_42 rfl (lv_at hl 4 rfl) ?_
  obtain ⟨g11, hv⟩ := gd_s hv
  refine va_iast hx hb hK hP hD hS 1 0 rfl rfl (ix_s g11) dX10_adds_43 (fun H locs hP hD hS => ?_)
  have hP : va_P E.1 vwCl [oMo o_h o_a0 o_a1 o_a2 o_a3 o_hasImage o_place o_rowAt o_rowEnd o_a8 o_a9 o_seed o_a11 o_a12 o_a13 o_a14 o_a15 o_a16 o_thrown, ai E o_a0 42 (upd f8 r9.toNatClampNeg p3), ai E o_a1 42 o_m, ai E o_a2 42 o_image, ai E o_a3 42 o_was, ai E o_a8 3 o_numbers, ai E o_a9 8192 o_most, ai E o_a11 8 o_kept, ai E o_a12 8 o_keptKind, ai E o_a13 8 o_keptFigure, ai E o_a14 8 o_sort, ai E o_a15 8 o_size, ai E o_a16 800 o_element] H := hP
  have hD : va_D A [oMo o_h o_a0 o_a1 o_a2 o_a3 o_hasImage o_place o_rowAt o_rowEnd o_a8 o_a9 o_seed o_a11 o_a12 o_a13 o_a14 o_a15 o_a16 o_thrown, ai E o_a0 42 (upd f8 r9.toNatClampNeg p3), ai E o_a1 42 o_m, ai E o_a2 42 o_image, ai E o_a3 42 o_was, ai E o_a8 3 o_numbers, ai E o_a9 8192 o_most, ai E o_a11 8 o_kept, ai E o_a12 8 o_keptKind, ai E o_a13 8 o_keptFigure, ai E o_a14 8 o_sort, ai E o_a15 8 o_size, ai E o_a16 800 o_element] := hD
  obtain ⟨f12, ef12⟩ : ∃ z, z = (upd f8 r9.toNatClampNeg p3) := ⟨_, rfl⟩
  rw [← ef12] at hP hD
  have hv := nm_s ef12 hv
  refine lv_aload_n hx hb dX10_adds_44 rfl (lv_at hl 1 rfl) ?_
  refine va_get (D := E.1) (ci := 4) (v := .ref o_a0) (C := RX10) (T := TX10) (N := 18) hx hb ht i_X10 hown hK hP 0 rfl rfl 0 (by decide) (ht _ kw_4_134) (fun _ h9 => h9) rfl dX10_adds_45 ?_
  refine lv_iload hx hb dX10_adds_48 (lv_at hl 0 rfl) ?_
  refine lv_iconst (v := (3 : Int32)) hx hb dX10_adds_50 (by decide) ?_
  obtain ⟨r13, h14, hv⟩ := ob_s hv
  refine rdS (rest := [.ref o_a0]) (st1 := [.int r13, .ref o_a0]) (w := []) hC q_X10_of kw_4_226 (c_X10_of l E (o_s 0) (3 : Int32) r13 h14) ⟨rfl, rfl⟩ ⟨Nat.le_of_ble_eq_true rfl, Nat.le_of_ble_eq_true rfl⟩ ⟨Nat.zero_le _, Nat.zero_le _⟩ (hP.sub (ws' := []) [] rfl) hG rfl hl.1 rfl (Nat.le_of_ble_eq_true rfl) dX10_adds_51 rfl ?_
  refine lv_iconst (v := (0 : Int32)) hx hb dX10_adds_54 (by decide) ?_
  obtain ⟨g15, hv⟩ := gd_s hv
  refine va_iast hx hb hK hP hD hS 1 0 rfl rfl (ix_s g15) dX10_adds_55 (fun H locs hP hD hS => ?_)
  have hP : va_P E.1 vwCl [oMo o_h o_a0 o_a1 o_a2 o_a3 o_hasImage o_place o_rowAt o_rowEnd o_a8 o_a9 o_seed o_a11 o_a12 o_a13 o_a14 o_a15 o_a16 o_thrown, ai E o_a0 42 (upd f12 r13.toNatClampNeg (0 : Int32)), ai E o_a1 42 o_m, ai E o_a2 42 o_image, ai E o_a3 42 o_was, ai E o_a8 3 o_numbers, ai E o_a9 8192 o_most, ai E o_a11 8 o_kept, ai E o_a12 8 o_keptKind, ai E o_a13 8 o_keptFigure, ai E o_a14 8 o_sort, ai E o_a15 8 o_size, ai E o_a16 800 o_element] H := hP
  have hD : va_D A [oMo o_h o_a0 o_a1 o_a2 o_a3 o_hasImage o_place o_rowAt o_rowEnd o_a8 o_a9 o_seed o_a11 o_a12 o_a13 o_a14 o_a15 o_a16 o_thrown, ai E o_a0 42 (upd f12 r13.toNatClampNeg (0 : Int32)), ai E o_a1 42 o_m, ai E o_a2 42 o_image, ai E o_a3 42 o_was, ai E o_a8 3 o_numbers, ai E o_a9 8192 o_most, ai E o_a11 8 o_kept, ai E o_a12 8 o_keptKind, ai E o_a13 8 o_keptFigure, ai E o_a14 8 o_sort, ai E o_a15 8 o_size, ai E o_a16 800 o_element] := hD
  obtain ⟨f16, ef16⟩ : ∃ z, z = (upd f12 r13.toNatClampNeg (0 : Int32)) := ⟨_, rfl⟩
  rw [← ef16] at hP hD
  have hv := nm_s ef16 hv
  refine lv_aload_n hx hb dX10_adds_56 rfl (lv_at hl 1 rfl) ?_
  refine va_get (D := E.1) (ci := 4) (v := .ref o_a0) (C := RX10) (T := TX10) (N := 18) hx hb ht i_X10 hown hK hP 0 rfl rfl 0 (by decide) (ht _ kw_4_134) (fun _ h9 => h9) rfl dX10_adds_57 ?_
  refine lv_iconst (v := (0 : Int32)) hx hb dX10_adds_60 (by decide) ?_
  refine lv_dup2_11 hx hb dX10_adds_61 rfl rfl ?_
  refine va_iald hx hb hK hP 1 0 rfl rfl (ix_s (by decide)) dX10_adds_62 ?_
  refine W.eq (g2 := F0 m 63 ls [.int (f16 0), .int (0 : Int32), .ref o_a0]) rfl ?_
  refine lv_iconst (v := (1 : Int32)) hx hb dX10_adds_63 (by decide) ?_
  refine lv_iadd hx hb dX10_adds_64 ?_
  refine va_iast hx hb hK hP hD hS 1 0 rfl rfl (ix_s (by decide)) dX10_adds_65 (fun H locs hP hD hS => ?_)
  have hP : va_P E.1 vwCl [oMo o_h o_a0 o_a1 o_a2 o_a3 o_hasImage o_place o_rowAt o_rowEnd o_a8 o_a9 o_seed o_a11 o_a12 o_a13 o_a14 o_a15 o_a16 o_thrown, ai E o_a0 42 (upd f16 0 ((f16 0) + (1 : Int32))), ai E o_a1 42 o_m, ai E o_a2 42 o_image, ai E o_a3 42 o_was, ai E o_a8 3 o_numbers, ai E o_a9 8192 o_most, ai E o_a11 8 o_kept, ai E o_a12 8 o_keptKind, ai E o_a13 8 o_keptFigure, ai E o_a14 8 o_sort, ai E o_a15 8 o_size, ai E o_a16 800 o_element] H := hP
  have hD : va_D A [oMo o_h o_a0 o_a1 o_a2 o_a3 o_hasImage o_place o_rowAt o_rowEnd o_a8 o_a9 o_seed o_a11 o_a12 o_a13 o_a14 o_a15 o_a16 o_thrown, ai E o_a0 42 (upd f16 0 ((f16 0) + (1 : Int32))), ai E o_a1 42 o_m, ai E o_a2 42 o_image, ai E o_a3 42 o_was, ai E o_a8 3 o_numbers, ai E o_a9 8192 o_most, ai E o_a11 8 o_kept, ai E o_a12 8 o_keptKind, ai E o_a13 8 o_keptFigure, ai E o_a14 8 o_sort, ai E o_a15 8 o_size, ai E o_a16 800 o_element] := hD
  obtain ⟨f17, ef17⟩ : ∃ z, z = (upd f16 0 ((f16 0) + (1 : Int32))) := ⟨_, rfl⟩
  rw [← ef17] at hP hD
  have hv := nm_s ef17 hv
  cases hv
  exact W.vret hx hb hr (fun t h9 _ => ⟨rfl, by rw [h9]; exact hP, hS.F h9⟩) hS.2.2 dX10_adds_66 hlk
theorem dX10_isDone_0 : decode cX10_isDone 0 = .ok (.aload_n 0, 1) := by decide +kernel
theorem dX10_isDone_1 : decode cX10_isDone 1 = .ok (.getfield 22, 3) := by decide +kernel
theorem dX10_isDone_4 : decode cX10_isDone 4 = .ok (.iconst 0, 1) := by decide +kernel
theorem dX10_isDone_5 : decode cX10_isDone 5 = .ok (.iaload, 1) := by decide +kernel
theorem dX10_isDone_6 : decode cX10_isDone 6 = .ok (.istore_n 2, 1) := by decide +kernel
theorem dX10_isDone_7 : decode cX10_isDone 7 = .ok (.aload_n 0, 1) := by decide +kernel
theorem dX10_isDone_8 : decode cX10_isDone 8 = .ok (.getfield 22, 3) := by decide +kernel
theorem dX10_isDone_11 : decode cX10_isDone 11 = .ok (.iconst 1, 1) := by decide +kernel
theorem dX10_isDone_12 : decode cX10_isDone 12 = .ok (.iaload, 1) := by decide +kernel
theorem dX10_isDone_13 : decode cX10_isDone 13 = .ok (.istore_n 3, 1) := by decide +kernel
theorem dX10_isDone_14 : decode cX10_isDone 14 = .ok (.iload_n 1, 1) := by decide +kernel
theorem dX10_isDone_15 : decode cX10_isDone 15 = .ok (.tableswitch 204 97 115 #[141, 89, 204, 204, 204, 141, 204, 204, 204, 204, 204, 204, 204, 204, 175, 204, 189, 204, 108], 89) := by decide +kernel
theorem dX10_isDone_104 : decode cX10_isDone 104 = .ok (.iload_n 3, 1) := by decide +kernel
theorem dX10_isDone_105 : decode cX10_isDone 105 = .ok (.bipush 7, 2) := by decide +kernel
theorem dX10_isDone_107 : decode cX10_isDone 107 = .ok (.if_icmp .le 5, 3) := by decide +kernel
theorem dX10_isDone_110 : decode cX10_isDone 110 = .ok (.iconst 0, 1) := by decide +kernel
theorem dX10_isDone_111 : decode cX10_isDone 111 = .ok (.ireturn, 1) := by decide +kernel
theorem dX10_isDone_112 : decode cX10_isDone 112 = .ok (.aload_n 0, 1) := by decide +kernel
theorem dX10_isDone_113 : decode cX10_isDone 113 = .ok (.getfield 9, 3) := by decide +kernel
theorem dX10_isDone_116 : decode cX10_isDone 116 = .ok (.iconst 4, 1) := by decide +kernel
theorem dX10_isDone_117 : decode cX10_isDone 117 = .ok (.iload_n 2, 1) := by decide +kernel
theorem dX10_isDone_118 : decode cX10_isDone 118 = .ok (.iadd, 1) := by decide +kernel
theorem dX10_isDone_119 : decode cX10_isDone 119 = .ok (.iload_n 3, 1) := by decide +kernel
theorem dX10_isDone_120 : decode cX10_isDone 120 = .ok (.iastore, 1) := by decide +kernel
theorem dX10_isDone_121 : decode cX10_isDone 121 = .ok (.iconst 1, 1) := by decide +kernel
theorem dX10_isDone_122 : decode cX10_isDone 122 = .ok (.ireturn, 1) := by decide +kernel
theorem dX10_isDone_123 : decode cX10_isDone 123 = .ok (.iload_n 2, 1) := by decide +kernel
theorem dX10_isDone_124 : decode cX10_isDone 124 = .ok (.bipush 8, 2) := by decide +kernel
theorem dX10_isDone_126 : decode cX10_isDone 126 = .ok (.if_icmp .ge 14, 3) := by decide +kernel
theorem dX10_isDone_129 : decode cX10_isDone 129 = .ok (.aload_n 0, 1) := by decide +kernel
theorem dX10_isDone_130 : decode cX10_isDone 130 = .ok (.getfield 9, 3) := by decide +kernel
theorem dX10_isDone_133 : decode cX10_isDone 133 = .ok (.iconst 0, 1) := by decide +kernel
theorem dX10_isDone_134 : decode cX10_isDone 134 = .ok (.iaload, 1) := by decide +kernel
theorem dX10_isDone_135 : decode cX10_isDone 135 = .ok (.bipush 7, 2) := by decide +kernel
theorem dX10_isDone_137 : decode cX10_isDone 137 = .ok (.if_icmp .ne 5, 3) := by decide +kernel
theorem dX10_isDone_140 : decode cX10_isDone 140 = .ok (.iconst 0, 1) := by decide +kernel
theorem dX10_isDone_141 : decode cX10_isDone 141 = .ok (.ireturn, 1) := by decide +kernel
theorem dX10_isDone_142 : decode cX10_isDone 142 = .ok (.aload_n 0, 1) := by decide +kernel
theorem dX10_isDone_143 : decode cX10_isDone 143 = .ok (.iload_n 2, 1) := by decide +kernel
theorem dX10_isDone_144 : decode cX10_isDone 144 = .ok (.iload_n 3, 1) := by decide +kernel
theorem dX10_isDone_145 : decode cX10_isDone 145 = .ok (.aload_n 0, 1) := by decide +kernel
theorem dX10_isDone_146 : decode cX10_isDone 146 = .ok (.getfield 22, 3) := by decide +kernel
theorem dX10_isDone_149 : decode cX10_isDone 149 = .ok (.iconst 2, 1) := by decide +kernel
theorem dX10_isDone_150 : decode cX10_isDone 150 = .ok (.iaload, 1) := by decide +kernel
theorem dX10_isDone_151 : decode cX10_isDone 151 = .ok (.invokevirtual 130, 3) := by decide +kernel
theorem dX10_isDone_154 : decode cX10_isDone 154 = .ok (.iconst 1, 1) := by decide +kernel
theorem dX10_isDone_155 : decode cX10_isDone 155 = .ok (.ireturn, 1) := by decide +kernel
theorem dX10_isDone_156 : decode cX10_isDone 156 = .ok (.aload_n 0, 1) := by decide +kernel
theorem dX10_isDone_157 : decode cX10_isDone 157 = .ok (.iload_n 2, 1) := by decide +kernel
theorem dX10_isDone_158 : decode cX10_isDone 158 = .ok (.invokevirtual 134, 3) := by decide +kernel
theorem dX10_isDone_161 : decode cX10_isDone 161 = .ok (.ifCond .ne 5, 3) := by decide +kernel
theorem dX10_isDone_164 : decode cX10_isDone 164 = .ok (.iconst 0, 1) := by decide +kernel
theorem dX10_isDone_165 : decode cX10_isDone 165 = .ok (.ireturn, 1) := by decide +kernel
theorem dX10_isDone_166 : decode cX10_isDone 166 = .ok (.aload_n 0, 1) := by decide +kernel
theorem dX10_isDone_167 : decode cX10_isDone 167 = .ok (.getfield 9, 3) := by decide +kernel
theorem dX10_isDone_170 : decode cX10_isDone 170 = .ok (.iload_n 2, 1) := by decide +kernel
theorem dX10_isDone_171 : decode cX10_isDone 171 = .ok (.iconst 3, 1) := by decide +kernel
theorem dX10_isDone_172 : decode cX10_isDone 172 = .ok (.invokestatic 50, 3) := by decide +kernel
theorem dX10_isDone_175 : decode cX10_isDone 175 = .ok (.iload_n 1, 1) := by decide +kernel
theorem dX10_isDone_176 : decode cX10_isDone 176 = .ok (.bipush 102, 2) := by decide +kernel
theorem dX10_isDone_178 : decode cX10_isDone 178 = .ok (.if_icmp .ne 7, 3) := by decide +kernel
theorem dX10_isDone_181 : decode cX10_isDone 181 = .ok (.iload_n 3, 1) := by decide +kernel
theorem dX10_isDone_182 : decode cX10_isDone 182 = .ok (.goto 5, 3) := by decide +kernel
theorem dX10_isDone_185 : decode cX10_isDone 185 = .ok (.iload_n 3, 1) := by decide +kernel
theorem dX10_isDone_186 : decode cX10_isDone 186 = .ok (.ineg, 1) := by decide +kernel
theorem dX10_isDone_187 : decode cX10_isDone 187 = .ok (.iastore, 1) := by decide +kernel
theorem dX10_isDone_188 : decode cX10_isDone 188 = .ok (.iconst 1, 1) := by decide +kernel
theorem dX10_isDone_189 : decode cX10_isDone 189 = .ok (.ireturn, 1) := by decide +kernel
theorem dX10_isDone_190 : decode cX10_isDone 190 = .ok (.aload_n 0, 1) := by decide +kernel
theorem dX10_isDone_191 : decode cX10_isDone 191 = .ok (.getfield 9, 3) := by decide +kernel
theorem dX10_isDone_194 : decode cX10_isDone 194 = .ok (.iconst 3, 1) := by decide +kernel
theorem dX10_isDone_195 : decode cX10_isDone 195 = .ok (.dup2, 1) := by decide +kernel
theorem dX10_isDone_196 : decode cX10_isDone 196 = .ok (.iaload, 1) := by decide +kernel
theorem dX10_isDone_197 : decode cX10_isDone 197 = .ok (.iconst 1, 1) := by decide +kernel
theorem dX10_isDone_198 : decode cX10_isDone 198 = .ok (.iload_n 2, 1) := by decide +kernel
theorem dX10_isDone_199 : decode cX10_isDone 199 = .ok (.ishl, 1) := by decide +kernel
theorem dX10_isDone_200 : decode cX10_isDone 200 = .ok (.ixor, 1) := by decide +kernel
theorem dX10_isDone_201 : decode cX10_isDone 201 = .ok (.iastore, 1) := by decide +kernel
theorem dX10_isDone_202 : decode cX10_isDone 202 = .ok (.iconst 1, 1) := by decide +kernel
theorem dX10_isDone_203 : decode cX10_isDone 203 = .ok (.ireturn, 1) := by decide +kernel
theorem dX10_isDone_204 : decode cX10_isDone 204 = .ok (.iload_n 2, 1) := by decide +kernel
theorem dX10_isDone_205 : decode cX10_isDone 205 = .ok (.ifCond .ne 5, 3) := by decide +kernel
theorem dX10_isDone_208 : decode cX10_isDone 208 = .ok (.iconst 0, 1) := by decide +kernel
theorem dX10_isDone_209 : decode cX10_isDone 209 = .ok (.ireturn, 1) := by decide +kernel
theorem dX10_isDone_210 : decode cX10_isDone 210 = .ok (.aload_n 0, 1) := by decide +kernel
theorem dX10_isDone_211 : decode cX10_isDone 211 = .ok (.getfield 9, 3) := by decide +kernel
theorem dX10_isDone_214 : decode cX10_isDone 214 = .ok (.iconst 2, 1) := by decide +kernel
theorem dX10_isDone_215 : decode cX10_isDone 215 = .ok (.iload_n 2, 1) := by decide +kernel
theorem dX10_isDone_216 : decode cX10_isDone 216 = .ok (.iastore, 1) := by decide +kernel
theorem dX10_isDone_217 : decode cX10_isDone 217 = .ok (.iconst 1, 1) := by decide +kernel
theorem dX10_isDone_218 : decode cX10_isDone 218 = .ok (.ireturn, 1) := by decide +kernel
theorem dX10_isDone_219 : decode cX10_isDone 219 = .ok (.iload_n 2, 1) := by decide +kernel
theorem dX10_isDone_220 : decode cX10_isDone 220 = .ok (.iconst 1, 1) := by decide +kernel
theorem dX10_isDone_221 : decode cX10_isDone 221 = .ok (.bipush 60, 2) := by decide +kernel
theorem dX10_isDone_223 : decode cX10_isDone 223 = .ok (.invokestatic 46, 3) := by decide +kernel
theorem dX10_isDone_226 : decode cX10_isDone 226 = .ok (.ifCond .eq 17, 3) := by decide +kernel
theorem dX10_isDone_229 : decode cX10_isDone 229 = .ok (.aload_n 0, 1) := by decide +kernel
theorem dX10_isDone_230 : decode cX10_isDone 230 = .ok (.getfield 9, 3) := by decide +kernel
theorem dX10_isDone_233 : decode cX10_isDone 233 = .ok (.iconst 1, 1) := by decide +kernel
theorem dX10_isDone_234 : decode cX10_isDone 234 = .ok (.iaload, 1) := by decide +kernel
theorem dX10_isDone_235 : decode cX10_isDone 235 = .ok (.iload_n 2, 1) := by decide +kernel
theorem dX10_isDone_236 : decode cX10_isDone 236 = .ok (.iadd, 1) := by decide +kernel
theorem dX10_isDone_237 : decode cX10_isDone 237 = .ok (.sipush 999, 3) := by decide +kernel
theorem dX10_isDone_240 : decode cX10_isDone 240 = .ok (.if_icmp .le 5, 3) := by decide +kernel
theorem dX10_isDone_243 : decode cX10_isDone 243 = .ok (.iconst 0, 1) := by decide +kernel
theorem dX10_isDone_244 : decode cX10_isDone 244 = .ok (.ireturn, 1) := by decide +kernel
theorem dX10_isDone_245 : decode cX10_isDone 245 = .ok (.aload_n 0, 1) := by decide +kernel
theorem dX10_isDone_246 : decode cX10_isDone 246 = .ok (.getfield 9, 3) := by decide +kernel
theorem dX10_isDone_249 : decode cX10_isDone 249 = .ok (.iload_n 2, 1) := by decide +kernel
theorem dX10_isDone_250 : decode cX10_isDone 250 = .ok (.invokestatic 138, 3) := by decide +kernel
theorem dX10_isDone_253 : decode cX10_isDone 253 = .ok (.iconst 1, 1) := by decide +kernel
theorem dX10_isDone_254 : decode cX10_isDone 254 = .ok (.ireturn, 1) := by decide +kernel
def f_X10_isDone (N : Nat) (o_s : Nat → Int32) (o_numbers : Nat → Int32) (p1 : Int32) : Option (Int32 × (Nat → Int32)) := if p1 = (97 : Int32) then ob (f_X10_isSpeaker o_s (o_numbers 0)) (fun r2 => if r2 = 0 then nm (0 : Int32) (fun z14 => some (z14, o_s)) else ob (f_X10_of (o_numbers 0) (3 : Int32)) (fun r5 => if p1 = (102 : Int32) then gd (ix r5 42) (nm (upd o_s r5.toNatClampNeg (o_numbers 1)) (fun f12 => nm (1 : Int32) (fun z13 => some (z13, f12)))) else gd (ix r5 42) (nm (upd o_s r5.toNatClampNeg (-(o_numbers 1))) (fun f9 => nm (1 : Int32) (fun z10 => some (z10, f9)))))) else if p1 = (98 : Int32) then if (o_numbers 1) ≤ (7 : Int32) then gd (ix ((4 : Int32) + (o_numbers 0)) 42) (nm (upd o_s ((4 : Int32) + (o_numbers 0)).toNatClampNeg (o_numbers 1)) (fun f18 => nm (1 : Int32) (fun z19 => some (z19, f18)))) else nm (0 : Int32) (fun z20 => some (z20, o_s)) else if p1 = (102 : Int32) then ob (f_X10_isSpeaker o_s (o_numbers 0)) (fun r22 => if r22 = 0 then nm (0 : Int32) (fun z34 => some (z34, o_s)) else ob (f_X10_of (o_numbers 0) (3 : Int32)) (fun r25 => if p1 = (102 : Int32) then gd (ix r25 42) (nm (upd o_s r25.toNatClampNeg (o_numbers 1)) (fun f32 => nm (1 : Int32) (fun z33 => some (z33, f32)))) else gd (ix r25 42) (nm (upd o_s r25.toNatClampNeg (-(o_numbers 1))) (fun f29 => nm (1 : Int32) (fun z30 => some (z30, f29)))))) else if p1 = (111 : Int32) then nm (upd o_s 3 ((o_s 3) ^^^ ((1 : Int32) <<< ((o_numbers 0) &&& 31)))) (fun f36 => nm (1 : Int32) (fun z37 => some (z37, f36))) else if p1 = (113 : Int32) then if (o_numbers 0) = 0 then nm (0 : Int32) (fun z42 => some (z42, o_s)) else nm (upd o_s 2 (o_numbers 0)) (fun f40 => nm (1 : Int32) (fun z41 => some (z41, f40))) else if p1 = (115 : Int32) then if (8 : Int32) ≤ (o_numbers 0) then nm (0 : Int32) (fun z45 => some (z45, o_s)) else if (o_s 0) = (7 : Int32) then nm (0 : Int32) (fun z50 => some (z50, o_s)) else ob (f_X10_adds o_s (o_numbers 0) (o_numbers 1) (o_numbers 2)) (fun y47 => nm (1 : Int32) (fun z49 => some (z49, y47))) else ob (f_X10_isIn (o_numbers 0) (1 : Int32) (60 : Int32)) (fun r51 => if r51 = 0 then nm (0 : Int32) (fun z54 => some (z54, o_s)) else if ((o_s 1) + (o_numbers 0)) ≤ (999 : Int32) then ob (f_X10_daysOn N o_s (o_numbers 0)) (fun y56 => nm (1 : Int32) (fun z58 => some (z58, y56))) else nm (0 : Int32) (fun z59 => some (z59, o_s)))
set_option maxHeartbeats 4000000 in
set_option maxRecDepth 100000 in
theorem c_X10_isDone (l : Launch) (E : EE) (o_h : Nat) (o_a0 : Nat) (o_a1 : Nat) (o_a2 : Nat) (o_a3 : Nat) (o_a8 : Nat) (o_a9 : Nat) (o_a11 : Nat) (o_a12 : Nat) (o_a13 : Nat) (o_a14 : Nat) (o_a15 : Nat) (o_a16 : Nat) (o_s : Nat → Int32) (o_m : Nat → Int32) (o_image : Nat → Int32) (o_was : Nat → Int32) (o_hasImage : Int32) (o_place : Int32) (o_rowAt : Int32) (o_rowEnd : Int32) (o_numbers : Nat → Int32) (o_most : Nat → Int32) (o_seed : Int32) (o_kept : Nat → Int32) (o_keptKind : Nat → Int32) (o_keptFigure : Nat → Int32) (o_sort : Nat → Int32) (o_size : Nat → Int32) (o_element : Nat → Int32) (o_thrown : Int32) (p1 : Int32) (N : Nat) (res : Int32) (w_o_s : Nat → Int32) (hv : f_X10_isDone N o_s o_numbers p1 = some (res, w_o_s)) : Wr l E yX10_isDone cX10_isDone 4 (some .boolean) ({ frames := 6, cells := 0, slots := 0, locals := 133 }) [.ref o_h, .int p1] [oMo o_h o_a0 o_a1 o_a2 o_a3 o_hasImage o_place o_rowAt o_rowEnd o_a8 o_a9 o_seed o_a11 o_a12 o_a13 o_a14 o_a15 o_a16 o_thrown, ai E o_a0 42 o_s, ai E o_a1 42 o_m, ai E o_a2 42 o_image, ai E o_a3 42 o_was, ai E o_a8 3 o_numbers, ai E o_a9 8192 o_most, ai E o_a11 8 o_kept, ai E o_a12 8 o_keptKind, ai E o_a13 8 o_keptFigure, ai E o_a14 8 o_sort, ai E o_a15 8 o_size, ai E o_a16 800 o_element] [oMo o_h o_a0 o_a1 o_a2 o_a3 o_hasImage o_place o_rowAt o_rowEnd o_a8 o_a9 o_seed o_a11 o_a12 o_a13 o_a14 o_a15 o_a16 o_thrown, ai E o_a0 42 w_o_s, ai E o_a1 42 o_m, ai E o_a2 42 o_image, ai E o_a3 42 o_was, ai E o_a8 3 o_numbers, ai E o_a9 8192 o_most, ai E o_a11 8 o_kept, ai E o_a12 8 o_keptKind, ai E o_a13 8 o_keptFigure, ai E o_a14 8 o_sort, ai E o_a15 8 o_size, ai E o_a16 800 o_element] (some (.int res)) := by
  refine Wr.intro RX10 (by decide) rfl (Nat.le_of_ble_eq_true rfl) ?_
  intro p e s m below meth c ls A hC hr hlk hmn hP hD hS hA hG hl
  obtain ⟨hx, hb, hml, hown, ht⟩ := id hC
  have hK := hG.1
  have hl : lv_has ls 4 [(0, .ref o_h), (1, .int p1)] := hl
  rw [f_X10_isDone] at hv
  refine lv_aload_n hx hb dX10_isDone_0 rfl (lv_at hl 0 rfl) ?_
  refine va_get (D := E.1) (ci := 4) (v := .ref o_a8) (C := RX10) (T := TX10) (N := 18) hx hb ht i_X10 hown hK hP 0 rfl rfl 8 (by decide) (ht _ kw_4_142) (fun _ h9 => h9) rfl dX10_isDone_1 ?_
  refine lv_iconst (v := (0 : Int32)) hx hb dX10_isDone_4 (by decide) ?_
  refine va_iald hx hb hK hP 5 0 rfl rfl (ix_s (by decide)) dX10_isDone_5 ?_
  refine W.eq (g2 := F0 m 6 ls [.int (o_numbers 0)]) rfl ?_
  refine lv_istore_n (lv' := [(2, .int (o_numbers 0)), (0, .ref o_h), (1, .int p1)]) hx hb dX10_isDone_6 rfl hl (by decide) rfl (fun ls hl => ?_)
  refine lv_aload_n hx hb dX10_isDone_7 rfl (lv_at hl 1 rfl) ?_
  refine va_get (D := E.1) (ci := 4) (v := .ref o_a8) (C := RX10) (T := TX10) (N := 18) hx hb ht i_X10 hown hK hP 0 rfl rfl 8 (by decide) (ht _ kw_4_142) (fun _ h9 => h9) rfl dX10_isDone_8 ?_
  refine lv_iconst (v := (1 : Int32)) hx hb dX10_isDone_11 (by decide) ?_
  refine va_iald hx hb hK hP 5 0 rfl rfl (ix_s (by decide)) dX10_isDone_12 ?_
  refine W.eq (g2 := F0 m 13 ls [.int (o_numbers 1)]) rfl ?_
  refine lv_istore_n (lv' := [(3, .int (o_numbers 1)), (2, .int (o_numbers 0)), (0, .ref o_h), (1, .int p1)]) hx hb dX10_isDone_13 rfl hl (by decide) rfl (fun ls hl => ?_)
  refine lv_iload_n hx hb dX10_isDone_14 rfl (lv_at hl 3 rfl) ?_
  rcases Decidable.em (p1 = (97 : Int32)) with c1 | c1
  · have hv := if_y c1 hv
    refine lv_tableIn (tgt := 156) (off := 141) hx hb dX10_isDone_15 (by rw [c1]; decide) (by rw [c1]; decide) (by rw [c1]; rfl) (by decide) ?_
    refine lv_aload_n hx hb dX10_isDone_156 rfl (lv_at hl 2 rfl) ?_
    refine lv_iload_n hx hb dX10_isDone_157 rfl (lv_at hl 1 rfl) ?_
    obtain ⟨r2, h3, hv⟩ := ob_s hv
    refine rdV 4 0 (As := [.int (o_numbers 0)]) (rest := []) (st1 := [.int r2]) (w := [oMo o_h o_a0 o_a1 o_a2 o_a3 o_hasImage o_place o_rowAt o_rowEnd o_a8 o_a9 o_seed o_a11 o_a12 o_a13 o_a14 o_a15 o_a16 o_thrown, ai E o_a0 42 o_s, ai E o_a1 42 o_m, ai E o_a2 42 o_image, ai E o_a3 42 o_was, ai E o_a8 3 o_numbers, ai E o_a9 8192 o_most, ai E o_a11 8 o_kept, ai E o_a12 8 o_keptKind, ai E o_a13 8 o_keptFigure, ai E o_a14 8 o_sort, ai E o_a15 8 o_size, ai E o_a16 800 o_element]) hC q_X10_isSpeaker kw_4_229 (c_X10_isSpeaker l E o_h o_a0 o_a1 o_a2 o_a3 o_a8 o_a9 o_a11 o_a12 o_a13 o_a14 o_a15 o_a16 o_s o_m o_image o_was o_hasImage o_place o_rowAt o_rowEnd o_numbers o_most o_seed o_kept o_keptKind o_keptFigure o_sort o_size o_element o_thrown (o_numbers 0) r2 h3) ⟨rfl, rfl⟩ ⟨Nat.le_of_ble_eq_true rfl, Nat.le_of_ble_eq_true rfl⟩ ⟨Nat.zero_le _, Nat.zero_le _⟩ hP rfl rfl rfl hG rfl hl.1 rfl (Nat.le_of_ble_eq_true rfl) dX10_isDone_158 rfl ?_
    refine lv_if_ne (tgt := 166) hx hb dX10_isDone_161 (by decide) (fun c4 => ?_) (fun c4 => ?_)
    · have hv := if_n c4 hv
      refine lv_aload_n hx hb dX10_isDone_166 rfl (lv_at hl 2 rfl) ?_
      refine va_get (D := E.1) (ci := 4) (v := .ref o_a0) (C := RX10) (T := TX10) (N := 18) hx hb ht i_X10 hown hK hP 0 rfl rfl 0 (by decide) (ht _ kw_4_134) (fun _ h9 => h9) rfl dX10_isDone_167 ?_
      refine lv_iload_n hx hb dX10_isDone_170 rfl (lv_at hl 1 rfl) ?_
      refine lv_iconst (v := (3 : Int32)) hx hb dX10_isDone_171 (by decide) ?_
      obtain ⟨r5, h6, hv⟩ := ob_s hv
      refine rdS (rest := [.ref o_a0]) (st1 := [.int r5, .ref o_a0]) (w := []) hC q_X10_of kw_4_226 (c_X10_of l E (o_numbers 0) (3 : Int32) r5 h6) ⟨rfl, rfl⟩ ⟨Nat.le_of_ble_eq_true rfl, Nat.le_of_ble_eq_true rfl⟩ ⟨Nat.zero_le _, Nat.zero_le _⟩ (hP.sub (ws' := []) [] rfl) hG rfl hl.1 rfl (Nat.le_of_ble_eq_true rfl) dX10_isDone_172 rfl ?_
      refine lv_iload_n hx hb dX10_isDone_175 rfl (lv_at hl 3 rfl) ?_
      refine lv_bipush (v := (102 : Int32)) hx hb dX10_isDone_176 (by decide) ?_
      refine lv_icmp_ne (tgt := 185) hx hb dX10_isDone_178 (by decide) (fun c7 => ?_) (fun c7 => ?_)
      · have hv := if_n c7 hv
        refine lv_iload_n hx hb dX10_isDone_185 rfl (lv_at hl 0 rfl) ?_
        refine lv_ineg hx hb dX10_isDone_186 ?_
        obtain ⟨g8, hv⟩ := gd_s hv
        refine va_iast hx hb hK hP hD hS 1 0 rfl rfl (ix_s g8) dX10_isDone_187 (fun H locs hP hD hS => ?_)
        have hP : va_P E.1 vwCl [oMo o_h o_a0 o_a1 o_a2 o_a3 o_hasImage o_place o_rowAt o_rowEnd o_a8 o_a9 o_seed o_a11 o_a12 o_a13 o_a14 o_a15 o_a16 o_thrown, ai E o_a0 42 (upd o_s r5.toNatClampNeg (-(o_numbers 1))), ai E o_a1 42 o_m, ai E o_a2 42 o_image, ai E o_a3 42 o_was, ai E o_a8 3 o_numbers, ai E o_a9 8192 o_most, ai E o_a11 8 o_kept, ai E o_a12 8 o_keptKind, ai E o_a13 8 o_keptFigure, ai E o_a14 8 o_sort, ai E o_a15 8 o_size, ai E o_a16 800 o_element] H := hP
        have hD : va_D A [oMo o_h o_a0 o_a1 o_a2 o_a3 o_hasImage o_place o_rowAt o_rowEnd o_a8 o_a9 o_seed o_a11 o_a12 o_a13 o_a14 o_a15 o_a16 o_thrown, ai E o_a0 42 (upd o_s r5.toNatClampNeg (-(o_numbers 1))), ai E o_a1 42 o_m, ai E o_a2 42 o_image, ai E o_a3 42 o_was, ai E o_a8 3 o_numbers, ai E o_a9 8192 o_most, ai E o_a11 8 o_kept, ai E o_a12 8 o_keptKind, ai E o_a13 8 o_keptFigure, ai E o_a14 8 o_sort, ai E o_a15 8 o_size, ai E o_a16 800 o_element] := hD
        obtain ⟨f9, ef9⟩ : ∃ z, z = (upd o_s r5.toNatClampNeg (-(o_numbers 1))) := ⟨_, rfl⟩
        rw [← ef9] at hP hD
        have hv := nm_s ef9 hv
        refine lv_iconst (v := (1 : Int32)) hx hb dX10_isDone_188 (by decide) ?_
        refine lv_topi (fun z10 ez10 => ?_)
        have hv := nm_s ez10 hv
        have hn9 : narrow .boolean (.int z10) = .int z10 := (by rw [ez10]; rfl)
        cases hv
        exact W.zret hx hb hr hn9 (fun t h9 _ => ⟨rfl, by rw [h9]; exact hP, hS.F h9⟩) hS.2.2 dX10_isDone_189 hlk
      · have hv := if_y c7 hv
        refine lv_iload_n hx hb dX10_isDone_181 rfl (lv_at hl 0 rfl) ?_
        refine lv_goto (tgt := 187) hx hb dX10_isDone_182 (by decide) ?_
        obtain ⟨g11, hv⟩ := gd_s hv
        refine va_iast hx hb hK hP hD hS 1 0 rfl rfl (ix_s g11) dX10_isDone_187 (fun H locs hP hD hS => ?_)
        have hP : va_P E.1 vwCl [oMo o_h o_a0 o_a1 o_a2 o_a3 o_hasImage o_place o_rowAt o_rowEnd o_a8 o_a9 o_seed o_a11 o_a12 o_a13 o_a14 o_a15 o_a16 o_thrown, ai E o_a0 42 (upd o_s r5.toNatClampNeg (o_numbers 1)), ai E o_a1 42 o_m, ai E o_a2 42 o_image, ai E o_a3 42 o_was, ai E o_a8 3 o_numbers, ai E o_a9 8192 o_most, ai E o_a11 8 o_kept, ai E o_a12 8 o_keptKind, ai E o_a13 8 o_keptFigure, ai E o_a14 8 o_sort, ai E o_a15 8 o_size, ai E o_a16 800 o_element] H := hP
        have hD : va_D A [oMo o_h o_a0 o_a1 o_a2 o_a3 o_hasImage o_place o_rowAt o_rowEnd o_a8 o_a9 o_seed o_a11 o_a12 o_a13 o_a14 o_a15 o_a16 o_thrown, ai E o_a0 42 (upd o_s r5.toNatClampNeg (o_numbers 1)), ai E o_a1 42 o_m, ai E o_a2 42 o_image, ai E o_a3 42 o_was, ai E o_a8 3 o_numbers, ai E o_a9 8192 o_most, ai E o_a11 8 o_kept, ai E o_a12 8 o_keptKind, ai E o_a13 8 o_keptFigure, ai E o_a14 8 o_sort, ai E o_a15 8 o_size, ai E o_a16 800 o_element] := hD
        obtain ⟨f12, ef12⟩ : ∃ z, z = (upd o_s r5.toNatClampNeg (o_numbers 1)) := ⟨_, rfl⟩
        rw [← ef12] at hP hD
        have hv := nm_s ef12 hv
        refine lv_iconst (v := (1 : Int32)) hx hb dX10_isDone_188 (by decide) ?_
        refine lv_topi (fun z13 ez13 => ?_)
        have hv := nm_s ez13 hv
        have hn9 : narrow .boolean (.int z13) = .int z13 := (by rw [ez13]; rfl)
        cases hv
        exact W.zret hx hb hr hn9 (fun t h9 _ => ⟨rfl, by rw [h9]; exact hP, hS.F h9⟩) hS.2.2 dX10_isDone_189 hlk
    · have hv := if_y c4 hv
      refine lv_iconst (v := (0 : Int32)) hx hb dX10_isDone_164 (by decide) ?_
      refine lv_topi (fun z14 ez14 => ?_)
      have hv := nm_s ez14 hv
      have hn9 : narrow .boolean (.int z14) = .int z14 := (by rw [ez14]; rfl)
      cases hv
      exact W.zret hx hb hr hn9 (fun t h9 _ => ⟨rfl, by rw [h9]; exact hP, hS.F h9⟩) hS.2.2 dX10_isDone_165 hlk
  · have hv := if_n c1 hv
    rcases Decidable.em (p1 = (98 : Int32)) with c15 | c15
    · have hv := if_y c15 hv
      refine lv_tableIn (tgt := 104) (off := 89) hx hb dX10_isDone_15 (by rw [c15]; decide) (by rw [c15]; decide) (by rw [c15]; rfl) (by decide) ?_
      refine lv_iload_n hx hb dX10_isDone_104 rfl (lv_at hl 0 rfl) ?_
      refine lv_bipush (v := (7 : Int32)) hx hb dX10_isDone_105 (by decide) ?_
      refine lv_icmp_le (tgt := 112) hx hb dX10_isDone_107 (by decide) (fun c16 => ?_) (fun c16 => ?_)
      · have hv := if_y c16 hv
        refine lv_aload_n hx hb dX10_isDone_112 rfl (lv_at hl 2 rfl) ?_
        refine va_get (D := E.1) (ci := 4) (v := .ref o_a0) (C := RX10) (T := TX10) (N := 18) hx hb ht i_X10 hown hK hP 0 rfl rfl 0 (by decide) (ht _ kw_4_134) (fun _ h9 => h9) rfl dX10_isDone_113 ?_
        refine lv_iconst (v := (4 : Int32)) hx hb dX10_isDone_116 (by decide) ?_
        refine lv_iload_n hx hb dX10_isDone_117 rfl (lv_at hl 1 rfl) ?_
        refine lv_iadd hx hb dX10_isDone_118 ?_
        refine lv_iload_n hx hb dX10_isDone_119 rfl (lv_at hl 0 rfl) ?_
        obtain ⟨g17, hv⟩ := gd_s hv
        refine va_iast hx hb hK hP hD hS 1 0 rfl rfl (ix_s g17) dX10_isDone_120 (fun H locs hP hD hS => ?_)
        have hP : va_P E.1 vwCl [oMo o_h o_a0 o_a1 o_a2 o_a3 o_hasImage o_place o_rowAt o_rowEnd o_a8 o_a9 o_seed o_a11 o_a12 o_a13 o_a14 o_a15 o_a16 o_thrown, ai E o_a0 42 (upd o_s ((4 : Int32) + (o_numbers 0)).toNatClampNeg (o_numbers 1)), ai E o_a1 42 o_m, ai E o_a2 42 o_image, ai E o_a3 42 o_was, ai E o_a8 3 o_numbers, ai E o_a9 8192 o_most, ai E o_a11 8 o_kept, ai E o_a12 8 o_keptKind, ai E o_a13 8 o_keptFigure, ai E o_a14 8 o_sort, ai E o_a15 8 o_size, ai E o_a16 800 o_element] H := hP
        have hD : va_D A [oMo o_h o_a0 o_a1 o_a2 o_a3 o_hasImage o_place o_rowAt o_rowEnd o_a8 o_a9 o_seed o_a11 o_a12 o_a13 o_a14 o_a15 o_a16 o_thrown, ai E o_a0 42 (upd o_s ((4 : Int32) + (o_numbers 0)).toNatClampNeg (o_numbers 1)), ai E o_a1 42 o_m, ai E o_a2 42 o_image, ai E o_a3 42 o_was, ai E o_a8 3 o_numbers, ai E o_a9 8192 o_most, ai E o_a11 8 o_kept, ai E o_a12 8 o_keptKind, ai E o_a13 8 o_keptFigure, ai E o_a14 8 o_sort, ai E o_a15 8 o_size, ai E o_a16 800 o_element] := hD
        obtain ⟨f18, ef18⟩ : ∃ z, z = (upd o_s ((4 : Int32) + (o_numbers 0)).toNatClampNeg (o_numbers 1)) := ⟨_, rfl⟩
        rw [← ef18] at hP hD
        have hv := nm_s ef18 hv
        refine lv_iconst (v := (1 : Int32)) hx hb dX10_isDone_121 (by decide) ?_
        refine lv_topi (fun z19 ez19 => ?_)
        have hv := nm_s ez19 hv
        have hn9 : narrow .boolean (.int z19) = .int z19 := (by rw [ez19]; rfl)
        cases hv
        exact W.zret hx hb hr hn9 (fun t h9 _ => ⟨rfl, by rw [h9]; exact hP, hS.F h9⟩) hS.2.2 dX10_isDone_122 hlk
      · have hv := if_n c16 hv
        refine lv_iconst (v := (0 : Int32)) hx hb dX10_isDone_110 (by decide) ?_
        refine lv_topi (fun z20 ez20 => ?_)
        have hv := nm_s ez20 hv
        have hn9 : narrow .boolean (.int z20) = .int z20 := (by rw [ez20]; rfl)
        cases hv
        exact W.zret hx hb hr hn9 (fun t h9 _ => ⟨rfl, by rw [h9]; exact hP, hS.F h9⟩) hS.2.2 dX10_isDone_111 hlk
    · have hv := if_n c15 hv
      rcases Decidable.em (p1 = (102 : Int32)) with c21 | c21
      · have hv := if_y c21 hv
        refine lv_tableIn (tgt := 156) (off := 141) hx hb dX10_isDone_15 (by rw [c21]; decide) (by rw [c21]; decide) (by rw [c21]; rfl) (by decide) ?_
        refine lv_aload_n hx hb dX10_isDone_156 rfl (lv_at hl 2 rfl) ?_
        refine lv_iload_n hx hb dX10_isDone_157 rfl (lv_at hl 1 rfl) ?_
        obtain ⟨r22, h23, hv⟩ := ob_s hv
        refine rdV 4 0 (As := [.int (o_numbers 0)]) (rest := []) (st1 := [.int r22]) (w := [oMo o_h o_a0 o_a1 o_a2 o_a3 o_hasImage o_place o_rowAt o_rowEnd o_a8 o_a9 o_seed o_a11 o_a12 o_a13 o_a14 o_a15 o_a16 o_thrown, ai E o_a0 42 o_s, ai E o_a1 42 o_m, ai E o_a2 42 o_image, ai E o_a3 42 o_was, ai E o_a8 3 o_numbers, ai E o_a9 8192 o_most, ai E o_a11 8 o_kept, ai E o_a12 8 o_keptKind, ai E o_a13 8 o_keptFigure, ai E o_a14 8 o_sort, ai E o_a15 8 o_size, ai E o_a16 800 o_element]) hC q_X10_isSpeaker kw_4_229 (c_X10_isSpeaker l E o_h o_a0 o_a1 o_a2 o_a3 o_a8 o_a9 o_a11 o_a12 o_a13 o_a14 o_a15 o_a16 o_s o_m o_image o_was o_hasImage o_place o_rowAt o_rowEnd o_numbers o_most o_seed o_kept o_keptKind o_keptFigure o_sort o_size o_element o_thrown (o_numbers 0) r22 h23) ⟨rfl, rfl⟩ ⟨Nat.le_of_ble_eq_true rfl, Nat.le_of_ble_eq_true rfl⟩ ⟨Nat.zero_le _, Nat.zero_le _⟩ hP rfl rfl rfl hG rfl hl.1 rfl (Nat.le_of_ble_eq_true rfl) dX10_isDone_158 rfl ?_
        refine lv_if_ne (tgt := 166) hx hb dX10_isDone_161 (by decide) (fun c24 => ?_) (fun c24 => ?_)
        · have hv := if_n c24 hv
          refine lv_aload_n hx hb dX10_isDone_166 rfl (lv_at hl 2 rfl) ?_
          refine va_get (D := E.1) (ci := 4) (v := .ref o_a0) (C := RX10) (T := TX10) (N := 18) hx hb ht i_X10 hown hK hP 0 rfl rfl 0 (by decide) (ht _ kw_4_134) (fun _ h9 => h9) rfl dX10_isDone_167 ?_
          refine lv_iload_n hx hb dX10_isDone_170 rfl (lv_at hl 1 rfl) ?_
          refine lv_iconst (v := (3 : Int32)) hx hb dX10_isDone_171 (by decide) ?_
          obtain ⟨r25, h26, hv⟩ := ob_s hv
          refine rdS (rest := [.ref o_a0]) (st1 := [.int r25, .ref o_a0]) (w := []) hC q_X10_of kw_4_226 (c_X10_of l E (o_numbers 0) (3 : Int32) r25 h26) ⟨rfl, rfl⟩ ⟨Nat.le_of_ble_eq_true rfl, Nat.le_of_ble_eq_true rfl⟩ ⟨Nat.zero_le _, Nat.zero_le _⟩ (hP.sub (ws' := []) [] rfl) hG rfl hl.1 rfl (Nat.le_of_ble_eq_true rfl) dX10_isDone_172 rfl ?_
          refine lv_iload_n hx hb dX10_isDone_175 rfl (lv_at hl 3 rfl) ?_
          refine lv_bipush (v := (102 : Int32)) hx hb dX10_isDone_176 (by decide) ?_
          refine lv_icmp_ne (tgt := 185) hx hb dX10_isDone_178 (by decide) (fun c27 => ?_) (fun c27 => ?_)
          · have hv := if_n c27 hv
            refine lv_iload_n hx hb dX10_isDone_185 rfl (lv_at hl 0 rfl) ?_
            refine lv_ineg hx hb dX10_isDone_186 ?_
            obtain ⟨g28, hv⟩ := gd_s hv
            refine va_iast hx hb hK hP hD hS 1 0 rfl rfl (ix_s g28) dX10_isDone_187 (fun H locs hP hD hS => ?_)
            have hP : va_P E.1 vwCl [oMo o_h o_a0 o_a1 o_a2 o_a3 o_hasImage o_place o_rowAt o_rowEnd o_a8 o_a9 o_seed o_a11 o_a12 o_a13 o_a14 o_a15 o_a16 o_thrown, ai E o_a0 42 (upd o_s r25.toNatClampNeg (-(o_numbers 1))), ai E o_a1 42 o_m, ai E o_a2 42 o_image, ai E o_a3 42 o_was, ai E o_a8 3 o_numbers, ai E o_a9 8192 o_most, ai E o_a11 8 o_kept, ai E o_a12 8 o_keptKind, ai E o_a13 8 o_keptFigure, ai E o_a14 8 o_sort, ai E o_a15 8 o_size, ai E o_a16 800 o_element] H := hP
            have hD : va_D A [oMo o_h o_a0 o_a1 o_a2 o_a3 o_hasImage o_place o_rowAt o_rowEnd o_a8 o_a9 o_seed o_a11 o_a12 o_a13 o_a14 o_a15 o_a16 o_thrown, ai E o_a0 42 (upd o_s r25.toNatClampNeg (-(o_numbers 1))), ai E o_a1 42 o_m, ai E o_a2 42 o_image, ai E o_a3 42 o_was, ai E o_a8 3 o_numbers, ai E o_a9 8192 o_most, ai E o_a11 8 o_kept, ai E o_a12 8 o_keptKind, ai E o_a13 8 o_keptFigure, ai E o_a14 8 o_sort, ai E o_a15 8 o_size, ai E o_a16 800 o_element] := hD
            obtain ⟨f29, ef29⟩ : ∃ z, z = (upd o_s r25.toNatClampNeg (-(o_numbers 1))) := ⟨_, rfl⟩
            rw [← ef29] at hP hD
            have hv := nm_s ef29 hv
            refine lv_iconst (v := (1 : Int32)) hx hb dX10_isDone_188 (by decide) ?_
            refine lv_topi (fun z30 ez30 => ?_)
            have hv := nm_s ez30 hv
            have hn9 : narrow .boolean (.int z30) = .int z30 := (by rw [ez30]; rfl)
            cases hv
            exact W.zret hx hb hr hn9 (fun t h9 _ => ⟨rfl, by rw [h9]; exact hP, hS.F h9⟩) hS.2.2 dX10_isDone_189 hlk
          · have hv := if_y c27 hv
            refine lv_iload_n hx hb dX10_isDone_181 rfl (lv_at hl 0 rfl) ?_
            refine lv_goto (tgt := 187) hx hb dX10_isDone_182 (by decide) ?_
            obtain ⟨g31, hv⟩ := gd_s hv
            refine va_iast hx hb hK hP hD hS 1 0 rfl rfl (ix_s g31) dX10_isDone_187 (fun H locs hP hD hS => ?_)
            have hP : va_P E.1 vwCl [oMo o_h o_a0 o_a1 o_a2 o_a3 o_hasImage o_place o_rowAt o_rowEnd o_a8 o_a9 o_seed o_a11 o_a12 o_a13 o_a14 o_a15 o_a16 o_thrown, ai E o_a0 42 (upd o_s r25.toNatClampNeg (o_numbers 1)), ai E o_a1 42 o_m, ai E o_a2 42 o_image, ai E o_a3 42 o_was, ai E o_a8 3 o_numbers, ai E o_a9 8192 o_most, ai E o_a11 8 o_kept, ai E o_a12 8 o_keptKind, ai E o_a13 8 o_keptFigure, ai E o_a14 8 o_sort, ai E o_a15 8 o_size, ai E o_a16 800 o_element] H := hP
            have hD : va_D A [oMo o_h o_a0 o_a1 o_a2 o_a3 o_hasImage o_place o_rowAt o_rowEnd o_a8 o_a9 o_seed o_a11 o_a12 o_a13 o_a14 o_a15 o_a16 o_thrown, ai E o_a0 42 (upd o_s r25.toNatClampNeg (o_numbers 1)), ai E o_a1 42 o_m, ai E o_a2 42 o_image, ai E o_a3 42 o_was, ai E o_a8 3 o_numbers, ai E o_a9 8192 o_most, ai E o_a11 8 o_kept, ai E o_a12 8 o_keptKind, ai E o_a13 8 o_keptFigure, ai E o_a14 8 o_sort, ai E o_a15 8 o_size, ai E o_a16 800 o_element] := hD
            obtain ⟨f32, ef32⟩ : ∃ z, z = (upd o_s r25.toNatClampNeg (o_numbers 1)) := ⟨_, rfl⟩
            rw [← ef32] at hP hD
            have hv := nm_s ef32 hv
            refine lv_iconst (v := (1 : Int32)) hx hb dX10_isDone_188 (by decide) ?_
            refine lv_topi (fun z33 ez33 => ?_)
            have hv := nm_s ez33 hv
            have hn9 : narrow .boolean (.int z33) = .int z33 := (by rw [ez33]; rfl)
            cases hv
            exact W.zret hx hb hr hn9 (fun t h9 _ => ⟨rfl, by rw [h9]; exact hP, hS.F h9⟩) hS.2.2 dX10_isDone_189 hlk
        · have hv := if_y c24 hv
          refine lv_iconst (v := (0 : Int32)) hx hb dX10_isDone_164 (by decide) ?_
          refine lv_topi (fun z34 ez34 => ?_)
          have hv := nm_s ez34 hv
          have hn9 : narrow .boolean (.int z34) = .int z34 := (by rw [ez34]; rfl)
          cases hv
          exact W.zret hx hb hr hn9 (fun t h9 _ => ⟨rfl, by rw [h9]; exact hP, hS.F h9⟩) hS.2.2 dX10_isDone_165 hlk
      · have hv := if_n c21 hv
        rcases Decidable.em (p1 = (111 : Int32)) with c35 | c35
        · have hv := if_y c35 hv
          refine lv_tableIn (tgt := 190) (off := 175) hx hb dX10_isDone_15 (by rw [c35]; decide) (by rw [c35]; decide) (by rw [c35]; rfl) (by decide) ?_
          refine lv_aload_n hx hb dX10_isDone_190 rfl (lv_at hl 2 rfl) ?_
          refine va_get (D := E.1) (ci := 4) (v := .ref o_a0) (C := RX10) (T := TX10) (N := 18) hx hb ht i_X10 hown hK hP 0 rfl rfl 0 (by decide) (ht _ kw_4_134) (fun _ h9 => h9) rfl dX10_isDone_191 ?_
          refine lv_iconst (v := (3 : Int32)) hx hb dX10_isDone_194 (by decide) ?_
          refine lv_dup2_11 hx hb dX10_isDone_195 rfl rfl ?_
          refine va_iald hx hb hK hP 1 0 rfl rfl (ix_s (by decide)) dX10_isDone_196 ?_
          refine W.eq (g2 := F0 m 197 ls [.int (o_s 3), .int (3 : Int32), .ref o_a0]) rfl ?_
          refine lv_iconst (v := (1 : Int32)) hx hb dX10_isDone_197 (by decide) ?_
          refine lv_iload_n hx hb dX10_isDone_198 rfl (lv_at hl 1 rfl) ?_
          refine lv_ishl hx hb dX10_isDone_199 ?_
          refine lv_ixor hx hb dX10_isDone_200 ?_
          refine va_iast hx hb hK hP hD hS 1 0 rfl rfl (ix_s (by decide)) dX10_isDone_201 (fun H locs hP hD hS => ?_)
          have hP : va_P E.1 vwCl [oMo o_h o_a0 o_a1 o_a2 o_a3 o_hasImage o_place o_rowAt o_rowEnd o_a8 o_a9 o_seed o_a11 o_a12 o_a13 o_a14 o_a15 o_a16 o_thrown, ai E o_a0 42 (upd o_s 3 ((o_s 3) ^^^ ((1 : Int32) <<< ((o_numbers 0) &&& 31)))), ai E o_a1 42 o_m, ai E o_a2 42 o_image, ai E o_a3 42 o_was, ai E o_a8 3 o_numbers, ai E o_a9 8192 o_most, ai E o_a11 8 o_kept, ai E o_a12 8 o_keptKind, ai E o_a13 8 o_keptFigure, ai E o_a14 8 o_sort, ai E o_a15 8 o_size, ai E o_a16 800 o_element] H := hP
          have hD : va_D A [oMo o_h o_a0 o_a1 o_a2 o_a3 o_hasImage o_place o_rowAt o_rowEnd o_a8 o_a9 o_seed o_a11 o_a12 o_a13 o_a14 o_a15 o_a16 o_thrown, ai E o_a0 42 (upd o_s 3 ((o_s 3) ^^^ ((1 : Int32) <<< ((o_numbers 0) &&& 31)))), ai E o_a1 42 o_m, ai E o_a2 42 o_image, ai E o_a3 42 o_was, ai E o_a8 3 o_numbers, ai E o_a9 8192 o_most, ai E o_a11 8 o_kept, ai E o_a12 8 o_keptKind, ai E o_a13 8 o_keptFigure, ai E o_a14 8 o_sort, ai E o_a15 8 o_size, ai E o_a16 800 o_element] := hD
          obtain ⟨f36, ef36⟩ : ∃ z, z = (upd o_s 3 ((o_s 3) ^^^ ((1 : Int32) <<< ((o_numbers 0) &&& 31)))) := ⟨_, rfl⟩
          rw [← ef36] at hP hD
          have hv := nm_s ef36 hv
          refine lv_iconst (v := (1 : Int32)) hx hb dX10_isDone_202 (by decide) ?_
          refine lv_topi (fun z37 ez37 => ?_)
          have hv := nm_s ez37 hv
          have hn9 : narrow .boolean (.int z37) = .int z37 := (by rw [ez37]; rfl)
          cases hv
          exact W.zret hx hb hr hn9 (fun t h9 _ => ⟨rfl, by rw [h9]; exact hP, hS.F h9⟩) hS.2.2 dX10_isDone_203 hlk
        · have hv := if_n c35 hv
          rcases Decidable.em (p1 = (113 : Int32)) with c38 | c38
          · have hv := if_y c38 hv
            refine lv_tableIn (tgt := 204) (off := 189) hx hb dX10_isDone_15 (by rw [c38]; decide) (by rw [c38]; decide) (by rw [c38]; rfl) (by decide) ?_
            refine lv_iload_n hx hb dX10_isDone_204 rfl (lv_at hl 1 rfl) ?_
            refine lv_if_ne (tgt := 210) hx hb dX10_isDone_205 (by decide) (fun c39 => ?_) (fun c39 => ?_)
            · have hv := if_n c39 hv
              refine lv_aload_n hx hb dX10_isDone_210 rfl (lv_at hl 2 rfl) ?_
              refine va_get (D := E.1) (ci := 4) (v := .ref o_a0) (C := RX10) (T := TX10) (N := 18) hx hb ht i_X10 hown hK hP 0 rfl rfl 0 (by decide) (ht _ kw_4_134) (fun _ h9 => h9) rfl dX10_isDone_211 ?_
              refine lv_iconst (v := (2 : Int32)) hx hb dX10_isDone_214 (by decide) ?_
              refine lv_iload_n hx hb dX10_isDone_215 rfl (lv_at hl 1 rfl) ?_
              refine va_iast hx hb hK hP hD hS 1 0 rfl rfl (ix_s (by decide)) dX10_isDone_216 (fun H locs hP hD hS => ?_)
              have hP : va_P E.1 vwCl [oMo o_h o_a0 o_a1 o_a2 o_a3 o_hasImage o_place o_rowAt o_rowEnd o_a8 o_a9 o_seed o_a11 o_a12 o_a13 o_a14 o_a15 o_a16 o_thrown, ai E o_a0 42 (upd o_s 2 (o_numbers 0)), ai E o_a1 42 o_m, ai E o_a2 42 o_image, ai E o_a3 42 o_was, ai E o_a8 3 o_numbers, ai E o_a9 8192 o_most, ai E o_a11 8 o_kept, ai E o_a12 8 o_keptKind, ai E o_a13 8 o_keptFigure, ai E o_a14 8 o_sort, ai E o_a15 8 o_size, ai E o_a16 800 o_element] H := hP
              have hD : va_D A [oMo o_h o_a0 o_a1 o_a2 o_a3 o_hasImage o_place o_rowAt o_rowEnd o_a8 o_a9 o_seed o_a11 o_a12 o_a13 o_a14 o_a15 o_a16 o_thrown, ai E o_a0 42 (upd o_s 2 (o_numbers 0)), ai E o_a1 42 o_m, ai E o_a2 42 o_image, ai E o_a3 42 o_was, ai E o_a8 3 o_numbers, ai E o_a9 8192 o_most, ai E o_a11 8 o_kept, ai E o_a12 8 o_keptKind, ai E o_a13 8 o_keptFigure, ai E o_a14 8 o_sort, ai E o_a15 8 o_size, ai E o_a16 800 o_element] := hD
              obtain ⟨f40, ef40⟩ : ∃ z, z = (upd o_s 2 (o_numbers 0)) := ⟨_, rfl⟩
              rw [← ef40] at hP hD
              have hv := nm_s ef40 hv
              refine lv_iconst (v := (1 : Int32)) hx hb dX10_isDone_217 (by decide) ?_
              refine lv_topi (fun z41 ez41 => ?_)
              have hv := nm_s ez41 hv
              have hn9 : narrow .boolean (.int z41) = .int z41 := (by rw [ez41]; rfl)
              cases hv
              exact W.zret hx hb hr hn9 (fun t h9 _ => ⟨rfl, by rw [h9]; exact hP, hS.F h9⟩) hS.2.2 dX10_isDone_218 hlk
            · have hv := if_y c39 hv
              refine lv_iconst (v := (0 : Int32)) hx hb dX10_isDone_208 (by decide) ?_
              refine lv_topi (fun z42 ez42 => ?_)
              have hv := nm_s ez42 hv
              have hn9 : narrow .boolean (.int z42) = .int z42 := (by rw [ez42]; rfl)
              cases hv
              exact W.zret hx hb hr hn9 (fun t h9 _ => ⟨rfl, by rw [h9]; exact hP, hS.F h9⟩) hS.2.2 dX10_isDone_209 hlk
          · have hv := if_n c38 hv
            rcases Decidable.em (p1 = (115 : Int32)) with c43 | c43
            · have hv := if_y c43 hv
              refine lv_tableIn (tgt := 123) (off := 108) hx hb dX10_isDone_15 (by rw [c43]; decide) (by rw [c43]; decide) (by rw [c43]; rfl) (by decide) ?_
              refine lv_iload_n hx hb dX10_isDone_123 rfl (lv_at hl 1 rfl) ?_
              refine lv_bipush (v := (8 : Int32)) hx hb dX10_isDone_124 (by decide) ?_
              refine lv_icmp_ge (tgt := 140) hx hb dX10_isDone_126 (by decide) (fun c44 => ?_) (fun c44 => ?_)
              · have hv := if_y c44 hv
                refine lv_iconst (v := (0 : Int32)) hx hb dX10_isDone_140 (by decide) ?_
                refine lv_topi (fun z45 ez45 => ?_)
                have hv := nm_s ez45 hv
                have hn9 : narrow .boolean (.int z45) = .int z45 := (by rw [ez45]; rfl)
                cases hv
                exact W.zret hx hb hr hn9 (fun t h9 _ => ⟨rfl, by rw [h9]; exact hP, hS.F h9⟩) hS.2.2 dX10_isDone_141 hlk
              · have hv := if_n c44 hv
                refine lv_aload_n hx hb dX10_isDone_129 rfl (lv_at hl 2 rfl) ?_
                refine va_get (D := E.1) (ci := 4) (v := .ref o_a0) (C := RX10) (T := TX10) (N := 18) hx hb ht i_X10 hown hK hP 0 rfl rfl 0 (by decide) (ht _ kw_4_134) (fun _ h9 => h9) rfl dX10_isDone_130 ?_
                refine lv_iconst (v := (0 : Int32)) hx hb dX10_isDone_133 (by decide) ?_
                refine va_iald hx hb hK hP 1 0 rfl rfl (ix_s (by decide)) dX10_isDone_134 ?_
                refine W.eq (g2 := F0 m 135 ls [.int (o_s 0)]) rfl ?_
                refine lv_bipush (v := (7 : Int32)) hx hb dX10_isDone_135 (by decide) ?_
                refine lv_icmp_ne (tgt := 142) hx hb dX10_isDone_137 (by decide) (fun c46 => ?_) (fun c46 => ?_)
                · have hv := if_n c46 hv
                  refine lv_aload_n hx hb dX10_isDone_142 rfl (lv_at hl 2 rfl) ?_
                  refine lv_iload_n hx hb dX10_isDone_143 rfl (lv_at hl 1 rfl) ?_
                  refine lv_iload_n hx hb dX10_isDone_144 rfl (lv_at hl 0 rfl) ?_
                  refine lv_aload_n hx hb dX10_isDone_145 rfl (lv_at hl 2 rfl) ?_
                  refine va_get (D := E.1) (ci := 4) (v := .ref o_a8) (C := RX10) (T := TX10) (N := 18) hx hb ht i_X10 hown hK hP 0 rfl rfl 8 (by decide) (ht _ kw_4_142) (fun _ h9 => h9) rfl dX10_isDone_146 ?_
                  refine lv_iconst (v := (2 : Int32)) hx hb dX10_isDone_149 (by decide) ?_
                  refine va_iald hx hb hK hP 5 0 rfl rfl (ix_s (by decide)) dX10_isDone_150 ?_
                  refine W.eq (g2 := F0 m 151 ls [.int (o_numbers 2), .int (o_numbers 1), .int (o_numbers 0), .ref o_h]) rfl ?_
                  obtain ⟨y47, h48, hv⟩ := ob_s hv
                  refine wrV (as := [o_h, o_a0, o_a1, o_a2, o_a3, o_a8, o_a9, o_a11, o_a12, o_a13, o_a14, o_a15, o_a16]) (wr := []) [0, 1, 2, 3, 4, 5, 6, 7, 8, 9, 10, 11, 12] [] 4 0 (ws := [oMo o_h o_a0 o_a1 o_a2 o_a3 o_hasImage o_place o_rowAt o_rowEnd o_a8 o_a9 o_seed o_a11 o_a12 o_a13 o_a14 o_a15 o_a16 o_thrown, ai E o_a0 42 o_s, ai E o_a1 42 o_m, ai E o_a2 42 o_image, ai E o_a3 42 o_was, ai E o_a8 3 o_numbers, ai E o_a9 8192 o_most, ai E o_a11 8 o_kept, ai E o_a12 8 o_keptKind, ai E o_a13 8 o_keptFigure, ai E o_a14 8 o_sort, ai E o_a15 8 o_size, ai E o_a16 800 o_element]) (ws' := [oMo o_h o_a0 o_a1 o_a2 o_a3 o_hasImage o_place o_rowAt o_rowEnd o_a8 o_a9 o_seed o_a11 o_a12 o_a13 o_a14 o_a15 o_a16 o_thrown, ai E o_a0 42 y47, ai E o_a1 42 o_m, ai E o_a2 42 o_image, ai E o_a3 42 o_was, ai E o_a8 3 o_numbers, ai E o_a9 8192 o_most, ai E o_a11 8 o_kept, ai E o_a12 8 o_keptKind, ai E o_a13 8 o_keptFigure, ai E o_a14 8 o_sort, ai E o_a15 8 o_size, ai E o_a16 800 o_element]) (As := [.int (o_numbers 0), .int (o_numbers 1), .int (o_numbers 2)]) (rest := []) (st1 := []) hC q_X10_adds kw_4_222 (c_X10_adds l E o_h o_a0 o_a1 o_a2 o_a3 o_a8 o_a9 o_a11 o_a12 o_a13 o_a14 o_a15 o_a16 o_s o_m o_image o_was o_hasImage o_place o_rowAt o_rowEnd o_numbers o_most o_seed o_kept o_keptKind o_keptFigure o_sort o_size o_element o_thrown (o_numbers 0) (o_numbers 1) (o_numbers 2) y47 h48) ⟨rfl, rfl⟩ ⟨Nat.le_of_ble_eq_true rfl, Nat.le_of_ble_eq_true rfl⟩ ⟨Nat.zero_le _, Nat.zero_le _⟩ hP hD hS hA rfl rfl rfl hG (by decide) rfl rfl rfl rfl rfl rfl rfl rfl hl.1 rfl (Nat.le_of_ble_eq_true rfl) dX10_isDone_151 rfl (fun H locs hP hD hS => ?_)
                  refine lv_iconst (v := (1 : Int32)) hx hb dX10_isDone_154 (by decide) ?_
                  refine lv_topi (fun z49 ez49 => ?_)
                  have hv := nm_s ez49 hv
                  have hn9 : narrow .boolean (.int z49) = .int z49 := (by rw [ez49]; rfl)
                  cases hv
                  exact W.zret hx hb hr hn9 (fun t h9 _ => ⟨rfl, by rw [h9]; exact hP, hS.F h9⟩) hS.2.2 dX10_isDone_155 hlk
                · have hv := if_y c46 hv
                  refine lv_iconst (v := (0 : Int32)) hx hb dX10_isDone_140 (by decide) ?_
                  refine lv_topi (fun z50 ez50 => ?_)
                  have hv := nm_s ez50 hv
                  have hn9 : narrow .boolean (.int z50) = .int z50 := (by rw [ez50]; rfl)
                  cases hv
                  exact W.zret hx hb hr hn9 (fun t h9 _ => ⟨rfl, by rw [h9]; exact hP, hS.F h9⟩) hS.2.2 dX10_isDone_141 hlk
            · have hv := if_n c43 hv
              refine lv_tableD (tgt := 219) hx hb dX10_isDone_15 (fun i h => match i, h with | 0, _ => Or.inr (lv_neT c1 (by decide)) | 1, _ => Or.inr (lv_neT c15 (by decide)) | 2, _ => Or.inl rfl | 3, _ => Or.inl rfl | 4, _ => Or.inl rfl | 5, _ => Or.inr (lv_neT c21 (by decide)) | 6, _ => Or.inl rfl | 7, _ => Or.inl rfl | 8, _ => Or.inl rfl | 9, _ => Or.inl rfl | 10, _ => Or.inl rfl | 11, _ => Or.inl rfl | 12, _ => Or.inl rfl | 13, _ => Or.inl rfl | 14, _ => Or.inr (lv_neT c35 (by decide)) | 15, _ => Or.inl rfl | 16, _ => Or.inr (lv_neT c38 (by decide)) | 17, _ => Or.inl rfl | 18, _ => Or.inr (lv_neT c43 (by decide)) | i + 19, h => absurd h (by simp)) rfl (by decide) ?_
              refine lv_iload_n hx hb dX10_isDone_219 rfl (lv_at hl 1 rfl) ?_
              refine lv_iconst (v := (1 : Int32)) hx hb dX10_isDone_220 (by decide) ?_
              refine lv_bipush (v := (60 : Int32)) hx hb dX10_isDone_221 (by decide) ?_
              obtain ⟨r51, h52, hv⟩ := ob_s hv
              refine rdS (rest := []) (st1 := [.int r51]) (w := []) hC q_X10_isIn kw_4_200 (c_X10_isIn l E (o_numbers 0) (1 : Int32) (60 : Int32) r51 h52) ⟨rfl, rfl⟩ ⟨Nat.le_of_ble_eq_true rfl, Nat.le_of_ble_eq_true rfl⟩ ⟨Nat.zero_le _, Nat.zero_le _⟩ (hP.sub (ws' := []) [] rfl) hG rfl hl.1 rfl (Nat.le_of_ble_eq_true rfl) dX10_isDone_223 rfl ?_
              refine lv_if_eq (tgt := 243) hx hb dX10_isDone_226 (by decide) (fun c53 => ?_) (fun c53 => ?_)
              · have hv := if_y c53 hv
                refine lv_iconst (v := (0 : Int32)) hx hb dX10_isDone_243 (by decide) ?_
                refine lv_topi (fun z54 ez54 => ?_)
                have hv := nm_s ez54 hv
                have hn9 : narrow .boolean (.int z54) = .int z54 := (by rw [ez54]; rfl)
                cases hv
                exact W.zret hx hb hr hn9 (fun t h9 _ => ⟨rfl, by rw [h9]; exact hP, hS.F h9⟩) hS.2.2 dX10_isDone_244 hlk
              · have hv := if_n c53 hv
                refine lv_aload_n hx hb dX10_isDone_229 rfl (lv_at hl 2 rfl) ?_
                refine va_get (D := E.1) (ci := 4) (v := .ref o_a0) (C := RX10) (T := TX10) (N := 18) hx hb ht i_X10 hown hK hP 0 rfl rfl 0 (by decide) (ht _ kw_4_134) (fun _ h9 => h9) rfl dX10_isDone_230 ?_
                refine lv_iconst (v := (1 : Int32)) hx hb dX10_isDone_233 (by decide) ?_
                refine va_iald hx hb hK hP 1 0 rfl rfl (ix_s (by decide)) dX10_isDone_234 ?_
                refine W.eq (g2 := F0 m 235 ls [.int (o_s 1)]) rfl ?_
                refine lv_iload_n hx hb dX10_isDone_235 rfl (lv_at hl 1 rfl) ?_
                refine lv_iadd hx hb dX10_isDone_236 ?_
                refine lv_sipush (v := (999 : Int32)) hx hb dX10_isDone_237 (by decide) ?_
                refine lv_icmp_le (tgt := 245) hx hb dX10_isDone_240 (by decide) (fun c55 => ?_) (fun c55 => ?_)
                · have hv := if_y c55 hv
                  refine lv_aload_n hx hb dX10_isDone_245 rfl (lv_at hl 2 rfl) ?_
                  refine va_get (D := E.1) (ci := 4) (v := .ref o_a0) (C := RX10) (T := TX10) (N := 18) hx hb ht i_X10 hown hK hP 0 rfl rfl 0 (by decide) (ht _ kw_4_134) (fun _ h9 => h9) rfl dX10_isDone_246 ?_
                  refine lv_iload_n hx hb dX10_isDone_249 rfl (lv_at hl 1 rfl) ?_
                  obtain ⟨y56, h57, hv⟩ := ob_s hv
                  refine wrS (as := [o_h, o_a0, o_a1, o_a2, o_a3, o_a8, o_a9, o_a11, o_a12, o_a13, o_a14, o_a15, o_a16]) (wr := [oMo o_h o_a0 o_a1 o_a2 o_a3 o_hasImage o_place o_rowAt o_rowEnd o_a8 o_a9 o_seed o_a11 o_a12 o_a13 o_a14 o_a15 o_a16 o_thrown, ai E o_a1 42 o_m, ai E o_a2 42 o_image, ai E o_a3 42 o_was, ai E o_a8 3 o_numbers, ai E o_a9 8192 o_most, ai E o_a11 8 o_kept, ai E o_a12 8 o_keptKind, ai E o_a13 8 o_keptFigure, ai E o_a14 8 o_sort, ai E o_a15 8 o_size, ai E o_a16 800 o_element]) [1] [0, 2, 3, 4, 5, 6, 7, 8, 9, 10, 11, 12] (ws := [oMo o_h o_a0 o_a1 o_a2 o_a3 o_hasImage o_place o_rowAt o_rowEnd o_a8 o_a9 o_seed o_a11 o_a12 o_a13 o_a14 o_a15 o_a16 o_thrown, ai E o_a0 42 o_s, ai E o_a1 42 o_m, ai E o_a2 42 o_image, ai E o_a3 42 o_was, ai E o_a8 3 o_numbers, ai E o_a9 8192 o_most, ai E o_a11 8 o_kept, ai E o_a12 8 o_keptKind, ai E o_a13 8 o_keptFigure, ai E o_a14 8 o_sort, ai E o_a15 8 o_size, ai E o_a16 800 o_element]) (ws' := [oMo o_h o_a0 o_a1 o_a2 o_a3 o_hasImage o_place o_rowAt o_rowEnd o_a8 o_a9 o_seed o_a11 o_a12 o_a13 o_a14 o_a15 o_a16 o_thrown, ai E o_a0 42 y56, ai E o_a1 42 o_m, ai E o_a2 42 o_image, ai E o_a3 42 o_was, ai E o_a8 3 o_numbers, ai E o_a9 8192 o_most, ai E o_a11 8 o_kept, ai E o_a12 8 o_keptKind, ai E o_a13 8 o_keptFigure, ai E o_a14 8 o_sort, ai E o_a15 8 o_size, ai E o_a16 800 o_element]) (rest := []) (st1 := []) hC q_X10_daysOn kw_4_233 (c_X10_daysOn l E o_a0 o_s (o_numbers 0) N y56 h57) ⟨rfl, rfl⟩ ⟨Nat.le_of_ble_eq_true rfl, Nat.le_of_ble_eq_true rfl⟩ ⟨Nat.zero_le _, Nat.zero_le _⟩ hP hD hS hA hG (by decide) rfl rfl rfl rfl rfl rfl rfl rfl hl.1 rfl (Nat.le_of_ble_eq_true rfl) dX10_isDone_250 rfl (fun H locs hP hD hS => ?_)
                  refine lv_iconst (v := (1 : Int32)) hx hb dX10_isDone_253 (by decide) ?_
                  refine lv_topi (fun z58 ez58 => ?_)
                  have hv := nm_s ez58 hv
                  have hn9 : narrow .boolean (.int z58) = .int z58 := (by rw [ez58]; rfl)
                  cases hv
                  exact W.zret hx hb hr hn9 (fun t h9 _ => ⟨rfl, by rw [h9]; exact hP, hS.F h9⟩) hS.2.2 dX10_isDone_254 hlk
                · have hv := if_n c55 hv
                  refine lv_iconst (v := (0 : Int32)) hx hb dX10_isDone_243 (by decide) ?_
                  refine lv_topi (fun z59 ez59 => ?_)
                  have hv := nm_s ez59 hv
                  have hn9 : narrow .boolean (.int z59) = .int z59 := (by rw [ez59]; rfl)
                  cases hv
                  exact W.zret hx hb hr hn9 (fun t h9 _ => ⟨rfl, by rw [h9]; exact hP, hS.F h9⟩) hS.2.2 dX10_isDone_244 hlk
theorem dX10_isShelf_0 : decode cX10_isShelf 0 = .ok (.iload_n 0, 1) := by decide +kernel
theorem dX10_isShelf_1 : decode cX10_isShelf 1 = .ok (.iconst 0, 1) := by decide +kernel
theorem dX10_isShelf_2 : decode cX10_isShelf 2 = .ok (.bipush 7, 2) := by decide +kernel
theorem dX10_isShelf_4 : decode cX10_isShelf 4 = .ok (.invokestatic 46, 3) := by decide +kernel
theorem dX10_isShelf_7 : decode cX10_isShelf 7 = .ok (.ireturn, 1) := by decide +kernel
def f_X10_isShelf (p0 : Int32) : Option (Int32) := ob (f_X10_isIn p0 (0 : Int32) (7 : Int32)) (fun r1 => gd (bz r1) (some r1))
set_option maxHeartbeats 4000000 in
set_option maxRecDepth 100000 in
theorem c_X10_isShelf (l : Launch) (E : EE) (p0 : Int32) (res : Int32) (hv : f_X10_isShelf p0 = some res) : Rd l E yX10_isShelf cX10_isShelf 1 (some .boolean) ({ frames := 1, cells := 0, slots := 0, locals := 22 }) [.int p0] [] (some (.int res)) := by
  refine Rd.intro RX10 (by decide) rfl (Nat.le_of_ble_eq_true rfl) ?_
  intro p e s m below meth c ls hC hr hlk hP hG hl
  obtain ⟨hx, hb, hml, hown, ht⟩ := id hC
  have hK := hG.1
  have hl : lv_has ls 1 [(0, .int p0)] := hl
  rw [f_X10_isShelf] at hv
  refine lv_iload_n hx hb dX10_isShelf_0 rfl (lv_at hl 0 rfl) ?_
  refine lv_iconst (v := (0 : Int32)) hx hb dX10_isShelf_1 (by decide) ?_
  refine lv_bipush (v := (7 : Int32)) hx hb dX10_isShelf_2 (by decide) ?_
  obtain ⟨r1, h2, hv⟩ := ob_s hv
  refine rdS (rest := []) (st1 := [.int r1]) (w := []) hC q_X10_isIn kw_4_200 (c_X10_isIn l E p0 (0 : Int32) (7 : Int32) r1 h2) ⟨rfl, rfl⟩ ⟨Nat.le_of_ble_eq_true rfl, Nat.le_of_ble_eq_true rfl⟩ ⟨Nat.zero_le _, Nat.zero_le _⟩ hP hG rfl hl.1 rfl (Nat.le_of_ble_eq_true rfl) dX10_isShelf_4 rfl ?_
  obtain ⟨g3, hv⟩ := gd_s hv
  exact W.zret (v := r1) hx hb hr (bz_s g3) (fun t h9 _ => ⟨rv_i hv, h9⟩) (fun q h => absurd h List.not_mem_nil) dX10_isShelf_7 hlk
theorem dX10_wrongRow_0 : decode cX10_wrongRow 0 = .ok (.iload_n 1, 1) := by decide +kernel
theorem dX10_wrongRow_1 : decode cX10_wrongRow 1 = .ok (.invokestatic 263, 3) := by decide +kernel
theorem dX10_wrongRow_4 : decode cX10_wrongRow 4 = .ok (.ifCond .ne 7, 3) := by decide +kernel
theorem dX10_wrongRow_7 : decode cX10_wrongRow 7 = .ok (.iconst (-1), 1) := by decide +kernel
theorem dX10_wrongRow_8 : decode cX10_wrongRow 8 = .ok (.goto 47, 3) := by decide +kernel
theorem dX10_wrongRow_11 : decode cX10_wrongRow 11 = .ok (.aload_n 0, 1) := by decide +kernel
theorem dX10_wrongRow_12 : decode cX10_wrongRow 12 = .ok (.getfield 28, 3) := by decide +kernel
theorem dX10_wrongRow_15 : decode cX10_wrongRow 15 = .ok (.iload_n 1, 1) := by decide +kernel
theorem dX10_wrongRow_16 : decode cX10_wrongRow 16 = .ok (.iaload, 1) := by decide +kernel
theorem dX10_wrongRow_17 : decode cX10_wrongRow 17 = .ok (.ifCond .ne 8, 3) := by decide +kernel
theorem dX10_wrongRow_20 : decode cX10_wrongRow 20 = .ok (.bipush (-11), 2) := by decide +kernel
theorem dX10_wrongRow_22 : decode cX10_wrongRow 22 = .ok (.goto 33, 3) := by decide +kernel
theorem dX10_wrongRow_25 : decode cX10_wrongRow 25 = .ok (.aload_n 0, 1) := by decide +kernel
theorem dX10_wrongRow_26 : decode cX10_wrongRow 26 = .ok (.getfield 28, 3) := by decide +kernel
theorem dX10_wrongRow_29 : decode cX10_wrongRow 29 = .ok (.iload_n 1, 1) := by decide +kernel
theorem dX10_wrongRow_30 : decode cX10_wrongRow 30 = .ok (.iaload, 1) := by decide +kernel
theorem dX10_wrongRow_31 : decode cX10_wrongRow 31 = .ok (.iconst 2, 1) := by decide +kernel
theorem dX10_wrongRow_32 : decode cX10_wrongRow 32 = .ok (.if_icmp .ne 17, 3) := by decide +kernel
theorem dX10_wrongRow_35 : decode cX10_wrongRow 35 = .ok (.iload_n 2, 1) := by decide +kernel
theorem dX10_wrongRow_36 : decode cX10_wrongRow 36 = .ok (.ifCond .lt 18, 3) := by decide +kernel
theorem dX10_wrongRow_39 : decode cX10_wrongRow 39 = .ok (.aload_n 0, 1) := by decide +kernel
theorem dX10_wrongRow_40 : decode cX10_wrongRow 40 = .ok (.getfield 37, 3) := by decide +kernel
theorem dX10_wrongRow_43 : decode cX10_wrongRow 43 = .ok (.iload_n 1, 1) := by decide +kernel
theorem dX10_wrongRow_44 : decode cX10_wrongRow 44 = .ok (.iaload, 1) := by decide +kernel
theorem dX10_wrongRow_45 : decode cX10_wrongRow 45 = .ok (.iload_n 2, 1) := by decide +kernel
theorem dX10_wrongRow_46 : decode cX10_wrongRow 46 = .ok (.if_icmp .eq 8, 3) := by decide +kernel
theorem dX10_wrongRow_49 : decode cX10_wrongRow 49 = .ok (.bipush (-12), 2) := by decide +kernel
theorem dX10_wrongRow_51 : decode cX10_wrongRow 51 = .ok (.goto 4, 3) := by decide +kernel
theorem dX10_wrongRow_54 : decode cX10_wrongRow 54 = .ok (.iconst 0, 1) := by decide +kernel
theorem dX10_wrongRow_55 : decode cX10_wrongRow 55 = .ok (.ireturn, 1) := by decide +kernel
def f_X10_wrongRow (o_kept : Nat → Int32) (o_sort : Nat → Int32) (p1 : Int32) (p2 : Int32) : Option (Int32) := ob (f_X10_isShelf p1) (fun r1 => if r1 = 0 then some (-1 : Int32) else gd (ix p1 8) (if (o_kept p1.toNatClampNeg) = 0 then some (-11 : Int32) else gd (ix p1 8) (if (o_kept p1.toNatClampNeg) = (2 : Int32) then if p2 < 0 then some (0 : Int32) else gd (ix p1 8) (if (o_sort p1.toNatClampNeg) = p2 then some (0 : Int32) else some (-12 : Int32)) else some (-12 : Int32))))
set_option maxHeartbeats 4000000 in
set_option maxRecDepth 100000 in
theorem c_X10_wrongRow (l : Launch) (E : EE) (o_h : Nat) (o_a0 : Nat) (o_a1 : Nat) (o_a2 : Nat) (o_a3 : Nat) (o_a8 : Nat) (o_a9 : Nat) (o_a11 : Nat) (o_a12 : Nat) (o_a13 : Nat) (o_a14 : Nat) (o_a15 : Nat) (o_a16 : Nat) (o_s : Nat → Int32) (o_m : Nat → Int32) (o_image : Nat → Int32) (o_was : Nat → Int32) (o_hasImage : Int32) (o_place : Int32) (o_rowAt : Int32) (o_rowEnd : Int32) (o_numbers : Nat → Int32) (o_most : Nat → Int32) (o_seed : Int32) (o_kept : Nat → Int32) (o_keptKind : Nat → Int32) (o_keptFigure : Nat → Int32) (o_sort : Nat → Int32) (o_size : Nat → Int32) (o_element : Nat → Int32) (o_thrown : Int32) (p1 : Int32) (p2 : Int32) (res : Int32) (hv : f_X10_wrongRow o_kept o_sort p1 p2 = some res) : Rd l E yX10_wrongRow cX10_wrongRow 3 (some .int) ({ frames := 2, cells := 0, slots := 0, locals := 42 }) [.ref o_h, .int p1, .int p2] [oMo o_h o_a0 o_a1 o_a2 o_a3 o_hasImage o_place o_rowAt o_rowEnd o_a8 o_a9 o_seed o_a11 o_a12 o_a13 o_a14 o_a15 o_a16 o_thrown, ai E o_a0 42 o_s, ai E o_a1 42 o_m, ai E o_a2 42 o_image, ai E o_a3 42 o_was, ai E o_a8 3 o_numbers, ai E o_a9 8192 o_most, ai E o_a11 8 o_kept, ai E o_a12 8 o_keptKind, ai E o_a13 8 o_keptFigure, ai E o_a14 8 o_sort, ai E o_a15 8 o_size, ai E o_a16 800 o_element] (some (.int res)) := by
  refine Rd.intro RX10 (by decide) rfl (Nat.le_of_ble_eq_true rfl) ?_
  intro p e s m below meth c ls hC hr hlk hP hG hl
  obtain ⟨hx, hb, hml, hown, ht⟩ := id hC
  have hK := hG.1
  have hl : lv_has ls 3 [(0, .ref o_h), (1, .int p1), (2, .int p2)] := hl
  rw [f_X10_wrongRow] at hv
  refine lv_iload_n hx hb dX10_wrongRow_0 rfl (lv_at hl 1 rfl) ?_
  obtain ⟨r1, h2, hv⟩ := ob_s hv
  refine rdS (rest := []) (st1 := [.int r1]) (w := []) hC q_X10_isShelf kw_4_197 (c_X10_isShelf l E p1 r1 h2) ⟨rfl, rfl⟩ ⟨Nat.le_of_ble_eq_true rfl, Nat.le_of_ble_eq_true rfl⟩ ⟨Nat.zero_le _, Nat.zero_le _⟩ (hP.sub (ws' := []) [] rfl) hG rfl hl.1 rfl (Nat.le_of_ble_eq_true rfl) dX10_wrongRow_1 rfl ?_
  refine lv_if_ne (tgt := 11) hx hb dX10_wrongRow_4 (by decide) (fun c3 => ?_) (fun c3 => ?_)
  · have hv := if_n c3 hv
    refine lv_aload_n hx hb dX10_wrongRow_11 rfl (lv_at hl 0 rfl) ?_
    refine va_get (D := E.1) (ci := 4) (v := .ref o_a11) (C := RX10) (T := TX10) (N := 18) hx hb ht i_X10 hown hK hP 0 rfl rfl 11 (by decide) (ht _ kw_4_145) (fun _ h9 => h9) rfl dX10_wrongRow_12 ?_
    refine lv_iload_n hx hb dX10_wrongRow_15 rfl (lv_at hl 1 rfl) ?_
    obtain ⟨g4, hv⟩ := gd_s hv
    refine va_iald hx hb hK hP 7 0 rfl rfl (ix_s g4) dX10_wrongRow_16 ?_
    refine lv_if_ne (tgt := 25) hx hb dX10_wrongRow_17 (by decide) (fun c5 => ?_) (fun c5 => ?_)
    · have hv := if_n c5 hv
      refine lv_aload_n hx hb dX10_wrongRow_25 rfl (lv_at hl 0 rfl) ?_
      refine va_get (D := E.1) (ci := 4) (v := .ref o_a11) (C := RX10) (T := TX10) (N := 18) hx hb ht i_X10 hown hK hP 0 rfl rfl 11 (by decide) (ht _ kw_4_145) (fun _ h9 => h9) rfl dX10_wrongRow_26 ?_
      refine lv_iload_n hx hb dX10_wrongRow_29 rfl (lv_at hl 1 rfl) ?_
      obtain ⟨g6, hv⟩ := gd_s hv
      refine va_iald hx hb hK hP 7 0 rfl rfl (ix_s g6) dX10_wrongRow_30 ?_
      refine lv_iconst (v := (2 : Int32)) hx hb dX10_wrongRow_31 (by decide) ?_
      refine lv_icmp_ne (tgt := 49) hx hb dX10_wrongRow_32 (by decide) (fun c7 => ?_) (fun c7 => ?_)
      · have hv := if_n c7 hv
        refine lv_bipush (v := (-12 : Int32)) hx hb dX10_wrongRow_49 (by decide) ?_
        refine lv_goto (tgt := 55) hx hb dX10_wrongRow_51 (by decide) ?_
        exact W.iret (v := (-12 : Int32)) hx hb hr (fun t h9 _ => ⟨rv_i hv, h9⟩) (fun q h => absurd h List.not_mem_nil) dX10_wrongRow_55 hlk
      · have hv := if_y c7 hv
        refine lv_iload_n hx hb dX10_wrongRow_35 rfl (lv_at hl 2 rfl) ?_
        refine lv_if_lt (tgt := 54) hx hb dX10_wrongRow_36 (by decide) (fun c8 => ?_) (fun c8 => ?_)
        · have hv := if_y c8 hv
          refine lv_iconst (v := (0 : Int32)) hx hb dX10_wrongRow_54 (by decide) ?_
          exact W.iret (v := (0 : Int32)) hx hb hr (fun t h9 _ => ⟨rv_i hv, h9⟩) (fun q h => absurd h List.not_mem_nil) dX10_wrongRow_55 hlk
        · have hv := if_n c8 hv
          refine lv_aload_n hx hb dX10_wrongRow_39 rfl (lv_at hl 0 rfl) ?_
          refine va_get (D := E.1) (ci := 4) (v := .ref o_a14) (C := RX10) (T := TX10) (N := 18) hx hb ht i_X10 hown hK hP 0 rfl rfl 14 (by decide) (ht _ kw_4_148) (fun _ h9 => h9) rfl dX10_wrongRow_40 ?_
          refine lv_iload_n hx hb dX10_wrongRow_43 rfl (lv_at hl 1 rfl) ?_
          obtain ⟨g9, hv⟩ := gd_s hv
          refine va_iald hx hb hK hP 10 0 rfl rfl (ix_s g9) dX10_wrongRow_44 ?_
          refine lv_iload_n hx hb dX10_wrongRow_45 rfl (lv_at hl 2 rfl) ?_
          refine lv_icmp_eq (tgt := 54) hx hb dX10_wrongRow_46 (by decide) (fun c10 => ?_) (fun c10 => ?_)
          · have hv := if_y c10 hv
            refine lv_iconst (v := (0 : Int32)) hx hb dX10_wrongRow_54 (by decide) ?_
            exact W.iret (v := (0 : Int32)) hx hb hr (fun t h9 _ => ⟨rv_i hv, h9⟩) (fun q h => absurd h List.not_mem_nil) dX10_wrongRow_55 hlk
          · have hv := if_n c10 hv
            refine lv_bipush (v := (-12 : Int32)) hx hb dX10_wrongRow_49 (by decide) ?_
            refine lv_goto (tgt := 55) hx hb dX10_wrongRow_51 (by decide) ?_
            exact W.iret (v := (-12 : Int32)) hx hb hr (fun t h9 _ => ⟨rv_i hv, h9⟩) (fun q h => absurd h List.not_mem_nil) dX10_wrongRow_55 hlk
    · have hv := if_y c5 hv
      refine lv_bipush (v := (-11 : Int32)) hx hb dX10_wrongRow_20 (by decide) ?_
      refine lv_goto (tgt := 55) hx hb dX10_wrongRow_22 (by decide) ?_
      exact W.iret (v := (-11 : Int32)) hx hb hr (fun t h9 _ => ⟨rv_i hv, h9⟩) (fun q h => absurd h List.not_mem_nil) dX10_wrongRow_55 hlk
  · have hv := if_y c3 hv
    refine lv_iconst (v := (-1 : Int32)) hx hb dX10_wrongRow_7 (by decide) ?_
    refine lv_goto (tgt := 55) hx hb dX10_wrongRow_8 (by decide) ?_
    exact W.iret (v := (-1 : Int32)) hx hb hr (fun t h9 _ => ⟨rv_i hv, h9⟩) (fun q h => absurd h List.not_mem_nil) dX10_wrongRow_55 hlk
theorem dX10_wrongKept_0 : decode cX10_wrongKept 0 = .ok (.iload_n 1, 1) := by decide +kernel
theorem dX10_wrongKept_1 : decode cX10_wrongKept 1 = .ok (.invokestatic 263, 3) := by decide +kernel
theorem dX10_wrongKept_4 : decode cX10_wrongKept 4 = .ok (.ifCond .ne 7, 3) := by decide +kernel
theorem dX10_wrongKept_7 : decode cX10_wrongKept 7 = .ok (.iconst (-1), 1) := by decide +kernel
theorem dX10_wrongKept_8 : decode cX10_wrongKept 8 = .ok (.goto 33, 3) := by decide +kernel
theorem dX10_wrongKept_11 : decode cX10_wrongKept 11 = .ok (.aload_n 0, 1) := by decide +kernel
theorem dX10_wrongKept_12 : decode cX10_wrongKept 12 = .ok (.getfield 28, 3) := by decide +kernel
theorem dX10_wrongKept_15 : decode cX10_wrongKept 15 = .ok (.iload_n 1, 1) := by decide +kernel
theorem dX10_wrongKept_16 : decode cX10_wrongKept 16 = .ok (.iaload, 1) := by decide +kernel
theorem dX10_wrongKept_17 : decode cX10_wrongKept 17 = .ok (.ifCond .ne 8, 3) := by decide +kernel
theorem dX10_wrongKept_20 : decode cX10_wrongKept 20 = .ok (.bipush (-11), 2) := by decide +kernel
theorem dX10_wrongKept_22 : decode cX10_wrongKept 22 = .ok (.goto 19, 3) := by decide +kernel
theorem dX10_wrongKept_25 : decode cX10_wrongKept 25 = .ok (.aload_n 0, 1) := by decide +kernel
theorem dX10_wrongKept_26 : decode cX10_wrongKept 26 = .ok (.getfield 28, 3) := by decide +kernel
theorem dX10_wrongKept_29 : decode cX10_wrongKept 29 = .ok (.iload_n 1, 1) := by decide +kernel
theorem dX10_wrongKept_30 : decode cX10_wrongKept 30 = .ok (.iaload, 1) := by decide +kernel
theorem dX10_wrongKept_31 : decode cX10_wrongKept 31 = .ok (.iconst 2, 1) := by decide +kernel
theorem dX10_wrongKept_32 : decode cX10_wrongKept 32 = .ok (.if_icmp .ne 8, 3) := by decide +kernel
theorem dX10_wrongKept_35 : decode cX10_wrongKept 35 = .ok (.bipush (-12), 2) := by decide +kernel
theorem dX10_wrongKept_37 : decode cX10_wrongKept 37 = .ok (.goto 4, 3) := by decide +kernel
theorem dX10_wrongKept_40 : decode cX10_wrongKept 40 = .ok (.iconst 0, 1) := by decide +kernel
theorem dX10_wrongKept_41 : decode cX10_wrongKept 41 = .ok (.ireturn, 1) := by decide +kernel
def f_X10_wrongKept (o_kept : Nat → Int32) (p1 : Int32) : Option (Int32) := ob (f_X10_isShelf p1) (fun r1 => if r1 = 0 then some (-1 : Int32) else gd (ix p1 8) (if (o_kept p1.toNatClampNeg) = 0 then some (-11 : Int32) else gd (ix p1 8) (if (o_kept p1.toNatClampNeg) = (2 : Int32) then some (-12 : Int32) else some (0 : Int32))))
set_option maxHeartbeats 4000000 in
set_option maxRecDepth 100000 in
theorem c_X10_wrongKept (l : Launch) (E : EE) (o_h : Nat) (o_a0 : Nat) (o_a1 : Nat) (o_a2 : Nat) (o_a3 : Nat) (o_a8 : Nat) (o_a9 : Nat) (o_a11 : Nat) (o_a12 : Nat) (o_a13 : Nat) (o_a14 : Nat) (o_a15 : Nat) (o_a16 : Nat) (o_s : Nat → Int32) (o_m : Nat → Int32) (o_image : Nat → Int32) (o_was : Nat → Int32) (o_hasImage : Int32) (o_place : Int32) (o_rowAt : Int32) (o_rowEnd : Int32) (o_numbers : Nat → Int32) (o_most : Nat → Int32) (o_seed : Int32) (o_kept : Nat → Int32) (o_keptKind : Nat → Int32) (o_keptFigure : Nat → Int32) (o_sort : Nat → Int32) (o_size : Nat → Int32) (o_element : Nat → Int32) (o_thrown : Int32) (p1 : Int32) (res : Int32) (hv : f_X10_wrongKept o_kept p1 = some res) : Rd l E yX10_wrongKept cX10_wrongKept 2 (some .int) ({ frames := 2, cells := 0, slots := 0, locals := 42 }) [.ref o_h, .int p1] [oMo o_h o_a0 o_a1 o_a2 o_a3 o_hasImage o_place o_rowAt o_rowEnd o_a8 o_a9 o_seed o_a11 o_a12 o_a13 o_a14 o_a15 o_a16 o_thrown, ai E o_a0 42 o_s, ai E o_a1 42 o_m, ai E o_a2 42 o_image, ai E o_a3 42 o_was, ai E o_a8 3 o_numbers, ai E o_a9 8192 o_most, ai E o_a11 8 o_kept, ai E o_a12 8 o_keptKind, ai E o_a13 8 o_keptFigure, ai E o_a14 8 o_sort, ai E o_a15 8 o_size, ai E o_a16 800 o_element] (some (.int res)) := by
  refine Rd.intro RX10 (by decide) rfl (Nat.le_of_ble_eq_true rfl) ?_
  intro p e s m below meth c ls hC hr hlk hP hG hl
  obtain ⟨hx, hb, hml, hown, ht⟩ := id hC
  have hK := hG.1
  have hl : lv_has ls 2 [(0, .ref o_h), (1, .int p1)] := hl
  rw [f_X10_wrongKept] at hv
  refine lv_iload_n hx hb dX10_wrongKept_0 rfl (lv_at hl 1 rfl) ?_
  obtain ⟨r1, h2, hv⟩ := ob_s hv
  refine rdS (rest := []) (st1 := [.int r1]) (w := []) hC q_X10_isShelf kw_4_197 (c_X10_isShelf l E p1 r1 h2) ⟨rfl, rfl⟩ ⟨Nat.le_of_ble_eq_true rfl, Nat.le_of_ble_eq_true rfl⟩ ⟨Nat.zero_le _, Nat.zero_le _⟩ (hP.sub (ws' := []) [] rfl) hG rfl hl.1 rfl (Nat.le_of_ble_eq_true rfl) dX10_wrongKept_1 rfl ?_
  refine lv_if_ne (tgt := 11) hx hb dX10_wrongKept_4 (by decide) (fun c3 => ?_) (fun c3 => ?_)
  · have hv := if_n c3 hv
    refine lv_aload_n hx hb dX10_wrongKept_11 rfl (lv_at hl 0 rfl) ?_
    refine va_get (D := E.1) (ci := 4) (v := .ref o_a11) (C := RX10) (T := TX10) (N := 18) hx hb ht i_X10 hown hK hP 0 rfl rfl 11 (by decide) (ht _ kw_4_145) (fun _ h9 => h9) rfl dX10_wrongKept_12 ?_
    refine lv_iload_n hx hb dX10_wrongKept_15 rfl (lv_at hl 1 rfl) ?_
    obtain ⟨g4, hv⟩ := gd_s hv
    refine va_iald hx hb hK hP 7 0 rfl rfl (ix_s g4) dX10_wrongKept_16 ?_
    refine lv_if_ne (tgt := 25) hx hb dX10_wrongKept_17 (by decide) (fun c5 => ?_) (fun c5 => ?_)
    · have hv := if_n c5 hv
      refine lv_aload_n hx hb dX10_wrongKept_25 rfl (lv_at hl 0 rfl) ?_
      refine va_get (D := E.1) (ci := 4) (v := .ref o_a11) (C := RX10) (T := TX10) (N := 18) hx hb ht i_X10 hown hK hP 0 rfl rfl 11 (by decide) (ht _ kw_4_145) (fun _ h9 => h9) rfl dX10_wrongKept_26 ?_
      refine lv_iload_n hx hb dX10_wrongKept_29 rfl (lv_at hl 1 rfl) ?_
      obtain ⟨g6, hv⟩ := gd_s hv
      refine va_iald hx hb hK hP 7 0 rfl rfl (ix_s g6) dX10_wrongKept_30 ?_
      refine lv_iconst (v := (2 : Int32)) hx hb dX10_wrongKept_31 (by decide) ?_
      refine lv_icmp_ne (tgt := 40) hx hb dX10_wrongKept_32 (by decide) (fun c7 => ?_) (fun c7 => ?_)
      · have hv := if_n c7 hv
        refine lv_iconst (v := (0 : Int32)) hx hb dX10_wrongKept_40 (by decide) ?_
        exact W.iret (v := (0 : Int32)) hx hb hr (fun t h9 _ => ⟨rv_i hv, h9⟩) (fun q h => absurd h List.not_mem_nil) dX10_wrongKept_41 hlk
      · have hv := if_y c7 hv
        refine lv_bipush (v := (-12 : Int32)) hx hb dX10_wrongKept_35 (by decide) ?_
        refine lv_goto (tgt := 41) hx hb dX10_wrongKept_37 (by decide) ?_
        exact W.iret (v := (-12 : Int32)) hx hb hr (fun t h9 _ => ⟨rv_i hv, h9⟩) (fun q h => absurd h List.not_mem_nil) dX10_wrongKept_41 hlk
    · have hv := if_y c5 hv
      refine lv_bipush (v := (-11 : Int32)) hx hb dX10_wrongKept_20 (by decide) ?_
      refine lv_goto (tgt := 41) hx hb dX10_wrongKept_22 (by decide) ?_
      exact W.iret (v := (-11 : Int32)) hx hb hr (fun t h9 _ => ⟨rv_i hv, h9⟩) (fun q h => absurd h List.not_mem_nil) dX10_wrongKept_41 hlk
  · have hv := if_y c3 hv
    refine lv_iconst (v := (-1 : Int32)) hx hb dX10_wrongKept_7 (by decide) ?_
    refine lv_goto (tgt := 41) hx hb dX10_wrongKept_8 (by decide) ?_
    exact W.iret (v := (-1 : Int32)) hx hb hr (fun t h9 _ => ⟨rv_i hv, h9⟩) (fun q h => absurd h List.not_mem_nil) dX10_wrongKept_41 hlk
