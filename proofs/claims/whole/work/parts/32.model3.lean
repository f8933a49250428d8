theorem dX10_doesCarryWith_0 : decode cX10_doesCarryWith 0 = .ok (.aload_n 0, 1) := by decide +kernel
theorem dX10_doesCarryWith_1 : decode cX10_doesCarryWith 1 = .ok (.getfield 9, 3) := by decide +kernel
theorem dX10_doesCarryWith_4 : decode cX10_doesCarryWith 4 = .ok (.aload_n 0, 1) := by decide +kernel
theorem dX10_doesCarryWith_5 : decode cX10_doesCarryWith 5 = .ok (.getfield 13, 3) := by decide +kernel
theorem dX10_doesCarryWith_8 : decode cX10_doesCarryWith 8 = .ok (.invokestatic 148, 3) := by decide +kernel
theorem dX10_doesCarryWith_11 : decode cX10_doesCarryWith 11 = .ok (.iconst 0, 1) := by decide +kernel
theorem dX10_doesCarryWith_12 : decode cX10_doesCarryWith 12 = .ok (.istore_n 3, 1) := by decide +kernel
theorem dX10_doesCarryWith_13 : decode cX10_doesCarryWith 13 = .ok (.iload_n 3, 1) := by decide +kernel
theorem dX10_doesCarryWith_14 : decode cX10_doesCarryWith 14 = .ok (.aload_n 0, 1) := by decide +kernel
theorem dX10_doesCarryWith_15 : decode cX10_doesCarryWith 15 = .ok (.getfield 13, 3) := by decide +kernel
theorem dX10_doesCarryWith_18 : decode cX10_doesCarryWith 18 = .ok (.iconst 0, 1) := by decide +kernel
theorem dX10_doesCarryWith_19 : decode cX10_doesCarryWith 19 = .ok (.iaload, 1) := by decide +kernel
theorem dX10_doesCarryWith_20 : decode cX10_doesCarryWith 20 = .ok (.if_icmp .ge 28, 3) := by decide +kernel
theorem dX10_doesCarryWith_23 : decode cX10_doesCarryWith 23 = .ok (.iload_n 1, 1) := by decide +kernel
theorem dX10_doesCarryWith_24 : decode cX10_doesCarryWith 24 = .ok (.iload_n 3, 1) := by decide +kernel
theorem dX10_doesCarryWith_25 : decode cX10_doesCarryWith 25 = .ok (.invokestatic 62, 3) := by decide +kernel
theorem dX10_doesCarryWith_28 : decode cX10_doesCarryWith 28 = .ok (.ifCond .eq 14, 3) := by decide +kernel
theorem dX10_doesCarryWith_31 : decode cX10_doesCarryWith 31 = .ok (.aload_n 0, 1) := by decide +kernel
theorem dX10_doesCarryWith_32 : decode cX10_doesCarryWith 32 = .ok (.getfield 13, 3) := by decide +kernel
theorem dX10_doesCarryWith_35 : decode cX10_doesCarryWith 35 = .ok (.iload_n 3, 1) := by decide +kernel
theorem dX10_doesCarryWith_36 : decode cX10_doesCarryWith 36 = .ok (.iconst 3, 1) := by decide +kernel
theorem dX10_doesCarryWith_37 : decode cX10_doesCarryWith 37 = .ok (.invokestatic 50, 3) := by decide +kernel
theorem dX10_doesCarryWith_40 : decode cX10_doesCarryWith 40 = .ok (.iload_n 2, 1) := by decide +kernel
theorem dX10_doesCarryWith_41 : decode cX10_doesCarryWith 41 = .ok (.iastore, 1) := by decide +kernel
theorem dX10_doesCarryWith_42 : decode cX10_doesCarryWith 42 = .ok (.iinc 3 1, 3) := by decide +kernel
theorem dX10_doesCarryWith_45 : decode cX10_doesCarryWith 45 = .ok (.goto (-32), 3) := by decide +kernel
theorem dX10_doesCarryWith_48 : decode cX10_doesCarryWith 48 = .ok (.aload_n 0, 1) := by decide +kernel
theorem dX10_doesCarryWith_49 : decode cX10_doesCarryWith 49 = .ok (.getfield 13, 3) := by decide +kernel
theorem dX10_doesCarryWith_52 : decode cX10_doesCarryWith 52 = .ok (.invokestatic 163, 3) := by decide +kernel
theorem dX10_doesCarryWith_55 : decode cX10_doesCarryWith 55 = .ok (.ireturn, 1) := by decide +kernel
def L_X10_doesCarryWith_13 (N : Nat) (p1 : Int32) (p2 : Int32) : Nat → Int32 → (Nat → Int32) → Option (Int32 × (Nat → Int32))
  | 0, _, _ => none
  | n13 + 1, x3, y4 => if (y4 0) ≤ x3 then ob (f_X10_doesCarry N y4) (fun r6 => gd (bz r6) (some (r6, y4))) else ob (f_X10_has p1 x3) (fun r9 => if r9 = 0 then L_X10_doesCarryWith_13 N p1 p2 n13 (x3 + (1 : Int32)) y4 else ob (f_X10_of x3 (3 : Int32)) (fun r12 => gd (ix r12 42) (nm (upd y4 r12.toNatClampNeg p2) (fun f15 => L_X10_doesCarryWith_13 N p1 p2 n13 (x3 + (1 : Int32)) f15))))
def f_X10_doesCarryWith (N : Nat) (o_s : Nat → Int32) (o_m : Nat → Int32) (p1 : Int32) (p2 : Int32) : Option (Int32 × (Nat → Int32)) := ob (f_X10_copies N o_s o_m) (fun y1 => L_X10_doesCarryWith_13 N p1 p2 N (0 : Int32) y1)
set_option maxHeartbeats 4000000 in
set_option maxRecDepth 100000 in
theorem c_X10_doesCarryWith (l : Launch) (E : EE) (o_h : Nat) (o_a0 : Nat) (o_a1 : Nat) (o_a2 : Nat) (o_a3 : Nat) (o_a8 : Nat) (o_a9 : Nat) (o_a11 : Nat) (o_a12 : Nat) (o_a13 : Nat) (o_a14 : Nat) (o_a15 : Nat) (o_a16 : Nat) (o_s : Nat → Int32) (o_m : Nat → Int32) (o_image : Nat → Int32) (o_was : Nat → Int32) (o_hasImage : Int32) (o_place : Int32) (o_rowAt : Int32) (o_rowEnd : Int32) (o_numbers : Nat → Int32) (o_most : Nat → Int32) (o_seed : Int32) (o_kept : Nat → Int32) (o_keptKind : Nat → Int32) (o_keptFigure : Nat → Int32) (o_sort : Nat → Int32) (o_size : Nat → Int32) (o_element : Nat → Int32) (o_thrown : Int32) (p1 : Int32) (p2 : Int32) (N : Nat) (res : Int32) (w_o_m : Nat → Int32) (hv : f_X10_doesCarryWith N o_s o_m p1 p2 = some (res, w_o_m)) : Wr l E yX10_doesCarryWith cX10_doesCarryWith 4 (some .boolean) ({ frames := 6, cells := 0, slots := 0, locals := 128 }) [.ref o_h, .int p1, .int p2] [oMo o_h o_a0 o_a1 o_a2 o_a3 o_hasImage o_place o_rowAt o_rowEnd o_a8 o_a9 o_seed o_a11 o_a12 o_a13 o_a14 o_a15 o_a16 o_thrown, ai E o_a0 42 o_s, ai E o_a1 42 o_m, ai E o_a2 42 o_image, ai E o_a3 42 o_was, ai E o_a8 3 o_numbers, ai E o_a9 8192 o_most, ai E o_a11 8 o_kept, ai E o_a12 8 o_keptKind, ai E o_a13 8 o_keptFigure, ai E o_a14 8 o_sort, ai E o_a15 8 o_size, ai E o_a16 800 o_element] [oMo o_h o_a0 o_a1 o_a2 o_a3 o_hasImage o_place o_rowAt o_rowEnd o_a8 o_a9 o_seed o_a11 o_a12 o_a13 o_a14 o_a15 o_a16 o_thrown, ai E o_a0 42 o_s, ai E o_a1 42 w_o_m, ai E o_a2 42 o_image, ai E o_a3 42 o_was, ai E o_a8 3 o_numbers, ai E o_a9 8192 o_most, ai E o_a11 8 o_kept, ai E o_a12 8 o_keptKind, ai E o_a13 8 o_keptFigure, ai E o_a14 8 o_sort, ai E o_a15 8 o_size, ai E o_a16 800 o_element] (some (.int res)) := by
  refine Wr.intro RX10 (by decide) rfl (Nat.le_of_ble_eq_true rfl) ?_
  intro p e s m below meth c ls A hC hr hlk hmn hP hD hS hA hG hl
  obtain ⟨hx, hb, hml, hown, ht⟩ := id hC
  have hK := hG.1
  have hl : lv_has ls 4 [(0, .ref o_h), (1, .int p1), (2, .int p2)] := hl
  rw [f_X10_doesCarryWith] at hv
  refine lv_aload_n hx hb dX10_doesCarryWith_0 rfl (lv_at hl 0 rfl) ?_
  refine va_get (D := E.1) (ci := 4) (v := .ref o_a0) (C := RX10) (T := TX10) (N := 18) hx hb ht i_X10 hown hK hP 0 rfl rfl 0 (by decide) (ht _ kw_4_134) (fun _ h9 => h9) rfl dX10_doesCarryWith_1 ?_
  refine lv_aload_n hx hb dX10_doesCarryWith_4 rfl (lv_at hl 0 rfl) ?_
  refine va_get (D := E.1) (ci := 4) (v := .ref o_a1) (C := RX10) (T := TX10) (N := 18) hx hb ht i_X10 hown hK hP 0 rfl rfl 1 (by decide) (ht _ kw_4_135) (fun _ h9 => h9) rfl dX10_doesCarryWith_5 ?_
  obtain ⟨y1, h2, hv⟩ := ob_s hv
  refine wrS (as := [o_h, o_a0, o_a1, o_a2, o_a3, o_a8, o_a9, o_a11, o_a12, o_a13, o_a14, o_a15, o_a16]) (wr := [oMo o_h o_a0 o_a1 o_a2 o_a3 o_hasImage o_place o_rowAt o_rowEnd o_a8 o_a9 o_seed o_a11 o_a12 o_a13 o_a14 o_a15 o_a16 o_thrown, ai E o_a2 42 o_image, ai E o_a3 42 o_was, ai E o_a8 3 o_numbers, ai E o_a9 8192 o_most, ai E o_a11 8 o_kept, ai E o_a12 8 o_keptKind, ai E o_a13 8 o_keptFigure, ai E o_a14 8 o_sort, ai E o_a15 8 o_size, ai E o_a16 800 o_element]) [1, 2] [0, 3, 4, 5, 6, 7, 8, 9, 10, 11, 12] (ws := [oMo o_h o_a0 o_a1 o_a2 o_a3 o_hasImage o_place o_rowAt o_rowEnd o_a8 o_a9 o_seed o_a11 o_a12 o_a13 o_a14 o_a15 o_a16 o_thrown, ai E o_a0 42 o_s, ai E o_a1 42 o_m, ai E o_a2 42 o_image, ai E o_a3 42 o_was, ai E o_a8 3 o_numbers, ai E o_a9 8192 o_most, ai E o_a11 8 o_kept, ai E o_a12 8 o_keptKind, ai E o_a13 8 o_keptFigure, ai E o_a14 8 o_sort, ai E o_a15 8 o_size, ai E o_a16 800 o_element]) (ws' := [oMo o_h o_a0 o_a1 o_a2 o_a3 o_hasImage o_place o_rowAt o_rowEnd o_a8 o_a9 o_seed o_a11 o_a12 o_a13 o_a14 o_a15 o_a16 o_thrown, ai E o_a0 42 o_s, ai E o_a1 42 y1, ai E o_a2 42 o_image, ai E o_a3 42 o_was, ai E o_a8 3 o_numbers, ai E o_a9 8192 o_most, ai E o_a11 8 o_kept, ai E o_a12 8 o_keptKind, ai E o_a13 8 o_keptFigure, ai E o_a14 8 o_sort, ai E o_a15 8 o_size, ai E o_a16 800 o_element]) (rest := []) (st1 := []) hC q_X10_copies kw_4_215 (c_X10_copies l E o_a0 o_a1 o_s o_m N y1 h2) ⟨rfl, rfl⟩ ⟨Nat.le_of_ble_eq_true rfl, Nat.le_of_ble_eq_true rfl⟩ ⟨Nat.zero_le _, Nat.zero_le _⟩ hP hD hS hA hG (by decide) rfl rfl rfl rfl rfl rfl rfl rfl hl.1 rfl (Nat.le_of_ble_eq_true rfl) dX10_doesCarryWith_8 rfl (fun H locs hP hD hS => ?_)
  refine lv_iconst (v := (0 : Int32)) hx hb dX10_doesCarryWith_11 (by decide) ?_
  refine lv_istore_n (lv' := [(3, .int (0 : Int32)), (0, .ref o_h), (1, .int p1), (2, .int p2)]) hx hb dX10_doesCarryWith_12 rfl hl (by decide) rfl (fun ls hl => ?_)
  have hL13 : ∀ (n : Nat) (x3 : Int32) (y4 : Nat → Int32) (H : Heap) (locs : List Loc) (ls : Array Slot), va_P E.1 vwCl [oMo o_h o_a0 o_a1 o_a2 o_a3 o_hasImage o_place o_rowAt o_rowEnd o_a8 o_a9 o_seed o_a11 o_a12 o_a13 o_a14 o_a15 o_a16 o_thrown, ai E o_a0 42 o_s, ai E o_a1 42 y4, ai E o_a2 42 o_image, ai E o_a3 42 o_was, ai E o_a8 3 o_numbers, ai E o_a9 8192 o_most, ai E o_a11 8 o_kept, ai E o_a12 8 o_keptKind, ai E o_a13 8 o_keptFigure, ai E o_a14 8 o_sort, ai E o_a15 8 o_size, ai E o_a16 800 o_element] H → va_D A [oMo o_h o_a0 o_a1 o_a2 o_a3 o_hasImage o_place o_rowAt o_rowEnd o_a8 o_a9 o_seed o_a11 o_a12 o_a13 o_a14 o_a15 o_a16 o_thrown, ai E o_a0 42 o_s, ai E o_a1 42 y4, ai E o_a2 42 o_image, ai E o_a3 42 o_was, ai E o_a8 3 o_numbers, ai E o_a9 8192 o_most, ai E o_a11 8 o_kept, ai E o_a12 8 o_keptKind, ai E o_a13 8 o_keptFigure, ai E o_a14 8 o_sort, ai E o_a15 8 o_size, ai E o_a16 800 o_element] → va_S A s.heap H locs → lv_has ls 4 [(3, .int x3), (0, .ref o_h), (1, .int p1), (2, .int p2)] → L_X10_doesCarryWith_13 N p1 p2 n x3 y4 = some (res, w_o_m) → W p l e ({ frames := 6, cells := 0, slots := 0, locals := 128 }) s m [.ref o_h, .int p1, .int p2].toArray below meth c H locs 0 0 (MQ below (fun _ st oc t => oc = .returned (some (.int res)) ∧ va_P E.1 vwCl [oMo o_h o_a0 o_a1 o_a2 o_a3 o_hasImage o_place o_rowAt o_rowEnd o_a8 o_a9 o_seed o_a11 o_a12 o_a13 o_a14 o_a15 o_a16 o_thrown, ai E o_a0 42 o_s, ai E o_a1 42 w_o_m, ai E o_a2 42 o_image, ai E o_a3 42 o_was, ai E o_a8 3 o_numbers, ai E o_a9 8192 o_most, ai E o_a11 8 o_kept, ai E o_a12 8 o_keptKind, ai E o_a13 8 o_keptFigure, ai E o_a14 8 o_sort, ai E o_a15 8 o_size, ai E o_a16 800 o_element] t.heap ∧ va_F A st t) [.ref o_h, .int p1, .int p2].toArray s 0 0 A) (F0 m 13 ls []) := by
    intro n
    induction n with
    | zero => intro x3 y4 H locs ls hP hD hS hl hv; cases hv
    | succ n13 ih13 =>
      intro x3 y4 H locs ls hP hD hS hl hv
      rw [L_X10_doesCarryWith_13] at hv
      refine lv_iload_n hx hb dX10_doesCarryWith_13 rfl (lv_at hl 0 rfl) ?_
      refine lv_aload_n hx hb dX10_doesCarryWith_14 rfl (lv_at hl 1 rfl) ?_
      refine va_get (D := E.1) (ci := 4) (v := .ref o_a1) (C := RX10) (T := TX10) (N := 18) hx hb ht i_X10 hown hK hP 0 rfl rfl 1 (by decide) (ht _ kw_4_135) (fun _ h9 => h9) rfl dX10_doesCarryWith_15 ?_
      refine lv_iconst (v := (0 : Int32)) hx hb dX10_doesCarryWith_18 (by decide) ?_
      refine va_iald hx hb hK hP 2 0 rfl rfl (ix_s (by decide)) dX10_doesCarryWith_19 ?_
      refine W.eq (g2 := F0 m 20 ls [.int (y4 0), .int x3]) rfl ?_
      refine lv_icmp_ge (tgt := 48) hx hb dX10_doesCarryWith_20 (by decide) (fun c5 => ?_) (fun c5 => ?_)
      · have hv := if_y c5 hv
        refine lv_aload_n hx hb dX10_doesCarryWith_48 rfl (lv_at hl 1 rfl) ?_
        refine va_get (D := E.1) (ci := 4) (v := .ref o_a1) (C := RX10) (T := TX10) (N := 18) hx hb ht i_X10 hown hK hP 0 rfl rfl 1 (by decide) (ht _ kw_4_135) (fun _ h9 => h9) rfl dX10_doesCarryWith_49 ?_
        obtain ⟨r6, h7, hv⟩ := ob_s hv
        refine rdS (rest := []) (st1 := [.int r6]) (w := [ai E o_a1 42 y4]) hC q_X10_doesCarry kw_5_70 (c_X10_doesCarry l E o_a1 y4 N r6 h7) ⟨rfl, rfl⟩ ⟨Nat.le_of_ble_eq_true rfl, Nat.le_of_ble_eq_true rfl⟩ ⟨Nat.zero_le _, Nat.zero_le _⟩ (hP.sub (ws' := [ai E o_a1 42 y4]) [2] rfl) hG rfl hl.1 rfl (Nat.le_of_ble_eq_true rfl) dX10_doesCarryWith_52 rfl ?_
        obtain ⟨g8, hv⟩ := gd_s hv
        cases hv
        exact W.zret hx hb hr (bz_s g8) (fun t h9 _ => ⟨rfl, by rw [h9]; exact hP, hS.F h9⟩) hS.2.2 dX10_doesCarryWith_55 hlk
      · have hv := if_n c5 hv
        refine lv_iload_n hx hb dX10_doesCarryWith_23 rfl (lv_at hl 2 rfl) ?_
        refine lv_iload_n hx hb dX10_doesCarryWith_24 rfl (lv_at hl 0 rfl) ?_
        obtain ⟨r9, h10, hv⟩ := ob_s hv
        refine rdS (rest := []) (st1 := [.int r9]) (w := []) hC q_X10_has kw_5_5 (c_X10_has l E p1 x3 r9 h10) ⟨rfl, rfl⟩ ⟨Nat.le_of_ble_eq_true rfl, Nat.le_of_ble_eq_true rfl⟩ ⟨Nat.zero_le _, Nat.zero_le _⟩ (hP.sub (ws' := []) [] rfl) hG rfl hl.1 rfl (Nat.le_of_ble_eq_true rfl) dX10_doesCarryWith_25 rfl ?_
        refine lv_if_eq (tgt := 42) hx hb dX10_doesCarryWith_28 (by decide) (fun c11 => ?_) (fun c11 => ?_)
        · have hv := if_y c11 hv
          refine lv_iinc (v := (x3 + (1 : Int32))) (lv' := [(3, .int (x3 + (1 : Int32))), (0, .ref o_h), (1, .int p1), (2, .int p2)]) hx hb dX10_doesCarryWith_42 hl (k := 0) rfl rfl (by decide) rfl (fun ls hl => ?_)
          refine lv_goto (tgt := 13) hx hb dX10_doesCarryWith_45 (by decide) ?_
          exact ih13 (x3 + (1 : Int32)) y4 _ _ _ hP hD hS (lv_sub hl [0, 1, 2, 3] rfl) hv
        · have hv := if_n c11 hv
          refine lv_aload_n hx hb dX10_doesCarryWith_31 rfl (lv_at hl 1 rfl) ?_
          refine va_get (D := E.1) (ci := 4) (v := .ref o_a1) (C := RX10) (T := TX10) (N := 18) hx hb ht i_X10 hown hK hP 0 rfl rfl 1 (by decide) (ht _ kw_4_135) (fun _ h9 => h9) rfl dX10_doesCarryWith_32 ?_
          refine lv_iload_n hx hb dX10_doesCarryWith_35 rfl (lv_at hl 0 rfl) ?_
          refine lv_iconst (v := (3 : Int32)) hx hb dX10_doesCarryWith_36 (by decide) ?_
          obtain ⟨r12, h13, hv⟩ := ob_s hv
          refine rdS (rest := [.ref o_a1]) (st1 := [.int r12, .ref o_a1]) (w := []) hC q_X10_of kw_4_226 (c_X10_of l E x3 (3 : Int32) r12 h13) ⟨rfl, rfl⟩ ⟨Nat.le_of_ble_eq_true rfl, Nat.le_of_ble_eq_true rfl⟩ ⟨Nat.zero_le _, Nat.zero_le _⟩ (hP.sub (ws' := []) [] rfl) hG rfl hl.1 rfl (Nat.le_of_ble_eq_true rfl) dX10_doesCarryWith_37 rfl ?_
          refine lv_iload_n hx hb dX10_doesCarryWith_40 rfl (lv_at hl 3 rfl) ?_
          obtain ⟨g14, hv⟩ := gd_s hv
          refine va_iast hx hb hK hP hD hS 2 0 rfl rfl (ix_s g14) dX10_doesCarryWith_41 (fun H locs hP hD hS => ?_)
          have hP : va_P E.1 vwCl [oMo o_h o_a0 o_a1 o_a2 o_a3 o_hasImage o_place o_rowAt o_rowEnd o_a8 o_a9 o_seed o_a11 o_a12 o_a13 o_a14 o_a15 o_a16 o_thrown, ai E o_a0 42 o_s, ai E o_a1 42 (upd y4 r12.toNatClampNeg p2), ai E o_a2 42 o_image, ai E o_a3 42 o_was, ai E o_a8 3 o_numbers, ai E o_a9 8192 o_most, ai E o_a11 8 o_kept, ai E o_a12 8 o_keptKind, ai E o_a13 8 o_keptFigure, ai E o_a14 8 o_sort, ai E o_a15 8 o_size, ai E o_a16 800 o_element] H := hP
          have hD : va_D A [oMo o_h o_a0 o_a1 o_a2 o_a3 o_hasImage o_place o_rowAt o_rowEnd o_a8 o_a9 o_seed o_a11 o_a12 o_a13 o_a14 o_a15 o_a16 o_thrown, ai E o_a0 42 o_s, ai E o_a1 42 (upd y4 r12.toNatClampNeg p2), ai E o_a2 42 o_image, ai E o_a3 42 o_was, ai E o_a8 3 o_numbers, ai E o_a9 8192 o_most, ai E o_a11 8 o_kept, ai E o_a12 8 o_keptKind, ai E o_a13 8 o_keptFigure, ai E o_a14 8 o_sort, ai E o_a15 8 o_size, ai E o_a16 800 o_element] := hD
          obtain ⟨f15, ef15⟩ : ∃ z, z = (upd y4 r12.toNatClampNeg p2) := ⟨_, rfl⟩
          rw [← ef15] at hP hD
          have hv := nm_s ef15 hv
          refine lv_iinc (v := (x3 + (1 : Int32))) (lv' := [(3, .int (x3 + (1 : Int32))), (0, .ref o_h), (1, .int p1), (2, .int p2)]) hx hb dX10_doesCarryWith_42 hl (k := 0) rfl rfl (by decide) rfl (fun ls hl => ?_)
          refine lv_goto (tgt := 13) hx hb dX10_doesCarryWith_45 (by decide) ?_
          exact ih13 (x3 + (1 : Int32)) f15 _ _ _ hP hD hS (lv_sub hl [0, 1, 2, 3] rfl) hv
  exact hL13 N (0 : Int32) y1 _ _ _ hP hD hS (lv_sub hl [0, 1, 2, 3] rfl) hv
theorem dX10_win_0 : decode cX10_win 0 = .ok (.iload_n 1, 1) := by decide +kernel
theorem dX10_win_1 : decode cX10_win 1 = .ok (.iconst 0, 1) := by decide +kernel
theorem dX10_win_2 : decode cX10_win 2 = .ok (.iconst 1, 1) := by decide +kernel
theorem dX10_win_3 : decode cX10_win 3 = .ok (.invokestatic 46, 3) := by decide +kernel
theorem dX10_win_6 : decode cX10_win 6 = .ok (.ifCond .ne 5, 3) := by decide +kernel
theorem dX10_win_9 : decode cX10_win 9 = .ok (.iconst (-1), 1) := by decide +kernel
theorem dX10_win_10 : decode cX10_win 10 = .ok (.ireturn, 1) := by decide +kernel
theorem dX10_win_11 : decode cX10_win 11 = .ok (.bipush (-4), 2) := by decide +kernel
theorem dX10_win_13 : decode cX10_win 13 = .ok (.istore_n 2, 1) := by decide +kernel
theorem dX10_win_14 : decode cX10_win 14 = .ok (.iconst 0, 1) := by decide +kernel
theorem dX10_win_15 : decode cX10_win 15 = .ok (.istore_n 3, 1) := by decide +kernel
theorem dX10_win_16 : decode cX10_win 16 = .ok (.iload_n 3, 1) := by decide +kernel
theorem dX10_win_17 : decode cX10_win 17 = .ok (.iconst 1, 1) := by decide +kernel
theorem dX10_win_18 : decode cX10_win 18 = .ok (.aload_n 0, 1) := by decide +kernel
theorem dX10_win_19 : decode cX10_win 19 = .ok (.getfield 9, 3) := by decide +kernel
theorem dX10_win_22 : decode cX10_win 22 = .ok (.iconst 0, 1) := by decide +kernel
theorem dX10_win_23 : decode cX10_win 23 = .ok (.iaload, 1) := by decide +kernel
theorem dX10_win_24 : decode cX10_win 24 = .ok (.ishl, 1) := by decide +kernel
theorem dX10_win_25 : decode cX10_win 25 = .ok (.if_icmp .ge 62, 3) := by decide +kernel
theorem dX10_win_28 : decode cX10_win 28 = .ok (.aload_n 0, 1) := by decide +kernel
theorem dX10_win_29 : decode cX10_win 29 = .ok (.iload_n 3, 1) := by decide +kernel
theorem dX10_win_30 : decode cX10_win 30 = .ok (.invokevirtual 198, 3) := by decide +kernel
theorem dX10_win_33 : decode cX10_win 33 = .ok (.ifCond .eq 48, 3) := by decide +kernel
theorem dX10_win_36 : decode cX10_win 36 = .ok (.iload_n 2, 1) := by decide +kernel
theorem dX10_win_37 : decode cX10_win 37 = .ok (.ifCond .lt 14, 3) := by decide +kernel
theorem dX10_win_40 : decode cX10_win 40 = .ok (.iload_n 3, 1) := by decide +kernel
theorem dX10_win_41 : decode cX10_win 41 = .ok (.invokestatic 195, 3) := by decide +kernel
theorem dX10_win_44 : decode cX10_win 44 = .ok (.iload_n 2, 1) := by decide +kernel
theorem dX10_win_45 : decode cX10_win 45 = .ok (.invokestatic 195, 3) := by decide +kernel
theorem dX10_win_48 : decode cX10_win 48 = .ok (.if_icmp .ge 33, 3) := by decide +kernel
theorem dX10_win_51 : decode cX10_win 51 = .ok (.aload_n 0, 1) := by decide +kernel
theorem dX10_win_52 : decode cX10_win 52 = .ok (.iload_n 3, 1) := by decide +kernel
theorem dX10_win_53 : decode cX10_win 53 = .ok (.iload_n 1, 1) := by decide +kernel
theorem dX10_win_54 : decode cX10_win 54 = .ok (.ifCond .ne 8, 3) := by decide +kernel
theorem dX10_win_57 : decode cX10_win 57 = .ok (.bipush 9, 2) := by decide +kernel
theorem dX10_win_59 : decode cX10_win 59 = .ok (.goto 5, 3) := by decide +kernel
theorem dX10_win_62 : decode cX10_win 62 = .ok (.bipush (-9), 2) := by decide +kernel
theorem dX10_win_64 : decode cX10_win 64 = .ok (.invokevirtual 224, 3) := by decide +kernel
theorem dX10_win_67 : decode cX10_win 67 = .ok (.iload_n 1, 1) := by decide +kernel
theorem dX10_win_68 : decode cX10_win 68 = .ok (.ifCond .ne 7, 3) := by decide +kernel
theorem dX10_win_71 : decode cX10_win 71 = .ok (.iconst 1, 1) := by decide +kernel
theorem dX10_win_72 : decode cX10_win 72 = .ok (.goto 4, 3) := by decide +kernel
theorem dX10_win_75 : decode cX10_win 75 = .ok (.iconst 0, 1) := by decide +kernel
theorem dX10_win_76 : decode cX10_win 76 = .ok (.if_icmp .ne 5, 3) := by decide +kernel
theorem dX10_win_79 : decode cX10_win 79 = .ok (.iload_n 3, 1) := by decide +kernel
theorem dX10_win_80 : decode cX10_win 80 = .ok (.istore_n 2, 1) := by decide +kernel
theorem dX10_win_81 : decode cX10_win 81 = .ok (.iinc 3 1, 3) := by decide +kernel
theorem dX10_win_84 : decode cX10_win 84 = .ok (.goto (-68), 3) := by decide +kernel
theorem dX10_win_87 : decode cX10_win 87 = .ok (.iload_n 2, 1) := by decide +kernel
theorem dX10_win_88 : decode cX10_win 88 = .ok (.ireturn, 1) := by decide +kernel
def L_X10_win_16 (N : Nat) (o_s : Nat → Int32) (p1 : Int32) : Nat → Int32 → Int32 → (Nat → Int32) → Option (Int32 × (Nat → Int32))
  | 0, _, _, _ => none
  | n16 + 1, x4, x5, y6 => if ((1 : Int32) <<< ((o_s 0) &&& 31)) ≤ x4 then some (x5, y6) else ob (f_X10_isOfHeard N o_s x4) (fun r8 => if r8 = 0 then L_X10_win_16 N o_s p1 n16 (x4 + (1 : Int32)) x5 y6 else if x5 < 0 then if p1 = 0 then ob (f_X10_doesCarryWith N o_s y6 x4 (9 : Int32)) (fun (r19, y20) => if p1 = 0 then if r19 = (1 : Int32) then L_X10_win_16 N o_s p1 n16 (x4 + (1 : Int32)) x4 y20 else L_X10_win_16 N o_s p1 n16 (x4 + (1 : Int32)) x5 y20 else if r19 = (0 : Int32) then L_X10_win_16 N o_s p1 n16 (x4 + (1 : Int32)) x4 y20 else L_X10_win_16 N o_s p1 n16 (x4 + (1 : Int32)) x5 y20) else ob (f_X10_doesCarryWith N o_s y6 x4 (-9 : Int32)) (fun (r13, y14) => if p1 = 0 then if r13 = (1 : Int32) then L_X10_win_16 N o_s p1 n16 (x4 + (1 : Int32)) x4 y14 else L_X10_win_16 N o_s p1 n16 (x4 + (1 : Int32)) x5 y14 else if r13 = (0 : Int32) then L_X10_win_16 N o_s p1 n16 (x4 + (1 : Int32)) x4 y14 else L_X10_win_16 N o_s p1 n16 (x4 + (1 : Int32)) x5 y14) else ob (f_X10_bits N x4) (fun r25 => ob (f_X10_bits N x5) (fun r27 => if r27 ≤ r25 then L_X10_win_16 N o_s p1 n16 (x4 + (1 : Int32)) x5 y6 else if p1 = 0 then ob (f_X10_doesCarryWith N o_s y6 x4 (9 : Int32)) (fun (r37, y38) => if p1 = 0 then if r37 = (1 : Int32) then L_X10_win_16 N o_s p1 n16 (x4 + (1 : Int32)) x4 y38 else L_X10_win_16 N o_s p1 n16 (x4 + (1 : Int32)) x5 y38 else if r37 = (0 : Int32) then L_X10_win_16 N o_s p1 n16 (x4 + (1 : Int32)) x4 y38 else L_X10_win_16 N o_s p1 n16 (x4 + (1 : Int32)) x5 y38) else ob (f_X10_doesCarryWith N o_s y6 x4 (-9 : Int32)) (fun (r31, y32) => if p1 = 0 then if r31 = (1 : Int32) then L_X10_win_16 N o_s p1 n16 (x4 + (1 : Int32)) x4 y32 else L_X10_win_16 N o_s p1 n16 (x4 + (1 : Int32)) x5 y32 else if r31 = (0 : Int32) then L_X10_win_16 N o_s p1 n16 (x4 + (1 : Int32)) x4 y32 else L_X10_win_16 N o_s p1 n16 (x4 + (1 : Int32)) x5 y32))))
def f_X10_win (N : Nat) (o_s : Nat → Int32) (o_m : Nat → Int32) (p1 : Int32) : Option (Int32 × (Nat → Int32)) := ob (f_X10_isIn p1 (0 : Int32) (1 : Int32)) (fun r1 => if r1 = 0 then nm (-1 : Int32) (fun z43 => some (z43, o_m)) else L_X10_win_16 N o_s p1 N (0 : Int32) (-4 : Int32) o_m)
set_option maxHeartbeats 4000000 in
set_option maxRecDepth 100000 in
theorem c_X10_win (l : Launch) (E : EE) (o_h : Nat) (o_a0 : Nat) (o_a1 : Nat) (o_a2 : Nat) (o_a3 : Nat) (o_a8 : Nat) (o_a9 : Nat) (o_a11 : Nat) (o_a12 : Nat) (o_a13 : Nat) (o_a14 : Nat) (o_a15 : Nat) (o_a16 : Nat) (o_s : Nat → Int32) (o_m : Nat → Int32) (o_image : Nat → Int32) (o_was : Nat → Int32) (o_hasImage : Int32) (o_place : Int32) (o_rowAt : Int32) (o_rowEnd : Int32) (o_numbers : Nat → Int32) (o_most : Nat → Int32) (o_seed : Int32) (o_kept : Nat → Int32) (o_keptKind : Nat → Int32) (o_keptFigure : Nat → Int32) (o_sort : Nat → Int32) (o_size : Nat → Int32) (o_element : Nat → Int32) (o_thrown : Int32) (p1 : Int32) (N : Nat) (res : Int32) (w_o_m : Nat → Int32) (hv : f_X10_win N o_s o_m p1 = some (res, w_o_m)) : Wr l E yX10_win cX10_win 4 (some .int) ({ frames := 7, cells := 0, slots := 0, locals := 151 }) [.ref o_h, .int p1] [oMo o_h o_a0 o_a1 o_a2 o_a3 o_hasImage o_place o_rowAt o_rowEnd o_a8 o_a9 o_seed o_a11 o_a12 o_a13 o_a14 o_a15 o_a16 o_thrown, ai E o_a0 42 o_s, ai E o_a1 42 o_m, ai E o_a2 42 o_image, ai E o_a3 42 o_was, ai E o_a8 3 o_numbers, ai E o_a9 8192 o_most, ai E o_a11 8 o_kept, ai E o_a12 8 o_keptKind, ai E o_a13 8 o_keptFigure, ai E o_a14 8 o_sort, ai E o_a15 8 o_size, ai E o_a16 800 o_element] [oMo o_h o_a0 o_a1 o_a2 o_a3 o_hasImage o_place o_rowAt o_rowEnd o_a8 o_a9 o_seed o_a11 o_a12 o_a13 o_a14 o_a15 o_a16 o_thrown, ai E o_a0 42 o_s, ai E o_a1 42 w_o_m, ai E o_a2 42 o_image, ai E o_a3 42 o_was, ai E o_a8 3 o_numbers, ai E o_a9 8192 o_most, ai E o_a11 8 o_kept, ai E o_a12 8 o_keptKind, ai E o_a13 8 o_keptFigure, ai E o_a14 8 o_sort, ai E o_a15 8 o_size, ai E o_a16 800 o_element] (some (.int res)) := by
  refine Wr.intro RX10 (by decide) rfl (Nat.le_of_ble_eq_true rfl) ?_
  intro p e s m below meth c ls A hC hr hlk hmn hP hD hS hA hG hl
  obtain ⟨hx, hb, hml, hown, ht⟩ := id hC
  have hK := hG.1
  have hl : lv_has ls 4 [(0, .ref o_h), (1, .int p1)] := hl
  rw [f_X10_win] at hv
  refine lv_iload_n hx hb dX10_win_0 rfl (lv_at hl 1 rfl) ?_
  refine lv_iconst (v := (0 : Int32)) hx hb dX10_win_1 (by decide) ?_
  refine lv_iconst (v := (1 : Int32)) hx hb dX10_win_2 (by decide) ?_
  obtain ⟨r1, h2, hv⟩ := ob_s hv
  refine rdS (rest := []) (st1 := [.int r1]) (w := []) hC q_X10_isIn kw_4_200 (c_X10_isIn l E p1 (0 : Int32) (1 : Int32) r1 h2) ⟨rfl, rfl⟩ ⟨Nat.le_of_ble_eq_true rfl, Nat.le_of_ble_eq_true rfl⟩ ⟨Nat.zero_le _, Nat.zero_le _⟩ (hP.sub (ws' := []) [] rfl) hG rfl hl.1 rfl (Nat.le_of_ble_eq_true rfl) dX10_win_3 rfl ?_
  refine lv_if_ne (tgt := 11) hx hb dX10_win_6 (by decide) (fun c3 => ?_) (fun c3 => ?_)
  · have hv := if_n c3 hv
    refine lv_bipush (v := (-4 : Int32)) hx hb dX10_win_11 (by decide) ?_
    refine lv_istore_n (lv' := [(2, .int (-4 : Int32)), (0, .ref o_h), (1, .int p1)]) hx hb dX10_win_13 rfl hl (by decide) rfl (fun ls hl => ?_)
    refine lv_iconst (v := (0 : Int32)) hx hb dX10_win_14 (by decide) ?_
    refine lv_istore_n (lv' := [(3, .int (0 : Int32)), (2, .int (-4 : Int32)), (0, .ref o_h), (1, .int p1)]) hx hb dX10_win_15 rfl hl (by decide) rfl (fun ls hl => ?_)
    have hL16 : ∀ (n : Nat) (x4 : Int32) (x5 : Int32) (y6 : Nat → Int32) (H : Heap) (locs : List Loc) (ls : Array Slot), va_P E.1 vwCl [oMo o_h o_a0 o_a1 o_a2 o_a3 o_hasImage o_place o_rowAt o_rowEnd o_a8 o_a9 o_seed o_a11 o_a12 o_a13 o_a14 o_a15 o_a16 o_thrown, ai E o_a0 42 o_s, ai E o_a1 42 y6, ai E o_a2 42 o_image, ai E o_a3 42 o_was, ai E o_a8 3 o_numbers, ai E o_a9 8192 o_most, ai E o_a11 8 o_kept, ai E o_a12 8 o_keptKind, ai E o_a13 8 o_keptFigure, ai E o_a14 8 o_sort, ai E o_a15 8 o_size, ai E o_a16 800 o_element] H → va_D A [oMo o_h o_a0 o_a1 o_a2 o_a3 o_hasImage o_place o_rowAt o_rowEnd o_a8 o_a9 o_seed o_a11 o_a12 o_a13 o_a14 o_a15 o_a16 o_thrown, ai E o_a0 42 o_s, ai E o_a1 42 y6, ai E o_a2 42 o_image, ai E o_a3 42 o_was, ai E o_a8 3 o_numbers, ai E o_a9 8192 o_most, ai E o_a11 8 o_kept, ai E o_a12 8 o_keptKind, ai E o_a13 8 o_keptFigure, ai E o_a14 8 o_sort, ai E o_a15 8 o_size, ai E o_a16 800 o_element] → va_S A s.heap H locs → lv_has ls 4 [(3, .int x4), (2, .int x5), (0, .ref o_h), (1, .int p1)] → L_X10_win_16 N o_s p1 n x4 x5 y6 = some (res, w_o_m) → W p l e ({ frames := 7, cells := 0, slots := 0, locals := 151 }) s m [.ref o_h, .int p1].toArray below meth c H locs 0 0 (MQ below (fun _ st oc t => oc = .returned (some (.int res)) ∧ va_P E.1 vwCl [oMo o_h o_a0 o_a1 o_a2 o_a3 o_hasImage o_place o_rowAt o_rowEnd o_a8 o_a9 o_seed o_a11 o_a12 o_a13 o_a14 o_a15 o_a16 o_thrown, ai E o_a0 42 o_s, ai E o_a1 42 w_o_m, ai E o_a2 42 o_image, ai E o_a3 42 o_was, ai E o_a8 3 o_numbers, ai E o_a9 8192 o_most, ai E o_a11 8 o_kept, ai E o_a12 8 o_keptKind, ai E o_a13 8 o_keptFigure, ai E o_a14 8 o_sort, ai E o_a15 8 o_size, ai E o_a16 800 o_element] t.heap ∧ va_F A st t) [.ref o_h, .int p1].toArray s 0 0 A) (F0 m 16 ls []) := by
      intro n
      induction n with
      | zero => intro x4 x5 y6 H locs ls hP hD hS hl hv; cases hv
      | succ n16 ih16 =>
        intro x4 x5 y6 H locs ls hP hD hS hl hv
        rw [L_X10_win_16] at hv
        refine lv_iload_n hx hb dX10_win_16 rfl (lv_at hl 0 rfl) ?_
        refine lv_iconst (v := (1 : Int32)) hx hb dX10_win_17 (by decide) ?_
        refine lv_aload_n hx hb dX10_win_18 rfl (lv_at hl 2 rfl) ?_
        refine va_get (D := E.1) (ci := 4) (v := .ref o_a0) (C := RX10) (T := TX10) (N := 18) hx hb ht i_X10 hown hK hP 0 rfl rfl 0 (by decide) (ht _ kw_4_134) (fun _ h9 => h9) rfl dX10_win_19 ?_
        refine lv_iconst (v := (0 : Int32)) hx hb dX10_win_22 (by decide) ?_
        refine va_iald hx hb hK hP 1 0 rfl rfl (ix_s (by decide)) dX10_win_23 ?_
        refine W.eq (g2 := F0 m 24 ls [.int (o_s 0), .int (1 : Int32), .int x4]) rfl ?_
        refine lv_ishl hx hb dX10_win_24 ?_
        refine lv_icmp_ge (tgt := 87) hx hb dX10_win_25 (by decide) (fun c7 => ?_) (fun c7 => ?_)
        · have hv := if_y c7 hv
          refine lv_iload_n hx hb dX10_win_87 rfl (lv_at hl 1 rfl) ?_
          cases hv
          exact W.iret hx hb hr (fun t h9 _ => ⟨rfl, by rw [h9]; exact hP, hS.F h9⟩) hS.2.2 dX10_win_88 hlk
        · have hv := if_n c7 hv
          refine lv_aload_n hx hb dX10_win_28 rfl (lv_at hl 2 rfl) ?_
          refine lv_iload_n hx hb dX10_win_29 rfl (lv_at hl 0 rfl) ?_
          obtain ⟨r8, h9, hv⟩ := ob_s hv
          refine rdV 4 0 (As := [.int x4]) (rest := []) (st1 := [.int r8]) (w := [oMo o_h o_a0 o_a1 o_a2 o_a3 o_hasImage o_place o_rowAt o_rowEnd o_a8 o_a9 o_seed o_a11 o_a12 o_a13 o_a14 o_a15 o_a16 o_thrown, ai E o_a0 42 o_s, ai E o_a1 42 y6, ai E o_a2 42 o_image, ai E o_a3 42 o_was, ai E o_a8 3 o_numbers, ai E o_a9 8192 o_most, ai E o_a11 8 o_kept, ai E o_a12 8 o_keptKind, ai E o_a13 8 o_keptFigure, ai E o_a14 8 o_sort, ai E o_a15 8 o_size, ai E o_a16 800 o_element]) hC q_X10_isOfHeard kw_5_152 (c_X10_isOfHeard l E o_h o_a0 o_a1 o_a2 o_a3 o_a8 o_a9 o_a11 o_a12 o_a13 o_a14 o_a15 o_a16 o_s y6 o_image o_was o_hasImage o_place o_rowAt o_rowEnd o_numbers o_most o_seed o_kept o_keptKind o_keptFigure o_sort o_size o_element o_thrown x4 N r8 h9) ⟨rfl, rfl⟩ ⟨Nat.le_of_ble_eq_true rfl, Nat.le_of_ble_eq_true rfl⟩ ⟨Nat.zero_le _, Nat.zero_le _⟩ hP rfl rfl rfl hG rfl hl.1 rfl (Nat.le_of_ble_eq_true rfl) dX10_win_30 rfl ?_
          refine lv_if_eq (tgt := 81) hx hb dX10_win_33 (by decide) (fun c10 => ?_) (fun c10 => ?_)
          · have hv := if_y c10 hv
            refine lv_iinc (v := (x4 + (1 : Int32))) (lv' := [(3, .int (x4 + (1 : Int32))), (2, .int x5), (0, .ref o_h), (1, .int p1)]) hx hb dX10_win_81 hl (k := 0) rfl rfl (by decide) rfl (fun ls hl => ?_)
            refine lv_goto (tgt := 16) hx hb dX10_win_84 (by decide) ?_
            exact ih16 (x4 + (1 : Int32)) x5 y6 _ _ _ hP hD hS (lv_sub hl [0, 1, 2, 3] rfl) hv
          · have hv := if_n c10 hv
            refine lv_iload_n hx hb dX10_win_36 rfl (lv_at hl 1 rfl) ?_
            refine lv_if_lt (tgt := 51) hx hb dX10_win_37 (by decide) (fun c11 => ?_) (fun c11 => ?_)
            · have hv := if_y c11 hv
              refine lv_aload_n hx hb dX10_win_51 rfl (lv_at hl 2 rfl) ?_
              refine lv_iload_n hx hb dX10_win_52 rfl (lv_at hl 0 rfl) ?_
              refine lv_iload_n hx hb dX10_win_53 rfl (lv_at hl 3 rfl) ?_
              refine lv_if_ne (tgt := 62) hx hb dX10_win_54 (by decide) (fun c12 => ?_) (fun c12 => ?_)
              · have hv := if_n c12 hv
                refine lv_bipush (v := (-9 : Int32)) hx hb dX10_win_62 (by decide) ?_
                obtain ⟨⟨r13, y14⟩, h15, hv⟩ := ob_s hv
                refine wrV (as := [o_h, o_a0, o_a1, o_a2, o_a3, o_a8, o_a9, o_a11, o_a12, o_a13, o_a14, o_a15, o_a16]) (wr := []) [0, 1, 2, 3, 4, 5, 6, 7, 8, 9, 10, 11, 12] [] 4 0 (ws := [oMo o_h o_a0 o_a1 o_a2 o_a3 o_hasImage o_place o_rowAt o_rowEnd o_a8 o_a9 o_seed o_a11 o_a12 o_a13 o_a14 o_a15 o_a16 o_thrown, ai E o_a0 42 o_s, ai E o_a1 42 y6, ai E o_a2 42 o_image, ai E o_a3 42 o_was, ai E o_a8 3 o_numbers, ai E o_a9 8192 o_most, ai E o_a11 8 o_kept, ai E o_a12 8 o_keptKind, ai E o_a13 8 o_keptFigure, ai E o_a14 8 o_sort, ai E o_a15 8 o_size, ai E o_a16 800 o_element]) (ws' := [oMo o_h o_a0 o_a1 o_a2 o_a3 o_hasImage o_place o_rowAt o_rowEnd o_a8 o_a9 o_seed o_a11 o_a12 o_a13 o_a14 o_a15 o_a16 o_thrown, ai E o_a0 42 o_s, ai E o_a1 42 y14, ai E o_a2 42 o_image, ai E o_a3 42 o_was, ai E o_a8 3 o_numbers, ai E o_a9 8192 o_most, ai E o_a11 8 o_kept, ai E o_a12 8 o_keptKind, ai E o_a13 8 o_keptFigure, ai E o_a14 8 o_sort, ai E o_a15 8 o_size, ai E o_a16 800 o_element]) (As := [.int x4, .int (-9 : Int32)]) (rest := []) (st1 := [.int r13]) hC q_X10_doesCarryWith kw_5_197 (c_X10_doesCarryWith l E o_h o_a0 o_a1 o_a2 o_a3 o_a8 o_a9 o_a11 o_a12 o_a13 o_a14 o_a15 o_a16 o_s y6 o_image o_was o_hasImage o_place o_rowAt o_rowEnd o_numbers o_most o_seed o_kept o_keptKind o_keptFigure o_sort o_size o_element o_thrown x4 (-9 : Int32) N r13 y14 h15) ⟨rfl, rfl⟩ ⟨Nat.le_of_ble_eq_true rfl, Nat.le_of_ble_eq_true rfl⟩ ⟨Nat.zero_le _, Nat.zero_le _⟩ hP hD hS hA rfl rfl rfl hG (by decide) rfl rfl rfl rfl rfl rfl rfl rfl hl.1 rfl (Nat.le_of_ble_eq_true rfl) dX10_win_64 rfl (fun H locs hP hD hS => ?_)
                refine lv_iload_n hx hb dX10_win_67 rfl (lv_at hl 3 rfl) ?_
                refine lv_if_ne (tgt := 75) hx hb dX10_win_68 (by decide) (fun c16 => ?_) (fun c16 => ?_)
                · have hv := if_n c16 hv
                  refine lv_iconst (v := (0 : Int32)) hx hb dX10_win_75 (by decide) ?_
                  refine lv_icmp_ne (tgt := 81) hx hb dX10_win_76 (by decide) (fun c17 => ?_) (fun c17 => ?_)
                  · have hv := if_n c17 hv
                    refine lv_iinc (v := (x4 + (1 : Int32))) (lv' := [(3, .int (x4 + (1 : Int32))), (2, .int x5), (0, .ref o_h), (1, .int p1)]) hx hb dX10_win_81 hl (k := 0) rfl rfl (by decide) rfl (fun ls hl => ?_)
                    refine lv_goto (tgt := 16) hx hb dX10_win_84 (by decide) ?_
                    exact ih16 (x4 + (1 : Int32)) x5 y14 _ _ _ hP hD hS (lv_sub hl [0, 1, 2, 3] rfl) hv
                  · have hv := if_y c17 hv
                    refine lv_iload_n hx hb dX10_win_79 rfl (lv_at hl 0 rfl) ?_
                    refine lv_istore_n (lv' := [(2, .int x4), (3, .int x4), (0, .ref o_h), (1, .int p1)]) hx hb dX10_win_80 rfl hl (by decide) rfl (fun ls hl => ?_)
                    refine lv_iinc (v := (x4 + (1 : Int32))) (lv' := [(3, .int (x4 + (1 : Int32))), (2, .int x4), (0, .ref o_h), (1, .int p1)]) hx hb dX10_win_81 hl (k := 1) rfl rfl (by decide) rfl (fun ls hl => ?_)
                    refine lv_goto (tgt := 16) hx hb dX10_win_84 (by decide) ?_
                    exact ih16 (x4 + (1 : Int32)) x4 y14 _ _ _ hP hD hS (lv_sub hl [0, 1, 2, 3] rfl) hv
                · have hv := if_y c16 hv
                  refine lv_iconst (v := (1 : Int32)) hx hb dX10_win_71 (by decide) ?_
                  refine lv_goto (tgt := 76) hx hb dX10_win_72 (by decide) ?_
                  refine lv_icmp_ne (tgt := 81) hx hb dX10_win_76 (by decide) (fun c18 => ?_) (fun c18 => ?_)
                  · have hv := if_n c18 hv
                    refine lv_iinc (v := (x4 + (1 : Int32))) (lv' := [(3, .int (x4 + (1 : Int32))), (2, .int x5), (0, .ref o_h), (1, .int p1)]) hx hb dX10_win_81 hl (k := 0) rfl rfl (by decide) rfl (fun ls hl => ?_)
                    refine lv_goto (tgt := 16) hx hb dX10_win_84 (by decide) ?_
                    exact ih16 (x4 + (1 : Int32)) x5 y14 _ _ _ hP hD hS (lv_sub hl [0, 1, 2, 3] rfl) hv
                  · have hv := if_y c18 hv
                    refine lv_iload_n hx hb dX10_win_79 rfl (lv_at hl 0 rfl) ?_
                    refine lv_istore_n (lv' := [(2, .int x4), (3, .int x4), (0, .ref o_h), (1, .int p1)]) hx hb dX10_win_80 rfl hl (by decide) rfl (fun ls hl => ?_)
                    refine lv_iinc (v := (x4 + (1 : Int32))) (lv' := [(3, .int (x4 + (1 : Int32))), (2, .int x4), (0, .ref o_h), (1, .int p1)]) hx hb dX10_win_81 hl (k := 1) rfl rfl (by decide) rfl (fun ls hl => ?_)
                    refine lv_goto (tgt := 16) hx hb dX10_win_84 (by decide) ?_
                    exact ih16 (x4 + (1 : Int32)) x4 y14 _ _ _ hP hD hS (lv_sub hl [0, 1, 2, 3] rfl) hv
              · have hv := if_y c12 hv
                refine lv_bipush (v := (9 : Int32)) hx hb dX10_win_57 (by decide) ?_
                refine lv_goto (tgt := 64) hx hb dX10_win_59 (by decide) ?_
                obtain ⟨⟨r19, y20⟩, h21, hv⟩ := ob_s hv
                refine wrV (as := [o_h, o_a0, o_a1, o_a2, o_a3, o_a8, o_a9, o_a11, o_a12, o_a13, o_a14, o_a15, o_a16]) (wr := []) [0, 1, 2, 3, 4, 5, 6, 7, 8, 9, 10, 11, 12] [] 4 0 (ws := [oMo o_h o_a0 o_a1 o_a2 o_a3 o_hasImage o_place o_rowAt o_rowEnd o_a8 o_a9 o_seed o_a11 o_a12 o_a13 o_a14 o_a15 o_a16 o_thrown, ai E o_a0 42 o_s, ai E o_a1 42 y6, ai E o_a2 42 o_image, ai E o_a3 42 o_was, ai E o_a8 3 o_numbers, ai E o_a9 8192 o_most, ai E o_a11 8 o_kept, ai E o_a12 8 o_keptKind, ai E o_a13 8 o_keptFigure, ai E o_a14 8 o_sort, ai E o_a15 8 o_size, ai E o_a16 800 o_element]) (ws' := [oMo o_h o_a0 o_a1 o_a2 o_a3 o_hasImage o_place o_rowAt o_rowEnd o_a8 o_a9 o_seed o_a11 o_a12 o_a13 o_a14 o_a15 o_a16 o_thrown, ai E o_a0 42 o_s, ai E o_a1 42 y20, ai E o_a2 42 o_image, ai E o_a3 42 o_was, ai E o_a8 3 o_numbers, ai E o_a9 8192 o_most, ai E o_a11 8 o_kept, ai E o_a12 8 o_keptKind, ai E o_a13 8 o_keptFigure, ai E o_a14 8 o_sort, ai E o_a15 8 o_size, ai E o_a16 800 o_element]) (As := [.int x4, .int (9 : Int32)]) (rest := []) (st1 := [.int r19]) hC q_X10_doesCarryWith kw_5_197 (c_X10_doesCarryWith l E o_h o_a0 o_a1 o_a2 o_a3 o_a8 o_a9 o_a11 o_a12 o_a13 o_a14 o_a15 o_a16 o_s y6 o_image o_was o_hasImage o_place o_rowAt o_rowEnd o_numbers o_most o_seed o_kept o_keptKind o_keptFigure o_sort o_size o_element o_thrown x4 (9 : Int32) N r19 y20 h21) ⟨rfl, rfl⟩ ⟨Nat.le_of_ble_eq_true rfl, Nat.le_of_ble_eq_true rfl⟩ ⟨Nat.zero_le _, Nat.zero_le _⟩ hP hD hS hA rfl rfl rfl hG (by decide) rfl rfl rfl rfl rfl rfl rfl rfl hl.1 rfl (Nat.le_of_ble_eq_true rfl) dX10_win_64 rfl (fun H locs hP hD hS => ?_)
                refine lv_iload_n hx hb dX10_win_67 rfl (lv_at hl 3 rfl) ?_
                refine lv_if_ne (tgt := 75) hx hb dX10_win_68 (by decide) (fun c22 => ?_) (fun c22 => ?_)
                · have hv := if_n c22 hv
                  refine lv_iconst (v := (0 : Int32)) hx hb dX10_win_75 (by decide) ?_
                  refine lv_icmp_ne (tgt := 81) hx hb dX10_win_76 (by decide) (fun c23 => ?_) (fun c23 => ?_)
                  · have hv := if_n c23 hv
                    refine lv_iinc (v := (x4 + (1 : Int32))) (lv' := [(3, .int (x4 + (1 : Int32))), (2, .int x5), (0, .ref o_h), (1, .int p1)]) hx hb dX10_win_81 hl (k := 0) rfl rfl (by decide) rfl (fun ls hl => ?_)
                    refine lv_goto (tgt := 16) hx hb dX10_win_84 (by decide) ?_
                    exact ih16 (x4 + (1 : Int32)) x5 y20 _ _ _ hP hD hS (lv_sub hl [0, 1, 2, 3] rfl) hv
                  · have hv := if_y c23 hv
                    refine lv_iload_n hx hb dX10_win_79 rfl (lv_at hl 0 rfl) ?_
                    refine lv_istore_n (lv' := [(2, .int x4), (3, .int x4), (0, .ref o_h), (1, .int p1)]) hx hb dX10_win_80 rfl hl (by decide) rfl (fun ls hl => ?_)
                    refine lv_iinc (v := (x4 + (1 : Int32))) (lv' := [(3, .int (x4 + (1 : Int32))), (2, .int x4), (0, .ref o_h), (1, .int p1)]) hx hb dX10_win_81 hl (k := 1) rfl rfl (by decide) rfl (fun ls hl => ?_)
                    refine lv_goto (tgt := 16) hx hb dX10_win_84 (by decide) ?_
                    exact ih16 (x4 + (1 : Int32)) x4 y20 _ _ _ hP hD hS (lv_sub hl [0, 1, 2, 3] rfl) hv
                · have hv := if_y c22 hv
                  refine lv_iconst (v := (1 : Int32)) hx hb dX10_win_71 (by decide) ?_
                  refine lv_goto (tgt := 76) hx hb dX10_win_72 (by decide) ?_
                  refine lv_icmp_ne (tgt := 81) hx hb dX10_win_76 (by decide) (fun c24 => ?_) (fun c24 => ?_)
                  · have hv := if_n c24 hv
                    refine lv_iinc (v := (x4 + (1 : Int32))) (lv' := [(3, .int (x4 + (1 : Int32))), (2, .int x5), (0, .ref o_h), (1, .int p1)]) hx hb dX10_win_81 hl (k := 0) rfl rfl (by decide) rfl (fun ls hl => ?_)
                    refine lv_goto (tgt := 16) hx hb dX10_win_84 (by decide) ?_
                    exact ih16 (x4 + (1 : Int32)) x5 y20 _ _ _ hP hD hS (lv_sub hl [0, 1, 2, 3] rfl) hv
                  · have hv := if_y c24 hv
                    refine lv_iload_n hx hb dX10_win_79 rfl (lv_at hl 0 rfl) ?_
                    refine lv_istore_n (lv' := [(2, .int x4), (3, .int x4), (0, .ref o_h), (1, .int p1)]) hx hb dX10_win_80 rfl hl (by decide) rfl (fun ls hl => ?_)
                    refine lv_iinc (v := (x4 + (1 : Int32))) (lv' := [(3, .int (x4 + (1 : Int32))), (2, .int x4), (0, .ref o_h), (1, .int p1)]) hx hb dX10_win_81 hl (k := 1) rfl rfl (by decide) rfl (fun ls hl => ?_)
                    refine lv_goto (tgt := 16) hx hb dX10_win_84 (by decide) ?_
                    exact ih16 (x4 + (1 : Int32)) x4 y20 _ _ _ hP hD hS (lv_sub hl [0, 1, 2, 3] rfl) hv
            · have hv := if_n c11 hv
              refine lv_iload_n hx hb dX10_win_40 rfl (lv_at hl 0 rfl) ?_
              obtain ⟨r25, h26, hv⟩ := ob_s hv
              refine rdS (rest := []) (st1 := [.int r25]) (w := []) hC q_X10_bits kw_5_149 (c_X10_bits l E x4 N r25 h26) ⟨rfl, rfl⟩ ⟨Nat.le_of_ble_eq_true rfl, Nat.le_of_ble_eq_true rfl⟩ ⟨Nat.zero_le _, Nat.zero_le _⟩ (hP.sub (ws' := []) [] rfl) hG rfl hl.1 rfl (Nat.le_of_ble_eq_true rfl) dX10_win_41 rfl ?_
              refine lv_iload_n hx hb dX10_win_44 rfl (lv_at hl 1 rfl) ?_
              obtain ⟨r27, h28, hv⟩ := ob_s hv
              refine rdS (rest := [.int r25]) (st1 := [.int r27, .int r25]) (w := []) hC q_X10_bits kw_5_149 (c_X10_bits l E x5 N r27 h28) ⟨rfl, rfl⟩ ⟨Nat.le_of_ble_eq_true rfl, Nat.le_of_ble_eq_true rfl⟩ ⟨Nat.zero_le _, Nat.zero_le _⟩ (hP.sub (ws' := []) [] rfl) hG rfl hl.1 rfl (Nat.le_of_ble_eq_true rfl) dX10_win_45 rfl ?_
              refine lv_icmp_ge (tgt := 81) hx hb dX10_win_48 (by decide) (fun c29 => ?_) (fun c29 => ?_)
              · have hv := if_y c29 hv
                refine lv_iinc (v := (x4 + (1 : Int32))) (lv' := [(3, .int (x4 + (1 : Int32))), (2, .int x5), (0, .ref o_h), (1, .int p1)]) hx hb dX10_win_81 hl (k := 0) rfl rfl (by decide) rfl (fun ls hl => ?_)
                refine lv_goto (tgt := 16) hx hb dX10_win_84 (by decide) ?_
                exact ih16 (x4 + (1 : Int32)) x5 y6 _ _ _ hP hD hS (lv_sub hl [0, 1, 2, 3] rfl) hv
              · have hv := if_n c29 hv
                refine lv_aload_n hx hb dX10_win_51 rfl (lv_at hl 2 rfl) ?_
                refine lv_iload_n hx hb dX10_win_52 rfl (lv_at hl 0 rfl) ?_
                refine lv_iload_n hx hb dX10_win_53 rfl (lv_at hl 3 rfl) ?_
                refine lv_if_ne (tgt := 62) hx hb dX10_win_54 (by decide) (fun c30 => ?_) (fun c30 => ?_)
                · have hv := if_n c30 hv
                  refine lv_bipush (v := (-9 : Int32)) hx hb dX10_win_62 (by decide) ?_
                  obtain ⟨⟨r31, y32⟩, h33, hv⟩ := ob_s hv
                  refine wrV (as := [o_h, o_a0, o_a1, o_a2, o_a3, o_a8, o_a9, o_a11, o_a12, o_a13, o_a14, o_a15, o_a16]) (wr := []) [0, 1, 2, 3, 4, 5, 6, 7, 8, 9, 10, 11, 12] [] 4 0 (ws := [oMo o_h o_a0 o_a1 o_a2 o_a3 o_hasImage o_place o_rowAt o_rowEnd o_a8 o_a9 o_seed o_a11 o_a12 o_a13 o_a14 o_a15 o_a16 o_thrown, ai E o_a0 42 o_s, ai E o_a1 42 y6, ai E o_a2 42 o_image, ai E o_a3 42 o_was, ai E o_a8 3 o_numbers, ai E o_a9 8192 o_most, ai E o_a11 8 o_kept, ai E o_a12 8 o_keptKind, ai E o_a13 8 o_keptFigure, ai E o_a14 8 o_sort, ai E o_a15 8 o_size, ai E o_a16 800 o_element]) (ws' := [oMo o_h o_a0 o_a1 o_a2 o_a3 o_hasImage o_place o_rowAt o_rowEnd o_a8 o_a9 o_seed o_a11 o_a12 o_a13 o_a14 o_a15 o_a16 o_thrown, ai E o_a0 42 o_s, ai E o_a1 42 y32, ai E o_a2 42 o_image, ai E o_a3 42 o_was, ai E o_a8 3 o_numbers, ai E o_a9 8192 o_most, ai E o_a11 8 o_kept, ai E o_a12 8 o_keptKind, ai E o_a13 8 o_keptFigure, ai E o_a14 8 o_sort, ai E o_a15 8 o_size, ai E o_a16 800 o_element]) (As := [.int x4, .int (-9 : Int32)]) (rest := []) (st1 := [.int r31]) hC q_X10_doesCarryWith kw_5_197 (c_X10_doesCarryWith l E o_h o_a0 o_a1 o_a2 o_a3 o_a8 o_a9 o_a11 o_a12 o_a13 o_a14 o_a15 o_a16 o_s y6 o_image o_was o_hasImage o_place o_rowAt o_rowEnd o_numbers o_most o_seed o_kept o_keptKind o_keptFigure o_sort o_size o_element o_thrown x4 (-9 : Int32) N r31 y32 h33) ⟨rfl, rfl⟩ ⟨Nat.le_of_ble_eq_true rfl, Nat.le_of_ble_eq_true rfl⟩ ⟨Nat.zero_le _, Nat.zero_le _⟩ hP hD hS hA rfl rfl rfl hG (by decide) rfl rfl rfl rfl rfl rfl rfl rfl hl.1 rfl (Nat.le_of_ble_eq_true rfl) dX10_win_64 rfl (fun H locs hP hD hS => ?_)
                  refine lv_iload_n hx hb dX10_win_67 rfl (lv_at hl 3 rfl) ?_
                  refine lv_if_ne (tgt := 75) hx hb dX10_win_68 (by decide) (fun c34 => ?_) (fun c34 => ?_)
                  · have hv := if_n c34 hv
                    refine lv_iconst (v := (0 : Int32)) hx hb dX10_win_75 (by decide) ?_
                    refine lv_icmp_ne (tgt := 81) hx hb dX10_win_76 (by decide) (fun c35 => ?_) (fun c35 => ?_)
                    · have hv := if_n c35 hv
                      refine lv_iinc (v := (x4 + (1 : Int32))) (lv' := [(3, .int (x4 + (1 : Int32))), (2, .int x5), (0, .ref o_h), (1, .int p1)]) hx hb dX10_win_81 hl (k := 0) rfl rfl (by decide) rfl (fun ls hl => ?_)
                      refine lv_goto (tgt := 16) hx hb dX10_win_84 (by decide) ?_
                      exact ih16 (x4 + (1 : Int32)) x5 y32 _ _ _ hP hD hS (lv_sub hl [0, 1, 2, 3] rfl) hv
                    · have hv := if_y c35 hv
                      refine lv_iload_n hx hb dX10_win_79 rfl (lv_at hl 0 rfl) ?_
                      refine lv_istore_n (lv' := [(2, .int x4), (3, .int x4), (0, .ref o_h), (1, .int p1)]) hx hb dX10_win_80 rfl hl (by decide) rfl (fun ls hl => ?_)
                      refine lv_iinc (v := (x4 + (1 : Int32))) (lv' := [(3, .int (x4 + (1 : Int32))), (2, .int x4), (0, .ref o_h), (1, .int p1)]) hx hb dX10_win_81 hl (k := 1) rfl rfl (by decide) rfl (fun ls hl => ?_)
                      refine lv_goto (tgt := 16) hx hb dX10_win_84 (by decide) ?_
                      exact ih16 (x4 + (1 : Int32)) x4 y32 _ _ _ hP hD hS (lv_sub hl [0, 1, 2, 3] rfl) hv
                  · have hv := if_y c34 hv
                    refine lv_iconst (v := (1 : Int32)) hx hb dX10_win_71 (by decide) ?_
                    refine lv_goto (tgt := 76) hx hb dX10_win_72 (by decide) ?_
                    refine lv_icmp_ne (tgt := 81) hx hb dX10_win_76 (by decide) (fun c36 => ?_) (fun c36 => ?_)
                    · have hv := if_n c36 hv
                      refine lv_iinc (v := (x4 + (1 : Int32))) (lv' := [(3, .int (x4 + (1 : Int32))), (2, .int x5), (0, .ref o_h), (1, .int p1)]) hx hb dX10_win_81 hl (k := 0) rfl rfl (by decide) rfl (fun ls hl => ?_)
                      refine lv_goto (tgt := 16) hx hb dX10_win_84 (by decide) ?_
                      exact ih16 (x4 + (1 : Int32)) x5 y32 _ _ _ hP hD hS (lv_sub hl [0, 1, 2, 3] rfl) hv
                    · have hv := if_y c36 hv
                      refine lv_iload_n hx hb dX10_win_79 rfl (lv_at hl 0 rfl) ?_
                      refine lv_istore_n (lv' := [(2, .int x4), (3, .int x4), (0, .ref o_h), (1, .int p1)]) hx hb dX10_win_80 rfl hl (by decide) rfl (fun ls hl => ?_)
                      refine lv_iinc (v := (x4 + (1 : Int32))) (lv' := [(3, .int (x4 + (1 : Int32))), (2, .int x4), (0, .ref o_h), (1, .int p1)]) hx hb dX10_win_81 hl (k := 1) rfl rfl (by decide) rfl (fun ls hl => ?_)
                      refine lv_goto (tgt := 16) hx hb dX10_win_84 (by decide) ?_
                      exact ih16 (x4 + (1 : Int32)) x4 y32 _ _ _ hP hD hS (lv_sub hl [0, 1, 2, 3] rfl) hv
                · have hv := if_y c30 hv
                  refine lv_bipush (v := (9 : Int32)) hx hb dX10_win_57 (by decide) ?_
                  refine lv_goto (tgt := 64) hx hb dX10_win_59 (by decide) ?_
                  obtain ⟨⟨r37, y38⟩, h39, hv⟩ := ob_s hv
                  refine wrV (as := [o_h, o_a0, o_a1, o_a2, o_a3, o_a8, o_a9, o_a11, o_a12, o_a13, o_a14, o_a15, o_a16]) (wr := []) [0, 1, 2, 3, 4, 5, 6, 7, 8, 9, 10, 11, 12] [] 4 0 (ws := [oMo o_h o_a0 o_a1 o_a2 o_a3 o_hasImage o_place o_rowAt o_rowEnd o_a8 o_a9 o_seed o_a11 o_a12 o_a13 o_a14 o_a15 o_a16 o_thrown, ai E o_a0 42 o_s, ai E o_a1 42 y6, ai E o_a2 42 o_image, ai E o_a3 42 o_was, ai E o_a8 3 o_numbers, ai E o_a9 8192 o_most, ai E o_a11 8 o_kept, ai E o_a12 8 o_keptKind, ai E o_a13 8 o_keptFigure, ai E o_a14 8 o_sort, ai E o_a15 8 o_size, ai E o_a16 800 o_element]) (ws' := [oMo o_h o_a0 o_a1 o_a2 o_a3 o_hasImage o_place o_rowAt o_rowEnd o_a8 o_a9 o_seed o_a11 o_a12 o_a13 o_a14 o_a15 o_a16 o_thrown, ai E o_a0 42 o_s, ai E o_a1 42 y38, ai E o_a2 42 o_image, ai E o_a3 42 o_was, ai E o_a8 3 o_numbers, ai E o_a9 8192 o_most, ai E o_a11 8 o_kept, ai E o_a12 8 o_keptKind, ai E o_a13 8 o_keptFigure, ai E o_a14 8 o_sort, ai E o_a15 8 o_size, ai E o_a16 800 o_element]) (As := [.int x4, .int (9 : Int32)]) (rest := []) (st1 := [.int r37]) hC q_X10_doesCarryWith kw_5_197 (c_X10_doesCarryWith l E o_h o_a0 o_a1 o_a2 o_a3 o_a8 o_a9 o_a11 o_a12 o_a13 o_a14 o_a15 o_a16 o_s y6 o_image o_was o_hasImage o_place o_rowAt o_rowEnd o_numbers o_most o_seed o_kept o_keptKind o_keptFigure o_sort o_size o_element o_thrown x4 (9 : Int32) N r37 y38 h39) ⟨rfl, rfl⟩ ⟨Nat.le_of_ble_eq_true rfl, Nat.le_of_ble_eq_true rfl⟩ ⟨Nat.zero_le _, Nat.zero_le _⟩ hP hD hS hA rfl rfl rfl hG (by decide) rfl rfl rfl rfl rfl rfl rfl rfl hl.1 rfl (Nat.le_of_ble_eq_true rfl) dX10_win_64 rfl (fun H locs hP hD hS => ?_)
                  refine lv_iload_n hx hb dX10_win_67 rfl (lv_at hl 3 rfl) ?_
                  refine lv_if_ne (tgt := 75) hx hb dX10_win_68 (by decide) (fun c40 => ?_) (fun c40 => ?_)
                  · have hv := if_n c40 hv
                    refine lv_iconst (v := (0 : Int32)) hx hb dX10_win_75 (by decide) ?_
                    refine lv_icmp_ne (tgt := 81) hx hb dX10_win_76 (by decide) (fun c41 => ?_) (fun c41 => ?_)
                    · have hv := if_n c41 hv
                      refine lv_iinc (v := (x4 + (1 : Int32))) (lv' := [(3, .int (x4 + (1 : Int32))), (2, .int x5), (0, .ref o_h), (1, .int p1)]) hx hb dX10_win_81 hl (k := 0) rfl rfl (by decide) rfl (fun ls hl => ?_)
                      refine lv_goto (tgt := 16) hx hb dX10_win_84 (by decide) ?_
                      exact ih16 (x4 + (1 : Int32)) x5 y38 _ _ _ hP hD hS (lv_sub hl [0, 1, 2, 3] rfl) hv
                    · have hv := if_y c41 hv
                      refine lv_iload_n hx hb dX10_win_79 rfl (lv_at hl 0 rfl) ?_
                      refine lv_istore_n (lv' := [(2, .int x4), (3, .int x4), (0, .ref o_h), (1, .int p1)]) hx hb dX10_win_80 rfl hl (by decide) rfl (fun ls hl => ?_)
                      refine lv_iinc (v := (x4 + (1 : Int32))) (lv' := [(3, .int (x4 + (1 : Int32))), (2, .int x4), (0, .ref o_h), (1, .int p1)]) hx hb dX10_win_81 hl (k := 1) rfl rfl (by decide) rfl (fun ls hl => ?_)
                      refine lv_goto (tgt := 16) hx hb dX10_win_84 (by decide) ?_
                      exact ih16 (x4 + (1 : Int32)) x4 y38 _ _ _ hP hD hS (lv_sub hl [0, 1, 2, 3] rfl) hv
                  · have hv := if_y c40 hv
                    refine lv_iconst (v := (1 : Int32)) hx hb dX10_win_71 (by decide) ?_
                    refine lv_goto (tgt := 76) hx hb dX10_win_72 (by decide) ?_
                    refine lv_icmp_ne (tgt := 81) hx hb dX10_win_76 (by decide) (fun c42 => ?_) (fun c42 => ?_)
                    · have hv := if_n c42 hv
                      refine lv_iinc (v := (x4 + (1 : Int32))) (lv' := [(3, .int (x4 + (1 : Int32))), (2, .int x5), (0, .ref o_h), (1, .int p1)]) hx hb dX10_win_81 hl (k := 0) rfl rfl (by decide) rfl (fun ls hl => ?_)
                      refine lv_goto (tgt := 16) hx hb dX10_win_84 (by decide) ?_
                      exact ih16 (x4 + (1 : Int32)) x5 y38 _ _ _ hP hD hS (lv_sub hl [0, 1, 2, 3] rfl) hv
                    · have hv := if_y c42 hv
                      refine lv_iload_n hx hb dX10_win_79 rfl (lv_at hl 0 rfl) ?_
                      refine lv_istore_n (lv' := [(2, .int x4), (3, .int x4), (0, .ref o_h), (1, .int p1)]) hx hb dX10_win_80 rfl hl (by decide) rfl (fun ls hl => ?_)
                      refine lv_iinc (v := (x4 + (1 : Int32))) (lv' := [(3, .int (x4 + (1 : Int32))), (2, .int x4), (0, .ref o_h), (1, .int p1)]) hx hb dX10_win_81 hl (k := 1) rfl rfl (by decide) rfl (fun ls hl => ?_)
                      refine lv_goto (tgt := 16) hx hb dX10_win_84 (by decide) ?_
                      exact ih16 (x4 + (1 : Int32)) x4 y38 _ _ _ hP hD hS (lv_sub hl [0, 1, 2, 3] rfl) hv
    exact hL16 N (0 : Int32) (-4 : Int32) o_m _ _ _ hP hD hS (lv_sub hl [0, 1, 2, 3] rfl) hv
  · have hv := if_y c3 hv
    refine lv_iconst (v := (-1 : Int32)) hx hb dX10_win_9 (by decide) ?_
    refine lv_topi (fun z43 ez43 => ?_)
    have hv := nm_s ez43 hv
    cases hv
    exact W.iret hx hb hr (fun t h9 _ => ⟨rfl, by rw [h9]; exact hP, hS.F h9⟩) hS.2.2 dX10_win_10 hlk
theorem dX10_guest_0 : decode cX10_guest 0 = .ok (.aload_n 0, 1) := by decide +kernel
theorem dX10_guest_1 : decode cX10_guest 1 = .ok (.iload_n 1, 1) := by decide +kernel
theorem dX10_guest_2 : decode cX10_guest 2 = .ok (.invokevirtual 134, 3) := by decide +kernel
theorem dX10_guest_5 : decode cX10_guest 5 = .ok (.ifCond .eq 19, 3) := by decide +kernel
theorem dX10_guest_8 : decode cX10_guest 8 = .ok (.iload_n 2, 1) := by decide +kernel
theorem dX10_guest_9 : decode cX10_guest 9 = .ok (.invokestatic 170, 3) := by decide +kernel
theorem dX10_guest_12 : decode cX10_guest 12 = .ok (.ifCond .eq 12, 3) := by decide +kernel
theorem dX10_guest_15 : decode cX10_guest 15 = .ok (.iload_n 3, 1) := by decide +kernel
theorem dX10_guest_16 : decode cX10_guest 16 = .ok (.iconst 0, 1) := by decide +kernel
theorem dX10_guest_17 : decode cX10_guest 17 = .ok (.iconst 1, 1) := by decide +kernel
theorem dX10_guest_18 : decode cX10_guest 18 = .ok (.invokestatic 46, 3) := by decide +kernel
theorem dX10_guest_21 : decode cX10_guest 21 = .ok (.ifCond .ne 5, 3) := by decide +kernel
theorem dX10_guest_24 : decode cX10_guest 24 = .ok (.iconst (-1), 1) := by decide +kernel
theorem dX10_guest_25 : decode cX10_guest 25 = .ok (.ireturn, 1) := by decide +kernel
theorem dX10_guest_26 : decode cX10_guest 26 = .ok (.iconst 0, 1) := by decide +kernel
theorem dX10_guest_27 : decode cX10_guest 27 = .ok (.istore 4, 2) := by decide +kernel
theorem dX10_guest_29 : decode cX10_guest 29 = .ok (.iconst (-1), 1) := by decide +kernel
theorem dX10_guest_30 : decode cX10_guest 30 = .ok (.istore 5, 2) := by decide +kernel
theorem dX10_guest_32 : decode cX10_guest 32 = .ok (.iconst 0, 1) := by decide +kernel
theorem dX10_guest_33 : decode cX10_guest 33 = .ok (.istore 6, 2) := by decide +kernel
theorem dX10_guest_35 : decode cX10_guest 35 = .ok (.iload 6, 2) := by decide +kernel
theorem dX10_guest_37 : decode cX10_guest 37 = .ok (.bipush 10, 2) := by decide +kernel
theorem dX10_guest_39 : decode cX10_guest 39 = .ok (.if_icmp .ge 57, 3) := by decide +kernel
theorem dX10_guest_42 : decode cX10_guest 42 = .ok (.aload_n 0, 1) := by decide +kernel
theorem dX10_guest_43 : decode cX10_guest 43 = .ok (.getfield 9, 3) := by decide +kernel
theorem dX10_guest_46 : decode cX10_guest 46 = .ok (.aload_n 0, 1) := by decide +kernel
theorem dX10_guest_47 : decode cX10_guest 47 = .ok (.getfield 13, 3) := by decide +kernel
theorem dX10_guest_50 : decode cX10_guest 50 = .ok (.invokestatic 148, 3) := by decide +kernel
theorem dX10_guest_53 : decode cX10_guest 53 = .ok (.aload_n 0, 1) := by decide +kernel
theorem dX10_guest_54 : decode cX10_guest 54 = .ok (.getfield 13, 3) := by decide +kernel
theorem dX10_guest_57 : decode cX10_guest 57 = .ok (.iload_n 1, 1) := by decide +kernel
theorem dX10_guest_58 : decode cX10_guest 58 = .ok (.iconst 2, 1) := by decide +kernel
theorem dX10_guest_59 : decode cX10_guest 59 = .ok (.invokestatic 50, 3) := by decide +kernel
theorem dX10_guest_62 : decode cX10_guest 62 = .ok (.iload 6, 2) := by decide +kernel
theorem dX10_guest_64 : decode cX10_guest 64 = .ok (.iastore, 1) := by decide +kernel
theorem dX10_guest_65 : decode cX10_guest 65 = .ok (.aload_n 0, 1) := by decide +kernel
theorem dX10_guest_66 : decode cX10_guest 66 = .ok (.iload_n 2, 1) := by decide +kernel
theorem dX10_guest_67 : decode cX10_guest 67 = .ok (.invokevirtual 177, 3) := by decide +kernel
theorem dX10_guest_70 : decode cX10_guest 70 = .ok (.istore 7, 2) := by decide +kernel
theorem dX10_guest_72 : decode cX10_guest 72 = .ok (.iload 7, 2) := by decide +kernel
theorem dX10_guest_74 : decode cX10_guest 74 = .ok (.iload 5, 2) := by decide +kernel
theorem dX10_guest_76 : decode cX10_guest 76 = .ok (.if_icmp .gt 6, 3) := by decide +kernel
theorem dX10_guest_79 : decode cX10_guest 79 = .ok (.goto 11, 3) := by decide +kernel
theorem dX10_guest_82 : decode cX10_guest 82 = .ok (.iload 6, 2) := by decide +kernel
theorem dX10_guest_84 : decode cX10_guest 84 = .ok (.istore 4, 2) := by decide +kernel
theorem dX10_guest_86 : decode cX10_guest 86 = .ok (.iload 7, 2) := by decide +kernel
theorem dX10_guest_88 : decode cX10_guest 88 = .ok (.istore 5, 2) := by decide +kernel
theorem dX10_guest_90 : decode cX10_guest 90 = .ok (.iinc 6 1, 3) := by decide +kernel
theorem dX10_guest_93 : decode cX10_guest 93 = .ok (.goto (-58), 3) := by decide +kernel
theorem dX10_guest_96 : decode cX10_guest 96 = .ok (.iload_n 3, 1) := by decide +kernel
theorem dX10_guest_97 : decode cX10_guest 97 = .ok (.ifCond .ne 8, 3) := by decide +kernel
theorem dX10_guest_100 : decode cX10_guest 100 = .ok (.iload 4, 2) := by decide +kernel
theorem dX10_guest_102 : decode cX10_guest 102 = .ok (.goto 5, 3) := by decide +kernel
theorem dX10_guest_105 : decode cX10_guest 105 = .ok (.iload 5, 2) := by decide +kernel
theorem dX10_guest_107 : decode cX10_guest 107 = .ok (.ireturn, 1) := by decide +kernel
def L_X10_guest_35 (N : Nat) (o_s : Nat → Int32) (p1 : Int32) (p2 : Int32) (p3 : Int32) : Nat → Int32 → Int32 → Int32 → (Nat → Int32) → Option (Int32 × (Nat → Int32))
  | 0, _, _, _, _ => none
  | n35 + 1, x12, x13, x14, y15 => if (10 : Int32) ≤ x12 then if p3 = 0 then some (x14, y15) else some (x13, y15) else ob (f_X10_copies N o_s y15) (fun y18 => ob (f_X10_of p1 (2 : Int32)) (fun r20 => gd (ix r20 42) (nm (upd y18 r20.toNatClampNeg x12) (fun f23 => ob (f_X10_holdsIn N f23 p2) (fun (r24, y25) => if x13 < r24 then L_X10_guest_35 N o_s p1 p2 p3 n35 (x12 + (1 : Int32)) r24 x12 y25 else L_X10_guest_35 N o_s p1 p2 p3 n35 (x12 + (1 : Int32)) x13 x14 y25)))))
def f_X10_guest (N : Nat) (o_s : Nat → Int32) (o_m : Nat → Int32) (p1 : Int32) (p2 : Int32) (p3 : Int32) : Option (Int32 × (Nat → Int32)) := ob (f_X10_isSpeaker o_s p1) (fun r1 => if r1 = 0 then nm (-1 : Int32) (fun z4 => some (z4, o_m)) else ob (f_X10_isLate p2) (fun r5 => if r5 = 0 then nm (-1 : Int32) (fun z8 => some (z8, o_m)) else ob (f_X10_isIn p3 (0 : Int32) (1 : Int32)) (fun r9 => if r9 = 0 then nm (-1 : Int32) (fun z28 => some (z28, o_m)) else L_X10_guest_35 N o_s p1 p2 p3 N (0 : Int32) (-1 : Int32) (0 : Int32) o_m)))
set_option maxHeartbeats 4000000 in
set_option maxRecDepth 100000 in
theorem c_X10_guest (l : Launch) (E : EE) (o_h : Nat) (o_a0 : Nat) (o_a1 : Nat) (o_a2 : Nat) (o_a3 : Nat) (o_a8 : Nat) (o_a9 : Nat) (o_a11 : Nat) (o_a12 : Nat) (o_a13 : Nat) (o_a14 : Nat) (o_a15 : Nat) (o_a16 : Nat) (o_s : Nat → Int32) (o_m : Nat → Int32) (o_image : Nat → Int32) (o_was : Nat → Int32) (o_hasImage : Int32) (o_place : Int32) (o_rowAt : Int32) (o_rowEnd : Int32) (o_numbers : Nat → Int32) (o_most : Nat → Int32) (o_seed : Int32) (o_kept : Nat → Int32) (o_keptKind : Nat → Int32) (o_keptFigure : Nat → Int32) (o_sort : Nat → Int32) (o_size : Nat → Int32) (o_element : Nat → Int32) (o_thrown : Int32) (p1 : Int32) (p2 : Int32) (p3 : Int32) (N : Nat) (res : Int32) (w_o_m : Nat → Int32) (hv : f_X10_guest N o_s o_m p1 p2 p3 = some (res, w_o_m)) : Wr l E yX10_guest cX10_guest 8 (some .int) ({ frames := 7, cells := 0, slots := 0, locals := 151 }) [.ref o_h, .int p1, .int p2, .int p3] [oMo o_h o_a0 o_a1 o_a2 o_a3 o_hasImage o_place o_rowAt o_rowEnd o_a8 o_a9 o_seed o_a11 o_a12 o_a13 o_a14 o_a15 o_a16 o_thrown, ai E o_a0 42 o_s, ai E o_a1 42 o_m, ai E o_a2 42 o_image, ai E o_a3 42 o_was, ai E o_a8 3 o_numbers, ai E o_a9 8192 o_most, ai E o_a11 8 o_kept, ai E o_a12 8 o_keptKind, ai E o_a13 8 o_keptFigure, ai E o_a14 8 o_sort, ai E o_a15 8 o_size, ai E o_a16 800 o_element] [oMo o_h o_a0 o_a1 o_a2 o_a3 o_hasImage o_place o_rowAt o_rowEnd o_a8 o_a9 o_seed o_a11 o_a12 o_a13 o_a14 o_a15 o_a16 o_thrown, ai E o_a0 42 o_s, ai E o_a1 42 w_o_m, ai E o_a2 42 o_image, ai E o_a3 42 o_was, ai E o_a8 3 o_numbers, ai E o_a9 8192 o_most, ai E o_a11 8 o_kept, ai E o_a12 8 o_keptKind, ai E o_a13 8 o_keptFigure, ai E o_a14 8 o_sort, ai E o_a15 8 o_size, ai E o_a16 800 o_element] (some (.int res)) := by
  refine Wr.intro RX10 (by decide) rfl (Nat.le_of_ble_eq_true rfl) ?_
  intro p e s m below meth c ls A hC hr hlk hmn hP hD hS hA hG hl
  obtain ⟨hx, hb, hml, hown, ht⟩ := id hC
  have hK := hG.1
  have hl : lv_has ls 8 [(0, .ref o_h), (1, .int p1), (2, .int p2), (3, .int p3)] := hl
  rw [f_X10_guest] at hv
  refine lv_aload_n hx hb dX10_guest_0 rfl (lv_at hl 0 rfl) ?_
  refine lv_iload_n hx hb dX10_guest_1 rfl (lv_at hl 1 rfl) ?_
  obtain ⟨r1, h2, hv⟩ := ob_s hv
  refine rdV 4 0 (As := [.int p1]) (rest := []) (st1 := [.int r1]) (w := [oMo o_h o_a0 o_a1 o_a2 o_a3 o_hasImage o_place o_rowAt o_rowEnd o_a8 o_a9 o_seed o_a11 o_a12 o_a13 o_a14 o_a15 o_a16 o_thrown, ai E o_a0 42 o_s, ai E o_a1 42 o_m, ai E o_a2 42 o_image, ai E o_a3 42 o_was, ai E o_a8 3 o_numbers, ai E o_a9 8192 o_most, ai E o_a11 8 o_kept, ai E o_a12 8 o_keptKind, ai E o_a13 8 o_keptFigure, ai E o_a14 8 o_sort, ai E o_a15 8 o_size, ai E o_a16 800 o_element]) hC q_X10_isSpeaker kw_4_229 (c_X10_isSpeaker l E o_h o_a0 o_a1 o_a2 o_a3 o_a8 o_a9 o_a11 o_a12 o_a13 o_a14 o_a15 o_a16 o_s o_m o_image o_was o_hasImage o_place o_rowAt o_rowEnd o_numbers o_most o_seed o_kept o_keptKind o_keptFigure o_sort o_size o_element o_thrown p1 r1 h2) ⟨rfl, rfl⟩ ⟨Nat.le_of_ble_eq_true rfl, Nat.le_of_ble_eq_true rfl⟩ ⟨Nat.zero_le _, Nat.zero_le _⟩ hP rfl rfl rfl hG rfl hl.1 rfl (Nat.le_of_ble_eq_true rfl) dX10_guest_2 rfl ?_
  refine lv_if_eq (tgt := 24) hx hb dX10_guest_5 (by decide) (fun c3 => ?_) (fun c3 => ?_)
  · have hv := if_y c3 hv
    refine lv_iconst (v := (-1 : Int32)) hx hb dX10_guest_24 (by decide) ?_
    refine lv_topi (fun z4 ez4 => ?_)
    have hv := nm_s ez4 hv
    cases hv
    exact W.iret hx hb hr (fun t h9 _ => ⟨rfl, by rw [h9]; exact hP, hS.F h9⟩) hS.2.2 dX10_guest_25 hlk
  · have hv := if_n c3 hv
    refine lv_iload_n hx hb dX10_guest_8 rfl (lv_at hl 2 rfl) ?_
    obtain ⟨r5, h6, hv⟩ := ob_s hv
    refine rdS (rest := []) (st1 := [.int r5]) (w := []) hC q_X10_isLate kw_5_105 (c_X10_isLate l E p2 r5 h6) ⟨rfl, rfl⟩ ⟨Nat.le_of_ble_eq_true rfl, Nat.le_of_ble_eq_true rfl⟩ ⟨Nat.zero_le _, Nat.zero_le _⟩ (hP.sub (ws' := []) [] rfl) hG rfl hl.1 rfl (Nat.le_of_ble_eq_true rfl) dX10_guest_9 rfl ?_
    refine lv_if_eq (tgt := 24) hx hb dX10_guest_12 (by decide) (fun c7 => ?_) (fun c7 => ?_)
    · have hv := if_y c7 hv
      refine lv_iconst (v := (-1 : Int32)) hx hb dX10_guest_24 (by decide) ?_
      refine lv_topi (fun z8 ez8 => ?_)
      have hv := nm_s ez8 hv
      cases hv
      exact W.iret hx hb hr (fun t h9 _ => ⟨rfl, by rw [h9]; exact hP, hS.F h9⟩) hS.2.2 dX10_guest_25 hlk
    · have hv := if_n c7 hv
      refine lv_iload_n hx hb dX10_guest_15 rfl (lv_at hl 3 rfl) ?_
      refine lv_iconst (v := (0 : Int32)) hx hb dX10_guest_16 (by decide) ?_
      refine lv_iconst (v := (1 : Int32)) hx hb dX10_guest_17 (by decide) ?_
      obtain ⟨r9, h10, hv⟩ := ob_s hv
      refine rdS (rest := []) (st1 := [.int r9]) (w := []) hC q_X10_isIn kw_4_200 (c_X10_isIn l E p3 (0 : Int32) (1 : Int32) r9 h10) ⟨rfl, rfl⟩ ⟨Nat.le_of_ble_eq_true rfl, Nat.le_of_ble_eq_true rfl⟩ ⟨Nat.zero_le _, Nat.zero_le _⟩ (hP.sub (ws' := []) [] rfl) hG rfl hl.1 rfl (Nat.le_of_ble_eq_true rfl) dX10_guest_18 rfl ?_
      refine lv_if_ne (tgt := 26) hx hb dX10_guest_21 (by decide) (fun c11 => ?_) (fun c11 => ?_)
      · have hv := if_n c11 hv
        refine lv_iconst (v := (0 : Int32)) hx hb dX10_guest_26 (by decide) ?_
        refine lv_istore (lv' := [(4, .int (0 : Int32)), (0, .ref o_h), (1, .int p1), (2, .int p2), (3, .int p3)]) hx hb dX10_guest_27 hl (by decide) rfl (fun ls hl => ?_)
        refine lv_iconst (v := (-1 : Int32)) hx hb dX10_guest_29 (by decide) ?_
        refine lv_istore (lv' := [(5, .int (-1 : Int32)), (4, .int (0 : Int32)), (0, .ref o_h), (1, .int p1), (2, .int p2), (3, .int p3)]) hx hb dX10_guest_30 hl (by decide) rfl (fun ls hl => ?_)
        refine lv_iconst (v := (0 : Int32)) hx hb dX10_guest_32 (by decide) ?_
        refine lv_istore (lv' := [(6, .int (0 : Int32)), (5, .int (-1 : Int32)), (4, .int (0 : Int32)), (0, .ref o_h), (1, .int p1), (2, .int p2), (3, .int p3)]) hx hb dX10_guest_33 hl (by decide) rfl (fun ls hl => ?_)
        have hL35 : ∀ (n : Nat) (x12 : Int32) (x13 : Int32) (x14 : Int32) (y15 : Nat → Int32) (H : Heap) (locs : List Loc) (ls : Array Slot), va_P E.1 vwCl [oMo o_h o_a0 o_a1 o_a2 o_a3 o_hasImage o_place o_rowAt o_rowEnd o_a8 o_a9 o_seed o_a11 o_a12 o_a13 o_a14 o_a15 o_a16 o_thrown, ai E o_a0 42 o_s, ai E o_a1 42 y15, ai E o_a2 42 o_image, ai E o_a3 42 o_was, ai E o_a8 3 o_numbers, ai E o_a9 8192 o_most, ai E o_a11 8 o_kept, ai E o_a12 8 o_keptKind, ai E o_a13 8 o_keptFigure, ai E o_a14 8 o_sort, ai E o_a15 8 o_size, ai E o_a16 800 o_element] H → va_D A [oMo o_h o_a0 o_a1 o_a2 o_a3 o_hasImage o_place o_rowAt o_rowEnd o_a8 o_a9 o_seed o_a11 o_a12 o_a13 o_a14 o_a15 o_a16 o_thrown, ai E o_a0 42 o_s, ai E o_a1 42 y15, ai E o_a2 42 o_image, ai E o_a3 42 o_was, ai E o_a8 3 o_numbers, ai E o_a9 8192 o_most, ai E o_a11 8 o_kept, ai E o_a12 8 o_keptKind, ai E o_a13 8 o_keptFigure, ai E o_a14 8 o_sort, ai E o_a15 8 o_size, ai E o_a16 800 o_element] → va_S A s.heap H locs → lv_has ls 8 [(6, .int x12), (5, .int x13), (4, .int x14), (0, .ref o_h), (1, .int p1), (2, .int p2), (3, .int p3)] → L_X10_guest_35 N o_s p1 p2 p3 n x12 x13 x14 y15 = some (res, w_o_m) → W p l e ({ frames := 7, cells := 0, slots := 0, locals := 151 }) s m [.ref o_h, .int p1, .int p2, .int p3].toArray below meth c H locs 0 0 (MQ below (fun _ st oc t => oc = .returned (some (.int res)) ∧ va_P E.1 vwCl [oMo o_h o_a0 o_a1 o_a2 o_a3 o_hasImage o_place o_rowAt o_rowEnd o_a8 o_a9 o_seed o_a11 o_a12 o_a13 o_a14 o_a15 o_a16 o_thrown, ai E o_a0 42 o_s, ai E o_a1 42 w_o_m, ai E o_a2 42 o_image, ai E o_a3 42 o_was, ai E o_a8 3 o_numbers, ai E o_a9 8192 o_most, ai E o_a11 8 o_kept, ai E o_a12 8 o_keptKind, ai E o_a13 8 o_keptFigure, ai E o_a14 8 o_sort, ai E o_a15 8 o_size, ai E o_a16 800 o_element] t.heap ∧ va_F A st t) [.ref o_h, .int p1, .int p2, .int p3].toArray s 0 0 A) (F0 m 35 ls []) := by
          intro n
          induction n with
          | zero => intro x12 x13 x14 y15 H locs ls hP hD hS hl hv; cases hv
          | succ n35 ih35 =>
            intro x12 x13 x14 y15 H locs ls hP hD hS hl hv
            rw [L_X10_guest_35] at hv
            refine lv_iload hx hb dX10_guest_35 (lv_at hl 0 rfl) ?_
            refine lv_bipush (v := (10 : Int32)) hx hb dX10_guest_37 (by decide) ?_
            refine lv_icmp_ge (tgt := 96) hx hb dX10_guest_39 (by decide) (fun c16 => ?_) (fun c16 => ?_)
            · have hv := if_y c16 hv
              refine lv_iload_n hx hb dX10_guest_96 rfl (lv_at hl 6 rfl) ?_
              refine lv_if_ne (tgt := 105) hx hb dX10_guest_97 (by decide) (fun c17 => ?_) (fun c17 => ?_)
              · have hv := if_n c17 hv
                refine lv_iload hx hb dX10_guest_105 (lv_at hl 1 rfl) ?_
                cases hv
                exact W.iret hx hb hr (fun t h9 _ => ⟨rfl, by rw [h9]; exact hP, hS.F h9⟩) hS.2.2 dX10_guest_107 hlk
              · have hv := if_y c17 hv
                refine lv_iload hx hb dX10_guest_100 (lv_at hl 2 rfl) ?_
                refine lv_goto (tgt := 107) hx hb dX10_guest_102 (by decide) ?_
                cases hv
                exact W.iret hx hb hr (fun t h9 _ => ⟨rfl, by rw [h9]; exact hP, hS.F h9⟩) hS.2.2 dX10_guest_107 hlk
            · have hv := if_n c16 hv
              refine lv_aload_n hx hb dX10_guest_42 rfl (lv_at hl 3 rfl) ?_
              refine va_get (D := E.1) (ci := 4) (v := .ref o_a0) (C := RX10) (T := TX10) (N := 18) hx hb ht i_X10 hown hK hP 0 rfl rfl 0 (by decide) (ht _ kw_4_134) (fun _ h9 => h9) rfl dX10_guest_43 ?_
              refine lv_aload_n hx hb dX10_guest_46 rfl (lv_at hl 3 rfl) ?_
              refine va_get (D := E.1) (ci := 4) (v := .ref o_a1) (C := RX10) (T := TX10) (N := 18) hx hb ht i_X10 hown hK hP 0 rfl rfl 1 (by decide) (ht _ kw_4_135) (fun _ h9 => h9) rfl dX10_guest_47 ?_
              obtain ⟨y18, h19, hv⟩ := ob_s hv
              refine wrS (as := [o_h, o_a0, o_a1, o_a2, o_a3, o_a8, o_a9, o_a11, o_a12, o_a13, o_a14, o_a15, o_a16]) (wr := [oMo o_h o_a0 o_a1 o_a2 o_a3 o_hasImage o_place o_rowAt o_rowEnd o_a8 o_a9 o_seed o_a11 o_a12 o_a13 o_a14 o_a15 o_a16 o_thrown, ai E o_a2 42 o_image, ai E o_a3 42 o_was, ai E o_a8 3 o_numbers, ai E o_a9 8192 o_most, ai E o_a11 8 o_kept, ai E o_a12 8 o_keptKind, ai E o_a13 8 o_keptFigure, ai E o_a14 8 o_sort, ai E o_a15 8 o_size, ai E o_a16 800 o_element]) [1, 2] [0, 3, 4, 5, 6, 7, 8, 9, 10, 11, 12] (ws := [oMo o_h o_a0 o_a1 o_a2 o_a3 o_hasImage o_place o_rowAt o_rowEnd o_a8 o_a9 o_seed o_a11 o_a12 o_a13 o_a14 o_a15 o_a16 o_thrown, ai E o_a0 42 o_s, ai E o_a1 42 y15, ai E o_a2 42 o_image, ai E o_a3 42 o_was, ai E o_a8 3 o_numbers, ai E o_a9 8192 o_most, ai E o_a11 8 o_kept, ai E o_a12 8 o_keptKind, ai E o_a13 8 o_keptFigure, ai E o_a14 8 o_sort, ai E o_a15 8 o_size, ai E o_a16 800 o_element]) (ws' := [oMo o_h o_a0 o_a1 o_a2 o_a3 o_hasImage o_place o_rowAt o_rowEnd o_a8 o_a9 o_seed o_a11 o_a12 o_a13 o_a14 o_a15 o_a16 o_thrown, ai E o_a0 42 o_s, ai E o_a1 42 y18, ai E o_a2 42 o_image, ai E o_a3 42 o_was, ai E o_a8 3 o_numbers, ai E o_a9 8192 o_most, ai E o_a11 8 o_kept, ai E o_a12 8 o_keptKind, ai E o_a13 8 o_keptFigure, ai E o_a14 8 o_sort, ai E o_a15 8 o_size, ai E o_a16 800 o_element]) (rest := []) (st1 := []) hC q_X10_copies kw_4_215 (c_X10_copies l E o_a0 o_a1 o_s y15 N y18 h19) ⟨rfl, rfl⟩ ⟨Nat.le_of_ble_eq_true rfl, Nat.le_of_ble_eq_true rfl⟩ ⟨Nat.zero_le _, Nat.zero_le _⟩ hP hD hS hA hG (by decide) rfl rfl rfl rfl rfl rfl rfl rfl hl.1 rfl (Nat.le_of_ble_eq_true rfl) dX10_guest_50 rfl (fun H locs hP hD hS => ?_)
              refine lv_aload_n hx hb dX10_guest_53 rfl (lv_at hl 3 rfl) ?_
              refine va_get (D := E.1) (ci := 4) (v := .ref o_a1) (C := RX10) (T := TX10) (N := 18) hx hb ht i_X10 hown hK hP 0 rfl rfl 1 (by decide) (ht _ kw_4_135) (fun _ h9 => h9) rfl dX10_guest_54 ?_
              refine lv_iload_n hx hb dX10_guest_57 rfl (lv_at hl 4 rfl) ?_
              refine lv_iconst (v := (2 : Int32)) hx hb dX10_guest_58 (by decide) ?_
              obtain ⟨r20, h21, hv⟩ := ob_s hv
              refine rdS (rest := [.ref o_a1]) (st1 := [.int r20, .ref o_a1]) (w := []) hC q_X10_of kw_4_226 (c_X10_of l E p1 (2 : Int32) r20 h21) ⟨rfl, rfl⟩ ⟨Nat.le_of_ble_eq_true rfl, Nat.le_of_ble_eq_true rfl⟩ ⟨Nat.zero_le _, Nat.zero_le _⟩ (hP.sub (ws' := []) [] rfl) hG rfl hl.1 rfl (Nat.le_of_ble_eq_true rfl) dX10_guest_59 rfl ?_
              refine lv_iload hx hb dX10_guest_62 (lv_at hl 0 rfl) ?_
              obtain ⟨g22, hv⟩ := gd_s hv
              refine va_iast hx hb hK hP hD hS 2 0 rfl rfl (ix_s g22) dX10_guest_64 (fun H locs hP hD hS => ?_)
              have hP : va_P E.1 vwCl [oMo o_h o_a0 o_a1 o_a2 o_a3 o_hasImage o_place o_rowAt o_rowEnd o_a8 o_a9 o_seed o_a11 o_a12 o_a13 o_a14 o_a15 o_a16 o_thrown, ai E o_a0 42 o_s, ai E o_a1 42 (upd y18 r20.toNatClampNeg x12), ai E o_a2 42 o_image, ai E o_a3 42 o_was, ai E o_a8 3 o_numbers, ai E o_a9 8192 o_most, ai E o_a11 8 o_kept, ai E o_a12 8 o_keptKind, ai E o_a13 8 o_keptFigure, ai E o_a14 8 o_sort, ai E o_a15 8 o_size, ai E o_a16 800 o_element] H := hP
              have hD : va_D A [oMo o_h o_a0 o_a1 o_a2 o_a3 o_hasImage o_place o_rowAt o_rowEnd o_a8 o_a9 o_seed o_a11 o_a12 o_a13 o_a14 o_a15 o_a16 o_thrown, ai E o_a0 42 o_s, ai E o_a1 42 (upd y18 r20.toNatClampNeg x12), ai E o_a2 42 o_image, ai E o_a3 42 o_was, ai E o_a8 3 o_numbers, ai E o_a9 8192 o_most, ai E o_a11 8 o_kept, ai E o_a12 8 o_keptKind, ai E o_a13 8 o_keptFigure, ai E o_a14 8 o_sort, ai E o_a15 8 o_size, ai E o_a16 800 o_element] := hD
              obtain ⟨f23, ef23⟩ : ∃ z, z = (upd y18 r20.toNatClampNeg x12) := ⟨_, rfl⟩
              rw [← ef23] at hP hD
              have hv := nm_s ef23 hv
              refine lv_aload_n hx hb dX10_guest_65 rfl (lv_at hl 3 rfl) ?_
              refine lv_iload_n hx hb dX10_guest_66 rfl (lv_at hl 5 rfl) ?_
              obtain ⟨⟨r24, y25⟩, h26, hv⟩ := ob_s hv
              refine wrV (as := [o_h, o_a0, o_a1, o_a2, o_a3, o_a8, o_a9, o_a11, o_a12, o_a13, o_a14, o_a15, o_a16]) (wr := []) [0, 1, 2, 3, 4, 5, 6, 7, 8, 9, 10, 11, 12] [] 4 0 (ws := [oMo o_h o_a0 o_a1 o_a2 o_a3 o_hasImage o_place o_rowAt o_rowEnd o_a8 o_a9 o_seed o_a11 o_a12 o_a13 o_a14 o_a15 o_a16 o_thrown, ai E o_a0 42 o_s, ai E o_a1 42 f23, ai E o_a2 42 o_image, ai E o_a3 42 o_was, ai E o_a8 3 o_numbers, ai E o_a9 8192 o_most, ai E o_a11 8 o_kept, ai E o_a12 8 o_keptKind, ai E o_a13 8 o_keptFigure, ai E o_a14 8 o_sort, ai E o_a15 8 o_size, ai E o_a16 800 o_element]) (ws' := [oMo o_h o_a0 o_a1 o_a2 o_a3 o_hasImage o_place o_rowAt o_rowEnd o_a8 o_a9 o_seed o_a11 o_a12 o_a13 o_a14 o_a15 o_a16 o_thrown, ai E o_a0 42 o_s, ai E o_a1 42 y25, ai E o_a2 42 o_image, ai E o_a3 42 o_was, ai E o_a8 3 o_numbers, ai E o_a9 8192 o_most, ai E o_a11 8 o_kept, ai E o_a12 8 o_keptKind, ai E o_a13 8 o_keptFigure, ai E o_a14 8 o_sort, ai E o_a15 8 o_size, ai E o_a16 800 o_element]) (As := [.int p2]) (rest := []) (st1 := [.int r24]) hC q_X10_holdsIn kw_5_128 (c_X10_holdsIn l E o_h o_a0 o_a1 o_a2 o_a3 o_a8 o_a9 o_a11 o_a12 o_a13 o_a14 o_a15 o_a16 o_s f23 o_image o_was o_hasImage o_place o_rowAt o_rowEnd o_numbers o_most o_seed o_kept o_keptKind o_keptFigure o_sort o_size o_element o_thrown p2 N r24 y25 h26) ⟨rfl, rfl⟩ ⟨Nat.le_of_ble_eq_true rfl, Nat.le_of_ble_eq_true rfl⟩ ⟨Nat.zero_le _, Nat.zero_le _⟩ hP hD hS hA rfl rfl rfl hG (by decide) rfl rfl rfl rfl rfl rfl rfl rfl hl.1 rfl (Nat.le_of_ble_eq_true rfl) dX10_guest_67 rfl (fun H locs hP hD hS => ?_)
              refine lv_istore (lv' := [(7, .int r24), (6, .int x12), (5, .int x13), (4, .int x14), (0, .ref o_h), (1, .int p1), (2, .int p2), (3, .int p3)]) hx hb dX10_guest_70 hl (by decide) rfl (fun ls hl => ?_)
              refine lv_iload hx hb dX10_guest_72 (lv_at hl 0 rfl) ?_
              refine lv_iload hx hb dX10_guest_74 (lv_at hl 2 rfl) ?_
              refine lv_icmp_gt (tgt := 82) hx hb dX10_guest_76 (by decide) (fun c27 => ?_) (fun c27 => ?_)
              · have hv := if_y c27 hv
                refine lv_iload hx hb dX10_guest_82 (lv_at hl 1 rfl) ?_
                refine lv_istore (lv' := [(4, .int x12), (7, .int r24), (6, .int x12), (5, .int x13), (0, .ref o_h), (1, .int p1), (2, .int p2), (3, .int p3)]) hx hb dX10_guest_84 hl (by decide) rfl (fun ls hl => ?_)
                refine lv_iload hx hb dX10_guest_86 (lv_at hl 1 rfl) ?_
                refine lv_istore (lv' := [(5, .int r24), (4, .int x12), (7, .int r24), (6, .int x12), (0, .ref o_h), (1, .int p1), (2, .int p2), (3, .int p3)]) hx hb dX10_guest_88 hl (by decide) rfl (fun ls hl => ?_)
                refine lv_iinc (v := (x12 + (1 : Int32))) (lv' := [(6, .int (x12 + (1 : Int32))), (5, .int r24), (4, .int x12), (7, .int r24), (0, .ref o_h), (1, .int p1), (2, .int p2), (3, .int p3)]) hx hb dX10_guest_90 hl (k := 3) rfl rfl (by decide) rfl (fun ls hl => ?_)
                refine lv_goto (tgt := 35) hx hb dX10_guest_93 (by decide) ?_
                exact ih35 (x12 + (1 : Int32)) r24 x12 y25 _ _ _ hP hD hS (lv_sub hl [0, 1, 2, 4, 5, 6, 7] rfl) hv
              · have hv := if_n c27 hv
                refine lv_goto (tgt := 90) hx hb dX10_guest_79 (by decide) ?_
                refine lv_iinc (v := (x12 + (1 : Int32))) (lv' := [(6, .int (x12 + (1 : Int32))), (7, .int r24), (5, .int x13), (4, .int x14), (0, .ref o_h), (1, .int p1), (2, .int p2), (3, .int p3)]) hx hb dX10_guest_90 hl (k := 1) rfl rfl (by decide) rfl (fun ls hl => ?_)
                refine lv_goto (tgt := 35) hx hb dX10_guest_93 (by decide) ?_
                exact ih35 (x12 + (1 : Int32)) x13 x14 y25 _ _ _ hP hD hS (lv_sub hl [0, 2, 3, 4, 5, 6, 7] rfl) hv
        exact hL35 N (0 : Int32) (-1 : Int32) (0 : Int32) o_m _ _ _ hP hD hS (lv_sub hl [0, 1, 2, 3, 4, 5, 6] rfl) hv
      · have hv := if_y c11 hv
        refine lv_iconst (v := (-1 : Int32)) hx hb dX10_guest_24 (by decide) ?_
        refine lv_topi (fun z28 ez28 => ?_)
        have hv := nm_s ez28 hv
        cases hv
        exact W.iret hx hb hr (fun t h9 _ => ⟨rfl, by rw [h9]; exact hP, hS.F h9⟩) hS.2.2 dX10_guest_25 hlk
theorem dX10_shutter_0 : decode cX10_shutter 0 = .ok (.iload_n 1, 1) := by decide +kernel
theorem dX10_shutter_1 : decode cX10_shutter 1 = .ok (.invokestatic 170, 3) := by decide +kernel
theorem dX10_shutter_4 : decode cX10_shutter 4 = .ok (.ifCond .ne 5, 3) := by decide +kernel
theorem dX10_shutter_7 : decode cX10_shutter 7 = .ok (.iconst (-1), 1) := by decide +kernel
theorem dX10_shutter_8 : decode cX10_shutter 8 = .ok (.ireturn, 1) := by decide +kernel
theorem dX10_shutter_9 : decode cX10_shutter 9 = .ok (.aload_n 0, 1) := by decide +kernel
theorem dX10_shutter_10 : decode cX10_shutter 10 = .ok (.iload_n 1, 1) := by decide +kernel
theorem dX10_shutter_11 : decode cX10_shutter 11 = .ok (.invokevirtual 180, 3) := by decide +kernel
theorem dX10_shutter_14 : decode cX10_shutter 14 = .ok (.istore_n 2, 1) := by decide +kernel
theorem dX10_shutter_15 : decode cX10_shutter 15 = .ok (.bipush (-4), 2) := by decide +kernel
theorem dX10_shutter_17 : decode cX10_shutter 17 = .ok (.istore_n 3, 1) := by decide +kernel
theorem dX10_shutter_18 : decode cX10_shutter 18 = .ok (.iconst 0, 1) := by decide +kernel
theorem dX10_shutter_19 : decode cX10_shutter 19 = .ok (.istore 4, 2) := by decide +kernel
theorem dX10_shutter_21 : decode cX10_shutter 21 = .ok (.iload 4, 2) := by decide +kernel
theorem dX10_shutter_23 : decode cX10_shutter 23 = .ok (.bipush 10, 2) := by decide +kernel
theorem dX10_shutter_25 : decode cX10_shutter 25 = .ok (.if_icmp .ge 55, 3) := by decide +kernel
theorem dX10_shutter_28 : decode cX10_shutter 28 = .ok (.aload_n 0, 1) := by decide +kernel
theorem dX10_shutter_29 : decode cX10_shutter 29 = .ok (.getfield 9, 3) := by decide +kernel
theorem dX10_shutter_32 : decode cX10_shutter 32 = .ok (.aload_n 0, 1) := by decide +kernel
theorem dX10_shutter_33 : decode cX10_shutter 33 = .ok (.getfield 13, 3) := by decide +kernel
theorem dX10_shutter_36 : decode cX10_shutter 36 = .ok (.invokestatic 148, 3) := by decide +kernel
theorem dX10_shutter_39 : decode cX10_shutter 39 = .ok (.aload_n 0, 1) := by decide +kernel
theorem dX10_shutter_40 : decode cX10_shutter 40 = .ok (.getfield 13, 3) := by decide +kernel
theorem dX10_shutter_43 : decode cX10_shutter 43 = .ok (.iconst 3, 1) := by decide +kernel
theorem dX10_shutter_44 : decode cX10_shutter 44 = .ok (.dup2, 1) := by decide +kernel
theorem dX10_shutter_45 : decode cX10_shutter 45 = .ok (.iaload, 1) := by decide +kernel
theorem dX10_shutter_46 : decode cX10_shutter 46 = .ok (.iconst 1, 1) := by decide +kernel
theorem dX10_shutter_47 : decode cX10_shutter 47 = .ok (.iload 4, 2) := by decide +kernel
theorem dX10_shutter_49 : decode cX10_shutter 49 = .ok (.ishl, 1) := by decide +kernel
theorem dX10_shutter_50 : decode cX10_shutter 50 = .ok (.ixor, 1) := by decide +kernel
theorem dX10_shutter_51 : decode cX10_shutter 51 = .ok (.iastore, 1) := by decide +kernel
theorem dX10_shutter_52 : decode cX10_shutter 52 = .ok (.aload_n 0, 1) := by decide +kernel
theorem dX10_shutter_53 : decode cX10_shutter 53 = .ok (.iload_n 1, 1) := by decide +kernel
theorem dX10_shutter_54 : decode cX10_shutter 54 = .ok (.invokevirtual 177, 3) := by decide +kernel
theorem dX10_shutter_57 : decode cX10_shutter 57 = .ok (.istore 5, 2) := by decide +kernel
theorem dX10_shutter_59 : decode cX10_shutter 59 = .ok (.iload 5, 2) := by decide +kernel
theorem dX10_shutter_61 : decode cX10_shutter 61 = .ok (.iload_n 2, 1) := by decide +kernel
theorem dX10_shutter_62 : decode cX10_shutter 62 = .ok (.if_icmp .gt 6, 3) := by decide +kernel
theorem dX10_shutter_65 : decode cX10_shutter 65 = .ok (.goto 9, 3) := by decide +kernel
theorem dX10_shutter_68 : decode cX10_shutter 68 = .ok (.iload 4, 2) := by decide +kernel
theorem dX10_shutter_70 : decode cX10_shutter 70 = .ok (.istore_n 3, 1) := by decide +kernel
theorem dX10_shutter_71 : decode cX10_shutter 71 = .ok (.iload 5, 2) := by decide +kernel
theorem dX10_shutter_73 : decode cX10_shutter 73 = .ok (.istore_n 2, 1) := by decide +kernel
theorem dX10_shutter_74 : decode cX10_shutter 74 = .ok (.iinc 4 1, 3) := by decide +kernel
theorem dX10_shutter_77 : decode cX10_shutter 77 = .ok (.goto (-56), 3) := by decide +kernel
theorem dX10_shutter_80 : decode cX10_shutter 80 = .ok (.iload_n 3, 1) := by decide +kernel
theorem dX10_shutter_81 : decode cX10_shutter 81 = .ok (.ireturn, 1) := by decide +kernel
def L_X10_shutter_21 (N : Nat) (o_s : Nat → Int32) (p1 : Int32) : Nat → Int32 → Int32 → Int32 → (Nat → Int32) → Option (Int32 × (Nat → Int32))
  | 0, _, _, _, _ => none
  | n21 + 1, x7, x8, x9, y10 => if (10 : Int32) ≤ x7 then some (x8, y10) else ob (f_X10_copies N o_s y10) (fun y12 => nm (upd y12 3 ((y12 3) ^^^ ((1 : Int32) <<< (x7 &&& 31)))) (fun f14 => ob (f_X10_holdsIn N f14 p1) (fun (r15, y16) => if x9 < r15 then L_X10_shutter_21 N o_s p1 n21 (x7 + (1 : Int32)) x7 r15 y16 else L_X10_shutter_21 N o_s p1 n21 (x7 + (1 : Int32)) x8 x9 y16)))
def f_X10_shutter (N : Nat) (o_s : Nat → Int32) (o_m : Nat → Int32) (p1 : Int32) : Option (Int32 × (Nat → Int32)) := ob (f_X10_isLate p1) (fun r1 => if r1 = 0 then nm (-1 : Int32) (fun z19 => some (z19, o_m)) else ob (f_X10_holdsNow N o_s o_m p1) (fun (r4, y5) => L_X10_shutter_21 N o_s p1 N (0 : Int32) (-4 : Int32) r4 y5))
set_option maxHeartbeats 4000000 in
set_option maxRecDepth 100000 in
theorem c_X10_shutter (l : Launch) (E : EE) (o_h : Nat) (o_a0 : Nat) (o_a1 : Nat) (o_a2 : Nat) (o_a3 : Nat) (o_a8 : Nat) (o_a9 : Nat) (o_a11 : Nat) (o_a12 : Nat) (o_a13 : Nat) (o_a14 : Nat) (o_a15 : Nat) (o_a16 : Nat) (o_s : Nat → Int32) (o_m : Nat → Int32) (o_image : Nat → Int32) (o_was : Nat → Int32) (o_hasImage : Int32) (o_place : Int32) (o_rowAt : Int32) (o_rowEnd : Int32) (o_numbers : Nat → Int32) (o_most : Nat → Int32) (o_seed : Int32) (o_kept : Nat → Int32) (o_keptKind : Nat → Int32) (o_keptFigure : Nat → Int32) (o_sort : Nat → Int32) (o_size : Nat → Int32) (o_element : Nat → Int32) (o_thrown : Int32) (p1 : Int32) (N : Nat) (res : Int32) (w_o_m : Nat → Int32) (hv : f_X10_shutter N o_s o_m p1 = some (res, w_o_m)) : Wr l E yX10_shutter cX10_shutter 6 (some .int) ({ frames := 8, cells := 0, slots := 0, locals := 172 }) [.ref o_h, .int p1] [oMo o_h o_a0 o_a1 o_a2 o_a3 o_hasImage o_place o_rowAt o_rowEnd o_a8 o_a9 o_seed o_a11 o_a12 o_a13 o_a14 o_a15 o_a16 o_thrown, ai E o_a0 42 o_s, ai E o_a1 42 o_m, ai E o_a2 42 o_image, ai E o_a3 42 o_was, ai E o_a8 3 o_numbers, ai E o_a9 8192 o_most, ai E o_a11 8 o_kept, ai E o_a12 8 o_keptKind, ai E o_a13 8 o_keptFigure, ai E o_a14 8 o_sort, ai E o_a15 8 o_size, ai E o_a16 800 o_element] [oMo o_h o_a0 o_a1 o_a2 o_a3 o_hasImage o_place o_rowAt o_rowEnd o_a8 o_a9 o_seed o_a11 o_a12 o_a13 o_a14 o_a15 o_a16 o_thrown, ai E o_a0 42 o_s, ai E o_a1 42 w_o_m, ai E o_a2 42 o_image, ai E o_a3 42 o_was, ai E o_a8 3 o_numbers, ai E o_a9 8192 o_most, ai E o_a11 8 o_kept, ai E o_a12 8 o_keptKind, ai E o_a13 8 o_keptFigure, ai E o_a14 8 o_sort, ai E o_a15 8 o_size, ai E o_a16 800 o_element] (some (.int res)) := by
  refine Wr.intro RX10 (by decide) rfl (Nat.le_of_ble_eq_true rfl) ?_
  intro p e s m below meth c ls A hC hr hlk hmn hP hD hS hA hG hl
  obtain ⟨hx, hb, hml, hown, ht⟩ := id hC
  have hK := hG.1
  have hl : lv_has ls 6 [(0, .ref o_h), (1, .int p1)] := hl
  rw [f_X10_shutter] at hv
  refine lv_iload_n hx hb dX10_shutter_0 rfl (lv_at hl 1 rfl) ?_
  obtain ⟨r1, h2, hv⟩ := ob_s hv
  refine rdS (rest := []) (st1 := [.int r1]) (w := []) hC q_X10_isLate kw_5_105 (c_X10_isLate l E p1 r1 h2) ⟨rfl, rfl⟩ ⟨Nat.le_of_ble_eq_true rfl, Nat.le_of_ble_eq_true rfl⟩ ⟨Nat.zero_le _, Nat.zero_le _⟩ (hP.sub (ws' := []) [] rfl) hG rfl hl.1 rfl (Nat.le_of_ble_eq_true rfl) dX10_shutter_1 rfl ?_
  refine lv_if_ne (tgt := 9) hx hb dX10_shutter_4 (by decide) (fun c3 => ?_) (fun c3 => ?_)
  · have hv := if_n c3 hv
    refine lv_aload_n hx hb dX10_shutter_9 rfl (lv_at hl 0 rfl) ?_
    refine lv_iload_n hx hb dX10_shutter_10 rfl (lv_at hl 1 rfl) ?_
    obtain ⟨⟨r4, y5⟩, h6, hv⟩ := ob_s hv
    refine wrV (as := [o_h, o_a0, o_a1, o_a2, o_a3, o_a8, o_a9, o_a11, o_a12, o_a13, o_a14, o_a15, o_a16]) (wr := []) [0, 1, 2, 3, 4, 5, 6, 7, 8, 9, 10, 11, 12] [] 4 0 (ws := [oMo o_h o_a0 o_a1 o_a2 o_a3 o_hasImage o_place o_rowAt o_rowEnd o_a8 o_a9 o_seed o_a11 o_a12 o_a13 o_a14 o_a15 o_a16 o_thrown, ai E o_a0 42 o_s, ai E o_a1 42 o_m, ai E o_a2 42 o_image, ai E o_a3 42 o_was, ai E o_a8 3 o_numbers, ai E o_a9 8192 o_most, ai E o_a11 8 o_kept, ai E o_a12 8 o_keptKind, ai E o_a13 8 o_keptFigure, ai E o_a14 8 o_sort, ai E o_a15 8 o_size, ai E o_a16 800 o_element]) (ws' := [oMo o_h o_a0 o_a1 o_a2 o_a3 o_hasImage o_place o_rowAt o_rowEnd o_a8 o_a9 o_seed o_a11 o_a12 o_a13 o_a14 o_a15 o_a16 o_thrown, ai E o_a0 42 o_s, ai E o_a1 42 y5, ai E o_a2 42 o_image, ai E o_a3 42 o_was, ai E o_a8 3 o_numbers, ai E o_a9 8192 o_most, ai E o_a11 8 o_kept, ai E o_a12 8 o_keptKind, ai E o_a13 8 o_keptFigure, ai E o_a14 8 o_sort, ai E o_a15 8 o_size, ai E o_a16 800 o_element]) (As := [.int p1]) (rest := []) (st1 := [.int r4]) hC q_X10_holdsNow kw_5_124 (c_X10_holdsNow l E o_h o_a0 o_a1 o_a2 o_a3 o_a8 o_a9 o_a11 o_a12 o_a13 o_a14 o_a15 o_a16 o_s o_m o_image o_was o_hasImage o_place o_rowAt o_rowEnd o_numbers o_most o_seed o_kept o_keptKind o_keptFigure o_sort o_size o_element o_thrown p1 N r4 y5 h6) ⟨rfl, rfl⟩ ⟨Nat.le_of_ble_eq_true rfl, Nat.le_of_ble_eq_true rfl⟩ ⟨Nat.zero_le _, Nat.zero_le _⟩ hP hD hS hA rfl rfl rfl hG (by decide) rfl rfl rfl rfl rfl rfl rfl rfl hl.1 rfl (Nat.le_of_ble_eq_true rfl) dX10_shutter_11 rfl (fun H locs hP hD hS => ?_)
    refine lv_istore_n (lv' := [(2, .int r4), (0, .ref o_h), (1, .int p1)]) hx hb dX10_shutter_14 rfl hl (by decide) rfl (fun ls hl => ?_)
    refine lv_bipush (v := (-4 : Int32)) hx hb dX10_shutter_15 (by decide) ?_
    refine lv_istore_n (lv' := [(3, .int (-4 : Int32)), (2, .int r4), (0, .ref o_h), (1, .int p1)]) hx hb dX10_shutter_17 rfl hl (by decide) rfl (fun ls hl => ?_)
    refine lv_iconst (v := (0 : Int32)) hx hb dX10_shutter_18 (by decide) ?_
    refine lv_istore (lv' := [(4, .int (0 : Int32)), (3, .int (-4 : Int32)), (2, .int r4), (0, .ref o_h), (1, .int p1)]) hx hb dX10_shutter_19 hl (by decide) rfl (fun ls hl => ?_)
    have hL21 : ∀ (n : Nat) (x7 : Int32) (x8 : Int32) (x9 : Int32) (y10 : Nat → Int32) (H : Heap) (locs : List Loc) (ls : Array Slot), va_P E.1 vwCl [oMo o_h o_a0 o_a1 o_a2 o_a3 o_hasImage o_place o_rowAt o_rowEnd o_a8 o_a9 o_seed o_a11 o_a12 o_a13 o_a14 o_a15 o_a16 o_thrown, ai E o_a0 42 o_s, ai E o_a1 42 y10, ai E o_a2 42 o_image, ai E o_a3 42 o_was, ai E o_a8 3 o_numbers, ai E o_a9 8192 o_most, ai E o_a11 8 o_kept, ai E o_a12 8 o_keptKind, ai E o_a13 8 o_keptFigure, ai E o_a14 8 o_sort, ai E o_a15 8 o_size, ai E o_a16 800 o_element] H → va_D A [oMo o_h o_a0 o_a1 o_a2 o_a3 o_hasImage o_place o_rowAt o_rowEnd o_a8 o_a9 o_seed o_a11 o_a12 o_a13 o_a14 o_a15 o_a16 o_thrown, ai E o_a0 42 o_s, ai E o_a1 42 y10, ai E o_a2 42 o_image, ai E o_a3 42 o_was, ai E o_a8 3 o_numbers, ai E o_a9 8192 o_most, ai E o_a11 8 o_kept, ai E o_a12 8 o_keptKind, ai E o_a13 8 o_keptFigure, ai E o_a14 8 o_sort, ai E o_a15 8 o_size, ai E o_a16 800 o_element] → va_S A s.heap H locs → lv_has ls 6 [(4, .int x7), (3, .int x8), (2, .int x9), (0, .ref o_h), (1, .int p1)] → L_X10_shutter_21 N o_s p1 n x7 x8 x9 y10 = some (res, w_o_m) → W p l e ({ frames := 8, cells := 0, slots := 0, locals := 172 }) s m [.ref o_h, .int p1].toArray below meth c H locs 0 0 (MQ below (fun _ st oc t => oc = .returned (some (.int res)) ∧ va_P E.1 vwCl [oMo o_h o_a0 o_a1 o_a2 o_a3 o_hasImage o_place o_rowAt o_rowEnd o_a8 o_a9 o_seed o_a11 o_a12 o_a13 o_a14 o_a15 o_a16 o_thrown, ai E o_a0 42 o_s, ai E o_a1 42 w_o_m, ai E o_a2 42 o_image, ai E o_a3 42 o_was, ai E o_a8 3 o_numbers, ai E o_a9 8192 o_most, ai E o_a11 8 o_kept, ai E o_a12 8 o_keptKind, ai E o_a13 8 o_keptFigure, ai E o_a14 8 o_sort, ai E o_a15 8 o_size, ai E o_a16 800 o_element] t.heap ∧ va_F A st t) [.ref o_h, .int p1].toArray s 0 0 A) (F0 m 21 ls []) := by
      intro n
      induction n with
      | zero => intro x7 x8 x9 y10 H locs ls hP hD hS hl hv; cases hv
      | succ n21 ih21 =>
        intro x7 x8 x9 y10 H locs ls hP hD hS hl hv
        rw [L_X10_shutter_21] at hv
        refine lv_iload hx hb dX10_shutter_21 (lv_at hl 0 rfl) ?_
        refine lv_bipush (v := (10 : Int32)) hx hb dX10_shutter_23 (by decide) ?_
        refine lv_icmp_ge (tgt := 80) hx hb dX10_shutter_25 (by decide) (fun c11 => ?_) (fun c11 => ?_)
        · have hv := if_y c11 hv
          refine lv_iload_n hx hb dX10_shutter_80 rfl (lv_at hl 1 rfl) ?_
          cases hv
          exact W.iret hx hb hr (fun t h9 _ => ⟨rfl, by rw [h9]; exact hP, hS.F h9⟩) hS.2.2 dX10_shutter_81 hlk
        · have hv := if_n c11 hv
          refine lv_aload_n hx hb dX10_shutter_28 rfl (lv_at hl 3 rfl) ?_
          refine va_get (D := E.1) (ci := 4) (v := .ref o_a0) (C := RX10) (T := TX10) (N := 18) hx hb ht i_X10 hown hK hP 0 rfl rfl 0 (by decide) (ht _ kw_4_134) (fun _ h9 => h9) rfl dX10_shutter_29 ?_
          refine lv_aload_n hx hb dX10_shutter_32 rfl (lv_at hl 3 rfl) ?_
          refine va_get (D := E.1) (ci := 4) (v := .ref o_a1) (C := RX10) (T := TX10) (N := 18) hx hb ht i_X10 hown hK hP 0 rfl rfl 1 (by decide) (ht _ kw_4_135) (fun _ h9 => h9) rfl dX10_shutter_33 ?_
          obtain ⟨y12, h13, hv⟩ := ob_s hv
          refine wrS (as := [o_h, o_a0, o_a1, o_a2, o_a3, o_a8, o_a9, o_a11, o_a12, o_a13, o_a14, o_a15, o_a16]) (wr := [oMo o_h o_a0 o_a1 o_a2 o_a3 o_hasImage o_place o_rowAt o_rowEnd o_a8 o_a9 o_seed o_a11 o_a12 o_a13 o_a14 o_a15 o_a16 o_thrown, ai E o_a2 42 o_image, ai E o_a3 42 o_was, ai E o_a8 3 o_numbers, ai E o_a9 8192 o_most, ai E o_a11 8 o_kept, ai E o_a12 8 o_keptKind, ai E o_a13 8 o_keptFigure, ai E o_a14 8 o_sort, ai E o_a15 8 o_size, ai E o_a16 800 o_element]) [1, 2] [0, 3, 4, 5, 6, 7, 8, 9, 10, 11, 12] (ws := [oMo o_h o_a0 o_a1 o_a2 o_a3 o_hasImage o_place o_rowAt o_rowEnd o_a8 o_a9 o_seed o_a11 o_a12 o_a13 o_a14 o_a15 o_a16 o_thrown, ai E o_a0 42 o_s, ai E o_a1 42 y10, ai E o_a2 42 o_image, ai E o_a3 42 o_was, ai E o_a8 3 o_numbers, ai E o_a9 8192 o_most, ai E o_a11 8 o_kept, ai E o_a12 8 o_keptKind, ai E o_a13 8 o_keptFigure, ai E o_a14 8 o_sort, ai E o_a15 8 o_size, ai E o_a16 800 o_element]) (ws' := [oMo o_h o_a0 o_a1 o_a2 o_a3 o_hasImage o_place o_rowAt o_rowEnd o_a8 o_a9 o_seed o_a11 o_a12 o_a13 o_a14 o_a15 o_a16 o_thrown, ai E o_a0 42 o_s, ai E o_a1 42 y12, ai E o_a2 42 o_image, ai E o_a3 42 o_was, ai E o_a8 3 o_numbers, ai E o_a9 8192 o_most, ai E o_a11 8 o_kept, ai E o_a12 8 o_keptKind, ai E o_a13 8 o_keptFigure, ai E o_a14 8 o_sort, ai E o_a15 8 o_size, ai E o_a16 800 o_element]) (rest := []) (st1 := []) hC q_X10_copies kw_4_215 (c_X10_copies l E o_a0 o_a1 o_s y10 N y12 h13) ⟨rfl, rfl⟩ ⟨Nat.le_of_ble_eq_true rfl, Nat.le_of_ble_eq_true rfl⟩ ⟨Nat.zero_le _, Nat.zero_le _⟩ hP hD hS hA hG (by decide) rfl rfl rfl rfl rfl rfl rfl rfl hl.1 rfl (Nat.le_of_ble_eq_true rfl) dX10_shutter_36 rfl (fun H locs hP hD hS => ?_)
          refine lv_aload_n hx hb dX10_shutter_39 rfl (lv_at hl 3 rfl) ?_
          refine va_get (D := E.1) (ci := 4) (v := .ref o_a1) (C := RX10) (T := TX10) (N := 18) hx hb ht i_X10 hown hK hP 0 rfl rfl 1 (by decide) (ht _ kw_4_135) (fun _ h9 => h9) rfl dX10_shutter_40 ?_
          refine lv_iconst (v := (3 : Int32)) hx hb dX10_shutter_43 (by decide) ?_
          refine lv_dup2_11 hx hb dX10_shutter_44 rfl rfl ?_
          refine va_iald hx hb hK hP 2 0 rfl rfl (ix_s (by decide)) dX10_shutter_45 ?_
          refine W.eq (g2 := F0 m 46 ls [.int (y12 3), .int (3 : Int32), .ref o_a1]) rfl ?_
          refine lv_iconst (v := (1 : Int32)) hx hb dX10_shutter_46 (by decide) ?_
          refine lv_iload hx hb dX10_shutter_47 (lv_at hl 0 rfl) ?_
          refine lv_ishl hx hb dX10_shutter_49 ?_
          refine lv_ixor hx hb dX10_shutter_50 ?_
          refine va_iast hx hb hK hP hD hS 2 0 rfl rfl (ix_s (by decide)) dX10_shutter_51 (fun H locs hP hD hS => ?_)
          have hP : va_P E.1 vwCl [oMo o_h o_a0 o_a1 o_a2 o_a3 o_hasImage o_place o_rowAt o_rowEnd o_a8 o_a9 o_seed o_a11 o_a12 o_a13 o_a14 o_a15 o_a16 o_thrown, ai E o_a0 42 o_s, ai E o_a1 42 (upd y12 3 ((y12 3) ^^^ ((1 : Int32) <<< (x7 &&& 31)))), ai E o_a2 42 o_image, ai E o_a3 42 o_was, ai E o_a8 3 o_numbers, ai E o_a9 8192 o_most, ai E o_a11 8 o_kept, ai E o_a12 8 o_keptKind, ai E o_a13 8 o_keptFigure, ai E o_a14 8 o_sort, ai E o_a15 8 o_size, ai E o_a16 800 o_element] H := hP
          have hD : va_D A [oMo o_h o_a0 o_a1 o_a2 o_a3 o_hasImage o_place o_rowAt o_rowEnd o_a8 o_a9 o_seed o_a11 o_a12 o_a13 o_a14 o_a15 o_a16 o_thrown, ai E o_a0 42 o_s, ai E o_a1 42 (upd y12 3 ((y12 3) ^^^ ((1 : Int32) <<< (x7 &&& 31)))), ai E o_a2 42 o_image, ai E o_a3 42 o_was, ai E o_a8 3 o_numbers, ai E o_a9 8192 o_most, ai E o_a11 8 o_kept, ai E o_a12 8 o_keptKind, ai E o_a13 8 o_keptFigure, ai E o_a14 8 o_sort, ai E o_a15 8 o_size, ai E o_a16 800 o_element] := hD
          obtain ⟨f14, ef14⟩ : ∃ z, z = (upd y12 3 ((y12 3) ^^^ ((1 : Int32) <<< (x7 &&& 31)))) := ⟨_, rfl⟩
          rw [← ef14] at hP hD
          have hv := nm_s ef14 hv
          refine lv_aload_n hx hb dX10_shutter_52 rfl (lv_at hl 3 rfl) ?_
          refine lv_iload_n hx hb dX10_shutter_53 rfl (lv_at hl 4 rfl) ?_
          obtain ⟨⟨r15, y16⟩, h17, hv⟩ := ob_s hv
          refine wrV (as := [o_h, o_a0, o_a1, o_a2, o_a3, o_a8, o_a9, o_a11, o_a12, o_a13, o_a14, o_a15, o_a16]) (wr := []) [0, 1, 2, 3, 4, 5, 6, 7, 8, 9, 10, 11, 12] [] 4 0 (ws := [oMo o_h o_a0 o_a1 o_a2 o_a3 o_hasImage o_place o_rowAt o_rowEnd o_a8 o_a9 o_seed o_a11 o_a12 o_a13 o_a14 o_a15 o_a16 o_thrown, ai E o_a0 42 o_s, ai E o_a1 42 f14, ai E o_a2 42 o_image, ai E o_a3 42 o_was, ai E o_a8 3 o_numbers, ai E o_a9 8192 o_most, ai E o_a11 8 o_kept, ai E o_a12 8 o_keptKind, ai E o_a13 8 o_keptFigure, ai E o_a14 8 o_sort, ai E o_a15 8 o_size, ai E o_a16 800 o_element]) (ws' := [oMo o_h o_a0 o_a1 o_a2 o_a3 o_hasImage o_place o_rowAt o_rowEnd o_a8 o_a9 o_seed o_a11 o_a12 o_a13 o_a14 o_a15 o_a16 o_thrown, ai E o_a0 42 o_s, ai E o_a1 42 y16, ai E o_a2 42 o_image, ai E o_a3 42 o_was, ai E o_a8 3 o_numbers, ai E o_a9 8192 o_most, ai E o_a11 8 o_kept, ai E o_a12 8 o_keptKind, ai E o_a13 8 o_keptFigure, ai E o_a14 8 o_sort, ai E o_a15 8 o_size, ai E o_a16 800 o_element]) (As := [.int p1]) (rest := []) (st1 := [.int r15]) hC q_X10_holdsIn kw_5_128 (c_X10_holdsIn l E o_h o_a0 o_a1 o_a2 o_a3 o_a8 o_a9 o_a11 o_a12 o_a13 o_a14 o_a15 o_a16 o_s f14 o_image o_was o_hasImage o_place o_rowAt o_rowEnd o_numbers o_most o_seed o_kept o_keptKind o_keptFigure o_sort o_size o_element o_thrown p1 N r15 y16 h17) ⟨rfl, rfl⟩ ⟨Nat.le_of_ble_eq_true rfl, Nat.le_of_ble_eq_true rfl⟩ ⟨Nat.zero_le _, Nat.zero_le _⟩ hP hD hS hA rfl rfl rfl hG (by decide) rfl rfl rfl rfl rfl rfl rfl rfl hl.1 rfl (Nat.le_of_ble_eq_true rfl) dX10_shutter_54 rfl (fun H locs hP hD hS => ?_)
          refine lv_istore (lv' := [(5, .int r15), (4, .int x7), (3, .int x8), (2, .int x9), (0, .ref o_h), (1, .int p1)]) hx hb dX10_shutter_57 hl (by decide) rfl (fun ls hl => ?_)
          refine lv_iload hx hb dX10_shutter_59 (lv_at hl 0 rfl) ?_
          refine lv_iload_n hx hb dX10_shutter_61 rfl (lv_at hl 3 rfl) ?_
          refine lv_icmp_gt (tgt := 68) hx hb dX10_shutter_62 (by decide) (fun c18 => ?_) (fun c18 => ?_)
          · have hv := if_y c18 hv
            refine lv_iload hx hb dX10_shutter_68 (lv_at hl 1 rfl) ?_
            refine lv_istore_n (lv' := [(3, .int x7), (5, .int r15), (4, .int x7), (2, .int x9), (0, .ref o_h), (1, .int p1)]) hx hb dX10_shutter_70 rfl hl (by decide) rfl (fun ls hl => ?_)
            refine lv_iload hx hb dX10_shutter_71 (lv_at hl 1 rfl) ?_
            refine lv_istore_n (lv' := [(2, .int r15), (3, .int x7), (5, .int r15), (4, .int x7), (0, .ref o_h), (1, .int p1)]) hx hb dX10_shutter_73 rfl hl (by decide) rfl (fun ls hl => ?_)
            refine lv_iinc (v := (x7 + (1 : Int32))) (lv' := [(4, .int (x7 + (1 : Int32))), (2, .int r15), (3, .int x7), (5, .int r15), (0, .ref o_h), (1, .int p1)]) hx hb dX10_shutter_74 hl (k := 3) rfl rfl (by decide) rfl (fun ls hl => ?_)
            refine lv_goto (tgt := 21) hx hb dX10_shutter_77 (by decide) ?_
            exact ih21 (x7 + (1 : Int32)) x7 r15 y16 _ _ _ hP hD hS (lv_sub hl [0, 2, 1, 4, 5] rfl) hv
          · have hv := if_n c18 hv
            refine lv_goto (tgt := 74) hx hb dX10_shutter_65 (by decide) ?_
            refine lv_iinc (v := (x7 + (1 : Int32))) (lv' := [(4, .int (x7 + (1 : Int32))), (5, .int r15), (3, .int x8), (2, .int x9), (0, .ref o_h), (1, .int p1)]) hx hb dX10_shutter_74 hl (k := 1) rfl rfl (by decide) rfl (fun ls hl => ?_)
            refine lv_goto (tgt := 21) hx hb dX10_shutter_77 (by decide) ?_
            exact ih21 (x7 + (1 : Int32)) x8 x9 y16 _ _ _ hP hD hS (lv_sub hl [0, 2, 3, 4, 5] rfl) hv
    exact hL21 N (0 : Int32) (-4 : Int32) r4 y5 _ _ _ hP hD hS (lv_sub hl [0, 1, 2, 3, 4] rfl) hv
  · have hv := if_y c3 hv
    refine lv_iconst (v := (-1 : Int32)) hx hb dX10_shutter_7 (by decide) ?_
    refine lv_topi (fun z19 ez19 => ?_)
    have hv := nm_s ez19 hv
    cases hv
    exact W.iret hx hb hr (fun t h9 _ => ⟨rfl, by rw [h9]; exact hP, hS.F h9⟩) hS.2.2 dX10_shutter_8 hlk
theorem dX10_quotaMost_0 : decode cX10_quotaMost 0 = .ok (.bipush 99, 2) := by decide +kernel
theorem dX10_quotaMost_2 : decode cX10_quotaMost 2 = .ok (.istore_n 1, 1) := by decide +kernel
theorem dX10_quotaMost_3 : decode cX10_quotaMost 3 = .ok (.iload_n 1, 1) := by decide +kernel
theorem dX10_quotaMost_4 : decode cX10_quotaMost 4 = .ok (.iconst 1, 1) := by decide +kernel
theorem dX10_quotaMost_5 : decode cX10_quotaMost 5 = .ok (.if_icmp .lt 39, 3) := by decide +kernel
theorem dX10_quotaMost_8 : decode cX10_quotaMost 8 = .ok (.aload_n 0, 1) := by decide +kernel
theorem dX10_quotaMost_9 : decode cX10_quotaMost 9 = .ok (.getfield 9, 3) := by decide +kernel
theorem dX10_quotaMost_12 : decode cX10_quotaMost 12 = .ok (.aload_n 0, 1) := by decide +kernel
theorem dX10_quotaMost_13 : decode cX10_quotaMost 13 = .ok (.getfield 13, 3) := by decide +kernel
theorem dX10_quotaMost_16 : decode cX10_quotaMost 16 = .ok (.invokestatic 148, 3) := by decide +kernel
theorem dX10_quotaMost_19 : decode cX10_quotaMost 19 = .ok (.aload_n 0, 1) := by decide +kernel
theorem dX10_quotaMost_20 : decode cX10_quotaMost 20 = .ok (.getfield 13, 3) := by decide +kernel
theorem dX10_quotaMost_23 : decode cX10_quotaMost 23 = .ok (.iconst 2, 1) := by decide +kernel
theorem dX10_quotaMost_24 : decode cX10_quotaMost 24 = .ok (.iload_n 1, 1) := by decide +kernel
theorem dX10_quotaMost_25 : decode cX10_quotaMost 25 = .ok (.iastore, 1) := by decide +kernel
theorem dX10_quotaMost_26 : decode cX10_quotaMost 26 = .ok (.aload_n 0, 1) := by decide +kernel
theorem dX10_quotaMost_27 : decode cX10_quotaMost 27 = .ok (.getfield 13, 3) := by decide +kernel
theorem dX10_quotaMost_30 : decode cX10_quotaMost 30 = .ok (.invokestatic 163, 3) := by decide +kernel
theorem dX10_quotaMost_33 : decode cX10_quotaMost 33 = .ok (.ifCond .eq 5, 3) := by decide +kernel
theorem dX10_quotaMost_36 : decode cX10_quotaMost 36 = .ok (.iload_n 1, 1) := by decide +kernel
theorem dX10_quotaMost_37 : decode cX10_quotaMost 37 = .ok (.ireturn, 1) := by decide +kernel
theorem dX10_quotaMost_38 : decode cX10_quotaMost 38 = .ok (.iinc 1 (-1), 3) := by decide +kernel
theorem dX10_quotaMost_41 : decode cX10_quotaMost 41 = .ok (.goto (-38), 3) := by decide +kernel
theorem dX10_quotaMost_44 : decode cX10_quotaMost 44 = .ok (.bipush (-4), 2) := by decide +kernel
theorem dX10_quotaMost_46 : decode cX10_quotaMost 46 = .ok (.ireturn, 1) := by decide +kernel
def L_X10_quotaMost_3 (N : Nat) (o_s : Nat → Int32) : Nat → Int32 → (Nat → Int32) → Option (Int32 × (Nat → Int32))
  | 0, _, _ => none
  | n3 + 1, x1, y2 => if x1 < (1 : Int32) then nm (-4 : Int32) (fun z4 => some (z4, y2)) else ob (f_X10_copies N o_s y2) (fun y5 => nm (upd y5 2 x1) (fun f7 => ob (f_X10_doesCarry N f7) (fun r8 => if r8 = 0 then L_X10_quotaMost_3 N o_s n3 (x1 + (-1 : Int32)) f7 else some (x1, f7))))
def f_X10_quotaMost (N : Nat) (o_s : Nat → Int32) (o_m : Nat → Int32) : Option (Int32 × (Nat → Int32)) := L_X10_quotaMost_3 N o_s N (99 : Int32) o_m
set_option maxHeartbeats 4000000 in
set_option maxRecDepth 100000 in
theorem c_X10_quotaMost (l : Launch) (E : EE) (o_h : Nat) (o_a0 : Nat) (o_a1 : Nat) (o_a2 : Nat) (o_a3 : Nat) (o_a8 : Nat) (o_a9 : Nat) (o_a11 : Nat) (o_a12 : Nat) (o_a13 : Nat) (o_a14 : Nat) (o_a15 : Nat) (o_a16 : Nat) (o_s : Nat → Int32) (o_m : Nat → Int32) (o_image : Nat → Int32) (o_was : Nat → Int32) (o_hasImage : Int32) (o_place : Int32) (o_rowAt : Int32) (o_rowEnd : Int32) (o_numbers : Nat → Int32) (o_most : Nat → Int32) (o_seed : Int32) (o_kept : Nat → Int32) (o_keptKind : Nat → Int32) (o_keptFigure : Nat → Int32) (o_sort : Nat → Int32) (o_size : Nat → Int32) (o_element : Nat → Int32) (o_thrown : Int32) (N : Nat) (res : Int32) (w_o_m : Nat → Int32) (hv : f_X10_quotaMost N o_s o_m = some (res, w_o_m)) : Wr l E yX10_quotaMost cX10_quotaMost 2 (some .int) ({ frames := 6, cells := 0, slots := 0, locals := 128 }) [.ref o_h] [oMo o_h o_a0 o_a1 o_a2 o_a3 o_hasImage o_place o_rowAt o_rowEnd o_a8 o_a9 o_seed o_a11 o_a12 o_a13 o_a14 o_a15 o_a16 o_thrown, ai E o_a0 42 o_s, ai E o_a1 42 o_m, ai E o_a2 42 o_image, ai E o_a3 42 o_was, ai E o_a8 3 o_numbers, ai E o_a9 8192 o_most, ai E o_a11 8 o_kept, ai E o_a12 8 o_keptKind, ai E o_a13 8 o_keptFigure, ai E o_a14 8 o_sort, ai E o_a15 8 o_size, ai E o_a16 800 o_element] [oMo o_h o_a0 o_a1 o_a2 o_a3 o_hasImage o_place o_rowAt o_rowEnd o_a8 o_a9 o_seed o_a11 o_a12 o_a13 o_a14 o_a15 o_a16 o_thrown, ai E o_a0 42 o_s, ai E o_a1 42 w_o_m, ai E o_a2 42 o_image, ai E o_a3 42 o_was, ai E o_a8 3 o_numbers, ai E o_a9 8192 o_most, ai E o_a11 8 o_kept, ai E o_a12 8 o_keptKind, ai E o_a13 8 o_keptFigure, ai E o_a14 8 o_sort, ai E o_a15 8 o_size, ai E o_a16 800 o_element] (some (.int res)) := by
  refine Wr.intro RX10 (by decide) rfl (Nat.le_of_ble_eq_true rfl) ?_
  intro p e s m below meth c ls A hC hr hlk hmn hP hD hS hA hG hl
  obtain ⟨hx, hb, hml, hown, ht⟩ := id hC
  have hK := hG.1
  have hl : lv_has ls 2 [(0, .ref o_h)] := hl
  rw [f_X10_quotaMost] at hv
  refine lv_bipush (v := (99 : Int32)) hx hb dX10_quotaMost_0 (by decide) ?_
  refine lv_istore_n (lv' := [(1, .int (99 : Int32)), (0, .ref o_h)]) hx hb dX10_quotaMost_2 rfl hl (by decide) rfl (fun ls hl => ?_)
  have hL3 : ∀ (n : Nat) (x1 : Int32) (y2 : Nat → Int32) (H : Heap) (locs : List Loc) (ls : Array Slot), va_P E.1 vwCl [oMo o_h o_a0 o_a1 o_a2 o_a3 o_hasImage o_place o_rowAt o_rowEnd o_a8 o_a9 o_seed o_a11 o_a12 o_a13 o_a14 o_a15 o_a16 o_thrown, ai E o_a0 42 o_s, ai E o_a1 42 y2, ai E o_a2 42 o_image, ai E o_a3 42 o_was, ai E o_a8 3 o_numbers, ai E o_a9 8192 o_most, ai E o_a11 8 o_kept, ai E o_a12 8 o_keptKind, ai E o_a13 8 o_keptFigure, ai E o_a14 8 o_sort, ai E o_a15 8 o_size, ai E o_a16 800 o_element] H → va_D A [oMo o_h o_a0 o_a1 o_a2 o_a3 o_hasImage o_place o_rowAt o_rowEnd o_a8 o_a9 o_seed o_a11 o_a12 o_a13 o_a14 o_a15 o_a16 o_thrown, ai E o_a0 42 o_s, ai E o_a1 42 y2, ai E o_a2 42 o_image, ai E o_a3 42 o_was, ai E o_a8 3 o_numbers, ai E o_a9 8192 o_most, ai E o_a11 8 o_kept, ai E o_a12 8 o_keptKind, ai E o_a13 8 o_keptFigure, ai E o_a14 8 o_sort, ai E o_a15 8 o_size, ai E o_a16 800 o_element] → va_S A s.heap H locs → lv_has ls 2 [(1, .int x1), (0, .ref o_h)] → L_X10_quotaMost_3 N o_s n x1 y2 = some (res, w_o_m) → W p l e ({ frames := 6, cells := 0, slots := 0, locals := 128 }) s m [.ref o_h].toArray below meth c H locs 0 0 (MQ below (fun _ st oc t => oc = .returned (some (.int res)) ∧ va_P E.1 vwCl [oMo o_h o_a0 o_a1 o_a2 o_a3 o_hasImage o_place o_rowAt o_rowEnd o_a8 o_a9 o_seed o_a11 o_a12 o_a13 o_a14 o_a15 o_a16 o_thrown, ai E o_a0 42 o_s, ai E o_a1 42 w_o_m, ai E o_a2 42 o_image, ai E o_a3 42 o_was, ai E o_a8 3 o_numbers, ai E o_a9 8192 o_most, ai E o_a11 8 o_kept, ai E o_a12 8 o_keptKind, ai E o_a13 8 o_keptFigure, ai E o_a14 8 o_sort, ai E o_a15 8 o_size, ai E o_a16 800 o_element] t.heap ∧ va_F A st t) [.ref o_h].toArray s 0 0 A) (F0 m 3 ls []) := by
    intro n
    induction n with
    | zero => intro x1 y2 H locs ls hP hD hS hl hv; cases hv
    | succ n3 ih3 =>
      intro x1 y2 H locs ls hP hD hS hl hv
      rw [L_X10_quotaMost_3] at hv
      refine lv_iload_n hx hb dX10_quotaMost_3 rfl (lv_at hl 0 rfl) ?_
      refine lv_iconst (v := (1 : Int32)) hx hb dX10_quotaMost_4 (by decide) ?_
      refine lv_icmp_lt (tgt := 44) hx hb dX10_quotaMost_5 (by decide) (fun c3 => ?_) (fun c3 => ?_)
      · have hv := if_y c3 hv
        refine lv_bipush (v := (-4 : Int32)) hx hb dX10_quotaMost_44 (by decide) ?_
        refine lv_topi (fun z4 ez4 => ?_)
        have hv := nm_s ez4 hv
        cases hv
        exact W.iret hx hb hr (fun t h9 _ => ⟨rfl, by rw [h9]; exact hP, hS.F h9⟩) hS.2.2 dX10_quotaMost_46 hlk
      · have hv := if_n c3 hv
        refine lv_aload_n hx hb dX10_quotaMost_8 rfl (lv_at hl 1 rfl) ?_
        refine va_get (D := E.1) (ci := 4) (v := .ref o_a0) (C := RX10) (T := TX10) (N := 18) hx hb ht i_X10 hown hK hP 0 rfl rfl 0 (by decide) (ht _ kw_4_134) (fun _ h9 => h9) rfl dX10_quotaMost_9 ?_
        refine lv_aload_n hx hb dX10_quotaMost_12 rfl (lv_at hl 1 rfl) ?_
        refine va_get (D := E.1) (ci := 4) (v := .ref o_a1) (C := RX10) (T := TX10) (N := 18) hx hb ht i_X10 hown hK hP 0 rfl rfl 1 (by decide) (ht _ kw_4_135) (fun _ h9 => h9) rfl dX10_quotaMost_13 ?_
        obtain ⟨y5, h6, hv⟩ := ob_s hv
        refine wrS (as := [o_h, o_a0, o_a1, o_a2, o_a3, o_a8, o_a9, o_a11, o_a12, o_a13, o_a14, o_a15, o_a16]) (wr := [oMo o_h o_a0 o_a1 o_a2 o_a3 o_hasImage o_place o_rowAt o_rowEnd o_a8 o_a9 o_seed o_a11 o_a12 o_a13 o_a14 o_a15 o_a16 o_thrown, ai E o_a2 42 o_image, ai E o_a3 42 o_was, ai E o_a8 3 o_numbers, ai E o_a9 8192 o_most, ai E o_a11 8 o_kept, ai E o_a12 8 o_keptKind, ai E o_a13 8 o_keptFigure, ai E o_a14 8 o_sort, ai E o_a15 8 o_size, ai E o_a16 800 o_element]) [1, 2] [0, 3, 4, 5, 6, 7, 8, 9, 10, 11, 12] (ws := [oMo o_h o_a0 o_a1 o_a2 o_a3 o_hasImage o_place o_rowAt o_rowEnd o_a8 o_a9 o_seed o_a11 o_a12 o_a13 o_a14 o_a15 o_a16 o_thrown, ai E o_a0 42 o_s, ai E o_a1 42 y2, ai E o_a2 42 o_image, ai E o_a3 42 o_was, ai E o_a8 3 o_numbers, ai E o_a9 8192 o_most, ai E o_a11 8 o_kept, ai E o_a12 8 o_keptKind, ai E o_a13 8 o_keptFigure, ai E o_a14 8 o_sort, ai E o_a15 8 o_size, ai E o_a16 800 o_element]) (ws' := [oMo o_h o_a0 o_a1 o_a2 o_a3 o_hasImage o_place o_rowAt o_rowEnd o_a8 o_a9 o_seed o_a11 o_a12 o_a13 o_a14 o_a15 o_a16 o_thrown, ai E o_a0 42 o_s, ai E o_a1 42 y5, ai E o_a2 42 o_image, ai E o_a3 42 o_was, ai E o_a8 3 o_numbers, ai E o_a9 8192 o_most, ai E o_a11 8 o_kept, ai E o_a12 8 o_keptKind, ai E o_a13 8 o_keptFigure, ai E o_a14 8 o_sort, ai E o_a15 8 o_size, ai E o_a16 800 o_element]) (rest := []) (st1 := []) hC q_X10_copies kw_4_215 (c_X10_copies l E o_a0 o_a1 o_s y2 N y5 h6) ⟨rfl, rfl⟩ ⟨Nat.le_of_ble_eq_true rfl, Nat.le_of_ble_eq_true rfl⟩ ⟨Nat.zero_le _, Nat.zero_le _⟩ hP hD hS hA hG (by decide) rfl rfl rfl rfl rfl rfl rfl rfl hl.1 rfl (Nat.le_of_ble_eq_true rfl) dX10_quotaMost_16 rfl (fun H locs hP hD hS => ?_)
        refine lv_aload_n hx hb dX10_quotaMost_19 rfl (lv_at hl 1 rfl) ?_
        refine va_get (D := E.1) (ci := 4) (v := .ref o_a1) (C := RX10) (T := TX10) (N := 18) hx hb ht i_X10 hown hK hP 0 rfl rfl 1 (by decide) (ht _ kw_4_135) (fun _ h9 => h9) rfl dX10_quotaMost_20 ?_
        refine lv_iconst (v := (2 : Int32)) hx hb dX10_quotaMost_23 (by decide) ?_
        refine lv_iload_n hx hb dX10_quotaMost_24 rfl (lv_at hl 0 rfl) ?_
        refine va_iast hx hb hK hP hD hS 2 0 rfl rfl (ix_s (by decide)) dX10_quotaMost_25 (fun H locs hP hD hS => ?_)
        have hP : va_P E.1 vwCl [oMo o_h o_a0 o_a1 o_a2 o_a3 o_hasImage o_place o_rowAt o_rowEnd o_a8 o_a9 o_seed o_a11 o_a12 o_a13 o_a14 o_a15 o_a16 o_thrown, ai E o_a0 42 o_s, ai E o_a1 42 (upd y5 2 x1), ai E o_a2 42 o_image, ai E o_a3 42 o_was, ai E o_a8 3 o_numbers, ai E o_a9 8192 o_most, ai E o_a11 8 o_kept, ai E o_a12 8 o_keptKind, ai E o_a13 8 o_keptFigure, ai E o_a14 8 o_sort, ai E o_a15 8 o_size, ai E o_a16 800 o_element] H := hP
        have hD : va_D A [oMo o_h o_a0 o_a1 o_a2 o_a3 o_hasImage o_place o_rowAt o_rowEnd o_a8 o_a9 o_seed o_a11 o_a12 o_a13 o_a14 o_a15 o_a16 o_thrown, ai E o_a0 42 o_s, ai E o_a1 42 (upd y5 2 x1), ai E o_a2 42 o_image, ai E o_a3 42 o_was, ai E o_a8 3 o_numbers, ai E o_a9 8192 o_most, ai E o_a11 8 o_kept, ai E o_a12 8 o_keptKind, ai E o_a13 8 o_keptFigure, ai E o_a14 8 o_sort, ai E o_a15 8 o_size, ai E o_a16 800 o_element] := hD
        obtain ⟨f7, ef7⟩ : ∃ z, z = (upd y5 2 x1) := ⟨_, rfl⟩
        rw [← ef7] at hP hD
        have hv := nm_s ef7 hv
        refine lv_aload_n hx hb dX10_quotaMost_26 rfl (lv_at hl 1 rfl) ?_
        refine va_get (D := E.1) (ci := 4) (v := .ref o_a1) (C := RX10) (T := TX10) (N := 18) hx hb ht i_X10 hown hK hP 0 rfl rfl 1 (by decide) (ht _ kw_4_135) (fun _ h9 => h9) rfl dX10_quotaMost_27 ?_
        obtain ⟨r8, h9, hv⟩ := ob_s hv
        refine rdS (rest := []) (st1 := [.int r8]) (w := [ai E o_a1 42 f7]) hC q_X10_doesCarry kw_5_70 (c_X10_doesCarry l E o_a1 f7 N r8 h9) ⟨rfl, rfl⟩ ⟨Nat.le_of_ble_eq_true rfl, Nat.le_of_ble_eq_true rfl⟩ ⟨Nat.zero_le _, Nat.zero_le _⟩ (hP.sub (ws' := [ai E o_a1 42 f7]) [2] rfl) hG rfl hl.1 rfl (Nat.le_of_ble_eq_true rfl) dX10_quotaMost_30 rfl ?_
        refine lv_if_eq (tgt := 38) hx hb dX10_quotaMost_33 (by decide) (fun c10 => ?_) (fun c10 => ?_)
        · have hv := if_y c10 hv
          refine lv_iinc (v := (x1 + (-1 : Int32))) (lv' := [(1, .int (x1 + (-1 : Int32))), (0, .ref o_h)]) hx hb dX10_quotaMost_38 hl (k := 0) rfl rfl (by decide) rfl (fun ls hl => ?_)
          refine lv_goto (tgt := 3) hx hb dX10_quotaMost_41 (by decide) ?_
          exact ih3 (x1 + (-1 : Int32)) f7 _ _ _ hP hD hS (lv_sub hl [0, 1] rfl) hv
        · have hv := if_n c10 hv
          refine lv_iload_n hx hb dX10_quotaMost_36 rfl (lv_at hl 0 rfl) ?_
          cases hv
          exact W.iret hx hb hr (fun t h9 _ => ⟨rfl, by rw [h9]; exact hP, hS.F h9⟩) hS.2.2 dX10_quotaMost_37 hlk
  exact hL3 N (99 : Int32) o_m _ _ _ hP hD hS (lv_sub hl [0, 1] rfl) hv
theorem dX10_weightAt_0 : decode cX10_weightAt 0 = .ok (.aload_n 0, 1) := by decide +kernel
theorem dX10_weightAt_1 : decode cX10_weightAt 1 = .ok (.getfield 9, 3) := by decide +kernel
theorem dX10_weightAt_4 : decode cX10_weightAt 4 = .ok (.iload_n 1, 1) := by decide +kernel
theorem dX10_weightAt_5 : decode cX10_weightAt 5 = .ok (.iconst 0, 1) := by decide +kernel
theorem dX10_weightAt_6 : decode cX10_weightAt 6 = .ok (.invokestatic 50, 3) := by decide +kernel
theorem dX10_weightAt_9 : decode cX10_weightAt 9 = .ok (.iaload, 1) := by decide +kernel
theorem dX10_weightAt_10 : decode cX10_weightAt 10 = .ok (.aload_n 0, 1) := by decide +kernel
theorem dX10_weightAt_11 : decode cX10_weightAt 11 = .ok (.getfield 9, 3) := by decide +kernel
theorem dX10_weightAt_14 : decode cX10_weightAt 14 = .ok (.iload_n 1, 1) := by decide +kernel
theorem dX10_weightAt_15 : decode cX10_weightAt 15 = .ok (.iconst 1, 1) := by decide +kernel
theorem dX10_weightAt_16 : decode cX10_weightAt 16 = .ok (.invokestatic 50, 3) := by decide +kernel
theorem dX10_weightAt_19 : decode cX10_weightAt 19 = .ok (.iaload, 1) := by decide +kernel
theorem dX10_weightAt_20 : decode cX10_weightAt 20 = .ok (.iload_n 2, 1) := by decide +kernel
theorem dX10_weightAt_21 : decode cX10_weightAt 21 = .ok (.invokestatic 58, 3) := by decide +kernel
theorem dX10_weightAt_24 : decode cX10_weightAt 24 = .ok (.ireturn, 1) := by decide +kernel
def f_X10_weightAt (o_s : Nat → Int32) (p1 : Int32) (p2 : Int32) : Option (Int32) := ob (f_X10_of p1 (0 : Int32)) (fun r1 => gd (ix r1 42) (ob (f_X10_of p1 (1 : Int32)) (fun r4 => gd (ix r4 42) (ob (f_X10_weightBy (o_s r1.toNatClampNeg) (o_s r4.toNatClampNeg) p2) (fun r7 => some r7)))))
set_option maxHeartbeats 4000000 in
set_option maxRecDepth 100000 in
theorem c_X10_weightAt (l : Launch) (E : EE) (o_h : Nat) (o_a0 : Nat) (o_a1 : Nat) (o_a2 : Nat) (o_a3 : Nat) (o_a8 : Nat) (o_a9 : Nat) (o_a11 : Nat) (o_a12 : Nat) (o_a13 : Nat) (o_a14 : Nat) (o_a15 : Nat) (o_a16 : Nat) (o_s : Nat → Int32) (o_m : Nat → Int32) (o_image : Nat → Int32) (o_was : Nat → Int32) (o_hasImage : Int32) (o_place : Int32) (o_rowAt : Int32) (o_rowEnd : Int32) (o_numbers : Nat → Int32) (o_most : Nat → Int32) (o_seed : Int32) (o_kept : Nat → Int32) (o_keptKind : Nat → Int32) (o_keptFigure : Nat → Int32) (o_sort : Nat → Int32) (o_size : Nat → Int32) (o_element : Nat → Int32) (o_thrown : Int32) (p1 : Int32) (p2 : Int32) (res : Int32) (hv : f_X10_weightAt o_s p1 p2 = some res) : Rd l E yX10_weightAt cX10_weightAt 3 (some .int) ({ frames := 1, cells := 0, slots := 0, locals := 22 }) [.ref o_h, .int p1, .int p2] [oMo o_h o_a0 o_a1 o_a2 o_a3 o_hasImage o_place o_rowAt o_rowEnd o_a8 o_a9 o_seed o_a11 o_a12 o_a13 o_a14 o_a15 o_a16 o_thrown, ai E o_a0 42 o_s, ai E o_a1 42 o_m, ai E o_a2 42 o_image, ai E o_a3 42 o_was, ai E o_a8 3 o_numbers, ai E o_a9 8192 o_most, ai E o_a11 8 o_kept, ai E o_a12 8 o_keptKind, ai E o_a13 8 o_keptFigure, ai E o_a14 8 o_sort, ai E o_a15 8 o_size, ai E o_a16 800 o_element] (some (.int res)) := by
  refine Rd.intro RX10 (by decide) rfl (Nat.le_of_ble_eq_true rfl) ?_
  intro p e s m below meth c ls hC hr hlk hP hG hl
  obtain ⟨hx, hb, hml, hown, ht⟩ := id hC
  have hK := hG.1
  have hl : lv_has ls 3 [(0, .ref o_h), (1, .int p1), (2, .int p2)] := hl
  rw [f_X10_weightAt] at hv
  refine lv_aload_n hx hb dX10_weightAt_0 rfl (lv_at hl 0 rfl) ?_
  refine va_get (D := E.1) (ci := 4) (v := .ref o_a0) (C := RX10) (T := TX10) (N := 18) hx hb ht i_X10 hown hK hP 0 rfl rfl 0 (by decide) (ht _ kw_4_134) (fun _ h9 => h9) rfl dX10_weightAt_1 ?_
  refine lv_iload_n hx hb dX10_weightAt_4 rfl (lv_at hl 1 rfl) ?_
  refine lv_iconst (v := (0 : Int32)) hx hb dX10_weightAt_5 (by decide) ?_
  obtain ⟨r1, h2, hv⟩ := ob_s hv
  refine rdS (rest := [.ref o_a0]) (st1 := [.int r1, .ref o_a0]) (w := []) hC q_X10_of kw_4_226 (c_X10_of l E p1 (0 : Int32) r1 h2) ⟨rfl, rfl⟩ ⟨Nat.le_of_ble_eq_true rfl, Nat.le_of_ble_eq_true rfl⟩ ⟨Nat.zero_le _, Nat.zero_le _⟩ (hP.sub (ws' := []) [] rfl) hG rfl hl.1 rfl (Nat.le_of_ble_eq_true rfl) dX10_weightAt_6 rfl ?_
  obtain ⟨g3, hv⟩ := gd_s hv
  refine va_iald hx hb hK hP 1 0 rfl rfl (ix_s g3) dX10_weightAt_9 ?_
  refine lv_aload_n hx hb dX10_weightAt_10 rfl (lv_at hl 0 rfl) ?_
  refine va_get (D := E.1) (ci := 4) (v := .ref o_a0) (C := RX10) (T := TX10) (N := 18) hx hb ht i_X10 hown hK hP 0 rfl rfl 0 (by decide) (ht _ kw_4_134) (fun _ h9 => h9) rfl dX10_weightAt_11 ?_
  refine lv_iload_n hx hb dX10_weightAt_14 rfl (lv_at hl 1 rfl) ?_
  refine lv_iconst (v := (1 : Int32)) hx hb dX10_weightAt_15 (by decide) ?_
  obtain ⟨r4, h5, hv⟩ := ob_s hv
  refine rdS (rest := [.ref o_a0, .int (o_s r1.toNatClampNeg)]) (st1 := [.int r4, .ref o_a0, .int (o_s r1.toNatClampNeg)]) (w := []) hC q_X10_of kw_4_226 (c_X10_of l E p1 (1 : Int32) r4 h5) ⟨rfl, rfl⟩ ⟨Nat.le_of_ble_eq_true rfl, Nat.le_of_ble_eq_true rfl⟩ ⟨Nat.zero_le _, Nat.zero_le _⟩ (hP.sub (ws' := []) [] rfl) hG rfl hl.1 rfl (Nat.le_of_ble_eq_true rfl) dX10_weightAt_16 rfl ?_
  obtain ⟨g6, hv⟩ := gd_s hv
  refine va_iald hx hb hK hP 1 0 rfl rfl (ix_s g6) dX10_weightAt_19 ?_
  refine lv_iload_n hx hb dX10_weightAt_20 rfl (lv_at hl 2 rfl) ?_
  obtain ⟨r7, h8, hv⟩ := ob_s hv
  refine rdS (rest := []) (st1 := [.int r7]) (w := []) hC q_X10_weightBy kw_5_27 (c_X10_weightBy l E (o_s r1.toNatClampNeg) (o_s r4.toNatClampNeg) p2 r7 h8) ⟨rfl, rfl⟩ ⟨Nat.le_of_ble_eq_true rfl, Nat.le_of_ble_eq_true rfl⟩ ⟨Nat.zero_le _, Nat.zero_le _⟩ (hP.sub (ws' := []) [] rfl) hG rfl hl.1 rfl (Nat.le_of_ble_eq_true rfl) dX10_weightAt_21 rfl ?_
  exact W.iret (v := r7) hx hb hr (fun t h9 _ => ⟨rv_i hv, h9⟩) (fun q h => absurd h List.not_mem_nil) dX10_weightAt_24 hlk
theorem dX10_rent_0 : decode cX10_rent 0 = .ok (.aload_n 0, 1) := by decide +kernel
theorem dX10_rent_1 : decode cX10_rent 1 = .ok (.iload_n 1, 1) := by decide +kernel
theorem dX10_rent_2 : decode cX10_rent 2 = .ok (.invokevirtual 134, 3) := by decide +kernel
theorem dX10_rent_5 : decode cX10_rent 5 = .ok (.ifCond .eq 33, 3) := by decide +kernel
theorem dX10_rent_8 : decode cX10_rent 8 = .ok (.iload_n 2, 1) := by decide +kernel
theorem dX10_rent_9 : decode cX10_rent 9 = .ok (.invokestatic 155, 3) := by decide +kernel
theorem dX10_rent_12 : decode cX10_rent 12 = .ok (.ifCond .eq 26, 3) := by decide +kernel
theorem dX10_rent_15 : decode cX10_rent 15 = .ok (.aload_n 0, 1) := by decide +kernel
theorem dX10_rent_16 : decode cX10_rent 16 = .ok (.iload_n 1, 1) := by decide +kernel
theorem dX10_rent_17 : decode cX10_rent 17 = .ok (.aload_n 0, 1) := by decide +kernel
theorem dX10_rent_18 : decode cX10_rent 18 = .ok (.getfield 9, 3) := by decide +kernel
theorem dX10_rent_21 : decode cX10_rent 21 = .ok (.iconst 4, 1) := by decide +kernel
theorem dX10_rent_22 : decode cX10_rent 22 = .ok (.iload_n 2, 1) := by decide +kernel
theorem dX10_rent_23 : decode cX10_rent 23 = .ok (.iadd, 1) := by decide +kernel
theorem dX10_rent_24 : decode cX10_rent 24 = .ok (.iaload, 1) := by decide +kernel
theorem dX10_rent_25 : decode cX10_rent 25 = .ok (.invokevirtual 227, 3) := by decide +kernel
theorem dX10_rent_28 : decode cX10_rent 28 = .ok (.aload_n 0, 1) := by decide +kernel
theorem dX10_rent_29 : decode cX10_rent 29 = .ok (.iload_n 1, 1) := by decide +kernel
theorem dX10_rent_30 : decode cX10_rent 30 = .ok (.iconst 0, 1) := by decide +kernel
theorem dX10_rent_31 : decode cX10_rent 31 = .ok (.invokevirtual 227, 3) := by decide +kernel
theorem dX10_rent_34 : decode cX10_rent 34 = .ok (.isub, 1) := by decide +kernel
theorem dX10_rent_35 : decode cX10_rent 35 = .ok (.goto 5, 3) := by decide +kernel
theorem dX10_rent_38 : decode cX10_rent 38 = .ok (.ldc 162, 2) := by decide +kernel
theorem dX10_rent_40 : decode cX10_rent 40 = .ok (.ireturn, 1) := by decide +kernel
def f_X10_rent (o_s : Nat → Int32) (p1 : Int32) (p2 : Int32) : Option (Int32) := ob (f_X10_isSpeaker o_s p1) (fun r1 => if r1 = 0 then some (1000000001 : Int32) else ob (f_X10_isRail p2) (fun r4 => if r4 = 0 then some (1000000001 : Int32) else gd (ix ((4 : Int32) + p2) 42) (ob (f_X10_weightAt o_s p1 (o_s ((4 : Int32) + p2).toNatClampNeg)) (fun r8 => ob (f_X10_weightAt o_s p1 (0 : Int32)) (fun r10 => some (r8 - r10))))))
set_option maxHeartbeats 4000000 in
set_option maxRecDepth 100000 in
theorem c_X10_rent (l : Launch) (E : EE) (o_h : Nat) (o_a0 : Nat) (o_a1 : Nat) (o_a2 : Nat) (o_a3 : Nat) (o_a8 : Nat) (o_a9 : Nat) (o_a11 : Nat) (o_a12 : Nat) (o_a13 : Nat) (o_a14 : Nat) (o_a15 : Nat) (o_a16 : Nat) (o_s : Nat → Int32) (o_m : Nat → Int32) (o_image : Nat → Int32) (o_was : Nat → Int32) (o_hasImage : Int32) (o_place : Int32) (o_rowAt : Int32) (o_rowEnd : Int32) (o_numbers : Nat → Int32) (o_most : Nat → Int32) (o_seed : Int32) (o_kept : Nat → Int32) (o_keptKind : Nat → Int32) (o_keptFigure : Nat → Int32) (o_sort : Nat → Int32) (o_size : Nat → Int32) (o_element : Nat → Int32) (o_thrown : Int32) (p1 : Int32) (p2 : Int32) (res : Int32) (hv : f_X10_rent o_s p1 p2 = some res) : Rd l E yX10_rent cX10_rent 3 (some .int) ({ frames := 2, cells := 0, slots := 0, locals := 44 }) [.ref o_h, .int p1, .int p2] [oMo o_h o_a0 o_a1 o_a2 o_a3 o_hasImage o_place o_rowAt o_rowEnd o_a8 o_a9 o_seed o_a11 o_a12 o_a13 o_a14 o_a15 o_a16 o_thrown, ai E o_a0 42 o_s, ai E o_a1 42 o_m, ai E o_a2 42 o_image, ai E o_a3 42 o_was, ai E o_a8 3 o_numbers, ai E o_a9 8192 o_most, ai E o_a11 8 o_kept, ai E o_a12 8 o_keptKind, ai E o_a13 8 o_keptFigure, ai E o_a14 8 o_sort, ai E o_a15 8 o_size, ai E o_a16 800 o_element] (some (.int res)) := by
  refine Rd.intro RX10 (by decide) rfl (Nat.le_of_ble_eq_true rfl) ?_
  intro p e s m below meth c ls hC hr hlk hP hG hl
  obtain ⟨hx, hb, hml, hown, ht⟩ := id hC
  have hK := hG.1
  have hl : lv_has ls 3 [(0, .ref o_h), (1, .int p1), (2, .int p2)] := hl
  rw [f_X10_rent] at hv
  refine lv_aload_n hx hb dX10_rent_0 rfl (lv_at hl 0 rfl) ?_
  refine lv_iload_n hx hb dX10_rent_1 rfl (lv_at hl 1 rfl) ?_
  obtain ⟨r1, h2, hv⟩ := ob_s hv
  refine rdV 4 0 (As := [.int p1]) (rest := []) (st1 := [.int r1]) (w := [oMo o_h o_a0 o_a1 o_a2 o_a3 o_hasImage o_place o_rowAt o_rowEnd o_a8 o_a9 o_seed o_a11 o_a12 o_a13 o_a14 o_a15 o_a16 o_thrown, ai E o_a0 42 o_s, ai E o_a1 42 o_m, ai E o_a2 42 o_image, ai E o_a3 42 o_was, ai E o_a8 3 o_numbers, ai E o_a9 8192 o_most, ai E o_a11 8 o_kept, ai E o_a12 8 o_keptKind, ai E o_a13 8 o_keptFigure, ai E o_a14 8 o_sort, ai E o_a15 8 o_size, ai E o_a16 800 o_element]) hC q_X10_isSpeaker kw_4_229 (c_X10_isSpeaker l E o_h o_a0 o_a1 o_a2 o_a3 o_a8 o_a9 o_a11 o_a12 o_a13 o_a14 o_a15 o_a16 o_s o_m o_image o_was o_hasImage o_place o_rowAt o_rowEnd o_numbers o_most o_seed o_kept o_keptKind o_keptFigure o_sort o_size o_element o_thrown p1 r1 h2) ⟨rfl, rfl⟩ ⟨Nat.le_of_ble_eq_true rfl, Nat.le_of_ble_eq_true rfl⟩ ⟨Nat.zero_le _, Nat.zero_le _⟩ hP rfl rfl rfl hG rfl hl.1 rfl (Nat.le_of_ble_eq_true rfl) dX10_rent_2 rfl ?_
  refine lv_if_eq (tgt := 38) hx hb dX10_rent_5 (by decide) (fun c3 => ?_) (fun c3 => ?_)
  · have hv := if_y c3 hv
    refine lv_ldc (v := (1000000001 : Int32)) hx hb hown (ht _ kw_5_57) dX10_rent_38 ?_
    exact W.iret (v := (1000000001 : Int32)) hx hb hr (fun t h9 _ => ⟨rv_i hv, h9⟩) (fun q h => absurd h List.not_mem_nil) dX10_rent_40 hlk
  · have hv := if_n c3 hv
    refine lv_iload_n hx hb dX10_rent_8 rfl (lv_at hl 2 rfl) ?_
    obtain ⟨r4, h5, hv⟩ := ob_s hv
    refine rdS (rest := []) (st1 := [.int r4]) (w := []) hC q_X10_isRail kw_5_34 (c_X10_isRail l E p2 r4 h5) ⟨rfl, rfl⟩ ⟨Nat.le_of_ble_eq_true rfl, Nat.le_of_ble_eq_true rfl⟩ ⟨Nat.zero_le _, Nat.zero_le _⟩ (hP.sub (ws' := []) [] rfl) hG rfl hl.1 rfl (Nat.le_of_ble_eq_true rfl) dX10_rent_9 rfl ?_
    refine lv_if_eq (tgt := 38) hx hb dX10_rent_12 (by decide) (fun c6 => ?_) (fun c6 => ?_)
    · have hv := if_y c6 hv
      refine lv_ldc (v := (1000000001 : Int32)) hx hb hown (ht _ kw_5_57) dX10_rent_38 ?_
      exact W.iret (v := (1000000001 : Int32)) hx hb hr (fun t h9 _ => ⟨rv_i hv, h9⟩) (fun q h => absurd h List.not_mem_nil) dX10_rent_40 hlk
    · have hv := if_n c6 hv
      refine lv_aload_n hx hb dX10_rent_15 rfl (lv_at hl 0 rfl) ?_
      refine lv_iload_n hx hb dX10_rent_16 rfl (lv_at hl 1 rfl) ?_
      refine lv_aload_n hx hb dX10_rent_17 rfl (lv_at hl 0 rfl) ?_
      refine va_get (D := E.1) (ci := 4) (v := .ref o_a0) (C := RX10) (T := TX10) (N := 18) hx hb ht i_X10 hown hK hP 0 rfl rfl 0 (by decide) (ht _ kw_4_134) (fun _ h9 => h9) rfl dX10_rent_18 ?_
      refine lv_iconst (v := (4 : Int32)) hx hb dX10_rent_21 (by decide) ?_
      refine lv_iload_n hx hb dX10_rent_22 rfl (lv_at hl 2 rfl) ?_
      refine lv_iadd hx hb dX10_rent_23 ?_
      obtain ⟨g7, hv⟩ := gd_s hv
      refine va_iald hx hb hK hP 1 0 rfl rfl (ix_s g7) dX10_rent_24 ?_
      obtain ⟨r8, h9, hv⟩ := ob_s hv
      refine rdV 4 0 (As := [.int p1, .int (o_s ((4 : Int32) + p2).toNatClampNeg)]) (rest := []) (st1 := [.int r8]) (w := [oMo o_h o_a0 o_a1 o_a2 o_a3 o_hasImage o_place o_rowAt o_rowEnd o_a8 o_a9 o_seed o_a11 o_a12 o_a13 o_a14 o_a15 o_a16 o_thrown, ai E o_a0 42 o_s, ai E o_a1 42 o_m, ai E o_a2 42 o_image, ai E o_a3 42 o_was, ai E o_a8 3 o_numbers, ai E o_a9 8192 o_most, ai E o_a11 8 o_kept, ai E o_a12 8 o_keptKind, ai E o_a13 8 o_keptFigure, ai E o_a14 8 o_sort, ai E o_a15 8 o_size, ai E o_a16 800 o_element]) hC q_X10_weightAt kw_5_217 (c_X10_weightAt l E o_h o_a0 o_a1 o_a2 o_a3 o_a8 o_a9 o_a11 o_a12 o_a13 o_a14 o_a15 o_a16 o_s o_m o_image o_was o_hasImage o_place o_rowAt o_rowEnd o_numbers o_most o_seed o_kept o_keptKind o_keptFigure o_sort o_size o_element o_thrown p1 (o_s ((4 : Int32) + p2).toNatClampNeg) r8 h9) ⟨rfl, rfl⟩ ⟨Nat.le_of_ble_eq_true rfl, Nat.le_of_ble_eq_true rfl⟩ ⟨Nat.zero_le _, Nat.zero_le _⟩ hP rfl rfl rfl hG rfl hl.1 rfl (Nat.le_of_ble_eq_true rfl) dX10_rent_25 rfl ?_
      refine lv_aload_n hx hb dX10_rent_28 rfl (lv_at hl 0 rfl) ?_
      refine lv_iload_n hx hb dX10_rent_29 rfl (lv_at hl 1 rfl) ?_
      refine lv_iconst (v := (0 : Int32)) hx hb dX10_rent_30 (by decide) ?_
      obtain ⟨r10, h11, hv⟩ := ob_s hv
      refine rdV 4 0 (As := [.int p1, .int (0 : Int32)]) (rest := [.int r8]) (st1 := [.int r10, .int r8]) (w := [oMo o_h o_a0 o_a1 o_a2 o_a3 o_hasImage o_place o_rowAt o_rowEnd o_a8 o_a9 o_seed o_a11 o_a12 o_a13 o_a14 o_a15 o_a16 o_thrown, ai E o_a0 42 o_s, ai E o_a1 42 o_m, ai E o_a2 42 o_image, ai E o_a3 42 o_was, ai E o_a8 3 o_numbers, ai E o_a9 8192 o_most, ai E o_a11 8 o_kept, ai E o_a12 8 o_keptKind, ai E o_a13 8 o_keptFigure, ai E o_a14 8 o_sort, ai E o_a15 8 o_size, ai E o_a16 800 o_element]) hC q_X10_weightAt kw_5_217 (c_X10_weightAt l E o_h o_a0 o_a1 o_a2 o_a3 o_a8 o_a9 o_a11 o_a12 o_a13 o_a14 o_a15 o_a16 o_s o_m o_image o_was o_hasImage o_place o_rowAt o_rowEnd o_numbers o_most o_seed o_kept o_keptKind o_keptFigure o_sort o_size o_element o_thrown p1 (0 : Int32) r10 h11) ⟨rfl, rfl⟩ ⟨Nat.le_of_ble_eq_true rfl, Nat.le_of_ble_eq_true rfl⟩ ⟨Nat.zero_le _, Nat.zero_le _⟩ hP rfl rfl rfl hG rfl hl.1 rfl (Nat.le_of_ble_eq_true rfl) dX10_rent_31 rfl ?_
      refine lv_isub hx hb dX10_rent_34 ?_
      refine lv_goto (tgt := 40) hx hb dX10_rent_35 (by decide) ?_
      exact W.iret (v := (r8 - r10)) hx hb hr (fun t h9 _ => ⟨rv_i hv, h9⟩) (fun q h => absurd h List.not_mem_nil) dX10_rent_40 hlk
theorem dX10_bestRail_0 : decode cX10_bestRail 0 = .ok (.aload_n 0, 1) := by decide +kernel
theorem dX10_bestRail_1 : decode cX10_bestRail 1 = .ok (.iload_n 1, 1) := by decide +kernel
theorem dX10_bestRail_2 : decode cX10_bestRail 2 = .ok (.invokevirtual 134, 3) := by decide +kernel
theorem dX10_bestRail_5 : decode cX10_bestRail 5 = .ok (.ifCond .ne 5, 3) := by decide +kernel
theorem dX10_bestRail_8 : decode cX10_bestRail 8 = .ok (.iconst (-1), 1) := by decide +kernel
theorem dX10_bestRail_9 : decode cX10_bestRail 9 = .ok (.ireturn, 1) := by decide +kernel
theorem dX10_bestRail_10 : decode cX10_bestRail 10 = .ok (.iconst 0, 1) := by decide +kernel
theorem dX10_bestRail_11 : decode cX10_bestRail 11 = .ok (.istore_n 2, 1) := by decide +kernel
theorem dX10_bestRail_12 : decode cX10_bestRail 12 = .ok (.iconst 0, 1) := by decide +kernel
theorem dX10_bestRail_13 : decode cX10_bestRail 13 = .ok (.istore_n 3, 1) := by decide +kernel
theorem dX10_bestRail_14 : decode cX10_bestRail 14 = .ok (.iload_n 3, 1) := by decide +kernel
theorem dX10_bestRail_15 : decode cX10_bestRail 15 = .ok (.bipush 10, 2) := by decide +kernel
theorem dX10_bestRail_17 : decode cX10_bestRail 17 = .ok (.if_icmp .ge 40, 3) := by decide +kernel
theorem dX10_bestRail_20 : decode cX10_bestRail 20 = .ok (.aload_n 0, 1) := by decide +kernel
theorem dX10_bestRail_21 : decode cX10_bestRail 21 = .ok (.iload_n 1, 1) := by decide +kernel
theorem dX10_bestRail_22 : decode cX10_bestRail 22 = .ok (.aload_n 0, 1) := by decide +kernel
theorem dX10_bestRail_23 : decode cX10_bestRail 23 = .ok (.getfield 9, 3) := by decide +kernel
theorem dX10_bestRail_26 : decode cX10_bestRail 26 = .ok (.iconst 4, 1) := by decide +kernel
theorem dX10_bestRail_27 : decode cX10_bestRail 27 = .ok (.iload_n 3, 1) := by decide +kernel
theorem dX10_bestRail_28 : decode cX10_bestRail 28 = .ok (.iadd, 1) := by decide +kernel
theorem dX10_bestRail_29 : decode cX10_bestRail 29 = .ok (.iaload, 1) := by decide +kernel
theorem dX10_bestRail_30 : decode cX10_bestRail 30 = .ok (.invokevirtual 227, 3) := by decide +kernel
theorem dX10_bestRail_33 : decode cX10_bestRail 33 = .ok (.aload_n 0, 1) := by decide +kernel
theorem dX10_bestRail_34 : decode cX10_bestRail 34 = .ok (.iload_n 1, 1) := by decide +kernel
theorem dX10_bestRail_35 : decode cX10_bestRail 35 = .ok (.aload_n 0, 1) := by decide +kernel
theorem dX10_bestRail_36 : decode cX10_bestRail 36 = .ok (.getfield 9, 3) := by decide +kernel
theorem dX10_bestRail_39 : decode cX10_bestRail 39 = .ok (.iconst 4, 1) := by decide +kernel
theorem dX10_bestRail_40 : decode cX10_bestRail 40 = .ok (.iload_n 2, 1) := by decide +kernel
theorem dX10_bestRail_41 : decode cX10_bestRail 41 = .ok (.iadd, 1) := by decide +kernel
theorem dX10_bestRail_42 : decode cX10_bestRail 42 = .ok (.iaload, 1) := by decide +kernel
theorem dX10_bestRail_43 : decode cX10_bestRail 43 = .ok (.invokevirtual 227, 3) := by decide +kernel
theorem dX10_bestRail_46 : decode cX10_bestRail 46 = .ok (.if_icmp .le 5, 3) := by decide +kernel
theorem dX10_bestRail_49 : decode cX10_bestRail 49 = .ok (.iload_n 3, 1) := by decide +kernel
theorem dX10_bestRail_50 : decode cX10_bestRail 50 = .ok (.istore_n 2, 1) := by decide +kernel
theorem dX10_bestRail_51 : decode cX10_bestRail 51 = .ok (.iinc 3 1, 3) := by decide +kernel
theorem dX10_bestRail_54 : decode cX10_bestRail 54 = .ok (.goto (-40), 3) := by decide +kernel
theorem dX10_bestRail_57 : decode cX10_bestRail 57 = .ok (.iload_n 2, 1) := by decide +kernel
theorem dX10_bestRail_58 : decode cX10_bestRail 58 = .ok (.ireturn, 1) := by decide +kernel
def L_X10_bestRail_14 (o_s : Nat → Int32) (p1 : Int32) : Nat → Int32 → Int32 → Option (Int32)
  | 0, _, _ => none
  | n14 + 1, x4, x5 => if (10 : Int32) ≤ x4 then some x5 else gd (ix ((4 : Int32) + x4) 42) (ob (f_X10_weightAt o_s p1 (o_s ((4 : Int32) + x4).toNatClampNeg)) (fun r8 => gd (ix ((4 : Int32) + x5) 42) (ob (f_X10_weightAt o_s p1 (o_s ((4 : Int32) + x5).toNatClampNeg)) (fun r11 => if r8 ≤ r11 then L_X10_bestRail_14 o_s p1 n14 (x4 + (1 : Int32)) x5 else L_X10_bestRail_14 o_s p1 n14 (x4 + (1 : Int32)) x4))))
def f_X10_bestRail (N : Nat) (o_s : Nat → Int32) (p1 : Int32) : Option (Int32) := ob (f_X10_isSpeaker o_s p1) (fun r1 => if r1 = 0 then some (-1 : Int32) else L_X10_bestRail_14 o_s p1 N (0 : Int32) (0 : Int32))
set_option maxHeartbeats 4000000 in
set_option maxRecDepth 100000 in
theorem c_X10_bestRail (l : Launch) (E : EE) (o_h : Nat) (o_a0 : Nat) (o_a1 : Nat) (o_a2 : Nat) (o_a3 : Nat) (o_a8 : Nat) (o_a9 : Nat) (o_a11 : Nat) (o_a12 : Nat) (o_a13 : Nat) (o_a14 : Nat) (o_a15 : Nat) (o_a16 : Nat) (o_s : Nat → Int32) (o_m : Nat → Int32) (o_image : Nat → Int32) (o_was : Nat → Int32) (o_hasImage : Int32) (o_place : Int32) (o_rowAt : Int32) (o_rowEnd : Int32) (o_numbers : Nat → Int32) (o_most : Nat → Int32) (o_seed : Int32) (o_kept : Nat → Int32) (o_keptKind : Nat → Int32) (o_keptFigure : Nat → Int32) (o_sort : Nat → Int32) (o_size : Nat → Int32) (o_element : Nat → Int32) (o_thrown : Int32) (p1 : Int32) (N : Nat) (res : Int32) (hv : f_X10_bestRail N o_s p1 = some res) : Rd l E yX10_bestRail cX10_bestRail 4 (some .int) ({ frames := 2, cells := 0, slots := 0, locals := 44 }) [.ref o_h, .int p1] [oMo o_h o_a0 o_a1 o_a2 o_a3 o_hasImage o_place o_rowAt o_rowEnd o_a8 o_a9 o_seed o_a11 o_a12 o_a13 o_a14 o_a15 o_a16 o_thrown, ai E o_a0 42 o_s, ai E o_a1 42 o_m, ai E o_a2 42 o_image, ai E o_a3 42 o_was, ai E o_a8 3 o_numbers, ai E o_a9 8192 o_most, ai E o_a11 8 o_kept, ai E o_a12 8 o_keptKind, ai E o_a13 8 o_keptFigure, ai E o_a14 8 o_sort, ai E o_a15 8 o_size, ai E o_a16 800 o_element] (some (.int res)) := by
  refine Rd.intro RX10 (by decide) rfl (Nat.le_of_ble_eq_true rfl) ?_
  intro p e s m below meth c ls hC hr hlk hP hG hl
  obtain ⟨hx, hb, hml, hown, ht⟩ := id hC
  have hK := hG.1
  have hl : lv_has ls 4 [(0, .ref o_h), (1, .int p1)] := hl
  rw [f_X10_bestRail] at hv
  refine lv_aload_n hx hb dX10_bestRail_0 rfl (lv_at hl 0 rfl) ?_
  refine lv_iload_n hx hb dX10_bestRail_1 rfl (lv_at hl 1 rfl) ?_
  obtain ⟨r1, h2, hv⟩ := ob_s hv
  refine rdV 4 0 (As := [.int p1]) (rest := []) (st1 := [.int r1]) (w := [oMo o_h o_a0 o_a1 o_a2 o_a3 o_hasImage o_place o_rowAt o_rowEnd o_a8 o_a9 o_seed o_a11 o_a12 o_a13 o_a14 o_a15 o_a16 o_thrown, ai E o_a0 42 o_s, ai E o_a1 42 o_m, ai E o_a2 42 o_image, ai E o_a3 42 o_was, ai E o_a8 3 o_numbers, ai E o_a9 8192 o_most, ai E o_a11 8 o_kept, ai E o_a12 8 o_keptKind, ai E o_a13 8 o_keptFigure, ai E o_a14 8 o_sort, ai E o_a15 8 o_size, ai E o_a16 800 o_element]) hC q_X10_isSpeaker kw_4_229 (c_X10_isSpeaker l E o_h o_a0 o_a1 o_a2 o_a3 o_a8 o_a9 o_a11 o_a12 o_a13 o_a14 o_a15 o_a16 o_s o_m o_image o_was o_hasImage o_place o_rowAt o_rowEnd o_numbers o_most o_seed o_kept o_keptKind o_keptFigure o_sort o_size o_element o_thrown p1 r1 h2) ⟨rfl, rfl⟩ ⟨Nat.le_of_ble_eq_true rfl, Nat.le_of_ble_eq_true rfl⟩ ⟨Nat.zero_le _, Nat.zero_le _⟩ hP rfl rfl rfl hG rfl hl.1 rfl (Nat.le_of_ble_eq_true rfl) dX10_bestRail_2 rfl ?_
  refine lv_if_ne (tgt := 10) hx hb dX10_bestRail_5 (by decide) (fun c3 => ?_) (fun c3 => ?_)
  · have hv := if_n c3 hv
    refine lv_iconst (v := (0 : Int32)) hx hb dX10_bestRail_10 (by decide) ?_
    refine lv_istore_n (lv' := [(2, .int (0 : Int32)), (0, .ref o_h), (1, .int p1)]) hx hb dX10_bestRail_11 rfl hl (by decide) rfl (fun ls hl => ?_)
    refine lv_iconst (v := (0 : Int32)) hx hb dX10_bestRail_12 (by decide) ?_
    refine lv_istore_n (lv' := [(3, .int (0 : Int32)), (2, .int (0 : Int32)), (0, .ref o_h), (1, .int p1)]) hx hb dX10_bestRail_13 rfl hl (by decide) rfl (fun ls hl => ?_)
    have hL14 : ∀ (n : Nat) (x4 : Int32) (x5 : Int32) (ls : Array Slot), lv_has ls 4 [(3, .int x4), (2, .int x5), (0, .ref o_h), (1, .int p1)] → L_X10_bestRail_14 o_s p1 n x4 x5 = some res → W p l e ({ frames := 2, cells := 0, slots := 0, locals := 44 }) s m [.ref o_h, .int p1].toArray below meth c s.heap [] 0 0 (MQ below (RdQ (some (.int res))) [.ref o_h, .int p1].toArray s 0 0 (fun _ => False)) (F0 m 14 ls []) := by
      intro n
      induction n with
      | zero => intro x4 x5 ls hl hv; cases hv
      | succ n14 ih14 =>
        intro x4 x5 ls hl hv
        rw [L_X10_bestRail_14] at hv
        refine lv_iload_n hx hb dX10_bestRail_14 rfl (lv_at hl 0 rfl) ?_
        refine lv_bipush (v := (10 : Int32)) hx hb dX10_bestRail_15 (by decide) ?_
        refine lv_icmp_ge (tgt := 57) hx hb dX10_bestRail_17 (by decide) (fun c6 => ?_) (fun c6 => ?_)
        · have hv := if_y c6 hv
          refine lv_iload_n hx hb dX10_bestRail_57 rfl (lv_at hl 1 rfl) ?_
          exact W.iret (v := x5) hx hb hr (fun t h9 _ => ⟨rv_i hv, h9⟩) (fun q h => absurd h List.not_mem_nil) dX10_bestRail_58 hlk
        · have hv := if_n c6 hv
          refine lv_aload_n hx hb dX10_bestRail_20 rfl (lv_at hl 2 rfl) ?_
          refine lv_iload_n hx hb dX10_bestRail_21 rfl (lv_at hl 3 rfl) ?_
          refine lv_aload_n hx hb dX10_bestRail_22 rfl (lv_at hl 2 rfl) ?_
          refine va_get (D := E.1) (ci := 4) (v := .ref o_a0) (C := RX10) (T := TX10) (N := 18) hx hb ht i_X10 hown hK hP 0 rfl rfl 0 (by decide) (ht _ kw_4_134) (fun _ h9 => h9) rfl dX10_bestRail_23 ?_
          refine lv_iconst (v := (4 : Int32)) hx hb dX10_bestRail_26 (by decide) ?_
          refine lv_iload_n hx hb dX10_bestRail_27 rfl (lv_at hl 0 rfl) ?_
          refine lv_iadd hx hb dX10_bestRail_28 ?_
          obtain ⟨g7, hv⟩ := gd_s hv
          refine va_iald hx hb hK hP 1 0 rfl rfl (ix_s g7) dX10_bestRail_29 ?_
          obtain ⟨r8, h9, hv⟩ := ob_s hv
          refine rdV 4 0 (As := [.int p1, .int (o_s ((4 : Int32) + x4).toNatClampNeg)]) (rest := []) (st1 := [.int r8]) (w := [oMo o_h o_a0 o_a1 o_a2 o_a3 o_hasImage o_place o_rowAt o_rowEnd o_a8 o_a9 o_seed o_a11 o_a12 o_a13 o_a14 o_a15 o_a16 o_thrown, ai E o_a0 42 o_s, ai E o_a1 42 o_m, ai E o_a2 42 o_image, ai E o_a3 42 o_was, ai E o_a8 3 o_numbers, ai E o_a9 8192 o_most, ai E o_a11 8 o_kept, ai E o_a12 8 o_keptKind, ai E o_a13 8 o_keptFigure, ai E o_a14 8 o_sort, ai E o_a15 8 o_size, ai E o_a16 800 o_element]) hC q_X10_weightAt kw_5_217 (c_X10_weightAt l E o_h o_a0 o_a1 o_a2 o_a3 o_a8 o_a9 o_a11 o_a12 o_a13 o_a14 o_a15 o_a16 o_s o_m o_image o_was o_hasImage o_place o_rowAt o_rowEnd o_numbers o_most o_seed o_kept o_keptKind o_keptFigure o_sort o_size o_element o_thrown p1 (o_s ((4 : Int32) + x4).toNatClampNeg) r8 h9) ⟨rfl, rfl⟩ ⟨Nat.le_of_ble_eq_true rfl, Nat.le_of_ble_eq_true rfl⟩ ⟨Nat.zero_le _, Nat.zero_le _⟩ hP rfl rfl rfl hG rfl hl.1 rfl (Nat.le_of_ble_eq_true rfl) dX10_bestRail_30 rfl ?_
          refine lv_aload_n hx hb dX10_bestRail_33 rfl (lv_at hl 2 rfl) ?_
          refine lv_iload_n hx hb dX10_bestRail_34 rfl (lv_at hl 3 rfl) ?_
          refine lv_aload_n hx hb dX10_bestRail_35 rfl (lv_at hl 2 rfl) ?_
          refine va_get (D := E.1) (ci := 4) (v := .ref o_a0) (C := RX10) (T := TX10) (N := 18) hx hb ht i_X10 hown hK hP 0 rfl rfl 0 (by decide) (ht _ kw_4_134) (fun _ h9 => h9) rfl dX10_bestRail_36 ?_
          refine lv_iconst (v := (4 : Int32)) hx hb dX10_bestRail_39 (by decide) ?_
          refine lv_iload_n hx hb dX10_bestRail_40 rfl (lv_at hl 1 rfl) ?_
          refine lv_iadd hx hb dX10_bestRail_41 ?_
          obtain ⟨g10, hv⟩ := gd_s hv
          refine va_iald hx hb hK hP 1 0 rfl rfl (ix_s g10) dX10_bestRail_42 ?_
          obtain ⟨r11, h12, hv⟩ := ob_s hv
          refine rdV 4 0 (As := [.int p1, .int (o_s ((4 : Int32) + x5).toNatClampNeg)]) (rest := [.int r8]) (st1 := [.int r11, .int r8]) (w := [oMo o_h o_a0 o_a1 o_a2 o_a3 o_hasImage o_place o_rowAt o_rowEnd o_a8 o_a9 o_seed o_a11 o_a12 o_a13 o_a14 o_a15 o_a16 o_thrown, ai E o_a0 42 o_s, ai E o_a1 42 o_m, ai E o_a2 42 o_image, ai E o_a3 42 o_was, ai E o_a8 3 o_numbers, ai E o_a9 8192 o_most, ai E o_a11 8 o_kept, ai E o_a12 8 o_keptKind, ai E o_a13 8 o_keptFigure, ai E o_a14 8 o_sort, ai E o_a15 8 o_size, ai E o_a16 800 o_element]) hC q_X10_weightAt kw_5_217 (c_X10_weightAt l E o_h o_a0 o_a1 o_a2 o_a3 o_a8 o_a9 o_a11 o_a12 o_a13 o_a14 o_a15 o_a16 o_s o_m o_image o_was o_hasImage o_place o_rowAt o_rowEnd o_numbers o_most o_seed o_kept o_keptKind o_keptFigure o_sort o_size o_element o_thrown p1 (o_s ((4 : Int32) + x5).toNatClampNeg) r11 h12) ⟨rfl, rfl⟩ ⟨Nat.le_of_ble_eq_true rfl, Nat.le_of_ble_eq_true rfl⟩ ⟨Nat.zero_le _, Nat.zero_le _⟩ hP rfl rfl rfl hG rfl hl.1 rfl (Nat.le_of_ble_eq_true rfl) dX10_bestRail_43 rfl ?_
          refine lv_icmp_le (tgt := 51) hx hb dX10_bestRail_46 (by decide) (fun c13 => ?_) (fun c13 => ?_)
          · have hv := if_y c13 hv
            refine lv_iinc (v := (x4 + (1 : Int32))) (lv' := [(3, .int (x4 + (1 : Int32))), (2, .int x5), (0, .ref o_h), (1, .int p1)]) hx hb dX10_bestRail_51 hl (k := 0) rfl rfl (by decide) rfl (fun ls hl => ?_)
            refine lv_goto (tgt := 14) hx hb dX10_bestRail_54 (by decide) ?_
            exact ih14 (x4 + (1 : Int32)) x5 _ (lv_sub hl [0, 1, 2, 3] rfl) hv
          · have hv := if_n c13 hv
            refine lv_iload_n hx hb dX10_bestRail_49 rfl (lv_at hl 0 rfl) ?_
            refine lv_istore_n (lv' := [(2, .int x4), (3, .int x4), (0, .ref o_h), (1, .int p1)]) hx hb dX10_bestRail_50 rfl hl (by decide) rfl (fun ls hl => ?_)
            refine lv_iinc (v := (x4 + (1 : Int32))) (lv' := [(3, .int (x4 + (1 : Int32))), (2, .int x4), (0, .ref o_h), (1, .int p1)]) hx hb dX10_bestRail_51 hl (k := 1) rfl rfl (by decide) rfl (fun ls hl => ?_)
            refine lv_goto (tgt := 14) hx hb dX10_bestRail_54 (by decide) ?_
            exact ih14 (x4 + (1 : Int32)) x4 _ (lv_sub hl [0, 1, 2, 3] rfl) hv
    exact hL14 N (0 : Int32) (0 : Int32) _ (lv_sub hl [0, 1, 2, 3] rfl) hv
  · have hv := if_y c3 hv
    refine lv_iconst (v := (-1 : Int32)) hx hb dX10_bestRail_8 (by decide) ?_
    exact W.iret (v := (-1 : Int32)) hx hb hr (fun t h9 _ => ⟨rv_i hv, h9⟩) (fun q h => absurd h List.not_mem_nil) dX10_bestRail_9 hlk
theorem dX10_matches_0 : decode cX10_matches 0 = .ok (.aload_n 0, 1) := by decide +kernel
theorem dX10_matches_1 : decode cX10_matches 1 = .ok (.getfield 9, 3) := by decide +kernel
theorem dX10_matches_4 : decode cX10_matches 4 = .ok (.iconst 0, 1) := by decide +kernel
theorem dX10_matches_5 : decode cX10_matches 5 = .ok (.iaload, 1) := by decide +kernel
theorem dX10_matches_6 : decode cX10_matches 6 = .ok (.istore_n 1, 1) := by decide +kernel
theorem dX10_matches_7 : decode cX10_matches 7 = .ok (.iload_n 1, 1) := by decide +kernel
theorem dX10_matches_8 : decode cX10_matches 8 = .ok (.ifCond .lt 154, 3) := by decide +kernel
theorem dX10_matches_11 : decode cX10_matches 11 = .ok (.iconst 0, 1) := by decide +kernel
theorem dX10_matches_12 : decode cX10_matches 12 = .ok (.istore_n 2, 1) := by decide +kernel
theorem dX10_matches_13 : decode cX10_matches 13 = .ok (.iload_n 2, 1) := by decide +kernel
theorem dX10_matches_14 : decode cX10_matches 14 = .ok (.sipush 1024, 3) := by decide +kernel
theorem dX10_matches_17 : decode cX10_matches 17 = .ok (.if_icmp .ge 139, 3) := by decide +kernel
theorem dX10_matches_20 : decode cX10_matches 20 = .ok (.iload_n 1, 1) := by decide +kernel
theorem dX10_matches_21 : decode cX10_matches 21 = .ok (.aload_n 0, 1) := by decide +kernel
theorem dX10_matches_22 : decode cX10_matches 22 = .ok (.getfield 9, 3) := by decide +kernel
theorem dX10_matches_25 : decode cX10_matches 25 = .ok (.iconst 0, 1) := by decide +kernel
theorem dX10_matches_26 : decode cX10_matches 26 = .ok (.iaload, 1) := by decide +kernel
theorem dX10_matches_27 : decode cX10_matches 27 = .ok (.if_icmp .ne 7, 3) := by decide +kernel
theorem dX10_matches_30 : decode cX10_matches 30 = .ok (.iconst 0, 1) := by decide +kernel
theorem dX10_matches_31 : decode cX10_matches 31 = .ok (.goto 4, 3) := by decide +kernel
theorem dX10_matches_34 : decode cX10_matches 34 = .ok (.iconst (-1), 1) := by decide +kernel
theorem dX10_matches_35 : decode cX10_matches 35 = .ok (.istore_n 3, 1) := by decide +kernel
theorem dX10_matches_36 : decode cX10_matches 36 = .ok (.iconst 0, 1) := by decide +kernel
theorem dX10_matches_37 : decode cX10_matches 37 = .ok (.istore 4, 2) := by decide +kernel
theorem dX10_matches_39 : decode cX10_matches 39 = .ok (.iload 4, 2) := by decide +kernel
theorem dX10_matches_41 : decode cX10_matches 41 = .ok (.bipush 10, 2) := by decide +kernel
theorem dX10_matches_43 : decode cX10_matches 43 = .ok (.if_icmp .ge 95, 3) := by decide +kernel
theorem dX10_matches_46 : decode cX10_matches 46 = .ok (.iload_n 1, 1) := by decide +kernel
theorem dX10_matches_47 : decode cX10_matches 47 = .ok (.aload_n 0, 1) := by decide +kernel
theorem dX10_matches_48 : decode cX10_matches 48 = .ok (.getfield 9, 3) := by decide +kernel
theorem dX10_matches_51 : decode cX10_matches 51 = .ok (.iconst 0, 1) := by decide +kernel
theorem dX10_matches_52 : decode cX10_matches 52 = .ok (.iaload, 1) := by decide +kernel
theorem dX10_matches_53 : decode cX10_matches 53 = .ok (.if_icmp .ge 85, 3) := by decide +kernel
theorem dX10_matches_56 : decode cX10_matches 56 = .ok (.iload_n 2, 1) := by decide +kernel
theorem dX10_matches_57 : decode cX10_matches 57 = .ok (.iload 4, 2) := by decide +kernel
theorem dX10_matches_59 : decode cX10_matches 59 = .ok (.invokestatic 62, 3) := by decide +kernel
theorem dX10_matches_62 : decode cX10_matches 62 = .ok (.ifCond .eq 6, 3) := by decide +kernel
theorem dX10_matches_65 : decode cX10_matches 65 = .ok (.goto 67, 3) := by decide +kernel
theorem dX10_matches_68 : decode cX10_matches 68 = .ok (.aload_n 0, 1) := by decide +kernel
theorem dX10_matches_69 : decode cX10_matches 69 = .ok (.getfield 25, 3) := by decide +kernel
theorem dX10_matches_72 : decode cX10_matches 72 = .ok (.iload_n 1, 1) := by decide +kernel
theorem dX10_matches_73 : decode cX10_matches 73 = .ok (.iconst 1, 1) := by decide +kernel
theorem dX10_matches_74 : decode cX10_matches 74 = .ok (.iadd, 1) := by decide +kernel
theorem dX10_matches_75 : decode cX10_matches 75 = .ok (.bipush 10, 2) := by decide +kernel
theorem dX10_matches_77 : decode cX10_matches 77 = .ok (.ishl, 1) := by decide +kernel
theorem dX10_matches_78 : decode cX10_matches 78 = .ok (.iload_n 2, 1) := by decide +kernel
theorem dX10_matches_79 : decode cX10_matches 79 = .ok (.ior, 1) := by decide +kernel
theorem dX10_matches_80 : decode cX10_matches 80 = .ok (.iconst 1, 1) := by decide +kernel
theorem dX10_matches_81 : decode cX10_matches 81 = .ok (.iload 4, 2) := by decide +kernel
theorem dX10_matches_83 : decode cX10_matches 83 = .ok (.ishl, 1) := by decide +kernel
theorem dX10_matches_84 : decode cX10_matches 84 = .ok (.ior, 1) := by decide +kernel
theorem dX10_matches_85 : decode cX10_matches 85 = .ok (.iaload, 1) := by decide +kernel
theorem dX10_matches_86 : decode cX10_matches 86 = .ok (.istore 5, 2) := by decide +kernel
theorem dX10_matches_88 : decode cX10_matches 88 = .ok (.iload 5, 2) := by decide +kernel
theorem dX10_matches_90 : decode cX10_matches 90 = .ok (.ifCond .lt 42, 3) := by decide +kernel
theorem dX10_matches_93 : decode cX10_matches 93 = .ok (.iload 5, 2) := by decide +kernel
theorem dX10_matches_95 : decode cX10_matches 95 = .ok (.aload_n 0, 1) := by decide +kernel
theorem dX10_matches_96 : decode cX10_matches 96 = .ok (.iload_n 1, 1) := by decide +kernel
theorem dX10_matches_97 : decode cX10_matches 97 = .ok (.aload_n 0, 1) := by decide +kernel
theorem dX10_matches_98 : decode cX10_matches 98 = .ok (.getfield 9, 3) := by decide +kernel
theorem dX10_matches_101 : decode cX10_matches 101 = .ok (.iconst 4, 1) := by decide +kernel
theorem dX10_matches_102 : decode cX10_matches 102 = .ok (.iload 4, 2) := by decide +kernel
theorem dX10_matches_104 : decode cX10_matches 104 = .ok (.iadd, 1) := by decide +kernel
theorem dX10_matches_105 : decode cX10_matches 105 = .ok (.iaload, 1) := by decide +kernel
theorem dX10_matches_106 : decode cX10_matches 106 = .ok (.invokevirtual 227, 3) := by decide +kernel
theorem dX10_matches_109 : decode cX10_matches 109 = .ok (.iadd, 1) := by decide +kernel
theorem dX10_matches_110 : decode cX10_matches 110 = .ok (.iload_n 3, 1) := by decide +kernel
theorem dX10_matches_111 : decode cX10_matches 111 = .ok (.if_icmp .le 21, 3) := by decide +kernel
theorem dX10_matches_114 : decode cX10_matches 114 = .ok (.iload 5, 2) := by decide +kernel
theorem dX10_matches_116 : decode cX10_matches 116 = .ok (.aload_n 0, 1) := by decide +kernel
theorem dX10_matches_117 : decode cX10_matches 117 = .ok (.iload_n 1, 1) := by decide +kernel
theorem dX10_matches_118 : decode cX10_matches 118 = .ok (.aload_n 0, 1) := by decide +kernel
theorem dX10_matches_119 : decode cX10_matches 119 = .ok (.getfield 9, 3) := by decide +kernel
theorem dX10_matches_122 : decode cX10_matches 122 = .ok (.iconst 4, 1) := by decide +kernel
theorem dX10_matches_123 : decode cX10_matches 123 = .ok (.iload 4, 2) := by decide +kernel
theorem dX10_matches_125 : decode cX10_matches 125 = .ok (.iadd, 1) := by decide +kernel
theorem dX10_matches_126 : decode cX10_matches 126 = .ok (.iaload, 1) := by decide +kernel
theorem dX10_matches_127 : decode cX10_matches 127 = .ok (.invokevirtual 227, 3) := by decide +kernel
theorem dX10_matches_130 : decode cX10_matches 130 = .ok (.iadd, 1) := by decide +kernel
theorem dX10_matches_131 : decode cX10_matches 131 = .ok (.istore_n 3, 1) := by decide +kernel
theorem dX10_matches_132 : decode cX10_matches 132 = .ok (.iinc 4 1, 3) := by decide +kernel
theorem dX10_matches_135 : decode cX10_matches 135 = .ok (.goto (-96), 3) := by decide +kernel
theorem dX10_matches_138 : decode cX10_matches 138 = .ok (.aload_n 0, 1) := by decide +kernel
theorem dX10_matches_139 : decode cX10_matches 139 = .ok (.getfield 25, 3) := by decide +kernel
theorem dX10_matches_142 : decode cX10_matches 142 = .ok (.iload_n 1, 1) := by decide +kernel
theorem dX10_matches_143 : decode cX10_matches 143 = .ok (.bipush 10, 2) := by decide +kernel
theorem dX10_matches_145 : decode cX10_matches 145 = .ok (.ishl, 1) := by decide +kernel
theorem dX10_matches_146 : decode cX10_matches 146 = .ok (.iload_n 2, 1) := by decide +kernel
theorem dX10_matches_147 : decode cX10_matches 147 = .ok (.ior, 1) := by decide +kernel
theorem dX10_matches_148 : decode cX10_matches 148 = .ok (.iload_n 3, 1) := by decide +kernel
theorem dX10_matches_149 : decode cX10_matches 149 = .ok (.iastore, 1) := by decide +kernel
theorem dX10_matches_150 : decode cX10_matches 150 = .ok (.iinc 2 1, 3) := by decide +kernel
theorem dX10_matches_153 : decode cX10_matches 153 = .ok (.goto (-140), 3) := by decide +kernel
theorem dX10_matches_156 : decode cX10_matches 156 = .ok (.iinc 1 (-1), 3) := by decide +kernel
theorem dX10_matches_159 : decode cX10_matches 159 = .ok (.goto (-152), 3) := by decide +kernel
theorem dX10_matches_162 : decode cX10_matches 162 = .ok (.return_, 1) := by decide +kernel
def L_X10_matches_39 (o_s : Nat → Int32) (x1 : Int32) (x4 : Int32) (y5 : Nat → Int32) (k_39 : Int32 → Int32 → Option ((Nat → Int32))) : Nat → Int32 → Int32 → Option ((Nat → Int32))
  | 0, _, _ => none
  | n39 + 1, x8, x9 => if (10 : Int32) ≤ x8 then k_39 x8 x9 else if (o_s 0) ≤ x1 then k_39 x8 x9 else ob (f_X10_has x4 x8) (fun r12 => if r12 = 0 then gd (ix ((((x1 + (1 : Int32)) <<< ((10 : Int32) &&& 31)) ||| x4) ||| ((1 : Int32) <<< (x8 &&& 31))) 8192) (nm (y5 ((((x1 + (1 : Int32)) <<< ((10 : Int32) &&& 31)) ||| x4) ||| ((1 : Int32) <<< (x8 &&& 31))).toNatClampNeg) (fun z16 => if z16 < 0 then L_X10_matches_39 o_s x1 x4 y5 k_39 n39 (x8 + (1 : Int32)) x9 else gd (ix ((4 : Int32) + x8) 42) (ob (f_X10_weightAt o_s x1 (o_s ((4 : Int32) + x8).toNatClampNeg)) (fun r19 => if (z16 + r19) ≤ x9 then L_X10_matches_39 o_s x1 x4 y5 k_39 n39 (x8 + (1 : Int32)) x9 else gd (ix ((4 : Int32) + x8) 42) (ob (f_X10_weightAt o_s x1 (o_s ((4 : Int32) + x8).toNatClampNeg)) (fun r23 => L_X10_matches_39 o_s x1 x4 y5 k_39 n39 (x8 + (1 : Int32)) (z16 + r23))))))) else L_X10_matches_39 o_s x1 x4 y5 k_39 n39 (x8 + (1 : Int32)) x9)
def L_X10_matches_13 (N : Nat) (o_s : Nat → Int32) (x1 : Int32) (k_13 : Int32 → (Nat → Int32) → Option ((Nat → Int32))) : Nat → Int32 → (Nat → Int32) → Option ((Nat → Int32))
  | 0, _, _ => none
  | n13 + 1, x4, y5 => if (1024 : Int32) ≤ x4 then k_13 x4 y5 else if x1 = (o_s 0) then L_X10_matches_39 o_s x1 x4 y5 (fun x46 x47 => gd (ix ((x1 <<< ((10 : Int32) &&& 31)) ||| x4) 8192) (nm (upd y5 ((x1 <<< ((10 : Int32) &&& 31)) ||| x4).toNatClampNeg x47) (fun f49 => L_X10_matches_13 N o_s x1 k_13 n13 (x4 + (1 : Int32)) f49))) N (0 : Int32) (0 : Int32) else L_X10_matches_39 o_s x1 x4 y5 (fun x25 x26 => gd (ix ((x1 <<< ((10 : Int32) &&& 31)) ||| x4) 8192) (nm (upd y5 ((x1 <<< ((10 : Int32) &&& 31)) ||| x4).toNatClampNeg x26) (fun f28 => L_X10_matches_13 N o_s x1 k_13 n13 (x4 + (1 : Int32)) f28))) N (0 : Int32) (-1 : Int32)
def L_X10_matches_7 (N : Nat) (o_s : Nat → Int32) : Nat → Int32 → (Nat → Int32) → Option ((Nat → Int32))
  | 0, _, _ => none
  | n7 + 1, x1, y2 => if x1 < 0 then some y2 else L_X10_matches_13 N o_s x1 (fun x50 y51 => L_X10_matches_7 N o_s n7 (x1 + (-1 : Int32)) y51) N (0 : Int32) y2
def f_X10_matches (N : Nat) (o_s : Nat → Int32) (o_most : Nat → Int32) : Option ((Nat → Int32)) := L_X10_matches_7 N o_s N (o_s 0) o_most
set_option maxHeartbeats 4000000 in
set_option maxRecDepth 100000 in
theorem c_X10_matches (l : Launch) (E : EE) (o_h : Nat) (o_a0 : Nat) (o_a1 : Nat) (o_a2 : Nat) (o_a3 : Nat) (o_a8 : Nat) (o_a9 : Nat) (o_a11 : Nat) (o_a12 : Nat) (o_a13 : Nat) (o_a14 : Nat) (o_a15 : Nat) (o_a16 : Nat) (o_s : Nat → Int32) (o_m : Nat → Int32) (o_image : Nat → Int32) (o_was : Nat → Int32) (o_hasImage : Int32) (o_place : Int32) (o_rowAt : Int32) (o_rowEnd : Int32) (o_numbers : Nat → Int32) (o_most : Nat → Int32) (o_seed : Int32) (o_kept : Nat → Int32) (o_keptKind : Nat → Int32) (o_keptFigure : Nat → Int32) (o_sort : Nat → Int32) (o_size : Nat → Int32) (o_element : Nat → Int32) (o_thrown : Int32) (N : Nat) (w_o_most : Nat → Int32) (hv : f_X10_matches N o_s o_most = some w_o_most) : Wr l E yX10_matches cX10_matches 6 none ({ frames := 2, cells := 0, slots := 0, locals := 44 }) [.ref o_h] [oMo o_h o_a0 o_a1 o_a2 o_a3 o_hasImage o_place o_rowAt o_rowEnd o_a8 o_a9 o_seed o_a11 o_a12 o_a13 o_a14 o_a15 o_a16 o_thrown, ai E o_a0 42 o_s, ai E o_a1 42 o_m, ai E o_a2 42 o_image, ai E o_a3 42 o_was, ai E o_a8 3 o_numbers, ai E o_a9 8192 o_most, ai E o_a11 8 o_kept, ai E o_a12 8 o_keptKind, ai E o_a13 8 o_keptFigure, ai E o_a14 8 o_sort, ai E o_a15 8 o_size, ai E o_a16 800 o_element] [oMo o_h o_a0 o_a1 o_a2 o_a3 o_hasImage o_place o_rowAt o_rowEnd o_a8 o_a9 o_seed o_a11 o_a12 o_a13 o_a14 o_a15 o_a16 o_thrown, ai E o_a0 42 o_s, ai E o_a1 42 o_m, ai E o_a2 42 o_image, ai E o_a3 42 o_was, ai E o_a8 3 o_numbers, ai E o_a9 8192 w_o_most, ai E o_a11 8 o_kept, ai E o_a12 8 o_keptKind, ai E o_a13 8 o_keptFigure, ai E o_a14 8 o_sort, ai E o_a15 8 o_size, ai E o_a16 800 o_element] none := by
  refine Wr.intro RX10 (by decide) rfl (Nat.le_of_ble_eq_true rfl) ?_
  intro p e s m below meth c ls A hC hr hlk hmn hP hD hS hA hG hl
  obtain ⟨hx, hb, hml, hown, ht⟩ := id hC
  have hK := hG.1
  have hl : lv_has ls 6 [(0, .ref o_h)] := hl
  rw [f_X10_matches] at hv
  refine lv_aload_n hx hb dX10_matches_0 rfl (lv_at hl 0 rfl) ?_
  refine va_get (D := E.1) (ci := 4) (v := .ref o_a0) (C := RX10) (T := TX10) (N := 18) hx hb ht i_X10 hown hK hP 0 rfl rfl 0 (by decide) (ht _ kw_4_134) (fun _ h9 => h9) rfl dX10_matches_1 ?_
  refine lv_iconst (v := (0 : Int32)) hx hb dX10_matches_4 (by decide) ?_
  refine va_iald hx hb hK hP 1 0 rfl rfl (ix_s (by decide)) dX10_matches_5 ?_
  refine W.eq (g2 := F0 m 6 ls [.int (o_s 0)]) rfl ?_
  refine lv_istore_n (lv' := [(1, .int (o_s 0)), (0, .ref o_h)]) hx hb dX10_matches_6 rfl hl (by decide) rfl (fun ls hl => ?_)
  have hL7 : ∀ (n : Nat) (x1 : Int32) (y2 : Nat → Int32) (H : Heap) (locs : List Loc) (ls : Array Slot), va_P E.1 vwCl [oMo o_h o_a0 o_a1 o_a2 o_a3 o_hasImage o_place o_rowAt o_rowEnd o_a8 o_a9 o_seed o_a11 o_a12 o_a13 o_a14 o_a15 o_a16 o_thrown, ai E o_a0 42 o_s, ai E o_a1 42 o_m, ai E o_a2 42 o_image, ai E o_a3 42 o_was, ai E o_a8 3 o_numbers, ai E o_a9 8192 y2, ai E o_a11 8 o_kept, ai E o_a12 8 o_keptKind, ai E o_a13 8 o_keptFigure, ai E o_a14 8 o_sort, ai E o_a15 8 o_size, ai E o_a16 800 o_element] H → va_D A [oMo o_h o_a0 o_a1 o_a2 o_a3 o_hasImage o_place o_rowAt o_rowEnd o_a8 o_a9 o_seed o_a11 o_a12 o_a13 o_a14 o_a15 o_a16 o_thrown, ai E o_a0 42 o_s, ai E o_a1 42 o_m, ai E o_a2 42 o_image, ai E o_a3 42 o_was, ai E o_a8 3 o_numbers, ai E o_a9 8192 y2, ai E o_a11 8 o_kept, ai E o_a12 8 o_keptKind, ai E o_a13 8 o_keptFigure, ai E o_a14 8 o_sort, ai E o_a15 8 o_size, ai E o_a16 800 o_element] → va_S A s.heap H locs → lv_has ls 6 [(1, .int x1), (0, .ref o_h)] → L_X10_matches_7 N o_s n x1 y2 = some w_o_most → W p l e ({ frames := 2, cells := 0, slots := 0, locals := 44 }) s m [.ref o_h].toArray below meth c H locs 0 0 (MQ below (fun _ st oc t => oc = .returned none ∧ va_P E.1 vwCl [oMo o_h o_a0 o_a1 o_a2 o_a3 o_hasImage o_place o_rowAt o_rowEnd o_a8 o_a9 o_seed o_a11 o_a12 o_a13 o_a14 o_a15 o_a16 o_thrown, ai E o_a0 42 o_s, ai E o_a1 42 o_m, ai E o_a2 42 o_image, ai E o_a3 42 o_was, ai E o_a8 3 o_numbers, ai E o_a9 8192 w_o_most, ai E o_a11 8 o_kept, ai E o_a12 8 o_keptKind, ai E o_a13 8 o_keptFigure, ai E o_a14 8 o_sort, ai E o_a15 8 o_size, ai E o_a16 800 o_element] t.heap ∧ va_F A st t) [.ref o_h].toArray s 0 0 A) (F0 m 7 ls []) := by
    intro n
    induction n with
    | zero => intro x1 y2 H locs ls hP hD hS hl hv; cases hv
    | succ n7 ih7 =>
      intro x1 y2 H locs ls hP hD hS hl hv
      rw [L_X10_matches_7] at hv
      refine lv_iload_n hx hb dX10_matches_7 rfl (lv_at hl 0 rfl) ?_
      refine lv_if_lt (tgt := 162) hx hb dX10_matches_8 (by decide) (fun c3 => ?_) (fun c3 => ?_)
      · have hv := if_y c3 hv
        cases hv
        exact W.vret hx hb hr (fun t h9 _ => ⟨rfl, by rw [h9]; exact hP, hS.F h9⟩) hS.2.2 dX10_matches_162 hlk
      · have hv := if_n c3 hv
        refine lv_iconst (v := (0 : Int32)) hx hb dX10_matches_11 (by decide) ?_
        refine lv_istore_n (lv' := [(2, .int (0 : Int32)), (1, .int x1), (0, .ref o_h)]) hx hb dX10_matches_12 rfl hl (by decide) rfl (fun ls hl => ?_)
        have hL13 : ∀ (k_13 : Int32 → (Nat → Int32) → Option ((Nat → Int32))), (∀ (x4 : Int32) (y5 : Nat → Int32) (H : Heap) (locs : List Loc) (ls : Array Slot), va_P E.1 vwCl [oMo o_h o_a0 o_a1 o_a2 o_a3 o_hasImage o_place o_rowAt o_rowEnd o_a8 o_a9 o_seed o_a11 o_a12 o_a13 o_a14 o_a15 o_a16 o_thrown, ai E o_a0 42 o_s, ai E o_a1 42 o_m, ai E o_a2 42 o_image, ai E o_a3 42 o_was, ai E o_a8 3 o_numbers, ai E o_a9 8192 y5, ai E o_a11 8 o_kept, ai E o_a12 8 o_keptKind, ai E o_a13 8 o_keptFigure, ai E o_a14 8 o_sort, ai E o_a15 8 o_size, ai E o_a16 800 o_element] H → va_D A [oMo o_h o_a0 o_a1 o_a2 o_a3 o_hasImage o_place o_rowAt o_rowEnd o_a8 o_a9 o_seed o_a11 o_a12 o_a13 o_a14 o_a15 o_a16 o_thrown, ai E o_a0 42 o_s, ai E o_a1 42 o_m, ai E o_a2 42 o_image, ai E o_a3 42 o_was, ai E o_a8 3 o_numbers, ai E o_a9 8192 y5, ai E o_a11 8 o_kept, ai E o_a12 8 o_keptKind, ai E o_a13 8 o_keptFigure, ai E o_a14 8 o_sort, ai E o_a15 8 o_size, ai E o_a16 800 o_element] → va_S A s.heap H locs → lv_has ls 6 [(2, .int x4), (1, .int x1), (0, .ref o_h)] → k_13 x4 y5 = some w_o_most → W p l e ({ frames := 2, cells := 0, slots := 0, locals := 44 }) s m [.ref o_h].toArray below meth c H locs 0 0 (MQ below (fun _ st oc t => oc = .returned none ∧ va_P E.1 vwCl [oMo o_h o_a0 o_a1 o_a2 o_a3 o_hasImage o_place o_rowAt o_rowEnd o_a8 o_a9 o_seed o_a11 o_a12 o_a13 o_a14 o_a15 o_a16 o_thrown, ai E o_a0 42 o_s, ai E o_a1 42 o_m, ai E o_a2 42 o_image, ai E o_a3 42 o_was, ai E o_a8 3 o_numbers, ai E o_a9 8192 w_o_most, ai E o_a11 8 o_kept, ai E o_a12 8 o_keptKind, ai E o_a13 8 o_keptFigure, ai E o_a14 8 o_sort, ai E o_a15 8 o_size, ai E o_a16 800 o_element] t.heap ∧ va_F A st t) [.ref o_h].toArray s 0 0 A) (F0 m 156 ls [])) → ∀ (n : Nat) (x4 : Int32) (y5 : Nat → Int32) (H : Heap) (locs : List Loc) (ls : Array Slot), va_P E.1 vwCl [oMo o_h o_a0 o_a1 o_a2 o_a3 o_hasImage o_place o_rowAt o_rowEnd o_a8 o_a9 o_seed o_a11 o_a12 o_a13 o_a14 o_a15 o_a16 o_thrown, ai E o_a0 42 o_s, ai E o_a1 42 o_m, ai E o_a2 42 o_image, ai E o_a3 42 o_was, ai E o_a8 3 o_numbers, ai E o_a9 8192 y5, ai E o_a11 8 o_kept, ai E o_a12 8 o_keptKind, ai E o_a13 8 o_keptFigure, ai E o_a14 8 o_sort, ai E o_a15 8 o_size, ai E o_a16 800 o_element] H → va_D A [oMo o_h o_a0 o_a1 o_a2 o_a3 o_hasImage o_place o_rowAt o_rowEnd o_a8 o_a9 o_seed o_a11 o_a12 o_a13 o_a14 o_a15 o_a16 o_thrown, ai E o_a0 42 o_s, ai E o_a1 42 o_m, ai E o_a2 42 o_image, ai E o_a3 42 o_was, ai E o_a8 3 o_numbers, ai E o_a9 8192 y5, ai E o_a11 8 o_kept, ai E o_a12 8 o_keptKind, ai E o_a13 8 o_keptFigure, ai E o_a14 8 o_sort, ai E o_a15 8 o_size, ai E o_a16 800 o_element] → va_S A s.heap H locs → lv_has ls 6 [(2, .int x4), (1, .int x1), (0, .ref o_h)] → L_X10_matches_13 N o_s x1 k_13 n x4 y5 = some w_o_most → W p l e ({ frames := 2, cells := 0, slots := 0, locals := 44 }) s m [.ref o_h].toArray below meth c H locs 0 0 (MQ below (fun _ st oc t => oc = .returned none ∧ va_P E.1 vwCl [oMo o_h o_a0 o_a1 o_a2 o_a3 o_hasImage o_place o_rowAt o_rowEnd o_a8 o_a9 o_seed o_a11 o_a12 o_a13 o_a14 o_a15 o_a16 o_thrown, ai E o_a0 42 o_s, ai E o_a1 42 o_m, ai E o_a2 42 o_image, ai E o_a3 42 o_was, ai E o_a8 3 o_numbers, ai E o_a9 8192 w_o_most, ai E o_a11 8 o_kept, ai E o_a12 8 o_keptKind, ai E o_a13 8 o_keptFigure, ai E o_a14 8 o_sort, ai E o_a15 8 o_size, ai E o_a16 800 o_element] t.heap ∧ va_F A st t) [.ref o_h].toArray s 0 0 A) (F0 m 13 ls []) := by
          intro k_13 hk_13 n
          induction n with
          | zero => intro x4 y5 H locs ls hP hD hS hl hv; cases hv
          | succ n13 ih13 =>
            intro x4 y5 H locs ls hP hD hS hl hv
            rw [L_X10_matches_13] at hv
            refine lv_iload_n hx hb dX10_matches_13 rfl (lv_at hl 0 rfl) ?_
            refine lv_sipush (v := (1024 : Int32)) hx hb dX10_matches_14 (by decide) ?_
            refine lv_icmp_ge (tgt := 156) hx hb dX10_matches_17 (by decide) (fun c6 => ?_) (fun c6 => ?_)
            · have hv := if_y c6 hv
              exact hk_13 x4 y5 _ _ _ hP hD hS (lv_sub hl [0, 1, 2] rfl) hv
            · have hv := if_n c6 hv
              refine lv_iload_n hx hb dX10_matches_20 rfl (lv_at hl 1 rfl) ?_
              refine lv_aload_n hx hb dX10_matches_21 rfl (lv_at hl 2 rfl) ?_
              refine va_get (D := E.1) (ci := 4) (v := .ref o_a0) (C := RX10) (T := TX10) (N := 18) hx hb ht i_X10 hown hK hP 0 rfl rfl 0 (by decide) (ht _ kw_4_134) (fun _ h9 => h9) rfl dX10_matches_22 ?_
              refine lv_iconst (v := (0 : Int32)) hx hb dX10_matches_25 (by decide) ?_
              refine va_iald hx hb hK hP 1 0 rfl rfl (ix_s (by decide)) dX10_matches_26 ?_
              refine W.eq (g2 := F0 m 27 ls [.int (o_s 0), .int x1]) rfl ?_
              refine lv_icmp_ne (tgt := 34) hx hb dX10_matches_27 (by decide) (fun c7 => ?_) (fun c7 => ?_)
              · have hv := if_n c7 hv
                refine lv_iconst (v := (-1 : Int32)) hx hb dX10_matches_34 (by decide) ?_
                refine lv_istore_n (lv' := [(3, .int (-1 : Int32)), (2, .int x4), (1, .int x1), (0, .ref o_h)]) hx hb dX10_matches_35 rfl hl (by decide) rfl (fun ls hl => ?_)
                refine lv_iconst (v := (0 : Int32)) hx hb dX10_matches_36 (by decide) ?_
                refine lv_istore (lv' := [(4, .int (0 : Int32)), (3, .int (-1 : Int32)), (2, .int x4), (1, .int x1), (0, .ref o_h)]) hx hb dX10_matches_37 hl (by decide) rfl (fun ls hl => ?_)
                have hL39 : ∀ (k_39 : Int32 → Int32 → Option ((Nat → Int32))), (∀ (x8 : Int32) (x9 : Int32) (H : Heap) (locs : List Loc) (ls : Array Slot), va_P E.1 vwCl [oMo o_h o_a0 o_a1 o_a2 o_a3 o_hasImage o_place o_rowAt o_rowEnd o_a8 o_a9 o_seed o_a11 o_a12 o_a13 o_a14 o_a15 o_a16 o_thrown, ai E o_a0 42 o_s, ai E o_a1 42 o_m, ai E o_a2 42 o_image, ai E o_a3 42 o_was, ai E o_a8 3 o_numbers, ai E o_a9 8192 y5, ai E o_a11 8 o_kept, ai E o_a12 8 o_keptKind, ai E o_a13 8 o_keptFigure, ai E o_a14 8 o_sort, ai E o_a15 8 o_size, ai E o_a16 800 o_element] H → va_D A [oMo o_h o_a0 o_a1 o_a2 o_a3 o_hasImage o_place o_rowAt o_rowEnd o_a8 o_a9 o_seed o_a11 o_a12 o_a13 o_a14 o_a15 o_a16 o_thrown, ai E o_a0 42 o_s, ai E o_a1 42 o_m, ai E o_a2 42 o_image, ai E o_a3 42 o_was, ai E o_a8 3 o_numbers, ai E o_a9 8192 y5, ai E o_a11 8 o_kept, ai E o_a12 8 o_keptKind, ai E o_a13 8 o_keptFigure, ai E o_a14 8 o_sort, ai E o_a15 8 o_size, ai E o_a16 800 o_element] → va_S A s.heap H locs → lv_has ls 6 [(4, .int x8), (3, .int x9), (2, .int x4), (1, .int x1), (0, .ref o_h)] → k_39 x8 x9 = some w_o_most → W p l e ({ frames := 2, cells := 0, slots := 0, locals := 44 }) s m [.ref o_h].toArray below meth c H locs 0 0 (MQ below (fun _ st oc t => oc = .returned none ∧ va_P E.1 vwCl [oMo o_h o_a0 o_a1 o_a2 o_a3 o_hasImage o_place o_rowAt o_rowEnd o_a8 o_a9 o_seed o_a11 o_a12 o_a13 o_a14 o_a15 o_a16 o_thrown, ai E o_a0 42 o_s, ai E o_a1 42 o_m, ai E o_a2 42 o_image, ai E o_a3 42 o_was, ai E o_a8 3 o_numbers, ai E o_a9 8192 w_o_most, ai E o_a11 8 o_kept, ai E o_a12 8 o_keptKind, ai E o_a13 8 o_keptFigure, ai E o_a14 8 o_sort, ai E o_a15 8 o_size, ai E o_a16 800 o_element] t.heap ∧ va_F A st t) [.ref o_h].toArray s 0 0 A) (F0 m 138 ls [])) → ∀ (n : Nat) (x8 : Int32) (x9 : Int32) (H : Heap) (locs : List Loc) (ls : Array Slot), va_P E.1 vwCl [oMo o_h o_a0 o_a1 o_a2 o_a3 o_hasImage o_place o_rowAt o_rowEnd o_a8 o_a9 o_seed o_a11 o_a12 o_a13 o_a14 o_a15 o_a16 o_thrown, ai E o_a0 42 o_s, ai E o_a1 42 o_m, ai E o_a2 42 o_image, ai E o_a3 42 o_was, ai E o_a8 3 o_numbers, ai E o_a9 8192 y5, ai E o_a11 8 o_kept, ai E o_a12 8 o_keptKind, ai E o_a13 8 o_keptFigure, ai E o_a14 8 o_sort, ai E o_a15 8 o_size, ai E o_a16 800 o_element] H → va_D A [oMo o_h o_a0 o_a1 o_a2 o_a3 o_hasImage o_place o_rowAt o_rowEnd o_a8 o_a9 o_seed o_a11 o_a12 o_a13 o_a14 o_a15 o_a16 o_thrown, ai E o_a0 42 o_s, ai E o_a1 42 o_m, ai E o_a2 42 o_image, ai E o_a3 42 o_was, ai E o_a8 3 o_numbers, ai E o_a9 8192 y5, ai E o_a11 8 o_kept, ai E o_a12 8 o_keptKind, ai E o_a13 8 o_keptFigure, ai E o_a14 8 o_sort, ai E o_a15 8 o_size, ai E o_a16 800 o_element] → va_S A s.heap H locs → lv_has ls 6 [(4, .int x8), (3, .int x9), (2, .int x4), (1, .int x1), (0, .ref o_h)] → L_X10_matches_39 o_s x1 x4 y5 k_39 n x8 x9 = some w_o_most → W p l e ({ frames := 2, cells := 0, slots := 0, locals := 44 }) s m [.ref o_h].toArray below meth c H locs 0 0 (MQ below (fun _ st oc t => oc = .returned none ∧ va_P E.1 vwCl [oMo o_h o_a0 o_a1 o_a2 o_a3 o_hasImage o_place o_rowAt o_rowEnd o_a8 o_a9 o_seed o_a11 o_a12 o_a13 o_a14 o_a15 o_a16 o_thrown, ai E o_a0 42 o_s, ai E o_a1 42 o_m, ai E o_a2 42 o_image, ai E o_a3 42 o_was, ai E o_a8 3 o_numbers, ai E o_a9 8192 w_o_most, ai E o_a11 8 o_kept, ai E o_a12 8 o_keptKind, ai E o_a13 8 o_keptFigure, ai E o_a14 8 o_sort, ai E o_a15 8 o_size, ai E o_a16 800 o_element] t.heap ∧ va_F A st t) [.ref o_h].toArray s 0 0 A) (F0 m 39 ls []) := by
                  intro k_39 hk_39 n
                  induction n with
                  | zero => intro x8 x9 H locs ls hP hD hS hl hv; cases hv
                  | succ n39 ih39 =>
                    intro x8 x9 H locs ls hP hD hS hl hv
                    rw [L_X10_matches_39] at hv
                    refine lv_iload hx hb dX10_matches_39 (lv_at hl 0 rfl) ?_
                    refine lv_bipush (v := (10 : Int32)) hx hb dX10_matches_41 (by decide) ?_
                    refine lv_icmp_ge (tgt := 138) hx hb dX10_matches_43 (by decide) (fun c10 => ?_) (fun c10 => ?_)
                    · have hv := if_y c10 hv
                      exact hk_39 x8 x9 _ _ _ hP hD hS (lv_sub hl [0, 1, 2, 3, 4] rfl) hv
                    · have hv := if_n c10 hv
                      refine lv_iload_n hx hb dX10_matches_46 rfl (lv_at hl 3 rfl) ?_
                      refine lv_aload_n hx hb dX10_matches_47 rfl (lv_at hl 4 rfl) ?_
                      refine va_get (D := E.1) (ci := 4) (v := .ref o_a0) (C := RX10) (T := TX10) (N := 18) hx hb ht i_X10 hown hK hP 0 rfl rfl 0 (by decide) (ht _ kw_4_134) (fun _ h9 => h9) rfl dX10_matches_48 ?_
                      refine lv_iconst (v := (0 : Int32)) hx hb dX10_matches_51 (by decide) ?_
                      refine va_iald hx hb hK hP 1 0 rfl rfl (ix_s (by decide)) dX10_matches_52 ?_
                      refine W.eq (g2 := F0 m 53 ls [.int (o_s 0), .int x1]) rfl ?_
                      refine lv_icmp_ge (tgt := 138) hx hb dX10_matches_53 (by decide) (fun c11 => ?_) (fun c11 => ?_)
                      · have hv := if_y c11 hv
                        exact hk_39 x8 x9 _ _ _ hP hD hS (lv_sub hl [0, 1, 2, 3, 4] rfl) hv
                      · have hv := if_n c11 hv
                        refine lv_iload_n hx hb dX10_matches_56 rfl (lv_at hl 2 rfl) ?_
                        refine lv_iload hx hb dX10_matches_57 (lv_at hl 0 rfl) ?_
                        obtain ⟨r12, h13, hv⟩ := ob_s hv
                        refine rdS (rest := []) (st1 := [.int r12]) (w := []) hC q_X10_has kw_5_5 (c_X10_has l E x4 x8 r12 h13) ⟨rfl, rfl⟩ ⟨Nat.le_of_ble_eq_true rfl, Nat.le_of_ble_eq_true rfl⟩ ⟨Nat.zero_le _, Nat.zero_le _⟩ (hP.sub (ws' := []) [] rfl) hG rfl hl.1 rfl (Nat.le_of_ble_eq_true rfl) dX10_matches_59 rfl ?_
                        refine lv_if_eq (tgt := 68) hx hb dX10_matches_62 (by decide) (fun c14 => ?_) (fun c14 => ?_)
                        · have hv := if_y c14 hv
                          refine lv_aload_n hx hb dX10_matches_68 rfl (lv_at hl 4 rfl) ?_
                          refine va_get (D := E.1) (ci := 4) (v := .ref o_a9) (C := RX10) (T := TX10) (N := 18) hx hb ht i_X10 hown hK hP 0 rfl rfl 9 (by decide) (ht _ kw_4_143) (fun _ h9 => h9) rfl dX10_matches_69 ?_
                          refine lv_iload_n hx hb dX10_matches_72 rfl (lv_at hl 3 rfl) ?_
                          refine lv_iconst (v := (1 : Int32)) hx hb dX10_matches_73 (by decide) ?_
                          refine lv_iadd hx hb dX10_matches_74 ?_
                          refine lv_bipush (v := (10 : Int32)) hx hb dX10_matches_75 (by decide) ?_
                          refine lv_ishl hx hb dX10_matches_77 ?_
                          refine lv_iload_n hx hb dX10_matches_78 rfl (lv_at hl 2 rfl) ?_
                          refine lv_ior hx hb dX10_matches_79 ?_
                          refine lv_iconst (v := (1 : Int32)) hx hb dX10_matches_80 (by decide) ?_
                          refine lv_iload hx hb dX10_matches_81 (lv_at hl 0 rfl) ?_
                          refine lv_ishl hx hb dX10_matches_83 ?_
                          refine lv_ior hx hb dX10_matches_84 ?_
                          obtain ⟨g15, hv⟩ := gd_s hv
                          refine va_iald hx hb hK hP 6 0 rfl rfl (ix_s g15) dX10_matches_85 ?_
                          refine lv_topi (fun z16 ez16 => ?_)
                          have hv := nm_s ez16 hv
                          refine lv_istore (lv' := [(5, .int z16), (4, .int x8), (3, .int x9), (2, .int x4), (1, .int x1), (0, .ref o_h)]) hx hb dX10_matches_86 hl (by decide) rfl (fun ls hl => ?_)
                          refine lv_iload hx hb dX10_matches_88 (lv_at hl 0 rfl) ?_
                          refine lv_if_lt (tgt := 132) hx hb dX10_matches_90 (by decide) (fun c17 => ?_) (fun c17 => ?_)
                          · have hv := if_y c17 hv
                            refine lv_iinc (v := (x8 + (1 : Int32))) (lv' := [(4, .int (x8 + (1 : Int32))), (5, .int z16), (3, .int x9), (2, .int x4), (1, .int x1), (0, .ref o_h)]) hx hb dX10_matches_132 hl (k := 1) rfl rfl (by decide) rfl (fun ls hl => ?_)
                            refine lv_goto (tgt := 39) hx hb dX10_matches_135 (by decide) ?_
                            exact ih39 (x8 + (1 : Int32)) x9 _ _ _ hP hD hS (lv_sub hl [0, 2, 3, 4, 5] rfl) hv
                          · have hv := if_n c17 hv
                            refine lv_iload hx hb dX10_matches_93 (lv_at hl 0 rfl) ?_
                            refine lv_aload_n hx hb dX10_matches_95 rfl (lv_at hl 5 rfl) ?_
                            refine lv_iload_n hx hb dX10_matches_96 rfl (lv_at hl 4 rfl) ?_
                            refine lv_aload_n hx hb dX10_matches_97 rfl (lv_at hl 5 rfl) ?_
                            refine va_get (D := E.1) (ci := 4) (v := .ref o_a0) (C := RX10) (T := TX10) (N := 18) hx hb ht i_X10 hown hK hP 0 rfl rfl 0 (by decide) (ht _ kw_4_134) (fun _ h9 => h9) rfl dX10_matches_98 ?_
                            refine lv_iconst (v := (4 : Int32)) hx hb dX10_matches_101 (by decide) ?_
                            refine lv_iload hx hb dX10_matches_102 (lv_at hl 1 rfl) ?_
                            refine lv_iadd hx hb dX10_matches_104 ?_
                            obtain ⟨g18, hv⟩ := gd_s hv
                            refine va_iald hx hb hK hP 1 0 rfl rfl (ix_s g18) dX10_matches_105 ?_
                            obtain ⟨r19, h20, hv⟩ := ob_s hv
                            refine rdV 4 0 (As := [.int x1, .int (o_s ((4 : Int32) + x8).toNatClampNeg)]) (rest := [.int z16]) (st1 := [.int r19, .int z16]) (w := [oMo o_h o_a0 o_a1 o_a2 o_a3 o_hasImage o_place o_rowAt o_rowEnd o_a8 o_a9 o_seed o_a11 o_a12 o_a13 o_a14 o_a15 o_a16 o_thrown, ai E o_a0 42 o_s, ai E o_a1 42 o_m, ai E o_a2 42 o_image, ai E o_a3 42 o_was, ai E o_a8 3 o_numbers, ai E o_a9 8192 y5, ai E o_a11 8 o_kept, ai E o_a12 8 o_keptKind, ai E o_a13 8 o_keptFigure, ai E o_a14 8 o_sort, ai E o_a15 8 o_size, ai E o_a16 800 o_element]) hC q_X10_weightAt kw_5_217 (c_X10_weightAt l E o_h o_a0 o_a1 o_a2 o_a3 o_a8 o_a9 o_a11 o_a12 o_a13 o_a14 o_a15 o_a16 o_s o_m o_image o_was o_hasImage o_place o_rowAt o_rowEnd o_numbers y5 o_seed o_kept o_keptKind o_keptFigure o_sort o_size o_element o_thrown x1 (o_s ((4 : Int32) + x8).toNatClampNeg) r19 h20) ⟨rfl, rfl⟩ ⟨Nat.le_of_ble_eq_true rfl, Nat.le_of_ble_eq_true rfl⟩ ⟨Nat.zero_le _, Nat.zero_le _⟩ hP rfl rfl rfl hG rfl hl.1 rfl (Nat.le_of_ble_eq_true rfl) dX10_matches_106 rfl ?_
                            refine lv_iadd hx hb dX10_matches_109 ?_
                            refine lv_iload_n hx hb dX10_matches_110 rfl (lv_at hl 2 rfl) ?_
                            refine lv_icmp_le (tgt := 132) hx hb dX10_matches_111 (by decide) (fun c21 => ?_) (fun c21 => ?_)
                            · have hv := if_y c21 hv
                              refine lv_iinc (v := (x8 + (1 : Int32))) (lv' := [(4, .int (x8 + (1 : Int32))), (5, .int z16), (3, .int x9), (2, .int x4), (1, .int x1), (0, .ref o_h)]) hx hb dX10_matches_132 hl (k := 1) rfl rfl (by decide) rfl (fun ls hl => ?_)
                              refine lv_goto (tgt := 39) hx hb dX10_matches_135 (by decide) ?_
                              exact ih39 (x8 + (1 : Int32)) x9 _ _ _ hP hD hS (lv_sub hl [0, 2, 3, 4, 5] rfl) hv
                            · have hv := if_n c21 hv
                              refine lv_iload hx hb dX10_matches_114 (lv_at hl 0 rfl) ?_
                              refine lv_aload_n hx hb dX10_matches_116 rfl (lv_at hl 5 rfl) ?_
                              refine lv_iload_n hx hb dX10_matches_117 rfl (lv_at hl 4 rfl) ?_
                              refine lv_aload_n hx hb dX10_matches_118 rfl (lv_at hl 5 rfl) ?_
                              refine va_get (D := E.1) (ci := 4) (v := .ref o_a0) (C := RX10) (T := TX10) (N := 18) hx hb ht i_X10 hown hK hP 0 rfl rfl 0 (by decide) (ht _ kw_4_134) (fun _ h9 => h9) rfl dX10_matches_119 ?_
                              refine lv_iconst (v := (4 : Int32)) hx hb dX10_matches_122 (by decide) ?_
                              refine lv_iload hx hb dX10_matches_123 (lv_at hl 1 rfl) ?_
                              refine lv_iadd hx hb dX10_matches_125 ?_
                              obtain ⟨g22, hv⟩ := gd_s hv
                              refine va_iald hx hb hK hP 1 0 rfl rfl (ix_s g22) dX10_matches_126 ?_
                              obtain ⟨r23, h24, hv⟩ := ob_s hv
                              refine rdV 4 0 (As := [.int x1, .int (o_s ((4 : Int32) + x8).toNatClampNeg)]) (rest := [.int z16]) (st1 := [.int r23, .int z16]) (w := [oMo o_h o_a0 o_a1 o_a2 o_a3 o_hasImage o_place o_rowAt o_rowEnd o_a8 o_a9 o_seed o_a11 o_a12 o_a13 o_a14 o_a15 o_a16 o_thrown, ai E o_a0 42 o_s, ai E o_a1 42 o_m, ai E o_a2 42 o_image, ai E o_a3 42 o_was, ai E o_a8 3 o_numbers, ai E o_a9 8192 y5, ai E o_a11 8 o_kept, ai E o_a12 8 o_keptKind, ai E o_a13 8 o_keptFigure, ai E o_a14 8 o_sort, ai E o_a15 8 o_size, ai E o_a16 800 o_element]) hC q_X10_weightAt kw_5_217 (c_X10_weightAt l E o_h o_a0 o_a1 o_a2 o_a3 o_a8 o_a9 o_a11 o_a12 o_a13 o_a14 o_a15 o_a16 o_s o_m o_image o_was o_hasImage o_place o_rowAt o_rowEnd o_numbers y5 o_seed o_kept o_keptKind o_keptFigure o_sort o_size o_element o_thrown x1 (o_s ((4 : Int32) + x8).toNatClampNeg) r23 h24) ⟨rfl, rfl⟩ ⟨Nat.le_of_ble_eq_true rfl, Nat.le_of_ble_eq_true rfl⟩ ⟨Nat.zero_le _, Nat.zero_le _⟩ hP rfl rfl rfl hG rfl hl.1 rfl (Nat.le_of_ble_eq_true rfl) dX10_matches_127 rfl ?_
                              refine lv_iadd hx hb dX10_matches_130 ?_
                              refine lv_istore_n (lv' := [(3, .int (z16 + r23)), (5, .int z16), (4, .int x8), (2, .int x4), (1, .int x1), (0, .ref o_h)]) hx hb dX10_matches_131 rfl hl (by decide) rfl (fun ls hl => ?_)
                              refine lv_iinc (v := (x8 + (1 : Int32))) (lv' := [(4, .int (x8 + (1 : Int32))), (3, .int (z16 + r23)), (5, .int z16), (2, .int x4), (1, .int x1), (0, .ref o_h)]) hx hb dX10_matches_132 hl (k := 2) rfl rfl (by decide) rfl (fun ls hl => ?_)
                              refine lv_goto (tgt := 39) hx hb dX10_matches_135 (by decide) ?_
                              exact ih39 (x8 + (1 : Int32)) (z16 + r23) _ _ _ hP hD hS (lv_sub hl [0, 1, 3, 4, 5] rfl) hv
                        · have hv := if_n c14 hv
                          refine lv_goto (tgt := 132) hx hb dX10_matches_65 (by decide) ?_
                          refine lv_iinc (v := (x8 + (1 : Int32))) (lv' := [(4, .int (x8 + (1 : Int32))), (3, .int x9), (2, .int x4), (1, .int x1), (0, .ref o_h)]) hx hb dX10_matches_132 hl (k := 0) rfl rfl (by decide) rfl (fun ls hl => ?_)
                          refine lv_goto (tgt := 39) hx hb dX10_matches_135 (by decide) ?_
                          exact ih39 (x8 + (1 : Int32)) x9 _ _ _ hP hD hS (lv_sub hl [0, 1, 2, 3, 4] rfl) hv
                refine hL39 _ (fun x25 x26 H locs ls hP hD hS hl hv => ?_) N (0 : Int32) (-1 : Int32) _ _ _ hP hD hS (lv_sub hl [0, 1, 2, 3, 4] rfl) hv
                refine lv_aload_n hx hb dX10_matches_138 rfl (lv_at hl 4 rfl) ?_
                refine va_get (D := E.1) (ci := 4) (v := .ref o_a9) (C := RX10) (T := TX10) (N := 18) hx hb ht i_X10 hown hK hP 0 rfl rfl 9 (by decide) (ht _ kw_4_143) (fun _ h9 => h9) rfl dX10_matches_139 ?_
                refine lv_iload_n hx hb dX10_matches_142 rfl (lv_at hl 3 rfl) ?_
                refine lv_bipush (v := (10 : Int32)) hx hb dX10_matches_143 (by decide) ?_
                refine lv_ishl hx hb dX10_matches_145 ?_
                refine lv_iload_n hx hb dX10_matches_146 rfl (lv_at hl 2 rfl) ?_
                refine lv_ior hx hb dX10_matches_147 ?_
                refine lv_iload_n hx hb dX10_matches_148 rfl (lv_at hl 1 rfl) ?_
                obtain ⟨g27, hv⟩ := gd_s hv
                refine va_iast hx hb hK hP hD hS 6 0 rfl rfl (ix_s g27) dX10_matches_149 (fun H locs hP hD hS => ?_)
                have hP : va_P E.1 vwCl [oMo o_h o_a0 o_a1 o_a2 o_a3 o_hasImage o_place o_rowAt o_rowEnd o_a8 o_a9 o_seed o_a11 o_a12 o_a13 o_a14 o_a15 o_a16 o_thrown, ai E o_a0 42 o_s, ai E o_a1 42 o_m, ai E o_a2 42 o_image, ai E o_a3 42 o_was, ai E o_a8 3 o_numbers, ai E o_a9 8192 (upd y5 ((x1 <<< ((10 : Int32) &&& 31)) ||| x4).toNatClampNeg x26), ai E o_a11 8 o_kept, ai E o_a12 8 o_keptKind, ai E o_a13 8 o_keptFigure, ai E o_a14 8 o_sort, ai E o_a15 8 o_size, ai E o_a16 800 o_element] H := hP
                have hD : va_D A [oMo o_h o_a0 o_a1 o_a2 o_a3 o_hasImage o_place o_rowAt o_rowEnd o_a8 o_a9 o_seed o_a11 o_a12 o_a13 o_a14 o_a15 o_a16 o_thrown, ai E o_a0 42 o_s, ai E o_a1 42 o_m, ai E o_a2 42 o_image, ai E o_a3 42 o_was, ai E o_a8 3 o_numbers, ai E o_a9 8192 (upd y5 ((x1 <<< ((10 : Int32) &&& 31)) ||| x4).toNatClampNeg x26), ai E o_a11 8 o_kept, ai E o_a12 8 o_keptKind, ai E o_a13 8 o_keptFigure, ai E o_a14 8 o_sort, ai E o_a15 8 o_size, ai E o_a16 800 o_element] := hD
                obtain ⟨f28, ef28⟩ : ∃ z, z = (upd y5 ((x1 <<< ((10 : Int32) &&& 31)) ||| x4).toNatClampNeg x26) := ⟨_, rfl⟩
                rw [← ef28] at hP hD
                have hv := nm_s ef28 hv
                refine lv_iinc (v := (x4 + (1 : Int32))) (lv' := [(2, .int (x4 + (1 : Int32))), (4, .int x25), (3, .int x26), (1, .int x1), (0, .ref o_h)]) hx hb dX10_matches_150 hl (k := 2) rfl rfl (by decide) rfl (fun ls hl => ?_)
                refine lv_goto (tgt := 13) hx hb dX10_matches_153 (by decide) ?_
                exact ih13 (x4 + (1 : Int32)) f28 _ _ _ hP hD hS (lv_sub hl [0, 3, 4] rfl) hv
              · have hv := if_y c7 hv
                refine lv_iconst (v := (0 : Int32)) hx hb dX10_matches_30 (by decide) ?_
                refine lv_goto (tgt := 35) hx hb dX10_matches_31 (by decide) ?_
                refine lv_istore_n (lv' := [(3, .int (0 : Int32)), (2, .int x4), (1, .int x1), (0, .ref o_h)]) hx hb dX10_matches_35 rfl hl (by decide) rfl (fun ls hl => ?_)
                refine lv_iconst (v := (0 : Int32)) hx hb dX10_matches_36 (by decide) ?_
                refine lv_istore (lv' := [(4, .int (0 : Int32)), (3, .int (0 : Int32)), (2, .int x4), (1, .int x1), (0, .ref o_h)]) hx hb dX10_matches_37 hl (by decide) rfl (fun ls hl => ?_)
                have hL39 : ∀ (k_39 : Int32 → Int32 → Option ((Nat → Int32))), (∀ (x29 : Int32) (x30 : Int32) (H : Heap) (locs : List Loc) (ls : Array Slot), va_P E.1 vwCl [oMo o_h o_a0 o_a1 o_a2 o_a3 o_hasImage o_place o_rowAt o_rowEnd o_a8 o_a9 o_seed o_a11 o_a12 o_a13 o_a14 o_a15 o_a16 o_thrown, ai E o_a0 42 o_s, ai E o_a1 42 o_m, ai E o_a2 42 o_image, ai E o_a3 42 o_was, ai E o_a8 3 o_numbers, ai E o_a9 8192 y5, ai E o_a11 8 o_kept, ai E o_a12 8 o_keptKind, ai E o_a13 8 o_keptFigure, ai E o_a14 8 o_sort, ai E o_a15 8 o_size, ai E o_a16 800 o_element] H → va_D A [oMo o_h o_a0 o_a1 o_a2 o_a3 o_hasImage o_place o_rowAt o_rowEnd o_a8 o_a9 o_seed o_a11 o_a12 o_a13 o_a14 o_a15 o_a16 o_thrown, ai E o_a0 42 o_s, ai E o_a1 42 o_m, ai E o_a2 42 o_image, ai E o_a3 42 o_was, ai E o_a8 3 o_numbers, ai E o_a9 8192 y5, ai E o_a11 8 o_kept, ai E o_a12 8 o_keptKind, ai E o_a13 8 o_keptFigure, ai E o_a14 8 o_sort, ai E o_a15 8 o_size, ai E o_a16 800 o_element] → va_S A s.heap H locs → lv_has ls 6 [(4, .int x29), (3, .int x30), (2, .int x4), (1, .int x1), (0, .ref o_h)] → k_39 x29 x30 = some w_o_most → W p l e ({ frames := 2, cells := 0, slots := 0, locals := 44 }) s m [.ref o_h].toArray below meth c H locs 0 0 (MQ below (fun _ st oc t => oc = .returned none ∧ va_P E.1 vwCl [oMo o_h o_a0 o_a1 o_a2 o_a3 o_hasImage o_place o_rowAt o_rowEnd o_a8 o_a9 o_seed o_a11 o_a12 o_a13 o_a14 o_a15 o_a16 o_thrown, ai E o_a0 42 o_s, ai E o_a1 42 o_m, ai E o_a2 42 o_image, ai E o_a3 42 o_was, ai E o_a8 3 o_numbers, ai E o_a9 8192 w_o_most, ai E o_a11 8 o_kept, ai E o_a12 8 o_keptKind, ai E o_a13 8 o_keptFigure, ai E o_a14 8 o_sort, ai E o_a15 8 o_size, ai E o_a16 800 o_element] t.heap ∧ va_F A st t) [.ref o_h].toArray s 0 0 A) (F0 m 138 ls [])) → ∀ (n : Nat) (x29 : Int32) (x30 : Int32) (H : Heap) (locs : List Loc) (ls : Array Slot), va_P E.1 vwCl [oMo o_h o_a0 o_a1 o_a2 o_a3 o_hasImage o_place o_rowAt o_rowEnd o_a8 o_a9 o_seed o_a11 o_a12 o_a13 o_a14 o_a15 o_a16 o_thrown, ai E o_a0 42 o_s, ai E o_a1 42 o_m, ai E o_a2 42 o_image, ai E o_a3 42 o_was, ai E o_a8 3 o_numbers, ai E o_a9 8192 y5, ai E o_a11 8 o_kept, ai E o_a12 8 o_keptKind, ai E o_a13 8 o_keptFigure, ai E o_a14 8 o_sort, ai E o_a15 8 o_size, ai E o_a16 800 o_element] H → va_D A [oMo o_h o_a0 o_a1 o_a2 o_a3 o_hasImage o_place o_rowAt o_rowEnd o_a8 o_a9 o_seed o_a11 o_a12 o_a13 o_a14 o_a15 o_a16 o_thrown, ai E o_a0 42 o_s, ai E o_a1 42 o_m, ai E o_a2 42 o_image, ai E o_a3 42 o_was, ai E o_a8 3 o_numbers, ai E o_a9 8192 y5, ai E o_a11 8 o_kept, ai E o_a12 8 o_keptKind, ai E o_a13 8 o_keptFigure, ai E o_a14 8 o_sort, ai E o_a15 8 o_size, ai E o_a16 800 o_element] → va_S A s.heap H locs → lv_has ls 6 [(4, .int x29), (3, .int x30), (2, .int x4), (1, .int x1), (0, .ref o_h)] → L_X10_matches_39 o_s x1 x4 y5 k_39 n x29 x30 = some w_o_most → W p l e ({ frames := 2, cells := 0, slots := 0, locals := 44 }) s m [.ref o_h].toArray below meth c H locs 0 0 (MQ below (fun _ st oc t => oc = .returned none ∧ va_P E.1 vwCl [oMo o_h o_a0 o_a1 o_a2 o_a3 o_hasImage o_place o_rowAt o_rowEnd o_a8 o_a9 o_seed o_a11 o_a12 o_a13 o_a14 o_a15 o_a16 o_thrown, ai E o_a0 42 o_s, ai E o_a1 42 o_m, ai E o_a2 42 o_image, ai E o_a3 42 o_was, ai E o_a8 3 o_numbers, ai E o_a9 8192 w_o_most, ai E o_a11 8 o_kept, ai E o_a12 8 o_keptKind, ai E o_a13 8 o_keptFigure, ai E o_a14 8 o_sort, ai E o_a15 8 o_size, ai E o_a16 800 o_element] t.heap ∧ va_F A st t) [.ref o_h].toArray s 0 0 A) (F0 m 39 ls []) := by
                  intro k_39 hk_39 n
                  induction n with
                  | zero => intro x29 x30 H locs ls hP hD hS hl hv; cases hv
                  | succ n39 ih39 =>
                    intro x29 x30 H locs ls hP hD hS hl hv
                    rw [L_X10_matches_39] at hv
                    refine lv_iload hx hb dX10_matches_39 (lv_at hl 0 rfl) ?_
                    refine lv_bipush (v := (10 : Int32)) hx hb dX10_matches_41 (by decide) ?_
                    refine lv_icmp_ge (tgt := 138) hx hb dX10_matches_43 (by decide) (fun c31 => ?_) (fun c31 => ?_)
                    · have hv := if_y c31 hv
                      exact hk_39 x29 x30 _ _ _ hP hD hS (lv_sub hl [0, 1, 2, 3, 4] rfl) hv
                    · have hv := if_n c31 hv
                      refine lv_iload_n hx hb dX10_matches_46 rfl (lv_at hl 3 rfl) ?_
                      refine lv_aload_n hx hb dX10_matches_47 rfl (lv_at hl 4 rfl) ?_
                      refine va_get (D := E.1) (ci := 4) (v := .ref o_a0) (C := RX10) (T := TX10) (N := 18) hx hb ht i_X10 hown hK hP 0 rfl rfl 0 (by decide) (ht _ kw_4_134) (fun _ h9 => h9) rfl dX10_matches_48 ?_
                      refine lv_iconst (v := (0 : Int32)) hx hb dX10_matches_51 (by decide) ?_
                      refine va_iald hx hb hK hP 1 0 rfl rfl (ix_s (by decide)) dX10_matches_52 ?_
                      refine W.eq (g2 := F0 m 53 ls [.int (o_s 0), .int x1]) rfl ?_
                      refine lv_icmp_ge (tgt := 138) hx hb dX10_matches_53 (by decide) (fun c32 => ?_) (fun c32 => ?_)
                      · have hv := if_y c32 hv
                        exact hk_39 x29 x30 _ _ _ hP hD hS (lv_sub hl [0, 1, 2, 3, 4] rfl) hv
                      · have hv := if_n c32 hv
                        refine lv_iload_n hx hb dX10_matches_56 rfl (lv_at hl 2 rfl) ?_
                        refine lv_iload hx hb dX10_matches_57 (lv_at hl 0 rfl) ?_
                        obtain ⟨r33, h34, hv⟩ := ob_s hv
                        refine rdS (rest := []) (st1 := [.int r33]) (w := []) hC q_X10_has kw_5_5 (c_X10_has l E x4 x29 r33 h34) ⟨rfl, rfl⟩ ⟨Nat.le_of_ble_eq_true rfl, Nat.le_of_ble_eq_true rfl⟩ ⟨Nat.zero_le _, Nat.zero_le _⟩ (hP.sub (ws' := []) [] rfl) hG rfl hl.1 rfl (Nat.le_of_ble_eq_true rfl) dX10_matches_59 rfl ?_
                        refine lv_if_eq (tgt := 68) hx hb dX10_matches_62 (by decide) (fun c35 => ?_) (fun c35 => ?_)
                        · have hv := if_y c35 hv
                          refine lv_aload_n hx hb dX10_matches_68 rfl (lv_at hl 4 rfl) ?_
                          refine va_get (D := E.1) (ci := 4) (v := .ref o_a9) (C := RX10) (T := TX10) (N := 18) hx hb ht i_X10 hown hK hP 0 rfl rfl 9 (by decide) (ht _ kw_4_143) (fun _ h9 => h9) rfl dX10_matches_69 ?_
                          refine lv_iload_n hx hb dX10_matches_72 rfl (lv_at hl 3 rfl) ?_
                          refine lv_iconst (v := (1 : Int32)) hx hb dX10_matches_73 (by decide) ?_
                          refine lv_iadd hx hb dX10_matches_74 ?_
                          refine lv_bipush (v := (10 : Int32)) hx hb dX10_matches_75 (by decide) ?_
                          refine lv_ishl hx hb dX10_matches_77 ?_
                          refine lv_iload_n hx hb dX10_matches_78 rfl (lv_at hl 2 rfl) ?_
                          refine lv_ior hx hb dX10_matches_79 ?_
                          refine lv_iconst (v := (1 : Int32)) hx hb dX10_matches_80 (by decide) ?_
                          refine lv_iload hx hb dX10_matches_81 (lv_at hl 0 rfl) ?_
                          refine lv_ishl hx hb dX10_matches_83 ?_
                          refine lv_ior hx hb dX10_matches_84 ?_
                          obtain ⟨g36, hv⟩ := gd_s hv
                          refine va_iald hx hb hK hP 6 0 rfl rfl (ix_s g36) dX10_matches_85 ?_
                          refine lv_topi (fun z37 ez37 => ?_)
                          have hv := nm_s ez37 hv
                          refine lv_istore (lv' := [(5, .int z37), (4, .int x29), (3, .int x30), (2, .int x4), (1, .int x1), (0, .ref o_h)]) hx hb dX10_matches_86 hl (by decide) rfl (fun ls hl => ?_)
                          refine lv_iload hx hb dX10_matches_88 (lv_at hl 0 rfl) ?_
                          refine lv_if_lt (tgt := 132) hx hb dX10_matches_90 (by decide) (fun c38 => ?_) (fun c38 => ?_)
                          · have hv := if_y c38 hv
                            refine lv_iinc (v := (x29 + (1 : Int32))) (lv' := [(4, .int (x29 + (1 : Int32))), (5, .int z37), (3, .int x30), (2, .int x4), (1, .int x1), (0, .ref o_h)]) hx hb dX10_matches_132 hl (k := 1) rfl rfl (by decide) rfl (fun ls hl => ?_)
                            refine lv_goto (tgt := 39) hx hb dX10_matches_135 (by decide) ?_
                            exact ih39 (x29 + (1 : Int32)) x30 _ _ _ hP hD hS (lv_sub hl [0, 2, 3, 4, 5] rfl) hv
                          · have hv := if_n c38 hv
                            refine lv_iload hx hb dX10_matches_93 (lv_at hl 0 rfl) ?_
                            refine lv_aload_n hx hb dX10_matches_95 rfl (lv_at hl 5 rfl) ?_
                            refine lv_iload_n hx hb dX10_matches_96 rfl (lv_at hl 4 rfl) ?_
                            refine lv_aload_n hx hb dX10_matches_97 rfl (lv_at hl 5 rfl) ?_
                            refine va_get (D := E.1) (ci := 4) (v := .ref o_a0) (C := RX10) (T := TX10) (N := 18) hx hb ht i_X10 hown hK hP 0 rfl rfl 0 (by decide) (ht _ kw_4_134) (fun _ h9 => h9) rfl dX10_matches_98 ?_
                            refine lv_iconst (v := (4 : Int32)) hx hb dX10_matches_101 (by decide) ?_
                            refine lv_iload hx hb dX10_matches_102 (lv_at hl 1 rfl) ?_
                            refine lv_iadd hx hb dX10_matches_104 ?_
                            obtain ⟨g39, hv⟩ := gd_s hv
                            refine va_iald hx hb hK hP 1 0 rfl rfl (ix_s g39) dX10_matches_105 ?_
                            obtain ⟨r40, h41, hv⟩ := ob_s hv
                            refine rdV 4 0 (As := [.int x1, .int (o_s ((4 : Int32) + x29).toNatClampNeg)]) (rest := [.int z37]) (st1 := [.int r40, .int z37]) (w := [oMo o_h o_a0 o_a1 o_a2 o_a3 o_hasImage o_place o_rowAt o_rowEnd o_a8 o_a9 o_seed o_a11 o_a12 o_a13 o_a14 o_a15 o_a16 o_thrown, ai E o_a0 42 o_s, ai E o_a1 42 o_m, ai E o_a2 42 o_image, ai E o_a3 42 o_was, ai E o_a8 3 o_numbers, ai E o_a9 8192 y5, ai E o_a11 8 o_kept, ai E o_a12 8 o_keptKind, ai E o_a13 8 o_keptFigure, ai E o_a14 8 o_sort, ai E o_a15 8 o_size, ai E o_a16 800 o_element]) hC q_X10_weightAt kw_5_217 (c_X10_weightAt l E o_h o_a0 o_a1 o_a2 o_a3 o_a8 o_a9 o_a11 o_a12 o_a13 o_a14 o_a15 o_a16 o_s o_m o_image o_was o_hasImage o_place o_rowAt o_rowEnd o_numbers y5 o_seed o_kept o_keptKind o_keptFigure o_sort o_size o_element o_thrown x1 (o_s ((4 : Int32) + x29).toNatClampNeg) r40 h41) ⟨rfl, rfl⟩ ⟨Nat.le_of_ble_eq_true rfl, Nat.le_of_ble_eq_true rfl⟩ ⟨Nat.zero_le _, Nat.zero_le _⟩ hP rfl rfl rfl hG rfl hl.1 rfl (Nat.le_of_ble_eq_true rfl) dX10_matches_106 rfl ?_
                            refine lv_iadd hx hb dX10_matches_109 ?_
                            refine lv_iload_n hx hb dX10_matches_110 rfl (lv_at hl 2 rfl) ?_
                            refine lv_icmp_le (tgt := 132) hx hb dX10_matches_111 (by decide) (fun c42 => ?_) (fun c42 => ?_)
                            · have hv := if_y c42 hv
                              refine lv_iinc (v := (x29 + (1 : Int32))) (lv' := [(4, .int (x29 + (1 : Int32))), (5, .int z37), (3, .int x30), (2, .int x4), (1, .int x1), (0, .ref o_h)]) hx hb dX10_matches_132 hl (k := 1) rfl rfl (by decide) rfl (fun ls hl => ?_)
                              refine lv_goto (tgt := 39) hx hb dX10_matches_135 (by decide) ?_
                              exact ih39 (x29 + (1 : Int32)) x30 _ _ _ hP hD hS (lv_sub hl [0, 2, 3, 4, 5] rfl) hv
                            · have hv := if_n c42 hv
                              refine lv_iload hx hb dX10_matches_114 (lv_at hl 0 rfl) ?_
                              refine lv_aload_n hx hb dX10_matches_116 rfl (lv_at hl 5 rfl) ?_
                              refine lv_iload_n hx hb dX10_matches_117 rfl (lv_at hl 4 rfl) ?_
                              refine lv_aload_n hx hb dX10_matches_118 rfl (lv_at hl 5 rfl) ?_
                              refine va_get (D := E.1) (ci := 4) (v := .ref o_a0) (C := RX10) (T := TX10) (N := 18) hx hb ht i_X10 hown hK hP 0 rfl rfl 0 (by decide) (ht _ kw_4_134) (fun _ h9 => h9) rfl dX10_matches_119 ?_
                              refine lv_iconst (v := (4 : Int32)) hx hb dX10_matches_122 (by decide) ?_
                              refine lv_iload hx hb dX10_matches_123 (lv_at hl 1 rfl) ?_
                              refine lv_iadd hx hb dX10_matches_125 ?_
                              obtain ⟨g43, hv⟩ := gd_s hv
                              refine va_iald hx hb hK hP 1 0 rfl rfl (ix_s g43) dX10_matches_126 ?_
                              obtain ⟨r44, h45, hv⟩ := ob_s hv
                              refine rdV 4 0 (As := [.int x1, .int (o_s ((4 : Int32) + x29).toNatClampNeg)]) (rest := [.int z37]) (st1 := [.int r44, .int z37]) (w := [oMo o_h o_a0 o_a1 o_a2 o_a3 o_hasImage o_place o_rowAt o_rowEnd o_a8 o_a9 o_seed o_a11 o_a12 o_a13 o_a14 o_a15 o_a16 o_thrown, ai E o_a0 42 o_s, ai E o_a1 42 o_m, ai E o_a2 42 o_image, ai E o_a3 42 o_was, ai E o_a8 3 o_numbers, ai E o_a9 8192 y5, ai E o_a11 8 o_kept, ai E o_a12 8 o_keptKind, ai E o_a13 8 o_keptFigure, ai E o_a14 8 o_sort, ai E o_a15 8 o_size, ai E o_a16 800 o_element]) hC q_X10_weightAt kw_5_217 (c_X10_weightAt l E o_h o_a0 o_a1 o_a2 o_a3 o_a8 o_a9 o_a11 o_a12 o_a13 o_a14 o_a15 o_a16 o_s o_m o_image o_was o_hasImage o_place o_rowAt o_rowEnd o_numbers y5 o_seed o_kept o_keptKind o_keptFigure o_sort o_size o_element o_thrown x1 (o_s ((4 : Int32) + x29).toNatClampNeg) r44 h45) ⟨rfl, rfl⟩ ⟨Nat.le_of_ble_eq_true rfl, Nat.le_of_ble_eq_true rfl⟩ ⟨Nat.zero_le _, Nat.zero_le _⟩ hP rfl rfl rfl hG rfl hl.1 rfl (Nat.le_of_ble_eq_true rfl) dX10_matches_127 rfl ?_
                              refine lv_iadd hx hb dX10_matches_130 ?_
                              refine lv_istore_n (lv' := [(3, .int (z37 + r44)), (5, .int z37), (4, .int x29), (2, .int x4), (1, .int x1), (0, .ref o_h)]) hx hb dX10_matches_131 rfl hl (by decide) rfl (fun ls hl => ?_)
                              refine lv_iinc (v := (x29 + (1 : Int32))) (lv' := [(4, .int (x29 + (1 : Int32))), (3, .int (z37 + r44)), (5, .int z37), (2, .int x4), (1, .int x1), (0, .ref o_h)]) hx hb dX10_matches_132 hl (k := 2) rfl rfl (by decide) rfl (fun ls hl => ?_)
                              refine lv_goto (tgt := 39) hx hb dX10_matches_135 (by decide) ?_
                              exact ih39 (x29 + (1 : Int32)) (z37 + r44) _ _ _ hP hD hS (lv_sub hl [0, 1, 3, 4, 5] rfl) hv
                        · have hv := if_n c35 hv
                          refine lv_goto (tgt := 132) hx hb dX10_matches_65 (by decide) ?_
                          refine lv_iinc (v := (x29 + (1 : Int32))) (lv' := [(4, .int (x29 + (1 : Int32))), (3, .int x30), (2, .int x4), (1, .int x1), (0, .ref o_h)]) hx hb dX10_matches_132 hl (k := 0) rfl rfl (by decide) rfl (fun ls hl => ?_)
                          refine lv_goto (tgt := 39) hx hb dX10_matches_135 (by decide) ?_
                          exact ih39 (x29 + (1 : Int32)) x30 _ _ _ hP hD hS (lv_sub hl [0, 1, 2, 3, 4] rfl) hv
                refine hL39 _ (fun x46 x47 H locs ls hP hD hS hl hv => ?_) N (0 : Int32) (0 : Int32) _ _ _ hP hD hS (lv_sub hl [0, 1, 2, 3, 4] rfl) hv
                refine lv_aload_n hx hb dX10_matches_138 rfl (lv_at hl 4 rfl) ?_
                refine va_get (D := E.1) (ci := 4) (v := .ref o_a9) (C := RX10) (T := TX10) (N := 18) hx hb ht i_X10 hown hK hP 0 rfl rfl 9 (by decide) (ht _ kw_4_143) (fun _ h9 => h9) rfl dX10_matches_139 ?_
                refine lv_iload_n hx hb dX10_matches_142 rfl (lv_at hl 3 rfl) ?_
                refine lv_bipush (v := (10 : Int32)) hx hb dX10_matches_143 (by decide) ?_
                refine lv_ishl hx hb dX10_matches_145 ?_
                refine lv_iload_n hx hb dX10_matches_146 rfl (lv_at hl 2 rfl) ?_
                refine lv_ior hx hb dX10_matches_147 ?_
                refine lv_iload_n hx hb dX10_matches_148 rfl (lv_at hl 1 rfl) ?_
                obtain ⟨g48, hv⟩ := gd_s hv
                refine va_iast hx hb hK hP hD hS 6 0 rfl rfl (ix_s g48) dX10_matches_149 (fun H locs hP hD hS => ?_)
                have hP : va_P E.1 vwCl [oMo o_h o_a0 o_a1 o_a2 o_a3 o_hasImage o_place o_rowAt o_rowEnd o_a8 o_a9 o_seed o_a11 o_a12 o_a13 o_a14 o_a15 o_a16 o_thrown, ai E o_a0 42 o_s, ai E o_a1 42 o_m, ai E o_a2 42 o_image, ai E o_a3 42 o_was, ai E o_a8 3 o_numbers, ai E o_a9 8192 (upd y5 ((x1 <<< ((10 : Int32) &&& 31)) ||| x4).toNatClampNeg x47), ai E o_a11 8 o_kept, ai E o_a12 8 o_keptKind, ai E o_a13 8 o_keptFigure, ai E o_a14 8 o_sort, ai E o_a15 8 o_size, ai E o_a16 800 o_element] H := hP
                have hD : va_D A [oMo o_h o_a0 o_a1 o_a2 o_a3 o_hasImage o_place o_rowAt o_rowEnd o_a8 o_a9 o_seed o_a11 o_a12 o_a13 o_a14 o_a15 o_a16 o_thrown, ai E o_a0 42 o_s, ai E o_a1 42 o_m, ai E o_a2 42 o_image, ai E o_a3 42 o_was, ai E o_a8 3 o_numbers, ai E o_a9 8192 (upd y5 ((x1 <<< ((10 : Int32) &&& 31)) ||| x4).toNatClampNeg x47), ai E o_a11 8 o_kept, ai E o_a12 8 o_keptKind, ai E o_a13 8 o_keptFigure, ai E o_a14 8 o_sort, ai E o_a15 8 o_size, ai E o_a16 800 o_element] := hD
                obtain ⟨f49, ef49⟩ : ∃ z, z = (upd y5 ((x1 <<< ((10 : Int32) &&& 31)) ||| x4).toNatClampNeg x47) := ⟨_, rfl⟩
                rw [← ef49] at hP hD
                have hv := nm_s ef49 hv
                refine lv_iinc (v := (x4 + (1 : Int32))) (lv' := [(2, .int (x4 + (1 : Int32))), (4, .int x46), (3, .int x47), (1, .int x1), (0, .ref o_h)]) hx hb dX10_matches_150 hl (k := 2) rfl rfl (by decide) rfl (fun ls hl => ?_)
                refine lv_goto (tgt := 13) hx hb dX10_matches_153 (by decide) ?_
                exact ih13 (x4 + (1 : Int32)) f49 _ _ _ hP hD hS (lv_sub hl [0, 3, 4] rfl) hv
        refine hL13 _ (fun x50 y51 H locs ls hP hD hS hl hv => ?_) N (0 : Int32) y2 _ _ _ hP hD hS (lv_sub hl [0, 1, 2] rfl) hv
        refine lv_iinc (v := (x1 + (-1 : Int32))) (lv' := [(1, .int (x1 + (-1 : Int32))), (2, .int x50), (0, .ref o_h)]) hx hb dX10_matches_156 hl (k := 1) rfl rfl (by decide) rfl (fun ls hl => ?_)
        refine lv_goto (tgt := 7) hx hb dX10_matches_159 (by decide) ?_
        exact ih7 (x1 + (-1 : Int32)) y51 _ _ _ hP hD hS (lv_sub hl [0, 2] rfl) hv
  exact hL7 N (o_s 0) o_most _ _ _ hP hD hS (lv_sub hl [0, 1] rfl) hv
theorem dX10_railOf_0 : decode cX10_railOf 0 = .ok (.iconst 0, 1) := by decide +kernel
theorem dX10_railOf_1 : decode cX10_railOf 1 = .ok (.istore_n 3, 1) := by decide +kernel
theorem dX10_railOf_2 : decode cX10_railOf 2 = .ok (.iload_n 3, 1) := by decide +kernel
theorem dX10_railOf_3 : decode cX10_railOf 3 = .ok (.bipush 10, 2) := by decide +kernel
theorem dX10_railOf_5 : decode cX10_railOf 5 = .ok (.if_icmp .ge 76, 3) := by decide +kernel
theorem dX10_railOf_8 : decode cX10_railOf 8 = .ok (.iload_n 2, 1) := by decide +kernel
theorem dX10_railOf_9 : decode cX10_railOf 9 = .ok (.iload_n 3, 1) := by decide +kernel
theorem dX10_railOf_10 : decode cX10_railOf 10 = .ok (.invokestatic 62, 3) := by decide +kernel
theorem dX10_railOf_13 : decode cX10_railOf 13 = .ok (.ifCond .eq 6, 3) := by decide +kernel
theorem dX10_railOf_16 : decode cX10_railOf 16 = .ok (.goto 59, 3) := by decide +kernel
theorem dX10_railOf_19 : decode cX10_railOf 19 = .ok (.aload_n 0, 1) := by decide +kernel
theorem dX10_railOf_20 : decode cX10_railOf 20 = .ok (.getfield 25, 3) := by decide +kernel
theorem dX10_railOf_23 : decode cX10_railOf 23 = .ok (.iload_n 1, 1) := by decide +kernel
theorem dX10_railOf_24 : decode cX10_railOf 24 = .ok (.iconst 1, 1) := by decide +kernel
theorem dX10_railOf_25 : decode cX10_railOf 25 = .ok (.iadd, 1) := by decide +kernel
theorem dX10_railOf_26 : decode cX10_railOf 26 = .ok (.bipush 10, 2) := by decide +kernel
theorem dX10_railOf_28 : decode cX10_railOf 28 = .ok (.ishl, 1) := by decide +kernel
theorem dX10_railOf_29 : decode cX10_railOf 29 = .ok (.iload_n 2, 1) := by decide +kernel
theorem dX10_railOf_30 : decode cX10_railOf 30 = .ok (.ior, 1) := by decide +kernel
theorem dX10_railOf_31 : decode cX10_railOf 31 = .ok (.iconst 1, 1) := by decide +kernel
theorem dX10_railOf_32 : decode cX10_railOf 32 = .ok (.iload_n 3, 1) := by decide +kernel
theorem dX10_railOf_33 : decode cX10_railOf 33 = .ok (.ishl, 1) := by decide +kernel
theorem dX10_railOf_34 : decode cX10_railOf 34 = .ok (.ior, 1) := by decide +kernel
theorem dX10_railOf_35 : decode cX10_railOf 35 = .ok (.iaload, 1) := by decide +kernel
theorem dX10_railOf_36 : decode cX10_railOf 36 = .ok (.istore 4, 2) := by decide +kernel
theorem dX10_railOf_38 : decode cX10_railOf 38 = .ok (.iload 4, 2) := by decide +kernel
theorem dX10_railOf_40 : decode cX10_railOf 40 = .ok (.ifCond .lt 35, 3) := by decide +kernel
theorem dX10_railOf_43 : decode cX10_railOf 43 = .ok (.iload 4, 2) := by decide +kernel
theorem dX10_railOf_45 : decode cX10_railOf 45 = .ok (.aload_n 0, 1) := by decide +kernel
theorem dX10_railOf_46 : decode cX10_railOf 46 = .ok (.iload_n 1, 1) := by decide +kernel
theorem dX10_railOf_47 : decode cX10_railOf 47 = .ok (.aload_n 0, 1) := by decide +kernel
theorem dX10_railOf_48 : decode cX10_railOf 48 = .ok (.getfield 9, 3) := by decide +kernel
theorem dX10_railOf_51 : decode cX10_railOf 51 = .ok (.iconst 4, 1) := by decide +kernel
theorem dX10_railOf_52 : decode cX10_railOf 52 = .ok (.iload_n 3, 1) := by decide +kernel
theorem dX10_railOf_53 : decode cX10_railOf 53 = .ok (.iadd, 1) := by decide +kernel
theorem dX10_railOf_54 : decode cX10_railOf 54 = .ok (.iaload, 1) := by decide +kernel
theorem dX10_railOf_55 : decode cX10_railOf 55 = .ok (.invokevirtual 227, 3) := by decide +kernel
theorem dX10_railOf_58 : decode cX10_railOf 58 = .ok (.iadd, 1) := by decide +kernel
theorem dX10_railOf_59 : decode cX10_railOf 59 = .ok (.aload_n 0, 1) := by decide +kernel
theorem dX10_railOf_60 : decode cX10_railOf 60 = .ok (.getfield 25, 3) := by decide +kernel
theorem dX10_railOf_63 : decode cX10_railOf 63 = .ok (.iload_n 1, 1) := by decide +kernel
theorem dX10_railOf_64 : decode cX10_railOf 64 = .ok (.bipush 10, 2) := by decide +kernel
theorem dX10_railOf_66 : decode cX10_railOf 66 = .ok (.ishl, 1) := by decide +kernel
theorem dX10_railOf_67 : decode cX10_railOf 67 = .ok (.iload_n 2, 1) := by decide +kernel
theorem dX10_railOf_68 : decode cX10_railOf 68 = .ok (.ior, 1) := by decide +kernel
theorem dX10_railOf_69 : decode cX10_railOf 69 = .ok (.iaload, 1) := by decide +kernel
theorem dX10_railOf_70 : decode cX10_railOf 70 = .ok (.if_icmp .ne 5, 3) := by decide +kernel
theorem dX10_railOf_73 : decode cX10_railOf 73 = .ok (.iload_n 3, 1) := by decide +kernel
theorem dX10_railOf_74 : decode cX10_railOf 74 = .ok (.ireturn, 1) := by decide +kernel
theorem dX10_railOf_75 : decode cX10_railOf 75 = .ok (.iinc 3 1, 3) := by decide +kernel
theorem dX10_railOf_78 : decode cX10_railOf 78 = .ok (.goto (-76), 3) := by decide +kernel
theorem dX10_railOf_81 : decode cX10_railOf 81 = .ok (.bipush (-4), 2) := by decide +kernel
theorem dX10_railOf_83 : decode cX10_railOf 83 = .ok (.ireturn, 1) := by decide +kernel
def L_X10_railOf_2 (o_s : Nat → Int32) (o_most : Nat → Int32) (p1 : Int32) (p2 : Int32) : Nat → Int32 → Option (Int32)
  | 0, _ => none
  | n2 + 1, x1 => if (10 : Int32) ≤ x1 then some (-4 : Int32) else ob (f_X10_has p2 x1) (fun r3 => if r3 = 0 then gd (ix ((((p1 + (1 : Int32)) <<< ((10 : Int32) &&& 31)) ||| p2) ||| ((1 : Int32) <<< (x1 &&& 31))) 8192) (nm (o_most ((((p1 + (1 : Int32)) <<< ((10 : Int32) &&& 31)) ||| p2) ||| ((1 : Int32) <<< (x1 &&& 31))).toNatClampNeg) (fun z7 => if z7 < 0 then L_X10_railOf_2 o_s o_most p1 p2 n2 (x1 + (1 : Int32)) else gd (ix ((4 : Int32) + x1) 42) (ob (f_X10_weightAt o_s p1 (o_s ((4 : Int32) + x1).toNatClampNeg)) (fun r10 => gd (ix ((p1 <<< ((10 : Int32) &&& 31)) ||| p2) 8192) (if (z7 + r10) = (o_most ((p1 <<< ((10 : Int32) &&& 31)) ||| p2).toNatClampNeg) then some x1 else L_X10_railOf_2 o_s o_most p1 p2 n2 (x1 + (1 : Int32))))))) else L_X10_railOf_2 o_s o_most p1 p2 n2 (x1 + (1 : Int32)))
def f_X10_railOf (N : Nat) (o_s : Nat → Int32) (o_most : Nat → Int32) (p1 : Int32) (p2 : Int32) : Option (Int32) := L_X10_railOf_2 o_s o_most p1 p2 N (0 : Int32)
set_option maxHeartbeats 4000000 in
set_option maxRecDepth 100000 in
theorem c_X10_railOf (l : Launch) (E : EE) (o_h : Nat) (o_a0 : Nat) (o_a1 : Nat) (o_a2 : Nat) (o_a3 : Nat) (o_a8 : Nat) (o_a9 : Nat) (o_a11 : Nat) (o_a12 : Nat) (o_a13 : Nat) (o_a14 : Nat) (o_a15 : Nat) (o_a16 : Nat) (o_s : Nat → Int32) (o_m : Nat → Int32) (o_image : Nat → Int32) (o_was : Nat → Int32) (o_hasImage : Int32) (o_place : Int32) (o_rowAt : Int32) (o_rowEnd : Int32) (o_numbers : Nat → Int32) (o_most : Nat → Int32) (o_seed : Int32) (o_kept : Nat → Int32) (o_keptKind : Nat → Int32) (o_keptFigure : Nat → Int32) (o_sort : Nat → Int32) (o_size : Nat → Int32) (o_element : Nat → Int32) (o_thrown : Int32) (p1 : Int32) (p2 : Int32) (N : Nat) (res : Int32) (hv : f_X10_railOf N o_s o_most p1 p2 = some res) : Rd l E yX10_railOf cX10_railOf 5 (some .int) ({ frames := 2, cells := 0, slots := 0, locals := 44 }) [.ref o_h, .int p1, .int p2] [oMo o_h o_a0 o_a1 o_a2 o_a3 o_hasImage o_place o_rowAt o_rowEnd o_a8 o_a9 o_seed o_a11 o_a12 o_a13 o_a14 o_a15 o_a16 o_thrown, ai E o_a0 42 o_s, ai E o_a1 42 o_m, ai E o_a2 42 o_image, ai E o_a3 42 o_was, ai E o_a8 3 o_numbers, ai E o_a9 8192 o_most, ai E o_a11 8 o_kept, ai E o_a12 8 o_keptKind, ai E o_a13 8 o_keptFigure, ai E o_a14 8 o_sort, ai E o_a15 8 o_size, ai E o_a16 800 o_element] (some (.int res)) := by
  refine Rd.intro RX10 (by decide) rfl (Nat.le_of_ble_eq_true rfl) ?_
  intro p e s m below meth c ls hC hr hlk hP hG hl
  obtain ⟨hx, hb, hml, hown, ht⟩ := id hC
  have hK := hG.1
  have hl : lv_has ls 5 [(0, .ref o_h), (1, .int p1), (2, .int p2)] := hl
  rw [f_X10_railOf] at hv
  refine lv_iconst (v := (0 : Int32)) hx hb dX10_railOf_0 (by decide) ?_
  refine lv_istore_n (lv' := [(3, .int (0 : Int32)), (0, .ref o_h), (1, .int p1), (2, .int p2)]) hx hb dX10_railOf_1 rfl hl (by decide) rfl (fun ls hl => ?_)
  have hL2 : ∀ (n : Nat) (x1 : Int32) (ls : Array Slot), lv_has ls 5 [(3, .int x1), (0, .ref o_h), (1, .int p1), (2, .int p2)] → L_X10_railOf_2 o_s o_most p1 p2 n x1 = some res → W p l e ({ frames := 2, cells := 0, slots := 0, locals := 44 }) s m [.ref o_h, .int p1, .int p2].toArray below meth c s.heap [] 0 0 (MQ below (RdQ (some (.int res))) [.ref o_h, .int p1, .int p2].toArray s 0 0 (fun _ => False)) (F0 m 2 ls []) := by
    intro n
    induction n with
    | zero => intro x1 ls hl hv; cases hv
    | succ n2 ih2 =>
      intro x1 ls hl hv
      rw [L_X10_railOf_2] at hv
      refine lv_iload_n hx hb dX10_railOf_2 rfl (lv_at hl 0 rfl) ?_
      refine lv_bipush (v := (10 : Int32)) hx hb dX10_railOf_3 (by decide) ?_
      refine lv_icmp_ge (tgt := 81) hx hb dX10_railOf_5 (by decide) (fun c2 => ?_) (fun c2 => ?_)
      · have hv := if_y c2 hv
        refine lv_bipush (v := (-4 : Int32)) hx hb dX10_railOf_81 (by decide) ?_
        exact W.iret (v := (-4 : Int32)) hx hb hr (fun t h9 _ => ⟨rv_i hv, h9⟩) (fun q h => absurd h List.not_mem_nil) dX10_railOf_83 hlk
      · have hv := if_n c2 hv
        refine lv_iload_n hx hb dX10_railOf_8 rfl (lv_at hl 3 rfl) ?_
        refine lv_iload_n hx hb dX10_railOf_9 rfl (lv_at hl 0 rfl) ?_
        obtain ⟨r3, h4, hv⟩ := ob_s hv
        refine rdS (rest := []) (st1 := [.int r3]) (w := []) hC q_X10_has kw_5_5 (c_X10_has l E p2 x1 r3 h4) ⟨rfl, rfl⟩ ⟨Nat.le_of_ble_eq_true rfl, Nat.le_of_ble_eq_true rfl⟩ ⟨Nat.zero_le _, Nat.zero_le _⟩ (hP.sub (ws' := []) [] rfl) hG rfl hl.1 rfl (Nat.le_of_ble_eq_true rfl) dX10_railOf_10 rfl ?_
        refine lv_if_eq (tgt := 19) hx hb dX10_railOf_13 (by decide) (fun c5 => ?_) (fun c5 => ?_)
        · have hv := if_y c5 hv
          refine lv_aload_n hx hb dX10_railOf_19 rfl (lv_at hl 1 rfl) ?_
          refine va_get (D := E.1) (ci := 4) (v := .ref o_a9) (C := RX10) (T := TX10) (N := 18) hx hb ht i_X10 hown hK hP 0 rfl rfl 9 (by decide) (ht _ kw_4_143) (fun _ h9 => h9) rfl dX10_railOf_20 ?_
          refine lv_iload_n hx hb dX10_railOf_23 rfl (lv_at hl 2 rfl) ?_
          refine lv_iconst (v := (1 : Int32)) hx hb dX10_railOf_24 (by decide) ?_
          refine lv_iadd hx hb dX10_railOf_25 ?_
          refine lv_bipush (v := (10 : Int32)) hx hb dX10_railOf_26 (by decide) ?_
          refine lv_ishl hx hb dX10_railOf_28 ?_
          refine lv_iload_n hx hb dX10_railOf_29 rfl (lv_at hl 3 rfl) ?_
          refine lv_ior hx hb dX10_railOf_30 ?_
          refine lv_iconst (v := (1 : Int32)) hx hb dX10_railOf_31 (by decide) ?_
          refine lv_iload_n hx hb dX10_railOf_32 rfl (lv_at hl 0 rfl) ?_
          refine lv_ishl hx hb dX10_railOf_33 ?_
          refine lv_ior hx hb dX10_railOf_34 ?_
          obtain ⟨g6, hv⟩ := gd_s hv
          refine va_iald hx hb hK hP 6 0 rfl rfl (ix_s g6) dX10_railOf_35 ?_
          refine lv_topi (fun z7 ez7 => ?_)
          have hv := nm_s ez7 hv
          refine lv_istore (lv' := [(4, .int z7), (3, .int x1), (0, .ref o_h), (1, .int p1), (2, .int p2)]) hx hb dX10_railOf_36 hl (by decide) rfl (fun ls hl => ?_)
          refine lv_iload hx hb dX10_railOf_38 (lv_at hl 0 rfl) ?_
          refine lv_if_lt (tgt := 75) hx hb dX10_railOf_40 (by decide) (fun c8 => ?_) (fun c8 => ?_)
          · have hv := if_y c8 hv
            refine lv_iinc (v := (x1 + (1 : Int32))) (lv' := [(3, .int (x1 + (1 : Int32))), (4, .int z7), (0, .ref o_h), (1, .int p1), (2, .int p2)]) hx hb dX10_railOf_75 hl (k := 1) rfl rfl (by decide) rfl (fun ls hl => ?_)
            refine lv_goto (tgt := 2) hx hb dX10_railOf_78 (by decide) ?_
            exact ih2 (x1 + (1 : Int32)) _ (lv_sub hl [0, 2, 3, 4] rfl) hv
          · have hv := if_n c8 hv
            refine lv_iload hx hb dX10_railOf_43 (lv_at hl 0 rfl) ?_
            refine lv_aload_n hx hb dX10_railOf_45 rfl (lv_at hl 2 rfl) ?_
            refine lv_iload_n hx hb dX10_railOf_46 rfl (lv_at hl 3 rfl) ?_
            refine lv_aload_n hx hb dX10_railOf_47 rfl (lv_at hl 2 rfl) ?_
            refine va_get (D := E.1) (ci := 4) (v := .ref o_a0) (C := RX10) (T := TX10) (N := 18) hx hb ht i_X10 hown hK hP 0 rfl rfl 0 (by decide) (ht _ kw_4_134) (fun _ h9 => h9) rfl dX10_railOf_48 ?_
            refine lv_iconst (v := (4 : Int32)) hx hb dX10_railOf_51 (by decide) ?_
            refine lv_iload_n hx hb dX10_railOf_52 rfl (lv_at hl 1 rfl) ?_
            refine lv_iadd hx hb dX10_railOf_53 ?_
            obtain ⟨g9, hv⟩ := gd_s hv
            refine va_iald hx hb hK hP 1 0 rfl rfl (ix_s g9) dX10_railOf_54 ?_
            obtain ⟨r10, h11, hv⟩ := ob_s hv
            refine rdV 4 0 (As := [.int p1, .int (o_s ((4 : Int32) + x1).toNatClampNeg)]) (rest := [.int z7]) (st1 := [.int r10, .int z7]) (w := [oMo o_h o_a0 o_a1 o_a2 o_a3 o_hasImage o_place o_rowAt o_rowEnd o_a8 o_a9 o_seed o_a11 o_a12 o_a13 o_a14 o_a15 o_a16 o_thrown, ai E o_a0 42 o_s, ai E o_a1 42 o_m, ai E o_a2 42 o_image, ai E o_a3 42 o_was, ai E o_a8 3 o_numbers, ai E o_a9 8192 o_most, ai E o_a11 8 o_kept, ai E o_a12 8 o_keptKind, ai E o_a13 8 o_keptFigure, ai E o_a14 8 o_sort, ai E o_a15 8 o_size, ai E o_a16 800 o_element]) hC q_X10_weightAt kw_5_217 (c_X10_weightAt l E o_h o_a0 o_a1 o_a2 o_a3 o_a8 o_a9 o_a11 o_a12 o_a13 o_a14 o_a15 o_a16 o_s o_m o_image o_was o_hasImage o_place o_rowAt o_rowEnd o_numbers o_most o_seed o_kept o_keptKind o_keptFigure o_sort o_size o_element o_thrown p1 (o_s ((4 : Int32) + x1).toNatClampNeg) r10 h11) ⟨rfl, rfl⟩ ⟨Nat.le_of_ble_eq_true rfl, Nat.le_of_ble_eq_true rfl⟩ ⟨Nat.zero_le _, Nat.zero_le _⟩ hP rfl rfl rfl hG rfl hl.1 rfl (Nat.le_of_ble_eq_true rfl) dX10_railOf_55 rfl ?_
            refine lv_iadd hx hb dX10_railOf_58 ?_
            refine lv_aload_n hx hb dX10_railOf_59 rfl (lv_at hl 2 rfl) ?_
            refine va_get (D := E.1) (ci := 4) (v := .ref o_a9) (C := RX10) (T := TX10) (N := 18) hx hb ht i_X10 hown hK hP 0 rfl rfl 9 (by decide) (ht _ kw_4_143) (fun _ h9 => h9) rfl dX10_railOf_60 ?_
            refine lv_iload_n hx hb dX10_railOf_63 rfl (lv_at hl 3 rfl) ?_
            refine lv_bipush (v := (10 : Int32)) hx hb dX10_railOf_64 (by decide) ?_
            refine lv_ishl hx hb dX10_railOf_66 ?_
            refine lv_iload_n hx hb dX10_railOf_67 rfl (lv_at hl 4 rfl) ?_
            refine lv_ior hx hb dX10_railOf_68 ?_
            obtain ⟨g12, hv⟩ := gd_s hv
            refine va_iald hx hb hK hP 6 0 rfl rfl (ix_s g12) dX10_railOf_69 ?_
            refine lv_icmp_ne (tgt := 75) hx hb dX10_railOf_70 (by decide) (fun c13 => ?_) (fun c13 => ?_)
            · have hv := if_n c13 hv
              refine lv_iinc (v := (x1 + (1 : Int32))) (lv' := [(3, .int (x1 + (1 : Int32))), (4, .int z7), (0, .ref o_h), (1, .int p1), (2, .int p2)]) hx hb dX10_railOf_75 hl (k := 1) rfl rfl (by decide) rfl (fun ls hl => ?_)
              refine lv_goto (tgt := 2) hx hb dX10_railOf_78 (by decide) ?_
              exact ih2 (x1 + (1 : Int32)) _ (lv_sub hl [0, 2, 3, 4] rfl) hv
            · have hv := if_y c13 hv
              refine lv_iload_n hx hb dX10_railOf_73 rfl (lv_at hl 1 rfl) ?_
              exact W.iret (v := x1) hx hb hr (fun t h9 _ => ⟨rv_i hv, h9⟩) (fun q h => absurd h List.not_mem_nil) dX10_railOf_74 hlk
        · have hv := if_n c5 hv
          refine lv_goto (tgt := 75) hx hb dX10_railOf_16 (by decide) ?_
          refine lv_iinc (v := (x1 + (1 : Int32))) (lv' := [(3, .int (x1 + (1 : Int32))), (0, .ref o_h), (1, .int p1), (2, .int p2)]) hx hb dX10_railOf_75 hl (k := 0) rfl rfl (by decide) rfl (fun ls hl => ?_)
          refine lv_goto (tgt := 2) hx hb dX10_railOf_78 (by decide) ?_
          exact ih2 (x1 + (1 : Int32)) _ (lv_sub hl [0, 1, 2, 3] rfl) hv
  exact hL2 N (0 : Int32) _ (lv_sub hl [0, 1, 2, 3] rfl) hv
theorem dX10_match_0 : decode cX10_match 0 = .ok (.iload_n 1, 1) := by decide +kernel
theorem dX10_match_1 : decode cX10_match 1 = .ok (.iconst (-1), 1) := by decide +kernel
theorem dX10_match_2 : decode cX10_match 2 = .ok (.if_icmp .eq 13, 3) := by decide +kernel
theorem dX10_match_5 : decode cX10_match 5 = .ok (.aload_n 0, 1) := by decide +kernel
theorem dX10_match_6 : decode cX10_match 6 = .ok (.iload_n 1, 1) := by decide +kernel
theorem dX10_match_7 : decode cX10_match 7 = .ok (.invokevirtual 134, 3) := by decide +kernel
theorem dX10_match_10 : decode cX10_match 10 = .ok (.ifCond .ne 5, 3) := by decide +kernel
theorem dX10_match_13 : decode cX10_match 13 = .ok (.iconst (-1), 1) := by decide +kernel
theorem dX10_match_14 : decode cX10_match 14 = .ok (.ireturn, 1) := by decide +kernel
theorem dX10_match_15 : decode cX10_match 15 = .ok (.aload_n 0, 1) := by decide +kernel
theorem dX10_match_16 : decode cX10_match 16 = .ok (.invokevirtual 230, 3) := by decide +kernel
theorem dX10_match_19 : decode cX10_match 19 = .ok (.iload_n 1, 1) := by decide +kernel
theorem dX10_match_20 : decode cX10_match 20 = .ok (.ifCond .ge 10, 3) := by decide +kernel
theorem dX10_match_23 : decode cX10_match 23 = .ok (.aload_n 0, 1) := by decide +kernel
theorem dX10_match_24 : decode cX10_match 24 = .ok (.getfield 25, 3) := by decide +kernel
theorem dX10_match_27 : decode cX10_match 27 = .ok (.iconst 0, 1) := by decide +kernel
theorem dX10_match_28 : decode cX10_match 28 = .ok (.iaload, 1) := by decide +kernel
theorem dX10_match_29 : decode cX10_match 29 = .ok (.ireturn, 1) := by decide +kernel
theorem dX10_match_30 : decode cX10_match 30 = .ok (.iconst 0, 1) := by decide +kernel
theorem dX10_match_31 : decode cX10_match 31 = .ok (.istore_n 2, 1) := by decide +kernel
theorem dX10_match_32 : decode cX10_match 32 = .ok (.iconst 0, 1) := by decide +kernel
theorem dX10_match_33 : decode cX10_match 33 = .ok (.istore_n 3, 1) := by decide +kernel
theorem dX10_match_34 : decode cX10_match 34 = .ok (.iload_n 3, 1) := by decide +kernel
theorem dX10_match_35 : decode cX10_match 35 = .ok (.iload_n 1, 1) := by decide +kernel
theorem dX10_match_36 : decode cX10_match 36 = .ok (.if_icmp .ge 20, 3) := by decide +kernel
theorem dX10_match_39 : decode cX10_match 39 = .ok (.iload_n 2, 1) := by decide +kernel
theorem dX10_match_40 : decode cX10_match 40 = .ok (.iconst 1, 1) := by decide +kernel
theorem dX10_match_41 : decode cX10_match 41 = .ok (.aload_n 0, 1) := by decide +kernel
theorem dX10_match_42 : decode cX10_match 42 = .ok (.iload_n 3, 1) := by decide +kernel
theorem dX10_match_43 : decode cX10_match 43 = .ok (.iload_n 2, 1) := by decide +kernel
theorem dX10_match_44 : decode cX10_match 44 = .ok (.invokevirtual 233, 3) := by decide +kernel
theorem dX10_match_47 : decode cX10_match 47 = .ok (.ishl, 1) := by decide +kernel
theorem dX10_match_48 : decode cX10_match 48 = .ok (.ior, 1) := by decide +kernel
theorem dX10_match_49 : decode cX10_match 49 = .ok (.istore_n 2, 1) := by decide +kernel
theorem dX10_match_50 : decode cX10_match 50 = .ok (.iinc 3 1, 3) := by decide +kernel
theorem dX10_match_53 : decode cX10_match 53 = .ok (.goto (-19), 3) := by decide +kernel
theorem dX10_match_56 : decode cX10_match 56 = .ok (.aload_n 0, 1) := by decide +kernel
theorem dX10_match_57 : decode cX10_match 57 = .ok (.iload_n 1, 1) := by decide +kernel
theorem dX10_match_58 : decode cX10_match 58 = .ok (.iload_n 2, 1) := by decide +kernel
theorem dX10_match_59 : decode cX10_match 59 = .ok (.invokevirtual 233, 3) := by decide +kernel
theorem dX10_match_62 : decode cX10_match 62 = .ok (.ireturn, 1) := by decide +kernel
def L_X10_match_34 (N : Nat) (o_s : Nat → Int32) (p1 : Int32) (y2 : Nat → Int32) : Nat → Int32 → Int32 → Option (Int32 × (Nat → Int32))
  | 0, _, _ => none
  | n34 + 1, x5, x6 => if p1 ≤ x5 then ob (f_X10_railOf N o_s y2 p1 x6) (fun r8 => some (r8, y2)) else ob (f_X10_railOf N o_s y2 x5 x6) (fun r10 => nm (x6 ||| ((1 : Int32) <<< (r10 &&& 31))) (fun z12 => L_X10_match_34 N o_s p1 y2 n34 (x5 + (1 : Int32)) z12))
def f_X10_match (N : Nat) (o_s : Nat → Int32) (o_most : Nat → Int32) (p1 : Int32) : Option (Int32 × (Nat → Int32)) := if p1 = (-1 : Int32) then ob (f_X10_matches N o_s o_most) (fun y2 => if 0 ≤ p1 then L_X10_match_34 N o_s p1 y2 N (0 : Int32) (0 : Int32) else nm (y2 0) (fun z13 => some (z13, y2))) else ob (f_X10_isSpeaker o_s p1) (fun r14 => if r14 = 0 then nm (-1 : Int32) (fun z29 => some (z29, o_most)) else ob (f_X10_matches N o_s o_most) (fun y17 => if 0 ≤ p1 then L_X10_match_34 N o_s p1 y17 N (0 : Int32) (0 : Int32) else nm (y17 0) (fun z28 => some (z28, y17))))
set_option maxHeartbeats 4000000 in
set_option maxRecDepth 100000 in
theorem c_X10_match (l : Launch) (E : EE) (o_h : Nat) (o_a0 : Nat) (o_a1 : Nat) (o_a2 : Nat) (o_a3 : Nat) (o_a8 : Nat) (o_a9 : Nat) (o_a11 : Nat) (o_a12 : Nat) (o_a13 : Nat) (o_a14 : Nat) (o_a15 : Nat) (o_a16 : Nat) (o_s : Nat → Int32) (o_m : Nat → Int32) (o_image : Nat → Int32) (o_was : Nat → Int32) (o_hasImage : Int32) (o_place : Int32) (o_rowAt : Int32) (o_rowEnd : Int32) (o_numbers : Nat → Int32) (o_most : Nat → Int32) (o_seed : Int32) (o_kept : Nat → Int32) (o_keptKind : Nat → Int32) (o_keptFigure : Nat → Int32) (o_sort : Nat → Int32) (o_size : Nat → Int32) (o_element : Nat → Int32) (o_thrown : Int32) (p1 : Int32) (N : Nat) (res : Int32) (w_o_most : Nat → Int32) (hv : f_X10_match N o_s o_most p1 = some (res, w_o_most)) : Wr l E yX10_match cX10_match 4 (some .int) ({ frames := 3, cells := 0, slots := 0, locals := 69 }) [.ref o_h, .int p1] [oMo o_h o_a0 o_a1 o_a2 o_a3 o_hasImage o_place o_rowAt o_rowEnd o_a8 o_a9 o_seed o_a11 o_a12 o_a13 o_a14 o_a15 o_a16 o_thrown, ai E o_a0 42 o_s, ai E o_a1 42 o_m, ai E o_a2 42 o_image, ai E o_a3 42 o_was, ai E o_a8 3 o_numbers, ai E o_a9 8192 o_most, ai E o_a11 8 o_kept, ai E o_a12 8 o_keptKind, ai E o_a13 8 o_keptFigure, ai E o_a14 8 o_sort, ai E o_a15 8 o_size, ai E o_a16 800 o_element] [oMo o_h o_a0 o_a1 o_a2 o_a3 o_hasImage o_place o_rowAt o_rowEnd o_a8 o_a9 o_seed o_a11 o_a12 o_a13 o_a14 o_a15 o_a16 o_thrown, ai E o_a0 42 o_s, ai E o_a1 42 o_m, ai E o_a2 42 o_image, ai E o_a3 42 o_was, ai E o_a8 3 o_numbers, ai E o_a9 8192 w_o_most, ai E o_a11 8 o_kept, ai E o_a12 8 o_keptKind, ai E o_a13 8 o_keptFigure, ai E o_a14 8 o_sort, ai E o_a15 8 o_size, ai E o_a16 800 o_element] (some (.int res)) := by
  refine Wr.intro RX10 (by decide) rfl (Nat.le_of_ble_eq_true rfl) ?_
  intro p e s m below meth c ls A hC hr hlk hmn hP hD hS hA hG hl
  obtain ⟨hx, hb, hml, hown, ht⟩ := id hC
  have hK := hG.1
  have hl : lv_has ls 4 [(0, .ref o_h), (1, .int p1)] := hl
  rw [f_X10_match] at hv
  refine lv_iload_n hx hb dX10_match_0 rfl (lv_at hl 1 rfl) ?_
  refine lv_iconst (v := (-1 : Int32)) hx hb dX10_match_1 (by decide) ?_
  refine lv_icmp_eq (tgt := 15) hx hb dX10_match_2 (by decide) (fun c1 => ?_) (fun c1 => ?_)
  · have hv := if_y c1 hv
    refine lv_aload_n hx hb dX10_match_15 rfl (lv_at hl 0 rfl) ?_
    obtain ⟨y2, h3, hv⟩ := ob_s hv
    refine wrV (as := [o_h, o_a0, o_a1, o_a2, o_a3, o_a8, o_a9, o_a11, o_a12, o_a13, o_a14, o_a15, o_a16]) (wr := []) [0, 1, 2, 3, 4, 5, 6, 7, 8, 9, 10, 11, 12] [] 4 0 (ws := [oMo o_h o_a0 o_a1 o_a2 o_a3 o_hasImage o_place o_rowAt o_rowEnd o_a8 o_a9 o_seed o_a11 o_a12 o_a13 o_a14 o_a15 o_a16 o_thrown, ai E o_a0 42 o_s, ai E o_a1 42 o_m, ai E o_a2 42 o_image, ai E o_a3 42 o_was, ai E o_a8 3 o_numbers, ai E o_a9 8192 o_most, ai E o_a11 8 o_kept, ai E o_a12 8 o_keptKind, ai E o_a13 8 o_keptFigure, ai E o_a14 8 o_sort, ai E o_a15 8 o_size, ai E o_a16 800 o_element]) (ws' := [oMo o_h o_a0 o_a1 o_a2 o_a3 o_hasImage o_place o_rowAt o_rowEnd o_a8 o_a9 o_seed o_a11 o_a12 o_a13 o_a14 o_a15 o_a16 o_thrown, ai E o_a0 42 o_s, ai E o_a1 42 o_m, ai E o_a2 42 o_image, ai E o_a3 42 o_was, ai E o_a8 3 o_numbers, ai E o_a9 8192 y2, ai E o_a11 8 o_kept, ai E o_a12 8 o_keptKind, ai E o_a13 8 o_keptFigure, ai E o_a14 8 o_sort, ai E o_a15 8 o_size, ai E o_a16 800 o_element]) (As := []) (rest := []) (st1 := []) hC q_X10_matches kw_5_229 (c_X10_matches l E o_h o_a0 o_a1 o_a2 o_a3 o_a8 o_a9 o_a11 o_a12 o_a13 o_a14 o_a15 o_a16 o_s o_m o_image o_was o_hasImage o_place o_rowAt o_rowEnd o_numbers o_most o_seed o_kept o_keptKind o_keptFigure o_sort o_size o_element o_thrown N y2 h3) ⟨rfl, rfl⟩ ⟨Nat.le_of_ble_eq_true rfl, Nat.le_of_ble_eq_true rfl⟩ ⟨Nat.zero_le _, Nat.zero_le _⟩ hP hD hS hA rfl rfl rfl hG (by decide) rfl rfl rfl rfl rfl rfl rfl rfl hl.1 rfl (Nat.le_of_ble_eq_true rfl) dX10_match_16 rfl (fun H locs hP hD hS => ?_)
    refine lv_iload_n hx hb dX10_match_19 rfl (lv_at hl 1 rfl) ?_
    refine lv_if_ge (tgt := 30) hx hb dX10_match_20 (by decide) (fun c4 => ?_) (fun c4 => ?_)
    · have hv := if_y c4 hv
      refine lv_iconst (v := (0 : Int32)) hx hb dX10_match_30 (by decide) ?_
      refine lv_istore_n (lv' := [(2, .int (0 : Int32)), (0, .ref o_h), (1, .int p1)]) hx hb dX10_match_31 rfl hl (by decide) rfl (fun ls hl => ?_)
      refine lv_iconst (v := (0 : Int32)) hx hb dX10_match_32 (by decide) ?_
      refine lv_istore_n (lv' := [(3, .int (0 : Int32)), (2, .int (0 : Int32)), (0, .ref o_h), (1, .int p1)]) hx hb dX10_match_33 rfl hl (by decide) rfl (fun ls hl => ?_)
      have hL34 : ∀ (n : Nat) (x5 : Int32) (x6 : Int32) (H : Heap) (locs : List Loc) (ls : Array Slot), va_P E.1 vwCl [oMo o_h o_a0 o_a1 o_a2 o_a3 o_hasImage o_place o_rowAt o_rowEnd o_a8 o_a9 o_seed o_a11 o_a12 o_a13 o_a14 o_a15 o_a16 o_thrown, ai E o_a0 42 o_s, ai E o_a1 42 o_m, ai E o_a2 42 o_image, ai E o_a3 42 o_was, ai E o_a8 3 o_numbers, ai E o_a9 8192 y2, ai E o_a11 8 o_kept, ai E o_a12 8 o_keptKind, ai E o_a13 8 o_keptFigure, ai E o_a14 8 o_sort, ai E o_a15 8 o_size, ai E o_a16 800 o_element] H → va_D A [oMo o_h o_a0 o_a1 o_a2 o_a3 o_hasImage o_place o_rowAt o_rowEnd o_a8 o_a9 o_seed o_a11 o_a12 o_a13 o_a14 o_a15 o_a16 o_thrown, ai E o_a0 42 o_s, ai E o_a1 42 o_m, ai E o_a2 42 o_image, ai E o_a3 42 o_was, ai E o_a8 3 o_numbers, ai E o_a9 8192 y2, ai E o_a11 8 o_kept, ai E o_a12 8 o_keptKind, ai E o_a13 8 o_keptFigure, ai E o_a14 8 o_sort, ai E o_a15 8 o_size, ai E o_a16 800 o_element] → va_S A s.heap H locs → lv_has ls 4 [(3, .int x5), (2, .int x6), (0, .ref o_h), (1, .int p1)] → L_X10_match_34 N o_s p1 y2 n x5 x6 = some (res, w_o_most) → W p l e ({ frames := 3, cells := 0, slots := 0, locals := 69 }) s m [.ref o_h, .int p1].toArray below meth c H locs 0 0 (MQ below (fun _ st oc t => oc = .returned (some (.int res)) ∧ va_P E.1 vwCl [oMo o_h o_a0 o_a1 o_a2 o_a3 o_hasImage o_place o_rowAt o_rowEnd o_a8 o_a9 o_seed o_a11 o_a12 o_a13 o_a14 o_a15 o_a16 o_thrown, ai E o_a0 42 o_s, ai E o_a1 42 o_m, ai E o_a2 42 o_image, ai E o_a3 42 o_was, ai E o_a8 3 o_numbers, ai E o_a9 8192 w_o_most, ai E o_a11 8 o_kept, ai E o_a12 8 o_keptKind, ai E o_a13 8 o_keptFigure, ai E o_a14 8 o_sort, ai E o_a15 8 o_size, ai E o_a16 800 o_element] t.heap ∧ va_F A st t) [.ref o_h, .int p1].toArray s 0 0 A) (F0 m 34 ls []) := by
        intro n
        induction n with
        | zero => intro x5 x6 H locs ls hP hD hS hl hv; cases hv
        | succ n34 ih34 =>
          intro x5 x6 H locs ls hP hD hS hl hv
          rw [L_X10_match_34] at hv
          refine lv_iload_n hx hb dX10_match_34 rfl (lv_at hl 0 rfl) ?_
          refine lv_iload_n hx hb dX10_match_35 rfl (lv_at hl 3 rfl) ?_
          refine lv_icmp_ge (tgt := 56) hx hb dX10_match_36 (by decide) (fun c7 => ?_) (fun c7 => ?_)
          · have hv := if_y c7 hv
            refine lv_aload_n hx hb dX10_match_56 rfl (lv_at hl 2 rfl) ?_
            refine lv_iload_n hx hb dX10_match_57 rfl (lv_at hl 3 rfl) ?_
            refine lv_iload_n hx hb dX10_match_58 rfl (lv_at hl 1 rfl) ?_
            obtain ⟨r8, h9, hv⟩ := ob_s hv
            refine rdV 4 0 (As := [.int p1, .int x6]) (rest := []) (st1 := [.int r8]) (w := [oMo o_h o_a0 o_a1 o_a2 o_a3 o_hasImage o_place o_rowAt o_rowEnd o_a8 o_a9 o_seed o_a11 o_a12 o_a13 o_a14 o_a15 o_a16 o_thrown, ai E o_a0 42 o_s, ai E o_a1 42 o_m, ai E o_a2 42 o_image, ai E o_a3 42 o_was, ai E o_a8 3 o_numbers, ai E o_a9 8192 y2, ai E o_a11 8 o_kept, ai E o_a12 8 o_keptKind, ai E o_a13 8 o_keptFigure, ai E o_a14 8 o_sort, ai E o_a15 8 o_size, ai E o_a16 800 o_element]) hC q_X10_railOf kw_5_233 (c_X10_railOf l E o_h o_a0 o_a1 o_a2 o_a3 o_a8 o_a9 o_a11 o_a12 o_a13 o_a14 o_a15 o_a16 o_s o_m o_image o_was o_hasImage o_place o_rowAt o_rowEnd o_numbers y2 o_seed o_kept o_keptKind o_keptFigure o_sort o_size o_element o_thrown p1 x6 N r8 h9) ⟨rfl, rfl⟩ ⟨Nat.le_of_ble_eq_true rfl, Nat.le_of_ble_eq_true rfl⟩ ⟨Nat.zero_le _, Nat.zero_le _⟩ hP rfl rfl rfl hG rfl hl.1 rfl (Nat.le_of_ble_eq_true rfl) dX10_match_59 rfl ?_
            cases hv
            exact W.iret hx hb hr (fun t h9 _ => ⟨rfl, by rw [h9]; exact hP, hS.F h9⟩) hS.2.2 dX10_match_62 hlk
          · have hv := if_n c7 hv
            refine lv_iload_n hx hb dX10_match_39 rfl (lv_at hl 1 rfl) ?_
            refine lv_iconst (v := (1 : Int32)) hx hb dX10_match_40 (by decide) ?_
            refine lv_aload_n hx hb dX10_match_41 rfl (lv_at hl 2 rfl) ?_
            refine lv_iload_n hx hb dX10_match_42 rfl (lv_at hl 0 rfl) ?_
            refine lv_iload_n hx hb dX10_match_43 rfl (lv_at hl 1 rfl) ?_
            obtain ⟨r10, h11, hv⟩ := ob_s hv
            refine rdV 4 0 (As := [.int x5, .int x6]) (rest := [.int (1 : Int32), .int x6]) (st1 := [.int r10, .int (1 : Int32), .int x6]) (w := [oMo o_h o_a0 o_a1 o_a2 o_a3 o_hasImage o_place o_rowAt o_rowEnd o_a8 o_a9 o_seed o_a11 o_a12 o_a13 o_a14 o_a15 o_a16 o_thrown, ai E o_a0 42 o_s, ai E o_a1 42 o_m, ai E o_a2 42 o_image, ai E o_a3 42 o_was, ai E o_a8 3 o_numbers, ai E o_a9 8192 y2, ai E o_a11 8 o_kept, ai E o_a12 8 o_keptKind, ai E o_a13 8 o_keptFigure, ai E o_a14 8 o_sort, ai E o_a15 8 o_size, ai E o_a16 800 o_element]) hC q_X10_railOf kw_5_233 (c_X10_railOf l E o_h o_a0 o_a1 o_a2 o_a3 o_a8 o_a9 o_a11 o_a12 o_a13 o_a14 o_a15 o_a16 o_s o_m o_image o_was o_hasImage o_place o_rowAt o_rowEnd o_numbers y2 o_seed o_kept o_keptKind o_keptFigure o_sort o_size o_element o_thrown x5 x6 N r10 h11) ⟨rfl, rfl⟩ ⟨Nat.le_of_ble_eq_true rfl, Nat.le_of_ble_eq_true rfl⟩ ⟨Nat.zero_le _, Nat.zero_le _⟩ hP rfl rfl rfl hG rfl hl.1 rfl (Nat.le_of_ble_eq_true rfl) dX10_match_44 rfl ?_
            refine lv_ishl hx hb dX10_match_47 ?_
            refine lv_ior hx hb dX10_match_48 ?_
            refine lv_topi (fun z12 ez12 => ?_)
            have hv := nm_s ez12 hv
            refine lv_istore_n (lv' := [(2, .int z12), (3, .int x5), (0, .ref o_h), (1, .int p1)]) hx hb dX10_match_49 rfl hl (by decide) rfl (fun ls hl => ?_)
            refine lv_iinc (v := (x5 + (1 : Int32))) (lv' := [(3, .int (x5 + (1 : Int32))), (2, .int z12), (0, .ref o_h), (1, .int p1)]) hx hb dX10_match_50 hl (k := 1) rfl rfl (by decide) rfl (fun ls hl => ?_)
            refine lv_goto (tgt := 34) hx hb dX10_match_53 (by decide) ?_
            exact ih34 (x5 + (1 : Int32)) z12 _ _ _ hP hD hS (lv_sub hl [0, 1, 2, 3] rfl) hv
      exact hL34 N (0 : Int32) (0 : Int32) _ _ _ hP hD hS (lv_sub hl [0, 1, 2, 3] rfl) hv
    · have hv := if_n c4 hv
      refine lv_aload_n hx hb dX10_match_23 rfl (lv_at hl 0 rfl) ?_
      refine va_get (D := E.1) (ci := 4) (v := .ref o_a9) (C := RX10) (T := TX10) (N := 18) hx hb ht i_X10 hown hK hP 0 rfl rfl 9 (by decide) (ht _ kw_4_143) (fun _ h9 => h9) rfl dX10_match_24 ?_
      refine lv_iconst (v := (0 : Int32)) hx hb dX10_match_27 (by decide) ?_
      refine va_iald hx hb hK hP 6 0 rfl rfl (ix_s (by decide)) dX10_match_28 ?_
      refine W.eq (g2 := F0 m 29 ls [.int (y2 0)]) rfl ?_
      refine lv_topi (fun z13 ez13 => ?_)
      have hv := nm_s ez13 hv
      cases hv
      exact W.iret hx hb hr (fun t h9 _ => ⟨rfl, by rw [h9]; exact hP, hS.F h9⟩) hS.2.2 dX10_match_29 hlk
  · have hv := if_n c1 hv
    refine lv_aload_n hx hb dX10_match_5 rfl (lv_at hl 0 rfl) ?_
    refine lv_iload_n hx hb dX10_match_6 rfl (lv_at hl 1 rfl) ?_
    obtain ⟨r14, h15, hv⟩ := ob_s hv
    refine rdV 4 0 (As := [.int p1]) (rest := []) (st1 := [.int r14]) (w := [oMo o_h o_a0 o_a1 o_a2 o_a3 o_hasImage o_place o_rowAt o_rowEnd o_a8 o_a9 o_seed o_a11 o_a12 o_a13 o_a14 o_a15 o_a16 o_thrown, ai E o_a0 42 o_s, ai E o_a1 42 o_m, ai E o_a2 42 o_image, ai E o_a3 42 o_was, ai E o_a8 3 o_numbers, ai E o_a9 8192 o_most, ai E o_a11 8 o_kept, ai E o_a12 8 o_keptKind, ai E o_a13 8 o_keptFigure, ai E o_a14 8 o_sort, ai E o_a15 8 o_size, ai E o_a16 800 o_element]) hC q_X10_isSpeaker kw_4_229 (c_X10_isSpeaker l E o_h o_a0 o_a1 o_a2 o_a3 o_a8 o_a9 o_a11 o_a12 o_a13 o_a14 o_a15 o_a16 o_s o_m o_image o_was o_hasImage o_place o_rowAt o_rowEnd o_numbers o_most o_seed o_kept o_keptKind o_keptFigure o_sort o_size o_element o_thrown p1 r14 h15) ⟨rfl, rfl⟩ ⟨Nat.le_of_ble_eq_true rfl, Nat.le_of_ble_eq_true rfl⟩ ⟨Nat.zero_le _, Nat.zero_le _⟩ hP rfl rfl rfl hG rfl hl.1 rfl (Nat.le_of_ble_eq_true rfl) dX10_match_7 rfl ?_
    refine lv_if_ne (tgt := 15) hx hb dX10_match_10 (by decide) (fun c16 => ?_) (fun c16 => ?_)
    · have hv := if_n c16 hv
      refine lv_aload_n hx hb dX10_match_15 rfl (lv_at hl 0 rfl) ?_
      obtain ⟨y17, h18, hv⟩ := ob_s hv
      refine wrV (as := [o_h, o_a0, o_a1, o_a2, o_a3, o_a8, o_a9, o_a11, o_a12, o_a13, o_a14, o_a15, o_a16]) (wr := []) [0, 1, 2, 3, 4, 5, 6, 7, 8, 9, 10, 11, 12] [] 4 0 (ws := [oMo o_h o_a0 o_a1 o_a2 o_a3 o_hasImage o_place o_rowAt o_rowEnd o_a8 o_a9 o_seed o_a11 o_a12 o_a13 o_a14 o_a15 o_a16 o_thrown, ai E o_a0 42 o_s, ai E o_a1 42 o_m, ai E o_a2 42 o_image, ai E o_a3 42 o_was, ai E o_a8 3 o_numbers, ai E o_a9 8192 o_most, ai E o_a11 8 o_kept, ai E o_a12 8 o_keptKind, ai E o_a13 8 o_keptFigure, ai E o_a14 8 o_sort, ai E o_a15 8 o_size, ai E o_a16 800 o_element]) (ws' := [oMo o_h o_a0 o_a1 o_a2 o_a3 o_hasImage o_place o_rowAt o_rowEnd o_a8 o_a9 o_seed o_a11 o_a12 o_a13 o_a14 o_a15 o_a16 o_thrown, ai E o_a0 42 o_s, ai E o_a1 42 o_m, ai E o_a2 42 o_image, ai E o_a3 42 o_was, ai E o_a8 3 o_numbers, ai E o_a9 8192 y17, ai E o_a11 8 o_kept, ai E o_a12 8 o_keptKind, ai E o_a13 8 o_keptFigure, ai E o_a14 8 o_sort, ai E o_a15 8 o_size, ai E o_a16 800 o_element]) (As := []) (rest := []) (st1 := []) hC q_X10_matches kw_5_229 (c_X10_matches l E o_h o_a0 o_a1 o_a2 o_a3 o_a8 o_a9 o_a11 o_a12 o_a13 o_a14 o_a15 o_a16 o_s o_m o_image o_was o_hasImage o_place o_rowAt o_rowEnd o_numbers o_most o_seed o_kept o_keptKind o_keptFigure o_sort o_size o_element o_thrown N y17 h18) ⟨rfl, rfl⟩ ⟨Nat.le_of_ble_eq_true rfl, Nat.le_of_ble_eq_true rfl⟩ ⟨Nat.zero_le _, Nat.zero_le _⟩ hP hD hS hA rfl rfl rfl hG (by decide) rfl rfl rfl rfl rfl rfl rfl rfl hl.1 rfl (Nat.le_of_ble_eq_true rfl) dX10_match_16 rfl (fun H locs hP hD hS => ?_)
      refine lv_iload_n hx hb dX10_match_19 rfl (lv_at hl 1 rfl) ?_
      refine lv_if_ge (tgt := 30) hx hb dX10_match_20 (by decide) (fun c19 => ?_) (fun c19 => ?_)
      · have hv := if_y c19 hv
        refine lv_iconst (v := (0 : Int32)) hx hb dX10_match_30 (by decide) ?_
        refine lv_istore_n (lv' := [(2, .int (0 : Int32)), (0, .ref o_h), (1, .int p1)]) hx hb dX10_match_31 rfl hl (by decide) rfl (fun ls hl => ?_)
        refine lv_iconst (v := (0 : Int32)) hx hb dX10_match_32 (by decide) ?_
        refine lv_istore_n (lv' := [(3, .int (0 : Int32)), (2, .int (0 : Int32)), (0, .ref o_h), (1, .int p1)]) hx hb dX10_match_33 rfl hl (by decide) rfl (fun ls hl => ?_)
        have hL34 : ∀ (n : Nat) (x20 : Int32) (x21 : Int32) (H : Heap) (locs : List Loc) (ls : Array Slot), va_P E.1 vwCl [oMo o_h o_a0 o_a1 o_a2 o_a3 o_hasImage o_place o_rowAt o_rowEnd o_a8 o_a9 o_seed o_a11 o_a12 o_a13 o_a14 o_a15 o_a16 o_thrown, ai E o_a0 42 o_s, ai E o_a1 42 o_m, ai E o_a2 42 o_image, ai E o_a3 42 o_was, ai E o_a8 3 o_numbers, ai E o_a9 8192 y17, ai E o_a11 8 o_kept, ai E o_a12 8 o_keptKind, ai E o_a13 8 o_keptFigure, ai E o_a14 8 o_sort, ai E o_a15 8 o_size, ai E o_a16 800 o_element] H → va_D A [oMo o_h o_a0 o_a1 o_a2 o_a3 o_hasImage o_place o_rowAt o_rowEnd o_a8 o_a9 o_seed o_a11 o_a12 o_a13 o_a14 o_a15 o_a16 o_thrown, ai E o_a0 42 o_s, ai E o_a1 42 o_m, ai E o_a2 42 o_image, ai E o_a3 42 o_was, ai E o_a8 3 o_numbers, ai E o_a9 8192 y17, ai E o_a11 8 o_kept, ai E o_a12 8 o_keptKind, ai E o_a13 8 o_keptFigure, ai E o_a14 8 o_sort, ai E o_a15 8 o_size, ai E o_a16 800 o_element] → va_S A s.heap H locs → lv_has ls 4 [(3, .int x20), (2, .int x21), (0, .ref o_h), (1, .int p1)] → L_X10_match_34 N o_s p1 y17 n x20 x21 = some (res, w_o_most) → W p l e ({ frames := 3, cells := 0, slots := 0, locals := 69 }) s m [.ref o_h, .int p1].toArray below meth c H locs 0 0 (MQ below (fun _ st oc t => oc = .returned (some (.int res)) ∧ va_P E.1 vwCl [oMo o_h o_a0 o_a1 o_a2 o_a3 o_hasImage o_place o_rowAt o_rowEnd o_a8 o_a9 o_seed o_a11 o_a12 o_a13 o_a14 o_a15 o_a16 o_thrown, ai E o_a0 42 o_s, ai E o_a1 42 o_m, ai E o_a2 42 o_image, ai E o_a3 42 o_was, ai E o_a8 3 o_numbers, ai E o_a9 8192 w_o_most, ai E o_a11 8 o_kept, ai E o_a12 8 o_keptKind, ai E o_a13 8 o_keptFigure, ai E o_a14 8 o_sort, ai E o_a15 8 o_size, ai E o_a16 800 o_element] t.heap ∧ va_F A st t) [.ref o_h, .int p1].toArray s 0 0 A) (F0 m 34 ls []) := by
          intro n
          induction n with
          | zero => intro x20 x21 H locs ls hP hD hS hl hv; cases hv
          | succ n34 ih34 =>
            intro x20 x21 H locs ls hP hD hS hl hv
            rw [L_X10_match_34] at hv
            refine lv_iload_n hx hb dX10_match_34 rfl (lv_at hl 0 rfl) ?_
            refine lv_iload_n hx hb dX10_match_35 rfl (lv_at hl 3 rfl) ?_
            refine lv_icmp_ge (tgt := 56) hx hb dX10_match_36 (by decide) (fun c22 => ?_) (fun c22 => ?_)
            · have hv := if_y c22 hv
              refine lv_aload_n hx hb dX10_match_56 rfl (lv_at hl 2 rfl) ?_
              refine lv_iload_n hx hb dX10_match_57 rfl (lv_at hl 3 rfl) ?_
              refine lv_iload_n hx hb dX10_match_58 rfl (lv_at hl 1 rfl) ?_
              obtain ⟨r23, h24, hv⟩ := ob_s hv
              refine rdV 4 0 (As := [.int p1, .int x21]) (rest := []) (st1 := [.int r23]) (w := [oMo o_h o_a0 o_a1 o_a2 o_a3 o_hasImage o_place o_rowAt o_rowEnd o_a8 o_a9 o_seed o_a11 o_a12 o_a13 o_a14 o_a15 o_a16 o_thrown, ai E o_a0 42 o_s, ai E o_a1 42 o_m, ai E o_a2 42 o_image, ai E o_a3 42 o_was, ai E o_a8 3 o_numbers, ai E o_a9 8192 y17, ai E o_a11 8 o_kept, ai E o_a12 8 o_keptKind, ai E o_a13 8 o_keptFigure, ai E o_a14 8 o_sort, ai E o_a15 8 o_size, ai E o_a16 800 o_element]) hC q_X10_railOf kw_5_233 (c_X10_railOf l E o_h o_a0 o_a1 o_a2 o_a3 o_a8 o_a9 o_a11 o_a12 o_a13 o_a14 o_a15 o_a16 o_s o_m o_image o_was o_hasImage o_place o_rowAt o_rowEnd o_numbers y17 o_seed o_kept o_keptKind o_keptFigure o_sort o_size o_element o_thrown p1 x21 N r23 h24) ⟨rfl, rfl⟩ ⟨Nat.le_of_ble_eq_true rfl, Nat.le_of_ble_eq_true rfl⟩ ⟨Nat.zero_le _, Nat.zero_le _⟩ hP rfl rfl rfl hG rfl hl.1 rfl (Nat.le_of_ble_eq_true rfl) dX10_match_59 rfl ?_
              cases hv
              exact W.iret hx hb hr (fun t h9 _ => ⟨rfl, by rw [h9]; exact hP, hS.F h9⟩) hS.2.2 dX10_match_62 hlk
            · have hv := if_n c22 hv
              refine lv_iload_n hx hb dX10_match_39 rfl (lv_at hl 1 rfl) ?_
              refine lv_iconst (v := (1 : Int32)) hx hb dX10_match_40 (by decide) ?_
              refine lv_aload_n hx hb dX10_match_41 rfl (lv_at hl 2 rfl) ?_
              refine lv_iload_n hx hb dX10_match_42 rfl (lv_at hl 0 rfl) ?_
              refine lv_iload_n hx hb dX10_match_43 rfl (lv_at hl 1 rfl) ?_
              obtain ⟨r25, h26, hv⟩ := ob_s hv
              refine rdV 4 0 (As := [.int x20, .int x21]) (rest := [.int (1 : Int32), .int x21]) (st1 := [.int r25, .int (1 : Int32), .int x21]) (w := [oMo o_h o_a0 o_a1 o_a2 o_a3 o_hasImage o_place o_rowAt o_rowEnd o_a8 o_a9 o_seed o_a11 o_a12 o_a13 o_a14 o_a15 o_a16 o_thrown, ai E o_a0 42 o_s, ai E o_a1 42 o_m, ai E o_a2 42 o_image, ai E o_a3 42 o_was, ai E o_a8 3 o_numbers, ai E o_a9 8192 y17, ai E o_a11 8 o_kept, ai E o_a12 8 o_keptKind, ai E o_a13 8 o_keptFigure, ai E o_a14 8 o_sort, ai E o_a15 8 o_size, ai E o_a16 800 o_element]) hC q_X10_railOf kw_5_233 (c_X10_railOf l E o_h o_a0 o_a1 o_a2 o_a3 o_a8 o_a9 o_a11 o_a12 o_a13 o_a14 o_a15 o_a16 o_s o_m o_image o_was o_hasImage o_place o_rowAt o_rowEnd o_numbers y17 o_seed o_kept o_keptKind o_keptFigure o_sort o_size o_element o_thrown x20 x21 N r25 h26) ⟨rfl, rfl⟩ ⟨Nat.le_of_ble_eq_true rfl, Nat.le_of_ble_eq_true rfl⟩ ⟨Nat.zero_le _, Nat.zero_le _⟩ hP rfl rfl rfl hG rfl hl.1 rfl (Nat.le_of_ble_eq_true rfl) dX10_match_44 rfl ?_
              refine lv_ishl hx hb dX10_match_47 ?_
              refine lv_ior hx hb dX10_match_48 ?_
              refine lv_topi (fun z27 ez27 => ?_)
              have hv := nm_s ez27 hv
              refine lv_istore_n (lv' := [(2, .int z27), (3, .int x20), (0, .ref o_h), (1, .int p1)]) hx hb dX10_match_49 rfl hl (by decide) rfl (fun ls hl => ?_)
              refine lv_iinc (v := (x20 + (1 : Int32))) (lv' := [(3, .int (x20 + (1 : Int32))), (2, .int z27), (0, .ref o_h), (1, .int p1)]) hx hb dX10_match_50 hl (k := 1) rfl rfl (by decide) rfl (fun ls hl => ?_)
              refine lv_goto (tgt := 34) hx hb dX10_match_53 (by decide) ?_
              exact ih34 (x20 + (1 : Int32)) z27 _ _ _ hP hD hS (lv_sub hl [0, 1, 2, 3] rfl) hv
        exact hL34 N (0 : Int32) (0 : Int32) _ _ _ hP hD hS (lv_sub hl [0, 1, 2, 3] rfl) hv
      · have hv := if_n c19 hv
        refine lv_aload_n hx hb dX10_match_23 rfl (lv_at hl 0 rfl) ?_
        refine va_get (D := E.1) (ci := 4) (v := .ref o_a9) (C := RX10) (T := TX10) (N := 18) hx hb ht i_X10 hown hK hP 0 rfl rfl 9 (by decide) (ht _ kw_4_143) (fun _ h9 => h9) rfl dX10_match_24 ?_
        refine lv_iconst (v := (0 : Int32)) hx hb dX10_match_27 (by decide) ?_
        refine va_iald hx hb hK hP 6 0 rfl rfl (ix_s (by decide)) dX10_match_28 ?_
        refine W.eq (g2 := F0 m 29 ls [.int (y17 0)]) rfl ?_
        refine lv_topi (fun z28 ez28 => ?_)
        have hv := nm_s ez28 hv
        cases hv
        exact W.iret hx hb hr (fun t h9 _ => ⟨rfl, by rw [h9]; exact hP, hS.F h9⟩) hS.2.2 dX10_match_29 hlk
    · have hv := if_y c16 hv
      refine lv_iconst (v := (-1 : Int32)) hx hb dX10_match_13 (by decide) ?_
      refine lv_topi (fun z29 ez29 => ?_)
      have hv := nm_s ez29 hv
      cases hv
      exact W.iret hx hb hr (fun t h9 _ => ⟨rfl, by rw [h9]; exact hP, hS.F h9⟩) hS.2.2 dX10_match_14 hlk
theorem dX10_lines_0 : decode cX10_lines 0 = .ok (.iload_n 1, 1) := by decide +kernel
theorem dX10_lines_1 : decode cX10_lines 1 = .ok (.iconst 0, 1) := by decide +kernel
theorem dX10_lines_2 : decode cX10_lines 2 = .ok (.iconst 1, 1) := by decide +kernel
theorem dX10_lines_3 : decode cX10_lines 3 = .ok (.invokestatic 46, 3) := by decide +kernel
theorem dX10_lines_6 : decode cX10_lines 6 = .ok (.ifCond .ne 5, 3) := by decide +kernel
theorem dX10_lines_9 : decode cX10_lines 9 = .ok (.iconst (-1), 1) := by decide +kernel
theorem dX10_lines_10 : decode cX10_lines 10 = .ok (.ireturn, 1) := by decide +kernel
theorem dX10_lines_11 : decode cX10_lines 11 = .ok (.iconst 0, 1) := by decide +kernel
theorem dX10_lines_12 : decode cX10_lines 12 = .ok (.istore_n 2, 1) := by decide +kernel
theorem dX10_lines_13 : decode cX10_lines 13 = .ok (.bipush (-4), 2) := by decide +kernel
theorem dX10_lines_15 : decode cX10_lines 15 = .ok (.istore_n 3, 1) := by decide +kernel
theorem dX10_lines_16 : decode cX10_lines 16 = .ok (.iconst 0, 1) := by decide +kernel
theorem dX10_lines_17 : decode cX10_lines 17 = .ok (.istore 4, 2) := by decide +kernel
theorem dX10_lines_19 : decode cX10_lines 19 = .ok (.iload 4, 2) := by decide +kernel
theorem dX10_lines_21 : decode cX10_lines 21 = .ok (.aload_n 0, 1) := by decide +kernel
theorem dX10_lines_22 : decode cX10_lines 22 = .ok (.getfield 9, 3) := by decide +kernel
theorem dX10_lines_25 : decode cX10_lines 25 = .ok (.iconst 0, 1) := by decide +kernel
theorem dX10_lines_26 : decode cX10_lines 26 = .ok (.iaload, 1) := by decide +kernel
theorem dX10_lines_27 : decode cX10_lines 27 = .ok (.if_icmp .ge 93, 3) := by decide +kernel
theorem dX10_lines_30 : decode cX10_lines 30 = .ok (.iload 4, 2) := by decide +kernel
theorem dX10_lines_32 : decode cX10_lines 32 = .ok (.iconst 1, 1) := by decide +kernel
theorem dX10_lines_33 : decode cX10_lines 33 = .ok (.iadd, 1) := by decide +kernel
theorem dX10_lines_34 : decode cX10_lines 34 = .ok (.istore 5, 2) := by decide +kernel
theorem dX10_lines_36 : decode cX10_lines 36 = .ok (.iload 5, 2) := by decide +kernel
theorem dX10_lines_38 : decode cX10_lines 38 = .ok (.aload_n 0, 1) := by decide +kernel
theorem dX10_lines_39 : decode cX10_lines 39 = .ok (.getfield 9, 3) := by decide +kernel
theorem dX10_lines_42 : decode cX10_lines 42 = .ok (.iconst 0, 1) := by decide +kernel
theorem dX10_lines_43 : decode cX10_lines 43 = .ok (.iaload, 1) := by decide +kernel
theorem dX10_lines_44 : decode cX10_lines 44 = .ok (.if_icmp .ge 31, 3) := by decide +kernel
theorem dX10_lines_47 : decode cX10_lines 47 = .ok (.iload_n 2, 1) := by decide +kernel
theorem dX10_lines_48 : decode cX10_lines 48 = .ok (.aload_n 0, 1) := by decide +kernel
theorem dX10_lines_49 : decode cX10_lines 49 = .ok (.getfield 9, 3) := by decide +kernel
theorem dX10_lines_52 : decode cX10_lines 52 = .ok (.iload 4, 2) := by decide +kernel
theorem dX10_lines_54 : decode cX10_lines 54 = .ok (.iload 5, 2) := by decide +kernel
theorem dX10_lines_56 : decode cX10_lines 56 = .ok (.invokestatic 99, 3) := by decide +kernel
theorem dX10_lines_59 : decode cX10_lines 59 = .ok (.ifCond .eq 7, 3) := by decide +kernel
theorem dX10_lines_62 : decode cX10_lines 62 = .ok (.iconst 1, 1) := by decide +kernel
theorem dX10_lines_63 : decode cX10_lines 63 = .ok (.goto 4, 3) := by decide +kernel
theorem dX10_lines_66 : decode cX10_lines 66 = .ok (.iconst 0, 1) := by decide +kernel
theorem dX10_lines_67 : decode cX10_lines 67 = .ok (.iadd, 1) := by decide +kernel
theorem dX10_lines_68 : decode cX10_lines 68 = .ok (.istore_n 2, 1) := by decide +kernel
theorem dX10_lines_69 : decode cX10_lines 69 = .ok (.iinc 5 1, 3) := by decide +kernel
theorem dX10_lines_72 : decode cX10_lines 72 = .ok (.goto (-36), 3) := by decide +kernel
theorem dX10_lines_75 : decode cX10_lines 75 = .ok (.aload_n 0, 1) := by decide +kernel
theorem dX10_lines_76 : decode cX10_lines 76 = .ok (.getfield 9, 3) := by decide +kernel
theorem dX10_lines_79 : decode cX10_lines 79 = .ok (.iload 4, 2) := by decide +kernel
theorem dX10_lines_81 : decode cX10_lines 81 = .ok (.invokestatic 66, 3) := by decide +kernel
theorem dX10_lines_84 : decode cX10_lines 84 = .ok (.ifCond .eq 30, 3) := by decide +kernel
theorem dX10_lines_87 : decode cX10_lines 87 = .ok (.iload_n 3, 1) := by decide +kernel
theorem dX10_lines_88 : decode cX10_lines 88 = .ok (.ifCond .lt 23, 3) := by decide +kernel
theorem dX10_lines_91 : decode cX10_lines 91 = .ok (.aload_n 0, 1) := by decide +kernel
theorem dX10_lines_92 : decode cX10_lines 92 = .ok (.getfield 9, 3) := by decide +kernel
theorem dX10_lines_95 : decode cX10_lines 95 = .ok (.iload 4, 2) := by decide +kernel
theorem dX10_lines_97 : decode cX10_lines 97 = .ok (.invokestatic 70, 3) := by decide +kernel
theorem dX10_lines_100 : decode cX10_lines 100 = .ok (.aload_n 0, 1) := by decide +kernel
theorem dX10_lines_101 : decode cX10_lines 101 = .ok (.getfield 9, 3) := by decide +kernel
theorem dX10_lines_104 : decode cX10_lines 104 = .ok (.iload_n 3, 1) := by decide +kernel
theorem dX10_lines_105 : decode cX10_lines 105 = .ok (.invokestatic 70, 3) := by decide +kernel
theorem dX10_lines_108 : decode cX10_lines 108 = .ok (.if_icmp .le 6, 3) := by decide +kernel
theorem dX10_lines_111 : decode cX10_lines 111 = .ok (.iload 4, 2) := by decide +kernel
theorem dX10_lines_113 : decode cX10_lines 113 = .ok (.istore_n 3, 1) := by decide +kernel
theorem dX10_lines_114 : decode cX10_lines 114 = .ok (.iinc 4 1, 3) := by decide +kernel
theorem dX10_lines_117 : decode cX10_lines 117 = .ok (.goto (-98), 3) := by decide +kernel
theorem dX10_lines_120 : decode cX10_lines 120 = .ok (.iload_n 1, 1) := by decide +kernel
theorem dX10_lines_121 : decode cX10_lines 121 = .ok (.ifCond .ne 7, 3) := by decide +kernel
theorem dX10_lines_124 : decode cX10_lines 124 = .ok (.iload_n 2, 1) := by decide +kernel
theorem dX10_lines_125 : decode cX10_lines 125 = .ok (.goto 4, 3) := by decide +kernel
theorem dX10_lines_128 : decode cX10_lines 128 = .ok (.iload_n 3, 1) := by decide +kernel
theorem dX10_lines_129 : decode cX10_lines 129 = .ok (.ireturn, 1) := by decide +kernel
def L_X10_lines_36 (o_s : Nat → Int32) (x4 : Int32) (k_36 : Int32 → Int32 → Option (Int32)) : Nat → Int32 → Int32 → Option (Int32)
  | 0, _, _ => none
  | n36 + 1, x9, x10 => if (o_s 0) ≤ x9 then k_36 x9 x10 else ob (f_X10_doesSee o_s x4 x9) (fun r12 => if r12 = 0 then L_X10_lines_36 o_s x4 k_36 n36 (x9 + (1 : Int32)) (x10 + (0 : Int32)) else L_X10_lines_36 o_s x4 k_36 n36 (x9 + (1 : Int32)) (x10 + (1 : Int32)))
def L_X10_lines_19 (N : Nat) (o_s : Nat → Int32) (p1 : Int32) : Nat → Int32 → Int32 → Int32 → Option (Int32)
  | 0, _, _, _ => none
  | n19 + 1, x4, x5, x6 => if (o_s 0) ≤ x4 then if p1 = 0 then some x6 else some x5 else L_X10_lines_36 o_s x4 (fun x15 x16 => ob (f_X10_isHeard o_s x4) (fun r17 => if r17 = 0 then L_X10_lines_19 N o_s p1 n19 (x4 + (1 : Int32)) x5 x16 else if x5 < 0 then L_X10_lines_19 N o_s p1 n19 (x4 + (1 : Int32)) x4 x16 else ob (f_X10_weight o_s x4) (fun r21 => ob (f_X10_weight o_s x5) (fun r23 => if r21 ≤ r23 then L_X10_lines_19 N o_s p1 n19 (x4 + (1 : Int32)) x5 x16 else L_X10_lines_19 N o_s p1 n19 (x4 + (1 : Int32)) x4 x16)))) N (x4 + (1 : Int32)) x6
def f_X10_lines (N : Nat) (o_s : Nat → Int32) (p1 : Int32) : Option (Int32) := ob (f_X10_isIn p1 (0 : Int32) (1 : Int32)) (fun r1 => if r1 = 0 then some (-1 : Int32) else L_X10_lines_19 N o_s p1 N (0 : Int32) (-4 : Int32) (0 : Int32))
set_option maxHeartbeats 4000000 in
set_option maxRecDepth 100000 in
theorem c_X10_lines (l : Launch) (E : EE) (o_h : Nat) (o_a0 : Nat) (o_a1 : Nat) (o_a2 : Nat) (o_a3 : Nat) (o_a8 : Nat) (o_a9 : Nat) (o_a11 : Nat) (o_a12 : Nat) (o_a13 : Nat) (o_a14 : Nat) (o_a15 : Nat) (o_a16 : Nat) (o_s : Nat → Int32) (o_m : Nat → Int32) (o_image : Nat → Int32) (o_was : Nat → Int32) (o_hasImage : Int32) (o_place : Int32) (o_rowAt : Int32) (o_rowEnd : Int32) (o_numbers : Nat → Int32) (o_most : Nat → Int32) (o_seed : Int32) (o_kept : Nat → Int32) (o_keptKind : Nat → Int32) (o_keptFigure : Nat → Int32) (o_sort : Nat → Int32) (o_size : Nat → Int32) (o_element : Nat → Int32) (o_thrown : Int32) (p1 : Int32) (N : Nat) (res : Int32) (hv : f_X10_lines N o_s p1 = some res) : Rd l E yX10_lines cX10_lines 6 (some .int) ({ frames := 3, cells := 0, slots := 0, locals := 64 }) [.ref o_h, .int p1] [oMo o_h o_a0 o_a1 o_a2 o_a3 o_hasImage o_place o_rowAt o_rowEnd o_a8 o_a9 o_seed o_a11 o_a12 o_a13 o_a14 o_a15 o_a16 o_thrown, ai E o_a0 42 o_s, ai E o_a1 42 o_m, ai E o_a2 42 o_image, ai E o_a3 42 o_was, ai E o_a8 3 o_numbers, ai E o_a9 8192 o_most, ai E o_a11 8 o_kept, ai E o_a12 8 o_keptKind, ai E o_a13 8 o_keptFigure, ai E o_a14 8 o_sort, ai E o_a15 8 o_size, ai E o_a16 800 o_element] (some (.int res)) := by
  refine Rd.intro RX10 (by decide) rfl (Nat.le_of_ble_eq_true rfl) ?_
  intro p e s m below meth c ls hC hr hlk hP hG hl
  obtain ⟨hx, hb, hml, hown, ht⟩ := id hC
  have hK := hG.1
  have hl : lv_has ls 6 [(0, .ref o_h), (1, .int p1)] := hl
  rw [f_X10_lines] at hv
  refine lv_iload_n hx hb dX10_lines_0 rfl (lv_at hl 1 rfl) ?_
  refine lv_iconst (v := (0 : Int32)) hx hb dX10_lines_1 (by decide) ?_
  refine lv_iconst (v := (1 : Int32)) hx hb dX10_lines_2 (by decide) ?_
  obtain ⟨r1, h2, hv⟩ := ob_s hv
  refine rdS (rest := []) (st1 := [.int r1]) (w := []) hC q_X10_isIn kw_4_200 (c_X10_isIn l E p1 (0 : Int32) (1 : Int32) r1 h2) ⟨rfl, rfl⟩ ⟨Nat.le_of_ble_eq_true rfl, Nat.le_of_ble_eq_true rfl⟩ ⟨Nat.zero_le _, Nat.zero_le _⟩ (hP.sub (ws' := []) [] rfl) hG rfl hl.1 rfl (Nat.le_of_ble_eq_true rfl) dX10_lines_3 rfl ?_
  refine lv_if_ne (tgt := 11) hx hb dX10_lines_6 (by decide) (fun c3 => ?_) (fun c3 => ?_)
  · have hv := if_n c3 hv
    refine lv_iconst (v := (0 : Int32)) hx hb dX10_lines_11 (by decide) ?_
    refine lv_istore_n (lv' := [(2, .int (0 : Int32)), (0, .ref o_h), (1, .int p1)]) hx hb dX10_lines_12 rfl hl (by decide) rfl (fun ls hl => ?_)
    refine lv_bipush (v := (-4 : Int32)) hx hb dX10_lines_13 (by decide) ?_
    refine lv_istore_n (lv' := [(3, .int (-4 : Int32)), (2, .int (0 : Int32)), (0, .ref o_h), (1, .int p1)]) hx hb dX10_lines_15 rfl hl (by decide) rfl (fun ls hl => ?_)
    refine lv_iconst (v := (0 : Int32)) hx hb dX10_lines_16 (by decide) ?_
    refine lv_istore (lv' := [(4, .int (0 : Int32)), (3, .int (-4 : Int32)), (2, .int (0 : Int32)), (0, .ref o_h), (1, .int p1)]) hx hb dX10_lines_17 hl (by decide) rfl (fun ls hl => ?_)
    have hL19 : ∀ (n : Nat) (x4 : Int32) (x5 : Int32) (x6 : Int32) (ls : Array Slot), lv_has ls 6 [(4, .int x4), (3, .int x5), (2, .int x6), (0, .ref o_h), (1, .int p1)] → L_X10_lines_19 N o_s p1 n x4 x5 x6 = some res → W p l e ({ frames := 3, cells := 0, slots := 0, locals := 64 }) s m [.ref o_h, .int p1].toArray below meth c s.heap [] 0 0 (MQ below (RdQ (some (.int res))) [.ref o_h, .int p1].toArray s 0 0 (fun _ => False)) (F0 m 19 ls []) := by
      intro n
      induction n with
      | zero => intro x4 x5 x6 ls hl hv; cases hv
      | succ n19 ih19 =>
        intro x4 x5 x6 ls hl hv
        rw [L_X10_lines_19] at hv
        refine lv_iload hx hb dX10_lines_19 (lv_at hl 0 rfl) ?_
        refine lv_aload_n hx hb dX10_lines_21 rfl (lv_at hl 3 rfl) ?_
        refine va_get (D := E.1) (ci := 4) (v := .ref o_a0) (C := RX10) (T := TX10) (N := 18) hx hb ht i_X10 hown hK hP 0 rfl rfl 0 (by decide) (ht _ kw_4_134) (fun _ h9 => h9) rfl dX10_lines_22 ?_
        refine lv_iconst (v := (0 : Int32)) hx hb dX10_lines_25 (by decide) ?_
        refine va_iald hx hb hK hP 1 0 rfl rfl (ix_s (by decide)) dX10_lines_26 ?_
        refine W.eq (g2 := F0 m 27 ls [.int (o_s 0), .int x4]) rfl ?_
        refine lv_icmp_ge (tgt := 120) hx hb dX10_lines_27 (by decide) (fun c7 => ?_) (fun c7 => ?_)
        · have hv := if_y c7 hv
          refine lv_iload_n hx hb dX10_lines_120 rfl (lv_at hl 4 rfl) ?_
          refine lv_if_ne (tgt := 128) hx hb dX10_lines_121 (by decide) (fun c8 => ?_) (fun c8 => ?_)
          · have hv := if_n c8 hv
            refine lv_iload_n hx hb dX10_lines_128 rfl (lv_at hl 1 rfl) ?_
            exact W.iret (v := x5) hx hb hr (fun t h9 _ => ⟨rv_i hv, h9⟩) (fun q h => absurd h List.not_mem_nil) dX10_lines_129 hlk
          · have hv := if_y c8 hv
            refine lv_iload_n hx hb dX10_lines_124 rfl (lv_at hl 2 rfl) ?_
            refine lv_goto (tgt := 129) hx hb dX10_lines_125 (by decide) ?_
            exact W.iret (v := x6) hx hb hr (fun t h9 _ => ⟨rv_i hv, h9⟩) (fun q h => absurd h List.not_mem_nil) dX10_lines_129 hlk
        · have hv := if_n c7 hv
          refine lv_iload hx hb dX10_lines_30 (lv_at hl 0 rfl) ?_
          refine lv_iconst (v := (1 : Int32)) hx hb dX10_lines_32 (by decide) ?_
          refine lv_iadd hx hb dX10_lines_33 ?_
          refine lv_istore (lv' := [(5, .int (x4 + (1 : Int32))), (4, .int x4), (3, .int x5), (2, .int x6), (0, .ref o_h), (1, .int p1)]) hx hb dX10_lines_34 hl (by decide) rfl (fun ls hl => ?_)
          have hL36 : ∀ (k_36 : Int32 → Int32 → Option (Int32)), (∀ (x9 : Int32) (x10 : Int32) (ls : Array Slot), lv_has ls 6 [(5, .int x9), (4, .int x4), (3, .int x5), (2, .int x10), (0, .ref o_h), (1, .int p1)] → k_36 x9 x10 = some res → W p l e ({ frames := 3, cells := 0, slots := 0, locals := 64 }) s m [.ref o_h, .int p1].toArray below meth c s.heap [] 0 0 (MQ below (RdQ (some (.int res))) [.ref o_h, .int p1].toArray s 0 0 (fun _ => False)) (F0 m 75 ls [])) → ∀ (n : Nat) (x9 : Int32) (x10 : Int32) (ls : Array Slot), lv_has ls 6 [(5, .int x9), (4, .int x4), (3, .int x5), (2, .int x10), (0, .ref o_h), (1, .int p1)] → L_X10_lines_36 o_s x4 k_36 n x9 x10 = some res → W p l e ({ frames := 3, cells := 0, slots := 0, locals := 64 }) s m [.ref o_h, .int p1].toArray below meth c s.heap [] 0 0 (MQ below (RdQ (some (.int res))) [.ref o_h, .int p1].toArray s 0 0 (fun _ => False)) (F0 m 36 ls []) := by
            intro k_36 hk_36 n
            induction n with
            | zero => intro x9 x10 ls hl hv; cases hv
            | succ n36 ih36 =>
              intro x9 x10 ls hl hv
              rw [L_X10_lines_36] at hv
              refine lv_iload hx hb dX10_lines_36 (lv_at hl 0 rfl) ?_
              refine lv_aload_n hx hb dX10_lines_38 rfl (lv_at hl 4 rfl) ?_
              refine va_get (D := E.1) (ci := 4) (v := .ref o_a0) (C := RX10) (T := TX10) (N := 18) hx hb ht i_X10 hown hK hP 0 rfl rfl 0 (by decide) (ht _ kw_4_134) (fun _ h9 => h9) rfl dX10_lines_39 ?_
              refine lv_iconst (v := (0 : Int32)) hx hb dX10_lines_42 (by decide) ?_
              refine va_iald hx hb hK hP 1 0 rfl rfl (ix_s (by decide)) dX10_lines_43 ?_
              refine W.eq (g2 := F0 m 44 ls [.int (o_s 0), .int x9]) rfl ?_
              refine lv_icmp_ge (tgt := 75) hx hb dX10_lines_44 (by decide) (fun c11 => ?_) (fun c11 => ?_)
              · have hv := if_y c11 hv
                exact hk_36 x9 x10 _ (lv_sub hl [0, 1, 2, 3, 4, 5] rfl) hv
              · have hv := if_n c11 hv
                refine lv_iload_n hx hb dX10_lines_47 rfl (lv_at hl 3 rfl) ?_
                refine lv_aload_n hx hb dX10_lines_48 rfl (lv_at hl 4 rfl) ?_
                refine va_get (D := E.1) (ci := 4) (v := .ref o_a0) (C := RX10) (T := TX10) (N := 18) hx hb ht i_X10 hown hK hP 0 rfl rfl 0 (by decide) (ht _ kw_4_134) (fun _ h9 => h9) rfl dX10_lines_49 ?_
                refine lv_iload hx hb dX10_lines_52 (lv_at hl 1 rfl) ?_
                refine lv_iload hx hb dX10_lines_54 (lv_at hl 0 rfl) ?_
                obtain ⟨r12, h13, hv⟩ := ob_s hv
                refine rdS (rest := [.int x10]) (st1 := [.int r12, .int x10]) (w := [ai E o_a0 42 o_s]) hC q_X10_doesSee kw_5_8 (c_X10_doesSee l E o_a0 o_s x4 x9 r12 h13) ⟨rfl, rfl⟩ ⟨Nat.le_of_ble_eq_true rfl, Nat.le_of_ble_eq_true rfl⟩ ⟨Nat.zero_le _, Nat.zero_le _⟩ (hP.sub (ws' := [ai E o_a0 42 o_s]) [1] rfl) hG rfl hl.1 rfl (Nat.le_of_ble_eq_true rfl) dX10_lines_56 rfl ?_
                refine lv_if_eq (tgt := 66) hx hb dX10_lines_59 (by decide) (fun c14 => ?_) (fun c14 => ?_)
                · have hv := if_y c14 hv
                  refine lv_iconst (v := (0 : Int32)) hx hb dX10_lines_66 (by decide) ?_
                  refine lv_iadd hx hb dX10_lines_67 ?_
                  refine lv_istore_n (lv' := [(2, .int (x10 + (0 : Int32))), (5, .int x9), (4, .int x4), (3, .int x5), (0, .ref o_h), (1, .int p1)]) hx hb dX10_lines_68 rfl hl (by decide) rfl (fun ls hl => ?_)
                  refine lv_iinc (v := (x9 + (1 : Int32))) (lv' := [(5, .int (x9 + (1 : Int32))), (2, .int (x10 + (0 : Int32))), (4, .int x4), (3, .int x5), (0, .ref o_h), (1, .int p1)]) hx hb dX10_lines_69 hl (k := 1) rfl rfl (by decide) rfl (fun ls hl => ?_)
                  refine lv_goto (tgt := 36) hx hb dX10_lines_72 (by decide) ?_
                  exact ih36 (x9 + (1 : Int32)) (x10 + (0 : Int32)) _ (lv_sub hl [0, 2, 3, 1, 4, 5] rfl) hv
                · have hv := if_n c14 hv
                  refine lv_iconst (v := (1 : Int32)) hx hb dX10_lines_62 (by decide) ?_
                  refine lv_goto (tgt := 67) hx hb dX10_lines_63 (by decide) ?_
                  refine lv_iadd hx hb dX10_lines_67 ?_
                  refine lv_istore_n (lv' := [(2, .int (x10 + (1 : Int32))), (5, .int x9), (4, .int x4), (3, .int x5), (0, .ref o_h), (1, .int p1)]) hx hb dX10_lines_68 rfl hl (by decide) rfl (fun ls hl => ?_)
                  refine lv_iinc (v := (x9 + (1 : Int32))) (lv' := [(5, .int (x9 + (1 : Int32))), (2, .int (x10 + (1 : Int32))), (4, .int x4), (3, .int x5), (0, .ref o_h), (1, .int p1)]) hx hb dX10_lines_69 hl (k := 1) rfl rfl (by decide) rfl (fun ls hl => ?_)
                  refine lv_goto (tgt := 36) hx hb dX10_lines_72 (by decide) ?_
                  exact ih36 (x9 + (1 : Int32)) (x10 + (1 : Int32)) _ (lv_sub hl [0, 2, 3, 1, 4, 5] rfl) hv
          refine hL36 _ (fun x15 x16 ls hl hv => ?_) N (x4 + (1 : Int32)) x6 _ (lv_sub hl [0, 1, 2, 3, 4, 5] rfl) hv
          refine lv_aload_n hx hb dX10_lines_75 rfl (lv_at hl 4 rfl) ?_
          refine va_get (D := E.1) (ci := 4) (v := .ref o_a0) (C := RX10) (T := TX10) (N := 18) hx hb ht i_X10 hown hK hP 0 rfl rfl 0 (by decide) (ht _ kw_4_134) (fun _ h9 => h9) rfl dX10_lines_76 ?_
          refine lv_iload hx hb dX10_lines_79 (lv_at hl 1 rfl) ?_
          obtain ⟨r17, h18, hv⟩ := ob_s hv
          refine rdS (rest := []) (st1 := [.int r17]) (w := [ai E o_a0 42 o_s]) hC q_X10_isHeard kw_5_2 (c_X10_isHeard l E o_a0 o_s x4 r17 h18) ⟨rfl, rfl⟩ ⟨Nat.le_of_ble_eq_true rfl, Nat.le_of_ble_eq_true rfl⟩ ⟨Nat.zero_le _, Nat.zero_le _⟩ (hP.sub (ws' := [ai E o_a0 42 o_s]) [1] rfl) hG rfl hl.1 rfl (Nat.le_of_ble_eq_true rfl) dX10_lines_81 rfl ?_
          refine lv_if_eq (tgt := 114) hx hb dX10_lines_84 (by decide) (fun c19 => ?_) (fun c19 => ?_)
          · have hv := if_y c19 hv
            refine lv_iinc (v := (x4 + (1 : Int32))) (lv' := [(4, .int (x4 + (1 : Int32))), (5, .int x15), (3, .int x5), (2, .int x16), (0, .ref o_h), (1, .int p1)]) hx hb dX10_lines_114 hl (k := 1) rfl rfl (by decide) rfl (fun ls hl => ?_)
            refine lv_goto (tgt := 19) hx hb dX10_lines_117 (by decide) ?_
            exact ih19 (x4 + (1 : Int32)) x5 x16 _ (lv_sub hl [0, 2, 3, 4, 5] rfl) hv
          · have hv := if_n c19 hv
            refine lv_iload_n hx hb dX10_lines_87 rfl (lv_at hl 2 rfl) ?_
            refine lv_if_lt (tgt := 111) hx hb dX10_lines_88 (by decide) (fun c20 => ?_) (fun c20 => ?_)
            · have hv := if_y c20 hv
              refine lv_iload hx hb dX10_lines_111 (lv_at hl 1 rfl) ?_
              refine lv_istore_n (lv' := [(3, .int x4), (5, .int x15), (4, .int x4), (2, .int x16), (0, .ref o_h), (1, .int p1)]) hx hb dX10_lines_113 rfl hl (by decide) rfl (fun ls hl => ?_)
              refine lv_iinc (v := (x4 + (1 : Int32))) (lv' := [(4, .int (x4 + (1 : Int32))), (3, .int x4), (5, .int x15), (2, .int x16), (0, .ref o_h), (1, .int p1)]) hx hb dX10_lines_114 hl (k := 2) rfl rfl (by decide) rfl (fun ls hl => ?_)
              refine lv_goto (tgt := 19) hx hb dX10_lines_117 (by decide) ?_
              exact ih19 (x4 + (1 : Int32)) x4 x16 _ (lv_sub hl [0, 1, 3, 4, 5] rfl) hv
            · have hv := if_n c20 hv
              refine lv_aload_n hx hb dX10_lines_91 rfl (lv_at hl 4 rfl) ?_
              refine va_get (D := E.1) (ci := 4) (v := .ref o_a0) (C := RX10) (T := TX10) (N := 18) hx hb ht i_X10 hown hK hP 0 rfl rfl 0 (by decide) (ht _ kw_4_134) (fun _ h9 => h9) rfl dX10_lines_92 ?_
              refine lv_iload hx hb dX10_lines_95 (lv_at hl 1 rfl) ?_
              obtain ⟨r21, h22, hv⟩ := ob_s hv
              refine rdS (rest := []) (st1 := [.int r21]) (w := [ai E o_a0 42 o_s]) hC q_X10_weight kw_5_24 (c_X10_weight l E o_a0 o_s x4 r21 h22) ⟨rfl, rfl⟩ ⟨Nat.le_of_ble_eq_true rfl, Nat.le_of_ble_eq_true rfl⟩ ⟨Nat.zero_le _, Nat.zero_le _⟩ (hP.sub (ws' := [ai E o_a0 42 o_s]) [1] rfl) hG rfl hl.1 rfl (Nat.le_of_ble_eq_true rfl) dX10_lines_97 rfl ?_
              refine lv_aload_n hx hb dX10_lines_100 rfl (lv_at hl 4 rfl) ?_
              refine va_get (D := E.1) (ci := 4) (v := .ref o_a0) (C := RX10) (T := TX10) (N := 18) hx hb ht i_X10 hown hK hP 0 rfl rfl 0 (by decide) (ht _ kw_4_134) (fun _ h9 => h9) rfl dX10_lines_101 ?_
              refine lv_iload_n hx hb dX10_lines_104 rfl (lv_at hl 2 rfl) ?_
              obtain ⟨r23, h24, hv⟩ := ob_s hv
              refine rdS (rest := [.int r21]) (st1 := [.int r23, .int r21]) (w := [ai E o_a0 42 o_s]) hC q_X10_weight kw_5_24 (c_X10_weight l E o_a0 o_s x5 r23 h24) ⟨rfl, rfl⟩ ⟨Nat.le_of_ble_eq_true rfl, Nat.le_of_ble_eq_true rfl⟩ ⟨Nat.zero_le _, Nat.zero_le _⟩ (hP.sub (ws' := [ai E o_a0 42 o_s]) [1] rfl) hG rfl hl.1 rfl (Nat.le_of_ble_eq_true rfl) dX10_lines_105 rfl ?_
              refine lv_icmp_le (tgt := 114) hx hb dX10_lines_108 (by decide) (fun c25 => ?_) (fun c25 => ?_)
              · have hv := if_y c25 hv
                refine lv_iinc (v := (x4 + (1 : Int32))) (lv' := [(4, .int (x4 + (1 : Int32))), (5, .int x15), (3, .int x5), (2, .int x16), (0, .ref o_h), (1, .int p1)]) hx hb dX10_lines_114 hl (k := 1) rfl rfl (by decide) rfl (fun ls hl => ?_)
                refine lv_goto (tgt := 19) hx hb dX10_lines_117 (by decide) ?_
                exact ih19 (x4 + (1 : Int32)) x5 x16 _ (lv_sub hl [0, 2, 3, 4, 5] rfl) hv
              · have hv := if_n c25 hv
                refine lv_iload hx hb dX10_lines_111 (lv_at hl 1 rfl) ?_
                refine lv_istore_n (lv' := [(3, .int x4), (5, .int x15), (4, .int x4), (2, .int x16), (0, .ref o_h), (1, .int p1)]) hx hb dX10_lines_113 rfl hl (by decide) rfl (fun ls hl => ?_)
                refine lv_iinc (v := (x4 + (1 : Int32))) (lv' := [(4, .int (x4 + (1 : Int32))), (3, .int x4), (5, .int x15), (2, .int x16), (0, .ref o_h), (1, .int p1)]) hx hb dX10_lines_114 hl (k := 2) rfl rfl (by decide) rfl (fun ls hl => ?_)
                refine lv_goto (tgt := 19) hx hb dX10_lines_117 (by decide) ?_
                exact ih19 (x4 + (1 : Int32)) x4 x16 _ (lv_sub hl [0, 1, 3, 4, 5] rfl) hv
    exact hL19 N (0 : Int32) (-4 : Int32) (0 : Int32) _ (lv_sub hl [0, 1, 2, 3, 4] rfl) hv
  · have hv := if_y c3 hv
    refine lv_iconst (v := (-1 : Int32)) hx hb dX10_lines_9 (by decide) ?_
    exact W.iret (v := (-1 : Int32)) hx hb hr (fun t h9 _ => ⟨rv_i hv, h9⟩) (fun q h => absurd h List.not_mem_nil) dX10_lines_10 hlk
theorem dX10_leastOf_0 : decode cX10_leastOf 0 = .ok (.iload_n 0, 1) := by decide +kernel
theorem dX10_leastOf_1 : decode cX10_leastOf 1 = .ok (.ifCond .ne 8, 3) := by decide +kernel
theorem dX10_leastOf_4 : decode cX10_leastOf 4 = .ok (.bipush (-128), 2) := by decide +kernel
theorem dX10_leastOf_6 : decode cX10_leastOf 6 = .ok (.goto 16, 3) := by decide +kernel
theorem dX10_leastOf_9 : decode cX10_leastOf 9 = .ok (.iload_n 0, 1) := by decide +kernel
theorem dX10_leastOf_10 : decode cX10_leastOf 10 = .ok (.iconst 1, 1) := by decide +kernel
theorem dX10_leastOf_11 : decode cX10_leastOf 11 = .ok (.if_icmp .ne 9, 3) := by decide +kernel
theorem dX10_leastOf_14 : decode cX10_leastOf 14 = .ok (.sipush (-32768), 3) := by decide +kernel
theorem dX10_leastOf_17 : decode cX10_leastOf 17 = .ok (.goto 5, 3) := by decide +kernel
theorem dX10_leastOf_20 : decode cX10_leastOf 20 = .ok (.ldc 236, 2) := by decide +kernel
theorem dX10_leastOf_22 : decode cX10_leastOf 22 = .ok (.ireturn, 1) := by decide +kernel
def f_X10_leastOf (p0 : Int32) : Option (Int32) := if p0 = 0 then some (-128 : Int32) else if p0 = (1 : Int32) then some (-32768 : Int32) else some (-2147483648 : Int32)
set_option maxHeartbeats 4000000 in
set_option maxRecDepth 100000 in
theorem c_X10_leastOf (l : Launch) (E : EE) (p0 : Int32) (res : Int32) (hv : f_X10_leastOf p0 = some res) : Rd l E yX10_leastOf cX10_leastOf 1 (some .int) ({ frames := 0, cells := 0, slots := 0, locals := 0 }) [.int p0] [] (some (.int res)) := by
  refine Rd.intro RX10 (by decide) rfl (Nat.le_of_ble_eq_true rfl) ?_
  intro p e s m below meth c ls hC hr hlk hP hG hl
  obtain ⟨hx, hb, hml, hown, ht⟩ := id hC
  have hK := hG.1
  have hl : lv_has ls 1 [(0, .int p0)] := hl
  rw [f_X10_leastOf] at hv
  refine lv_iload_n hx hb dX10_leastOf_0 rfl (lv_at hl 0 rfl) ?_
  refine lv_if_ne (tgt := 9) hx hb dX10_leastOf_1 (by decide) (fun c1 => ?_) (fun c1 => ?_)
  · have hv := if_n c1 hv
    refine lv_iload_n hx hb dX10_leastOf_9 rfl (lv_at hl 0 rfl) ?_
    refine lv_iconst (v := (1 : Int32)) hx hb dX10_leastOf_10 (by decide) ?_
    refine lv_icmp_ne (tgt := 20) hx hb dX10_leastOf_11 (by decide) (fun c2 => ?_) (fun c2 => ?_)
    · have hv := if_n c2 hv
      refine lv_ldc (v := (-2147483648 : Int32)) hx hb hown (ht _ kw_6_16) dX10_leastOf_20 ?_
      exact W.iret (v := (-2147483648 : Int32)) hx hb hr (fun t h9 _ => ⟨rv_i hv, h9⟩) (fun q h => absurd h List.not_mem_nil) dX10_leastOf_22 hlk
    · have hv := if_y c2 hv
      refine lv_sipush (v := (-32768 : Int32)) hx hb dX10_leastOf_14 (by decide) ?_
      refine lv_goto (tgt := 22) hx hb dX10_leastOf_17 (by decide) ?_
      exact W.iret (v := (-32768 : Int32)) hx hb hr (fun t h9 _ => ⟨rv_i hv, h9⟩) (fun q h => absurd h List.not_mem_nil) dX10_leastOf_22 hlk
  · have hv := if_y c1 hv
    refine lv_bipush (v := (-128 : Int32)) hx hb dX10_leastOf_4 (by decide) ?_
    refine lv_goto (tgt := 22) hx hb dX10_leastOf_6 (by decide) ?_
    exact W.iret (v := (-128 : Int32)) hx hb hr (fun t h9 _ => ⟨rv_i hv, h9⟩) (fun q h => absurd h List.not_mem_nil) dX10_leastOf_22 hlk
theorem dX10_isLawBy_0 : decode cX10_isLawBy 0 = .ok (.iconst 0, 1) := by decide +kernel
theorem dX10_isLawBy_1 : decode cX10_isLawBy 1 = .ok (.istore_n 3, 1) := by decide +kernel
theorem dX10_isLawBy_2 : decode cX10_isLawBy 2 = .ok (.iload_n 3, 1) := by decide +kernel
theorem dX10_isLawBy_3 : decode cX10_isLawBy 3 = .ok (.aload_n 0, 1) := by decide +kernel
theorem dX10_isLawBy_4 : decode cX10_isLawBy 4 = .ok (.getfield 40, 3) := by decide +kernel
theorem dX10_isLawBy_7 : decode cX10_isLawBy 7 = .ok (.iload_n 1, 1) := by decide +kernel
theorem dX10_isLawBy_8 : decode cX10_isLawBy 8 = .ok (.iaload, 1) := by decide +kernel
theorem dX10_isLawBy_9 : decode cX10_isLawBy 9 = .ok (.if_icmp .ge 52, 3) := by decide +kernel
theorem dX10_isLawBy_12 : decode cX10_isLawBy 12 = .ok (.aload_n 0, 1) := by decide +kernel
theorem dX10_isLawBy_13 : decode cX10_isLawBy 13 = .ok (.aload_n 0, 1) := by decide +kernel
theorem dX10_isLawBy_14 : decode cX10_isLawBy 14 = .ok (.getfield 43, 3) := by decide +kernel
theorem dX10_isLawBy_17 : decode cX10_isLawBy 17 = .ok (.bipush 100, 2) := by decide +kernel
theorem dX10_isLawBy_19 : decode cX10_isLawBy 19 = .ok (.iload_n 1, 1) := by decide +kernel
theorem dX10_isLawBy_20 : decode cX10_isLawBy 20 = .ok (.imul, 1) := by decide +kernel
theorem dX10_isLawBy_21 : decode cX10_isLawBy 21 = .ok (.iload_n 3, 1) := by decide +kernel
theorem dX10_isLawBy_22 : decode cX10_isLawBy 22 = .ok (.iadd, 1) := by decide +kernel
theorem dX10_isLawBy_23 : decode cX10_isLawBy 23 = .ok (.iaload, 1) := by decide +kernel
theorem dX10_isLawBy_24 : decode cX10_isLawBy 24 = .ok (.iload_n 2, 1) := by decide +kernel
theorem dX10_isLawBy_25 : decode cX10_isLawBy 25 = .ok (.invokevirtual 186, 3) := by decide +kernel
theorem dX10_isLawBy_28 : decode cX10_isLawBy 28 = .ok (.aload_n 0, 1) := by decide +kernel
theorem dX10_isLawBy_29 : decode cX10_isLawBy 29 = .ok (.getfield 43, 3) := by decide +kernel
theorem dX10_isLawBy_32 : decode cX10_isLawBy 32 = .ok (.bipush 100, 2) := by decide +kernel
theorem dX10_isLawBy_34 : decode cX10_isLawBy 34 = .ok (.iload_n 1, 1) := by decide +kernel
theorem dX10_isLawBy_35 : decode cX10_isLawBy 35 = .ok (.imul, 1) := by decide +kernel
theorem dX10_isLawBy_36 : decode cX10_isLawBy 36 = .ok (.iload_n 3, 1) := by decide +kernel
theorem dX10_isLawBy_37 : decode cX10_isLawBy 37 = .ok (.iadd, 1) := by decide +kernel
theorem dX10_isLawBy_38 : decode cX10_isLawBy 38 = .ok (.iconst 1, 1) := by decide +kernel
theorem dX10_isLawBy_39 : decode cX10_isLawBy 39 = .ok (.iadd, 1) := by decide +kernel
theorem dX10_isLawBy_40 : decode cX10_isLawBy 40 = .ok (.iaload, 1) := by decide +kernel
theorem dX10_isLawBy_41 : decode cX10_isLawBy 41 = .ok (.iconst 1, 1) := by decide +kernel
theorem dX10_isLawBy_42 : decode cX10_isLawBy 42 = .ok (.if_icmp .ne 7, 3) := by decide +kernel
theorem dX10_isLawBy_45 : decode cX10_isLawBy 45 = .ok (.iconst 1, 1) := by decide +kernel
theorem dX10_isLawBy_46 : decode cX10_isLawBy 46 = .ok (.goto 4, 3) := by decide +kernel
theorem dX10_isLawBy_49 : decode cX10_isLawBy 49 = .ok (.iconst 0, 1) := by decide +kernel
theorem dX10_isLawBy_50 : decode cX10_isLawBy 50 = .ok (.if_icmp .eq 5, 3) := by decide +kernel
theorem dX10_isLawBy_53 : decode cX10_isLawBy 53 = .ok (.iconst 0, 1) := by decide +kernel
theorem dX10_isLawBy_54 : decode cX10_isLawBy 54 = .ok (.ireturn, 1) := by decide +kernel
theorem dX10_isLawBy_55 : decode cX10_isLawBy 55 = .ok (.iinc 3 2, 3) := by decide +kernel
theorem dX10_isLawBy_58 : decode cX10_isLawBy 58 = .ok (.goto (-56), 3) := by decide +kernel
theorem dX10_isLawBy_61 : decode cX10_isLawBy 61 = .ok (.iconst 1, 1) := by decide +kernel
theorem dX10_isLawBy_62 : decode cX10_isLawBy 62 = .ok (.ireturn, 1) := by decide +kernel
def L_X10_isLawBy_2 (N : Nat) (o_s : Nat → Int32) (o_size : Nat → Int32) (o_element : Nat → Int32) (p1 : Int32) (p2 : Int32) : Nat → Int32 → Option (Int32)
  | 0, _ => none
  | n2 + 1, x1 => gd (ix p1 8) (if (o_size p1.toNatClampNeg) ≤ x1 then some (1 : Int32) else gd (ix (((100 : Int32) * p1) + x1) 800) (ob (f_X10_couldBy N o_s (o_element (((100 : Int32) * p1) + x1).toNatClampNeg) p2) (fun r5 => gd (ix ((((100 : Int32) * p1) + x1) + (1 : Int32)) 800) (if (o_element ((((100 : Int32) * p1) + x1) + (1 : Int32)).toNatClampNeg) = (1 : Int32) then if r5 = (1 : Int32) then L_X10_isLawBy_2 N o_s o_size o_element p1 p2 n2 (x1 + (2 : Int32)) else some (0 : Int32) else if r5 = (0 : Int32) then L_X10_isLawBy_2 N o_s o_size o_element p1 p2 n2 (x1 + (2 : Int32)) else some (0 : Int32)))))
def f_X10_isLawBy (N : Nat) (o_s : Nat → Int32) (o_size : Nat → Int32) (o_element : Nat → Int32) (p1 : Int32) (p2 : Int32) : Option (Int32) := L_X10_isLawBy_2 N o_s o_size o_element p1 p2 N (0 : Int32)
set_option maxHeartbeats 4000000 in
set_option maxRecDepth 100000 in
theorem c_X10_isLawBy (l : Launch) (E : EE) (o_h : Nat) (o_a0 : Nat) (o_a1 : Nat) (o_a2 : Nat) (o_a3 : Nat) (o_a8 : Nat) (o_a9 : Nat) (o_a11 : Nat) (o_a12 : Nat) (o_a13 : Nat) (o_a14 : Nat) (o_a15 : Nat) (o_a16 : Nat) (o_s : Nat → Int32) (o_m : Nat → Int32) (o_image : Nat → Int32) (o_was : Nat → Int32) (o_hasImage : Int32) (o_place : Int32) (o_rowAt : Int32) (o_rowEnd : Int32) (o_numbers : Nat → Int32) (o_most : Nat → Int32) (o_seed : Int32) (o_kept : Nat → Int32) (o_keptKind : Nat → Int32) (o_keptFigure : Nat → Int32) (o_sort : Nat → Int32) (o_size : Nat → Int32) (o_element : Nat → Int32) (o_thrown : Int32) (p1 : Int32) (p2 : Int32) (N : Nat) (res : Int32) (hv : f_X10_isLawBy N o_s o_size o_element p1 p2 = some res) : Rd l E yX10_isLawBy cX10_isLawBy 4 (some .boolean) ({ frames := 5, cells := 0, slots := 0, locals := 109 }) [.ref o_h, .int p1, .int p2] [oMo o_h o_a0 o_a1 o_a2 o_a3 o_hasImage o_place o_rowAt o_rowEnd o_a8 o_a9 o_seed o_a11 o_a12 o_a13 o_a14 o_a15 o_a16 o_thrown, ai E o_a0 42 o_s, ai E o_a1 42 o_m, ai E o_a2 42 o_image, ai E o_a3 42 o_was, ai E o_a8 3 o_numbers, ai E o_a9 8192 o_most, ai E o_a11 8 o_kept, ai E o_a12 8 o_keptKind, ai E o_a13 8 o_keptFigure, ai E o_a14 8 o_sort, ai E o_a15 8 o_size, ai E o_a16 800 o_element] (some (.int res)) := by
  refine Rd.intro RX10 (by decide) rfl (Nat.le_of_ble_eq_true rfl) ?_
  intro p e s m below meth c ls hC hr hlk hP hG hl
  obtain ⟨hx, hb, hml, hown, ht⟩ := id hC
  have hK := hG.1
  have hl : lv_has ls 4 [(0, .ref o_h), (1, .int p1), (2, .int p2)] := hl
  rw [f_X10_isLawBy] at hv
  refine lv_iconst (v := (0 : Int32)) hx hb dX10_isLawBy_0 (by decide) ?_
  refine lv_istore_n (lv' := [(3, .int (0 : Int32)), (0, .ref o_h), (1, .int p1), (2, .int p2)]) hx hb dX10_isLawBy_1 rfl hl (by decide) rfl (fun ls hl => ?_)
  have hL2 : ∀ (n : Nat) (x1 : Int32) (ls : Array Slot), lv_has ls 4 [(3, .int x1), (0, .ref o_h), (1, .int p1), (2, .int p2)] → L_X10_isLawBy_2 N o_s o_size o_element p1 p2 n x1 = some res → W p l e ({ frames := 5, cells := 0, slots := 0, locals := 109 }) s m [.ref o_h, .int p1, .int p2].toArray below meth c s.heap [] 0 0 (MQ below (RdQ (some (.int res))) [.ref o_h, .int p1, .int p2].toArray s 0 0 (fun _ => False)) (F0 m 2 ls []) := by
    intro n
    induction n with
    | zero => intro x1 ls hl hv; cases hv
    | succ n2 ih2 =>
      intro x1 ls hl hv
      rw [L_X10_isLawBy_2] at hv
      refine lv_iload_n hx hb dX10_isLawBy_2 rfl (lv_at hl 0 rfl) ?_
      refine lv_aload_n hx hb dX10_isLawBy_3 rfl (lv_at hl 1 rfl) ?_
      refine va_get (D := E.1) (ci := 4) (v := .ref o_a15) (C := RX10) (T := TX10) (N := 18) hx hb ht i_X10 hown hK hP 0 rfl rfl 15 (by decide) (ht _ kw_4_149) (fun _ h9 => h9) rfl dX10_isLawBy_4 ?_
      refine lv_iload_n hx hb dX10_isLawBy_7 rfl (lv_at hl 2 rfl) ?_
      obtain ⟨g2, hv⟩ := gd_s hv
      refine va_iald hx hb hK hP 11 0 rfl rfl (ix_s g2) dX10_isLawBy_8 ?_
      refine lv_icmp_ge (tgt := 61) hx hb dX10_isLawBy_9 (by decide) (fun c3 => ?_) (fun c3 => ?_)
      · have hv := if_y c3 hv
        refine lv_iconst (v := (1 : Int32)) hx hb dX10_isLawBy_61 (by decide) ?_
        exact W.zret (v := (1 : Int32)) hx hb hr rfl (fun t h9 _ => ⟨rv_i hv, h9⟩) (fun q h => absurd h List.not_mem_nil) dX10_isLawBy_62 hlk
      · have hv := if_n c3 hv
        refine lv_aload_n hx hb dX10_isLawBy_12 rfl (lv_at hl 1 rfl) ?_
        refine lv_aload_n hx hb dX10_isLawBy_13 rfl (lv_at hl 1 rfl) ?_
        refine va_get (D := E.1) (ci := 4) (v := .ref o_a16) (C := RX10) (T := TX10) (N := 18) hx hb ht i_X10 hown hK hP 0 rfl rfl 16 (by decide) (ht _ kw_4_150) (fun _ h9 => h9) rfl dX10_isLawBy_14 ?_
        refine lv_bipush (v := (100 : Int32)) hx hb dX10_isLawBy_17 (by decide) ?_
        refine lv_iload_n hx hb dX10_isLawBy_19 rfl (lv_at hl 2 rfl) ?_
        refine lv_imul hx hb dX10_isLawBy_20 ?_
        refine lv_iload_n hx hb dX10_isLawBy_21 rfl (lv_at hl 0 rfl) ?_
        refine lv_iadd hx hb dX10_isLawBy_22 ?_
        obtain ⟨g4, hv⟩ := gd_s hv
        refine va_iald hx hb hK hP 12 0 rfl rfl (ix_s g4) dX10_isLawBy_23 ?_
        refine lv_iload_n hx hb dX10_isLawBy_24 rfl (lv_at hl 3 rfl) ?_
        obtain ⟨r5, h6, hv⟩ := ob_s hv
        refine rdV 4 0 (As := [.int (o_element (((100 : Int32) * p1) + x1).toNatClampNeg), .int p2]) (rest := []) (st1 := [.int r5]) (w := [oMo o_h o_a0 o_a1 o_a2 o_a3 o_hasImage o_place o_rowAt o_rowEnd o_a8 o_a9 o_seed o_a11 o_a12 o_a13 o_a14 o_a15 o_a16 o_thrown, ai E o_a0 42 o_s, ai E o_a1 42 o_m, ai E o_a2 42 o_image, ai E o_a3 42 o_was, ai E o_a8 3 o_numbers, ai E o_a9 8192 o_most, ai E o_a11 8 o_kept, ai E o_a12 8 o_keptKind, ai E o_a13 8 o_keptFigure, ai E o_a14 8 o_sort, ai E o_a15 8 o_size, ai E o_a16 800 o_element]) hC q_X10_couldBy kw_5_140 (c_X10_couldBy l E o_h o_a0 o_a1 o_a2 o_a3 o_a8 o_a9 o_a11 o_a12 o_a13 o_a14 o_a15 o_a16 o_s o_m o_image o_was o_hasImage o_place o_rowAt o_rowEnd o_numbers o_most o_seed o_kept o_keptKind o_keptFigure o_sort o_size o_element o_thrown (o_element (((100 : Int32) * p1) + x1).toNatClampNeg) p2 N r5 h6) ⟨rfl, rfl⟩ ⟨Nat.le_of_ble_eq_true rfl, Nat.le_of_ble_eq_true rfl⟩ ⟨Nat.zero_le _, Nat.zero_le _⟩ hP rfl rfl rfl hG rfl hl.1 rfl (Nat.le_of_ble_eq_true rfl) dX10_isLawBy_25 rfl ?_
        refine lv_aload_n hx hb dX10_isLawBy_28 rfl (lv_at hl 1 rfl) ?_
        refine va_get (D := E.1) (ci := 4) (v := .ref o_a16) (C := RX10) (T := TX10) (N := 18) hx hb ht i_X10 hown hK hP 0 rfl rfl 16 (by decide) (ht _ kw_4_150) (fun _ h9 => h9) rfl dX10_isLawBy_29 ?_
        refine lv_bipush (v := (100 : Int32)) hx hb dX10_isLawBy_32 (by decide) ?_
        refine lv_iload_n hx hb dX10_isLawBy_34 rfl (lv_at hl 2 rfl) ?_
        refine lv_imul hx hb dX10_isLawBy_35 ?_
        refine lv_iload_n hx hb dX10_isLawBy_36 rfl (lv_at hl 0 rfl) ?_
        refine lv_iadd hx hb dX10_isLawBy_37 ?_
        refine lv_iconst (v := (1 : Int32)) hx hb dX10_isLawBy_38 (by decide) ?_
        refine lv_iadd hx hb dX10_isLawBy_39 ?_
        obtain ⟨g7, hv⟩ := gd_s hv
        refine va_iald hx hb hK hP 12 0 rfl rfl (ix_s g7) dX10_isLawBy_40 ?_
        refine lv_iconst (v := (1 : Int32)) hx hb dX10_isLawBy_41 (by decide) ?_
        refine lv_icmp_ne (tgt := 49) hx hb dX10_isLawBy_42 (by decide) (fun c8 => ?_) (fun c8 => ?_)
        · have hv := if_n c8 hv
          refine lv_iconst (v := (0 : Int32)) hx hb dX10_isLawBy_49 (by decide) ?_
          refine lv_icmp_eq (tgt := 55) hx hb dX10_isLawBy_50 (by decide) (fun c9 => ?_) (fun c9 => ?_)
          · have hv := if_y c9 hv
            refine lv_iinc (v := (x1 + (2 : Int32))) (lv' := [(3, .int (x1 + (2 : Int32))), (0, .ref o_h), (1, .int p1), (2, .int p2)]) hx hb dX10_isLawBy_55 hl (k := 0) rfl rfl (by decide) rfl (fun ls hl => ?_)
            refine lv_goto (tgt := 2) hx hb dX10_isLawBy_58 (by decide) ?_
            exact ih2 (x1 + (2 : Int32)) _ (lv_sub hl [0, 1, 2, 3] rfl) hv
          · have hv := if_n c9 hv
            refine lv_iconst (v := (0 : Int32)) hx hb dX10_isLawBy_53 (by decide) ?_
            exact W.zret (v := (0 : Int32)) hx hb hr rfl (fun t h9 _ => ⟨rv_i hv, h9⟩) (fun q h => absurd h List.not_mem_nil) dX10_isLawBy_54 hlk
        · have hv := if_y c8 hv
          refine lv_iconst (v := (1 : Int32)) hx hb dX10_isLawBy_45 (by decide) ?_
          refine lv_goto (tgt := 50) hx hb dX10_isLawBy_46 (by decide) ?_
          refine lv_icmp_eq (tgt := 55) hx hb dX10_isLawBy_50 (by decide) (fun c10 => ?_) (fun c10 => ?_)
          · have hv := if_y c10 hv
            refine lv_iinc (v := (x1 + (2 : Int32))) (lv' := [(3, .int (x1 + (2 : Int32))), (0, .ref o_h), (1, .int p1), (2, .int p2)]) hx hb dX10_isLawBy_55 hl (k := 0) rfl rfl (by decide) rfl (fun ls hl => ?_)
            refine lv_goto (tgt := 2) hx hb dX10_isLawBy_58 (by decide) ?_
            exact ih2 (x1 + (2 : Int32)) _ (lv_sub hl [0, 1, 2, 3] rfl) hv
          · have hv := if_n c10 hv
            refine lv_iconst (v := (0 : Int32)) hx hb dX10_isLawBy_53 (by decide) ?_
            exact W.zret (v := (0 : Int32)) hx hb hr rfl (fun t h9 _ => ⟨rv_i hv, h9⟩) (fun q h => absurd h List.not_mem_nil) dX10_isLawBy_54 hlk
  exact hL2 N (0 : Int32) _ (lv_sub hl [0, 1, 2, 3] rfl) hv
theorem dX10_law_0 : decode cX10_law 0 = .ok (.iload_n 2, 1) := by decide +kernel
theorem dX10_law_1 : decode cX10_law 1 = .ok (.iconst 0, 1) := by decide +kernel
theorem dX10_law_2 : decode cX10_law 2 = .ok (.iconst 2, 1) := by decide +kernel
theorem dX10_law_3 : decode cX10_law 3 = .ok (.invokestatic 46, 3) := by decide +kernel
theorem dX10_law_6 : decode cX10_law 6 = .ok (.ifCond .ne 5, 3) := by decide +kernel
theorem dX10_law_9 : decode cX10_law 9 = .ok (.iconst (-1), 1) := by decide +kernel
theorem dX10_law_10 : decode cX10_law 10 = .ok (.ireturn, 1) := by decide +kernel
theorem dX10_law_11 : decode cX10_law 11 = .ok (.aload_n 0, 1) := by decide +kernel
theorem dX10_law_12 : decode cX10_law 12 = .ok (.iload_n 1, 1) := by decide +kernel
theorem dX10_law_13 : decode cX10_law 13 = .ok (.iconst (-1), 1) := by decide +kernel
theorem dX10_law_14 : decode cX10_law 14 = .ok (.invokevirtual 141, 3) := by decide +kernel
theorem dX10_law_17 : decode cX10_law 17 = .ok (.istore_n 3, 1) := by decide +kernel
theorem dX10_law_18 : decode cX10_law 18 = .ok (.iload_n 3, 1) := by decide +kernel
theorem dX10_law_19 : decode cX10_law 19 = .ok (.ifCond .ne 18, 3) := by decide +kernel
theorem dX10_law_22 : decode cX10_law 22 = .ok (.aload_n 0, 1) := by decide +kernel
theorem dX10_law_23 : decode cX10_law 23 = .ok (.getfield 40, 3) := by decide +kernel
theorem dX10_law_26 : decode cX10_law 26 = .ok (.iload_n 1, 1) := by decide +kernel
theorem dX10_law_27 : decode cX10_law 27 = .ok (.iaload, 1) := by decide +kernel
theorem dX10_law_28 : decode cX10_law 28 = .ok (.iconst 2, 1) := by decide +kernel
theorem dX10_law_29 : decode cX10_law 29 = .ok (.irem, 1) := by decide +kernel
theorem dX10_law_30 : decode cX10_law 30 = .ok (.iconst 1, 1) := by decide +kernel
theorem dX10_law_31 : decode cX10_law 31 = .ok (.if_icmp .ne 6, 3) := by decide +kernel
theorem dX10_law_34 : decode cX10_law 34 = .ok (.bipush (-13), 2) := by decide +kernel
theorem dX10_law_36 : decode cX10_law 36 = .ok (.istore_n 3, 1) := by decide +kernel
theorem dX10_law_37 : decode cX10_law 37 = .ok (.iconst 0, 1) := by decide +kernel
theorem dX10_law_38 : decode cX10_law 38 = .ok (.istore 4, 2) := by decide +kernel
theorem dX10_law_40 : decode cX10_law 40 = .ok (.iload_n 3, 1) := by decide +kernel
theorem dX10_law_41 : decode cX10_law 41 = .ok (.ifCond .ne 64, 3) := by decide +kernel
theorem dX10_law_44 : decode cX10_law 44 = .ok (.iload 4, 2) := by decide +kernel
theorem dX10_law_46 : decode cX10_law 46 = .ok (.aload_n 0, 1) := by decide +kernel
theorem dX10_law_47 : decode cX10_law 47 = .ok (.getfield 40, 3) := by decide +kernel
theorem dX10_law_50 : decode cX10_law 50 = .ok (.iload_n 1, 1) := by decide +kernel
theorem dX10_law_51 : decode cX10_law 51 = .ok (.iaload, 1) := by decide +kernel
theorem dX10_law_52 : decode cX10_law 52 = .ok (.if_icmp .ge 53, 3) := by decide +kernel
theorem dX10_law_55 : decode cX10_law 55 = .ok (.aload_n 0, 1) := by decide +kernel
theorem dX10_law_56 : decode cX10_law 56 = .ok (.aload_n 0, 1) := by decide +kernel
theorem dX10_law_57 : decode cX10_law 57 = .ok (.getfield 43, 3) := by decide +kernel
theorem dX10_law_60 : decode cX10_law 60 = .ok (.bipush 100, 2) := by decide +kernel
theorem dX10_law_62 : decode cX10_law 62 = .ok (.iload_n 1, 1) := by decide +kernel
theorem dX10_law_63 : decode cX10_law 63 = .ok (.imul, 1) := by decide +kernel
theorem dX10_law_64 : decode cX10_law 64 = .ok (.iload 4, 2) := by decide +kernel
theorem dX10_law_66 : decode cX10_law 66 = .ok (.iadd, 1) := by decide +kernel
theorem dX10_law_67 : decode cX10_law 67 = .ok (.iaload, 1) := by decide +kernel
theorem dX10_law_68 : decode cX10_law 68 = .ok (.invokevirtual 183, 3) := by decide +kernel
theorem dX10_law_71 : decode cX10_law 71 = .ok (.ifCond .eq 25, 3) := by decide +kernel
theorem dX10_law_74 : decode cX10_law 74 = .ok (.aload_n 0, 1) := by decide +kernel
theorem dX10_law_75 : decode cX10_law 75 = .ok (.getfield 43, 3) := by decide +kernel
theorem dX10_law_78 : decode cX10_law 78 = .ok (.bipush 100, 2) := by decide +kernel
theorem dX10_law_80 : decode cX10_law 80 = .ok (.iload_n 1, 1) := by decide +kernel
theorem dX10_law_81 : decode cX10_law 81 = .ok (.imul, 1) := by decide +kernel
theorem dX10_law_82 : decode cX10_law 82 = .ok (.iload 4, 2) := by decide +kernel
theorem dX10_law_84 : decode cX10_law 84 = .ok (.iadd, 1) := by decide +kernel
theorem dX10_law_85 : decode cX10_law 85 = .ok (.iconst 1, 1) := by decide +kernel
theorem dX10_law_86 : decode cX10_law 86 = .ok (.iadd, 1) := by decide +kernel
theorem dX10_law_87 : decode cX10_law 87 = .ok (.iaload, 1) := by decide +kernel
theorem dX10_law_88 : decode cX10_law 88 = .ok (.iconst 0, 1) := by decide +kernel
theorem dX10_law_89 : decode cX10_law 89 = .ok (.iconst 1, 1) := by decide +kernel
theorem dX10_law_90 : decode cX10_law 90 = .ok (.invokestatic 46, 3) := by decide +kernel
theorem dX10_law_93 : decode cX10_law 93 = .ok (.ifCond .ne 6, 3) := by decide +kernel
theorem dX10_law_96 : decode cX10_law 96 = .ok (.bipush (-13), 2) := by decide +kernel
theorem dX10_law_98 : decode cX10_law 98 = .ok (.istore_n 3, 1) := by decide +kernel
theorem dX10_law_99 : decode cX10_law 99 = .ok (.iinc 4 2, 3) := by decide +kernel
theorem dX10_law_102 : decode cX10_law 102 = .ok (.goto (-62), 3) := by decide +kernel
theorem dX10_law_105 : decode cX10_law 105 = .ok (.iload_n 3, 1) := by decide +kernel
theorem dX10_law_106 : decode cX10_law 106 = .ok (.ifCond .eq 5, 3) := by decide +kernel
theorem dX10_law_109 : decode cX10_law 109 = .ok (.iload_n 3, 1) := by decide +kernel
theorem dX10_law_110 : decode cX10_law 110 = .ok (.ireturn, 1) := by decide +kernel
theorem dX10_law_111 : decode cX10_law 111 = .ok (.iconst 0, 1) := by decide +kernel
theorem dX10_law_112 : decode cX10_law 112 = .ok (.istore 4, 2) := by decide +kernel
theorem dX10_law_114 : decode cX10_law 114 = .ok (.bipush (-4), 2) := by decide +kernel
theorem dX10_law_116 : decode cX10_law 116 = .ok (.istore 5, 2) := by decide +kernel
theorem dX10_law_118 : decode cX10_law 118 = .ok (.bipush (-4), 2) := by decide +kernel
theorem dX10_law_120 : decode cX10_law 120 = .ok (.istore 6, 2) := by decide +kernel
theorem dX10_law_122 : decode cX10_law 122 = .ok (.iconst 1, 1) := by decide +kernel
theorem dX10_law_123 : decode cX10_law 123 = .ok (.istore 7, 2) := by decide +kernel
theorem dX10_law_125 : decode cX10_law 125 = .ok (.iload 7, 2) := by decide +kernel
theorem dX10_law_127 : decode cX10_law 127 = .ok (.bipush 100, 2) := by decide +kernel
theorem dX10_law_129 : decode cX10_law 129 = .ok (.if_icmp .ge 43, 3) := by decide +kernel
theorem dX10_law_132 : decode cX10_law 132 = .ok (.aload_n 0, 1) := by decide +kernel
theorem dX10_law_133 : decode cX10_law 133 = .ok (.iload_n 1, 1) := by decide +kernel
theorem dX10_law_134 : decode cX10_law 134 = .ok (.iload 7, 2) := by decide +kernel
theorem dX10_law_136 : decode cX10_law 136 = .ok (.invokevirtual 237, 3) := by decide +kernel
theorem dX10_law_139 : decode cX10_law 139 = .ok (.ifCond .ne 6, 3) := by decide +kernel
theorem dX10_law_142 : decode cX10_law 142 = .ok (.goto 24, 3) := by decide +kernel
theorem dX10_law_145 : decode cX10_law 145 = .ok (.iload 4, 2) := by decide +kernel
theorem dX10_law_147 : decode cX10_law 147 = .ok (.ifCond .ne 8, 3) := by decide +kernel
theorem dX10_law_150 : decode cX10_law 150 = .ok (.iload 7, 2) := by decide +kernel
theorem dX10_law_152 : decode cX10_law 152 = .ok (.goto 5, 3) := by decide +kernel
theorem dX10_law_155 : decode cX10_law 155 = .ok (.iload 5, 2) := by decide +kernel
theorem dX10_law_157 : decode cX10_law 157 = .ok (.istore 5, 2) := by decide +kernel
theorem dX10_law_159 : decode cX10_law 159 = .ok (.iload 7, 2) := by decide +kernel
theorem dX10_law_161 : decode cX10_law 161 = .ok (.istore 6, 2) := by decide +kernel
theorem dX10_law_163 : decode cX10_law 163 = .ok (.iinc 4 1, 3) := by decide +kernel
theorem dX10_law_166 : decode cX10_law 166 = .ok (.iinc 7 1, 3) := by decide +kernel
theorem dX10_law_169 : decode cX10_law 169 = .ok (.goto (-44), 3) := by decide +kernel
theorem dX10_law_172 : decode cX10_law 172 = .ok (.iload_n 2, 1) := by decide +kernel
theorem dX10_law_173 : decode cX10_law 173 = .ok (.ifCond .ne 8, 3) := by decide +kernel
theorem dX10_law_176 : decode cX10_law 176 = .ok (.iload 4, 2) := by decide +kernel
theorem dX10_law_178 : decode cX10_law 178 = .ok (.goto 15, 3) := by decide +kernel
theorem dX10_law_181 : decode cX10_law 181 = .ok (.iload_n 2, 1) := by decide +kernel
theorem dX10_law_182 : decode cX10_law 182 = .ok (.iconst 1, 1) := by decide +kernel
theorem dX10_law_183 : decode cX10_law 183 = .ok (.if_icmp .ne 8, 3) := by decide +kernel
theorem dX10_law_186 : decode cX10_law 186 = .ok (.iload 5, 2) := by decide +kernel
theorem dX10_law_188 : decode cX10_law 188 = .ok (.goto 5, 3) := by decide +kernel
theorem dX10_law_191 : decode cX10_law 191 = .ok (.iload 6, 2) := by decide +kernel
theorem dX10_law_193 : decode cX10_law 193 = .ok (.ireturn, 1) := by decide +kernel
def L_X10_law_125 (N : Nat) (o_s : Nat → Int32) (o_size : Nat → Int32) (o_element : Nat → Int32) (p1 : Int32) (p2 : Int32) : Nat → Int32 → Int32 → Int32 → Int32 → Option (Int32)
  | 0, _, _, _, _ => none
  | n125 + 1, x11, x12, x13, x14 => if (100 : Int32) ≤ x11 then if p2 = 0 then some x14 else if p2 = (1 : Int32) then some x13 else some x12 else ob (f_X10_isLawBy N o_s o_size o_element p1 x11) (fun r18 => if r18 = 0 then L_X10_law_125 N o_s o_size o_element p1 p2 n125 (x11 + (1 : Int32)) x12 x13 x14 else if x14 = 0 then L_X10_law_125 N o_s o_size o_element p1 p2 n125 (x11 + (1 : Int32)) x11 x11 (x14 + (1 : Int32)) else L_X10_law_125 N o_s o_size o_element p1 p2 n125 (x11 + (1 : Int32)) x11 x13 (x14 + (1 : Int32)))
def L_X10_law_40 (N : Nat) (o_s : Nat → Int32) (o_size : Nat → Int32) (o_element : Nat → Int32) (p1 : Int32) (p2 : Int32) : Nat → Int32 → Int32 → Option (Int32)
  | 0, _, _ => none
  | n40 + 1, x7, x8 => if x8 = 0 then gd (ix p1 8) (if (o_size p1.toNatClampNeg) ≤ x7 then if x8 = 0 then L_X10_law_125 N o_s o_size o_element p1 p2 N (1 : Int32) (-4 : Int32) (-4 : Int32) (0 : Int32) else some x8 else gd (ix (((100 : Int32) * p1) + x7) 800) (ob (f_X10_isGroup o_s (o_element (((100 : Int32) * p1) + x7).toNatClampNeg)) (fun r37 => if r37 = 0 then L_X10_law_40 N o_s o_size o_element p1 p2 n40 (x7 + (2 : Int32)) (-13 : Int32) else gd (ix ((((100 : Int32) * p1) + x7) + (1 : Int32)) 800) (ob (f_X10_isIn (o_element ((((100 : Int32) * p1) + x7) + (1 : Int32)).toNatClampNeg) (0 : Int32) (1 : Int32)) (fun r41 => if r41 = 0 then L_X10_law_40 N o_s o_size o_element p1 p2 n40 (x7 + (2 : Int32)) (-13 : Int32) else L_X10_law_40 N o_s o_size o_element p1 p2 n40 (x7 + (2 : Int32)) x8))))) else if x8 = 0 then L_X10_law_125 N o_s o_size o_element p1 p2 N (1 : Int32) (-4 : Int32) (-4 : Int32) (0 : Int32) else some x8
def f_X10_law (N : Nat) (o_s : Nat → Int32) (o_kept : Nat → Int32) (o_sort : Nat → Int32) (o_size : Nat → Int32) (o_element : Nat → Int32) (p1 : Int32) (p2 : Int32) : Option (Int32) := ob (f_X10_isIn p2 (0 : Int32) (2 : Int32)) (fun r1 => if r1 = 0 then some (-1 : Int32) else ob (f_X10_wrongRow o_kept o_sort p1 (-1 : Int32)) (fun r4 => if r4 = 0 then gd (ix p1 8) (if ((o_size p1.toNatClampNeg) - (o_size p1.toNatClampNeg) / (2 : Int32) * (2 : Int32)) = (1 : Int32) then L_X10_law_40 N o_s o_size o_element p1 p2 N (0 : Int32) (-13 : Int32) else L_X10_law_40 N o_s o_size o_element p1 p2 N (0 : Int32) r4) else L_X10_law_40 N o_s o_size o_element p1 p2 N (0 : Int32) r4))
set_option maxHeartbeats 4000000 in
set_option maxRecDepth 100000 in
theorem c_X10_law (l : Launch) (E : EE) (o_h : Nat) (o_a0 : Nat) (o_a1 : Nat) (o_a2 : Nat) (o_a3 : Nat) (o_a8 : Nat) (o_a9 : Nat) (o_a11 : Nat) (o_a12 : Nat) (o_a13 : Nat) (o_a14 : Nat) (o_a15 : Nat) (o_a16 : Nat) (o_s : Nat → Int32) (o_m : Nat → Int32) (o_image : Nat → Int32) (o_was : Nat → Int32) (o_hasImage : Int32) (o_place : Int32) (o_rowAt : Int32) (o_rowEnd : Int32) (o_numbers : Nat → Int32) (o_most : Nat → Int32) (o_seed : Int32) (o_kept : Nat → Int32) (o_keptKind : Nat → Int32) (o_keptFigure : Nat → Int32) (o_sort : Nat → Int32) (o_size : Nat → Int32) (o_element : Nat → Int32) (o_thrown : Int32) (p1 : Int32) (p2 : Int32) (N : Nat) (res : Int32) (hv : f_X10_law N o_s o_kept o_sort o_size o_element p1 p2 = some res) : Rd l E yX10_law cX10_law 8 (some .int) ({ frames := 6, cells := 0, slots := 0, locals := 132 }) [.ref o_h, .int p1, .int p2] [oMo o_h o_a0 o_a1 o_a2 o_a3 o_hasImage o_place o_rowAt o_rowEnd o_a8 o_a9 o_seed o_a11 o_a12 o_a13 o_a14 o_a15 o_a16 o_thrown, ai E o_a0 42 o_s, ai E o_a1 42 o_m, ai E o_a2 42 o_image, ai E o_a3 42 o_was, ai E o_a8 3 o_numbers, ai E o_a9 8192 o_most, ai E o_a11 8 o_kept, ai E o_a12 8 o_keptKind, ai E o_a13 8 o_keptFigure, ai E o_a14 8 o_sort, ai E o_a15 8 o_size, ai E o_a16 800 o_element] (some (.int res)) := by
  refine Rd.intro RX10 (by decide) rfl (Nat.le_of_ble_eq_true rfl) ?_
  intro p e s m below meth c ls hC hr hlk hP hG hl
  obtain ⟨hx, hb, hml, hown, ht⟩ := id hC
  have hK := hG.1
  have hl : lv_has ls 8 [(0, .ref o_h), (1, .int p1), (2, .int p2)] := hl
  rw [f_X10_law] at hv
  refine lv_iload_n hx hb dX10_law_0 rfl (lv_at hl 2 rfl) ?_
  refine lv_iconst (v := (0 : Int32)) hx hb dX10_law_1 (by decide) ?_
  refine lv_iconst (v := (2 : Int32)) hx hb dX10_law_2 (by decide) ?_
  obtain ⟨r1, h2, hv⟩ := ob_s hv
  refine rdS (rest := []) (st1 := [.int r1]) (w := []) hC q_X10_isIn kw_4_200 (c_X10_isIn l E p2 (0 : Int32) (2 : Int32) r1 h2) ⟨rfl, rfl⟩ ⟨Nat.le_of_ble_eq_true rfl, Nat.le_of_ble_eq_true rfl⟩ ⟨Nat.zero_le _, Nat.zero_le _⟩ (hP.sub (ws' := []) [] rfl) hG rfl hl.1 rfl (Nat.le_of_ble_eq_true rfl) dX10_law_3 rfl ?_
  refine lv_if_ne (tgt := 11) hx hb dX10_law_6 (by decide) (fun c3 => ?_) (fun c3 => ?_)
  · have hv := if_n c3 hv
    refine lv_aload_n hx hb dX10_law_11 rfl (lv_at hl 0 rfl) ?_
    refine lv_iload_n hx hb dX10_law_12 rfl (lv_at hl 1 rfl) ?_
    refine lv_iconst (v := (-1 : Int32)) hx hb dX10_law_13 (by decide) ?_
    obtain ⟨r4, h5, hv⟩ := ob_s hv
    refine rdV 4 0 (As := [.int p1, .int (-1 : Int32)]) (rest := []) (st1 := [.int r4]) (w := [oMo o_h o_a0 o_a1 o_a2 o_a3 o_hasImage o_place o_rowAt o_rowEnd o_a8 o_a9 o_seed o_a11 o_a12 o_a13 o_a14 o_a15 o_a16 o_thrown, ai E o_a0 42 o_s, ai E o_a1 42 o_m, ai E o_a2 42 o_image, ai E o_a3 42 o_was, ai E o_a8 3 o_numbers, ai E o_a9 8192 o_most, ai E o_a11 8 o_kept, ai E o_a12 8 o_keptKind, ai E o_a13 8 o_keptFigure, ai E o_a14 8 o_sort, ai E o_a15 8 o_size, ai E o_a16 800 o_element]) hC q_X10_wrongRow kw_4_193 (c_X10_wrongRow l E o_h o_a0 o_a1 o_a2 o_a3 o_a8 o_a9 o_a11 o_a12 o_a13 o_a14 o_a15 o_a16 o_s o_m o_image o_was o_hasImage o_place o_rowAt o_rowEnd o_numbers o_most o_seed o_kept o_keptKind o_keptFigure o_sort o_size o_element o_thrown p1 (-1 : Int32) r4 h5) ⟨rfl, rfl⟩ ⟨Nat.le_of_ble_eq_true rfl, Nat.le_of_ble_eq_true rfl⟩ ⟨Nat.zero_le _, Nat.zero_le _⟩ hP rfl rfl rfl hG rfl hl.1 rfl (Nat.le_of_ble_eq_true rfl) dX10_law_14 rfl ?_
    refine lv_istore_n (lv' := [(3, .int r4), (0, .ref o_h), (1, .int p1), (2, .int p2)]) hx hb dX10_law_17 rfl hl (by decide) rfl (fun ls hl => ?_)
    refine lv_iload_n hx hb dX10_law_18 rfl (lv_at hl 0 rfl) ?_
    refine lv_if_ne (tgt := 37) hx hb dX10_law_19 (by decide) (fun c6 => ?_) (fun c6 => ?_)
    · have hv := if_n c6 hv
      refine lv_iconst (v := (0 : Int32)) hx hb dX10_law_37 (by decide) ?_
      refine lv_istore (lv' := [(4, .int (0 : Int32)), (3, .int r4), (0, .ref o_h), (1, .int p1), (2, .int p2)]) hx hb dX10_law_38 hl (by decide) rfl (fun ls hl => ?_)
      have hL40 : ∀ (n : Nat) (x7 : Int32) (x8 : Int32) (ls : Array Slot), lv_has ls 8 [(4, .int x7), (3, .int x8), (0, .ref o_h), (1, .int p1), (2, .int p2)] → L_X10_law_40 N o_s o_size o_element p1 p2 n x7 x8 = some res → W p l e ({ frames := 6, cells := 0, slots := 0, locals := 132 }) s m [.ref o_h, .int p1, .int p2].toArray below meth c s.heap [] 0 0 (MQ below (RdQ (some (.int res))) [.ref o_h, .int p1, .int p2].toArray s 0 0 (fun _ => False)) (F0 m 40 ls []) := by
        intro n
        induction n with
        | zero => intro x7 x8 ls hl hv; cases hv
        | succ n40 ih40 =>
          intro x7 x8 ls hl hv
          rw [L_X10_law_40] at hv
          refine lv_iload_n hx hb dX10_law_40 rfl (lv_at hl 1 rfl) ?_
          refine lv_if_ne (tgt := 105) hx hb dX10_law_41 (by decide) (fun c9 => ?_) (fun c9 => ?_)
          · have hv := if_n c9 hv
            refine lv_iload_n hx hb dX10_law_105 rfl (lv_at hl 1 rfl) ?_
            refine lv_if_eq (tgt := 111) hx hb dX10_law_106 (by decide) (fun c10 => ?_) (fun c10 => ?_)
            · have hv := if_y c10 hv
              refine lv_iconst (v := (0 : Int32)) hx hb dX10_law_111 (by decide) ?_
              refine lv_istore (lv' := [(4, .int (0 : Int32)), (3, .int x8), (0, .ref o_h), (1, .int p1), (2, .int p2)]) hx hb dX10_law_112 hl (by decide) rfl (fun ls hl => ?_)
              refine lv_bipush (v := (-4 : Int32)) hx hb dX10_law_114 (by decide) ?_
              refine lv_istore (lv' := [(5, .int (-4 : Int32)), (4, .int (0 : Int32)), (3, .int x8), (0, .ref o_h), (1, .int p1), (2, .int p2)]) hx hb dX10_law_116 hl (by decide) rfl (fun ls hl => ?_)
              refine lv_bipush (v := (-4 : Int32)) hx hb dX10_law_118 (by decide) ?_
              refine lv_istore (lv' := [(6, .int (-4 : Int32)), (5, .int (-4 : Int32)), (4, .int (0 : Int32)), (3, .int x8), (0, .ref o_h), (1, .int p1), (2, .int p2)]) hx hb dX10_law_120 hl (by decide) rfl (fun ls hl => ?_)
              refine lv_iconst (v := (1 : Int32)) hx hb dX10_law_122 (by decide) ?_
              refine lv_istore (lv' := [(7, .int (1 : Int32)), (6, .int (-4 : Int32)), (5, .int (-4 : Int32)), (4, .int (0 : Int32)), (3, .int x8), (0, .ref o_h), (1, .int p1), (2, .int p2)]) hx hb dX10_law_123 hl (by decide) rfl (fun ls hl => ?_)
              have hL125 : ∀ (n : Nat) (x11 : Int32) (x12 : Int32) (x13 : Int32) (x14 : Int32) (ls : Array Slot), lv_has ls 8 [(7, .int x11), (6, .int x12), (5, .int x13), (4, .int x14), (0, .ref o_h), (1, .int p1), (2, .int p2)] → L_X10_law_125 N o_s o_size o_element p1 p2 n x11 x12 x13 x14 = some res → W p l e ({ frames := 6, cells := 0, slots := 0, locals := 132 }) s m [.ref o_h, .int p1, .int p2].toArray below meth c s.heap [] 0 0 (MQ below (RdQ (some (.int res))) [.ref o_h, .int p1, .int p2].toArray s 0 0 (fun _ => False)) (F0 m 125 ls []) := by
                intro n
                induction n with
                | zero => intro x11 x12 x13 x14 ls hl hv; cases hv
                | succ n125 ih125 =>
                  intro x11 x12 x13 x14 ls hl hv
                  rw [L_X10_law_125] at hv
                  refine lv_iload hx hb dX10_law_125 (lv_at hl 0 rfl) ?_
                  refine lv_bipush (v := (100 : Int32)) hx hb dX10_law_127 (by decide) ?_
                  refine lv_icmp_ge (tgt := 172) hx hb dX10_law_129 (by decide) (fun c15 => ?_) (fun c15 => ?_)
                  · have hv := if_y c15 hv
                    refine lv_iload_n hx hb dX10_law_172 rfl (lv_at hl 6 rfl) ?_
                    refine lv_if_ne (tgt := 181) hx hb dX10_law_173 (by decide) (fun c16 => ?_) (fun c16 => ?_)
                    · have hv := if_n c16 hv
                      refine lv_iload_n hx hb dX10_law_181 rfl (lv_at hl 6 rfl) ?_
                      refine lv_iconst (v := (1 : Int32)) hx hb dX10_law_182 (by decide) ?_
                      refine lv_icmp_ne (tgt := 191) hx hb dX10_law_183 (by decide) (fun c17 => ?_) (fun c17 => ?_)
                      · have hv := if_n c17 hv
                        refine lv_iload hx hb dX10_law_191 (lv_at hl 1 rfl) ?_
                        exact W.iret (v := x12) hx hb hr (fun t h9 _ => ⟨rv_i hv, h9⟩) (fun q h => absurd h List.not_mem_nil) dX10_law_193 hlk
                      · have hv := if_y c17 hv
                        refine lv_iload hx hb dX10_law_186 (lv_at hl 2 rfl) ?_
                        refine lv_goto (tgt := 193) hx hb dX10_law_188 (by decide) ?_
                        exact W.iret (v := x13) hx hb hr (fun t h9 _ => ⟨rv_i hv, h9⟩) (fun q h => absurd h List.not_mem_nil) dX10_law_193 hlk
                    · have hv := if_y c16 hv
                      refine lv_iload hx hb dX10_law_176 (lv_at hl 3 rfl) ?_
                      refine lv_goto (tgt := 193) hx hb dX10_law_178 (by decide) ?_
                      exact W.iret (v := x14) hx hb hr (fun t h9 _ => ⟨rv_i hv, h9⟩) (fun q h => absurd h List.not_mem_nil) dX10_law_193 hlk
                  · have hv := if_n c15 hv
                    refine lv_aload_n hx hb dX10_law_132 rfl (lv_at hl 4 rfl) ?_
                    refine lv_iload_n hx hb dX10_law_133 rfl (lv_at hl 5 rfl) ?_
                    refine lv_iload hx hb dX10_law_134 (lv_at hl 0 rfl) ?_
                    obtain ⟨r18, h19, hv⟩ := ob_s hv
                    refine rdV 4 0 (As := [.int p1, .int x11]) (rest := []) (st1 := [.int r18]) (w := [oMo o_h o_a0 o_a1 o_a2 o_a3 o_hasImage o_place o_rowAt o_rowEnd o_a8 o_a9 o_seed o_a11 o_a12 o_a13 o_a14 o_a15 o_a16 o_thrown, ai E o_a0 42 o_s, ai E o_a1 42 o_m, ai E o_a2 42 o_image, ai E o_a3 42 o_was, ai E o_a8 3 o_numbers, ai E o_a9 8192 o_most, ai E o_a11 8 o_kept, ai E o_a12 8 o_keptKind, ai E o_a13 8 o_keptFigure, ai E o_a14 8 o_sort, ai E o_a15 8 o_size, ai E o_a16 800 o_element]) hC q_X10_isLawBy kw_6_5 (c_X10_isLawBy l E o_h o_a0 o_a1 o_a2 o_a3 o_a8 o_a9 o_a11 o_a12 o_a13 o_a14 o_a15 o_a16 o_s o_m o_image o_was o_hasImage o_place o_rowAt o_rowEnd o_numbers o_most o_seed o_kept o_keptKind o_keptFigure o_sort o_size o_element o_thrown p1 x11 N r18 h19) ⟨rfl, rfl⟩ ⟨Nat.le_of_ble_eq_true rfl, Nat.le_of_ble_eq_true rfl⟩ ⟨Nat.zero_le _, Nat.zero_le _⟩ hP rfl rfl rfl hG rfl hl.1 rfl (Nat.le_of_ble_eq_true rfl) dX10_law_136 rfl ?_
                    refine lv_if_ne (tgt := 145) hx hb dX10_law_139 (by decide) (fun c20 => ?_) (fun c20 => ?_)
                    · have hv := if_n c20 hv
                      refine lv_iload hx hb dX10_law_145 (lv_at hl 3 rfl) ?_
                      refine lv_if_ne (tgt := 155) hx hb dX10_law_147 (by decide) (fun c21 => ?_) (fun c21 => ?_)
                      · have hv := if_n c21 hv
                        refine lv_iload hx hb dX10_law_155 (lv_at hl 2 rfl) ?_
                        refine lv_istore (lv' := [(5, .int x13), (7, .int x11), (6, .int x12), (4, .int x14), (0, .ref o_h), (1, .int p1), (2, .int p2)]) hx hb dX10_law_157 hl (by decide) rfl (fun ls hl => ?_)
                        refine lv_iload hx hb dX10_law_159 (lv_at hl 1 rfl) ?_
                        refine lv_istore (lv' := [(6, .int x11), (5, .int x13), (7, .int x11), (4, .int x14), (0, .ref o_h), (1, .int p1), (2, .int p2)]) hx hb dX10_law_161 hl (by decide) rfl (fun ls hl => ?_)
                        refine lv_iinc (v := (x14 + (1 : Int32))) (lv' := [(4, .int (x14 + (1 : Int32))), (6, .int x11), (5, .int x13), (7, .int x11), (0, .ref o_h), (1, .int p1), (2, .int p2)]) hx hb dX10_law_163 hl (k := 3) rfl rfl (by decide) rfl (fun ls hl => ?_)
                        refine lv_iinc (v := (x11 + (1 : Int32))) (lv' := [(7, .int (x11 + (1 : Int32))), (4, .int (x14 + (1 : Int32))), (6, .int x11), (5, .int x13), (0, .ref o_h), (1, .int p1), (2, .int p2)]) hx hb dX10_law_166 hl (k := 3) rfl rfl (by decide) rfl (fun ls hl => ?_)
                        refine lv_goto (tgt := 125) hx hb dX10_law_169 (by decide) ?_
                        exact ih125 (x11 + (1 : Int32)) x11 x13 (x14 + (1 : Int32)) _ (lv_sub hl [0, 2, 3, 1, 4, 5, 6] rfl) hv
                      · have hv := if_y c21 hv
                        refine lv_iload hx hb dX10_law_150 (lv_at hl 0 rfl) ?_
                        refine lv_goto (tgt := 157) hx hb dX10_law_152 (by decide) ?_
                        refine lv_istore (lv' := [(5, .int x11), (7, .int x11), (6, .int x12), (4, .int x14), (0, .ref o_h), (1, .int p1), (2, .int p2)]) hx hb dX10_law_157 hl (by decide) rfl (fun ls hl => ?_)
                        refine lv_iload hx hb dX10_law_159 (lv_at hl 1 rfl) ?_
                        refine lv_istore (lv' := [(6, .int x11), (5, .int x11), (7, .int x11), (4, .int x14), (0, .ref o_h), (1, .int p1), (2, .int p2)]) hx hb dX10_law_161 hl (by decide) rfl (fun ls hl => ?_)
                        refine lv_iinc (v := (x14 + (1 : Int32))) (lv' := [(4, .int (x14 + (1 : Int32))), (6, .int x11), (5, .int x11), (7, .int x11), (0, .ref o_h), (1, .int p1), (2, .int p2)]) hx hb dX10_law_163 hl (k := 3) rfl rfl (by decide) rfl (fun ls hl => ?_)
                        refine lv_iinc (v := (x11 + (1 : Int32))) (lv' := [(7, .int (x11 + (1 : Int32))), (4, .int (x14 + (1 : Int32))), (6, .int x11), (5, .int x11), (0, .ref o_h), (1, .int p1), (2, .int p2)]) hx hb dX10_law_166 hl (k := 3) rfl rfl (by decide) rfl (fun ls hl => ?_)
                        refine lv_goto (tgt := 125) hx hb dX10_law_169 (by decide) ?_
                        exact ih125 (x11 + (1 : Int32)) x11 x11 (x14 + (1 : Int32)) _ (lv_sub hl [0, 2, 3, 1, 4, 5, 6] rfl) hv
                    · have hv := if_y c20 hv
                      refine lv_goto (tgt := 166) hx hb dX10_law_142 (by decide) ?_
                      refine lv_iinc (v := (x11 + (1 : Int32))) (lv' := [(7, .int (x11 + (1 : Int32))), (6, .int x12), (5, .int x13), (4, .int x14), (0, .ref o_h), (1, .int p1), (2, .int p2)]) hx hb dX10_law_166 hl (k := 0) rfl rfl (by decide) rfl (fun ls hl => ?_)
                      refine lv_goto (tgt := 125) hx hb dX10_law_169 (by decide) ?_
                      exact ih125 (x11 + (1 : Int32)) x12 x13 x14 _ (lv_sub hl [0, 1, 2, 3, 4, 5, 6] rfl) hv
              exact hL125 N (1 : Int32) (-4 : Int32) (-4 : Int32) (0 : Int32) _ (lv_sub hl [0, 1, 2, 3, 5, 6, 7] rfl) hv
            · have hv := if_n c10 hv
              refine lv_iload_n hx hb dX10_law_109 rfl (lv_at hl 1 rfl) ?_
              exact W.iret (v := x8) hx hb hr (fun t h9 _ => ⟨rv_i hv, h9⟩) (fun q h => absurd h List.not_mem_nil) dX10_law_110 hlk
          · have hv := if_y c9 hv
            refine lv_iload hx hb dX10_law_44 (lv_at hl 0 rfl) ?_
            refine lv_aload_n hx hb dX10_law_46 rfl (lv_at hl 2 rfl) ?_
            refine va_get (D := E.1) (ci := 4) (v := .ref o_a15) (C := RX10) (T := TX10) (N := 18) hx hb ht i_X10 hown hK hP 0 rfl rfl 15 (by decide) (ht _ kw_4_149) (fun _ h9 => h9) rfl dX10_law_47 ?_
            refine lv_iload_n hx hb dX10_law_50 rfl (lv_at hl 3 rfl) ?_
            obtain ⟨g22, hv⟩ := gd_s hv
            refine va_iald hx hb hK hP 11 0 rfl rfl (ix_s g22) dX10_law_51 ?_
            refine lv_icmp_ge (tgt := 105) hx hb dX10_law_52 (by decide) (fun c23 => ?_) (fun c23 => ?_)
            · have hv := if_y c23 hv
              refine lv_iload_n hx hb dX10_law_105 rfl (lv_at hl 1 rfl) ?_
              refine lv_if_eq (tgt := 111) hx hb dX10_law_106 (by decide) (fun c24 => ?_) (fun c24 => ?_)
              · have hv := if_y c24 hv
                refine lv_iconst (v := (0 : Int32)) hx hb dX10_law_111 (by decide) ?_
                refine lv_istore (lv' := [(4, .int (0 : Int32)), (3, .int x8), (0, .ref o_h), (1, .int p1), (2, .int p2)]) hx hb dX10_law_112 hl (by decide) rfl (fun ls hl => ?_)
                refine lv_bipush (v := (-4 : Int32)) hx hb dX10_law_114 (by decide) ?_
                refine lv_istore (lv' := [(5, .int (-4 : Int32)), (4, .int (0 : Int32)), (3, .int x8), (0, .ref o_h), (1, .int p1), (2, .int p2)]) hx hb dX10_law_116 hl (by decide) rfl (fun ls hl => ?_)
                refine lv_bipush (v := (-4 : Int32)) hx hb dX10_law_118 (by decide) ?_
                refine lv_istore (lv' := [(6, .int (-4 : Int32)), (5, .int (-4 : Int32)), (4, .int (0 : Int32)), (3, .int x8), (0, .ref o_h), (1, .int p1), (2, .int p2)]) hx hb dX10_law_120 hl (by decide) rfl (fun ls hl => ?_)
                refine lv_iconst (v := (1 : Int32)) hx hb dX10_law_122 (by decide) ?_
                refine lv_istore (lv' := [(7, .int (1 : Int32)), (6, .int (-4 : Int32)), (5, .int (-4 : Int32)), (4, .int (0 : Int32)), (3, .int x8), (0, .ref o_h), (1, .int p1), (2, .int p2)]) hx hb dX10_law_123 hl (by decide) rfl (fun ls hl => ?_)
                have hL125 : ∀ (n : Nat) (x25 : Int32) (x26 : Int32) (x27 : Int32) (x28 : Int32) (ls : Array Slot), lv_has ls 8 [(7, .int x25), (6, .int x26), (5, .int x27), (4, .int x28), (0, .ref o_h), (1, .int p1), (2, .int p2)] → L_X10_law_125 N o_s o_size o_element p1 p2 n x25 x26 x27 x28 = some res → W p l e ({ frames := 6, cells := 0, slots := 0, locals := 132 }) s m [.ref o_h, .int p1, .int p2].toArray below meth c s.heap [] 0 0 (MQ below (RdQ (some (.int res))) [.ref o_h, .int p1, .int p2].toArray s 0 0 (fun _ => False)) (F0 m 125 ls []) := by
                  intro n
                  induction n with
                  | zero => intro x25 x26 x27 x28 ls hl hv; cases hv
                  | succ n125 ih125 =>
                    intro x25 x26 x27 x28 ls hl hv
                    rw [L_X10_law_125] at hv
                    refine lv_iload hx hb dX10_law_125 (lv_at hl 0 rfl) ?_
                    refine lv_bipush (v := (100 : Int32)) hx hb dX10_law_127 (by decide) ?_
                    refine lv_icmp_ge (tgt := 172) hx hb dX10_law_129 (by decide) (fun c29 => ?_) (fun c29 => ?_)
                    · have hv := if_y c29 hv
                      refine lv_iload_n hx hb dX10_law_172 rfl (lv_at hl 6 rfl) ?_
                      refine lv_if_ne (tgt := 181) hx hb dX10_law_173 (by decide) (fun c30 => ?_) (fun c30 => ?_)
                      · have hv := if_n c30 hv
                        refine lv_iload_n hx hb dX10_law_181 rfl (lv_at hl 6 rfl) ?_
                        refine lv_iconst (v := (1 : Int32)) hx hb dX10_law_182 (by decide) ?_
                        refine lv_icmp_ne (tgt := 191) hx hb dX10_law_183 (by decide) (fun c31 => ?_) (fun c31 => ?_)
                        · have hv := if_n c31 hv
                          refine lv_iload hx hb dX10_law_191 (lv_at hl 1 rfl) ?_
                          exact W.iret (v := x26) hx hb hr (fun t h9 _ => ⟨rv_i hv, h9⟩) (fun q h => absurd h List.not_mem_nil) dX10_law_193 hlk
                        · have hv := if_y c31 hv
                          refine lv_iload hx hb dX10_law_186 (lv_at hl 2 rfl) ?_
                          refine lv_goto (tgt := 193) hx hb dX10_law_188 (by decide) ?_
                          exact W.iret (v := x27) hx hb hr (fun t h9 _ => ⟨rv_i hv, h9⟩) (fun q h => absurd h List.not_mem_nil) dX10_law_193 hlk
                      · have hv := if_y c30 hv
                        refine lv_iload hx hb dX10_law_176 (lv_at hl 3 rfl) ?_
                        refine lv_goto (tgt := 193) hx hb dX10_law_178 (by decide) ?_
                        exact W.iret (v := x28) hx hb hr (fun t h9 _ => ⟨rv_i hv, h9⟩) (fun q h => absurd h List.not_mem_nil) dX10_law_193 hlk
                    · have hv := if_n c29 hv
                      refine lv_aload_n hx hb dX10_law_132 rfl (lv_at hl 4 rfl) ?_
                      refine lv_iload_n hx hb dX10_law_133 rfl (lv_at hl 5 rfl) ?_
                      refine lv_iload hx hb dX10_law_134 (lv_at hl 0 rfl) ?_
                      obtain ⟨r32, h33, hv⟩ := ob_s hv
                      refine rdV 4 0 (As := [.int p1, .int x25]) (rest := []) (st1 := [.int r32]) (w := [oMo o_h o_a0 o_a1 o_a2 o_a3 o_hasImage o_place o_rowAt o_rowEnd o_a8 o_a9 o_seed o_a11 o_a12 o_a13 o_a14 o_a15 o_a16 o_thrown, ai E o_a0 42 o_s, ai E o_a1 42 o_m, ai E o_a2 42 o_image, ai E o_a3 42 o_was, ai E o_a8 3 o_numbers, ai E o_a9 8192 o_most, ai E o_a11 8 o_kept, ai E o_a12 8 o_keptKind, ai E o_a13 8 o_keptFigure, ai E o_a14 8 o_sort, ai E o_a15 8 o_size, ai E o_a16 800 o_element]) hC q_X10_isLawBy kw_6_5 (c_X10_isLawBy l E o_h o_a0 o_a1 o_a2 o_a3 o_a8 o_a9 o_a11 o_a12 o_a13 o_a14 o_a15 o_a16 o_s o_m o_image o_was o_hasImage o_place o_rowAt o_rowEnd o_numbers o_most o_seed o_kept o_keptKind o_keptFigure o_sort o_size o_element o_thrown p1 x25 N r32 h33) ⟨rfl, rfl⟩ ⟨Nat.le_of_ble_eq_true rfl, Nat.le_of_ble_eq_true rfl⟩ ⟨Nat.zero_le _, Nat.zero_le _⟩ hP rfl rfl rfl hG rfl hl.1 rfl (Nat.le_of_ble_eq_true rfl) dX10_law_136 rfl ?_
                      refine lv_if_ne (tgt := 145) hx hb dX10_law_139 (by decide) (fun c34 => ?_) (fun c34 => ?_)
                      · have hv := if_n c34 hv
                        refine lv_iload hx hb dX10_law_145 (lv_at hl 3 rfl) ?_
                        refine lv_if_ne (tgt := 155) hx hb dX10_law_147 (by decide) (fun c35 => ?_) (fun c35 => ?_)
                        · have hv := if_n c35 hv
                          refine lv_iload hx hb dX10_law_155 (lv_at hl 2 rfl) ?_
                          refine lv_istore (lv' := [(5, .int x27), (7, .int x25), (6, .int x26), (4, .int x28), (0, .ref o_h), (1, .int p1), (2, .int p2)]) hx hb dX10_law_157 hl (by decide) rfl (fun ls hl => ?_)
                          refine lv_iload hx hb dX10_law_159 (lv_at hl 1 rfl) ?_
                          refine lv_istore (lv' := [(6, .int x25), (5, .int x27), (7, .int x25), (4, .int x28), (0, .ref o_h), (1, .int p1), (2, .int p2)]) hx hb dX10_law_161 hl (by decide) rfl (fun ls hl => ?_)
                          refine lv_iinc (v := (x28 + (1 : Int32))) (lv' := [(4, .int (x28 + (1 : Int32))), (6, .int x25), (5, .int x27), (7, .int x25), (0, .ref o_h), (1, .int p1), (2, .int p2)]) hx hb dX10_law_163 hl (k := 3) rfl rfl (by decide) rfl (fun ls hl => ?_)
                          refine lv_iinc (v := (x25 + (1 : Int32))) (lv' := [(7, .int (x25 + (1 : Int32))), (4, .int (x28 + (1 : Int32))), (6, .int x25), (5, .int x27), (0, .ref o_h), (1, .int p1), (2, .int p2)]) hx hb dX10_law_166 hl (k := 3) rfl rfl (by decide) rfl (fun ls hl => ?_)
                          refine lv_goto (tgt := 125) hx hb dX10_law_169 (by decide) ?_
                          exact ih125 (x25 + (1 : Int32)) x25 x27 (x28 + (1 : Int32)) _ (lv_sub hl [0, 2, 3, 1, 4, 5, 6] rfl) hv
                        · have hv := if_y c35 hv
                          refine lv_iload hx hb dX10_law_150 (lv_at hl 0 rfl) ?_
                          refine lv_goto (tgt := 157) hx hb dX10_law_152 (by decide) ?_
                          refine lv_istore (lv' := [(5, .int x25), (7, .int x25), (6, .int x26), (4, .int x28), (0, .ref o_h), (1, .int p1), (2, .int p2)]) hx hb dX10_law_157 hl (by decide) rfl (fun ls hl => ?_)
                          refine lv_iload hx hb dX10_law_159 (lv_at hl 1 rfl) ?_
                          refine lv_istore (lv' := [(6, .int x25), (5, .int x25), (7, .int x25), (4, .int x28), (0, .ref o_h), (1, .int p1), (2, .int p2)]) hx hb dX10_law_161 hl (by decide) rfl (fun ls hl => ?_)
                          refine lv_iinc (v := (x28 + (1 : Int32))) (lv' := [(4, .int (x28 + (1 : Int32))), (6, .int x25), (5, .int x25), (7, .int x25), (0, .ref o_h), (1, .int p1), (2, .int p2)]) hx hb dX10_law_163 hl (k := 3) rfl rfl (by decide) rfl (fun ls hl => ?_)
                          refine lv_iinc (v := (x25 + (1 : Int32))) (lv' := [(7, .int (x25 + (1 : Int32))), (4, .int (x28 + (1 : Int32))), (6, .int x25), (5, .int x25), (0, .ref o_h), (1, .int p1), (2, .int p2)]) hx hb dX10_law_166 hl (k := 3) rfl rfl (by decide) rfl (fun ls hl => ?_)
                          refine lv_goto (tgt := 125) hx hb dX10_law_169 (by decide) ?_
                          exact ih125 (x25 + (1 : Int32)) x25 x25 (x28 + (1 : Int32)) _ (lv_sub hl [0, 2, 3, 1, 4, 5, 6] rfl) hv
                      · have hv := if_y c34 hv
                        refine lv_goto (tgt := 166) hx hb dX10_law_142 (by decide) ?_
                        refine lv_iinc (v := (x25 + (1 : Int32))) (lv' := [(7, .int (x25 + (1 : Int32))), (6, .int x26), (5, .int x27), (4, .int x28), (0, .ref o_h), (1, .int p1), (2, .int p2)]) hx hb dX10_law_166 hl (k := 0) rfl rfl (by decide) rfl (fun ls hl => ?_)
                        refine lv_goto (tgt := 125) hx hb dX10_law_169 (by decide) ?_
                        exact ih125 (x25 + (1 : Int32)) x26 x27 x28 _ (lv_sub hl [0, 1, 2, 3, 4, 5, 6] rfl) hv
                exact hL125 N (1 : Int32) (-4 : Int32) (-4 : Int32) (0 : Int32) _ (lv_sub hl [0, 1, 2, 3, 5, 6, 7] rfl) hv
              · have hv := if_n c24 hv
                refine lv_iload_n hx hb dX10_law_109 rfl (lv_at hl 1 rfl) ?_
                exact W.iret (v := x8) hx hb hr (fun t h9 _ => ⟨rv_i hv, h9⟩) (fun q h => absurd h List.not_mem_nil) dX10_law_110 hlk
            · have hv := if_n c23 hv
              refine lv_aload_n hx hb dX10_law_55 rfl (lv_at hl 2 rfl) ?_
              refine lv_aload_n hx hb dX10_law_56 rfl (lv_at hl 2 rfl) ?_
              refine va_get (D := E.1) (ci := 4) (v := .ref o_a16) (C := RX10) (T := TX10) (N := 18) hx hb ht i_X10 hown hK hP 0 rfl rfl 16 (by decide) (ht _ kw_4_150) (fun _ h9 => h9) rfl dX10_law_57 ?_
              refine lv_bipush (v := (100 : Int32)) hx hb dX10_law_60 (by decide) ?_
              refine lv_iload_n hx hb dX10_law_62 rfl (lv_at hl 3 rfl) ?_
              refine lv_imul hx hb dX10_law_63 ?_
              refine lv_iload hx hb dX10_law_64 (lv_at hl 0 rfl) ?_
              refine lv_iadd hx hb dX10_law_66 ?_
              obtain ⟨g36, hv⟩ := gd_s hv
              refine va_iald hx hb hK hP 12 0 rfl rfl (ix_s g36) dX10_law_67 ?_
              obtain ⟨r37, h38, hv⟩ := ob_s hv
              refine rdV 4 0 (As := [.int (o_element (((100 : Int32) * p1) + x7).toNatClampNeg)]) (rest := []) (st1 := [.int r37]) (w := [oMo o_h o_a0 o_a1 o_a2 o_a3 o_hasImage o_place o_rowAt o_rowEnd o_a8 o_a9 o_seed o_a11 o_a12 o_a13 o_a14 o_a15 o_a16 o_thrown, ai E o_a0 42 o_s, ai E o_a1 42 o_m, ai E o_a2 42 o_image, ai E o_a3 42 o_was, ai E o_a8 3 o_numbers, ai E o_a9 8192 o_most, ai E o_a11 8 o_kept, ai E o_a12 8 o_keptKind, ai E o_a13 8 o_keptFigure, ai E o_a14 8 o_sort, ai E o_a15 8 o_size, ai E o_a16 800 o_element]) hC q_X10_isGroup kw_5_136 (c_X10_isGroup l E o_h o_a0 o_a1 o_a2 o_a3 o_a8 o_a9 o_a11 o_a12 o_a13 o_a14 o_a15 o_a16 o_s o_m o_image o_was o_hasImage o_place o_rowAt o_rowEnd o_numbers o_most o_seed o_kept o_keptKind o_keptFigure o_sort o_size o_element o_thrown (o_element (((100 : Int32) * p1) + x7).toNatClampNeg) r37 h38) ⟨rfl, rfl⟩ ⟨Nat.le_of_ble_eq_true rfl, Nat.le_of_ble_eq_true rfl⟩ ⟨Nat.zero_le _, Nat.zero_le _⟩ hP rfl rfl rfl hG rfl hl.1 rfl (Nat.le_of_ble_eq_true rfl) dX10_law_68 rfl ?_
              refine lv_if_eq (tgt := 96) hx hb dX10_law_71 (by decide) (fun c39 => ?_) (fun c39 => ?_)
              · have hv := if_y c39 hv
                refine lv_bipush (v := (-13 : Int32)) hx hb dX10_law_96 (by decide) ?_
                refine lv_istore_n (lv' := [(3, .int (-13 : Int32)), (4, .int x7), (0, .ref o_h), (1, .int p1), (2, .int p2)]) hx hb dX10_law_98 rfl hl (by decide) rfl (fun ls hl => ?_)
                refine lv_iinc (v := (x7 + (2 : Int32))) (lv' := [(4, .int (x7 + (2 : Int32))), (3, .int (-13 : Int32)), (0, .ref o_h), (1, .int p1), (2, .int p2)]) hx hb dX10_law_99 hl (k := 1) rfl rfl (by decide) rfl (fun ls hl => ?_)
                refine lv_goto (tgt := 40) hx hb dX10_law_102 (by decide) ?_
                exact ih40 (x7 + (2 : Int32)) (-13 : Int32) _ (lv_sub hl [0, 1, 2, 3, 4] rfl) hv
              · have hv := if_n c39 hv
                refine lv_aload_n hx hb dX10_law_74 rfl (lv_at hl 2 rfl) ?_
                refine va_get (D := E.1) (ci := 4) (v := .ref o_a16) (C := RX10) (T := TX10) (N := 18) hx hb ht i_X10 hown hK hP 0 rfl rfl 16 (by decide) (ht _ kw_4_150) (fun _ h9 => h9) rfl dX10_law_75 ?_
                refine lv_bipush (v := (100 : Int32)) hx hb dX10_law_78 (by decide) ?_
                refine lv_iload_n hx hb dX10_law_80 rfl (lv_at hl 3 rfl) ?_
                refine lv_imul hx hb dX10_law_81 ?_
                refine lv_iload hx hb dX10_law_82 (lv_at hl 0 rfl) ?_
                refine lv_iadd hx hb dX10_law_84 ?_
                refine lv_iconst (v := (1 : Int32)) hx hb dX10_law_85 (by decide) ?_
                refine lv_iadd hx hb dX10_law_86 ?_
                obtain ⟨g40, hv⟩ := gd_s hv
                refine va_iald hx hb hK hP 12 0 rfl rfl (ix_s g40) dX10_law_87 ?_
                refine lv_iconst (v := (0 : Int32)) hx hb dX10_law_88 (by decide) ?_
                refine lv_iconst (v := (1 : Int32)) hx hb dX10_law_89 (by decide) ?_
                obtain ⟨r41, h42, hv⟩ := ob_s hv
                refine rdS (rest := []) (st1 := [.int r41]) (w := []) hC q_X10_isIn kw_4_200 (c_X10_isIn l E (o_element ((((100 : Int32) * p1) + x7) + (1 : Int32)).toNatClampNeg) (0 : Int32) (1 : Int32) r41 h42) ⟨rfl, rfl⟩ ⟨Nat.le_of_ble_eq_true rfl, Nat.le_of_ble_eq_true rfl⟩ ⟨Nat.zero_le _, Nat.zero_le _⟩ (hP.sub (ws' := []) [] rfl) hG rfl hl.1 rfl (Nat.le_of_ble_eq_true rfl) dX10_law_90 rfl ?_
                refine lv_if_ne (tgt := 99) hx hb dX10_law_93 (by decide) (fun c43 => ?_) (fun c43 => ?_)
                · have hv := if_n c43 hv
                  refine lv_iinc (v := (x7 + (2 : Int32))) (lv' := [(4, .int (x7 + (2 : Int32))), (3, .int x8), (0, .ref o_h), (1, .int p1), (2, .int p2)]) hx hb dX10_law_99 hl (k := 0) rfl rfl (by decide) rfl (fun ls hl => ?_)
                  refine lv_goto (tgt := 40) hx hb dX10_law_102 (by decide) ?_
                  exact ih40 (x7 + (2 : Int32)) x8 _ (lv_sub hl [0, 1, 2, 3, 4] rfl) hv
                · have hv := if_y c43 hv
                  refine lv_bipush (v := (-13 : Int32)) hx hb dX10_law_96 (by decide) ?_
                  refine lv_istore_n (lv' := [(3, .int (-13 : Int32)), (4, .int x7), (0, .ref o_h), (1, .int p1), (2, .int p2)]) hx hb dX10_law_98 rfl hl (by decide) rfl (fun ls hl => ?_)
                  refine lv_iinc (v := (x7 + (2 : Int32))) (lv' := [(4, .int (x7 + (2 : Int32))), (3, .int (-13 : Int32)), (0, .ref o_h), (1, .int p1), (2, .int p2)]) hx hb dX10_law_99 hl (k := 1) rfl rfl (by decide) rfl (fun ls hl => ?_)
                  refine lv_goto (tgt := 40) hx hb dX10_law_102 (by decide) ?_
                  exact ih40 (x7 + (2 : Int32)) (-13 : Int32) _ (lv_sub hl [0, 1, 2, 3, 4] rfl) hv
      exact hL40 N (0 : Int32) r4 _ (lv_sub hl [0, 1, 2, 3, 4] rfl) hv
    · have hv := if_y c6 hv
      refine lv_aload_n hx hb dX10_law_22 rfl (lv_at hl 1 rfl) ?_
      refine va_get (D := E.1) (ci := 4) (v := .ref o_a15) (C := RX10) (T := TX10) (N := 18) hx hb ht i_X10 hown hK hP 0 rfl rfl 15 (by decide) (ht _ kw_4_149) (fun _ h9 => h9) rfl dX10_law_23 ?_
      refine lv_iload_n hx hb dX10_law_26 rfl (lv_at hl 2 rfl) ?_
      obtain ⟨g44, hv⟩ := gd_s hv
      refine va_iald hx hb hK hP 11 0 rfl rfl (ix_s g44) dX10_law_27 ?_
      refine lv_iconst (v := (2 : Int32)) hx hb dX10_law_28 (by decide) ?_
      refine lv_irem hx hb dX10_law_29 (by decide) ?_
      refine lv_iconst (v := (1 : Int32)) hx hb dX10_law_30 (by decide) ?_
      refine lv_icmp_ne (tgt := 37) hx hb dX10_law_31 (by decide) (fun c45 => ?_) (fun c45 => ?_)
      · have hv := if_n c45 hv
        refine lv_iconst (v := (0 : Int32)) hx hb dX10_law_37 (by decide) ?_
        refine lv_istore (lv' := [(4, .int (0 : Int32)), (3, .int r4), (0, .ref o_h), (1, .int p1), (2, .int p2)]) hx hb dX10_law_38 hl (by decide) rfl (fun ls hl => ?_)
        have hL40 : ∀ (n : Nat) (x46 : Int32) (x47 : Int32) (ls : Array Slot), lv_has ls 8 [(4, .int x46), (3, .int x47), (0, .ref o_h), (1, .int p1), (2, .int p2)] → L_X10_law_40 N o_s o_size o_element p1 p2 n x46 x47 = some res → W p l e ({ frames := 6, cells := 0, slots := 0, locals := 132 }) s m [.ref o_h, .int p1, .int p2].toArray below meth c s.heap [] 0 0 (MQ below (RdQ (some (.int res))) [.ref o_h, .int p1, .int p2].toArray s 0 0 (fun _ => False)) (F0 m 40 ls []) := by
          intro n
          induction n with
          | zero => intro x46 x47 ls hl hv; cases hv
          | succ n40 ih40 =>
            intro x46 x47 ls hl hv
            rw [L_X10_law_40] at hv
            refine lv_iload_n hx hb dX10_law_40 rfl (lv_at hl 1 rfl) ?_
            refine lv_if_ne (tgt := 105) hx hb dX10_law_41 (by decide) (fun c48 => ?_) (fun c48 => ?_)
            · have hv := if_n c48 hv
              refine lv_iload_n hx hb dX10_law_105 rfl (lv_at hl 1 rfl) ?_
              refine lv_if_eq (tgt := 111) hx hb dX10_law_106 (by decide) (fun c49 => ?_) (fun c49 => ?_)
              · have hv := if_y c49 hv
                refine lv_iconst (v := (0 : Int32)) hx hb dX10_law_111 (by decide) ?_
                refine lv_istore (lv' := [(4, .int (0 : Int32)), (3, .int x47), (0, .ref o_h), (1, .int p1), (2, .int p2)]) hx hb dX10_law_112 hl (by decide) rfl (fun ls hl => ?_)
                refine lv_bipush (v := (-4 : Int32)) hx hb dX10_law_114 (by decide) ?_
                refine lv_istore (lv' := [(5, .int (-4 : Int32)), (4, .int (0 : Int32)), (3, .int x47), (0, .ref o_h), (1, .int p1), (2, .int p2)]) hx hb dX10_law_116 hl (by decide) rfl (fun ls hl => ?_)
                refine lv_bipush (v := (-4 : Int32)) hx hb dX10_law_118 (by decide) ?_
                refine lv_istore (lv' := [(6, .int (-4 : Int32)), (5, .int (-4 : Int32)), (4, .int (0 : Int32)), (3, .int x47), (0, .ref o_h), (1, .int p1), (2, .int p2)]) hx hb dX10_law_120 hl (by decide) rfl (fun ls hl => ?_)
                refine lv_iconst (v := (1 : Int32)) hx hb dX10_law_122 (by decide) ?_
                refine lv_istore (lv' := [(7, .int (1 : Int32)), (6, .int (-4 : Int32)), (5, .int (-4 : Int32)), (4, .int (0 : Int32)), (3, .int x47), (0, .ref o_h), (1, .int p1), (2, .int p2)]) hx hb dX10_law_123 hl (by decide) rfl (fun ls hl => ?_)
                have hL125 : ∀ (n : Nat) (x50 : Int32) (x51 : Int32) (x52 : Int32) (x53 : Int32) (ls : Array Slot), lv_has ls 8 [(7, .int x50), (6, .int x51), (5, .int x52), (4, .int x53), (0, .ref o_h), (1, .int p1), (2, .int p2)] → L_X10_law_125 N o_s o_size o_element p1 p2 n x50 x51 x52 x53 = some res → W p l e ({ frames := 6, cells := 0, slots := 0, locals := 132 }) s m [.ref o_h, .int p1, .int p2].toArray below meth c s.heap [] 0 0 (MQ below (RdQ (some (.int res))) [.ref o_h, .int p1, .int p2].toArray s 0 0 (fun _ => False)) (F0 m 125 ls []) := by
                  intro n
                  induction n with
                  | zero => intro x50 x51 x52 x53 ls hl hv; cases hv
                  | succ n125 ih125 =>
                    intro x50 x51 x52 x53 ls hl hv
                    rw [L_X10_law_125] at hv
                    refine lv_iload hx hb dX10_law_125 (lv_at hl 0 rfl) ?_
                    refine lv_bipush (v := (100 : Int32)) hx hb dX10_law_127 (by decide) ?_
                    refine lv_icmp_ge (tgt := 172) hx hb dX10_law_129 (by decide) (fun c54 => ?_) (fun c54 => ?_)
                    · have hv := if_y c54 hv
                      refine lv_iload_n hx hb dX10_law_172 rfl (lv_at hl 6 rfl) ?_
                      refine lv_if_ne (tgt := 181) hx hb dX10_law_173 (by decide) (fun c55 => ?_) (fun c55 => ?_)
                      · have hv := if_n c55 hv
                        refine lv_iload_n hx hb dX10_law_181 rfl (lv_at hl 6 rfl) ?_
                        refine lv_iconst (v := (1 : Int32)) hx hb dX10_law_182 (by decide) ?_
                        refine lv_icmp_ne (tgt := 191) hx hb dX10_law_183 (by decide) (fun c56 => ?_) (fun c56 => ?_)
                        · have hv := if_n c56 hv
                          refine lv_iload hx hb dX10_law_191 (lv_at hl 1 rfl) ?_
                          exact W.iret (v := x51) hx hb hr (fun t h9 _ => ⟨rv_i hv, h9⟩) (fun q h => absurd h List.not_mem_nil) dX10_law_193 hlk
                        · have hv := if_y c56 hv
                          refine lv_iload hx hb dX10_law_186 (lv_at hl 2 rfl) ?_
                          refine lv_goto (tgt := 193) hx hb dX10_law_188 (by decide) ?_
                          exact W.iret (v := x52) hx hb hr (fun t h9 _ => ⟨rv_i hv, h9⟩) (fun q h => absurd h List.not_mem_nil) dX10_law_193 hlk
                      · have hv := if_y c55 hv
                        refine lv_iload hx hb dX10_law_176 (lv_at hl 3 rfl) ?_
                        refine lv_goto (tgt := 193) hx hb dX10_law_178 (by decide) ?_
                        exact W.iret (v := x53) hx hb hr (fun t h9 _ => ⟨rv_i hv, h9⟩) (fun q h => absurd h List.not_mem_nil) dX10_law_193 hlk
                    · have hv := if_n c54 hv
                      refine lv_aload_n hx hb dX10_law_132 rfl (lv_at hl 4 rfl) ?_
                      refine lv_iload_n hx hb dX10_law_133 rfl (lv_at hl 5 rfl) ?_
                      refine lv_iload hx hb dX10_law_134 (lv_at hl 0 rfl) ?_
                      obtain ⟨r57, h58, hv⟩ := ob_s hv
                      refine rdV 4 0 (As := [.int p1, .int x50]) (rest := []) (st1 := [.int r57]) (w := [oMo o_h o_a0 o_a1 o_a2 o_a3 o_hasImage o_place o_rowAt o_rowEnd o_a8 o_a9 o_seed o_a11 o_a12 o_a13 o_a14 o_a15 o_a16 o_thrown, ai E o_a0 42 o_s, ai E o_a1 42 o_m, ai E o_a2 42 o_image, ai E o_a3 42 o_was, ai E o_a8 3 o_numbers, ai E o_a9 8192 o_most, ai E o_a11 8 o_kept, ai E o_a12 8 o_keptKind, ai E o_a13 8 o_keptFigure, ai E o_a14 8 o_sort, ai E o_a15 8 o_size, ai E o_a16 800 o_element]) hC q_X10_isLawBy kw_6_5 (c_X10_isLawBy l E o_h o_a0 o_a1 o_a2 o_a3 o_a8 o_a9 o_a11 o_a12 o_a13 o_a14 o_a15 o_a16 o_s o_m o_image o_was o_hasImage o_place o_rowAt o_rowEnd o_numbers o_most o_seed o_kept o_keptKind o_keptFigure o_sort o_size o_element o_thrown p1 x50 N r57 h58) ⟨rfl, rfl⟩ ⟨Nat.le_of_ble_eq_true rfl, Nat.le_of_ble_eq_true rfl⟩ ⟨Nat.zero_le _, Nat.zero_le _⟩ hP rfl rfl rfl hG rfl hl.1 rfl (Nat.le_of_ble_eq_true rfl) dX10_law_136 rfl ?_
                      refine lv_if_ne (tgt := 145) hx hb dX10_law_139 (by decide) (fun c59 => ?_) (fun c59 => ?_)
                      · have hv := if_n c59 hv
                        refine lv_iload hx hb dX10_law_145 (lv_at hl 3 rfl) ?_
                        refine lv_if_ne (tgt := 155) hx hb dX10_law_147 (by decide) (fun c60 => ?_) (fun c60 => ?_)
                        · have hv := if_n c60 hv
                          refine lv_iload hx hb dX10_law_155 (lv_at hl 2 rfl) ?_
                          refine lv_istore (lv' := [(5, .int x52), (7, .int x50), (6, .int x51), (4, .int x53), (0, .ref o_h), (1, .int p1), (2, .int p2)]) hx hb dX10_law_157 hl (by decide) rfl (fun ls hl => ?_)
                          refine lv_iload hx hb dX10_law_159 (lv_at hl 1 rfl) ?_
                          refine lv_istore (lv' := [(6, .int x50), (5, .int x52), (7, .int x50), (4, .int x53), (0, .ref o_h), (1, .int p1), (2, .int p2)]) hx hb dX10_law_161 hl (by decide) rfl (fun ls hl => ?_)
                          refine lv_iinc (v := (x53 + (1 : Int32))) (lv' := [(4, .int (x53 + (1 : Int32))), (6, .int x50), (5, .int x52), (7, .int x50), (0, .ref o_h), (1, .int p1), (2, .int p2)]) hx hb dX10_law_163 hl (k := 3) rfl rfl (by decide) rfl (fun ls hl => ?_)
                          refine lv_iinc (v := (x50 + (1 : Int32))) (lv' := [(7, .int (x50 + (1 : Int32))), (4, .int (x53 + (1 : Int32))), (6, .int x50), (5, .int x52), (0, .ref o_h), (1, .int p1), (2, .int p2)]) hx hb dX10_law_166 hl (k := 3) rfl rfl (by decide) rfl (fun ls hl => ?_)
                          refine lv_goto (tgt := 125) hx hb dX10_law_169 (by decide) ?_
                          exact ih125 (x50 + (1 : Int32)) x50 x52 (x53 + (1 : Int32)) _ (lv_sub hl [0, 2, 3, 1, 4, 5, 6] rfl) hv
                        · have hv := if_y c60 hv
                          refine lv_iload hx hb dX10_law_150 (lv_at hl 0 rfl) ?_
                          refine lv_goto (tgt := 157) hx hb dX10_law_152 (by decide) ?_
                          refine lv_istore (lv' := [(5, .int x50), (7, .int x50), (6, .int x51), (4, .int x53), (0, .ref o_h), (1, .int p1), (2, .int p2)]) hx hb dX10_law_157 hl (by decide) rfl (fun ls hl => ?_)
                          refine lv_iload hx hb dX10_law_159 (lv_at hl 1 rfl) ?_
                          refine lv_istore (lv' := [(6, .int x50), (5, .int x50), (7, .int x50), (4, .int x53), (0, .ref o_h), (1, .int p1), (2, .int p2)]) hx hb dX10_law_161 hl (by decide) rfl (fun ls hl => ?_)
                          refine lv_iinc (v := (x53 + (1 : Int32))) (lv' := [(4, .int (x53 + (1 : Int32))), (6, .int x50), (5, .int x50), (7, .int x50), (0, .ref o_h), (1, .int p1), (2, .int p2)]) hx hb dX10_law_163 hl (k := 3) rfl rfl (by decide) rfl (fun ls hl => ?_)
                          refine lv_iinc (v := (x50 + (1 : Int32))) (lv' := [(7, .int (x50 + (1 : Int32))), (4, .int (x53 + (1 : Int32))), (6, .int x50), (5, .int x50), (0, .ref o_h), (1, .int p1), (2, .int p2)]) hx hb dX10_law_166 hl (k := 3) rfl rfl (by decide) rfl (fun ls hl => ?_)
                          refine lv_goto (tgt := 125) hx hb dX10_law_169 (by decide) ?_
                          exact ih125 (x50 + (1 : Int32)) x50 x50 (x53 + (1 : Int32)) _ (lv_sub hl [0, 2, 3, 1, 4, 5, 6] rfl) hv
                      · have hv := if_y c59 hv
                        refine lv_goto (tgt := 166) hx hb dX10_law_142 (by decide) ?_
                        refine lv_iinc (v := (x50 + (1 : Int32))) (lv' := [(7, .int (x50 + (1 : Int32))), (6, .int x51), (5, .int x52), (4, .int x53), (0, .ref o_h), (1, .int p1), (2, .int p2)]) hx hb dX10_law_166 hl (k := 0) rfl rfl (by decide) rfl (fun ls hl => ?_)
                        refine lv_goto (tgt := 125) hx hb dX10_law_169 (by decide) ?_
                        exact ih125 (x50 + (1 : Int32)) x51 x52 x53 _ (lv_sub hl [0, 1, 2, 3, 4, 5, 6] rfl) hv
                exact hL125 N (1 : Int32) (-4 : Int32) (-4 : Int32) (0 : Int32) _ (lv_sub hl [0, 1, 2, 3, 5, 6, 7] rfl) hv
              · have hv := if_n c49 hv
                refine lv_iload_n hx hb dX10_law_109 rfl (lv_at hl 1 rfl) ?_
                exact W.iret (v := x47) hx hb hr (fun t h9 _ => ⟨rv_i hv, h9⟩) (fun q h => absurd h List.not_mem_nil) dX10_law_110 hlk
            · have hv := if_y c48 hv
              refine lv_iload hx hb dX10_law_44 (lv_at hl 0 rfl) ?_
              refine lv_aload_n hx hb dX10_law_46 rfl (lv_at hl 2 rfl) ?_
              refine va_get (D := E.1) (ci := 4) (v := .ref o_a15) (C := RX10) (T := TX10) (N := 18) hx hb ht i_X10 hown hK hP 0 rfl rfl 15 (by decide) (ht _ kw_4_149) (fun _ h9 => h9) rfl dX10_law_47 ?_
              refine lv_iload_n hx hb dX10_law_50 rfl (lv_at hl 3 rfl) ?_
              obtain ⟨g61, hv⟩ := gd_s hv
              refine va_iald hx hb hK hP 11 0 rfl rfl (ix_s g61) dX10_law_51 ?_
              refine lv_icmp_ge (tgt := 105) hx hb dX10_law_52 (by decide) (fun c62 => ?_) (fun c62 => ?_)
              · have hv := if_y c62 hv
                refine lv_iload_n hx hb dX10_law_105 rfl (lv_at hl 1 rfl) ?_
                refine lv_if_eq (tgt := 111) hx hb dX10_law_106 (by decide) (fun c63 => ?_) (fun c63 => ?_)
                · have hv := if_y c63 hv
                  refine lv_iconst (v := (0 : Int32)) hx hb dX10_law_111 (by decide) ?_
                  refine lv_istore (lv' := [(4, .int (0 : Int32)), (3, .int x47), (0, .ref o_h), (1, .int p1), (2, .int p2)]) hx hb dX10_law_112 hl (by decide) rfl (fun ls hl => ?_)
                  refine lv_bipush (v := (-4 : Int32)) hx hb dX10_law_114 (by decide) ?_
                  refine lv_istore (lv' := [(5, .int (-4 : Int32)), (4, .int (0 : Int32)), (3, .int x47), (0, .ref o_h), (1, .int p1), (2, .int p2)]) hx hb dX10_law_116 hl (by decide) rfl (fun ls hl => ?_)
                  refine lv_bipush (v := (-4 : Int32)) hx hb dX10_law_118 (by decide) ?_
                  refine lv_istore (lv' := [(6, .int (-4 : Int32)), (5, .int (-4 : Int32)), (4, .int (0 : Int32)), (3, .int x47), (0, .ref o_h), (1, .int p1), (2, .int p2)]) hx hb dX10_law_120 hl (by decide) rfl (fun ls hl => ?_)
                  refine lv_iconst (v := (1 : Int32)) hx hb dX10_law_122 (by decide) ?_
                  refine lv_istore (lv' := [(7, .int (1 : Int32)), (6, .int (-4 : Int32)), (5, .int (-4 : Int32)), (4, .int (0 : Int32)), (3, .int x47), (0, .ref o_h), (1, .int p1), (2, .int p2)]) hx hb dX10_law_123 hl (by decide) rfl (fun ls hl => ?_)
                  have hL125 : ∀ (n : Nat) (x64 : Int32) (x65 : Int32) (x66 : Int32) (x67 : Int32) (ls : Array Slot), lv_has ls 8 [(7, .int x64), (6, .int x65), (5, .int x66), (4, .int x67), (0, .ref o_h), (1, .int p1), (2, .int p2)] → L_X10_law_125 N o_s o_size o_element p1 p2 n x64 x65 x66 x67 = some res → W p l e ({ frames := 6, cells := 0, slots := 0, locals := 132 }) s m [.ref o_h, .int p1, .int p2].toArray below meth c s.heap [] 0 0 (MQ below (RdQ (some (.int res))) [.ref o_h, .int p1, .int p2].toArray s 0 0 (fun _ => False)) (F0 m 125 ls []) := by
                    intro n
                    induction n with
                    | zero => intro x64 x65 x66 x67 ls hl hv; cases hv
                    | succ n125 ih125 =>
                      intro x64 x65 x66 x67 ls hl hv
                      rw [L_X10_law_125] at hv
                      refine lv_iload hx hb dX10_law_125 (lv_at hl 0 rfl) ?_
                      refine lv_bipush (v := (100 : Int32)) hx hb dX10_law_127 (by decide) ?_
                      refine lv_icmp_ge (tgt := 172) hx hb dX10_law_129 (by decide) (fun c68 => ?_) (fun c68 => ?_)
                      · have hv := if_y c68 hv
                        refine lv_iload_n hx hb dX10_law_172 rfl (lv_at hl 6 rfl) ?_
                        refine lv_if_ne (tgt := 181) hx hb dX10_law_173 (by decide) (fun c69 => ?_) (fun c69 => ?_)
                        · have hv := if_n c69 hv
                          refine lv_iload_n hx hb dX10_law_181 rfl (lv_at hl 6 rfl) ?_
                          refine lv_iconst (v := (1 : Int32)) hx hb dX10_law_182 (by decide) ?_
                          refine lv_icmp_ne (tgt := 191) hx hb dX10_law_183 (by decide) (fun c70 => ?_) (fun c70 => ?_)
                          · have hv := if_n c70 hv
                            refine lv_iload hx hb dX10_law_191 (lv_at hl 1 rfl) ?_
                            exact W.iret (v := x65) hx hb hr (fun t h9 _ => ⟨rv_i hv, h9⟩) (fun q h => absurd h List.not_mem_nil) dX10_law_193 hlk
                          · have hv := if_y c70 hv
                            refine lv_iload hx hb dX10_law_186 (lv_at hl 2 rfl) ?_
                            refine lv_goto (tgt := 193) hx hb dX10_law_188 (by decide) ?_
                            exact W.iret (v := x66) hx hb hr (fun t h9 _ => ⟨rv_i hv, h9⟩) (fun q h => absurd h List.not_mem_nil) dX10_law_193 hlk
                        · have hv := if_y c69 hv
                          refine lv_iload hx hb dX10_law_176 (lv_at hl 3 rfl) ?_
                          refine lv_goto (tgt := 193) hx hb dX10_law_178 (by decide) ?_
                          exact W.iret (v := x67) hx hb hr (fun t h9 _ => ⟨rv_i hv, h9⟩) (fun q h => absurd h List.not_mem_nil) dX10_law_193 hlk
                      · have hv := if_n c68 hv
                        refine lv_aload_n hx hb dX10_law_132 rfl (lv_at hl 4 rfl) ?_
                        refine lv_iload_n hx hb dX10_law_133 rfl (lv_at hl 5 rfl) ?_
                        refine lv_iload hx hb dX10_law_134 (lv_at hl 0 rfl) ?_
                        obtain ⟨r71, h72, hv⟩ := ob_s hv
                        refine rdV 4 0 (As := [.int p1, .int x64]) (rest := []) (st1 := [.int r71]) (w := [oMo o_h o_a0 o_a1 o_a2 o_a3 o_hasImage o_place o_rowAt o_rowEnd o_a8 o_a9 o_seed o_a11 o_a12 o_a13 o_a14 o_a15 o_a16 o_thrown, ai E o_a0 42 o_s, ai E o_a1 42 o_m, ai E o_a2 42 o_image, ai E o_a3 42 o_was, ai E o_a8 3 o_numbers, ai E o_a9 8192 o_most, ai E o_a11 8 o_kept, ai E o_a12 8 o_keptKind, ai E o_a13 8 o_keptFigure, ai E o_a14 8 o_sort, ai E o_a15 8 o_size, ai E o_a16 800 o_element]) hC q_X10_isLawBy kw_6_5 (c_X10_isLawBy l E o_h o_a0 o_a1 o_a2 o_a3 o_a8 o_a9 o_a11 o_a12 o_a13 o_a14 o_a15 o_a16 o_s o_m o_image o_was o_hasImage o_place o_rowAt o_rowEnd o_numbers o_most o_seed o_kept o_keptKind o_keptFigure o_sort o_size o_element o_thrown p1 x64 N r71 h72) ⟨rfl, rfl⟩ ⟨Nat.le_of_ble_eq_true rfl, Nat.le_of_ble_eq_true rfl⟩ ⟨Nat.zero_le _, Nat.zero_le _⟩ hP rfl rfl rfl hG rfl hl.1 rfl (Nat.le_of_ble_eq_true rfl) dX10_law_136 rfl ?_
                        refine lv_if_ne (tgt := 145) hx hb dX10_law_139 (by decide) (fun c73 => ?_) (fun c73 => ?_)
                        · have hv := if_n c73 hv
                          refine lv_iload hx hb dX10_law_145 (lv_at hl 3 rfl) ?_
                          refine lv_if_ne (tgt := 155) hx hb dX10_law_147 (by decide) (fun c74 => ?_) (fun c74 => ?_)
                          · have hv := if_n c74 hv
                            refine lv_iload hx hb dX10_law_155 (lv_at hl 2 rfl) ?_
                            refine lv_istore (lv' := [(5, .int x66), (7, .int x64), (6, .int x65), (4, .int x67), (0, .ref o_h), (1, .int p1), (2, .int p2)]) hx hb dX10_law_157 hl (by decide) rfl (fun ls hl => ?_)
                            refine lv_iload hx hb dX10_law_159 (lv_at hl 1 rfl) ?_
                            refine lv_istore (lv' := [(6, .int x64), (5, .int x66), (7, .int x64), (4, .int x67), (0, .ref o_h), (1, .int p1), (2, .int p2)]) hx hb dX10_law_161 hl (by decide) rfl (fun ls hl => ?_)
                            refine lv_iinc (v := (x67 + (1 : Int32))) (lv' := [(4, .int (x67 + (1 : Int32))), (6, .int x64), (5, .int x66), (7, .int x64), (0, .ref o_h), (1, .int p1), (2, .int p2)]) hx hb dX10_law_163 hl (k := 3) rfl rfl (by decide) rfl (fun ls hl => ?_)
                            refine lv_iinc (v := (x64 + (1 : Int32))) (lv' := [(7, .int (x64 + (1 : Int32))), (4, .int (x67 + (1 : Int32))), (6, .int x64), (5, .int x66), (0, .ref o_h), (1, .int p1), (2, .int p2)]) hx hb dX10_law_166 hl (k := 3) rfl rfl (by decide) rfl (fun ls hl => ?_)
                            refine lv_goto (tgt := 125) hx hb dX10_law_169 (by decide) ?_
                            exact ih125 (x64 + (1 : Int32)) x64 x66 (x67 + (1 : Int32)) _ (lv_sub hl [0, 2, 3, 1, 4, 5, 6] rfl) hv
                          · have hv := if_y c74 hv
                            refine lv_iload hx hb dX10_law_150 (lv_at hl 0 rfl) ?_
                            refine lv_goto (tgt := 157) hx hb dX10_law_152 (by decide) ?_
                            refine lv_istore (lv' := [(5, .int x64), (7, .int x64), (6, .int x65), (4, .int x67), (0, .ref o_h), (1, .int p1), (2, .int p2)]) hx hb dX10_law_157 hl (by decide) rfl (fun ls hl => ?_)
                            refine lv_iload hx hb dX10_law_159 (lv_at hl 1 rfl) ?_
                            refine lv_istore (lv' := [(6, .int x64), (5, .int x64), (7, .int x64), (4, .int x67), (0, .ref o_h), (1, .int p1), (2, .int p2)]) hx hb dX10_law_161 hl (by decide) rfl (fun ls hl => ?_)
                            refine lv_iinc (v := (x67 + (1 : Int32))) (lv' := [(4, .int (x67 + (1 : Int32))), (6, .int x64), (5, .int x64), (7, .int x64), (0, .ref o_h), (1, .int p1), (2, .int p2)]) hx hb dX10_law_163 hl (k := 3) rfl rfl (by decide) rfl (fun ls hl => ?_)
                            refine lv_iinc (v := (x64 + (1 : Int32))) (lv' := [(7, .int (x64 + (1 : Int32))), (4, .int (x67 + (1 : Int32))), (6, .int x64), (5, .int x64), (0, .ref o_h), (1, .int p1), (2, .int p2)]) hx hb dX10_law_166 hl (k := 3) rfl rfl (by decide) rfl (fun ls hl => ?_)
                            refine lv_goto (tgt := 125) hx hb dX10_law_169 (by decide) ?_
                            exact ih125 (x64 + (1 : Int32)) x64 x64 (x67 + (1 : Int32)) _ (lv_sub hl [0, 2, 3, 1, 4, 5, 6] rfl) hv
                        · have hv := if_y c73 hv
                          refine lv_goto (tgt := 166) hx hb dX10_law_142 (by decide) ?_
                          refine lv_iinc (v := (x64 + (1 : Int32))) (lv' := [(7, .int (x64 + (1 : Int32))), (6, .int x65), (5, .int x66), (4, .int x67), (0, .ref o_h), (1, .int p1), (2, .int p2)]) hx hb dX10_law_166 hl (k := 0) rfl rfl (by decide) rfl (fun ls hl => ?_)
                          refine lv_goto (tgt := 125) hx hb dX10_law_169 (by decide) ?_
                          exact ih125 (x64 + (1 : Int32)) x65 x66 x67 _ (lv_sub hl [0, 1, 2, 3, 4, 5, 6] rfl) hv
                  exact hL125 N (1 : Int32) (-4 : Int32) (-4 : Int32) (0 : Int32) _ (lv_sub hl [0, 1, 2, 3, 5, 6, 7] rfl) hv
                · have hv := if_n c63 hv
                  refine lv_iload_n hx hb dX10_law_109 rfl (lv_at hl 1 rfl) ?_
                  exact W.iret (v := x47) hx hb hr (fun t h9 _ => ⟨rv_i hv, h9⟩) (fun q h => absurd h List.not_mem_nil) dX10_law_110 hlk
              · have hv := if_n c62 hv
                refine lv_aload_n hx hb dX10_law_55 rfl (lv_at hl 2 rfl) ?_
                refine lv_aload_n hx hb dX10_law_56 rfl (lv_at hl 2 rfl) ?_
                refine va_get (D := E.1) (ci := 4) (v := .ref o_a16) (C := RX10) (T := TX10) (N := 18) hx hb ht i_X10 hown hK hP 0 rfl rfl 16 (by decide) (ht _ kw_4_150) (fun _ h9 => h9) rfl dX10_law_57 ?_
                refine lv_bipush (v := (100 : Int32)) hx hb dX10_law_60 (by decide) ?_
                refine lv_iload_n hx hb dX10_law_62 rfl (lv_at hl 3 rfl) ?_
                refine lv_imul hx hb dX10_law_63 ?_
                refine lv_iload hx hb dX10_law_64 (lv_at hl 0 rfl) ?_
                refine lv_iadd hx hb dX10_law_66 ?_
                obtain ⟨g75, hv⟩ := gd_s hv
                refine va_iald hx hb hK hP 12 0 rfl rfl (ix_s g75) dX10_law_67 ?_
                obtain ⟨r76, h77, hv⟩ := ob_s hv
                refine rdV 4 0 (As := [.int (o_element (((100 : Int32) * p1) + x46).toNatClampNeg)]) (rest := []) (st1 := [.int r76]) (w := [oMo o_h o_a0 o_a1 o_a2 o_a3 o_hasImage o_place o_rowAt o_rowEnd o_a8 o_a9 o_seed o_a11 o_a12 o_a13 o_a14 o_a15 o_a16 o_thrown, ai E o_a0 42 o_s, ai E o_a1 42 o_m, ai E o_a2 42 o_image, ai E o_a3 42 o_was, ai E o_a8 3 o_numbers, ai E o_a9 8192 o_most, ai E o_a11 8 o_kept, ai E o_a12 8 o_keptKind, ai E o_a13 8 o_keptFigure, ai E o_a14 8 o_sort, ai E o_a15 8 o_size, ai E o_a16 800 o_element]) hC q_X10_isGroup kw_5_136 (c_X10_isGroup l E o_h o_a0 o_a1 o_a2 o_a3 o_a8 o_a9 o_a11 o_a12 o_a13 o_a14 o_a15 o_a16 o_s o_m o_image o_was o_hasImage o_place o_rowAt o_rowEnd o_numbers o_most o_seed o_kept o_keptKind o_keptFigure o_sort o_size o_element o_thrown (o_element (((100 : Int32) * p1) + x46).toNatClampNeg) r76 h77) ⟨rfl, rfl⟩ ⟨Nat.le_of_ble_eq_true rfl, Nat.le_of_ble_eq_true rfl⟩ ⟨Nat.zero_le _, Nat.zero_le _⟩ hP rfl rfl rfl hG rfl hl.1 rfl (Nat.le_of_ble_eq_true rfl) dX10_law_68 rfl ?_
                refine lv_if_eq (tgt := 96) hx hb dX10_law_71 (by decide) (fun c78 => ?_) (fun c78 => ?_)
                · have hv := if_y c78 hv
                  refine lv_bipush (v := (-13 : Int32)) hx hb dX10_law_96 (by decide) ?_
                  refine lv_istore_n (lv' := [(3, .int (-13 : Int32)), (4, .int x46), (0, .ref o_h), (1, .int p1), (2, .int p2)]) hx hb dX10_law_98 rfl hl (by decide) rfl (fun ls hl => ?_)
                  refine lv_iinc (v := (x46 + (2 : Int32))) (lv' := [(4, .int (x46 + (2 : Int32))), (3, .int (-13 : Int32)), (0, .ref o_h), (1, .int p1), (2, .int p2)]) hx hb dX10_law_99 hl (k := 1) rfl rfl (by decide) rfl (fun ls hl => ?_)
                  refine lv_goto (tgt := 40) hx hb dX10_law_102 (by decide) ?_
                  exact ih40 (x46 + (2 : Int32)) (-13 : Int32) _ (lv_sub hl [0, 1, 2, 3, 4] rfl) hv
                · have hv := if_n c78 hv
                  refine lv_aload_n hx hb dX10_law_74 rfl (lv_at hl 2 rfl) ?_
                  refine va_get (D := E.1) (ci := 4) (v := .ref o_a16) (C := RX10) (T := TX10) (N := 18) hx hb ht i_X10 hown hK hP 0 rfl rfl 16 (by decide) (ht _ kw_4_150) (fun _ h9 => h9) rfl dX10_law_75 ?_
                  refine lv_bipush (v := (100 : Int32)) hx hb dX10_law_78 (by decide) ?_
                  refine lv_iload_n hx hb dX10_law_80 rfl (lv_at hl 3 rfl) ?_
                  refine lv_imul hx hb dX10_law_81 ?_
                  refine lv_iload hx hb dX10_law_82 (lv_at hl 0 rfl) ?_
                  refine lv_iadd hx hb dX10_law_84 ?_
                  refine lv_iconst (v := (1 : Int32)) hx hb dX10_law_85 (by decide) ?_
                  refine lv_iadd hx hb dX10_law_86 ?_
                  obtain ⟨g79, hv⟩ := gd_s hv
                  refine va_iald hx hb hK hP 12 0 rfl rfl (ix_s g79) dX10_law_87 ?_
                  refine lv_iconst (v := (0 : Int32)) hx hb dX10_law_88 (by decide) ?_
                  refine lv_iconst (v := (1 : Int32)) hx hb dX10_law_89 (by decide) ?_
                  obtain ⟨r80, h81, hv⟩ := ob_s hv
                  refine rdS (rest := []) (st1 := [.int r80]) (w := []) hC q_X10_isIn kw_4_200 (c_X10_isIn l E (o_element ((((100 : Int32) * p1) + x46) + (1 : Int32)).toNatClampNeg) (0 : Int32) (1 : Int32) r80 h81) ⟨rfl, rfl⟩ ⟨Nat.le_of_ble_eq_true rfl, Nat.le_of_ble_eq_true rfl⟩ ⟨Nat.zero_le _, Nat.zero_le _⟩ (hP.sub (ws' := []) [] rfl) hG rfl hl.1 rfl (Nat.le_of_ble_eq_true rfl) dX10_law_90 rfl ?_
                  refine lv_if_ne (tgt := 99) hx hb dX10_law_93 (by decide) (fun c82 => ?_) (fun c82 => ?_)
                  · have hv := if_n c82 hv
                    refine lv_iinc (v := (x46 + (2 : Int32))) (lv' := [(4, .int (x46 + (2 : Int32))), (3, .int x47), (0, .ref o_h), (1, .int p1), (2, .int p2)]) hx hb dX10_law_99 hl (k := 0) rfl rfl (by decide) rfl (fun ls hl => ?_)
                    refine lv_goto (tgt := 40) hx hb dX10_law_102 (by decide) ?_
                    exact ih40 (x46 + (2 : Int32)) x47 _ (lv_sub hl [0, 1, 2, 3, 4] rfl) hv
                  · have hv := if_y c82 hv
                    refine lv_bipush (v := (-13 : Int32)) hx hb dX10_law_96 (by decide) ?_
                    refine lv_istore_n (lv' := [(3, .int (-13 : Int32)), (4, .int x46), (0, .ref o_h), (1, .int p1), (2, .int p2)]) hx hb dX10_law_98 rfl hl (by decide) rfl (fun ls hl => ?_)
                    refine lv_iinc (v := (x46 + (2 : Int32))) (lv' := [(4, .int (x46 + (2 : Int32))), (3, .int (-13 : Int32)), (0, .ref o_h), (1, .int p1), (2, .int p2)]) hx hb dX10_law_99 hl (k := 1) rfl rfl (by decide) rfl (fun ls hl => ?_)
                    refine lv_goto (tgt := 40) hx hb dX10_law_102 (by decide) ?_
                    exact ih40 (x46 + (2 : Int32)) (-13 : Int32) _ (lv_sub hl [0, 1, 2, 3, 4] rfl) hv
        exact hL40 N (0 : Int32) r4 _ (lv_sub hl [0, 1, 2, 3, 4] rfl) hv
      · have hv := if_y c45 hv
        refine lv_bipush (v := (-13 : Int32)) hx hb dX10_law_34 (by decide) ?_
        refine lv_istore_n (lv' := [(3, .int (-13 : Int32)), (0, .ref o_h), (1, .int p1), (2, .int p2)]) hx hb dX10_law_36 rfl hl (by decide) rfl (fun ls hl => ?_)
        refine lv_iconst (v := (0 : Int32)) hx hb dX10_law_37 (by decide) ?_
        refine lv_istore (lv' := [(4, .int (0 : Int32)), (3, .int (-13 : Int32)), (0, .ref o_h), (1, .int p1), (2, .int p2)]) hx hb dX10_law_38 hl (by decide) rfl (fun ls hl => ?_)
        have hL40 : ∀ (n : Nat) (x83 : Int32) (x84 : Int32) (ls : Array Slot), lv_has ls 8 [(4, .int x83), (3, .int x84), (0, .ref o_h), (1, .int p1), (2, .int p2)] → L_X10_law_40 N o_s o_size o_element p1 p2 n x83 x84 = some res → W p l e ({ frames := 6, cells := 0, slots := 0, locals := 132 }) s m [.ref o_h, .int p1, .int p2].toArray below meth c s.heap [] 0 0 (MQ below (RdQ (some (.int res))) [.ref o_h, .int p1, .int p2].toArray s 0 0 (fun _ => False)) (F0 m 40 ls []) := by
          intro n
          induction n with
          | zero => intro x83 x84 ls hl hv; cases hv
          | succ n40 ih40 =>
            intro x83 x84 ls hl hv
            rw [L_X10_law_40] at hv
            refine lv_iload_n hx hb dX10_law_40 rfl (lv_at hl 1 rfl) ?_
            refine lv_if_ne (tgt := 105) hx hb dX10_law_41 (by decide) (fun c85 => ?_) (fun c85 => ?_)
            · have hv := if_n c85 hv
              refine lv_iload_n hx hb dX10_law_105 rfl (lv_at hl 1 rfl) ?_
              refine lv_if_eq (tgt := 111) hx hb dX10_law_106 (by decide) (fun c86 => ?_) (fun c86 => ?_)
              · have hv := if_y c86 hv
                refine lv_iconst (v := (0 : Int32)) hx hb dX10_law_111 (by decide) ?_
                refine lv_istore (lv' := [(4, .int (0 : Int32)), (3, .int x84), (0, .ref o_h), (1, .int p1), (2, .int p2)]) hx hb dX10_law_112 hl (by decide) rfl (fun ls hl => ?_)
                refine lv_bipush (v := (-4 : Int32)) hx hb dX10_law_114 (by decide) ?_
                refine lv_istore (lv' := [(5, .int (-4 : Int32)), (4, .int (0 : Int32)), (3, .int x84), (0, .ref o_h), (1, .int p1), (2, .int p2)]) hx hb dX10_law_116 hl (by decide) rfl (fun ls hl => ?_)
                refine lv_bipush (v := (-4 : Int32)) hx hb dX10_law_118 (by decide) ?_
                refine lv_istore (lv' := [(6, .int (-4 : Int32)), (5, .int (-4 : Int32)), (4, .int (0 : Int32)), (3, .int x84), (0, .ref o_h), (1, .int p1), (2, .int p2)]) hx hb dX10_law_120 hl (by decide) rfl (fun ls hl => ?_)
                refine lv_iconst (v := (1 : Int32)) hx hb dX10_law_122 (by decide) ?_
                refine lv_istore (lv' := [(7, .int (1 : Int32)), (6, .int (-4 : Int32)), (5, .int (-4 : Int32)), (4, .int (0 : Int32)), (3, .int x84), (0, .ref o_h), (1, .int p1), (2, .int p2)]) hx hb dX10_law_123 hl (by decide) rfl (fun ls hl => ?_)
                have hL125 : ∀ (n : Nat) (x87 : Int32) (x88 : Int32) (x89 : Int32) (x90 : Int32) (ls : Array Slot), lv_has ls 8 [(7, .int x87), (6, .int x88), (5, .int x89), (4, .int x90), (0, .ref o_h), (1, .int p1), (2, .int p2)] → L_X10_law_125 N o_s o_size o_element p1 p2 n x87 x88 x89 x90 = some res → W p l e ({ frames := 6, cells := 0, slots := 0, locals := 132 }) s m [.ref o_h, .int p1, .int p2].toArray below meth c s.heap [] 0 0 (MQ below (RdQ (some (.int res))) [.ref o_h, .int p1, .int p2].toArray s 0 0 (fun _ => False)) (F0 m 125 ls []) := by
                  intro n
                  induction n with
                  | zero => intro x87 x88 x89 x90 ls hl hv; cases hv
                  | succ n125 ih125 =>
                    intro x87 x88 x89 x90 ls hl hv
                    rw [L_X10_law_125] at hv
                    refine lv_iload hx hb dX10_law_125 (lv_at hl 0 rfl) ?_
                    refine lv_bipush (v := (100 : Int32)) hx hb dX10_law_127 (by decide) ?_
                    refine lv_icmp_ge (tgt := 172) hx hb dX10_law_129 (by decide) (fun c91 => ?_) (fun c91 => ?_)
                    · have hv := if_y c91 hv
                      refine lv_iload_n hx hb dX10_law_172 rfl (lv_at hl 6 rfl) ?_
                      refine lv_if_ne (tgt := 181) hx hb dX10_law_173 (by decide) (fun c92 => ?_) (fun c92 => ?_)
                      · have hv := if_n c92 hv
                        refine lv_iload_n hx hb dX10_law_181 rfl (lv_at hl 6 rfl) ?_
                        refine lv_iconst (v := (1 : Int32)) hx hb dX10_law_182 (by decide) ?_
                        refine lv_icmp_ne (tgt := 191) hx hb dX10_law_183 (by decide) (fun c93 => ?_) (fun c93 => ?_)
                        · have hv := if_n c93 hv
                          refine lv_iload hx hb dX10_law_191 (lv_at hl 1 rfl) ?_
                          exact W.iret (v := x88) hx hb hr (fun t h9 _ => ⟨rv_i hv, h9⟩) (fun q h => absurd h List.not_mem_nil) dX10_law_193 hlk
                        · have hv := if_y c93 hv
                          refine lv_iload hx hb dX10_law_186 (lv_at hl 2 rfl) ?_
                          refine lv_goto (tgt := 193) hx hb dX10_law_188 (by decide) ?_
                          exact W.iret (v := x89) hx hb hr (fun t h9 _ => ⟨rv_i hv, h9⟩) (fun q h => absurd h List.not_mem_nil) dX10_law_193 hlk
                      · have hv := if_y c92 hv
                        refine lv_iload hx hb dX10_law_176 (lv_at hl 3 rfl) ?_
                        refine lv_goto (tgt := 193) hx hb dX10_law_178 (by decide) ?_
                        exact W.iret (v := x90) hx hb hr (fun t h9 _ => ⟨rv_i hv, h9⟩) (fun q h => absurd h List.not_mem_nil) dX10_law_193 hlk
                    · have hv := if_n c91 hv
                      refine lv_aload_n hx hb dX10_law_132 rfl (lv_at hl 4 rfl) ?_
                      refine lv_iload_n hx hb dX10_law_133 rfl (lv_at hl 5 rfl) ?_
                      refine lv_iload hx hb dX10_law_134 (lv_at hl 0 rfl) ?_
                      obtain ⟨r94, h95, hv⟩ := ob_s hv
                      refine rdV 4 0 (As := [.int p1, .int x87]) (rest := []) (st1 := [.int r94]) (w := [oMo o_h o_a0 o_a1 o_a2 o_a3 o_hasImage o_place o_rowAt o_rowEnd o_a8 o_a9 o_seed o_a11 o_a12 o_a13 o_a14 o_a15 o_a16 o_thrown, ai E o_a0 42 o_s, ai E o_a1 42 o_m, ai E o_a2 42 o_image, ai E o_a3 42 o_was, ai E o_a8 3 o_numbers, ai E o_a9 8192 o_most, ai E o_a11 8 o_kept, ai E o_a12 8 o_keptKind, ai E o_a13 8 o_keptFigure, ai E o_a14 8 o_sort, ai E o_a15 8 o_size, ai E o_a16 800 o_element]) hC q_X10_isLawBy kw_6_5 (c_X10_isLawBy l E o_h o_a0 o_a1 o_a2 o_a3 o_a8 o_a9 o_a11 o_a12 o_a13 o_a14 o_a15 o_a16 o_s o_m o_image o_was o_hasImage o_place o_rowAt o_rowEnd o_numbers o_most o_seed o_kept o_keptKind o_keptFigure o_sort o_size o_element o_thrown p1 x87 N r94 h95) ⟨rfl, rfl⟩ ⟨Nat.le_of_ble_eq_true rfl, Nat.le_of_ble_eq_true rfl⟩ ⟨Nat.zero_le _, Nat.zero_le _⟩ hP rfl rfl rfl hG rfl hl.1 rfl (Nat.le_of_ble_eq_true rfl) dX10_law_136 rfl ?_
                      refine lv_if_ne (tgt := 145) hx hb dX10_law_139 (by decide) (fun c96 => ?_) (fun c96 => ?_)
                      · have hv := if_n c96 hv
                        refine lv_iload hx hb dX10_law_145 (lv_at hl 3 rfl) ?_
                        refine lv_if_ne (tgt := 155) hx hb dX10_law_147 (by decide) (fun c97 => ?_) (fun c97 => ?_)
                        · have hv := if_n c97 hv
                          refine lv_iload hx hb dX10_law_155 (lv_at hl 2 rfl) ?_
                          refine lv_istore (lv' := [(5, .int x89), (7, .int x87), (6, .int x88), (4, .int x90), (0, .ref o_h), (1, .int p1), (2, .int p2)]) hx hb dX10_law_157 hl (by decide) rfl (fun ls hl => ?_)
                          refine lv_iload hx hb dX10_law_159 (lv_at hl 1 rfl) ?_
                          refine lv_istore (lv' := [(6, .int x87), (5, .int x89), (7, .int x87), (4, .int x90), (0, .ref o_h), (1, .int p1), (2, .int p2)]) hx hb dX10_law_161 hl (by decide) rfl (fun ls hl => ?_)
                          refine lv_iinc (v := (x90 + (1 : Int32))) (lv' := [(4, .int (x90 + (1 : Int32))), (6, .int x87), (5, .int x89), (7, .int x87), (0, .ref o_h), (1, .int p1), (2, .int p2)]) hx hb dX10_law_163 hl (k := 3) rfl rfl (by decide) rfl (fun ls hl => ?_)
                          refine lv_iinc (v := (x87 + (1 : Int32))) (lv' := [(7, .int (x87 + (1 : Int32))), (4, .int (x90 + (1 : Int32))), (6, .int x87), (5, .int x89), (0, .ref o_h), (1, .int p1), (2, .int p2)]) hx hb dX10_law_166 hl (k := 3) rfl rfl (by decide) rfl (fun ls hl => ?_)
                          refine lv_goto (tgt := 125) hx hb dX10_law_169 (by decide) ?_
                          exact ih125 (x87 + (1 : Int32)) x87 x89 (x90 + (1 : Int32)) _ (lv_sub hl [0, 2, 3, 1, 4, 5, 6] rfl) hv
                        · have hv := if_y c97 hv
                          refine lv_iload hx hb dX10_law_150 (lv_at hl 0 rfl) ?_
                          refine lv_goto (tgt := 157) hx hb dX10_law_152 (by decide) ?_
                          refine lv_istore (lv' := [(5, .int x87), (7, .int x87), (6, .int x88), (4, .int x90), (0, .ref o_h), (1, .int p1), (2, .int p2)]) hx hb dX10_law_157 hl (by decide) rfl (fun ls hl => ?_)
                          refine lv_iload hx hb dX10_law_159 (lv_at hl 1 rfl) ?_
                          refine lv_istore (lv' := [(6, .int x87), (5, .int x87), (7, .int x87), (4, .int x90), (0, .ref o_h), (1, .int p1), (2, .int p2)]) hx hb dX10_law_161 hl (by decide) rfl (fun ls hl => ?_)
                          refine lv_iinc (v := (x90 + (1 : Int32))) (lv' := [(4, .int (x90 + (1 : Int32))), (6, .int x87), (5, .int x87), (7, .int x87), (0, .ref o_h), (1, .int p1), (2, .int p2)]) hx hb dX10_law_163 hl (k := 3) rfl rfl (by decide) rfl (fun ls hl => ?_)
                          refine lv_iinc (v := (x87 + (1 : Int32))) (lv' := [(7, .int (x87 + (1 : Int32))), (4, .int (x90 + (1 : Int32))), (6, .int x87), (5, .int x87), (0, .ref o_h), (1, .int p1), (2, .int p2)]) hx hb dX10_law_166 hl (k := 3) rfl rfl (by decide) rfl (fun ls hl => ?_)
                          refine lv_goto (tgt := 125) hx hb dX10_law_169 (by decide) ?_
                          exact ih125 (x87 + (1 : Int32)) x87 x87 (x90 + (1 : Int32)) _ (lv_sub hl [0, 2, 3, 1, 4, 5, 6] rfl) hv
                      · have hv := if_y c96 hv
                        refine lv_goto (tgt := 166) hx hb dX10_law_142 (by decide) ?_
                        refine lv_iinc (v := (x87 + (1 : Int32))) (lv' := [(7, .int (x87 + (1 : Int32))), (6, .int x88), (5, .int x89), (4, .int x90), (0, .ref o_h), (1, .int p1), (2, .int p2)]) hx hb dX10_law_166 hl (k := 0) rfl rfl (by decide) rfl (fun ls hl => ?_)
                        refine lv_goto (tgt := 125) hx hb dX10_law_169 (by decide) ?_
                        exact ih125 (x87 + (1 : Int32)) x88 x89 x90 _ (lv_sub hl [0, 1, 2, 3, 4, 5, 6] rfl) hv
                exact hL125 N (1 : Int32) (-4 : Int32) (-4 : Int32) (0 : Int32) _ (lv_sub hl [0, 1, 2, 3, 5, 6, 7] rfl) hv
              · have hv := if_n c86 hv
                refine lv_iload_n hx hb dX10_law_109 rfl (lv_at hl 1 rfl) ?_
                exact W.iret (v := x84) hx hb hr (fun t h9 _ => ⟨rv_i hv, h9⟩) (fun q h => absurd h List.not_mem_nil) dX10_law_110 hlk
            · have hv := if_y c85 hv
              refine lv_iload hx hb dX10_law_44 (lv_at hl 0 rfl) ?_
              refine lv_aload_n hx hb dX10_law_46 rfl (lv_at hl 2 rfl) ?_
              refine va_get (D := E.1) (ci := 4) (v := .ref o_a15) (C := RX10) (T := TX10) (N := 18) hx hb ht i_X10 hown hK hP 0 rfl rfl 15 (by decide) (ht _ kw_4_149) (fun _ h9 => h9) rfl dX10_law_47 ?_
              refine lv_iload_n hx hb dX10_law_50 rfl (lv_at hl 3 rfl) ?_
              obtain ⟨g98, hv⟩ := gd_s hv
              refine va_iald hx hb hK hP 11 0 rfl rfl (ix_s g98) dX10_law_51 ?_
              refine lv_icmp_ge (tgt := 105) hx hb dX10_law_52 (by decide) (fun c99 => ?_) (fun c99 => ?_)
              · have hv := if_y c99 hv
                refine lv_iload_n hx hb dX10_law_105 rfl (lv_at hl 1 rfl) ?_
                refine lv_if_eq (tgt := 111) hx hb dX10_law_106 (by decide) (fun c100 => ?_) (fun c100 => ?_)
                · have hv := if_y c100 hv
                  refine lv_iconst (v := (0 : Int32)) hx hb dX10_law_111 (by decide) ?_
                  refine lv_istore (lv' := [(4, .int (0 : Int32)), (3, .int x84), (0, .ref o_h), (1, .int p1), (2, .int p2)]) hx hb dX10_law_112 hl (by decide) rfl (fun ls hl => ?_)
                  refine lv_bipush (v := (-4 : Int32)) hx hb dX10_law_114 (by decide) ?_
                  refine lv_istore (lv' := [(5, .int (-4 : Int32)), (4, .int (0 : Int32)), (3, .int x84), (0, .ref o_h), (1, .int p1), (2, .int p2)]) hx hb dX10_law_116 hl (by decide) rfl (fun ls hl => ?_)
                  refine lv_bipush (v := (-4 : Int32)) hx hb dX10_law_118 (by decide) ?_
                  refine lv_istore (lv' := [(6, .int (-4 : Int32)), (5, .int (-4 : Int32)), (4, .int (0 : Int32)), (3, .int x84), (0, .ref o_h), (1, .int p1), (2, .int p2)]) hx hb dX10_law_120 hl (by decide) rfl (fun ls hl => ?_)
                  refine lv_iconst (v := (1 : Int32)) hx hb dX10_law_122 (by decide) ?_
                  refine lv_istore (lv' := [(7, .int (1 : Int32)), (6, .int (-4 : Int32)), (5, .int (-4 : Int32)), (4, .int (0 : Int32)), (3, .int x84), (0, .ref o_h), (1, .int p1), (2, .int p2)]) hx hb dX10_law_123 hl (by decide) rfl (fun ls hl => ?_)
                  have hL125 : ∀ (n : Nat) (x101 : Int32) (x102 : Int32) (x103 : Int32) (x104 : Int32) (ls : Array Slot), lv_has ls 8 [(7, .int x101), (6, .int x102), (5, .int x103), (4, .int x104), (0, .ref o_h), (1, .int p1), (2, .int p2)] → L_X10_law_125 N o_s o_size o_element p1 p2 n x101 x102 x103 x104 = some res → W p l e ({ frames := 6, cells := 0, slots := 0, locals := 132 }) s m [.ref o_h, .int p1, .int p2].toArray below meth c s.heap [] 0 0 (MQ below (RdQ (some (.int res))) [.ref o_h, .int p1, .int p2].toArray s 0 0 (fun _ => False)) (F0 m 125 ls []) := by
                    intro n
                    induction n with
                    | zero => intro x101 x102 x103 x104 ls hl hv; cases hv
                    | succ n125 ih125 =>
                      intro x101 x102 x103 x104 ls hl hv
                      rw [L_X10_law_125] at hv
                      refine lv_iload hx hb dX10_law_125 (lv_at hl 0 rfl) ?_
                      refine lv_bipush (v := (100 : Int32)) hx hb dX10_law_127 (by decide) ?_
                      refine lv_icmp_ge (tgt := 172) hx hb dX10_law_129 (by decide) (fun c105 => ?_) (fun c105 => ?_)
                      · have hv := if_y c105 hv
                        refine lv_iload_n hx hb dX10_law_172 rfl (lv_at hl 6 rfl) ?_
                        refine lv_if_ne (tgt := 181) hx hb dX10_law_173 (by decide) (fun c106 => ?_) (fun c106 => ?_)
                        · have hv := if_n c106 hv
                          refine lv_iload_n hx hb dX10_law_181 rfl (lv_at hl 6 rfl) ?_
                          refine lv_iconst (v := (1 : Int32)) hx hb dX10_law_182 (by decide) ?_
                          refine lv_icmp_ne (tgt := 191) hx hb dX10_law_183 (by decide) (fun c107 => ?_) (fun c107 => ?_)
                          · have hv := if_n c107 hv
                            refine lv_iload hx hb dX10_law_191 (lv_at hl 1 rfl) ?_
                            exact W.iret (v := x102) hx hb hr (fun t h9 _ => ⟨rv_i hv, h9⟩) (fun q h => absurd h List.not_mem_nil) dX10_law_193 hlk
                          · have hv := if_y c107 hv
                            refine lv_iload hx hb dX10_law_186 (lv_at hl 2 rfl) ?_
                            refine lv_goto (tgt := 193) hx hb dX10_law_188 (by decide) ?_
                            exact W.iret (v := x103) hx hb hr (fun t h9 _ => ⟨rv_i hv, h9⟩) (fun q h => absurd h List.not_mem_nil) dX10_law_193 hlk
                        · have hv := if_y c106 hv
                          refine lv_iload hx hb dX10_law_176 (lv_at hl 3 rfl) ?_
                          refine lv_goto (tgt := 193) hx hb dX10_law_178 (by decide) ?_
                          exact W.iret (v := x104) hx hb hr (fun t h9 _ => ⟨rv_i hv, h9⟩) (fun q h => absurd h List.not_mem_nil) dX10_law_193 hlk
                      · have hv := if_n c105 hv
                        refine lv_aload_n hx hb dX10_law_132 rfl (lv_at hl 4 rfl) ?_
                        refine lv_iload_n hx hb dX10_law_133 rfl (lv_at hl 5 rfl) ?_
                        refine lv_iload hx hb dX10_law_134 (lv_at hl 0 rfl) ?_
                        obtain ⟨r108, h109, hv⟩ := ob_s hv
                        refine rdV 4 0 (As := [.int p1, .int x101]) (rest := []) (st1 := [.int r108]) (w := [oMo o_h o_a0 o_a1 o_a2 o_a3 o_hasImage o_place o_rowAt o_rowEnd o_a8 o_a9 o_seed o_a11 o_a12 o_a13 o_a14 o_a15 o_a16 o_thrown, ai E o_a0 42 o_s, ai E o_a1 42 o_m, ai E o_a2 42 o_image, ai E o_a3 42 o_was, ai E o_a8 3 o_numbers, ai E o_a9 8192 o_most, ai E o_a11 8 o_kept, ai E o_a12 8 o_keptKind, ai E o_a13 8 o_keptFigure, ai E o_a14 8 o_sort, ai E o_a15 8 o_size, ai E o_a16 800 o_element]) hC q_X10_isLawBy kw_6_5 (c_X10_isLawBy l E o_h o_a0 o_a1 o_a2 o_a3 o_a8 o_a9 o_a11 o_a12 o_a13 o_a14 o_a15 o_a16 o_s o_m o_image o_was o_hasImage o_place o_rowAt o_rowEnd o_numbers o_most o_seed o_kept o_keptKind o_keptFigure o_sort o_size o_element o_thrown p1 x101 N r108 h109) ⟨rfl, rfl⟩ ⟨Nat.le_of_ble_eq_true rfl, Nat.le_of_ble_eq_true rfl⟩ ⟨Nat.zero_le _, Nat.zero_le _⟩ hP rfl rfl rfl hG rfl hl.1 rfl (Nat.le_of_ble_eq_true rfl) dX10_law_136 rfl ?_
                        refine lv_if_ne (tgt := 145) hx hb dX10_law_139 (by decide) (fun c110 => ?_) (fun c110 => ?_)
                        · have hv := if_n c110 hv
                          refine lv_iload hx hb dX10_law_145 (lv_at hl 3 rfl) ?_
                          refine lv_if_ne (tgt := 155) hx hb dX10_law_147 (by decide) (fun c111 => ?_) (fun c111 => ?_)
                          · have hv := if_n c111 hv
                            refine lv_iload hx hb dX10_law_155 (lv_at hl 2 rfl) ?_
                            refine lv_istore (lv' := [(5, .int x103), (7, .int x101), (6, .int x102), (4, .int x104), (0, .ref o_h), (1, .int p1), (2, .int p2)]) hx hb dX10_law_157 hl (by decide) rfl (fun ls hl => ?_)
                            refine lv_iload hx hb dX10_law_159 (lv_at hl 1 rfl) ?_
                            refine lv_istore (lv' := [(6, .int x101), (5, .int x103), (7, .int x101), (4, .int x104), (0, .ref o_h), (1, .int p1), (2, .int p2)]) hx hb dX10_law_161 hl (by decide) rfl (fun ls hl => ?_)
                            refine lv_iinc (v := (x104 + (1 : Int32))) (lv' := [(4, .int (x104 + (1 : Int32))), (6, .int x101), (5, .int x103), (7, .int x101), (0, .ref o_h), (1, .int p1), (2, .int p2)]) hx hb dX10_law_163 hl (k := 3) rfl rfl (by decide) rfl (fun ls hl => ?_)
                            refine lv_iinc (v := (x101 + (1 : Int32))) (lv' := [(7, .int (x101 + (1 : Int32))), (4, .int (x104 + (1 : Int32))), (6, .int x101), (5, .int x103), (0, .ref o_h), (1, .int p1), (2, .int p2)]) hx hb dX10_law_166 hl (k := 3) rfl rfl (by decide) rfl (fun ls hl => ?_)
                            refine lv_goto (tgt := 125) hx hb dX10_law_169 (by decide) ?_
                            exact ih125 (x101 + (1 : Int32)) x101 x103 (x104 + (1 : Int32)) _ (lv_sub hl [0, 2, 3, 1, 4, 5, 6] rfl) hv
                          · have hv := if_y c111 hv
                            refine lv_iload hx hb dX10_law_150 (lv_at hl 0 rfl) ?_
                            refine lv_goto (tgt := 157) hx hb dX10_law_152 (by decide) ?_
                            refine lv_istore (lv' := [(5, .int x101), (7, .int x101), (6, .int x102), (4, .int x104), (0, .ref o_h), (1, .int p1), (2, .int p2)]) hx hb dX10_law_157 hl (by decide) rfl (fun ls hl => ?_)
                            refine lv_iload hx hb dX10_law_159 (lv_at hl 1 rfl) ?_
                            refine lv_istore (lv' := [(6, .int x101), (5, .int x101), (7, .int x101), (4, .int x104), (0, .ref o_h), (1, .int p1), (2, .int p2)]) hx hb dX10_law_161 hl (by decide) rfl (fun ls hl => ?_)
                            refine lv_iinc (v := (x104 + (1 : Int32))) (lv' := [(4, .int (x104 + (1 : Int32))), (6, .int x101), (5, .int x101), (7, .int x101), (0, .ref o_h), (1, .int p1), (2, .int p2)]) hx hb dX10_law_163 hl (k := 3) rfl rfl (by decide) rfl (fun ls hl => ?_)
                            refine lv_iinc (v := (x101 + (1 : Int32))) (lv' := [(7, .int (x101 + (1 : Int32))), (4, .int (x104 + (1 : Int32))), (6, .int x101), (5, .int x101), (0, .ref o_h), (1, .int p1), (2, .int p2)]) hx hb dX10_law_166 hl (k := 3) rfl rfl (by decide) rfl (fun ls hl => ?_)
                            refine lv_goto (tgt := 125) hx hb dX10_law_169 (by decide) ?_
                            exact ih125 (x101 + (1 : Int32)) x101 x101 (x104 + (1 : Int32)) _ (lv_sub hl [0, 2, 3, 1, 4, 5, 6] rfl) hv
                        · have hv := if_y c110 hv
                          refine lv_goto (tgt := 166) hx hb dX10_law_142 (by decide) ?_
                          refine lv_iinc (v := (x101 + (1 : Int32))) (lv' := [(7, .int (x101 + (1 : Int32))), (6, .int x102), (5, .int x103), (4, .int x104), (0, .ref o_h), (1, .int p1), (2, .int p2)]) hx hb dX10_law_166 hl (k := 0) rfl rfl (by decide) rfl (fun ls hl => ?_)
                          refine lv_goto (tgt := 125) hx hb dX10_law_169 (by decide) ?_
                          exact ih125 (x101 + (1 : Int32)) x102 x103 x104 _ (lv_sub hl [0, 1, 2, 3, 4, 5, 6] rfl) hv
                  exact hL125 N (1 : Int32) (-4 : Int32) (-4 : Int32) (0 : Int32) _ (lv_sub hl [0, 1, 2, 3, 5, 6, 7] rfl) hv
                · have hv := if_n c100 hv
                  refine lv_iload_n hx hb dX10_law_109 rfl (lv_at hl 1 rfl) ?_
                  exact W.iret (v := x84) hx hb hr (fun t h9 _ => ⟨rv_i hv, h9⟩) (fun q h => absurd h List.not_mem_nil) dX10_law_110 hlk
              · have hv := if_n c99 hv
                refine lv_aload_n hx hb dX10_law_55 rfl (lv_at hl 2 rfl) ?_
                refine lv_aload_n hx hb dX10_law_56 rfl (lv_at hl 2 rfl) ?_
                refine va_get (D := E.1) (ci := 4) (v := .ref o_a16) (C := RX10) (T := TX10) (N := 18) hx hb ht i_X10 hown hK hP 0 rfl rfl 16 (by decide) (ht _ kw_4_150) (fun _ h9 => h9) rfl dX10_law_57 ?_
                refine lv_bipush (v := (100 : Int32)) hx hb dX10_law_60 (by decide) ?_
                refine lv_iload_n hx hb dX10_law_62 rfl (lv_at hl 3 rfl) ?_
                refine lv_imul hx hb dX10_law_63 ?_
                refine lv_iload hx hb dX10_law_64 (lv_at hl 0 rfl) ?_
                refine lv_iadd hx hb dX10_law_66 ?_
                obtain ⟨g112, hv⟩ := gd_s hv
                refine va_iald hx hb hK hP 12 0 rfl rfl (ix_s g112) dX10_law_67 ?_
                obtain ⟨r113, h114, hv⟩ := ob_s hv
                refine rdV 4 0 (As := [.int (o_element (((100 : Int32) * p1) + x83).toNatClampNeg)]) (rest := []) (st1 := [.int r113]) (w := [oMo o_h o_a0 o_a1 o_a2 o_a3 o_hasImage o_place o_rowAt o_rowEnd o_a8 o_a9 o_seed o_a11 o_a12 o_a13 o_a14 o_a15 o_a16 o_thrown, ai E o_a0 42 o_s, ai E o_a1 42 o_m, ai E o_a2 42 o_image, ai E o_a3 42 o_was, ai E o_a8 3 o_numbers, ai E o_a9 8192 o_most, ai E o_a11 8 o_kept, ai E o_a12 8 o_keptKind, ai E o_a13 8 o_keptFigure, ai E o_a14 8 o_sort, ai E o_a15 8 o_size, ai E o_a16 800 o_element]) hC q_X10_isGroup kw_5_136 (c_X10_isGroup l E o_h o_a0 o_a1 o_a2 o_a3 o_a8 o_a9 o_a11 o_a12 o_a13 o_a14 o_a15 o_a16 o_s o_m o_image o_was o_hasImage o_place o_rowAt o_rowEnd o_numbers o_most o_seed o_kept o_keptKind o_keptFigure o_sort o_size o_element o_thrown (o_element (((100 : Int32) * p1) + x83).toNatClampNeg) r113 h114) ⟨rfl, rfl⟩ ⟨Nat.le_of_ble_eq_true rfl, Nat.le_of_ble_eq_true rfl⟩ ⟨Nat.zero_le _, Nat.zero_le _⟩ hP rfl rfl rfl hG rfl hl.1 rfl (Nat.le_of_ble_eq_true rfl) dX10_law_68 rfl ?_
                refine lv_if_eq (tgt := 96) hx hb dX10_law_71 (by decide) (fun c115 => ?_) (fun c115 => ?_)
                · have hv := if_y c115 hv
                  refine lv_bipush (v := (-13 : Int32)) hx hb dX10_law_96 (by decide) ?_
                  refine lv_istore_n (lv' := [(3, .int (-13 : Int32)), (4, .int x83), (0, .ref o_h), (1, .int p1), (2, .int p2)]) hx hb dX10_law_98 rfl hl (by decide) rfl (fun ls hl => ?_)
                  refine lv_iinc (v := (x83 + (2 : Int32))) (lv' := [(4, .int (x83 + (2 : Int32))), (3, .int (-13 : Int32)), (0, .ref o_h), (1, .int p1), (2, .int p2)]) hx hb dX10_law_99 hl (k := 1) rfl rfl (by decide) rfl (fun ls hl => ?_)
                  refine lv_goto (tgt := 40) hx hb dX10_law_102 (by decide) ?_
                  exact ih40 (x83 + (2 : Int32)) (-13 : Int32) _ (lv_sub hl [0, 1, 2, 3, 4] rfl) hv
                · have hv := if_n c115 hv
                  refine lv_aload_n hx hb dX10_law_74 rfl (lv_at hl 2 rfl) ?_
                  refine va_get (D := E.1) (ci := 4) (v := .ref o_a16) (C := RX10) (T := TX10) (N := 18) hx hb ht i_X10 hown hK hP 0 rfl rfl 16 (by decide) (ht _ kw_4_150) (fun _ h9 => h9) rfl dX10_law_75 ?_
                  refine lv_bipush (v := (100 : Int32)) hx hb dX10_law_78 (by decide) ?_
                  refine lv_iload_n hx hb dX10_law_80 rfl (lv_at hl 3 rfl) ?_
                  refine lv_imul hx hb dX10_law_81 ?_
                  refine lv_iload hx hb dX10_law_82 (lv_at hl 0 rfl) ?_
                  refine lv_iadd hx hb dX10_law_84 ?_
                  refine lv_iconst (v := (1 : Int32)) hx hb dX10_law_85 (by decide) ?_
                  refine lv_iadd hx hb dX10_law_86 ?_
                  obtain ⟨g116, hv⟩ := gd_s hv
                  refine va_iald hx hb hK hP 12 0 rfl rfl (ix_s g116) dX10_law_87 ?_
                  refine lv_iconst (v := (0 : Int32)) hx hb dX10_law_88 (by decide) ?_
                  refine lv_iconst (v := (1 : Int32)) hx hb dX10_law_89 (by decide) ?_
                  obtain ⟨r117, h118, hv⟩ := ob_s hv
                  refine rdS (rest := []) (st1 := [.int r117]) (w := []) hC q_X10_isIn kw_4_200 (c_X10_isIn l E (o_element ((((100 : Int32) * p1) + x83) + (1 : Int32)).toNatClampNeg) (0 : Int32) (1 : Int32) r117 h118) ⟨rfl, rfl⟩ ⟨Nat.le_of_ble_eq_true rfl, Nat.le_of_ble_eq_true rfl⟩ ⟨Nat.zero_le _, Nat.zero_le _⟩ (hP.sub (ws' := []) [] rfl) hG rfl hl.1 rfl (Nat.le_of_ble_eq_true rfl) dX10_law_90 rfl ?_
                  refine lv_if_ne (tgt := 99) hx hb dX10_law_93 (by decide) (fun c119 => ?_) (fun c119 => ?_)
                  · have hv := if_n c119 hv
                    refine lv_iinc (v := (x83 + (2 : Int32))) (lv' := [(4, .int (x83 + (2 : Int32))), (3, .int x84), (0, .ref o_h), (1, .int p1), (2, .int p2)]) hx hb dX10_law_99 hl (k := 0) rfl rfl (by decide) rfl (fun ls hl => ?_)
                    refine lv_goto (tgt := 40) hx hb dX10_law_102 (by decide) ?_
                    exact ih40 (x83 + (2 : Int32)) x84 _ (lv_sub hl [0, 1, 2, 3, 4] rfl) hv
                  · have hv := if_y c119 hv
                    refine lv_bipush (v := (-13 : Int32)) hx hb dX10_law_96 (by decide) ?_
                    refine lv_istore_n (lv' := [(3, .int (-13 : Int32)), (4, .int x83), (0, .ref o_h), (1, .int p1), (2, .int p2)]) hx hb dX10_law_98 rfl hl (by decide) rfl (fun ls hl => ?_)
                    refine lv_iinc (v := (x83 + (2 : Int32))) (lv' := [(4, .int (x83 + (2 : Int32))), (3, .int (-13 : Int32)), (0, .ref o_h), (1, .int p1), (2, .int p2)]) hx hb dX10_law_99 hl (k := 1) rfl rfl (by decide) rfl (fun ls hl => ?_)
                    refine lv_goto (tgt := 40) hx hb dX10_law_102 (by decide) ?_
                    exact ih40 (x83 + (2 : Int32)) (-13 : Int32) _ (lv_sub hl [0, 1, 2, 3, 4] rfl) hv
        exact hL40 N (0 : Int32) (-13 : Int32) _ (lv_sub hl [0, 1, 2, 3, 4] rfl) hv
  · have hv := if_y c3 hv
    refine lv_iconst (v := (-1 : Int32)) hx hb dX10_law_9 (by decide) ?_
    exact W.iret (v := (-1 : Int32)) hx hb hr (fun t h9 _ => ⟨rv_i hv, h9⟩) (fun q h => absurd h List.not_mem_nil) dX10_law_10 hlk
theorem dX10_whatIs_0 : decode cX10_whatIs 0 = .ok (.aload_n 0, 1) := by decide +kernel
theorem dX10_whatIs_1 : decode cX10_whatIs 1 = .ok (.iload_n 2, 1) := by decide +kernel
theorem dX10_whatIs_2 : decode cX10_whatIs 2 = .ok (.invokevirtual 134, 3) := by decide +kernel
theorem dX10_whatIs_5 : decode cX10_whatIs 5 = .ok (.ifCond .eq 12, 3) := by decide +kernel
theorem dX10_whatIs_8 : decode cX10_whatIs 8 = .ok (.iload_n 3, 1) := by decide +kernel
theorem dX10_whatIs_9 : decode cX10_whatIs 9 = .ok (.iconst 0, 1) := by decide +kernel
theorem dX10_whatIs_10 : decode cX10_whatIs 10 = .ok (.iconst 1, 1) := by decide +kernel
theorem dX10_whatIs_11 : decode cX10_whatIs 11 = .ok (.invokestatic 46, 3) := by decide +kernel
theorem dX10_whatIs_14 : decode cX10_whatIs 14 = .ok (.ifCond .ne 5, 3) := by decide +kernel
theorem dX10_whatIs_17 : decode cX10_whatIs 17 = .ok (.iconst (-1), 1) := by decide +kernel
theorem dX10_whatIs_18 : decode cX10_whatIs 18 = .ok (.ireturn, 1) := by decide +kernel
theorem dX10_whatIs_19 : decode cX10_whatIs 19 = .ok (.aload_n 0, 1) := by decide +kernel
theorem dX10_whatIs_20 : decode cX10_whatIs 20 = .ok (.iload_n 1, 1) := by decide +kernel
theorem dX10_whatIs_21 : decode cX10_whatIs 21 = .ok (.iconst (-1), 1) := by decide +kernel
theorem dX10_whatIs_22 : decode cX10_whatIs 22 = .ok (.invokevirtual 141, 3) := by decide +kernel
theorem dX10_whatIs_25 : decode cX10_whatIs 25 = .ok (.istore 4, 2) := by decide +kernel
theorem dX10_whatIs_27 : decode cX10_whatIs 27 = .ok (.iload 4, 2) := by decide +kernel
theorem dX10_whatIs_29 : decode cX10_whatIs 29 = .ok (.ifCond .eq 6, 3) := by decide +kernel
theorem dX10_whatIs_32 : decode cX10_whatIs 32 = .ok (.iload 4, 2) := by decide +kernel
theorem dX10_whatIs_34 : decode cX10_whatIs 34 = .ok (.ireturn, 1) := by decide +kernel
theorem dX10_whatIs_35 : decode cX10_whatIs 35 = .ok (.iconst 0, 1) := by decide +kernel
theorem dX10_whatIs_36 : decode cX10_whatIs 36 = .ok (.istore 5, 2) := by decide +kernel
theorem dX10_whatIs_38 : decode cX10_whatIs 38 = .ok (.iconst 0, 1) := by decide +kernel
theorem dX10_whatIs_39 : decode cX10_whatIs 39 = .ok (.istore 6, 2) := by decide +kernel
theorem dX10_whatIs_41 : decode cX10_whatIs 41 = .ok (.iload 6, 2) := by decide +kernel
theorem dX10_whatIs_43 : decode cX10_whatIs 43 = .ok (.iload_n 3, 1) := by decide +kernel
theorem dX10_whatIs_44 : decode cX10_whatIs 44 = .ok (.ifCond .ne 8, 3) := by decide +kernel
theorem dX10_whatIs_47 : decode cX10_whatIs 47 = .ok (.bipush 8, 2) := by decide +kernel
theorem dX10_whatIs_49 : decode cX10_whatIs 49 = .ok (.goto 5, 3) := by decide +kernel
theorem dX10_whatIs_52 : decode cX10_whatIs 52 = .ok (.bipush 10, 2) := by decide +kernel
theorem dX10_whatIs_54 : decode cX10_whatIs 54 = .ok (.if_icmp .ge 133, 3) := by decide +kernel
theorem dX10_whatIs_57 : decode cX10_whatIs 57 = .ok (.iconst 1, 1) := by decide +kernel
theorem dX10_whatIs_58 : decode cX10_whatIs 58 = .ok (.istore 7, 2) := by decide +kernel
theorem dX10_whatIs_60 : decode cX10_whatIs 60 = .ok (.aload_n 0, 1) := by decide +kernel
theorem dX10_whatIs_61 : decode cX10_whatIs 61 = .ok (.getfield 9, 3) := by decide +kernel
theorem dX10_whatIs_64 : decode cX10_whatIs 64 = .ok (.aload_n 0, 1) := by decide +kernel
theorem dX10_whatIs_65 : decode cX10_whatIs 65 = .ok (.getfield 13, 3) := by decide +kernel
theorem dX10_whatIs_68 : decode cX10_whatIs 68 = .ok (.invokestatic 148, 3) := by decide +kernel
theorem dX10_whatIs_71 : decode cX10_whatIs 71 = .ok (.aload_n 0, 1) := by decide +kernel
theorem dX10_whatIs_72 : decode cX10_whatIs 72 = .ok (.getfield 13, 3) := by decide +kernel
theorem dX10_whatIs_75 : decode cX10_whatIs 75 = .ok (.iload_n 2, 1) := by decide +kernel
theorem dX10_whatIs_76 : decode cX10_whatIs 76 = .ok (.iload_n 3, 1) := by decide +kernel
theorem dX10_whatIs_77 : decode cX10_whatIs 77 = .ok (.invokestatic 50, 3) := by decide +kernel
theorem dX10_whatIs_80 : decode cX10_whatIs 80 = .ok (.iload 6, 2) := by decide +kernel
theorem dX10_whatIs_82 : decode cX10_whatIs 82 = .ok (.iastore, 1) := by decide +kernel
theorem dX10_whatIs_83 : decode cX10_whatIs 83 = .ok (.iconst 0, 1) := by decide +kernel
theorem dX10_whatIs_84 : decode cX10_whatIs 84 = .ok (.istore 8, 2) := by decide +kernel
theorem dX10_whatIs_86 : decode cX10_whatIs 86 = .ok (.iload 8, 2) := by decide +kernel
theorem dX10_whatIs_88 : decode cX10_whatIs 88 = .ok (.aload_n 0, 1) := by decide +kernel
theorem dX10_whatIs_89 : decode cX10_whatIs 89 = .ok (.getfield 40, 3) := by decide +kernel
theorem dX10_whatIs_92 : decode cX10_whatIs 92 = .ok (.iload_n 1, 1) := by decide +kernel
theorem dX10_whatIs_93 : decode cX10_whatIs 93 = .ok (.iaload, 1) := by decide +kernel
theorem dX10_whatIs_94 : decode cX10_whatIs 94 = .ok (.if_icmp .ge 69, 3) := by decide +kernel
theorem dX10_whatIs_97 : decode cX10_whatIs 97 = .ok (.aload_n 0, 1) := by decide +kernel
theorem dX10_whatIs_98 : decode cX10_whatIs 98 = .ok (.getfield 43, 3) := by decide +kernel
theorem dX10_whatIs_101 : decode cX10_whatIs 101 = .ok (.bipush 100, 2) := by decide +kernel
theorem dX10_whatIs_103 : decode cX10_whatIs 103 = .ok (.iload_n 1, 1) := by decide +kernel
theorem dX10_whatIs_104 : decode cX10_whatIs 104 = .ok (.imul, 1) := by decide +kernel
theorem dX10_whatIs_105 : decode cX10_whatIs 105 = .ok (.iload 8, 2) := by decide +kernel
theorem dX10_whatIs_107 : decode cX10_whatIs 107 = .ok (.iadd, 1) := by decide +kernel
theorem dX10_whatIs_108 : decode cX10_whatIs 108 = .ok (.iaload, 1) := by decide +kernel
theorem dX10_whatIs_109 : decode cX10_whatIs 109 = .ok (.istore 9, 2) := by decide +kernel
theorem dX10_whatIs_111 : decode cX10_whatIs 111 = .ok (.iload 7, 2) := by decide +kernel
theorem dX10_whatIs_113 : decode cX10_whatIs 113 = .ok (.iload 9, 2) := by decide +kernel
theorem dX10_whatIs_115 : decode cX10_whatIs 115 = .ok (.aload_n 0, 1) := by decide +kernel
theorem dX10_whatIs_116 : decode cX10_whatIs 116 = .ok (.getfield 37, 3) := by decide +kernel
theorem dX10_whatIs_119 : decode cX10_whatIs 119 = .ok (.iload_n 1, 1) := by decide +kernel
theorem dX10_whatIs_120 : decode cX10_whatIs 120 = .ok (.iaload, 1) := by decide +kernel
theorem dX10_whatIs_121 : decode cX10_whatIs 121 = .ok (.invokestatic 240, 3) := by decide +kernel
theorem dX10_whatIs_124 : decode cX10_whatIs 124 = .ok (.if_icmp .eq 18, 3) := by decide +kernel
theorem dX10_whatIs_127 : decode cX10_whatIs 127 = .ok (.iload 9, 2) := by decide +kernel
theorem dX10_whatIs_129 : decode cX10_whatIs 129 = .ok (.aload_n 0, 1) := by decide +kernel
theorem dX10_whatIs_130 : decode cX10_whatIs 130 = .ok (.getfield 13, 3) := by decide +kernel
theorem dX10_whatIs_133 : decode cX10_whatIs 133 = .ok (.iload_n 2, 1) := by decide +kernel
theorem dX10_whatIs_134 : decode cX10_whatIs 134 = .ok (.iconst 3, 1) := by decide +kernel
theorem dX10_whatIs_135 : decode cX10_whatIs 135 = .ok (.invokestatic 50, 3) := by decide +kernel
theorem dX10_whatIs_138 : decode cX10_whatIs 138 = .ok (.iaload, 1) := by decide +kernel
theorem dX10_whatIs_139 : decode cX10_whatIs 139 = .ok (.if_icmp .ne 7, 3) := by decide +kernel
theorem dX10_whatIs_142 : decode cX10_whatIs 142 = .ok (.iconst 1, 1) := by decide +kernel
theorem dX10_whatIs_143 : decode cX10_whatIs 143 = .ok (.goto 4, 3) := by decide +kernel
theorem dX10_whatIs_146 : decode cX10_whatIs 146 = .ok (.iconst 0, 1) := by decide +kernel
theorem dX10_whatIs_147 : decode cX10_whatIs 147 = .ok (.iand, 1) := by decide +kernel
theorem dX10_whatIs_148 : decode cX10_whatIs 148 = .ok (.istore 7, 2) := by decide +kernel
theorem dX10_whatIs_150 : decode cX10_whatIs 150 = .ok (.aload_n 0, 1) := by decide +kernel
theorem dX10_whatIs_151 : decode cX10_whatIs 151 = .ok (.getfield 13, 3) := by decide +kernel
theorem dX10_whatIs_154 : decode cX10_whatIs 154 = .ok (.invokestatic 109, 3) := by decide +kernel
theorem dX10_whatIs_157 : decode cX10_whatIs 157 = .ok (.iinc 8 1, 3) := by decide +kernel
theorem dX10_whatIs_160 : decode cX10_whatIs 160 = .ok (.goto (-74), 3) := by decide +kernel
theorem dX10_whatIs_163 : decode cX10_whatIs 163 = .ok (.iload 5, 2) := by decide +kernel
theorem dX10_whatIs_165 : decode cX10_whatIs 165 = .ok (.iload 7, 2) := by decide +kernel
theorem dX10_whatIs_167 : decode cX10_whatIs 167 = .ok (.ifCond .eq 10, 3) := by decide +kernel
theorem dX10_whatIs_170 : decode cX10_whatIs 170 = .ok (.iconst 1, 1) := by decide +kernel
theorem dX10_whatIs_171 : decode cX10_whatIs 171 = .ok (.iload 6, 2) := by decide +kernel
theorem dX10_whatIs_173 : decode cX10_whatIs 173 = .ok (.ishl, 1) := by decide +kernel
theorem dX10_whatIs_174 : decode cX10_whatIs 174 = .ok (.goto 4, 3) := by decide +kernel
theorem dX10_whatIs_177 : decode cX10_whatIs 177 = .ok (.iconst 0, 1) := by decide +kernel
theorem dX10_whatIs_178 : decode cX10_whatIs 178 = .ok (.ior, 1) := by decide +kernel
theorem dX10_whatIs_179 : decode cX10_whatIs 179 = .ok (.istore 5, 2) := by decide +kernel
theorem dX10_whatIs_181 : decode cX10_whatIs 181 = .ok (.iinc 6 1, 3) := by decide +kernel
theorem dX10_whatIs_184 : decode cX10_whatIs 184 = .ok (.goto (-143), 3) := by decide +kernel
theorem dX10_whatIs_187 : decode cX10_whatIs 187 = .ok (.iload 5, 2) := by decide +kernel
theorem dX10_whatIs_189 : decode cX10_whatIs 189 = .ok (.ireturn, 1) := by decide +kernel
def L_X10_whatIs_86 (N : Nat) (o_sort : Nat → Int32) (o_size : Nat → Int32) (o_element : Nat → Int32) (p1 : Int32) (p2 : Int32) (k_86 : Int32 → Int32 → (Nat → Int32) → Option (Int32 × (Nat → Int32))) : Nat → Int32 → Int32 → (Nat → Int32) → Option (Int32 × (Nat → Int32))
  | 0, _, _, _ => none
  | n86 + 1, x22, x23, y24 => gd (ix p1 8) (if (o_size p1.toNatClampNeg) ≤ x22 then k_86 x22 x23 y24 else gd (ix (((100 : Int32) * p1) + x22) 800) (nm (o_element (((100 : Int32) * p1) + x22).toNatClampNeg) (fun z28 => gd (ix p1 8) (ob (f_X10_leastOf (o_sort p1.toNatClampNeg)) (fun r30 => if z28 = r30 then ob (f_X10_day N y24) (fun y33 => L_X10_whatIs_86 N o_sort o_size o_element p1 p2 k_86 n86 (x22 + (1 : Int32)) (x23 &&& (1 : Int32)) y33) else ob (f_X10_of p2 (3 : Int32)) (fun r35 => gd (ix r35 42) (if z28 = (y24 r35.toNatClampNeg) then ob (f_X10_day N y24) (fun y41 => L_X10_whatIs_86 N o_sort o_size o_element p1 p2 k_86 n86 (x22 + (1 : Int32)) (x23 &&& (1 : Int32)) y41) else ob (f_X10_day N y24) (fun y39 => L_X10_whatIs_86 N o_sort o_size o_element p1 p2 k_86 n86 (x22 + (1 : Int32)) (x23 &&& (0 : Int32)) y39))))))))
def L_X10_whatIs_41 (N : Nat) (o_s : Nat → Int32) (o_sort : Nat → Int32) (o_size : Nat → Int32) (o_element : Nat → Int32) (p1 : Int32) (p2 : Int32) (p3 : Int32) : Nat → Int32 → Int32 → (Nat → Int32) → Option (Int32 × (Nat → Int32))
  | 0, _, _, _ => none
  | n41 + 1, x11, x12, y13 => if p3 = 0 then if (8 : Int32) ≤ x11 then some (x12, y13) else ob (f_X10_copies N o_s y13) (fun y49 => ob (f_X10_of p2 p3) (fun r51 => gd (ix r51 42) (nm (upd y49 r51.toNatClampNeg x11) (fun f54 => L_X10_whatIs_86 N o_sort o_size o_element p1 p2 (fun x76 x77 y78 => if x77 = 0 then L_X10_whatIs_41 N o_s o_sort o_size o_element p1 p2 p3 n41 (x11 + (1 : Int32)) (x12 ||| (0 : Int32)) y78 else nm (x12 ||| ((1 : Int32) <<< (x11 &&& 31))) (fun z80 => L_X10_whatIs_41 N o_s o_sort o_size o_element p1 p2 p3 n41 (x11 + (1 : Int32)) z80 y78)) N (0 : Int32) (1 : Int32) f54)))) else if (10 : Int32) ≤ x11 then some (x12, y13) else ob (f_X10_copies N o_s y13) (fun y16 => ob (f_X10_of p2 p3) (fun r18 => gd (ix r18 42) (nm (upd y16 r18.toNatClampNeg x11) (fun f21 => L_X10_whatIs_86 N o_sort o_size o_element p1 p2 (fun x43 x44 y45 => if x44 = 0 then L_X10_whatIs_41 N o_s o_sort o_size o_element p1 p2 p3 n41 (x11 + (1 : Int32)) (x12 ||| (0 : Int32)) y45 else nm (x12 ||| ((1 : Int32) <<< (x11 &&& 31))) (fun z47 => L_X10_whatIs_41 N o_s o_sort o_size o_element p1 p2 p3 n41 (x11 + (1 : Int32)) z47 y45)) N (0 : Int32) (1 : Int32) f21))))
def f_X10_whatIs (N : Nat) (o_s : Nat → Int32) (o_m : Nat → Int32) (o_kept : Nat → Int32) (o_sort : Nat → Int32) (o_size : Nat → Int32) (o_element : Nat → Int32) (p1 : Int32) (p2 : Int32) (p3 : Int32) : Option (Int32 × (Nat → Int32)) := ob (f_X10_isSpeaker o_s p2) (fun r1 => if r1 = 0 then nm (-1 : Int32) (fun z4 => some (z4, o_m)) else ob (f_X10_isIn p3 (0 : Int32) (1 : Int32)) (fun r5 => if r5 = 0 then nm (-1 : Int32) (fun z81 => some (z81, o_m)) else ob (f_X10_wrongRow o_kept o_sort p1 (-1 : Int32)) (fun r8 => if r8 = 0 then L_X10_whatIs_41 N o_s o_sort o_size o_element p1 p2 p3 N (0 : Int32) (0 : Int32) o_m else some (r8, o_m))))
set_option maxHeartbeats 4000000 in
set_option maxRecDepth 100000 in
theorem c_X10_whatIs (l : Launch) (E : EE) (o_h : Nat) (o_a0 : Nat) (o_a1 : Nat) (o_a2 : Nat) (o_a3 : Nat) (o_a8 : Nat) (o_a9 : Nat) (o_a11 : Nat) (o_a12 : Nat) (o_a13 : Nat) (o_a14 : Nat) (o_a15 : Nat) (o_a16 : Nat) (o_s : Nat → Int32) (o_m : Nat → Int32) (o_image : Nat → Int32) (o_was : Nat → Int32) (o_hasImage : Int32) (o_place : Int32) (o_rowAt : Int32) (o_rowEnd : Int32) (o_numbers : Nat → Int32) (o_most : Nat → Int32) (o_seed : Int32) (o_kept : Nat → Int32) (o_keptKind : Nat → Int32) (o_keptFigure : Nat → Int32) (o_sort : Nat → Int32) (o_size : Nat → Int32) (o_element : Nat → Int32) (o_thrown : Int32) (p1 : Int32) (p2 : Int32) (p3 : Int32) (N : Nat) (res : Int32) (w_o_m : Nat → Int32) (hv : f_X10_whatIs N o_s o_m o_kept o_sort o_size o_element p1 p2 p3 = some (res, w_o_m)) : Wr l E yX10_whatIs cX10_whatIs 10 (some .int) ({ frames := 5, cells := 0, slots := 0, locals := 111 }) [.ref o_h, .int p1, .int p2, .int p3] [oMo o_h o_a0 o_a1 o_a2 o_a3 o_hasImage o_place o_rowAt o_rowEnd o_a8 o_a9 o_seed o_a11 o_a12 o_a13 o_a14 o_a15 o_a16 o_thrown, ai E o_a0 42 o_s, ai E o_a1 42 o_m, ai E o_a2 42 o_image, ai E o_a3 42 o_was, ai E o_a8 3 o_numbers, ai E o_a9 8192 o_most, ai E o_a11 8 o_kept, ai E o_a12 8 o_keptKind, ai E o_a13 8 o_keptFigure, ai E o_a14 8 o_sort, ai E o_a15 8 o_size, ai E o_a16 800 o_element] [oMo o_h o_a0 o_a1 o_a2 o_a3 o_hasImage o_place o_rowAt o_rowEnd o_a8 o_a9 o_seed o_a11 o_a12 o_a13 o_a14 o_a15 o_a16 o_thrown, ai E o_a0 42 o_s, ai E o_a1 42 w_o_m, ai E o_a2 42 o_image, ai E o_a3 42 o_was, ai E o_a8 3 o_numbers, ai E o_a9 8192 o_most, ai E o_a11 8 o_kept, ai E o_a12 8 o_keptKind, ai E o_a13 8 o_keptFigure, ai E o_a14 8 o_sort, ai E o_a15 8 o_size, ai E o_a16 800 o_element] (some (.int res)) := by
  refine Wr.intro RX10 (by decide) rfl (Nat.le_of_ble_eq_true rfl) ?_
  intro p e s m below meth c ls A hC hr hlk hmn hP hD hS hA hG hl
  obtain ⟨hx, hb, hml, hown, ht⟩ := id hC
  have hK := hG.1
  have hl : lv_has ls 10 [(0, .ref o_h), (1, .int p1), (2, .int p2), (3, .int p3)] := hl
  rw [f_X10_whatIs] at hv
  refine lv_aload_n hx hb dX10_whatIs_0 rfl (lv_at hl 0 rfl) ?_
  refine lv_iload_n hx hb dX10_whatIs_1 rfl (lv_at hl 2 rfl) ?_
  obtain ⟨r1, h2, hv⟩ := ob_s hv
  refine rdV 4 0 (As := [.int p2]) (rest := []) (st1 := [.int r1]) (w := [oMo o_h o_a0 o_a1 o_a2 o_a3 o_hasImage o_place o_rowAt o_rowEnd o_a8 o_a9 o_seed o_a11 o_a12 o_a13 o_a14 o_a15 o_a16 o_thrown, ai E o_a0 42 o_s, ai E o_a1 42 o_m, ai E o_a2 42 o_image, ai E o_a3 42 o_was, ai E o_a8 3 o_numbers, ai E o_a9 8192 o_most, ai E o_a11 8 o_kept, ai E o_a12 8 o_keptKind, ai E o_a13 8 o_keptFigure, ai E o_a14 8 o_sort, ai E o_a15 8 o_size, ai E o_a16 800 o_element]) hC q_X10_isSpeaker kw_4_229 (c_X10_isSpeaker l E o_h o_a0 o_a1 o_a2 o_a3 o_a8 o_a9 o_a11 o_a12 o_a13 o_a14 o_a15 o_a16 o_s o_m o_image o_was o_hasImage o_place o_rowAt o_rowEnd o_numbers o_most o_seed o_kept o_keptKind o_keptFigure o_sort o_size o_element o_thrown p2 r1 h2) ⟨rfl, rfl⟩ ⟨Nat.le_of_ble_eq_true rfl, Nat.le_of_ble_eq_true rfl⟩ ⟨Nat.zero_le _, Nat.zero_le _⟩ hP rfl rfl rfl hG rfl hl.1 rfl (Nat.le_of_ble_eq_true rfl) dX10_whatIs_2 rfl ?_
  refine lv_if_eq (tgt := 17) hx hb dX10_whatIs_5 (by decide) (fun c3 => ?_) (fun c3 => ?_)
  · have hv := if_y c3 hv
    refine lv_iconst (v := (-1 : Int32)) hx hb dX10_whatIs_17 (by decide) ?_
    refine lv_topi (fun z4 ez4 => ?_)
    have hv := nm_s ez4 hv
    cases hv
    exact W.iret hx hb hr (fun t h9 _ => ⟨rfl, by rw [h9]; exact hP, hS.F h9⟩) hS.2.2 dX10_whatIs_18 hlk
  · have hv := if_n c3 hv
    refine lv_iload_n hx hb dX10_whatIs_8 rfl (lv_at hl 3 rfl) ?_
    refine lv_iconst (v := (0 : Int32)) hx hb dX10_whatIs_9 (by decide) ?_
    refine lv_iconst (v := (1 : Int32)) hx hb dX10_whatIs_10 (by decide) ?_
    obtain ⟨r5, h6, hv⟩ := ob_s hv
    refine rdS (rest := []) (st1 := [.int r5]) (w := []) hC q_X10_isIn kw_4_200 (c_X10_isIn l E p3 (0 : Int32) (1 : Int32) r5 h6) ⟨rfl, rfl⟩ ⟨Nat.le_of_ble_eq_true rfl, Nat.le_of_ble_eq_true rfl⟩ ⟨Nat.zero_le _, Nat.zero_le _⟩ (hP.sub (ws' := []) [] rfl) hG rfl hl.1 rfl (Nat.le_of_ble_eq_true rfl) dX10_whatIs_11 rfl ?_
    refine lv_if_ne (tgt := 19) hx hb dX10_whatIs_14 (by decide) (fun c7 => ?_) (fun c7 => ?_)
    · have hv := if_n c7 hv
      refine lv_aload_n hx hb dX10_whatIs_19 rfl (lv_at hl 0 rfl) ?_
      refine lv_iload_n hx hb dX10_whatIs_20 rfl (lv_at hl 1 rfl) ?_
      refine lv_iconst (v := (-1 : Int32)) hx hb dX10_whatIs_21 (by decide) ?_
      obtain ⟨r8, h9, hv⟩ := ob_s hv
      refine rdV 4 0 (As := [.int p1, .int (-1 : Int32)]) (rest := []) (st1 := [.int r8]) (w := [oMo o_h o_a0 o_a1 o_a2 o_a3 o_hasImage o_place o_rowAt o_rowEnd o_a8 o_a9 o_seed o_a11 o_a12 o_a13 o_a14 o_a15 o_a16 o_thrown, ai E o_a0 42 o_s, ai E o_a1 42 o_m, ai E o_a2 42 o_image, ai E o_a3 42 o_was, ai E o_a8 3 o_numbers, ai E o_a9 8192 o_most, ai E o_a11 8 o_kept, ai E o_a12 8 o_keptKind, ai E o_a13 8 o_keptFigure, ai E o_a14 8 o_sort, ai E o_a15 8 o_size, ai E o_a16 800 o_element]) hC q_X10_wrongRow kw_4_193 (c_X10_wrongRow l E o_h o_a0 o_a1 o_a2 o_a3 o_a8 o_a9 o_a11 o_a12 o_a13 o_a14 o_a15 o_a16 o_s o_m o_image o_was o_hasImage o_place o_rowAt o_rowEnd o_numbers o_most o_seed o_kept o_keptKind o_keptFigure o_sort o_size o_element o_thrown p1 (-1 : Int32) r8 h9) ⟨rfl, rfl⟩ ⟨Nat.le_of_ble_eq_true rfl, Nat.le_of_ble_eq_true rfl⟩ ⟨Nat.zero_le _, Nat.zero_le _⟩ hP rfl rfl rfl hG rfl hl.1 rfl (Nat.le_of_ble_eq_true rfl) dX10_whatIs_22 rfl ?_
      refine lv_istore (lv' := [(4, .int r8), (0, .ref o_h), (1, .int p1), (2, .int p2), (3, .int p3)]) hx hb dX10_whatIs_25 hl (by decide) rfl (fun ls hl => ?_)
      refine lv_iload hx hb dX10_whatIs_27 (lv_at hl 0 rfl) ?_
      refine lv_if_eq (tgt := 35) hx hb dX10_whatIs_29 (by decide) (fun c10 => ?_) (fun c10 => ?_)
      · have hv := if_y c10 hv
        refine lv_iconst (v := (0 : Int32)) hx hb dX10_whatIs_35 (by decide) ?_
        refine lv_istore (lv' := [(5, .int (0 : Int32)), (4, .int r8), (0, .ref o_h), (1, .int p1), (2, .int p2), (3, .int p3)]) hx hb dX10_whatIs_36 hl (by decide) rfl (fun ls hl => ?_)
        refine lv_iconst (v := (0 : Int32)) hx hb dX10_whatIs_38 (by decide) ?_
        refine lv_istore (lv' := [(6, .int (0 : Int32)), (5, .int (0 : Int32)), (4, .int r8), (0, .ref o_h), (1, .int p1), (2, .int p2), (3, .int p3)]) hx hb dX10_whatIs_39 hl (by decide) rfl (fun ls hl => ?_)
        have hL41 : ∀ (n : Nat) (x11 : Int32) (x12 : Int32) (y13 : Nat → Int32) (H : Heap) (locs : List Loc) (ls : Array Slot), va_P E.1 vwCl [oMo o_h o_a0 o_a1 o_a2 o_a3 o_hasImage o_place o_rowAt o_rowEnd o_a8 o_a9 o_seed o_a11 o_a12 o_a13 o_a14 o_a15 o_a16 o_thrown, ai E o_a0 42 o_s, ai E o_a1 42 y13, ai E o_a2 42 o_image, ai E o_a3 42 o_was, ai E o_a8 3 o_numbers, ai E o_a9 8192 o_most, ai E o_a11 8 o_kept, ai E o_a12 8 o_keptKind, ai E o_a13 8 o_keptFigure, ai E o_a14 8 o_sort, ai E o_a15 8 o_size, ai E o_a16 800 o_element] H → va_D A [oMo o_h o_a0 o_a1 o_a2 o_a3 o_hasImage o_place o_rowAt o_rowEnd o_a8 o_a9 o_seed o_a11 o_a12 o_a13 o_a14 o_a15 o_a16 o_thrown, ai E o_a0 42 o_s, ai E o_a1 42 y13, ai E o_a2 42 o_image, ai E o_a3 42 o_was, ai E o_a8 3 o_numbers, ai E o_a9 8192 o_most, ai E o_a11 8 o_kept, ai E o_a12 8 o_keptKind, ai E o_a13 8 o_keptFigure, ai E o_a14 8 o_sort, ai E o_a15 8 o_size, ai E o_a16 800 o_element] → va_S A s.heap H locs → lv_has ls 10 [(6, .int x11), (5, .int x12), (0, .ref o_h), (1, .int p1), (2, .int p2), (3, .int p3)] → L_X10_whatIs_41 N o_s o_sort o_size o_element p1 p2 p3 n x11 x12 y13 = some (res, w_o_m) → W p l e ({ frames := 5, cells := 0, slots := 0, locals := 111 }) s m [.ref o_h, .int p1, .int p2, .int p3].toArray below meth c H locs 0 0 (MQ below (fun _ st oc t => oc = .returned (some (.int res)) ∧ va_P E.1 vwCl [oMo o_h o_a0 o_a1 o_a2 o_a3 o_hasImage o_place o_rowAt o_rowEnd o_a8 o_a9 o_seed o_a11 o_a12 o_a13 o_a14 o_a15 o_a16 o_thrown, ai E o_a0 42 o_s, ai E o_a1 42 w_o_m, ai E o_a2 42 o_image, ai E o_a3 42 o_was, ai E o_a8 3 o_numbers, ai E o_a9 8192 o_most, ai E o_a11 8 o_kept, ai E o_a12 8 o_keptKind, ai E o_a13 8 o_keptFigure, ai E o_a14 8 o_sort, ai E o_a15 8 o_size, ai E o_a16 800 o_element] t.heap ∧ va_F A st t) [.ref o_h, .int p1, .int p2, .int p3].toArray s 0 0 A) (F0 m 41 ls []) := by
          intro n
          induction n with
          | zero => intro x11 x12 y13 H locs ls hP hD hS hl hv; cases hv
          | succ n41 ih41 =>
            intro x11 x12 y13 H locs ls hP hD hS hl hv
            rw [L_X10_whatIs_41] at hv
            refine lv_iload hx hb dX10_whatIs_41 (lv_at hl 0 rfl) ?_
            refine lv_iload_n hx hb dX10_whatIs_43 rfl (lv_at hl 5 rfl) ?_
            refine lv_if_ne (tgt := 52) hx hb dX10_whatIs_44 (by decide) (fun c14 => ?_) (fun c14 => ?_)
            · have hv := if_n c14 hv
              refine lv_bipush (v := (10 : Int32)) hx hb dX10_whatIs_52 (by decide) ?_
              refine lv_icmp_ge (tgt := 187) hx hb dX10_whatIs_54 (by decide) (fun c15 => ?_) (fun c15 => ?_)
              · have hv := if_y c15 hv
                refine lv_iload hx hb dX10_whatIs_187 (lv_at hl 1 rfl) ?_
                cases hv
                exact W.iret hx hb hr (fun t h9 _ => ⟨rfl, by rw [h9]; exact hP, hS.F h9⟩) hS.2.2 dX10_whatIs_189 hlk
              · have hv := if_n c15 hv
                refine lv_iconst (v := (1 : Int32)) hx hb dX10_whatIs_57 (by decide) ?_
                refine lv_istore (lv' := [(7, .int (1 : Int32)), (6, .int x11), (5, .int x12), (0, .ref o_h), (1, .int p1), (2, .int p2), (3, .int p3)]) hx hb dX10_whatIs_58 hl (by decide) rfl (fun ls hl => ?_)
                refine lv_aload_n hx hb dX10_whatIs_60 rfl (lv_at hl 3 rfl) ?_
                refine va_get (D := E.1) (ci := 4) (v := .ref o_a0) (C := RX10) (T := TX10) (N := 18) hx hb ht i_X10 hown hK hP 0 rfl rfl 0 (by decide) (ht _ kw_4_134) (fun _ h9 => h9) rfl dX10_whatIs_61 ?_
                refine lv_aload_n hx hb dX10_whatIs_64 rfl (lv_at hl 3 rfl) ?_
                refine va_get (D := E.1) (ci := 4) (v := .ref o_a1) (C := RX10) (T := TX10) (N := 18) hx hb ht i_X10 hown hK hP 0 rfl rfl 1 (by decide) (ht _ kw_4_135) (fun _ h9 => h9) rfl dX10_whatIs_65 ?_
                obtain ⟨y16, h17, hv⟩ := ob_s hv
                refine wrS (as := [o_h, o_a0, o_a1, o_a2, o_a3, o_a8, o_a9, o_a11, o_a12, o_a13, o_a14, o_a15, o_a16]) (wr := [oMo o_h o_a0 o_a1 o_a2 o_a3 o_hasImage o_place o_rowAt o_rowEnd o_a8 o_a9 o_seed o_a11 o_a12 o_a13 o_a14 o_a15 o_a16 o_thrown, ai E o_a2 42 o_image, ai E o_a3 42 o_was, ai E o_a8 3 o_numbers, ai E o_a9 8192 o_most, ai E o_a11 8 o_kept, ai E o_a12 8 o_keptKind, ai E o_a13 8 o_keptFigure, ai E o_a14 8 o_sort, ai E o_a15 8 o_size, ai E o_a16 800 o_element]) [1, 2] [0, 3, 4, 5, 6, 7, 8, 9, 10, 11, 12] (ws := [oMo o_h o_a0 o_a1 o_a2 o_a3 o_hasImage o_place o_rowAt o_rowEnd o_a8 o_a9 o_seed o_a11 o_a12 o_a13 o_a14 o_a15 o_a16 o_thrown, ai E o_a0 42 o_s, ai E o_a1 42 y13, ai E o_a2 42 o_image, ai E o_a3 42 o_was, ai E o_a8 3 o_numbers, ai E o_a9 8192 o_most, ai E o_a11 8 o_kept, ai E o_a12 8 o_keptKind, ai E o_a13 8 o_keptFigure, ai E o_a14 8 o_sort, ai E o_a15 8 o_size, ai E o_a16 800 o_element]) (ws' := [oMo o_h o_a0 o_a1 o_a2 o_a3 o_hasImage o_place o_rowAt o_rowEnd o_a8 o_a9 o_seed o_a11 o_a12 o_a13 o_a14 o_a15 o_a16 o_thrown, ai E o_a0 42 o_s, ai E o_a1 42 y16, ai E o_a2 42 o_image, ai E o_a3 42 o_was, ai E o_a8 3 o_numbers, ai E o_a9 8192 o_most, ai E o_a11 8 o_kept, ai E o_a12 8 o_keptKind, ai E o_a13 8 o_keptFigure, ai E o_a14 8 o_sort, ai E o_a15 8 o_size, ai E o_a16 800 o_element]) (rest := []) (st1 := []) hC q_X10_copies kw_4_215 (c_X10_copies l E o_a0 o_a1 o_s y13 N y16 h17) ⟨rfl, rfl⟩ ⟨Nat.le_of_ble_eq_true rfl, Nat.le_of_ble_eq_true rfl⟩ ⟨Nat.zero_le _, Nat.zero_le _⟩ hP hD hS hA hG (by decide) rfl rfl rfl rfl rfl rfl rfl rfl hl.1 rfl (Nat.le_of_ble_eq_true rfl) dX10_whatIs_68 rfl (fun H locs hP hD hS => ?_)
                refine lv_aload_n hx hb dX10_whatIs_71 rfl (lv_at hl 3 rfl) ?_
                refine va_get (D := E.1) (ci := 4) (v := .ref o_a1) (C := RX10) (T := TX10) (N := 18) hx hb ht i_X10 hown hK hP 0 rfl rfl 1 (by decide) (ht _ kw_4_135) (fun _ h9 => h9) rfl dX10_whatIs_72 ?_
                refine lv_iload_n hx hb dX10_whatIs_75 rfl (lv_at hl 5 rfl) ?_
                refine lv_iload_n hx hb dX10_whatIs_76 rfl (lv_at hl 6 rfl) ?_
                obtain ⟨r18, h19, hv⟩ := ob_s hv
                refine rdS (rest := [.ref o_a1]) (st1 := [.int r18, .ref o_a1]) (w := []) hC q_X10_of kw_4_226 (c_X10_of l E p2 p3 r18 h19) ⟨rfl, rfl⟩ ⟨Nat.le_of_ble_eq_true rfl, Nat.le_of_ble_eq_true rfl⟩ ⟨Nat.zero_le _, Nat.zero_le _⟩ (hP.sub (ws' := []) [] rfl) hG rfl hl.1 rfl (Nat.le_of_ble_eq_true rfl) dX10_whatIs_77 rfl ?_
                refine lv_iload hx hb dX10_whatIs_80 (lv_at hl 1 rfl) ?_
                obtain ⟨g20, hv⟩ := gd_s hv
                refine va_iast hx hb hK hP hD hS 2 0 rfl rfl (ix_s g20) dX10_whatIs_82 (fun H locs hP hD hS => ?_)
                have hP : va_P E.1 vwCl [oMo o_h o_a0 o_a1 o_a2 o_a3 o_hasImage o_place o_rowAt o_rowEnd o_a8 o_a9 o_seed o_a11 o_a12 o_a13 o_a14 o_a15 o_a16 o_thrown, ai E o_a0 42 o_s, ai E o_a1 42 (upd y16 r18.toNatClampNeg x11), ai E o_a2 42 o_image, ai E o_a3 42 o_was, ai E o_a8 3 o_numbers, ai E o_a9 8192 o_most, ai E o_a11 8 o_kept, ai E o_a12 8 o_keptKind, ai E o_a13 8 o_keptFigure, ai E o_a14 8 o_sort, ai E o_a15 8 o_size, ai E o_a16 800 o_element] H := hP
                have hD : va_D A [oMo o_h o_a0 o_a1 o_a2 o_a3 o_hasImage o_place o_rowAt o_rowEnd o_a8 o_a9 o_seed o_a11 o_a12 o_a13 o_a14 o_a15 o_a16 o_thrown, ai E o_a0 42 o_s, ai E o_a1 42 (upd y16 r18.toNatClampNeg x11), ai E o_a2 42 o_image, ai E o_a3 42 o_was, ai E o_a8 3 o_numbers, ai E o_a9 8192 o_most, ai E o_a11 8 o_kept, ai E o_a12 8 o_keptKind, ai E o_a13 8 o_keptFigure, ai E o_a14 8 o_sort, ai E o_a15 8 o_size, ai E o_a16 800 o_element] := hD
                obtain ⟨f21, ef21⟩ : ∃ z, z = (upd y16 r18.toNatClampNeg x11) := ⟨_, rfl⟩
                rw [← ef21] at hP hD
                have hv := nm_s ef21 hv
                refine lv_iconst (v := (0 : Int32)) hx hb dX10_whatIs_83 (by decide) ?_
                refine lv_istore (lv' := [(8, .int (0 : Int32)), (7, .int (1 : Int32)), (6, .int x11), (5, .int x12), (0, .ref o_h), (1, .int p1), (2, .int p2), (3, .int p3)]) hx hb dX10_whatIs_84 hl (by decide) rfl (fun ls hl => ?_)
                have hL86 : ∀ (k_86 : Int32 → Int32 → (Nat → Int32) → Option (Int32 × (Nat → Int32))), (∀ (x22 : Int32) (x23 : Int32) (y24 : Nat → Int32) (H : Heap) (locs : List Loc) (ls : Array Slot), va_P E.1 vwCl [oMo o_h o_a0 o_a1 o_a2 o_a3 o_hasImage o_place o_rowAt o_rowEnd o_a8 o_a9 o_seed o_a11 o_a12 o_a13 o_a14 o_a15 o_a16 o_thrown, ai E o_a0 42 o_s, ai E o_a1 42 y24, ai E o_a2 42 o_image, ai E o_a3 42 o_was, ai E o_a8 3 o_numbers, ai E o_a9 8192 o_most, ai E o_a11 8 o_kept, ai E o_a12 8 o_keptKind, ai E o_a13 8 o_keptFigure, ai E o_a14 8 o_sort, ai E o_a15 8 o_size, ai E o_a16 800 o_element] H → va_D A [oMo o_h o_a0 o_a1 o_a2 o_a3 o_hasImage o_place o_rowAt o_rowEnd o_a8 o_a9 o_seed o_a11 o_a12 o_a13 o_a14 o_a15 o_a16 o_thrown, ai E o_a0 42 o_s, ai E o_a1 42 y24, ai E o_a2 42 o_image, ai E o_a3 42 o_was, ai E o_a8 3 o_numbers, ai E o_a9 8192 o_most, ai E o_a11 8 o_kept, ai E o_a12 8 o_keptKind, ai E o_a13 8 o_keptFigure, ai E o_a14 8 o_sort, ai E o_a15 8 o_size, ai E o_a16 800 o_element] → va_S A s.heap H locs → lv_has ls 10 [(8, .int x22), (7, .int x23), (6, .int x11), (5, .int x12), (0, .ref o_h), (1, .int p1), (2, .int p2), (3, .int p3)] → k_86 x22 x23 y24 = some (res, w_o_m) → W p l e ({ frames := 5, cells := 0, slots := 0, locals := 111 }) s m [.ref o_h, .int p1, .int p2, .int p3].toArray below meth c H locs 0 0 (MQ below (fun _ st oc t => oc = .returned (some (.int res)) ∧ va_P E.1 vwCl [oMo o_h o_a0 o_a1 o_a2 o_a3 o_hasImage o_place o_rowAt o_rowEnd o_a8 o_a9 o_seed o_a11 o_a12 o_a13 o_a14 o_a15 o_a16 o_thrown, ai E o_a0 42 o_s, ai E o_a1 42 w_o_m, ai E o_a2 42 o_image, ai E o_a3 42 o_was, ai E o_a8 3 o_numbers, ai E o_a9 8192 o_most, ai E o_a11 8 o_kept, ai E o_a12 8 o_keptKind, ai E o_a13 8 o_keptFigure, ai E o_a14 8 o_sort, ai E o_a15 8 o_size, ai E o_a16 800 o_element] t.heap ∧ va_F A st t) [.ref o_h, .int p1, .int p2, .int p3].toArray s 0 0 A) (F0 m 163 ls [])) → ∀ (n : Nat) (x22 : Int32) (x23 : Int32) (y24 : Nat → Int32) (H : Heap) (locs : List Loc) (ls : Array Slot), va_P E.1 vwCl [oMo o_h o_a0 o_a1 o_a2 o_a3 o_hasImage o_place o_rowAt o_rowEnd o_a8 o_a9 o_seed o_a11 o_a12 o_a13 o_a14 o_a15 o_a16 o_thrown, ai E o_a0 42 o_s, ai E o_a1 42 y24, ai E o_a2 42 o_image, ai E o_a3 42 o_was, ai E o_a8 3 o_numbers, ai E o_a9 8192 o_most, ai E o_a11 8 o_kept, ai E o_a12 8 o_keptKind, ai E o_a13 8 o_keptFigure, ai E o_a14 8 o_sort, ai E o_a15 8 o_size, ai E o_a16 800 o_element] H → va_D A [oMo o_h o_a0 o_a1 o_a2 o_a3 o_hasImage o_place o_rowAt o_rowEnd o_a8 o_a9 o_seed o_a11 o_a12 o_a13 o_a14 o_a15 o_a16 o_thrown, ai E o_a0 42 o_s, ai E o_a1 42 y24, ai E o_a2 42 o_image, ai E o_a3 42 o_was, ai E o_a8 3 o_numbers, ai E o_a9 8192 o_most, ai E o_a11 8 o_kept, ai E o_a12 8 o_keptKind, ai E o_a13 8 o_keptFigure, ai E o_a14 8 o_sort, ai E o_a15 8 o_size, ai E o_a16 800 o_element] → va_S A s.heap H locs → lv_has ls 10 [(8, .int x22), (7, .int x23), (6, .int x11), (5, .int x12), (0, .ref o_h), (1, .int p1), (2, .int p2), (3, .int p3)] → L_X10_whatIs_86 N o_sort o_size o_element p1 p2 k_86 n x22 x23 y24 = some (res, w_o_m) → W p l e ({ frames := 5, cells := 0, slots := 0, locals := 111 }) s m [.ref o_h, .int p1, .int p2, .int p3].toArray below meth c H locs 0 0 (MQ below (fun _ st oc t => oc = .returned (some (.int res)) ∧ va_P E.1 vwCl [oMo o_h o_a0 o_a1 o_a2 o_a3 o_hasImage o_place o_rowAt o_rowEnd o_a8 o_a9 o_seed o_a11 o_a12 o_a13 o_a14 o_a15 o_a16 o_thrown, ai E o_a0 42 o_s, ai E o_a1 42 w_o_m, ai E o_a2 42 o_image, ai E o_a3 42 o_was, ai E o_a8 3 o_numbers, ai E o_a9 8192 o_most, ai E o_a11 8 o_kept, ai E o_a12 8 o_keptKind, ai E o_a13 8 o_keptFigure, ai E o_a14 8 o_sort, ai E o_a15 8 o_size, ai E o_a16 800 o_element] t.heap ∧ va_F A st t) [.ref o_h, .int p1, .int p2, .int p3].toArray s 0 0 A) (F0 m 86 ls []) := by
                  intro k_86 hk_86 n
                  induction n with
                  | zero => intro x22 x23 y24 H locs ls hP hD hS hl hv; cases hv
                  | succ n86 ih86 =>
                    intro x22 x23 y24 H locs ls hP hD hS hl hv
                    rw [L_X10_whatIs_86] at hv
                    refine lv_iload hx hb dX10_whatIs_86 (lv_at hl 0 rfl) ?_
                    refine lv_aload_n hx hb dX10_whatIs_88 rfl (lv_at hl 4 rfl) ?_
                    refine va_get (D := E.1) (ci := 4) (v := .ref o_a15) (C := RX10) (T := TX10) (N := 18) hx hb ht i_X10 hown hK hP 0 rfl rfl 15 (by decide) (ht _ kw_4_149) (fun _ h9 => h9) rfl dX10_whatIs_89 ?_
                    refine lv_iload_n hx hb dX10_whatIs_92 rfl (lv_at hl 5 rfl) ?_
                    obtain ⟨g25, hv⟩ := gd_s hv
                    refine va_iald hx hb hK hP 11 0 rfl rfl (ix_s g25) dX10_whatIs_93 ?_
                    refine lv_icmp_ge (tgt := 163) hx hb dX10_whatIs_94 (by decide) (fun c26 => ?_) (fun c26 => ?_)
                    · have hv := if_y c26 hv
                      exact hk_86 x22 x23 y24 _ _ _ hP hD hS (lv_sub hl [0, 1, 2, 3, 4, 5, 6, 7] rfl) hv
                    · have hv := if_n c26 hv
                      refine lv_aload_n hx hb dX10_whatIs_97 rfl (lv_at hl 4 rfl) ?_
                      refine va_get (D := E.1) (ci := 4) (v := .ref o_a16) (C := RX10) (T := TX10) (N := 18) hx hb ht i_X10 hown hK hP 0 rfl rfl 16 (by decide) (ht _ kw_4_150) (fun _ h9 => h9) rfl dX10_whatIs_98 ?_
                      refine lv_bipush (v := (100 : Int32)) hx hb dX10_whatIs_101 (by decide) ?_
                      refine lv_iload_n hx hb dX10_whatIs_103 rfl (lv_at hl 5 rfl) ?_
                      refine lv_imul hx hb dX10_whatIs_104 ?_
                      refine lv_iload hx hb dX10_whatIs_105 (lv_at hl 0 rfl) ?_
                      refine lv_iadd hx hb dX10_whatIs_107 ?_
                      obtain ⟨g27, hv⟩ := gd_s hv
                      refine va_iald hx hb hK hP 12 0 rfl rfl (ix_s g27) dX10_whatIs_108 ?_
                      refine lv_topi (fun z28 ez28 => ?_)
                      have hv := nm_s ez28 hv
                      refine lv_istore (lv' := [(9, .int z28), (8, .int x22), (7, .int x23), (6, .int x11), (5, .int x12), (0, .ref o_h), (1, .int p1), (2, .int p2), (3, .int p3)]) hx hb dX10_whatIs_109 hl (by decide) rfl (fun ls hl => ?_)
                      refine lv_iload hx hb dX10_whatIs_111 (lv_at hl 2 rfl) ?_
                      refine lv_iload hx hb dX10_whatIs_113 (lv_at hl 0 rfl) ?_
                      refine lv_aload_n hx hb dX10_whatIs_115 rfl (lv_at hl 5 rfl) ?_
                      refine va_get (D := E.1) (ci := 4) (v := .ref o_a14) (C := RX10) (T := TX10) (N := 18) hx hb ht i_X10 hown hK hP 0 rfl rfl 14 (by decide) (ht _ kw_4_148) (fun _ h9 => h9) rfl dX10_whatIs_116 ?_
                      refine lv_iload_n hx hb dX10_whatIs_119 rfl (lv_at hl 6 rfl) ?_
                      obtain ⟨g29, hv⟩ := gd_s hv
                      refine va_iald hx hb hK hP 10 0 rfl rfl (ix_s g29) dX10_whatIs_120 ?_
                      obtain ⟨r30, h31, hv⟩ := ob_s hv
                      refine rdS (rest := [.int z28, .int x23]) (st1 := [.int r30, .int z28, .int x23]) (w := []) hC q_X10_leastOf kw_6_13 (c_X10_leastOf l E (o_sort p1.toNatClampNeg) r30 h31) ⟨rfl, rfl⟩ ⟨Nat.le_of_ble_eq_true rfl, Nat.le_of_ble_eq_true rfl⟩ ⟨Nat.zero_le _, Nat.zero_le _⟩ (hP.sub (ws' := []) [] rfl) hG rfl hl.1 rfl (Nat.le_of_ble_eq_true rfl) dX10_whatIs_121 rfl ?_
                      refine lv_icmp_eq (tgt := 142) hx hb dX10_whatIs_124 (by decide) (fun c32 => ?_) (fun c32 => ?_)
                      · have hv := if_y c32 hv
                        refine lv_iconst (v := (1 : Int32)) hx hb dX10_whatIs_142 (by decide) ?_
                        refine lv_goto (tgt := 147) hx hb dX10_whatIs_143 (by decide) ?_
                        refine lv_iand hx hb dX10_whatIs_147 ?_
                        refine lv_istore (lv' := [(7, .int (x23 &&& (1 : Int32))), (9, .int z28), (8, .int x22), (6, .int x11), (5, .int x12), (0, .ref o_h), (1, .int p1), (2, .int p2), (3, .int p3)]) hx hb dX10_whatIs_148 hl (by decide) rfl (fun ls hl => ?_)
                        refine lv_aload_n hx hb dX10_whatIs_150 rfl (lv_at hl 5 rfl) ?_
                        refine va_get (D := E.1) (ci := 4) (v := .ref o_a1) (C := RX10) (T := TX10) (N := 18) hx hb ht i_X10 hown hK hP 0 rfl rfl 1 (by decide) (ht _ kw_4_135) (fun _ h9 => h9) rfl dX10_whatIs_151 ?_
                        obtain ⟨y33, h34, hv⟩ := ob_s hv
                        refine wrS (as := [o_h, o_a0, o_a1, o_a2, o_a3, o_a8, o_a9, o_a11, o_a12, o_a13, o_a14, o_a15, o_a16]) (wr := [oMo o_h o_a0 o_a1 o_a2 o_a3 o_hasImage o_place o_rowAt o_rowEnd o_a8 o_a9 o_seed o_a11 o_a12 o_a13 o_a14 o_a15 o_a16 o_thrown, ai E o_a0 42 o_s, ai E o_a2 42 o_image, ai E o_a3 42 o_was, ai E o_a8 3 o_numbers, ai E o_a9 8192 o_most, ai E o_a11 8 o_kept, ai E o_a12 8 o_keptKind, ai E o_a13 8 o_keptFigure, ai E o_a14 8 o_sort, ai E o_a15 8 o_size, ai E o_a16 800 o_element]) [2] [0, 1, 3, 4, 5, 6, 7, 8, 9, 10, 11, 12] (ws := [oMo o_h o_a0 o_a1 o_a2 o_a3 o_hasImage o_place o_rowAt o_rowEnd o_a8 o_a9 o_seed o_a11 o_a12 o_a13 o_a14 o_a15 o_a16 o_thrown, ai E o_a0 42 o_s, ai E o_a1 42 y24, ai E o_a2 42 o_image, ai E o_a3 42 o_was, ai E o_a8 3 o_numbers, ai E o_a9 8192 o_most, ai E o_a11 8 o_kept, ai E o_a12 8 o_keptKind, ai E o_a13 8 o_keptFigure, ai E o_a14 8 o_sort, ai E o_a15 8 o_size, ai E o_a16 800 o_element]) (ws' := [oMo o_h o_a0 o_a1 o_a2 o_a3 o_hasImage o_place o_rowAt o_rowEnd o_a8 o_a9 o_seed o_a11 o_a12 o_a13 o_a14 o_a15 o_a16 o_thrown, ai E o_a0 42 o_s, ai E o_a1 42 y33, ai E o_a2 42 o_image, ai E o_a3 42 o_was, ai E o_a8 3 o_numbers, ai E o_a9 8192 o_most, ai E o_a11 8 o_kept, ai E o_a12 8 o_keptKind, ai E o_a13 8 o_keptFigure, ai E o_a14 8 o_sort, ai E o_a15 8 o_size, ai E o_a16 800 o_element]) (rest := []) (st1 := []) hC q_X10_day kw_4_236 (c_X10_day l E o_a1 y24 N y33 h34) ⟨rfl, rfl⟩ ⟨Nat.le_of_ble_eq_true rfl, Nat.le_of_ble_eq_true rfl⟩ ⟨Nat.zero_le _, Nat.zero_le _⟩ hP hD hS hA hG (by decide) rfl rfl rfl rfl rfl rfl rfl rfl hl.1 rfl (Nat.le_of_ble_eq_true rfl) dX10_whatIs_154 rfl (fun H locs hP hD hS => ?_)
                        refine lv_iinc (v := (x22 + (1 : Int32))) (lv' := [(8, .int (x22 + (1 : Int32))), (7, .int (x23 &&& (1 : Int32))), (9, .int z28), (6, .int x11), (5, .int x12), (0, .ref o_h), (1, .int p1), (2, .int p2), (3, .int p3)]) hx hb dX10_whatIs_157 hl (k := 2) rfl rfl (by decide) rfl (fun ls hl => ?_)
                        refine lv_goto (tgt := 86) hx hb dX10_whatIs_160 (by decide) ?_
                        exact ih86 (x22 + (1 : Int32)) (x23 &&& (1 : Int32)) y33 _ _ _ hP hD hS (lv_sub hl [0, 1, 3, 4, 5, 6, 7, 8] rfl) hv
                      · have hv := if_n c32 hv
                        refine lv_iload hx hb dX10_whatIs_127 (lv_at hl 0 rfl) ?_
                        refine lv_aload_n hx hb dX10_whatIs_129 rfl (lv_at hl 5 rfl) ?_
                        refine va_get (D := E.1) (ci := 4) (v := .ref o_a1) (C := RX10) (T := TX10) (N := 18) hx hb ht i_X10 hown hK hP 0 rfl rfl 1 (by decide) (ht _ kw_4_135) (fun _ h9 => h9) rfl dX10_whatIs_130 ?_
                        refine lv_iload_n hx hb dX10_whatIs_133 rfl (lv_at hl 7 rfl) ?_
                        refine lv_iconst (v := (3 : Int32)) hx hb dX10_whatIs_134 (by decide) ?_
                        obtain ⟨r35, h36, hv⟩ := ob_s hv
                        refine rdS (rest := [.ref o_a1, .int z28, .int x23]) (st1 := [.int r35, .ref o_a1, .int z28, .int x23]) (w := []) hC q_X10_of kw_4_226 (c_X10_of l E p2 (3 : Int32) r35 h36) ⟨rfl, rfl⟩ ⟨Nat.le_of_ble_eq_true rfl, Nat.le_of_ble_eq_true rfl⟩ ⟨Nat.zero_le _, Nat.zero_le _⟩ (hP.sub (ws' := []) [] rfl) hG rfl hl.1 rfl (Nat.le_of_ble_eq_true rfl) dX10_whatIs_135 rfl ?_
                        obtain ⟨g37, hv⟩ := gd_s hv
                        refine va_iald hx hb hK hP 2 0 rfl rfl (ix_s g37) dX10_whatIs_138 ?_
                        refine lv_icmp_ne (tgt := 146) hx hb dX10_whatIs_139 (by decide) (fun c38 => ?_) (fun c38 => ?_)
                        · have hv := if_n c38 hv
                          refine lv_iconst (v := (0 : Int32)) hx hb dX10_whatIs_146 (by decide) ?_
                          refine lv_iand hx hb dX10_whatIs_147 ?_
                          refine lv_istore (lv' := [(7, .int (x23 &&& (0 : Int32))), (9, .int z28), (8, .int x22), (6, .int x11), (5, .int x12), (0, .ref o_h), (1, .int p1), (2, .int p2), (3, .int p3)]) hx hb dX10_whatIs_148 hl (by decide) rfl (fun ls hl => ?_)
                          refine lv_aload_n hx hb dX10_whatIs_150 rfl (lv_at hl 5 rfl) ?_
                          refine va_get (D := E.1) (ci := 4) (v := .ref o_a1) (C := RX10) (T := TX10) (N := 18) hx hb ht i_X10 hown hK hP 0 rfl rfl 1 (by decide) (ht _ kw_4_135) (fun _ h9 => h9) rfl dX10_whatIs_151 ?_
                          obtain ⟨y39, h40, hv⟩ := ob_s hv
                          refine wrS (as := [o_h, o_a0, o_a1, o_a2, o_a3, o_a8, o_a9, o_a11, o_a12, o_a13, o_a14, o_a15, o_a16]) (wr := [oMo o_h o_a0 o_a1 o_a2 o_a3 o_hasImage o_place o_rowAt o_rowEnd o_a8 o_a9 o_seed o_a11 o_a12 o_a13 o_a14 o_a15 o_a16 o_thrown, ai E o_a0 42 o_s, ai E o_a2 42 o_image, ai E o_a3 42 o_was, ai E o_a8 3 o_numbers, ai E o_a9 8192 o_most, ai E o_a11 8 o_kept, ai E o_a12 8 o_keptKind, ai E o_a13 8 o_keptFigure, ai E o_a14 8 o_sort, ai E o_a15 8 o_size, ai E o_a16 800 o_element]) [2] [0, 1, 3, 4, 5, 6, 7, 8, 9, 10, 11, 12] (ws := [oMo o_h o_a0 o_a1 o_a2 o_a3 o_hasImage o_place o_rowAt o_rowEnd o_a8 o_a9 o_seed o_a11 o_a12 o_a13 o_a14 o_a15 o_a16 o_thrown, ai E o_a0 42 o_s, ai E o_a1 42 y24, ai E o_a2 42 o_image, ai E o_a3 42 o_was, ai E o_a8 3 o_numbers, ai E o_a9 8192 o_most, ai E o_a11 8 o_kept, ai E o_a12 8 o_keptKind, ai E o_a13 8 o_keptFigure, ai E o_a14 8 o_sort, ai E o_a15 8 o_size, ai E o_a16 800 o_element]) (ws' := [oMo o_h o_a0 o_a1 o_a2 o_a3 o_hasImage o_place o_rowAt o_rowEnd o_a8 o_a9 o_seed o_a11 o_a12 o_a13 o_a14 o_a15 o_a16 o_thrown, ai E o_a0 42 o_s, ai E o_a1 42 y39, ai E o_a2 42 o_image, ai E o_a3 42 o_was, ai E o_a8 3 o_numbers, ai E o_a9 8192 o_most, ai E o_a11 8 o_kept, ai E o_a12 8 o_keptKind, ai E o_a13 8 o_keptFigure, ai E o_a14 8 o_sort, ai E o_a15 8 o_size, ai E o_a16 800 o_element]) (rest := []) (st1 := []) hC q_X10_day kw_4_236 (c_X10_day l E o_a1 y24 N y39 h40) ⟨rfl, rfl⟩ ⟨Nat.le_of_ble_eq_true rfl, Nat.le_of_ble_eq_true rfl⟩ ⟨Nat.zero_le _, Nat.zero_le _⟩ hP hD hS hA hG (by decide) rfl rfl rfl rfl rfl rfl rfl rfl hl.1 rfl (Nat.le_of_ble_eq_true rfl) dX10_whatIs_154 rfl (fun H locs hP hD hS => ?_)
                          refine lv_iinc (v := (x22 + (1 : Int32))) (lv' := [(8, .int (x22 + (1 : Int32))), (7, .int (x23 &&& (0 : Int32))), (9, .int z28), (6, .int x11), (5, .int x12), (0, .ref o_h), (1, .int p1), (2, .int p2), (3, .int p3)]) hx hb dX10_whatIs_157 hl (k := 2) rfl rfl (by decide) rfl (fun ls hl => ?_)
                          refine lv_goto (tgt := 86) hx hb dX10_whatIs_160 (by decide) ?_
                          exact ih86 (x22 + (1 : Int32)) (x23 &&& (0 : Int32)) y39 _ _ _ hP hD hS (lv_sub hl [0, 1, 3, 4, 5, 6, 7, 8] rfl) hv
                        · have hv := if_y c38 hv
                          refine lv_iconst (v := (1 : Int32)) hx hb dX10_whatIs_142 (by decide) ?_
                          refine lv_goto (tgt := 147) hx hb dX10_whatIs_143 (by decide) ?_
                          refine lv_iand hx hb dX10_whatIs_147 ?_
                          refine lv_istore (lv' := [(7, .int (x23 &&& (1 : Int32))), (9, .int z28), (8, .int x22), (6, .int x11), (5, .int x12), (0, .ref o_h), (1, .int p1), (2, .int p2), (3, .int p3)]) hx hb dX10_whatIs_148 hl (by decide) rfl (fun ls hl => ?_)
                          refine lv_aload_n hx hb dX10_whatIs_150 rfl (lv_at hl 5 rfl) ?_
                          refine va_get (D := E.1) (ci := 4) (v := .ref o_a1) (C := RX10) (T := TX10) (N := 18) hx hb ht i_X10 hown hK hP 0 rfl rfl 1 (by decide) (ht _ kw_4_135) (fun _ h9 => h9) rfl dX10_whatIs_151 ?_
                          obtain ⟨y41, h42, hv⟩ := ob_s hv
                          refine wrS (as := [o_h, o_a0, o_a1, o_a2, o_a3, o_a8, o_a9, o_a11, o_a12, o_a13, o_a14, o_a15, o_a16]) (wr := [oMo o_h o_a0 o_a1 o_a2 o_a3 o_hasImage o_place o_rowAt o_rowEnd o_a8 o_a9 o_seed o_a11 o_a12 o_a13 o_a14 o_a15 o_a16 o_thrown, ai E o_a0 42 o_s, ai E o_a2 42 o_image, ai E o_a3 42 o_was, ai E o_a8 3 o_numbers, ai E o_a9 8192 o_most, ai E o_a11 8 o_kept, ai E o_a12 8 o_keptKind, ai E o_a13 8 o_keptFigure, ai E o_a14 8 o_sort, ai E o_a15 8 o_size, ai E o_a16 800 o_element]) [2] [0, 1, 3, 4, 5, 6, 7, 8, 9, 10, 11, 12] (ws := [oMo o_h o_a0 o_a1 o_a2 o_a3 o_hasImage o_place o_rowAt o_rowEnd o_a8 o_a9 o_seed o_a11 o_a12 o_a13 o_a14 o_a15 o_a16 o_thrown, ai E o_a0 42 o_s, ai E o_a1 42 y24, ai E o_a2 42 o_image, ai E o_a3 42 o_was, ai E o_a8 3 o_numbers, ai E o_a9 8192 o_most, ai E o_a11 8 o_kept, ai E o_a12 8 o_keptKind, ai E o_a13 8 o_keptFigure, ai E o_a14 8 o_sort, ai E o_a15 8 o_size, ai E o_a16 800 o_element]) (ws' := [oMo o_h o_a0 o_a1 o_a2 o_a3 o_hasImage o_place o_rowAt o_rowEnd o_a8 o_a9 o_seed o_a11 o_a12 o_a13 o_a14 o_a15 o_a16 o_thrown, ai E o_a0 42 o_s, ai E o_a1 42 y41, ai E o_a2 42 o_image, ai E o_a3 42 o_was, ai E o_a8 3 o_numbers, ai E o_a9 8192 o_most, ai E o_a11 8 o_kept, ai E o_a12 8 o_keptKind, ai E o_a13 8 o_keptFigure, ai E o_a14 8 o_sort, ai E o_a15 8 o_size, ai E o_a16 800 o_element]) (rest := []) (st1 := []) hC q_X10_day kw_4_236 (c_X10_day l E o_a1 y24 N y41 h42) ⟨rfl, rfl⟩ ⟨Nat.le_of_ble_eq_true rfl, Nat.le_of_ble_eq_true rfl⟩ ⟨Nat.zero_le _, Nat.zero_le _⟩ hP hD hS hA hG (by decide) rfl rfl rfl rfl rfl rfl rfl rfl hl.1 rfl (Nat.le_of_ble_eq_true rfl) dX10_whatIs_154 rfl (fun H locs hP hD hS => ?_)
                          refine lv_iinc (v := (x22 + (1 : Int32))) (lv' := [(8, .int (x22 + (1 : Int32))), (7, .int (x23 &&& (1 : Int32))), (9, .int z28), (6, .int x11), (5, .int x12), (0, .ref o_h), (1, .int p1), (2, .int p2), (3, .int p3)]) hx hb dX10_whatIs_157 hl (k := 2) rfl rfl (by decide) rfl (fun ls hl => ?_)
                          refine lv_goto (tgt := 86) hx hb dX10_whatIs_160 (by decide) ?_
                          exact ih86 (x22 + (1 : Int32)) (x23 &&& (1 : Int32)) y41 _ _ _ hP hD hS (lv_sub hl [0, 1, 3, 4, 5, 6, 7, 8] rfl) hv
                refine hL86 _ (fun x43 x44 y45 H locs ls hP hD hS hl hv => ?_) N (0 : Int32) (1 : Int32) f21 _ _ _ hP hD hS (lv_sub hl [0, 1, 2, 3, 4, 5, 6, 7] rfl) hv
                refine lv_iload hx hb dX10_whatIs_163 (lv_at hl 3 rfl) ?_
                refine lv_iload hx hb dX10_whatIs_165 (lv_at hl 1 rfl) ?_
                refine lv_if_eq (tgt := 177) hx hb dX10_whatIs_167 (by decide) (fun c46 => ?_) (fun c46 => ?_)
                · have hv := if_y c46 hv
                  refine lv_iconst (v := (0 : Int32)) hx hb dX10_whatIs_177 (by decide) ?_
                  refine lv_ior hx hb dX10_whatIs_178 ?_
                  refine lv_istore (lv' := [(5, .int (x12 ||| (0 : Int32))), (8, .int x43), (7, .int x44), (6, .int x11), (0, .ref o_h), (1, .int p1), (2, .int p2), (3, .int p3)]) hx hb dX10_whatIs_179 hl (by decide) rfl (fun ls hl => ?_)
                  refine lv_iinc (v := (x11 + (1 : Int32))) (lv' := [(6, .int (x11 + (1 : Int32))), (5, .int (x12 ||| (0 : Int32))), (8, .int x43), (7, .int x44), (0, .ref o_h), (1, .int p1), (2, .int p2), (3, .int p3)]) hx hb dX10_whatIs_181 hl (k := 3) rfl rfl (by decide) rfl (fun ls hl => ?_)
                  refine lv_goto (tgt := 41) hx hb dX10_whatIs_184 (by decide) ?_
                  exact ih41 (x11 + (1 : Int32)) (x12 ||| (0 : Int32)) y45 _ _ _ hP hD hS (lv_sub hl [0, 1, 4, 5, 6, 7] rfl) hv
                · have hv := if_n c46 hv
                  refine lv_iconst (v := (1 : Int32)) hx hb dX10_whatIs_170 (by decide) ?_
                  refine lv_iload hx hb dX10_whatIs_171 (lv_at hl 2 rfl) ?_
                  refine lv_ishl hx hb dX10_whatIs_173 ?_
                  refine lv_goto (tgt := 178) hx hb dX10_whatIs_174 (by decide) ?_
                  refine lv_ior hx hb dX10_whatIs_178 ?_
                  refine lv_topi (fun z47 ez47 => ?_)
                  have hv := nm_s ez47 hv
                  refine lv_istore (lv' := [(5, .int z47), (8, .int x43), (7, .int x44), (6, .int x11), (0, .ref o_h), (1, .int p1), (2, .int p2), (3, .int p3)]) hx hb dX10_whatIs_179 hl (by decide) rfl (fun ls hl => ?_)
                  refine lv_iinc (v := (x11 + (1 : Int32))) (lv' := [(6, .int (x11 + (1 : Int32))), (5, .int z47), (8, .int x43), (7, .int x44), (0, .ref o_h), (1, .int p1), (2, .int p2), (3, .int p3)]) hx hb dX10_whatIs_181 hl (k := 3) rfl rfl (by decide) rfl (fun ls hl => ?_)
                  refine lv_goto (tgt := 41) hx hb dX10_whatIs_184 (by decide) ?_
                  exact ih41 (x11 + (1 : Int32)) z47 y45 _ _ _ hP hD hS (lv_sub hl [0, 1, 4, 5, 6, 7] rfl) hv
            · have hv := if_y c14 hv
              refine lv_bipush (v := (8 : Int32)) hx hb dX10_whatIs_47 (by decide) ?_
              refine lv_goto (tgt := 54) hx hb dX10_whatIs_49 (by decide) ?_
              refine lv_icmp_ge (tgt := 187) hx hb dX10_whatIs_54 (by decide) (fun c48 => ?_) (fun c48 => ?_)
              · have hv := if_y c48 hv
                refine lv_iload hx hb dX10_whatIs_187 (lv_at hl 1 rfl) ?_
                cases hv
                exact W.iret hx hb hr (fun t h9 _ => ⟨rfl, by rw [h9]; exact hP, hS.F h9⟩) hS.2.2 dX10_whatIs_189 hlk
              · have hv := if_n c48 hv
                refine lv_iconst (v := (1 : Int32)) hx hb dX10_whatIs_57 (by decide) ?_
                refine lv_istore (lv' := [(7, .int (1 : Int32)), (6, .int x11), (5, .int x12), (0, .ref o_h), (1, .int p1), (2, .int p2), (3, .int p3)]) hx hb dX10_whatIs_58 hl (by decide) rfl (fun ls hl => ?_)
                refine lv_aload_n hx hb dX10_whatIs_60 rfl (lv_at hl 3 rfl) ?_
                refine va_get (D := E.1) (ci := 4) (v := .ref o_a0) (C := RX10) (T := TX10) (N := 18) hx hb ht i_X10 hown hK hP 0 rfl rfl 0 (by decide) (ht _ kw_4_134) (fun _ h9 => h9) rfl dX10_whatIs_61 ?_
                refine lv_aload_n hx hb dX10_whatIs_64 rfl (lv_at hl 3 rfl) ?_
                refine va_get (D := E.1) (ci := 4) (v := .ref o_a1) (C := RX10) (T := TX10) (N := 18) hx hb ht i_X10 hown hK hP 0 rfl rfl 1 (by decide) (ht _ kw_4_135) (fun _ h9 => h9) rfl dX10_whatIs_65 ?_
                obtain ⟨y49, h50, hv⟩ := ob_s hv
                refine wrS (as := [o_h, o_a0, o_a1, o_a2, o_a3, o_a8, o_a9, o_a11, o_a12, o_a13, o_a14, o_a15, o_a16]) (wr := [oMo o_h o_a0 o_a1 o_a2 o_a3 o_hasImage o_place o_rowAt o_rowEnd o_a8 o_a9 o_seed o_a11 o_a12 o_a13 o_a14 o_a15 o_a16 o_thrown, ai E o_a2 42 o_image, ai E o_a3 42 o_was, ai E o_a8 3 o_numbers, ai E o_a9 8192 o_most, ai E o_a11 8 o_kept, ai E o_a12 8 o_keptKind, ai E o_a13 8 o_keptFigure, ai E o_a14 8 o_sort, ai E o_a15 8 o_size, ai E o_a16 800 o_element]) [1, 2] [0, 3, 4, 5, 6, 7, 8, 9, 10, 11, 12] (ws := [oMo o_h o_a0 o_a1 o_a2 o_a3 o_hasImage o_place o_rowAt o_rowEnd o_a8 o_a9 o_seed o_a11 o_a12 o_a13 o_a14 o_a15 o_a16 o_thrown, ai E o_a0 42 o_s, ai E o_a1 42 y13, ai E o_a2 42 o_image, ai E o_a3 42 o_was, ai E o_a8 3 o_numbers, ai E o_a9 8192 o_most, ai E o_a11 8 o_kept, ai E o_a12 8 o_keptKind, ai E o_a13 8 o_keptFigure, ai E o_a14 8 o_sort, ai E o_a15 8 o_size, ai E o_a16 800 o_element]) (ws' := [oMo o_h o_a0 o_a1 o_a2 o_a3 o_hasImage o_place o_rowAt o_rowEnd o_a8 o_a9 o_seed o_a11 o_a12 o_a13 o_a14 o_a15 o_a16 o_thrown, ai E o_a0 42 o_s, ai E o_a1 42 y49, ai E o_a2 42 o_image, ai E o_a3 42 o_was, ai E o_a8 3 o_numbers, ai E o_a9 8192 o_most, ai E o_a11 8 o_kept, ai E o_a12 8 o_keptKind, ai E o_a13 8 o_keptFigure, ai E o_a14 8 o_sort, ai E o_a15 8 o_size, ai E o_a16 800 o_element]) (rest := []) (st1 := []) hC q_X10_copies kw_4_215 (c_X10_copies l E o_a0 o_a1 o_s y13 N y49 h50) ⟨rfl, rfl⟩ ⟨Nat.le_of_ble_eq_true rfl, Nat.le_of_ble_eq_true rfl⟩ ⟨Nat.zero_le _, Nat.zero_le _⟩ hP hD hS hA hG (by decide) rfl rfl rfl rfl rfl rfl rfl rfl hl.1 rfl (Nat.le_of_ble_eq_true rfl) dX10_whatIs_68 rfl (fun H locs hP hD hS => ?_)
                refine lv_aload_n hx hb dX10_whatIs_71 rfl (lv_at hl 3 rfl) ?_
                refine va_get (D := E.1) (ci := 4) (v := .ref o_a1) (C := RX10) (T := TX10) (N := 18) hx hb ht i_X10 hown hK hP 0 rfl rfl 1 (by decide) (ht _ kw_4_135) (fun _ h9 => h9) rfl dX10_whatIs_72 ?_
                refine lv_iload_n hx hb dX10_whatIs_75 rfl (lv_at hl 5 rfl) ?_
                refine lv_iload_n hx hb dX10_whatIs_76 rfl (lv_at hl 6 rfl) ?_
                obtain ⟨r51, h52, hv⟩ := ob_s hv
                refine rdS (rest := [.ref o_a1]) (st1 := [.int r51, .ref o_a1]) (w := []) hC q_X10_of kw_4_226 (c_X10_of l E p2 p3 r51 h52) ⟨rfl, rfl⟩ ⟨Nat.le_of_ble_eq_true rfl, Nat.le_of_ble_eq_true rfl⟩ ⟨Nat.zero_le _, Nat.zero_le _⟩ (hP.sub (ws' := []) [] rfl) hG rfl hl.1 rfl (Nat.le_of_ble_eq_true rfl) dX10_whatIs_77 rfl ?_
                refine lv_iload hx hb dX10_whatIs_80 (lv_at hl 1 rfl) ?_
                obtain ⟨g53, hv⟩ := gd_s hv
                refine va_iast hx hb hK hP hD hS 2 0 rfl rfl (ix_s g53) dX10_whatIs_82 (fun H locs hP hD hS => ?_)
                have hP : va_P E.1 vwCl [oMo o_h o_a0 o_a1 o_a2 o_a3 o_hasImage o_place o_rowAt o_rowEnd o_a8 o_a9 o_seed o_a11 o_a12 o_a13 o_a14 o_a15 o_a16 o_thrown, ai E o_a0 42 o_s, ai E o_a1 42 (upd y49 r51.toNatClampNeg x11), ai E o_a2 42 o_image, ai E o_a3 42 o_was, ai E o_a8 3 o_numbers, ai E o_a9 8192 o_most, ai E o_a11 8 o_kept, ai E o_a12 8 o_keptKind, ai E o_a13 8 o_keptFigure, ai E o_a14 8 o_sort, ai E o_a15 8 o_size, ai E o_a16 800 o_element] H := hP
                have hD : va_D A [oMo o_h o_a0 o_a1 o_a2 o_a3 o_hasImage o_place o_rowAt o_rowEnd o_a8 o_a9 o_seed o_a11 o_a12 o_a13 o_a14 o_a15 o_a16 o_thrown, ai E o_a0 42 o_s, ai E o_a1 42 (upd y49 r51.toNatClampNeg x11), ai E o_a2 42 o_image, ai E o_a3 42 o_was, ai E o_a8 3 o_numbers, ai E o_a9 8192 o_most, ai E o_a11 8 o_kept, ai E o_a12 8 o_keptKind, ai E o_a13 8 o_keptFigure, ai E o_a14 8 o_sort, ai E o_a15 8 o_size, ai E o_a16 800 o_element] := hD
                obtain ⟨f54, ef54⟩ : ∃ z, z = (upd y49 r51.toNatClampNeg x11) := ⟨_, rfl⟩
                rw [← ef54] at hP hD
                have hv := nm_s ef54 hv
                refine lv_iconst (v := (0 : Int32)) hx hb dX10_whatIs_83 (by decide) ?_
                refine lv_istore (lv' := [(8, .int (0 : Int32)), (7, .int (1 : Int32)), (6, .int x11), (5, .int x12), (0, .ref o_h), (1, .int p1), (2, .int p2), (3, .int p3)]) hx hb dX10_whatIs_84 hl (by decide) rfl (fun ls hl => ?_)
                have hL86 : ∀ (k_86 : Int32 → Int32 → (Nat → Int32) → Option (Int32 × (Nat → Int32))), (∀ (x55 : Int32) (x56 : Int32) (y57 : Nat → Int32) (H : Heap) (locs : List Loc) (ls : Array Slot), va_P E.1 vwCl [oMo o_h o_a0 o_a1 o_a2 o_a3 o_hasImage o_place o_rowAt o_rowEnd o_a8 o_a9 o_seed o_a11 o_a12 o_a13 o_a14 o_a15 o_a16 o_thrown, ai E o_a0 42 o_s, ai E o_a1 42 y57, ai E o_a2 42 o_image, ai E o_a3 42 o_was, ai E o_a8 3 o_numbers, ai E o_a9 8192 o_most, ai E o_a11 8 o_kept, ai E o_a12 8 o_keptKind, ai E o_a13 8 o_keptFigure, ai E o_a14 8 o_sort, ai E o_a15 8 o_size, ai E o_a16 800 o_element] H → va_D A [oMo o_h o_a0 o_a1 o_a2 o_a3 o_hasImage o_place o_rowAt o_rowEnd o_a8 o_a9 o_seed o_a11 o_a12 o_a13 o_a14 o_a15 o_a16 o_thrown, ai E o_a0 42 o_s, ai E o_a1 42 y57, ai E o_a2 42 o_image, ai E o_a3 42 o_was, ai E o_a8 3 o_numbers, ai E o_a9 8192 o_most, ai E o_a11 8 o_kept, ai E o_a12 8 o_keptKind, ai E o_a13 8 o_keptFigure, ai E o_a14 8 o_sort, ai E o_a15 8 o_size, ai E o_a16 800 o_element] → va_S A s.heap H locs → lv_has ls 10 [(8, .int x55), (7, .int x56), (6, .int x11), (5, .int x12), (0, .ref o_h), (1, .int p1), (2, .int p2), (3, .int p3)] → k_86 x55 x56 y57 = some (res, w_o_m) → W p l e ({ frames := 5, cells := 0, slots := 0, locals := 111 }) s m [.ref o_h, .int p1, .int p2, .int p3].toArray below meth c H locs 0 0 (MQ below (fun _ st oc t => oc = .returned (some (.int res)) ∧ va_P E.1 vwCl [oMo o_h o_a0 o_a1 o_a2 o_a3 o_hasImage o_place o_rowAt o_rowEnd o_a8 o_a9 o_seed o_a11 o_a12 o_a13 o_a14 o_a15 o_a16 o_thrown, ai E o_a0 42 o_s, ai E o_a1 42 w_o_m, ai E o_a2 42 o_image, ai E o_a3 42 o_was, ai E o_a8 3 o_numbers, ai E o_a9 8192 o_most, ai E o_a11 8 o_kept, ai E o_a12 8 o_keptKind, ai E o_a13 8 o_keptFigure, ai E o_a14 8 o_sort, ai E o_a15 8 o_size, ai E o_a16 800 o_element] t.heap ∧ va_F A st t) [.ref o_h, .int p1, .int p2, .int p3].toArray s 0 0 A) (F0 m 163 ls [])) → ∀ (n : Nat) (x55 : Int32) (x56 : Int32) (y57 : Nat → Int32) (H : Heap) (locs : List Loc) (ls : Array Slot), va_P E.1 vwCl [oMo o_h o_a0 o_a1 o_a2 o_a3 o_hasImage o_place o_rowAt o_rowEnd o_a8 o_a9 o_seed o_a11 o_a12 o_a13 o_a14 o_a15 o_a16 o_thrown, ai E o_a0 42 o_s, ai E o_a1 42 y57, ai E o_a2 42 o_image, ai E o_a3 42 o_was, ai E o_a8 3 o_numbers, ai E o_a9 8192 o_most, ai E o_a11 8 o_kept, ai E o_a12 8 o_keptKind, ai E o_a13 8 o_keptFigure, ai E o_a14 8 o_sort, ai E o_a15 8 o_size, ai E o_a16 800 o_element] H → va_D A [oMo o_h o_a0 o_a1 o_a2 o_a3 o_hasImage o_place o_rowAt o_rowEnd o_a8 o_a9 o_seed o_a11 o_a12 o_a13 o_a14 o_a15 o_a16 o_thrown, ai E o_a0 42 o_s, ai E o_a1 42 y57, ai E o_a2 42 o_image, ai E o_a3 42 o_was, ai E o_a8 3 o_numbers, ai E o_a9 8192 o_most, ai E o_a11 8 o_kept, ai E o_a12 8 o_keptKind, ai E o_a13 8 o_keptFigure, ai E o_a14 8 o_sort, ai E o_a15 8 o_size, ai E o_a16 800 o_element] → va_S A s.heap H locs → lv_has ls 10 [(8, .int x55), (7, .int x56), (6, .int x11), (5, .int x12), (0, .ref o_h), (1, .int p1), (2, .int p2), (3, .int p3)] → L_X10_whatIs_86 N o_sort o_size o_element p1 p2 k_86 n x55 x56 y57 = some (res, w_o_m) → W p l e ({ frames := 5, cells := 0, slots := 0, locals := 111 }) s m [.ref o_h, .int p1, .int p2, .int p3].toArray below meth c H locs 0 0 (MQ below (fun _ st oc t => oc = .returned (some (.int res)) ∧ va_P E.1 vwCl [oMo o_h o_a0 o_a1 o_a2 o_a3 o_hasImage o_place o_rowAt o_rowEnd o_a8 o_a9 o_seed o_a11 o_a12 o_a13 o_a14 o_a15 o_a16 o_thrown, ai E o_a0 42 o_s, ai E o_a1 42 w_o_m, ai E o_a2 42 o_image, ai E o_a3 42 o_was, ai E o_a8 3 o_numbers, ai E o_a9 8192 o_most, ai E o_a11 8 o_kept, ai E o_a12 8 o_keptKind, ai E o_a13 8 o_keptFigure, ai E o_a14 8 o_sort, ai E o_a15 8 o_size, ai E o_a16 800 o_element] t.heap ∧ va_F A st t) [.ref o_h, .int p1, .int p2, .int p3].toArray s 0 0 A) (F0 m 86 ls []) := by
                  intro k_86 hk_86 n
                  induction n with
                  | zero => intro x55 x56 y57 H locs ls hP hD hS hl hv; cases hv
                  | succ n86 ih86 =>
                    intro x55 x56 y57 H locs ls hP hD hS hl hv
                    rw [L_X10_whatIs_86] at hv
                    refine lv_iload hx hb dX10_whatIs_86 (lv_at hl 0 rfl) ?_
                    refine lv_aload_n hx hb dX10_whatIs_88 rfl (lv_at hl 4 rfl) ?_
                    refine va_get (D := E.1) (ci := 4) (v := .ref o_a15) (C := RX10) (T := TX10) (N := 18) hx hb ht i_X10 hown hK hP 0 rfl rfl 15 (by decide) (ht _ kw_4_149) (fun _ h9 => h9) rfl dX10_whatIs_89 ?_
                    refine lv_iload_n hx hb dX10_whatIs_92 rfl (lv_at hl 5 rfl) ?_
                    obtain ⟨g58, hv⟩ := gd_s hv
                    refine va_iald hx hb hK hP 11 0 rfl rfl (ix_s g58) dX10_whatIs_93 ?_
                    refine lv_icmp_ge (tgt := 163) hx hb dX10_whatIs_94 (by decide) (fun c59 => ?_) (fun c59 => ?_)
                    · have hv := if_y c59 hv
                      exact hk_86 x55 x56 y57 _ _ _ hP hD hS (lv_sub hl [0, 1, 2, 3, 4, 5, 6, 7] rfl) hv
                    · have hv := if_n c59 hv
                      refine lv_aload_n hx hb dX10_whatIs_97 rfl (lv_at hl 4 rfl) ?_
                      refine va_get (D := E.1) (ci := 4) (v := .ref o_a16) (C := RX10) (T := TX10) (N := 18) hx hb ht i_X10 hown hK hP 0 rfl rfl 16 (by decide) (ht _ kw_4_150) (fun _ h9 => h9) rfl dX10_whatIs_98 ?_
                      refine lv_bipush (v := (100 : Int32)) hx hb dX10_whatIs_101 (by decide) ?_
                      refine lv_iload_n hx hb dX10_whatIs_103 rfl (lv_at hl 5 rfl) ?_
                      refine lv_imul hx hb dX10_whatIs_104 ?_
                      refine lv_iload hx hb dX10_whatIs_105 (lv_at hl 0 rfl) ?_
                      refine lv_iadd hx hb dX10_whatIs_107 ?_
                      obtain ⟨g60, hv⟩ := gd_s hv
                      refine va_iald hx hb hK hP 12 0 rfl rfl (ix_s g60) dX10_whatIs_108 ?_
                      refine lv_topi (fun z61 ez61 => ?_)
                      have hv := nm_s ez61 hv
                      refine lv_istore (lv' := [(9, .int z61), (8, .int x55), (7, .int x56), (6, .int x11), (5, .int x12), (0, .ref o_h), (1, .int p1), (2, .int p2), (3, .int p3)]) hx hb dX10_whatIs_109 hl (by decide) rfl (fun ls hl => ?_)
                      refine lv_iload hx hb dX10_whatIs_111 (lv_at hl 2 rfl) ?_
                      refine lv_iload hx hb dX10_whatIs_113 (lv_at hl 0 rfl) ?_
                      refine lv_aload_n hx hb dX10_whatIs_115 rfl (lv_at hl 5 rfl) ?_
                      refine va_get (D := E.1) (ci := 4) (v := .ref o_a14) (C := RX10) (T := TX10) (N := 18) hx hb ht i_X10 hown hK hP 0 rfl rfl 14 (by decide) (ht _ kw_4_148) (fun _ h9 => h9) rfl dX10_whatIs_116 ?_
                      refine lv_iload_n hx hb dX10_whatIs_119 rfl (lv_at hl 6 rfl) ?_
                      obtain ⟨g62, hv⟩ := gd_s hv
                      refine va_iald hx hb hK hP 10 0 rfl rfl (ix_s g62) dX10_whatIs_120 ?_
                      obtain ⟨r63, h64, hv⟩ := ob_s hv
                      refine rdS (rest := [.int z61, .int x56]) (st1 := [.int r63, .int z61, .int x56]) (w := []) hC q_X10_leastOf kw_6_13 (c_X10_leastOf l E (o_sort p1.toNatClampNeg) r63 h64) ⟨rfl, rfl⟩ ⟨Nat.le_of_ble_eq_true rfl, Nat.le_of_ble_eq_true rfl⟩ ⟨Nat.zero_le _, Nat.zero_le _⟩ (hP.sub (ws' := []) [] rfl) hG rfl hl.1 rfl (Nat.le_of_ble_eq_true rfl) dX10_whatIs_121 rfl ?_
                      refine lv_icmp_eq (tgt := 142) hx hb dX10_whatIs_124 (by decide) (fun c65 => ?_) (fun c65 => ?_)
                      · have hv := if_y c65 hv
                        refine lv_iconst (v := (1 : Int32)) hx hb dX10_whatIs_142 (by decide) ?_
                        refine lv_goto (tgt := 147) hx hb dX10_whatIs_143 (by decide) ?_
                        refine lv_iand hx hb dX10_whatIs_147 ?_
                        refine lv_istore (lv' := [(7, .int (x56 &&& (1 : Int32))), (9, .int z61), (8, .int x55), (6, .int x11), (5, .int x12), (0, .ref o_h), (1, .int p1), (2, .int p2), (3, .int p3)]) hx hb dX10_whatIs_148 hl (by decide) rfl (fun ls hl => ?_)
                        refine lv_aload_n hx hb dX10_whatIs_150 rfl (lv_at hl 5 rfl) ?_
                        refine va_get (D := E.1) (ci := 4) (v := .ref o_a1) (C := RX10) (T := TX10) (N := 18) hx hb ht i_X10 hown hK hP 0 rfl rfl 1 (by decide) (ht _ kw_4_135) (fun _ h9 => h9) rfl dX10_whatIs_151 ?_
                        obtain ⟨y66, h67, hv⟩ := ob_s hv
                        refine wrS (as := [o_h, o_a0, o_a1, o_a2, o_a3, o_a8, o_a9, o_a11, o_a12, o_a13, o_a14, o_a15, o_a16]) (wr := [oMo o_h o_a0 o_a1 o_a2 o_a3 o_hasImage o_place o_rowAt o_rowEnd o_a8 o_a9 o_seed o_a11 o_a12 o_a13 o_a14 o_a15 o_a16 o_thrown, ai E o_a0 42 o_s, ai E o_a2 42 o_image, ai E o_a3 42 o_was, ai E o_a8 3 o_numbers, ai E o_a9 8192 o_most, ai E o_a11 8 o_kept, ai E o_a12 8 o_keptKind, ai E o_a13 8 o_keptFigure, ai E o_a14 8 o_sort, ai E o_a15 8 o_size, ai E o_a16 800 o_element]) [2] [0, 1, 3, 4, 5, 6, 7, 8, 9, 10, 11, 12] (ws := [oMo o_h o_a0 o_a1 o_a2 o_a3 o_hasImage o_place o_rowAt o_rowEnd o_a8 o_a9 o_seed o_a11 o_a12 o_a13 o_a14 o_a15 o_a16 o_thrown, ai E o_a0 42 o_s, ai E o_a1 42 y57, ai E o_a2 42 o_image, ai E o_a3 42 o_was, ai E o_a8 3 o_numbers, ai E o_a9 8192 o_most, ai E o_a11 8 o_kept, ai E o_a12 8 o_keptKind, ai E o_a13 8 o_keptFigure, ai E o_a14 8 o_sort, ai E o_a15 8 o_size, ai E o_a16 800 o_element]) (ws' := [oMo o_h o_a0 o_a1 o_a2 o_a3 o_hasImage o_place o_rowAt o_rowEnd o_a8 o_a9 o_seed o_a11 o_a12 o_a13 o_a14 o_a15 o_a16 o_thrown, ai E o_a0 42 o_s, ai E o_a1 42 y66, ai E o_a2 42 o_image, ai E o_a3 42 o_was, ai E o_a8 3 o_numbers, ai E o_a9 8192 o_most, ai E o_a11 8 o_kept, ai E o_a12 8 o_keptKind, ai E o_a13 8 o_keptFigure, ai E o_a14 8 o_sort, ai E o_a15 8 o_size, ai E o_a16 800 o_element]) (rest := []) (st1 := []) hC q_X10_day kw_4_236 (c_X10_day l E o_a1 y57 N y66 h67) ⟨rfl, rfl⟩ ⟨Nat.le_of_ble_eq_true rfl, Nat.le_of_ble_eq_true rfl⟩ ⟨Nat.zero_le _, Nat.zero_le _⟩ hP hD hS hA hG (by decide) rfl rfl rfl rfl rfl rfl rfl rfl hl.1 rfl (Nat.le_of_ble_eq_true rfl) dX10_whatIs_154 rfl (fun H locs hP hD hS => ?_)
                        refine lv_iinc (v := (x55 + (1 : Int32))) (lv' := [(8, .int (x55 + (1 : Int32))), (7, .int (x56 &&& (1 : Int32))), (9, .int z61), (6, .int x11), (5, .int x12), (0, .ref o_h), (1, .int p1), (2, .int p2), (3, .int p3)]) hx hb dX10_whatIs_157 hl (k := 2) rfl rfl (by decide) rfl (fun ls hl => ?_)
                        refine lv_goto (tgt := 86) hx hb dX10_whatIs_160 (by decide) ?_
                        exact ih86 (x55 + (1 : Int32)) (x56 &&& (1 : Int32)) y66 _ _ _ hP hD hS (lv_sub hl [0, 1, 3, 4, 5, 6, 7, 8] rfl) hv
                      · have hv := if_n c65 hv
                        refine lv_iload hx hb dX10_whatIs_127 (lv_at hl 0 rfl) ?_
                        refine lv_aload_n hx hb dX10_whatIs_129 rfl (lv_at hl 5 rfl) ?_
                        refine va_get (D := E.1) (ci := 4) (v := .ref o_a1) (C := RX10) (T := TX10) (N := 18) hx hb ht i_X10 hown hK hP 0 rfl rfl 1 (by decide) (ht _ kw_4_135) (fun _ h9 => h9) rfl dX10_whatIs_130 ?_
                        refine lv_iload_n hx hb dX10_whatIs_133 rfl (lv_at hl 7 rfl) ?_
                        refine lv_iconst (v := (3 : Int32)) hx hb dX10_whatIs_134 (by decide) ?_
                        obtain ⟨r68, h69, hv⟩ := ob_s hv
                        refine rdS (rest := [.ref o_a1, .int z61, .int x56]) (st1 := [.int r68, .ref o_a1, .int z61, .int x56]) (w := []) hC q_X10_of kw_4_226 (c_X10_of l E p2 (3 : Int32) r68 h69) ⟨rfl, rfl⟩ ⟨Nat.le_of_ble_eq_true rfl, Nat.le_of_ble_eq_true rfl⟩ ⟨Nat.zero_le _, Nat.zero_le _⟩ (hP.sub (ws' := []) [] rfl) hG rfl hl.1 rfl (Nat.le_of_ble_eq_true rfl) dX10_whatIs_135 rfl ?_
                        obtain ⟨g70, hv⟩ := gd_s hv
                        refine va_iald hx hb hK hP 2 0 rfl rfl (ix_s g70) dX10_whatIs_138 ?_
                        refine lv_icmp_ne (tgt := 146) hx hb dX10_whatIs_139 (by decide) (fun c71 => ?_) (fun c71 => ?_)
                        · have hv := if_n c71 hv
                          refine lv_iconst (v := (0 : Int32)) hx hb dX10_whatIs_146 (by decide) ?_
                          refine lv_iand hx hb dX10_whatIs_147 ?_
                          refine lv_istore (lv' := [(7, .int (x56 &&& (0 : Int32))), (9, .int z61), (8, .int x55), (6, .int x11), (5, .int x12), (0, .ref o_h), (1, .int p1), (2, .int p2), (3, .int p3)]) hx hb dX10_whatIs_148 hl (by decide) rfl (fun ls hl => ?_)
                          refine lv_aload_n hx hb dX10_whatIs_150 rfl (lv_at hl 5 rfl) ?_
                          refine va_get (D := E.1) (ci := 4) (v := .ref o_a1) (C := RX10) (T := TX10) (N := 18) hx hb ht i_X10 hown hK hP 0 rfl rfl 1 (by decide) (ht _ kw_4_135) (fun _ h9 => h9) rfl dX10_whatIs_151 ?_
                          obtain ⟨y72, h73, hv⟩ := ob_s hv
                          refine wrS (as := [o_h, o_a0, o_a1, o_a2, o_a3, o_a8, o_a9, o_a11, o_a12, o_a13, o_a14, o_a15, o_a16]) (wr := [oMo o_h o_a0 o_a1 o_a2 o_a3 o_hasImage o_place o_rowAt o_rowEnd o_a8 o_a9 o_seed o_a11 o_a12 o_a13 o_a14 o_a15 o_a16 o_thrown, ai E o_a0 42 o_s, ai E o_a2 42 o_image, ai E o_a3 42 o_was, ai E o_a8 3 o_numbers, ai E o_a9 8192 o_most, ai E o_a11 8 o_kept, ai E o_a12 8 o_keptKind, ai E o_a13 8 o_keptFigure, ai E o_a14 8 o_sort, ai E o_a15 8 o_size, ai E o_a16 800 o_element]) [2] [0, 1, 3, 4, 5, 6, 7, 8, 9, 10, 11, 12] (ws := [oMo o_h o_a0 o_a1 o_a2 o_a3 o_hasImage o_place o_rowAt o_rowEnd o_a8 o_a9 o_seed o_a11 o_a12 o_a13 o_a14 o_a15 o_a16 o_thrown, ai E o_a0 42 o_s, ai E o_a1 42 y57, ai E o_a2 42 o_image, ai E o_a3 42 o_was, ai E o_a8 3 o_numbers, ai E o_a9 8192 o_most, ai E o_a11 8 o_kept, ai E o_a12 8 o_keptKind, ai E o_a13 8 o_keptFigure, ai E o_a14 8 o_sort, ai E o_a15 8 o_size, ai E o_a16 800 o_element]) (ws' := [oMo o_h o_a0 o_a1 o_a2 o_a3 o_hasImage o_place o_rowAt o_rowEnd o_a8 o_a9 o_seed o_a11 o_a12 o_a13 o_a14 o_a15 o_a16 o_thrown, ai E o_a0 42 o_s, ai E o_a1 42 y72, ai E o_a2 42 o_image, ai E o_a3 42 o_was, ai E o_a8 3 o_numbers, ai E o_a9 8192 o_most, ai E o_a11 8 o_kept, ai E o_a12 8 o_keptKind, ai E o_a13 8 o_keptFigure, ai E o_a14 8 o_sort, ai E o_a15 8 o_size, ai E o_a16 800 o_element]) (rest := []) (st1 := []) hC q_X10_day kw_4_236 (c_X10_day l E o_a1 y57 N y72 h73) ⟨rfl, rfl⟩ ⟨Nat.le_of_ble_eq_true rfl, Nat.le_of_ble_eq_true rfl⟩ ⟨Nat.zero_le _, Nat.zero_le _⟩ hP hD hS hA hG (by decide) rfl rfl rfl rfl rfl rfl rfl rfl hl.1 rfl (Nat.le_of_ble_eq_true rfl) dX10_whatIs_154 rfl (fun H locs hP hD hS => ?_)
                          refine lv_iinc (v := (x55 + (1 : Int32))) (lv' := [(8, .int (x55 + (1 : Int32))), (7, .int (x56 &&& (0 : Int32))), (9, .int z61), (6, .int x11), (5, .int x12), (0, .ref o_h), (1, .int p1), (2, .int p2), (3, .int p3)]) hx hb dX10_whatIs_157 hl (k := 2) rfl rfl (by decide) rfl (fun ls hl => ?_)
                          refine lv_goto (tgt := 86) hx hb dX10_whatIs_160 (by decide) ?_
                          exact ih86 (x55 + (1 : Int32)) (x56 &&& (0 : Int32)) y72 _ _ _ hP hD hS (lv_sub hl [0, 1, 3, 4, 5, 6, 7, 8] rfl) hv
                        · have hv := if_y c71 hv
                          refine lv_iconst (v := (1 : Int32)) hx hb dX10_whatIs_142 (by decide) ?_
                          refine lv_goto (tgt := 147) hx hb dX10_whatIs_143 (by decide) ?_
                          refine lv_iand hx hb dX10_whatIs_147 ?_
                          refine lv_istore (lv' := [(7, .int (x56 &&& (1 : Int32))), (9, .int z61), (8, .int x55), (6, .int x11), (5, .int x12), (0, .ref o_h), (1, .int p1), (2, .int p2), (3, .int p3)]) hx hb dX10_whatIs_148 hl (by decide) rfl (fun ls hl => ?_)
                          refine lv_aload_n hx hb dX10_whatIs_150 rfl (lv_at hl 5 rfl) ?_
                          refine va_get (D := E.1) (ci := 4) (v := .ref o_a1) (C := RX10) (T := TX10) (N := 18) hx hb ht i_X10 hown hK hP 0 rfl rfl 1 (by decide) (ht _ kw_4_135) (fun _ h9 => h9) rfl dX10_whatIs_151 ?_
                          obtain ⟨y74, h75, hv⟩ := ob_s hv
                          refine wrS (as := [o_h, o_a0, o_a1, o_a2, o_a3, o_a8, o_a9, o_a11, o_a12, o_a13, o_a14, o_a15, o_a16]) (wr := [oMo o_h o_a0 o_a1 o_a2 o_a3 o_hasImage o_place o_rowAt o_rowEnd o_a8 o_a9 o_seed o_a11 o_a12 o_a13 o_a14 o_a15 o_a16 o_thrown, ai E o_a0 42 o_s, ai E o_a2 42 o_image, ai E o_a3 42 o_was, ai E o_a8 3 o_numbers, ai E o_a9 8192 o_most, ai E o_a11 8 o_kept, ai E o_a12 8 o_keptKind, ai E o_a13 8 o_keptFigure, ai E o_a14 8 o_sort, ai E o_a15 8 o_size, ai E o_a16 800 o_element]) [2] [0, 1, 3, 4, 5, 6, 7, 8, 9, 10, 11, 12] (ws := [oMo o_h o_a0 o_a1 o_a2 o_a3 o_hasImage o_place o_rowAt o_rowEnd o_a8 o_a9 o_seed o_a11 o_a12 o_a13 o_a14 o_a15 o_a16 o_thrown, ai E o_a0 42 o_s, ai E o_a1 42 y57, ai E o_a2 42 o_image, ai E o_a3 42 o_was, ai E o_a8 3 o_numbers, ai E o_a9 8192 o_most, ai E o_a11 8 o_kept, ai E o_a12 8 o_keptKind, ai E o_a13 8 o_keptFigure, ai E o_a14 8 o_sort, ai E o_a15 8 o_size, ai E o_a16 800 o_element]) (ws' := [oMo o_h o_a0 o_a1 o_a2 o_a3 o_hasImage o_place o_rowAt o_rowEnd o_a8 o_a9 o_seed o_a11 o_a12 o_a13 o_a14 o_a15 o_a16 o_thrown, ai E o_a0 42 o_s, ai E o_a1 42 y74, ai E o_a2 42 o_image, ai E o_a3 42 o_was, ai E o_a8 3 o_numbers, ai E o_a9 8192 o_most, ai E o_a11 8 o_kept, ai E o_a12 8 o_keptKind, ai E o_a13 8 o_keptFigure, ai E o_a14 8 o_sort, ai E o_a15 8 o_size, ai E o_a16 800 o_element]) (rest := []) (st1 := []) hC q_X10_day kw_4_236 (c_X10_day l E o_a1 y57 N y74 h75) ⟨rfl, rfl⟩ ⟨Nat.le_of_ble_eq_true rfl, Nat.le_of_ble_eq_true rfl⟩ ⟨Nat.zero_le _, Nat.zero_le _⟩ hP hD hS hA hG (by decide) rfl rfl rfl rfl rfl rfl rfl rfl hl.1 rfl (Nat.le_of_ble_eq_true rfl) dX10_whatIs_154 rfl (fun H locs hP hD hS => ?_)
                          refine lv_iinc (v := (x55 + (1 : Int32))) (lv' := [(8, .int (x55 + (1 : Int32))), (7, .int (x56 &&& (1 : Int32))), (9, .int z61), (6, .int x11), (5, .int x12), (0, .ref o_h), (1, .int p1), (2, .int p2), (3, .int p3)]) hx hb dX10_whatIs_157 hl (k := 2) rfl rfl (by decide) rfl (fun ls hl => ?_)
                          refine lv_goto (tgt := 86) hx hb dX10_whatIs_160 (by decide) ?_
                          exact ih86 (x55 + (1 : Int32)) (x56 &&& (1 : Int32)) y74 _ _ _ hP hD hS (lv_sub hl [0, 1, 3, 4, 5, 6, 7, 8] rfl) hv
                refine hL86 _ (fun x76 x77 y78 H locs ls hP hD hS hl hv => ?_) N (0 : Int32) (1 : Int32) f54 _ _ _ hP hD hS (lv_sub hl [0, 1, 2, 3, 4, 5, 6, 7] rfl) hv
                refine lv_iload hx hb dX10_whatIs_163 (lv_at hl 3 rfl) ?_
                refine lv_iload hx hb dX10_whatIs_165 (lv_at hl 1 rfl) ?_
                refine lv_if_eq (tgt := 177) hx hb dX10_whatIs_167 (by decide) (fun c79 => ?_) (fun c79 => ?_)
                · have hv := if_y c79 hv
                  refine lv_iconst (v := (0 : Int32)) hx hb dX10_whatIs_177 (by decide) ?_
                  refine lv_ior hx hb dX10_whatIs_178 ?_
                  refine lv_istore (lv' := [(5, .int (x12 ||| (0 : Int32))), (8, .int x76), (7, .int x77), (6, .int x11), (0, .ref o_h), (1, .int p1), (2, .int p2), (3, .int p3)]) hx hb dX10_whatIs_179 hl (by decide) rfl (fun ls hl => ?_)
                  refine lv_iinc (v := (x11 + (1 : Int32))) (lv' := [(6, .int (x11 + (1 : Int32))), (5, .int (x12 ||| (0 : Int32))), (8, .int x76), (7, .int x77), (0, .ref o_h), (1, .int p1), (2, .int p2), (3, .int p3)]) hx hb dX10_whatIs_181 hl (k := 3) rfl rfl (by decide) rfl (fun ls hl => ?_)
                  refine lv_goto (tgt := 41) hx hb dX10_whatIs_184 (by decide) ?_
                  exact ih41 (x11 + (1 : Int32)) (x12 ||| (0 : Int32)) y78 _ _ _ hP hD hS (lv_sub hl [0, 1, 4, 5, 6, 7] rfl) hv
                · have hv := if_n c79 hv
                  refine lv_iconst (v := (1 : Int32)) hx hb dX10_whatIs_170 (by decide) ?_
                  refine lv_iload hx hb dX10_whatIs_171 (lv_at hl 2 rfl) ?_
                  refine lv_ishl hx hb dX10_whatIs_173 ?_
                  refine lv_goto (tgt := 178) hx hb dX10_whatIs_174 (by decide) ?_
                  refine lv_ior hx hb dX10_whatIs_178 ?_
                  refine lv_topi (fun z80 ez80 => ?_)
                  have hv := nm_s ez80 hv
                  refine lv_istore (lv' := [(5, .int z80), (8, .int x76), (7, .int x77), (6, .int x11), (0, .ref o_h), (1, .int p1), (2, .int p2), (3, .int p3)]) hx hb dX10_whatIs_179 hl (by decide) rfl (fun ls hl => ?_)
                  refine lv_iinc (v := (x11 + (1 : Int32))) (lv' := [(6, .int (x11 + (1 : Int32))), (5, .int z80), (8, .int x76), (7, .int x77), (0, .ref o_h), (1, .int p1), (2, .int p2), (3, .int p3)]) hx hb dX10_whatIs_181 hl (k := 3) rfl rfl (by decide) rfl (fun ls hl => ?_)
                  refine lv_goto (tgt := 41) hx hb dX10_whatIs_184 (by decide) ?_
                  exact ih41 (x11 + (1 : Int32)) z80 y78 _ _ _ hP hD hS (lv_sub hl [0, 1, 4, 5, 6, 7] rfl) hv
        exact hL41 N (0 : Int32) (0 : Int32) o_m _ _ _ hP hD hS (lv_sub hl [0, 1, 3, 4, 5, 6] rfl) hv
      · have hv := if_n c10 hv
        refine lv_iload hx hb dX10_whatIs_32 (lv_at hl 0 rfl) ?_
        cases hv
        exact W.iret hx hb hr (fun t h9 _ => ⟨rfl, by rw [h9]; exact hP, hS.F h9⟩) hS.2.2 dX10_whatIs_34 hlk
    · have hv := if_y c7 hv
      refine lv_iconst (v := (-1 : Int32)) hx hb dX10_whatIs_17 (by decide) ?_
      refine lv_topi (fun z81 ez81 => ?_)
      have hv := nm_s ez81 hv
      cases hv
      exact W.iret hx hb hr (fun t h9 _ => ⟨rfl, by rw [h9]; exact hP, hS.F h9⟩) hS.2.2 dX10_whatIs_18 hlk
theorem dX10_hasBy_0 : decode cX10_hasBy 0 = .ok (.aload_n 0, 1) := by decide +kernel
theorem dX10_hasBy_1 : decode cX10_hasBy 1 = .ok (.getfield 9, 3) := by decide +kernel
theorem dX10_hasBy_4 : decode cX10_hasBy 4 = .ok (.aload_n 0, 1) := by decide +kernel
theorem dX10_hasBy_5 : decode cX10_hasBy 5 = .ok (.getfield 13, 3) := by decide +kernel
theorem dX10_hasBy_8 : decode cX10_hasBy 8 = .ok (.invokestatic 148, 3) := by decide +kernel
theorem dX10_hasBy_11 : decode cX10_hasBy 11 = .ok (.aload_n 0, 1) := by decide +kernel
theorem dX10_hasBy_12 : decode cX10_hasBy 12 = .ok (.getfield 13, 3) := by decide +kernel
theorem dX10_hasBy_15 : decode cX10_hasBy 15 = .ok (.iload_n 2, 1) := by decide +kernel
theorem dX10_hasBy_16 : decode cX10_hasBy 16 = .ok (.iconst 3, 1) := by decide +kernel
theorem dX10_hasBy_17 : decode cX10_hasBy 17 = .ok (.invokestatic 50, 3) := by decide +kernel
theorem dX10_hasBy_20 : decode cX10_hasBy 20 = .ok (.bipush 9, 2) := by decide +kernel
theorem dX10_hasBy_22 : decode cX10_hasBy 22 = .ok (.iload_n 3, 1) := by decide +kernel
theorem dX10_hasBy_23 : decode cX10_hasBy 23 = .ok (.imul, 1) := by decide +kernel
theorem dX10_hasBy_24 : decode cX10_hasBy 24 = .ok (.iastore, 1) := by decide +kernel
theorem dX10_hasBy_25 : decode cX10_hasBy 25 = .ok (.aload_n 0, 1) := by decide +kernel
theorem dX10_hasBy_26 : decode cX10_hasBy 26 = .ok (.getfield 13, 3) := by decide +kernel
theorem dX10_hasBy_29 : decode cX10_hasBy 29 = .ok (.iload 4, 2) := by decide +kernel
theorem dX10_hasBy_31 : decode cX10_hasBy 31 = .ok (.iconst 3, 1) := by decide +kernel
theorem dX10_hasBy_32 : decode cX10_hasBy 32 = .ok (.invokestatic 50, 3) := by decide +kernel
theorem dX10_hasBy_35 : decode cX10_hasBy 35 = .ok (.bipush 9, 2) := by decide +kernel
theorem dX10_hasBy_37 : decode cX10_hasBy 37 = .ok (.iload 5, 2) := by decide +kernel
theorem dX10_hasBy_39 : decode cX10_hasBy 39 = .ok (.imul, 1) := by decide +kernel
theorem dX10_hasBy_40 : decode cX10_hasBy 40 = .ok (.iastore, 1) := by decide +kernel
theorem dX10_hasBy_41 : decode cX10_hasBy 41 = .ok (.aload_n 0, 1) := by decide +kernel
theorem dX10_hasBy_42 : decode cX10_hasBy 42 = .ok (.getfield 13, 3) := by decide +kernel
theorem dX10_hasBy_45 : decode cX10_hasBy 45 = .ok (.invokestatic 163, 3) := by decide +kernel
theorem dX10_hasBy_48 : decode cX10_hasBy 48 = .ok (.aload_n 0, 1) := by decide +kernel
theorem dX10_hasBy_49 : decode cX10_hasBy 49 = .ok (.getfield 9, 3) := by decide +kernel
theorem dX10_hasBy_52 : decode cX10_hasBy 52 = .ok (.iload_n 1, 1) := by decide +kernel
theorem dX10_hasBy_53 : decode cX10_hasBy 53 = .ok (.iconst 3, 1) := by decide +kernel
theorem dX10_hasBy_54 : decode cX10_hasBy 54 = .ok (.invokestatic 50, 3) := by decide +kernel
theorem dX10_hasBy_57 : decode cX10_hasBy 57 = .ok (.iaload, 1) := by decide +kernel
theorem dX10_hasBy_58 : decode cX10_hasBy 58 = .ok (.ifCond .le 7, 3) := by decide +kernel
theorem dX10_hasBy_61 : decode cX10_hasBy 61 = .ok (.iconst 1, 1) := by decide +kernel
theorem dX10_hasBy_62 : decode cX10_hasBy 62 = .ok (.goto 4, 3) := by decide +kernel
theorem dX10_hasBy_65 : decode cX10_hasBy 65 = .ok (.iconst 0, 1) := by decide +kernel
theorem dX10_hasBy_66 : decode cX10_hasBy 66 = .ok (.if_icmp .ne 7, 3) := by decide +kernel
theorem dX10_hasBy_69 : decode cX10_hasBy 69 = .ok (.iconst 5, 1) := by decide +kernel
theorem dX10_hasBy_70 : decode cX10_hasBy 70 = .ok (.goto 4, 3) := by decide +kernel
theorem dX10_hasBy_73 : decode cX10_hasBy 73 = .ok (.iconst 0, 1) := by decide +kernel
theorem dX10_hasBy_74 : decode cX10_hasBy 74 = .ok (.iload_n 1, 1) := by decide +kernel
theorem dX10_hasBy_75 : decode cX10_hasBy 75 = .ok (.iload_n 2, 1) := by decide +kernel
theorem dX10_hasBy_76 : decode cX10_hasBy 76 = .ok (.if_icmp .ne 7, 3) := by decide +kernel
theorem dX10_hasBy_79 : decode cX10_hasBy 79 = .ok (.iload_n 3, 1) := by decide +kernel
theorem dX10_hasBy_80 : decode cX10_hasBy 80 = .ok (.goto 5, 3) := by decide +kernel
theorem dX10_hasBy_83 : decode cX10_hasBy 83 = .ok (.iload 5, 2) := by decide +kernel
theorem dX10_hasBy_85 : decode cX10_hasBy 85 = .ok (.isub, 1) := by decide +kernel
theorem dX10_hasBy_86 : decode cX10_hasBy 86 = .ok (.ireturn, 1) := by decide +kernel
def f_X10_hasBy (N : Nat) (o_s : Nat → Int32) (o_m : Nat → Int32) (p1 : Int32) (p2 : Int32) (p3 : Int32) (p4 : Int32) (p5 : Int32) : Option (Int32 × (Nat → Int32)) := ob (f_X10_copies N o_s o_m) (fun y1 => ob (f_X10_of p2 (3 : Int32)) (fun r3 => gd (ix r3 42) (nm (upd y1 r3.toNatClampNeg ((9 : Int32) * p3)) (fun f6 => ob (f_X10_of p4 (3 : Int32)) (fun r7 => gd (ix r7 42) (nm (upd f6 r7.toNatClampNeg ((9 : Int32) * p5)) (fun f10 => ob (f_X10_doesCarry N f10) (fun r11 => ob (f_X10_of p1 (3 : Int32)) (fun r13 => gd (ix r13 42) (if (o_s r13.toNatClampNeg) ≤ 0 then if r11 = (0 : Int32) then if p1 = p2 then nm ((5 : Int32) - p3) (fun z23 => some (z23, f10)) else nm ((5 : Int32) - p5) (fun z22 => some (z22, f10)) else if p1 = p2 then nm ((0 : Int32) - p3) (fun z20 => some (z20, f10)) else nm ((0 : Int32) - p5) (fun z19 => some (z19, f10)) else if r11 = (1 : Int32) then if p1 = p2 then nm ((5 : Int32) - p3) (fun z30 => some (z30, f10)) else nm ((5 : Int32) - p5) (fun z29 => some (z29, f10)) else if p1 = p2 then nm ((0 : Int32) - p3) (fun z27 => some (z27, f10)) else nm ((0 : Int32) - p5) (fun z26 => some (z26, f10))))))))))))
set_option maxHeartbeats 4000000 in
set_option maxRecDepth 100000 in
theorem c_X10_hasBy (l : Launch) (E : EE) (o_h : Nat) (o_a0 : Nat) (o_a1 : Nat) (o_a2 : Nat) (o_a3 : Nat) (o_a8 : Nat) (o_a9 : Nat) (o_a11 : Nat) (o_a12 : Nat) (o_a13 : Nat) (o_a14 : Nat) (o_a15 : Nat) (o_a16 : Nat) (o_s : Nat → Int32) (o_m : Nat → Int32) (o_image : Nat → Int32) (o_was : Nat → Int32) (o_hasImage : Int32) (o_place : Int32) (o_rowAt : Int32) (o_rowEnd : Int32) (o_numbers : Nat → Int32) (o_most : Nat → Int32) (o_seed : Int32) (o_kept : Nat → Int32) (o_keptKind : Nat → Int32) (o_keptFigure : Nat → Int32) (o_sort : Nat → Int32) (o_size : Nat → Int32) (o_element : Nat → Int32) (o_thrown : Int32) (p1 : Int32) (p2 : Int32) (p3 : Int32) (p4 : Int32) (p5 : Int32) (N : Nat) (res : Int32) (w_o_m : Nat → Int32) (hv : f_X10_hasBy N o_s o_m p1 p2 p3 p4 p5 = some (res, w_o_m)) : Wr l E yX10_hasBy cX10_hasBy 6 (some .int) ({ frames := 6, cells := 0, slots := 0, locals := 128 }) [.ref o_h, .int p1, .int p2, .int p3, .int p4, .int p5] [oMo o_h o_a0 o_a1 o_a2 o_a3 o_hasImage o_place o_rowAt o_rowEnd o_a8 o_a9 o_seed o_a11 o_a12 o_a13 o_a14 o_a15 o_a16 o_thrown, ai E o_a0 42 o_s, ai E o_a1 42 o_m, ai E o_a2 42 o_image, ai E o_a3 42 o_was, ai E o_a8 3 o_numbers, ai E o_a9 8192 o_most, ai E o_a11 8 o_kept, ai E o_a12 8 o_keptKind, ai E o_a13 8 o_keptFigure, ai E o_a14 8 o_sort, ai E o_a15 8 o_size, ai E o_a16 800 o_element] [oMo o_h o_a0 o_a1 o_a2 o_a3 o_hasImage o_place o_rowAt o_rowEnd o_a8 o_a9 o_seed o_a11 o_a12 o_a13 o_a14 o_a15 o_a16 o_thrown, ai E o_a0 42 o_s, ai E o_a1 42 w_o_m, ai E o_a2 42 o_image, ai E o_a3 42 o_was, ai E o_a8 3 o_numbers, ai E o_a9 8192 o_most, ai E o_a11 8 o_kept, ai E o_a12 8 o_keptKind, ai E o_a13 8 o_keptFigure, ai E o_a14 8 o_sort, ai E o_a15 8 o_size, ai E o_a16 800 o_element] (some (.int res)) := by
  refine Wr.intro RX10 (by decide) rfl (Nat.le_of_ble_eq_true rfl) ?_
  intro p e s m below meth c ls A hC hr hlk hmn hP hD hS hA hG hl
  obtain ⟨hx, hb, hml, hown, ht⟩ := id hC
  have hK := hG.1
  have hl : lv_has ls 6 [(0, .ref o_h), (1, .int p1), (2, .int p2), (3, .int p3), (4, .int p4), (5, .int p5)] := hl
  rw [f_X10_hasBy] at hv
  refine lv_aload_n hx hb dX10_hasBy_0 rfl (lv_at hl 0 rfl) ?_
  refine va_get (D := E.1) (ci := 4) (v := .ref o_a0) (C := RX10) (T := TX10) (N := 18) hx hb ht i_X10 hown hK hP 0 rfl rfl 0 (by decide) (ht _ kw_4_134) (fun _ h9 => h9) rfl dX10_hasBy_1 ?_
  refine lv_aload_n hx hb dX10_hasBy_4 rfl (lv_at hl 0 rfl) ?_
  refine va_get (D := E.1) (ci := 4) (v := .ref o_a1) (C := RX10) (T := TX10) (N := 18) hx hb ht i_X10 hown hK hP 0 rfl rfl 1 (by decide) (ht _ kw_4_135) (fun _ h9 => h9) rfl dX10_hasBy_5 ?_
  obtain ⟨y1, h2, hv⟩ := ob_s hv
  refine wrS (as := [o_h, o_a0, o_a1, o_a2, o_a3, o_a8, o_a9, o_a11, o_a12, o_a13, o_a14, o_a15, o_a16]) (wr := [oMo o_h o_a0 o_a1 o_a2 o_a3 o_hasImage o_place o_rowAt o_rowEnd o_a8 o_a9 o_seed o_a11 o_a12 o_a13 o_a14 o_a15 o_a16 o_thrown, ai E o_a2 42 o_image, ai E o_a3 42 o_was, ai E o_a8 3 o_numbers, ai E o_a9 8192 o_most, ai E o_a11 8 o_kept, ai E o_a12 8 o_keptKind, ai E o_a13 8 o_keptFigure, ai E o_a14 8 o_sort, ai E o_a15 8 o_size, ai E o_a16 800 o_element]) [1, 2] [0, 3, 4, 5, 6, 7, 8, 9, 10, 11, 12] (ws := [oMo o_h o_a0 o_a1 o_a2 o_a3 o_hasImage o_place o_rowAt o_rowEnd o_a8 o_a9 o_seed o_a11 o_a12 o_a13 o_a14 o_a15 o_a16 o_thrown, ai E o_a0 42 o_s, ai E o_a1 42 o_m, ai E o_a2 42 o_image, ai E o_a3 42 o_was, ai E o_a8 3 o_numbers, ai E o_a9 8192 o_most, ai E o_a11 8 o_kept, ai E o_a12 8 o_keptKind, ai E o_a13 8 o_keptFigure, ai E o_a14 8 o_sort, ai E o_a15 8 o_size, ai E o_a16 800 o_element]) (ws' := [oMo o_h o_a0 o_a1 o_a2 o_a3 o_hasImage o_place o_rowAt o_rowEnd o_a8 o_a9 o_seed o_a11 o_a12 o_a13 o_a14 o_a15 o_a16 o_thrown, ai E o_a0 42 o_s, ai E o_a1 42 y1, ai E o_a2 42 o_image, ai E o_a3 42 o_was, ai E o_a8 3 o_numbers, ai E o_a9 8192 o_most, ai E o_a11 8 o_kept, ai E o_a12 8 o_keptKind, ai E o_a13 8 o_keptFigure, ai E o_a14 8 o_sort, ai E o_a15 8 o_size, ai E o_a16 800 o_element]) (rest := []) (st1 := []) hC q_X10_copies kw_4_215 (c_X10_copies l E o_a0 o_a1 o_s o_m N y1 h2) ⟨rfl, rfl⟩ ⟨Nat.le_of_ble_eq_true rfl, Nat.le_of_ble_eq_true rfl⟩ ⟨Nat.zero_le _, Nat.zero_le _⟩ hP hD hS hA hG (by decide) rfl rfl rfl rfl rfl rfl rfl rfl hl.1 rfl (Nat.le_of_ble_eq_true rfl) dX10_hasBy_8 rfl (fun H locs hP hD hS => ?_)
  refine lv_aload_n hx hb dX10_hasBy_11 rfl (lv_at hl 0 rfl) ?_
  refine va_get (D := E.1) (ci := 4) (v := .ref o_a1) (C := RX10) (T := TX10) (N := 18) hx hb ht i_X10 hown hK hP 0 rfl rfl 1 (by decide) (ht _ kw_4_135) (fun _ h9 => h9) rfl dX10_hasBy_12 ?_
  refine lv_iload_n hx hb dX10_hasBy_15 rfl (lv_at hl 2 rfl) ?_
  refine lv_iconst (v := (3 : Int32)) hx hb dX10_hasBy_16 (by decide) ?_
  obtain ⟨r3, h4, hv⟩ := ob_s hv
  refine rdS (rest := [.ref o_a1]) (st1 := [.int r3, .ref o_a1]) (w := []) hC q_X10_of kw_4_226 (c_X10_of l E p2 (3 : Int32) r3 h4) ⟨rfl, rfl⟩ ⟨Nat.le_of_ble_eq_true rfl, Nat.le_of_ble_eq_true rfl⟩ ⟨Nat.zero_le _, Nat.zero_le _⟩ (hP.sub (ws' := []) [] rfl) hG rfl hl.1 rfl (Nat.le_of_ble_eq_true rfl) dX10_hasBy_17 rfl ?_
  refine lv_bipush (v := (9 : Int32)) hx hb dX10_hasBy_20 (by decide) ?_
  refine lv_iload_n hx hb dX10_hasBy_22 rfl (lv_at hl 3 rfl) ?_
  refine lv_imul hx hb dX10_hasBy_23 ?_
  obtain ⟨g5, hv⟩ := gd_s hv
  refine va_iast hx hb hK hP hD hS 2 0 rfl rfl (ix_s g5) dX10_hasBy_24 (fun H locs hP hD hS => ?_)
  have hP : va_P E.1 vwCl [oMo o_h o_a0 o_a1 o_a2 o_a3 o_hasImage o_place o_rowAt o_rowEnd o_a8 o_a9 o_seed o_a11 o_a12 o_a13 o_a14 o_a15 o_a16 o_thrown, ai E o_a0 42 o_s, ai E o_a1 42 (upd y1 r3.toNatClampNeg ((9 : Int32) * p3)), ai E o_a2 42 o_image, ai E o_a3 42 o_was, ai E o_a8 3 o_numbers, ai E o_a9 8192 o_most, ai E o_a11 8 o_kept, ai E o_a12 8 o_keptKind, ai E o_a13 8 o_keptFigure, ai E o_a14 8 o_sort, ai E o_a15 8 o_size, ai E o_a16 800 o_element] H := hP
  have hD : va_D A [oMo o_h o_a0 o_a1 o_a2 o_a3 o_hasImage o_place o_rowAt o_rowEnd o_a8 o_a9 o_seed o_a11 o_a12 o_a13 o_a14 o_a15 o_a16 o_thrown, ai E o_a0 42 o_s, ai E o_a1 42 (upd y1 r3.toNatClampNeg ((9 : Int32) * p3)), ai E o_a2 42 o_image, ai E o_a3 42 o_was, ai E o_a8 3 o_numbers, ai E o_a9 8192 o_most, ai E o_a11 8 o_kept, ai E o_a12 8 o_keptKind, ai E o_a13 8 o_keptFigure, ai E o_a14 8 o_sort, ai E o_a15 8 o_size, ai E o_a16 800 o_element] := hD
  obtain ⟨f6, ef6⟩ : ∃ z, z = (upd y1 r3.toNatClampNeg ((9 : Int32) * p3)) := ⟨_, rfl⟩
  rw [← ef6] at hP hD
  have hv := nm_s ef6 hv
  refine lv_aload_n hx hb dX10_hasBy_25 rfl (lv_at hl 0 rfl) ?_
  refine va_get (D := E.1) (ci := 4) (v := .ref o_a1) (C := RX10) (T := TX10) (N := 18) hx hb ht i_X10 hown hK hP 0 rfl rfl 1 (by decide) (ht _ kw_4_135) (fun _ h9 => h9) rfl dX10_hasBy_26 ?_
  refine lv_iload hx hb dX10_hasBy_29 (lv_at hl 4 rfl) ?_
  refine lv_iconst (v := (3 : Int32)) hx hb dX10_hasBy_31 (by decide) ?_
  obtain ⟨r7, h8, hv⟩ := ob_s hv
  refine rdS (rest := [.ref o_a1]) (st1 := [.int r7, .ref o_a1]) (w := []) hC q_X10_of kw_4_226 (c_X10_of l E p4 (3 : Int32) r7 h8) ⟨rfl, rfl⟩ ⟨Nat.le_of_ble_eq_true rfl, Nat.le_of_ble_eq_true rfl⟩ ⟨Nat.zero_le _, Nat.zero_le _⟩ (hP.sub (ws' := []) [] rfl) hG rfl hl.1 rfl (Nat.le_of_ble_eq_true rfl) dX10_hasBy_32 rfl ?_
  refine lv_bipush (v := (9 : Int32)) hx hb dX10_hasBy_35 (by decide) ?_
  refine lv_iload hx hb dX10_hasBy_37 (lv_at hl 5 rfl) ?_
  refine lv_imul hx hb dX10_hasBy_39 ?_
  obtain ⟨g9, hv⟩ := gd_s hv
  refine va_iast hx hb hK hP hD hS 2 0 rfl rfl (ix_s g9) dX10_hasBy_40 (fun H locs hP hD hS => ?_)
  have hP : va_P E.1 vwCl [oMo o_h o_a0 o_a1 o_a2 o_a3 o_hasImage o_place o_rowAt o_rowEnd o_a8 o_a9 o_seed o_a11 o_a12 o_a13 o_a14 o_a15 o_a16 o_thrown, ai E o_a0 42 o_s, ai E o_a1 42 (upd f6 r7.toNatClampNeg ((9 : Int32) * p5)), ai E o_a2 42 o_image, ai E o_a3 42 o_was, ai E o_a8 3 o_numbers, ai E o_a9 8192 o_most, ai E o_a11 8 o_kept, ai E o_a12 8 o_keptKind, ai E o_a13 8 o_keptFigure, ai E o_a14 8 o_sort, ai E o_a15 8 o_size, ai E o_a16 800 o_element] H := hP
  have hD : va_D A [oMo o_h o_a0 o_a1 o_a2 o_a3 o_hasImage o_place o_rowAt o_rowEnd o_a8 o_a9 o_seed o_a11 o_a12 o_a13 o_a14 o_a15 o_a16 o_thrown, ai E o_a0 42 o_s, ai E o_a1 42 (upd f6 r7.toNatClampNeg ((9 : Int32) * p5)), ai E o_a2 42 o_image, ai E o_a3 42 o_was, ai E o_a8 3 o_numbers, ai E o_a9 8192 o_most, ai E o_a11 8 o_kept, ai E o_a12 8 o_keptKind, ai E o_a13 8 o_keptFigure, ai E o_a14 8 o_sort, ai E o_a15 8 o_size, ai E o_a16 800 o_element] := hD
  obtain ⟨f10, ef10⟩ : ∃ z, z = (upd f6 r7.toNatClampNeg ((9 : Int32) * p5)) := ⟨_, rfl⟩
  rw [← ef10] at hP hD
  have hv := nm_s ef10 hv
  refine lv_aload_n hx hb dX10_hasBy_41 rfl (lv_at hl 0 rfl) ?_
  refine va_get (D := E.1) (ci := 4) (v := .ref o_a1) (C := RX10) (T := TX10) (N := 18) hx hb ht i_X10 hown hK hP 0 rfl rfl 1 (by decide) (ht _ kw_4_135) (fun _ h9 => h9) rfl dX10_hasBy_42 ?_
  obtain ⟨r11, h12, hv⟩ := ob_s hv
  refine rdS (rest := []) (st1 := [.int r11]) (w := [ai E o_a1 42 f10]) hC q_X10_doesCarry kw_5_70 (c_X10_doesCarry l E o_a1 f10 N r11 h12) ⟨rfl, rfl⟩ ⟨Nat.le_of_ble_eq_true rfl, Nat.le_of_ble_eq_true rfl⟩ ⟨Nat.zero_le _, Nat.zero_le _⟩ (hP.sub (ws' := [ai E o_a1 42 f10]) [2] rfl) hG rfl hl.1 rfl (Nat.le_of_ble_eq_true rfl) dX10_hasBy_45 rfl ?_
  refine lv_aload_n hx hb dX10_hasBy_48 rfl (lv_at hl 0 rfl) ?_
  refine va_get (D := E.1) (ci := 4) (v := .ref o_a0) (C := RX10) (T := TX10) (N := 18) hx hb ht i_X10 hown hK hP 0 rfl rfl 0 (by decide) (ht _ kw_4_134) (fun _ h9 => h9) rfl dX10_hasBy_49 ?_
  refine lv_iload_n hx hb dX10_hasBy_52 rfl (lv_at hl 1 rfl) ?_
  refine lv_iconst (v := (3 : Int32)) hx hb dX10_hasBy_53 (by decide) ?_
  obtain ⟨r13, h14, hv⟩ := ob_s hv
  refine rdS (rest := [.ref o_a0, .int r11]) (st1 := [.int r13, .ref o_a0, .int r11]) (w := []) hC q_X10_of kw_4_226 (c_X10_of l E p1 (3 : Int32) r13 h14) ⟨rfl, rfl⟩ ⟨Nat.le_of_ble_eq_true rfl, Nat.le_of_ble_eq_true rfl⟩ ⟨Nat.zero_le _, Nat.zero_le _⟩ (hP.sub (ws' := []) [] rfl) hG rfl hl.1 rfl (Nat.le_of_ble_eq_true rfl) dX10_hasBy_54 rfl ?_
  obtain ⟨g15, hv⟩ := gd_s hv
  refine va_iald hx hb hK hP 1 0 rfl rfl (ix_s g15) dX10_hasBy_57 ?_
  refine lv_if_le (tgt := 65) hx hb dX10_hasBy_58 (by decide) (fun c16 => ?_) (fun c16 => ?_)
  · have hv := if_y c16 hv
    refine lv_iconst (v := (0 : Int32)) hx hb dX10_hasBy_65 (by decide) ?_
    refine lv_icmp_ne (tgt := 73) hx hb dX10_hasBy_66 (by decide) (fun c17 => ?_) (fun c17 => ?_)
    · have hv := if_n c17 hv
      refine lv_iconst (v := (0 : Int32)) hx hb dX10_hasBy_73 (by decide) ?_
      refine lv_iload_n hx hb dX10_hasBy_74 rfl (lv_at hl 1 rfl) ?_
      refine lv_iload_n hx hb dX10_hasBy_75 rfl (lv_at hl 2 rfl) ?_
      refine lv_icmp_ne (tgt := 83) hx hb dX10_hasBy_76 (by decide) (fun c18 => ?_) (fun c18 => ?_)
      · have hv := if_n c18 hv
        refine lv_iload hx hb dX10_hasBy_83 (lv_at hl 5 rfl) ?_
        refine lv_isub hx hb dX10_hasBy_85 ?_
        refine lv_topi (fun z19 ez19 => ?_)
        have hv := nm_s ez19 hv
        cases hv
        exact W.iret hx hb hr (fun t h9 _ => ⟨rfl, by rw [h9]; exact hP, hS.F h9⟩) hS.2.2 dX10_hasBy_86 hlk
      · have hv := if_y c18 hv
        refine lv_iload_n hx hb dX10_hasBy_79 rfl (lv_at hl 3 rfl) ?_
        refine lv_goto (tgt := 85) hx hb dX10_hasBy_80 (by decide) ?_
        refine lv_isub hx hb dX10_hasBy_85 ?_
        refine lv_topi (fun z20 ez20 => ?_)
        have hv := nm_s ez20 hv
        cases hv
        exact W.iret hx hb hr (fun t h9 _ => ⟨rfl, by rw [h9]; exact hP, hS.F h9⟩) hS.2.2 dX10_hasBy_86 hlk
    · have hv := if_y c17 hv
      refine lv_iconst (v := (5 : Int32)) hx hb dX10_hasBy_69 (by decide) ?_
      refine lv_goto (tgt := 74) hx hb dX10_hasBy_70 (by decide) ?_
      refine lv_iload_n hx hb dX10_hasBy_74 rfl (lv_at hl 1 rfl) ?_
      refine lv_iload_n hx hb dX10_hasBy_75 rfl (lv_at hl 2 rfl) ?_
      refine lv_icmp_ne (tgt := 83) hx hb dX10_hasBy_76 (by decide) (fun c21 => ?_) (fun c21 => ?_)
      · have hv := if_n c21 hv
        refine lv_iload hx hb dX10_hasBy_83 (lv_at hl 5 rfl) ?_
        refine lv_isub hx hb dX10_hasBy_85 ?_
        refine lv_topi (fun z22 ez22 => ?_)
        have hv := nm_s ez22 hv
        cases hv
        exact W.iret hx hb hr (fun t h9 _ => ⟨rfl, by rw [h9]; exact hP, hS.F h9⟩) hS.2.2 dX10_hasBy_86 hlk
      · have hv := if_y c21 hv
        refine lv_iload_n hx hb dX10_hasBy_79 rfl (lv_at hl 3 rfl) ?_
        refine lv_goto (tgt := 85) hx hb dX10_hasBy_80 (by decide) ?_
        refine lv_isub hx hb dX10_hasBy_85 ?_
        refine lv_topi (fun z23 ez23 => ?_)
        have hv := nm_s ez23 hv
        cases hv
        exact W.iret hx hb hr (fun t h9 _ => ⟨rfl, by rw [h9]; exact hP, hS.F h9⟩) hS.2.2 dX10_hasBy_86 hlk
  · have hv := if_n c16 hv
    refine lv_iconst (v := (1 : Int32)) hx hb dX10_hasBy_61 (by decide) ?_
    refine lv_goto (tgt := 66) hx hb dX10_hasBy_62 (by decide) ?_
    refine lv_icmp_ne (tgt := 73) hx hb dX10_hasBy_66 (by decide) (fun c24 => ?_) (fun c24 => ?_)
    · have hv := if_n c24 hv
      refine lv_iconst (v := (0 : Int32)) hx hb dX10_hasBy_73 (by decide) ?_
      refine lv_iload_n hx hb dX10_hasBy_74 rfl (lv_at hl 1 rfl) ?_
      refine lv_iload_n hx hb dX10_hasBy_75 rfl (lv_at hl 2 rfl) ?_
      refine lv_icmp_ne (tgt := 83) hx hb dX10_hasBy_76 (by decide) (fun c25 => ?_) (fun c25 => ?_)
      · have hv := if_n c25 hv
        refine lv_iload hx hb dX10_hasBy_83 (lv_at hl 5 rfl) ?_
        refine lv_isub hx hb dX10_hasBy_85 ?_
        refine lv_topi (fun z26 ez26 => ?_)
        have hv := nm_s ez26 hv
        cases hv
        exact W.iret hx hb hr (fun t h9 _ => ⟨rfl, by rw [h9]; exact hP, hS.F h9⟩) hS.2.2 dX10_hasBy_86 hlk
      · have hv := if_y c25 hv
        refine lv_iload_n hx hb dX10_hasBy_79 rfl (lv_at hl 3 rfl) ?_
        refine lv_goto (tgt := 85) hx hb dX10_hasBy_80 (by decide) ?_
        refine lv_isub hx hb dX10_hasBy_85 ?_
        refine lv_topi (fun z27 ez27 => ?_)
        have hv := nm_s ez27 hv
        cases hv
        exact W.iret hx hb hr (fun t h9 _ => ⟨rfl, by rw [h9]; exact hP, hS.F h9⟩) hS.2.2 dX10_hasBy_86 hlk
    · have hv := if_y c24 hv
      refine lv_iconst (v := (5 : Int32)) hx hb dX10_hasBy_69 (by decide) ?_
      refine lv_goto (tgt := 74) hx hb dX10_hasBy_70 (by decide) ?_
      refine lv_iload_n hx hb dX10_hasBy_74 rfl (lv_at hl 1 rfl) ?_
      refine lv_iload_n hx hb dX10_hasBy_75 rfl (lv_at hl 2 rfl) ?_
      refine lv_icmp_ne (tgt := 83) hx hb dX10_hasBy_76 (by decide) (fun c28 => ?_) (fun c28 => ?_)
      · have hv := if_n c28 hv
        refine lv_iload hx hb dX10_hasBy_83 (lv_at hl 5 rfl) ?_
        refine lv_isub hx hb dX10_hasBy_85 ?_
        refine lv_topi (fun z29 ez29 => ?_)
        have hv := nm_s ez29 hv
        cases hv
        exact W.iret hx hb hr (fun t h9 _ => ⟨rfl, by rw [h9]; exact hP, hS.F h9⟩) hS.2.2 dX10_hasBy_86 hlk
      · have hv := if_y c28 hv
        refine lv_iload_n hx hb dX10_hasBy_79 rfl (lv_at hl 3 rfl) ?_
        refine lv_goto (tgt := 85) hx hb dX10_hasBy_80 (by decide) ?_
        refine lv_isub hx hb dX10_hasBy_85 ?_
        refine lv_topi (fun z30 ez30 => ?_)
        have hv := nm_s ez30 hv
        cases hv
        exact W.iret hx hb hr (fun t h9 _ => ⟨rfl, by rw [h9]; exact hP, hS.F h9⟩) hS.2.2 dX10_hasBy_86 hlk
theorem dX10_two_0 : decode cX10_two 0 = .ok (.aload_n 0, 1) := by decide +kernel
theorem dX10_two_1 : decode cX10_two 1 = .ok (.iload_n 1, 1) := by decide +kernel
theorem dX10_two_2 : decode cX10_two 2 = .ok (.invokevirtual 134, 3) := by decide +kernel
theorem dX10_two_5 : decode cX10_two 5 = .ok (.ifCond .eq 16, 3) := by decide +kernel
theorem dX10_two_8 : decode cX10_two 8 = .ok (.aload_n 0, 1) := by decide +kernel
theorem dX10_two_9 : decode cX10_two 9 = .ok (.iload_n 2, 1) := by decide +kernel
theorem dX10_two_10 : decode cX10_two 10 = .ok (.invokevirtual 134, 3) := by decide +kernel
theorem dX10_two_13 : decode cX10_two 13 = .ok (.ifCond .eq 8, 3) := by decide +kernel
theorem dX10_two_16 : decode cX10_two 16 = .ok (.iload_n 1, 1) := by decide +kernel
theorem dX10_two_17 : decode cX10_two 17 = .ok (.iload_n 2, 1) := by decide +kernel
theorem dX10_two_18 : decode cX10_two 18 = .ok (.if_icmp .ne 5, 3) := by decide +kernel
theorem dX10_two_21 : decode cX10_two 21 = .ok (.iconst (-1), 1) := by decide +kernel
theorem dX10_two_22 : decode cX10_two 22 = .ok (.ireturn, 1) := by decide +kernel
theorem dX10_two_23 : decode cX10_two 23 = .ok (.iconst 0, 1) := by decide +kernel
theorem dX10_two_24 : decode cX10_two 24 = .ok (.istore_n 3, 1) := by decide +kernel
theorem dX10_two_25 : decode cX10_two 25 = .ok (.iload_n 3, 1) := by decide +kernel
theorem dX10_two_26 : decode cX10_two 26 = .ok (.iconst 4, 1) := by decide +kernel
theorem dX10_two_27 : decode cX10_two 27 = .ok (.if_icmp .ge 82, 3) := by decide +kernel
theorem dX10_two_30 : decode cX10_two 30 = .ok (.iload_n 3, 1) := by decide +kernel
theorem dX10_two_31 : decode cX10_two 31 = .ok (.iconst 2, 1) := by decide +kernel
theorem dX10_two_32 : decode cX10_two 32 = .ok (.idiv, 1) := by decide +kernel
theorem dX10_two_33 : decode cX10_two 33 = .ok (.istore 4, 2) := by decide +kernel
theorem dX10_two_35 : decode cX10_two 35 = .ok (.iload_n 3, 1) := by decide +kernel
theorem dX10_two_36 : decode cX10_two 36 = .ok (.iconst 2, 1) := by decide +kernel
theorem dX10_two_37 : decode cX10_two 37 = .ok (.irem, 1) := by decide +kernel
theorem dX10_two_38 : decode cX10_two 38 = .ok (.istore 5, 2) := by decide +kernel
theorem dX10_two_40 : decode cX10_two 40 = .ok (.aload_n 0, 1) := by decide +kernel
theorem dX10_two_41 : decode cX10_two 41 = .ok (.iload_n 1, 1) := by decide +kernel
theorem dX10_two_42 : decode cX10_two 42 = .ok (.iload_n 1, 1) := by decide +kernel
theorem dX10_two_43 : decode cX10_two 43 = .ok (.iconst 1, 1) := by decide +kernel
theorem dX10_two_44 : decode cX10_two 44 = .ok (.iload 4, 2) := by decide +kernel
theorem dX10_two_46 : decode cX10_two 46 = .ok (.isub, 1) := by decide +kernel
theorem dX10_two_47 : decode cX10_two 47 = .ok (.iload_n 2, 1) := by decide +kernel
theorem dX10_two_48 : decode cX10_two 48 = .ok (.iload 5, 2) := by decide +kernel
theorem dX10_two_50 : decode cX10_two 50 = .ok (.invokevirtual 243, 3) := by decide +kernel
theorem dX10_two_53 : decode cX10_two 53 = .ok (.aload_n 0, 1) := by decide +kernel
theorem dX10_two_54 : decode cX10_two 54 = .ok (.iload_n 1, 1) := by decide +kernel
theorem dX10_two_55 : decode cX10_two 55 = .ok (.iload_n 1, 1) := by decide +kernel
theorem dX10_two_56 : decode cX10_two 56 = .ok (.iload 4, 2) := by decide +kernel
theorem dX10_two_58 : decode cX10_two 58 = .ok (.iload_n 2, 1) := by decide +kernel
theorem dX10_two_59 : decode cX10_two 59 = .ok (.iload 5, 2) := by decide +kernel
theorem dX10_two_61 : decode cX10_two 61 = .ok (.invokevirtual 243, 3) := by decide +kernel
theorem dX10_two_64 : decode cX10_two 64 = .ok (.if_icmp .gt 39, 3) := by decide +kernel
theorem dX10_two_67 : decode cX10_two 67 = .ok (.aload_n 0, 1) := by decide +kernel
theorem dX10_two_68 : decode cX10_two 68 = .ok (.iload_n 2, 1) := by decide +kernel
theorem dX10_two_69 : decode cX10_two 69 = .ok (.iload_n 1, 1) := by decide +kernel
theorem dX10_two_70 : decode cX10_two 70 = .ok (.iload 4, 2) := by decide +kernel
theorem dX10_two_72 : decode cX10_two 72 = .ok (.iload_n 2, 1) := by decide +kernel
theorem dX10_two_73 : decode cX10_two 73 = .ok (.iconst 1, 1) := by decide +kernel
theorem dX10_two_74 : decode cX10_two 74 = .ok (.iload 5, 2) := by decide +kernel
theorem dX10_two_76 : decode cX10_two 76 = .ok (.isub, 1) := by decide +kernel
theorem dX10_two_77 : decode cX10_two 77 = .ok (.invokevirtual 243, 3) := by decide +kernel
theorem dX10_two_80 : decode cX10_two 80 = .ok (.aload_n 0, 1) := by decide +kernel
theorem dX10_two_81 : decode cX10_two 81 = .ok (.iload_n 2, 1) := by decide +kernel
theorem dX10_two_82 : decode cX10_two 82 = .ok (.iload_n 1, 1) := by decide +kernel
theorem dX10_two_83 : decode cX10_two 83 = .ok (.iload 4, 2) := by decide +kernel
theorem dX10_two_85 : decode cX10_two 85 = .ok (.iload_n 2, 1) := by decide +kernel
theorem dX10_two_86 : decode cX10_two 86 = .ok (.iload 5, 2) := by decide +kernel
theorem dX10_two_88 : decode cX10_two 88 = .ok (.invokevirtual 243, 3) := by decide +kernel
theorem dX10_two_91 : decode cX10_two 91 = .ok (.if_icmp .gt 12, 3) := by decide +kernel
theorem dX10_two_94 : decode cX10_two 94 = .ok (.bipush 10, 2) := by decide +kernel
theorem dX10_two_96 : decode cX10_two 96 = .ok (.iload 4, 2) := by decide +kernel
theorem dX10_two_98 : decode cX10_two 98 = .ok (.imul, 1) := by decide +kernel
theorem dX10_two_99 : decode cX10_two 99 = .ok (.iload 5, 2) := by decide +kernel
theorem dX10_two_101 : decode cX10_two 101 = .ok (.iadd, 1) := by decide +kernel
theorem dX10_two_102 : decode cX10_two 102 = .ok (.ireturn, 1) := by decide +kernel
theorem dX10_two_103 : decode cX10_two 103 = .ok (.iinc 3 1, 3) := by decide +kernel
theorem dX10_two_106 : decode cX10_two 106 = .ok (.goto (-81), 3) := by decide +kernel
theorem dX10_two_109 : decode cX10_two 109 = .ok (.bipush (-4), 2) := by decide +kernel
theorem dX10_two_111 : decode cX10_two 111 = .ok (.ireturn, 1) := by decide +kernel
def L_X10_two_25 (N : Nat) (o_s : Nat → Int32) (p1 : Int32) (p2 : Int32) : Nat → Int32 → (Nat → Int32) → Option (Int32 × (Nat → Int32))
  | 0, _, _ => none
  | n25 + 1, x10, y11 => if (4 : Int32) ≤ x10 then nm (-4 : Int32) (fun z13 => some (z13, y11)) else nm (x10 - x10 / (2 : Int32) * (2 : Int32)) (fun z14 => ob (f_X10_hasBy N o_s y11 p1 p1 ((1 : Int32) - (x10 / (2 : Int32))) p2 z14) (fun (r15, y16) => ob (f_X10_hasBy N o_s y16 p1 p1 (x10 / (2 : Int32)) p2 z14) (fun (r18, y19) => if r18 < r15 then L_X10_two_25 N o_s p1 p2 n25 (x10 + (1 : Int32)) y19 else ob (f_X10_hasBy N o_s y19 p2 p1 (x10 / (2 : Int32)) p2 ((1 : Int32) - z14)) (fun (r22, y23) => ob (f_X10_hasBy N o_s y23 p2 p1 (x10 / (2 : Int32)) p2 z14) (fun (r25, y26) => if r25 < r22 then L_X10_two_25 N o_s p1 p2 n25 (x10 + (1 : Int32)) y26 else nm (((10 : Int32) * (x10 / (2 : Int32))) + z14) (fun z29 => some (z29, y26)))))))
def f_X10_two (N : Nat) (o_s : Nat → Int32) (o_m : Nat → Int32) (p1 : Int32) (p2 : Int32) : Option (Int32 × (Nat → Int32)) := ob (f_X10_isSpeaker o_s p1) (fun r1 => if r1 = 0 then nm (-1 : Int32) (fun z4 => some (z4, o_m)) else ob (f_X10_isSpeaker o_s p2) (fun r5 => if r5 = 0 then nm (-1 : Int32) (fun z8 => some (z8, o_m)) else if p1 = p2 then nm (-1 : Int32) (fun z30 => some (z30, o_m)) else L_X10_two_25 N o_s p1 p2 N (0 : Int32) o_m))
set_option maxHeartbeats 4000000 in
set_option maxRecDepth 100000 in
theorem c_X10_two (l : Launch) (E : EE) (o_h : Nat) (o_a0 : Nat) (o_a1 : Nat) (o_a2 : Nat) (o_a3 : Nat) (o_a8 : Nat) (o_a9 : Nat) (o_a11 : Nat) (o_a12 : Nat) (o_a13 : Nat) (o_a14 : Nat) (o_a15 : Nat) (o_a16 : Nat) (o_s : Nat → Int32) (o_m : Nat → Int32) (o_image : Nat → Int32) (o_was : Nat → Int32) (o_hasImage : Int32) (o_place : Int32) (o_rowAt : Int32) (o_rowEnd : Int32) (o_numbers : Nat → Int32) (o_most : Nat → Int32) (o_seed : Int32) (o_kept : Nat → Int32) (o_keptKind : Nat → Int32) (o_keptFigure : Nat → Int32) (o_sort : Nat → Int32) (o_size : Nat → Int32) (o_element : Nat → Int32) (o_thrown : Int32) (p1 : Int32) (p2 : Int32) (N : Nat) (res : Int32) (w_o_m : Nat → Int32) (hv : f_X10_two N o_s o_m p1 p2 = some (res, w_o_m)) : Wr l E yX10_two cX10_two 6 (some .int) ({ frames := 7, cells := 0, slots := 0, locals := 153 }) [.ref o_h, .int p1, .int p2] [oMo o_h o_a0 o_a1 o_a2 o_a3 o_hasImage o_place o_rowAt o_rowEnd o_a8 o_a9 o_seed o_a11 o_a12 o_a13 o_a14 o_a15 o_a16 o_thrown, ai E o_a0 42 o_s, ai E o_a1 42 o_m, ai E o_a2 42 o_image, ai E o_a3 42 o_was, ai E o_a8 3 o_numbers, ai E o_a9 8192 o_most, ai E o_a11 8 o_kept, ai E o_a12 8 o_keptKind, ai E o_a13 8 o_keptFigure, ai E o_a14 8 o_sort, ai E o_a15 8 o_size, ai E o_a16 800 o_element] [oMo o_h o_a0 o_a1 o_a2 o_a3 o_hasImage o_place o_rowAt o_rowEnd o_a8 o_a9 o_seed o_a11 o_a12 o_a13 o_a14 o_a15 o_a16 o_thrown, ai E o_a0 42 o_s, ai E o_a1 42 w_o_m, ai E o_a2 42 o_image, ai E o_a3 42 o_was, ai E o_a8 3 o_numbers, ai E o_a9 8192 o_most, ai E o_a11 8 o_kept, ai E o_a12 8 o_keptKind, ai E o_a13 8 o_keptFigure, ai E o_a14 8 o_sort, ai E o_a15 8 o_size, ai E o_a16 800 o_element] (some (.int res)) := by
  refine Wr.intro RX10 (by decide) rfl (Nat.le_of_ble_eq_true rfl) ?_
  intro p e s m below meth c ls A hC hr hlk hmn hP hD hS hA hG hl
  obtain ⟨hx, hb, hml, hown, ht⟩ := id hC
  have hK := hG.1
  have hl : lv_has ls 6 [(0, .ref o_h), (1, .int p1), (2, .int p2)] := hl
  rw [f_X10_two] at hv
  refine lv_aload_n hx hb dX10_two_0 rfl (lv_at hl 0 rfl) ?_
  refine lv_iload_n hx hb dX10_two_1 rfl (lv_at hl 1 rfl) ?_
  obtain ⟨r1, h2, hv⟩ := ob_s hv
  refine rdV 4 0 (As := [.int p1]) (rest := []) (st1 := [.int r1]) (w := [oMo o_h o_a0 o_a1 o_a2 o_a3 o_hasImage o_place o_rowAt o_rowEnd o_a8 o_a9 o_seed o_a11 o_a12 o_a13 o_a14 o_a15 o_a16 o_thrown, ai E o_a0 42 o_s, ai E o_a1 42 o_m, ai E o_a2 42 o_image, ai E o_a3 42 o_was, ai E o_a8 3 o_numbers, ai E o_a9 8192 o_most, ai E o_a11 8 o_kept, ai E o_a12 8 o_keptKind, ai E o_a13 8 o_keptFigure, ai E o_a14 8 o_sort, ai E o_a15 8 o_size, ai E o_a16 800 o_element]) hC q_X10_isSpeaker kw_4_229 (c_X10_isSpeaker l E o_h o_a0 o_a1 o_a2 o_a3 o_a8 o_a9 o_a11 o_a12 o_a13 o_a14 o_a15 o_a16 o_s o_m o_image o_was o_hasImage o_place o_rowAt o_rowEnd o_numbers o_most o_seed o_kept o_keptKind o_keptFigure o_sort o_size o_element o_thrown p1 r1 h2) ⟨rfl, rfl⟩ ⟨Nat.le_of_ble_eq_true rfl, Nat.le_of_ble_eq_true rfl⟩ ⟨Nat.zero_le _, Nat.zero_le _⟩ hP rfl rfl rfl hG rfl hl.1 rfl (Nat.le_of_ble_eq_true rfl) dX10_two_2 rfl ?_
  refine lv_if_eq (tgt := 21) hx hb dX10_two_5 (by decide) (fun c3 => ?_) (fun c3 => ?_)
  · have hv := if_y c3 hv
    refine lv_iconst (v := (-1 : Int32)) hx hb dX10_two_21 (by decide) ?_
    refine lv_topi (fun z4 ez4 => ?_)
    have hv := nm_s ez4 hv
    cases hv
    exact W.iret hx hb hr (fun t h9 _ => ⟨rfl, by rw [h9]; exact hP, hS.F h9⟩) hS.2.2 dX10_two_22 hlk
  · have hv := if_n c3 hv
    refine lv_aload_n hx hb dX10_two_8 rfl (lv_at hl 0 rfl) ?_
    refine lv_iload_n hx hb dX10_two_9 rfl (lv_at hl 2 rfl) ?_
    obtain ⟨r5, h6, hv⟩ := ob_s hv
    refine rdV 4 0 (As := [.int p2]) (rest := []) (st1 := [.int r5]) (w := [oMo o_h o_a0 o_a1 o_a2 o_a3 o_hasImage o_place o_rowAt o_rowEnd o_a8 o_a9 o_seed o_a11 o_a12 o_a13 o_a14 o_a15 o_a16 o_thrown, ai E o_a0 42 o_s, ai E o_a1 42 o_m, ai E o_a2 42 o_image, ai E o_a3 42 o_was, ai E o_a8 3 o_numbers, ai E o_a9 8192 o_most, ai E o_a11 8 o_kept, ai E o_a12 8 o_keptKind, ai E o_a13 8 o_keptFigure, ai E o_a14 8 o_sort, ai E o_a15 8 o_size, ai E o_a16 800 o_element]) hC q_X10_isSpeaker kw_4_229 (c_X10_isSpeaker l E o_h o_a0 o_a1 o_a2 o_a3 o_a8 o_a9 o_a11 o_a12 o_a13 o_a14 o_a15 o_a16 o_s o_m o_image o_was o_hasImage o_place o_rowAt o_rowEnd o_numbers o_most o_seed o_kept o_keptKind o_keptFigure o_sort o_size o_element o_thrown p2 r5 h6) ⟨rfl, rfl⟩ ⟨Nat.le_of_ble_eq_true rfl, Nat.le_of_ble_eq_true rfl⟩ ⟨Nat.zero_le _, Nat.zero_le _⟩ hP rfl rfl rfl hG rfl hl.1 rfl (Nat.le_of_ble_eq_true rfl) dX10_two_10 rfl ?_
    refine lv_if_eq (tgt := 21) hx hb dX10_two_13 (by decide) (fun c7 => ?_) (fun c7 => ?_)
    · have hv := if_y c7 hv
      refine lv_iconst (v := (-1 : Int32)) hx hb dX10_two_21 (by decide) ?_
      refine lv_topi (fun z8 ez8 => ?_)
      have hv := nm_s ez8 hv
      cases hv
      exact W.iret hx hb hr (fun t h9 _ => ⟨rfl, by rw [h9]; exact hP, hS.F h9⟩) hS.2.2 dX10_two_22 hlk
    · have hv := if_n c7 hv
      refine lv_iload_n hx hb dX10_two_16 rfl (lv_at hl 1 rfl) ?_
      refine lv_iload_n hx hb dX10_two_17 rfl (lv_at hl 2 rfl) ?_
      refine lv_icmp_ne (tgt := 23) hx hb dX10_two_18 (by decide) (fun c9 => ?_) (fun c9 => ?_)
      · have hv := if_n c9 hv
        refine lv_iconst (v := (0 : Int32)) hx hb dX10_two_23 (by decide) ?_
        refine lv_istore_n (lv' := [(3, .int (0 : Int32)), (0, .ref o_h), (1, .int p1), (2, .int p2)]) hx hb dX10_two_24 rfl hl (by decide) rfl (fun ls hl => ?_)
        have hL25 : ∀ (n : Nat) (x10 : Int32) (y11 : Nat → Int32) (H : Heap) (locs : List Loc) (ls : Array Slot), va_P E.1 vwCl [oMo o_h o_a0 o_a1 o_a2 o_a3 o_hasImage o_place o_rowAt o_rowEnd o_a8 o_a9 o_seed o_a11 o_a12 o_a13 o_a14 o_a15 o_a16 o_thrown, ai E o_a0 42 o_s, ai E o_a1 42 y11, ai E o_a2 42 o_image, ai E o_a3 42 o_was, ai E o_a8 3 o_numbers, ai E o_a9 8192 o_most, ai E o_a11 8 o_kept, ai E o_a12 8 o_keptKind, ai E o_a13 8 o_keptFigure, ai E o_a14 8 o_sort, ai E o_a15 8 o_size, ai E o_a16 800 o_element] H → va_D A [oMo o_h o_a0 o_a1 o_a2 o_a3 o_hasImage o_place o_rowAt o_rowEnd o_a8 o_a9 o_seed o_a11 o_a12 o_a13 o_a14 o_a15 o_a16 o_thrown, ai E o_a0 42 o_s, ai E o_a1 42 y11, ai E o_a2 42 o_image, ai E o_a3 42 o_was, ai E o_a8 3 o_numbers, ai E o_a9 8192 o_most, ai E o_a11 8 o_kept, ai E o_a12 8 o_keptKind, ai E o_a13 8 o_keptFigure, ai E o_a14 8 o_sort, ai E o_a15 8 o_size, ai E o_a16 800 o_element] → va_S A s.heap H locs → lv_has ls 6 [(3, .int x10), (0, .ref o_h), (1, .int p1), (2, .int p2)] → L_X10_two_25 N o_s p1 p2 n x10 y11 = some (res, w_o_m) → W p l e ({ frames := 7, cells := 0, slots := 0, locals := 153 }) s m [.ref o_h, .int p1, .int p2].toArray below meth c H locs 0 0 (MQ below (fun _ st oc t => oc = .returned (some (.int res)) ∧ va_P E.1 vwCl [oMo o_h o_a0 o_a1 o_a2 o_a3 o_hasImage o_place o_rowAt o_rowEnd o_a8 o_a9 o_seed o_a11 o_a12 o_a13 o_a14 o_a15 o_a16 o_thrown, ai E o_a0 42 o_s, ai E o_a1 42 w_o_m, ai E o_a2 42 o_image, ai E o_a3 42 o_was, ai E o_a8 3 o_numbers, ai E o_a9 8192 o_most, ai E o_a11 8 o_kept, ai E o_a12 8 o_keptKind, ai E o_a13 8 o_keptFigure, ai E o_a14 8 o_sort, ai E o_a15 8 o_size, ai E o_a16 800 o_element] t.heap ∧ va_F A st t) [.ref o_h, .int p1, .int p2].toArray s 0 0 A) (F0 m 25 ls []) := by
          intro n
          induction n with
          | zero => intro x10 y11 H locs ls hP hD hS hl hv; cases hv
          | succ n25 ih25 =>
            intro x10 y11 H locs ls hP hD hS hl hv
            rw [L_X10_two_25] at hv
            refine lv_iload_n hx hb dX10_two_25 rfl (lv_at hl 0 rfl) ?_
            refine lv_iconst (v := (4 : Int32)) hx hb dX10_two_26 (by decide) ?_
            refine lv_icmp_ge (tgt := 109) hx hb dX10_two_27 (by decide) (fun c12 => ?_) (fun c12 => ?_)
            · have hv := if_y c12 hv
              refine lv_bipush (v := (-4 : Int32)) hx hb dX10_two_109 (by decide) ?_
              refine lv_topi (fun z13 ez13 => ?_)
              have hv := nm_s ez13 hv
              cases hv
              exact W.iret hx hb hr (fun t h9 _ => ⟨rfl, by rw [h9]; exact hP, hS.F h9⟩) hS.2.2 dX10_two_111 hlk
            · have hv := if_n c12 hv
              refine lv_iload_n hx hb dX10_two_30 rfl (lv_at hl 0 rfl) ?_
              refine lv_iconst (v := (2 : Int32)) hx hb dX10_two_31 (by decide) ?_
              refine lv_idiv hx hb dX10_two_32 (by decide) ?_
              refine lv_istore (lv' := [(4, .int (x10 / (2 : Int32))), (3, .int x10), (0, .ref o_h), (1, .int p1), (2, .int p2)]) hx hb dX10_two_33 hl (by decide) rfl (fun ls hl => ?_)
              refine lv_iload_n hx hb dX10_two_35 rfl (lv_at hl 1 rfl) ?_
              refine lv_iconst (v := (2 : Int32)) hx hb dX10_two_36 (by decide) ?_
              refine lv_irem hx hb dX10_two_37 (by decide) ?_
              refine lv_topi (fun z14 ez14 => ?_)
              have hv := nm_s ez14 hv
              refine lv_istore (lv' := [(5, .int z14), (4, .int (x10 / (2 : Int32))), (3, .int x10), (0, .ref o_h), (1, .int p1), (2, .int p2)]) hx hb dX10_two_38 hl (by decide) rfl (fun ls hl => ?_)
              refine lv_aload_n hx hb dX10_two_40 rfl (lv_at hl 3 rfl) ?_
              refine lv_iload_n hx hb dX10_two_41 rfl (lv_at hl 4 rfl) ?_
              refine lv_iload_n hx hb dX10_two_42 rfl (lv_at hl 4 rfl) ?_
              refine lv_iconst (v := (1 : Int32)) hx hb dX10_two_43 (by decide) ?_
              refine lv_iload hx hb dX10_two_44 (lv_at hl 1 rfl) ?_
              refine lv_isub hx hb dX10_two_46 ?_
              refine lv_iload_n hx hb dX10_two_47 rfl (lv_at hl 5 rfl) ?_
              refine lv_iload hx hb dX10_two_48 (lv_at hl 0 rfl) ?_
              obtain ⟨⟨r15, y16⟩, h17, hv⟩ := ob_s hv
              refine wrV (as := [o_h, o_a0, o_a1, o_a2, o_a3, o_a8, o_a9, o_a11, o_a12, o_a13, o_a14, o_a15, o_a16]) (wr := []) [0, 1, 2, 3, 4, 5, 6, 7, 8, 9, 10, 11, 12] [] 4 0 (ws := [oMo o_h o_a0 o_a1 o_a2 o_a3 o_hasImage o_place o_rowAt o_rowEnd o_a8 o_a9 o_seed o_a11 o_a12 o_a13 o_a14 o_a15 o_a16 o_thrown, ai E o_a0 42 o_s, ai E o_a1 42 y11, ai E o_a2 42 o_image, ai E o_a3 42 o_was, ai E o_a8 3 o_numbers, ai E o_a9 8192 o_most, ai E o_a11 8 o_kept, ai E o_a12 8 o_keptKind, ai E o_a13 8 o_keptFigure, ai E o_a14 8 o_sort, ai E o_a15 8 o_size, ai E o_a16 800 o_element]) (ws' := [oMo o_h o_a0 o_a1 o_a2 o_a3 o_hasImage o_place o_rowAt o_rowEnd o_a8 o_a9 o_seed o_a11 o_a12 o_a13 o_a14 o_a15 o_a16 o_thrown, ai E o_a0 42 o_s, ai E o_a1 42 y16, ai E o_a2 42 o_image, ai E o_a3 42 o_was, ai E o_a8 3 o_numbers, ai E o_a9 8192 o_most, ai E o_a11 8 o_kept, ai E o_a12 8 o_keptKind, ai E o_a13 8 o_keptFigure, ai E o_a14 8 o_sort, ai E o_a15 8 o_size, ai E o_a16 800 o_element]) (As := [.int p1, .int p1, .int ((1 : Int32) - (x10 / (2 : Int32))), .int p2, .int z14]) (rest := []) (st1 := [.int r15]) hC q_X10_hasBy kw_6_21 (c_X10_hasBy l E o_h o_a0 o_a1 o_a2 o_a3 o_a8 o_a9 o_a11 o_a12 o_a13 o_a14 o_a15 o_a16 o_s y11 o_image o_was o_hasImage o_place o_rowAt o_rowEnd o_numbers o_most o_seed o_kept o_keptKind o_keptFigure o_sort o_size o_element o_thrown p1 p1 ((1 : Int32) - (x10 / (2 : Int32))) p2 z14 N r15 y16 h17) ⟨rfl, rfl⟩ ⟨Nat.le_of_ble_eq_true rfl, Nat.le_of_ble_eq_true rfl⟩ ⟨Nat.zero_le _, Nat.zero_le _⟩ hP hD hS hA rfl rfl rfl hG (by decide) rfl rfl rfl rfl rfl rfl rfl rfl hl.1 rfl (Nat.le_of_ble_eq_true rfl) dX10_two_50 rfl (fun H locs hP hD hS => ?_)
              refine lv_aload_n hx hb dX10_two_53 rfl (lv_at hl 3 rfl) ?_
              refine lv_iload_n hx hb dX10_two_54 rfl (lv_at hl 4 rfl) ?_
              refine lv_iload_n hx hb dX10_two_55 rfl (lv_at hl 4 rfl) ?_
              refine lv_iload hx hb dX10_two_56 (lv_at hl 1 rfl) ?_
              refine lv_iload_n hx hb dX10_two_58 rfl (lv_at hl 5 rfl) ?_
              refine lv_iload hx hb dX10_two_59 (lv_at hl 0 rfl) ?_
              obtain ⟨⟨r18, y19⟩, h20, hv⟩ := ob_s hv
              refine wrV (as := [o_h, o_a0, o_a1, o_a2, o_a3, o_a8, o_a9, o_a11, o_a12, o_a13, o_a14, o_a15, o_a16]) (wr := []) [0, 1, 2, 3, 4, 5, 6, 7, 8, 9, 10, 11, 12] [] 4 0 (ws := [oMo o_h o_a0 o_a1 o_a2 o_a3 o_hasImage o_place o_rowAt o_rowEnd o_a8 o_a9 o_seed o_a11 o_a12 o_a13 o_a14 o_a15 o_a16 o_thrown, ai E o_a0 42 o_s, ai E o_a1 42 y16, ai E o_a2 42 o_image, ai E o_a3 42 o_was, ai E o_a8 3 o_numbers, ai E o_a9 8192 o_most, ai E o_a11 8 o_kept, ai E o_a12 8 o_keptKind, ai E o_a13 8 o_keptFigure, ai E o_a14 8 o_sort, ai E o_a15 8 o_size, ai E o_a16 800 o_element]) (ws' := [oMo o_h o_a0 o_a1 o_a2 o_a3 o_hasImage o_place o_rowAt o_rowEnd o_a8 o_a9 o_seed o_a11 o_a12 o_a13 o_a14 o_a15 o_a16 o_thrown, ai E o_a0 42 o_s, ai E o_a1 42 y19, ai E o_a2 42 o_image, ai E o_a3 42 o_was, ai E o_a8 3 o_numbers, ai E o_a9 8192 o_most, ai E o_a11 8 o_kept, ai E o_a12 8 o_keptKind, ai E o_a13 8 o_keptFigure, ai E o_a14 8 o_sort, ai E o_a15 8 o_size, ai E o_a16 800 o_element]) (As := [.int p1, .int p1, .int (x10 / (2 : Int32)), .int p2, .int z14]) (rest := [.int r15]) (st1 := [.int r18, .int r15]) hC q_X10_hasBy kw_6_21 (c_X10_hasBy l E o_h o_a0 o_a1 o_a2 o_a3 o_a8 o_a9 o_a11 o_a12 o_a13 o_a14 o_a15 o_a16 o_s y16 o_image o_was o_hasImage o_place o_rowAt o_rowEnd o_numbers o_most o_seed o_kept o_keptKind o_keptFigure o_sort o_size o_element o_thrown p1 p1 (x10 / (2 : Int32)) p2 z14 N r18 y19 h20) ⟨rfl, rfl⟩ ⟨Nat.le_of_ble_eq_true rfl, Nat.le_of_ble_eq_true rfl⟩ ⟨Nat.zero_le _, Nat.zero_le _⟩ hP hD hS hA rfl rfl rfl hG (by decide) rfl rfl rfl rfl rfl rfl rfl rfl hl.1 rfl (Nat.le_of_ble_eq_true rfl) dX10_two_61 rfl (fun H locs hP hD hS => ?_)
              refine lv_icmp_gt (tgt := 103) hx hb dX10_two_64 (by decide) (fun c21 => ?_) (fun c21 => ?_)
              · have hv := if_y c21 hv
                refine lv_iinc (v := (x10 + (1 : Int32))) (lv' := [(3, .int (x10 + (1 : Int32))), (5, .int z14), (4, .int (x10 / (2 : Int32))), (0, .ref o_h), (1, .int p1), (2, .int p2)]) hx hb dX10_two_103 hl (k := 2) rfl rfl (by decide) rfl (fun ls hl => ?_)
                refine lv_goto (tgt := 25) hx hb dX10_two_106 (by decide) ?_
                exact ih25 (x10 + (1 : Int32)) y19 _ _ _ hP hD hS (lv_sub hl [0, 3, 4, 5] rfl) hv
              · have hv := if_n c21 hv
                refine lv_aload_n hx hb dX10_two_67 rfl (lv_at hl 3 rfl) ?_
                refine lv_iload_n hx hb dX10_two_68 rfl (lv_at hl 5 rfl) ?_
                refine lv_iload_n hx hb dX10_two_69 rfl (lv_at hl 4 rfl) ?_
                refine lv_iload hx hb dX10_two_70 (lv_at hl 1 rfl) ?_
                refine lv_iload_n hx hb dX10_two_72 rfl (lv_at hl 5 rfl) ?_
                refine lv_iconst (v := (1 : Int32)) hx hb dX10_two_73 (by decide) ?_
                refine lv_iload hx hb dX10_two_74 (lv_at hl 0 rfl) ?_
                refine lv_isub hx hb dX10_two_76 ?_
                obtain ⟨⟨r22, y23⟩, h24, hv⟩ := ob_s hv
                refine wrV (as := [o_h, o_a0, o_a1, o_a2, o_a3, o_a8, o_a9, o_a11, o_a12, o_a13, o_a14, o_a15, o_a16]) (wr := []) [0, 1, 2, 3, 4, 5, 6, 7, 8, 9, 10, 11, 12] [] 4 0 (ws := [oMo o_h o_a0 o_a1 o_a2 o_a3 o_hasImage o_place o_rowAt o_rowEnd o_a8 o_a9 o_seed o_a11 o_a12 o_a13 o_a14 o_a15 o_a16 o_thrown, ai E o_a0 42 o_s, ai E o_a1 42 y19, ai E o_a2 42 o_image, ai E o_a3 42 o_was, ai E o_a8 3 o_numbers, ai E o_a9 8192 o_most, ai E o_a11 8 o_kept, ai E o_a12 8 o_keptKind, ai E o_a13 8 o_keptFigure, ai E o_a14 8 o_sort, ai E o_a15 8 o_size, ai E o_a16 800 o_element]) (ws' := [oMo o_h o_a0 o_a1 o_a2 o_a3 o_hasImage o_place o_rowAt o_rowEnd o_a8 o_a9 o_seed o_a11 o_a12 o_a13 o_a14 o_a15 o_a16 o_thrown, ai E o_a0 42 o_s, ai E o_a1 42 y23, ai E o_a2 42 o_image, ai E o_a3 42 o_was, ai E o_a8 3 o_numbers, ai E o_a9 8192 o_most, ai E o_a11 8 o_kept, ai E o_a12 8 o_keptKind, ai E o_a13 8 o_keptFigure, ai E o_a14 8 o_sort, ai E o_a15 8 o_size, ai E o_a16 800 o_element]) (As := [.int p2, .int p1, .int (x10 / (2 : Int32)), .int p2, .int ((1 : Int32) - z14)]) (rest := []) (st1 := [.int r22]) hC q_X10_hasBy kw_6_21 (c_X10_hasBy l E o_h o_a0 o_a1 o_a2 o_a3 o_a8 o_a9 o_a11 o_a12 o_a13 o_a14 o_a15 o_a16 o_s y19 o_image o_was o_hasImage o_place o_rowAt o_rowEnd o_numbers o_most o_seed o_kept o_keptKind o_keptFigure o_sort o_size o_element o_thrown p2 p1 (x10 / (2 : Int32)) p2 ((1 : Int32) - z14) N r22 y23 h24) ⟨rfl, rfl⟩ ⟨Nat.le_of_ble_eq_true rfl, Nat.le_of_ble_eq_true rfl⟩ ⟨Nat.zero_le _, Nat.zero_le _⟩ hP hD hS hA rfl rfl rfl hG (by decide) rfl rfl rfl rfl rfl rfl rfl rfl hl.1 rfl (Nat.le_of_ble_eq_true rfl) dX10_two_77 rfl (fun H locs hP hD hS => ?_)
                refine lv_aload_n hx hb dX10_two_80 rfl (lv_at hl 3 rfl) ?_
                refine lv_iload_n hx hb dX10_two_81 rfl (lv_at hl 5 rfl) ?_
                refine lv_iload_n hx hb dX10_two_82 rfl (lv_at hl 4 rfl) ?_
                refine lv_iload hx hb dX10_two_83 (lv_at hl 1 rfl) ?_
                refine lv_iload_n hx hb dX10_two_85 rfl (lv_at hl 5 rfl) ?_
                refine lv_iload hx hb dX10_two_86 (lv_at hl 0 rfl) ?_
                obtain ⟨⟨r25, y26⟩, h27, hv⟩ := ob_s hv
                refine wrV (as := [o_h, o_a0, o_a1, o_a2, o_a3, o_a8, o_a9, o_a11, o_a12, o_a13, o_a14, o_a15, o_a16]) (wr := []) [0, 1, 2, 3, 4, 5, 6, 7, 8, 9, 10, 11, 12] [] 4 0 (ws := [oMo o_h o_a0 o_a1 o_a2 o_a3 o_hasImage o_place o_rowAt o_rowEnd o_a8 o_a9 o_seed o_a11 o_a12 o_a13 o_a14 o_a15 o_a16 o_thrown, ai E o_a0 42 o_s, ai E o_a1 42 y23, ai E o_a2 42 o_image, ai E o_a3 42 o_was, ai E o_a8 3 o_numbers, ai E o_a9 8192 o_most, ai E o_a11 8 o_kept, ai E o_a12 8 o_keptKind, ai E o_a13 8 o_keptFigure, ai E o_a14 8 o_sort, ai E o_a15 8 o_size, ai E o_a16 800 o_element]) (ws' := [oMo o_h o_a0 o_a1 o_a2 o_a3 o_hasImage o_place o_rowAt o_rowEnd o_a8 o_a9 o_seed o_a11 o_a12 o_a13 o_a14 o_a15 o_a16 o_thrown, ai E o_a0 42 o_s, ai E o_a1 42 y26, ai E o_a2 42 o_image, ai E o_a3 42 o_was, ai E o_a8 3 o_numbers, ai E o_a9 8192 o_most, ai E o_a11 8 o_kept, ai E o_a12 8 o_keptKind, ai E o_a13 8 o_keptFigure, ai E o_a14 8 o_sort, ai E o_a15 8 o_size, ai E o_a16 800 o_element]) (As := [.int p2, .int p1, .int (x10 / (2 : Int32)), .int p2, .int z14]) (rest := [.int r22]) (st1 := [.int r25, .int r22]) hC q_X10_hasBy kw_6_21 (c_X10_hasBy l E o_h o_a0 o_a1 o_a2 o_a3 o_a8 o_a9 o_a11 o_a12 o_a13 o_a14 o_a15 o_a16 o_s y23 o_image o_was o_hasImage o_place o_rowAt o_rowEnd o_numbers o_most o_seed o_kept o_keptKind o_keptFigure o_sort o_size o_element o_thrown p2 p1 (x10 / (2 : Int32)) p2 z14 N r25 y26 h27) ⟨rfl, rfl⟩ ⟨Nat.le_of_ble_eq_true rfl, Nat.le_of_ble_eq_true rfl⟩ ⟨Nat.zero_le _, Nat.zero_le _⟩ hP hD hS hA rfl rfl rfl hG (by decide) rfl rfl rfl rfl rfl rfl rfl rfl hl.1 rfl (Nat.le_of_ble_eq_true rfl) dX10_two_88 rfl (fun H locs hP hD hS => ?_)
                refine lv_icmp_gt (tgt := 103) hx hb dX10_two_91 (by decide) (fun c28 => ?_) (fun c28 => ?_)
                · have hv := if_y c28 hv
                  refine lv_iinc (v := (x10 + (1 : Int32))) (lv' := [(3, .int (x10 + (1 : Int32))), (5, .int z14), (4, .int (x10 / (2 : Int32))), (0, .ref o_h), (1, .int p1), (2, .int p2)]) hx hb dX10_two_103 hl (k := 2) rfl rfl (by decide) rfl (fun ls hl => ?_)
                  refine lv_goto (tgt := 25) hx hb dX10_two_106 (by decide) ?_
                  exact ih25 (x10 + (1 : Int32)) y26 _ _ _ hP hD hS (lv_sub hl [0, 3, 4, 5] rfl) hv
                · have hv := if_n c28 hv
                  refine lv_bipush (v := (10 : Int32)) hx hb dX10_two_94 (by decide) ?_
                  refine lv_iload hx hb dX10_two_96 (lv_at hl 1 rfl) ?_
                  refine lv_imul hx hb dX10_two_98 ?_
                  refine lv_iload hx hb dX10_two_99 (lv_at hl 0 rfl) ?_
                  refine lv_iadd hx hb dX10_two_101 ?_
                  refine lv_topi (fun z29 ez29 => ?_)
                  have hv := nm_s ez29 hv
                  cases hv
                  exact W.iret hx hb hr (fun t h9 _ => ⟨rfl, by rw [h9]; exact hP, hS.F h9⟩) hS.2.2 dX10_two_102 hlk
        exact hL25 N (0 : Int32) o_m _ _ _ hP hD hS (lv_sub hl [0, 1, 2, 3] rfl) hv
      · have hv := if_y c9 hv
        refine lv_iconst (v := (-1 : Int32)) hx hb dX10_two_21 (by decide) ?_
        refine lv_topi (fun z30 ez30 => ?_)
        have hv := nm_s ez30 hv
        cases hv
        exact W.iret hx hb hr (fun t h9 _ => ⟨rfl, by rw [h9]; exact hP, hS.F h9⟩) hS.2.2 dX10_two_22 hlk
theorem dX10_rain_0 : decode cX10_rain 0 = .ok (.iload_n 1, 1) := by decide +kernel
theorem dX10_rain_1 : decode cX10_rain 1 = .ok (.iconst 2, 1) := by decide +kernel
theorem dX10_rain_2 : decode cX10_rain 2 = .ok (.bipush 20, 2) := by decide +kernel
theorem dX10_rain_4 : decode cX10_rain 4 = .ok (.invokestatic 46, 3) := by decide +kernel
theorem dX10_rain_7 : decode cX10_rain 7 = .ok (.ifCond .eq 12, 3) := by decide +kernel
theorem dX10_rain_10 : decode cX10_rain 10 = .ok (.iload_n 2, 1) := by decide +kernel
theorem dX10_rain_11 : decode cX10_rain 11 = .ok (.iconst 0, 1) := by decide +kernel
theorem dX10_rain_12 : decode cX10_rain 12 = .ok (.iconst 1, 1) := by decide +kernel
theorem dX10_rain_13 : decode cX10_rain 13 = .ok (.invokestatic 46, 3) := by decide +kernel
theorem dX10_rain_16 : decode cX10_rain 16 = .ok (.ifCond .ne 7, 3) := by decide +kernel
theorem dX10_rain_19 : decode cX10_rain 19 = .ok (.ldc2_w 193, 3) := by decide +kernel
theorem dX10_rain_22 : decode cX10_rain 22 = .ok (.lreturn, 1) := by decide +kernel
theorem dX10_rain_23 : decode cX10_rain 23 = .ok (.aload_n 0, 1) := by decide +kernel
theorem dX10_rain_24 : decode cX10_rain 24 = .ok (.getfield 9, 3) := by decide +kernel
theorem dX10_rain_27 : decode cX10_rain 27 = .ok (.invokestatic 92, 3) := by decide +kernel
theorem dX10_rain_30 : decode cX10_rain 30 = .ok (.istore_n 3, 1) := by decide +kernel
theorem dX10_rain_31 : decode cX10_rain 31 = .ok (.lconst 0, 1) := by decide +kernel
theorem dX10_rain_32 : decode cX10_rain 32 = .ok (.lstore 4, 2) := by decide +kernel
theorem dX10_rain_34 : decode cX10_rain 34 = .ok (.lconst 1, 1) := by decide +kernel
theorem dX10_rain_35 : decode cX10_rain 35 = .ok (.lstore 6, 2) := by decide +kernel
theorem dX10_rain_37 : decode cX10_rain 37 = .ok (.iconst 0, 1) := by decide +kernel
theorem dX10_rain_38 : decode cX10_rain 38 = .ok (.istore 8, 2) := by decide +kernel
theorem dX10_rain_40 : decode cX10_rain 40 = .ok (.iload 8, 2) := by decide +kernel
theorem dX10_rain_42 : decode cX10_rain 42 = .ok (.aload_n 0, 1) := by decide +kernel
theorem dX10_rain_43 : decode cX10_rain 43 = .ok (.getfield 9, 3) := by decide +kernel
theorem dX10_rain_46 : decode cX10_rain 46 = .ok (.iconst 0, 1) := by decide +kernel
theorem dX10_rain_47 : decode cX10_rain 47 = .ok (.iaload, 1) := by decide +kernel
theorem dX10_rain_48 : decode cX10_rain 48 = .ok (.if_icmp .ge 16, 3) := by decide +kernel
theorem dX10_rain_51 : decode cX10_rain 51 = .ok (.lload 6, 2) := by decide +kernel
theorem dX10_rain_53 : decode cX10_rain 53 = .ok (.iload_n 1, 1) := by decide +kernel
theorem dX10_rain_54 : decode cX10_rain 54 = .ok (.i2l, 1) := by decide +kernel
theorem dX10_rain_55 : decode cX10_rain 55 = .ok (.lmul, 1) := by decide +kernel
theorem dX10_rain_56 : decode cX10_rain 56 = .ok (.lstore 6, 2) := by decide +kernel
theorem dX10_rain_58 : decode cX10_rain 58 = .ok (.iinc 8 1, 3) := by decide +kernel
theorem dX10_rain_61 : decode cX10_rain 61 = .ok (.goto (-21), 3) := by decide +kernel
theorem dX10_rain_64 : decode cX10_rain 64 = .ok (.iconst 0, 1) := by decide +kernel
theorem dX10_rain_65 : decode cX10_rain 65 = .ok (.istore 8, 2) := by decide +kernel
theorem dX10_rain_67 : decode cX10_rain 67 = .ok (.iload 8, 2) := by decide +kernel
theorem dX10_rain_69 : decode cX10_rain 69 = .ok (.iconst 1, 1) := by decide +kernel
theorem dX10_rain_70 : decode cX10_rain 70 = .ok (.aload_n 0, 1) := by decide +kernel
theorem dX10_rain_71 : decode cX10_rain 71 = .ok (.getfield 9, 3) := by decide +kernel
theorem dX10_rain_74 : decode cX10_rain 74 = .ok (.iconst 0, 1) := by decide +kernel
theorem dX10_rain_75 : decode cX10_rain 75 = .ok (.iaload, 1) := by decide +kernel
theorem dX10_rain_76 : decode cX10_rain 76 = .ok (.ishl, 1) := by decide +kernel
theorem dX10_rain_77 : decode cX10_rain 77 = .ok (.if_icmp .ge 82, 3) := by decide +kernel
theorem dX10_rain_80 : decode cX10_rain 80 = .ok (.lconst 1, 1) := by decide +kernel
theorem dX10_rain_81 : decode cX10_rain 81 = .ok (.lstore 9, 2) := by decide +kernel
theorem dX10_rain_83 : decode cX10_rain 83 = .ok (.iconst 0, 1) := by decide +kernel
theorem dX10_rain_84 : decode cX10_rain 84 = .ok (.istore 11, 2) := by decide +kernel
theorem dX10_rain_86 : decode cX10_rain 86 = .ok (.iload 11, 2) := by decide +kernel
theorem dX10_rain_88 : decode cX10_rain 88 = .ok (.aload_n 0, 1) := by decide +kernel
theorem dX10_rain_89 : decode cX10_rain 89 = .ok (.getfield 9, 3) := by decide +kernel
theorem dX10_rain_92 : decode cX10_rain 92 = .ok (.iconst 0, 1) := by decide +kernel
theorem dX10_rain_93 : decode cX10_rain 93 = .ok (.iaload, 1) := by decide +kernel
theorem dX10_rain_94 : decode cX10_rain 94 = .ok (.if_icmp .ge 32, 3) := by decide +kernel
theorem dX10_rain_97 : decode cX10_rain 97 = .ok (.lload 9, 2) := by decide +kernel
theorem dX10_rain_99 : decode cX10_rain 99 = .ok (.iload 8, 2) := by decide +kernel
theorem dX10_rain_101 : decode cX10_rain 101 = .ok (.iload 11, 2) := by decide +kernel
theorem dX10_rain_103 : decode cX10_rain 103 = .ok (.invokestatic 62, 3) := by decide +kernel
theorem dX10_rain_106 : decode cX10_rain 106 = .ok (.ifCond .eq 7, 3) := by decide +kernel
theorem dX10_rain_109 : decode cX10_rain 109 = .ok (.lconst 1, 1) := by decide +kernel
theorem dX10_rain_110 : decode cX10_rain 110 = .ok (.goto 7, 3) := by decide +kernel
theorem dX10_rain_113 : decode cX10_rain 113 = .ok (.iload_n 1, 1) := by decide +kernel
theorem dX10_rain_114 : decode cX10_rain 114 = .ok (.iconst 1, 1) := by decide +kernel
theorem dX10_rain_115 : decode cX10_rain 115 = .ok (.isub, 1) := by decide +kernel
theorem dX10_rain_116 : decode cX10_rain 116 = .ok (.i2l, 1) := by decide +kernel
theorem dX10_rain_117 : decode cX10_rain 117 = .ok (.lmul, 1) := by decide +kernel
theorem dX10_rain_118 : decode cX10_rain 118 = .ok (.lstore 9, 2) := by decide +kernel
theorem dX10_rain_120 : decode cX10_rain 120 = .ok (.iinc 11 1, 3) := by decide +kernel
theorem dX10_rain_123 : decode cX10_rain 123 = .ok (.goto (-37), 3) := by decide +kernel
theorem dX10_rain_126 : decode cX10_rain 126 = .ok (.lload 4, 2) := by decide +kernel
theorem dX10_rain_128 : decode cX10_rain 128 = .ok (.aload_n 0, 1) := by decide +kernel
theorem dX10_rain_129 : decode cX10_rain 129 = .ok (.getfield 9, 3) := by decide +kernel
theorem dX10_rain_132 : decode cX10_rain 132 = .ok (.iload_n 3, 1) := by decide +kernel
theorem dX10_rain_133 : decode cX10_rain 133 = .ok (.iload 8, 2) := by decide +kernel
theorem dX10_rain_135 : decode cX10_rain 135 = .ok (.iconst (-1), 1) := by decide +kernel
theorem dX10_rain_136 : decode cX10_rain 136 = .ok (.ixor, 1) := by decide +kernel
theorem dX10_rain_137 : decode cX10_rain 137 = .ok (.iand, 1) := by decide +kernel
theorem dX10_rain_138 : decode cX10_rain 138 = .ok (.invokestatic 96, 3) := by decide +kernel
theorem dX10_rain_141 : decode cX10_rain 141 = .ok (.ifCond .ne 8, 3) := by decide +kernel
theorem dX10_rain_144 : decode cX10_rain 144 = .ok (.lload 9, 2) := by decide +kernel
theorem dX10_rain_146 : decode cX10_rain 146 = .ok (.goto 4, 3) := by decide +kernel
theorem dX10_rain_149 : decode cX10_rain 149 = .ok (.lconst 0, 1) := by decide +kernel
theorem dX10_rain_150 : decode cX10_rain 150 = .ok (.ladd, 1) := by decide +kernel
theorem dX10_rain_151 : decode cX10_rain 151 = .ok (.lstore 4, 2) := by decide +kernel
theorem dX10_rain_153 : decode cX10_rain 153 = .ok (.iinc 8 1, 3) := by decide +kernel
theorem dX10_rain_156 : decode cX10_rain 156 = .ok (.goto (-89), 3) := by decide +kernel
theorem dX10_rain_159 : decode cX10_rain 159 = .ok (.lload 4, 2) := by decide +kernel
theorem dX10_rain_161 : decode cX10_rain 161 = .ok (.lload 6, 2) := by decide +kernel
theorem dX10_rain_163 : decode cX10_rain 163 = .ok (.iload_n 2, 1) := by decide +kernel
theorem dX10_rain_164 : decode cX10_rain 164 = .ok (.invokestatic 208, 3) := by decide +kernel
theorem dX10_rain_167 : decode cX10_rain 167 = .ok (.lreturn, 1) := by decide +kernel
def L_X10_rain_86 (o_s : Nat → Int32) (p1 : Int32) (x12 : Int32) (k_86 : Int32 → Int64 → Option (Int64)) : Nat → Int32 → Int64 → Option (Int64)
  | 0, _, _ => none
  | n86 + 1, x17, x18 => if (o_s 0) ≤ x17 then k_86 x17 x18 else ob (f_X10_has x12 x17) (fun r20 => if r20 = 0 then nm (x18 * ((p1 - (1 : Int32)).toInt64)) (fun z23 => L_X10_rain_86 o_s p1 x12 k_86 n86 (x17 + (1 : Int32)) z23) else L_X10_rain_86 o_s p1 x12 k_86 n86 (x17 + (1 : Int32)) (x18 * (1 : Int64)))
def L_X10_rain_67 (N : Nat) (o_s : Nat → Int32) (p1 : Int32) (p2 : Int32) (r7 : Int32) (x10 : Int64) : Nat → Int32 → Int64 → Option (Int64)
  | 0, _, _ => none
  | n67 + 1, x12, x13 => if ((1 : Int32) <<< ((o_s 0) &&& 31)) ≤ x12 then ob (f_X10_partOf N x13 x10 p2) (fun r15 => some r15) else L_X10_rain_86 o_s p1 x12 (fun x24 x25 => ob (f_X10_whyBy N o_s (r7 &&& (x12 ^^^ (-1 : Int32)))) (fun r26 => if r26 = 0 then L_X10_rain_67 N o_s p1 p2 r7 x10 n67 (x12 + (1 : Int32)) (x13 + x25) else L_X10_rain_67 N o_s p1 p2 r7 x10 n67 (x12 + (1 : Int32)) (x13 + (0 : Int64)))) N (0 : Int32) (1 : Int64)
def L_X10_rain_40 (N : Nat) (o_s : Nat → Int32) (p1 : Int32) (p2 : Int32) (r7 : Int32) : Nat → Int32 → Int64 → Option (Int64)
  | 0, _, _ => none
  | n40 + 1, x9, x10 => if (o_s 0) ≤ x9 then L_X10_rain_67 N o_s p1 p2 r7 x10 N (0 : Int32) (0 : Int64) else L_X10_rain_40 N o_s p1 p2 r7 n40 (x9 + (1 : Int32)) (x10 * (p1.toInt64))
def f_X10_rain (N : Nat) (o_s : Nat → Int32) (p1 : Int32) (p2 : Int32) : Option (Int64) := ob (f_X10_isIn p1 (2 : Int32) (20 : Int32)) (fun r1 => if r1 = 0 then some (1000000001 : Int64) else ob (f_X10_isIn p2 (0 : Int32) (1 : Int32)) (fun r4 => if r4 = 0 then some (1000000001 : Int64) else ob (f_X10_heardIn N o_s) (fun r7 => L_X10_rain_40 N o_s p1 p2 r7 N (0 : Int32) (1 : Int64))))
set_option maxHeartbeats 4000000 in
set_option maxRecDepth 100000 in
theorem c_X10_rain (l : Launch) (E : EE) (o_h : Nat) (o_a0 : Nat) (o_a1 : Nat) (o_a2 : Nat) (o_a3 : Nat) (o_a8 : Nat) (o_a9 : Nat) (o_a11 : Nat) (o_a12 : Nat) (o_a13 : Nat) (o_a14 : Nat) (o_a15 : Nat) (o_a16 : Nat) (o_s : Nat → Int32) (o_m : Nat → Int32) (o_image : Nat → Int32) (o_was : Nat → Int32) (o_hasImage : Int32) (o_place : Int32) (o_rowAt : Int32) (o_rowEnd : Int32) (o_numbers : Nat → Int32) (o_most : Nat → Int32) (o_seed : Int32) (o_kept : Nat → Int32) (o_keptKind : Nat → Int32) (o_keptFigure : Nat → Int32) (o_sort : Nat → Int32) (o_size : Nat → Int32) (o_element : Nat → Int32) (o_thrown : Int32) (p1 : Int32) (p2 : Int32) (N : Nat) (res : Int64) (hv : f_X10_rain N o_s p1 p2 = some res) : Rd l E yX10_rain cX10_rain 12 (some .long) ({ frames := 5, cells := 0, slots := 0, locals := 108 }) [.ref o_h, .int p1, .int p2] [oMo o_h o_a0 o_a1 o_a2 o_a3 o_hasImage o_place o_rowAt o_rowEnd o_a8 o_a9 o_seed o_a11 o_a12 o_a13 o_a14 o_a15 o_a16 o_thrown, ai E o_a0 42 o_s, ai E o_a1 42 o_m, ai E o_a2 42 o_image, ai E o_a3 42 o_was, ai E o_a8 3 o_numbers, ai E o_a9 8192 o_most, ai E o_a11 8 o_kept, ai E o_a12 8 o_keptKind, ai E o_a13 8 o_keptFigure, ai E o_a14 8 o_sort, ai E o_a15 8 o_size, ai E o_a16 800 o_element] (some (.long res)) := by
  refine Rd.intro RX10 (by decide) rfl (Nat.le_of_ble_eq_true rfl) ?_
  intro p e s m below meth c ls hC hr hlk hP hG hl
  obtain ⟨hx, hb, hml, hown, ht⟩ := id hC
  have hK := hG.1
  have hl : lv_has ls 12 [(0, .ref o_h), (1, .int p1), (2, .int p2)] := hl
  rw [f_X10_rain] at hv
  refine lv_iload_n hx hb dX10_rain_0 rfl (lv_at hl 1 rfl) ?_
  refine lv_iconst (v := (2 : Int32)) hx hb dX10_rain_1 (by decide) ?_
  refine lv_bipush (v := (20 : Int32)) hx hb dX10_rain_2 (by decide) ?_
  obtain ⟨r1, h2, hv⟩ := ob_s hv
  refine rdS (rest := []) (st1 := [.int r1]) (w := []) hC q_X10_isIn kw_4_200 (c_X10_isIn l E p1 (2 : Int32) (20 : Int32) r1 h2) ⟨rfl, rfl⟩ ⟨Nat.le_of_ble_eq_true rfl, Nat.le_of_ble_eq_true rfl⟩ ⟨Nat.zero_le _, Nat.zero_le _⟩ (hP.sub (ws' := []) [] rfl) hG rfl hl.1 rfl (Nat.le_of_ble_eq_true rfl) dX10_rain_4 rfl ?_
  refine lv_if_eq (tgt := 19) hx hb dX10_rain_7 (by decide) (fun c3 => ?_) (fun c3 => ?_)
  · have hv := if_y c3 hv
    refine lv_ldc2 (v := (1000000001 : Int64)) hx hb hown (ht _ kw_5_148) dX10_rain_19 ?_
    exact W.lret (v := (1000000001 : Int64)) hx hb hr (fun t h9 _ => ⟨rv_l hv, h9⟩) (fun q h => absurd h List.not_mem_nil) dX10_rain_22 hlk
  · have hv := if_n c3 hv
    refine lv_iload_n hx hb dX10_rain_10 rfl (lv_at hl 2 rfl) ?_
    refine lv_iconst (v := (0 : Int32)) hx hb dX10_rain_11 (by decide) ?_
    refine lv_iconst (v := (1 : Int32)) hx hb dX10_rain_12 (by decide) ?_
    obtain ⟨r4, h5, hv⟩ := ob_s hv
    refine rdS (rest := []) (st1 := [.int r4]) (w := []) hC q_X10_isIn kw_4_200 (c_X10_isIn l E p2 (0 : Int32) (1 : Int32) r4 h5) ⟨rfl, rfl⟩ ⟨Nat.le_of_ble_eq_true rfl, Nat.le_of_ble_eq_true rfl⟩ ⟨Nat.zero_le _, Nat.zero_le _⟩ (hP.sub (ws' := []) [] rfl) hG rfl hl.1 rfl (Nat.le_of_ble_eq_true rfl) dX10_rain_13 rfl ?_
    refine lv_if_ne (tgt := 23) hx hb dX10_rain_16 (by decide) (fun c6 => ?_) (fun c6 => ?_)
    · have hv := if_n c6 hv
      refine lv_aload_n hx hb dX10_rain_23 rfl (lv_at hl 0 rfl) ?_
      refine va_get (D := E.1) (ci := 4) (v := .ref o_a0) (C := RX10) (T := TX10) (N := 18) hx hb ht i_X10 hown hK hP 0 rfl rfl 0 (by decide) (ht _ kw_4_134) (fun _ h9 => h9) rfl dX10_rain_24 ?_
      obtain ⟨r7, h8, hv⟩ := ob_s hv
      refine rdS (rest := []) (st1 := [.int r7]) (w := [ai E o_a0 42 o_s]) hC q_X10_heardIn kw_5_73 (c_X10_heardIn l E o_a0 o_s N r7 h8) ⟨rfl, rfl⟩ ⟨Nat.le_of_ble_eq_true rfl, Nat.le_of_ble_eq_true rfl⟩ ⟨Nat.zero_le _, Nat.zero_le _⟩ (hP.sub (ws' := [ai E o_a0 42 o_s]) [1] rfl) hG rfl hl.1 rfl (Nat.le_of_ble_eq_true rfl) dX10_rain_27 rfl ?_
      refine lv_istore_n (lv' := [(3, .int r7), (0, .ref o_h), (1, .int p1), (2, .int p2)]) hx hb dX10_rain_30 rfl hl (by decide) rfl (fun ls hl => ?_)
      refine lv_lconst (v := (0 : Int64)) hx hb dX10_rain_31 (by decide) ?_
      refine lv_lstore (lv' := [(4, .long (0 : Int64)), (3, .int r7), (0, .ref o_h), (1, .int p1), (2, .int p2)]) hx hb dX10_rain_32 hl (by decide) rfl (fun ls hl => ?_)
      refine lv_lconst (v := (1 : Int64)) hx hb dX10_rain_34 (by decide) ?_
      refine lv_lstore (lv' := [(6, .long (1 : Int64)), (4, .long (0 : Int64)), (3, .int r7), (0, .ref o_h), (1, .int p1), (2, .int p2)]) hx hb dX10_rain_35 hl (by decide) rfl (fun ls hl => ?_)
      refine lv_iconst (v := (0 : Int32)) hx hb dX10_rain_37 (by decide) ?_
      refine lv_istore (lv' := [(8, .int (0 : Int32)), (6, .long (1 : Int64)), (4, .long (0 : Int64)), (3, .int r7), (0, .ref o_h), (1, .int p1), (2, .int p2)]) hx hb dX10_rain_38 hl (by decide) rfl (fun ls hl => ?_)
      have hL40 : ∀ (n : Nat) (x9 : Int32) (x10 : Int64) (ls : Array Slot), lv_has ls 12 [(8, .int x9), (6, .long x10), (4, .long (0 : Int64)), (3, .int r7), (0, .ref o_h), (1, .int p1), (2, .int p2)] → L_X10_rain_40 N o_s p1 p2 r7 n x9 x10 = some res → W p l e ({ frames := 5, cells := 0, slots := 0, locals := 108 }) s m [.ref o_h, .int p1, .int p2].toArray below meth c s.heap [] 0 0 (MQ below (RdQ (some (.long res))) [.ref o_h, .int p1, .int p2].toArray s 0 0 (fun _ => False)) (F0 m 40 ls []) := by
        intro n
        induction n with
        | zero => intro x9 x10 ls hl hv; cases hv
        | succ n40 ih40 =>
          intro x9 x10 ls hl hv
          rw [L_X10_rain_40] at hv
          refine lv_iload hx hb dX10_rain_40 (lv_at hl 0 rfl) ?_
          refine lv_aload_n hx hb dX10_rain_42 rfl (lv_at hl 4 rfl) ?_
          refine va_get (D := E.1) (ci := 4) (v := .ref o_a0) (C := RX10) (T := TX10) (N := 18) hx hb ht i_X10 hown hK hP 0 rfl rfl 0 (by decide) (ht _ kw_4_134) (fun _ h9 => h9) rfl dX10_rain_43 ?_
          refine lv_iconst (v := (0 : Int32)) hx hb dX10_rain_46 (by decide) ?_
          refine va_iald hx hb hK hP 1 0 rfl rfl (ix_s (by decide)) dX10_rain_47 ?_
          refine W.eq (g2 := F0 m 48 ls [.int (o_s 0), .int x9]) rfl ?_
          refine lv_icmp_ge (tgt := 64) hx hb dX10_rain_48 (by decide) (fun c11 => ?_) (fun c11 => ?_)
          · have hv := if_y c11 hv
            refine lv_iconst (v := (0 : Int32)) hx hb dX10_rain_64 (by decide) ?_
            refine lv_istore (lv' := [(8, .int (0 : Int32)), (6, .long x10), (4, .long (0 : Int64)), (3, .int r7), (0, .ref o_h), (1, .int p1), (2, .int p2)]) hx hb dX10_rain_65 hl (by decide) rfl (fun ls hl => ?_)
            have hL67 : ∀ (n : Nat) (x12 : Int32) (x13 : Int64) (ls : Array Slot), lv_has ls 12 [(8, .int x12), (6, .long x10), (4, .long x13), (3, .int r7), (0, .ref o_h), (1, .int p1), (2, .int p2)] → L_X10_rain_67 N o_s p1 p2 r7 x10 n x12 x13 = some res → W p l e ({ frames := 5, cells := 0, slots := 0, locals := 108 }) s m [.ref o_h, .int p1, .int p2].toArray below meth c s.heap [] 0 0 (MQ below (RdQ (some (.long res))) [.ref o_h, .int p1, .int p2].toArray s 0 0 (fun _ => False)) (F0 m 67 ls []) := by
              intro n
              induction n with
              | zero => intro x12 x13 ls hl hv; cases hv
              | succ n67 ih67 =>
                intro x12 x13 ls hl hv
                rw [L_X10_rain_67] at hv
                refine lv_iload hx hb dX10_rain_67 (lv_at hl 0 rfl) ?_
                refine lv_iconst (v := (1 : Int32)) hx hb dX10_rain_69 (by decide) ?_
                refine lv_aload_n hx hb dX10_rain_70 rfl (lv_at hl 4 rfl) ?_
                refine va_get (D := E.1) (ci := 4) (v := .ref o_a0) (C := RX10) (T := TX10) (N := 18) hx hb ht i_X10 hown hK hP 0 rfl rfl 0 (by decide) (ht _ kw_4_134) (fun _ h9 => h9) rfl dX10_rain_71 ?_
                refine lv_iconst (v := (0 : Int32)) hx hb dX10_rain_74 (by decide) ?_
                refine va_iald hx hb hK hP 1 0 rfl rfl (ix_s (by decide)) dX10_rain_75 ?_
                refine W.eq (g2 := F0 m 76 ls [.int (o_s 0), .int (1 : Int32), .int x12]) rfl ?_
                refine lv_ishl hx hb dX10_rain_76 ?_
                refine lv_icmp_ge (tgt := 159) hx hb dX10_rain_77 (by decide) (fun c14 => ?_) (fun c14 => ?_)
                · have hv := if_y c14 hv
                  refine lv_lload hx hb dX10_rain_159 (lv_at hl 2 rfl) ?_
                  refine lv_lload hx hb dX10_rain_161 (lv_at hl 1 rfl) ?_
                  refine lv_iload_n hx hb dX10_rain_163 rfl (lv_at hl 6 rfl) ?_
                  obtain ⟨r15, h16, hv⟩ := ob_s hv
                  refine rdS (rest := []) (st1 := [.long r15]) (w := []) hC q_X10_partOf kw_5_163 (c_X10_partOf l E x13 x10 p2 N r15 h16) ⟨rfl, rfl⟩ ⟨Nat.le_of_ble_eq_true rfl, Nat.le_of_ble_eq_true rfl⟩ ⟨Nat.zero_le _, Nat.zero_le _⟩ (hP.sub (ws' := []) [] rfl) hG rfl hl.1 rfl (Nat.le_of_ble_eq_true rfl) dX10_rain_164 rfl ?_
                  exact W.lret (v := r15) hx hb hr (fun t h9 _ => ⟨rv_l hv, h9⟩) (fun q h => absurd h List.not_mem_nil) dX10_rain_167 hlk
                · have hv := if_n c14 hv
                  refine lv_lconst (v := (1 : Int64)) hx hb dX10_rain_80 (by decide) ?_
                  refine lv_lstore (lv' := [(9, .long (1 : Int64)), (8, .int x12), (6, .long x10), (4, .long x13), (3, .int r7), (0, .ref o_h), (1, .int p1), (2, .int p2)]) hx hb dX10_rain_81 hl (by decide) rfl (fun ls hl => ?_)
                  refine lv_iconst (v := (0 : Int32)) hx hb dX10_rain_83 (by decide) ?_
                  refine lv_istore (lv' := [(11, .int (0 : Int32)), (9, .long (1 : Int64)), (8, .int x12), (6, .long x10), (4, .long x13), (3, .int r7), (0, .ref o_h), (1, .int p1), (2, .int p2)]) hx hb dX10_rain_84 hl (by decide) rfl (fun ls hl => ?_)
                  have hL86 : ∀ (k_86 : Int32 → Int64 → Option (Int64)), (∀ (x17 : Int32) (x18 : Int64) (ls : Array Slot), lv_has ls 12 [(11, .int x17), (9, .long x18), (8, .int x12), (6, .long x10), (4, .long x13), (3, .int r7), (0, .ref o_h), (1, .int p1), (2, .int p2)] → k_86 x17 x18 = some res → W p l e ({ frames := 5, cells := 0, slots := 0, locals := 108 }) s m [.ref o_h, .int p1, .int p2].toArray below meth c s.heap [] 0 0 (MQ below (RdQ (some (.long res))) [.ref o_h, .int p1, .int p2].toArray s 0 0 (fun _ => False)) (F0 m 126 ls [])) → ∀ (n : Nat) (x17 : Int32) (x18 : Int64) (ls : Array Slot), lv_has ls 12 [(11, .int x17), (9, .long x18), (8, .int x12), (6, .long x10), (4, .long x13), (3, .int r7), (0, .ref o_h), (1, .int p1), (2, .int p2)] → L_X10_rain_86 o_s p1 x12 k_86 n x17 x18 = some res → W p l e ({ frames := 5, cells := 0, slots := 0, locals := 108 }) s m [.ref o_h, .int p1, .int p2].toArray below meth c s.heap [] 0 0 (MQ below (RdQ (some (.long res))) [.ref o_h, .int p1, .int p2].toArray s 0 0 (fun _ => False)) (F0 m 86 ls []) := by
                    intro k_86 hk_86 n
                    induction n with
                    | zero => intro x17 x18 ls hl hv; cases hv
                    | succ n86 ih86 =>
                      intro x17 x18 ls hl hv
                      rw [L_X10_rain_86] at hv
                      refine lv_iload hx hb dX10_rain_86 (lv_at hl 0 rfl) ?_
                      refine lv_aload_n hx hb dX10_rain_88 rfl (lv_at hl 6 rfl) ?_
                      refine va_get (D := E.1) (ci := 4) (v := .ref o_a0) (C := RX10) (T := TX10) (N := 18) hx hb ht i_X10 hown hK hP 0 rfl rfl 0 (by decide) (ht _ kw_4_134) (fun _ h9 => h9) rfl dX10_rain_89 ?_
                      refine lv_iconst (v := (0 : Int32)) hx hb dX10_rain_92 (by decide) ?_
                      refine va_iald hx hb hK hP 1 0 rfl rfl (ix_s (by decide)) dX10_rain_93 ?_
                      refine W.eq (g2 := F0 m 94 ls [.int (o_s 0), .int x17]) rfl ?_
                      refine lv_icmp_ge (tgt := 126) hx hb dX10_rain_94 (by decide) (fun c19 => ?_) (fun c19 => ?_)
                      · have hv := if_y c19 hv
                        exact hk_86 x17 x18 _ (lv_sub hl [0, 1, 2, 3, 4, 5, 6, 7, 8] rfl) hv
                      · have hv := if_n c19 hv
                        refine lv_lload hx hb dX10_rain_97 (lv_at hl 1 rfl) ?_
                        refine lv_iload hx hb dX10_rain_99 (lv_at hl 2 rfl) ?_
                        refine lv_iload hx hb dX10_rain_101 (lv_at hl 0 rfl) ?_
                        obtain ⟨r20, h21, hv⟩ := ob_s hv
                        refine rdS (rest := [.long x18]) (st1 := [.int r20, .long x18]) (w := []) hC q_X10_has kw_5_5 (c_X10_has l E x12 x17 r20 h21) ⟨rfl, rfl⟩ ⟨Nat.le_of_ble_eq_true rfl, Nat.le_of_ble_eq_true rfl⟩ ⟨Nat.zero_le _, Nat.zero_le _⟩ (hP.sub (ws' := []) [] rfl) hG rfl hl.1 rfl (Nat.le_of_ble_eq_true rfl) dX10_rain_103 rfl ?_
                        refine lv_if_eq (tgt := 113) hx hb dX10_rain_106 (by decide) (fun c22 => ?_) (fun c22 => ?_)
                        · have hv := if_y c22 hv
                          refine lv_iload_n hx hb dX10_rain_113 rfl (lv_at hl 7 rfl) ?_
                          refine lv_iconst (v := (1 : Int32)) hx hb dX10_rain_114 (by decide) ?_
                          refine lv_isub hx hb dX10_rain_115 ?_
                          refine lv_i2l (v := ((p1 - (1 : Int32)).toInt64)) hx hb dX10_rain_116 rfl ?_
                          refine lv_lmul hx hb dX10_rain_117 ?_
                          refine lv_topl (fun z23 ez23 => ?_)
                          have hv := nm_s ez23 hv
                          refine lv_lstore (lv' := [(9, .long z23), (11, .int x17), (8, .int x12), (6, .long x10), (4, .long x13), (3, .int r7), (0, .ref o_h), (1, .int p1), (2, .int p2)]) hx hb dX10_rain_118 hl (by decide) rfl (fun ls hl => ?_)
                          refine lv_iinc (v := (x17 + (1 : Int32))) (lv' := [(11, .int (x17 + (1 : Int32))), (9, .long z23), (8, .int x12), (6, .long x10), (4, .long x13), (3, .int r7), (0, .ref o_h), (1, .int p1), (2, .int p2)]) hx hb dX10_rain_120 hl (k := 1) rfl rfl (by decide) rfl (fun ls hl => ?_)
                          refine lv_goto (tgt := 86) hx hb dX10_rain_123 (by decide) ?_
                          exact ih86 (x17 + (1 : Int32)) z23 _ (lv_sub hl [0, 1, 2, 3, 4, 5, 6, 7, 8] rfl) hv
                        · have hv := if_n c22 hv
                          refine lv_lconst (v := (1 : Int64)) hx hb dX10_rain_109 (by decide) ?_
                          refine lv_goto (tgt := 117) hx hb dX10_rain_110 (by decide) ?_
                          refine lv_lmul hx hb dX10_rain_117 ?_
                          refine lv_lstore (lv' := [(9, .long (x18 * (1 : Int64))), (11, .int x17), (8, .int x12), (6, .long x10), (4, .long x13), (3, .int r7), (0, .ref o_h), (1, .int p1), (2, .int p2)]) hx hb dX10_rain_118 hl (by decide) rfl (fun ls hl => ?_)
                          refine lv_iinc (v := (x17 + (1 : Int32))) (lv' := [(11, .int (x17 + (1 : Int32))), (9, .long (x18 * (1 : Int64))), (8, .int x12), (6, .long x10), (4, .long x13), (3, .int r7), (0, .ref o_h), (1, .int p1), (2, .int p2)]) hx hb dX10_rain_120 hl (k := 1) rfl rfl (by decide) rfl (fun ls hl => ?_)
                          refine lv_goto (tgt := 86) hx hb dX10_rain_123 (by decide) ?_
                          exact ih86 (x17 + (1 : Int32)) (x18 * (1 : Int64)) _ (lv_sub hl [0, 1, 2, 3, 4, 5, 6, 7, 8] rfl) hv
                  refine hL86 _ (fun x24 x25 ls hl hv => ?_) N (0 : Int32) (1 : Int64) _ (lv_sub hl [0, 1, 2, 3, 4, 5, 6, 7, 8] rfl) hv
                  refine lv_lload hx hb dX10_rain_126 (lv_at hl 4 rfl) ?_
                  refine lv_aload_n hx hb dX10_rain_128 rfl (lv_at hl 6 rfl) ?_
                  refine va_get (D := E.1) (ci := 4) (v := .ref o_a0) (C := RX10) (T := TX10) (N := 18) hx hb ht i_X10 hown hK hP 0 rfl rfl 0 (by decide) (ht _ kw_4_134) (fun _ h9 => h9) rfl dX10_rain_129 ?_
                  refine lv_iload_n hx hb dX10_rain_132 rfl (lv_at hl 5 rfl) ?_
                  refine lv_iload hx hb dX10_rain_133 (lv_at hl 2 rfl) ?_
                  refine lv_iconst (v := (-1 : Int32)) hx hb dX10_rain_135 (by decide) ?_
                  refine lv_ixor hx hb dX10_rain_136 ?_
                  refine lv_iand hx hb dX10_rain_137 ?_
                  obtain ⟨r26, h27, hv⟩ := ob_s hv
                  refine rdS (rest := [.long x13]) (st1 := [.int r26, .long x13]) (w := [ai E o_a0 42 o_s]) hC q_X10_whyBy kw_5_76 (c_X10_whyBy l E o_a0 o_s (r7 &&& (x12 ^^^ (-1 : Int32))) N r26 h27) ⟨rfl, rfl⟩ ⟨Nat.le_of_ble_eq_true rfl, Nat.le_of_ble_eq_true rfl⟩ ⟨Nat.zero_le _, Nat.zero_le _⟩ (hP.sub (ws' := [ai E o_a0 42 o_s]) [1] rfl) hG rfl hl.1 rfl (Nat.le_of_ble_eq_true rfl) dX10_rain_138 rfl ?_
                  refine lv_if_ne (tgt := 149) hx hb dX10_rain_141 (by decide) (fun c28 => ?_) (fun c28 => ?_)
                  · have hv := if_n c28 hv
                    refine lv_lconst (v := (0 : Int64)) hx hb dX10_rain_149 (by decide) ?_
                    refine lv_ladd hx hb dX10_rain_150 ?_
                    refine lv_lstore (lv' := [(4, .long (x13 + (0 : Int64))), (11, .int x24), (9, .long x25), (8, .int x12), (6, .long x10), (3, .int r7), (0, .ref o_h), (1, .int p1), (2, .int p2)]) hx hb dX10_rain_151 hl (by decide) rfl (fun ls hl => ?_)
                    refine lv_iinc (v := (x12 + (1 : Int32))) (lv' := [(8, .int (x12 + (1 : Int32))), (4, .long (x13 + (0 : Int64))), (11, .int x24), (9, .long x25), (6, .long x10), (3, .int r7), (0, .ref o_h), (1, .int p1), (2, .int p2)]) hx hb dX10_rain_153 hl (k := 3) rfl rfl (by decide) rfl (fun ls hl => ?_)
                    refine lv_goto (tgt := 67) hx hb dX10_rain_156 (by decide) ?_
                    exact ih67 (x12 + (1 : Int32)) (x13 + (0 : Int64)) _ (lv_sub hl [0, 4, 1, 5, 6, 7, 8] rfl) hv
                  · have hv := if_y c28 hv
                    refine lv_lload hx hb dX10_rain_144 (lv_at hl 1 rfl) ?_
                    refine lv_goto (tgt := 150) hx hb dX10_rain_146 (by decide) ?_
                    refine lv_ladd hx hb dX10_rain_150 ?_
                    refine lv_lstore (lv' := [(4, .long (x13 + x25)), (11, .int x24), (9, .long x25), (8, .int x12), (6, .long x10), (3, .int r7), (0, .ref o_h), (1, .int p1), (2, .int p2)]) hx hb dX10_rain_151 hl (by decide) rfl (fun ls hl => ?_)
                    refine lv_iinc (v := (x12 + (1 : Int32))) (lv' := [(8, .int (x12 + (1 : Int32))), (4, .long (x13 + x25)), (11, .int x24), (9, .long x25), (6, .long x10), (3, .int r7), (0, .ref o_h), (1, .int p1), (2, .int p2)]) hx hb dX10_rain_153 hl (k := 3) rfl rfl (by decide) rfl (fun ls hl => ?_)
                    refine lv_goto (tgt := 67) hx hb dX10_rain_156 (by decide) ?_
                    exact ih67 (x12 + (1 : Int32)) (x13 + x25) _ (lv_sub hl [0, 4, 1, 5, 6, 7, 8] rfl) hv
            exact hL67 N (0 : Int32) (0 : Int64) _ (lv_sub hl [0, 1, 2, 3, 4, 5, 6] rfl) hv
          · have hv := if_n c11 hv
            refine lv_lload hx hb dX10_rain_51 (lv_at hl 1 rfl) ?_
            refine lv_iload_n hx hb dX10_rain_53 rfl (lv_at hl 5 rfl) ?_
            refine lv_i2l (v := (p1.toInt64)) hx hb dX10_rain_54 rfl ?_
            refine lv_lmul hx hb dX10_rain_55 ?_
            refine lv_lstore (lv' := [(6, .long (x10 * (p1.toInt64))), (8, .int x9), (4, .long (0 : Int64)), (3, .int r7), (0, .ref o_h), (1, .int p1), (2, .int p2)]) hx hb dX10_rain_56 hl (by decide) rfl (fun ls hl => ?_)
            refine lv_iinc (v := (x9 + (1 : Int32))) (lv' := [(8, .int (x9 + (1 : Int32))), (6, .long (x10 * (p1.toInt64))), (4, .long (0 : Int64)), (3, .int r7), (0, .ref o_h), (1, .int p1), (2, .int p2)]) hx hb dX10_rain_58 hl (k := 1) rfl rfl (by decide) rfl (fun ls hl => ?_)
            refine lv_goto (tgt := 40) hx hb dX10_rain_61 (by decide) ?_
            exact ih40 (x9 + (1 : Int32)) (x10 * (p1.toInt64)) _ (lv_sub hl [0, 1, 2, 3, 4, 5, 6] rfl) hv
      exact hL40 N (0 : Int32) (1 : Int64) _ (lv_sub hl [0, 1, 2, 3, 4, 5, 6] rfl) hv
    · have hv := if_y c6 hv
      refine lv_ldc2 (v := (1000000001 : Int64)) hx hb hown (ht _ kw_5_148) dX10_rain_19 ?_
      exact W.lret (v := (1000000001 : Int64)) hx hb hr (fun t h9 _ => ⟨rv_l hv, h9⟩) (fun q h => absurd h List.not_mem_nil) dX10_rain_22 hlk
theorem dX10_mean_0 : decode cX10_mean 0 = .ok (.iload_n 1, 1) := by decide +kernel
theorem dX10_mean_1 : decode cX10_mean 1 = .ok (.iconst 0, 1) := by decide +kernel
theorem dX10_mean_2 : decode cX10_mean 2 = .ok (.iconst 1, 1) := by decide +kernel
theorem dX10_mean_3 : decode cX10_mean 3 = .ok (.invokestatic 46, 3) := by decide +kernel
theorem dX10_mean_6 : decode cX10_mean 6 = .ok (.ifCond .ne 7, 3) := by decide +kernel
theorem dX10_mean_9 : decode cX10_mean 9 = .ok (.ldc2_w 193, 3) := by decide +kernel
theorem dX10_mean_12 : decode cX10_mean 12 = .ok (.lreturn, 1) := by decide +kernel
theorem dX10_mean_13 : decode cX10_mean 13 = .ok (.lconst 0, 1) := by decide +kernel
theorem dX10_mean_14 : decode cX10_mean 14 = .ok (.lstore_n 2, 1) := by decide +kernel
theorem dX10_mean_15 : decode cX10_mean 15 = .ok (.iconst 0, 1) := by decide +kernel
theorem dX10_mean_16 : decode cX10_mean 16 = .ok (.istore 4, 2) := by decide +kernel
theorem dX10_mean_18 : decode cX10_mean 18 = .ok (.iload 4, 2) := by decide +kernel
theorem dX10_mean_20 : decode cX10_mean 20 = .ok (.aload_n 0, 1) := by decide +kernel
theorem dX10_mean_21 : decode cX10_mean 21 = .ok (.getfield 9, 3) := by decide +kernel
theorem dX10_mean_24 : decode cX10_mean 24 = .ok (.iconst 0, 1) := by decide +kernel
theorem dX10_mean_25 : decode cX10_mean 25 = .ok (.iaload, 1) := by decide +kernel
theorem dX10_mean_26 : decode cX10_mean 26 = .ok (.if_icmp .ge 24, 3) := by decide +kernel
theorem dX10_mean_29 : decode cX10_mean 29 = .ok (.lload_n 2, 1) := by decide +kernel
theorem dX10_mean_30 : decode cX10_mean 30 = .ok (.aload_n 0, 1) := by decide +kernel
theorem dX10_mean_31 : decode cX10_mean 31 = .ok (.getfield 9, 3) := by decide +kernel
theorem dX10_mean_34 : decode cX10_mean 34 = .ok (.iload 4, 2) := by decide +kernel
theorem dX10_mean_36 : decode cX10_mean 36 = .ok (.iconst 3, 1) := by decide +kernel
theorem dX10_mean_37 : decode cX10_mean 37 = .ok (.invokestatic 50, 3) := by decide +kernel
theorem dX10_mean_40 : decode cX10_mean 40 = .ok (.iaload, 1) := by decide +kernel
theorem dX10_mean_41 : decode cX10_mean 41 = .ok (.i2l, 1) := by decide +kernel
theorem dX10_mean_42 : decode cX10_mean 42 = .ok (.ladd, 1) := by decide +kernel
theorem dX10_mean_43 : decode cX10_mean 43 = .ok (.lstore_n 2, 1) := by decide +kernel
theorem dX10_mean_44 : decode cX10_mean 44 = .ok (.iinc 4 1, 3) := by decide +kernel
theorem dX10_mean_47 : decode cX10_mean 47 = .ok (.goto (-29), 3) := by decide +kernel
theorem dX10_mean_50 : decode cX10_mean 50 = .ok (.lload_n 2, 1) := by decide +kernel
theorem dX10_mean_51 : decode cX10_mean 51 = .ok (.aload_n 0, 1) := by decide +kernel
theorem dX10_mean_52 : decode cX10_mean 52 = .ok (.getfield 9, 3) := by decide +kernel
theorem dX10_mean_55 : decode cX10_mean 55 = .ok (.iconst 0, 1) := by decide +kernel
theorem dX10_mean_56 : decode cX10_mean 56 = .ok (.iaload, 1) := by decide +kernel
theorem dX10_mean_57 : decode cX10_mean 57 = .ok (.i2l, 1) := by decide +kernel
theorem dX10_mean_58 : decode cX10_mean 58 = .ok (.iload_n 1, 1) := by decide +kernel
theorem dX10_mean_59 : decode cX10_mean 59 = .ok (.invokestatic 208, 3) := by decide +kernel
theorem dX10_mean_62 : decode cX10_mean 62 = .ok (.lreturn, 1) := by decide +kernel
def L_X10_mean_18 (N : Nat) (o_s : Nat → Int32) (p1 : Int32) : Nat → Int32 → Int64 → Option (Int64)
  | 0, _, _ => none
  | n18 + 1, x4, x5 => if (o_s 0) ≤ x4 then ob (f_X10_partOf N x5 ((o_s 0).toInt64) p1) (fun r7 => some r7) else ob (f_X10_of x4 (3 : Int32)) (fun r9 => gd (ix r9 42) (nm (x5 + ((o_s r9.toNatClampNeg).toInt64)) (fun z12 => L_X10_mean_18 N o_s p1 n18 (x4 + (1 : Int32)) z12)))
def f_X10_mean (N : Nat) (o_s : Nat → Int32) (p1 : Int32) : Option (Int64) := ob (f_X10_isIn p1 (0 : Int32) (1 : Int32)) (fun r1 => if r1 = 0 then some (1000000001 : Int64) else L_X10_mean_18 N o_s p1 N (0 : Int32) (0 : Int64))
set_option maxHeartbeats 4000000 in
set_option maxRecDepth 100000 in
theorem c_X10_mean (l : Launch) (E : EE) (o_h : Nat) (o_a0 : Nat) (o_a1 : Nat) (o_a2 : Nat) (o_a3 : Nat) (o_a8 : Nat) (o_a9 : Nat) (o_a11 : Nat) (o_a12 : Nat) (o_a13 : Nat) (o_a14 : Nat) (o_a15 : Nat) (o_a16 : Nat) (o_s : Nat → Int32) (o_m : Nat → Int32) (o_image : Nat → Int32) (o_was : Nat → Int32) (o_hasImage : Int32) (o_place : Int32) (o_rowAt : Int32) (o_rowEnd : Int32) (o_numbers : Nat → Int32) (o_most : Nat → Int32) (o_seed : Int32) (o_kept : Nat → Int32) (o_keptKind : Nat → Int32) (o_keptFigure : Nat → Int32) (o_sort : Nat → Int32) (o_size : Nat → Int32) (o_element : Nat → Int32) (o_thrown : Int32) (p1 : Int32) (N : Nat) (res : Int64) (hv : f_X10_mean N o_s p1 = some res) : Rd l E yX10_mean cX10_mean 5 (some .long) ({ frames := 2, cells := 0, slots := 0, locals := 53 }) [.ref o_h, .int p1] [oMo o_h o_a0 o_a1 o_a2 o_a3 o_hasImage o_place o_rowAt o_rowEnd o_a8 o_a9 o_seed o_a11 o_a12 o_a13 o_a14 o_a15 o_a16 o_thrown, ai E o_a0 42 o_s, ai E o_a1 42 o_m, ai E o_a2 42 o_image, ai E o_a3 42 o_was, ai E o_a8 3 o_numbers, ai E o_a9 8192 o_most, ai E o_a11 8 o_kept, ai E o_a12 8 o_keptKind, ai E o_a13 8 o_keptFigure, ai E o_a14 8 o_sort, ai E o_a15 8 o_size, ai E o_a16 800 o_element] (some (.long res)) := by
  refine Rd.intro RX10 (by decide) rfl (Nat.le_of_ble_eq_true rfl) ?_
  intro p e s m below meth c ls hC hr hlk hP hG hl
  obtain ⟨hx, hb, hml, hown, ht⟩ := id hC
  have hK := hG.1
  have hl : lv_has ls 5 [(0, .ref o_h), (1, .int p1)] := hl
  rw [f_X10_mean] at hv
  refine lv_iload_n hx hb dX10_mean_0 rfl (lv_at hl 1 rfl) ?_
  refine lv_iconst (v := (0 : Int32)) hx hb dX10_mean_1 (by decide) ?_
  refine lv_iconst (v := (1 : Int32)) hx hb dX10_mean_2 (by decide) ?_
  obtain ⟨r1, h2, hv⟩ := ob_s hv
  refine rdS (rest := []) (st1 := [.int r1]) (w := []) hC q_X10_isIn kw_4_200 (c_X10_isIn l E p1 (0 : Int32) (1 : Int32) r1 h2) ⟨rfl, rfl⟩ ⟨Nat.le_of_ble_eq_true rfl, Nat.le_of_ble_eq_true rfl⟩ ⟨Nat.zero_le _, Nat.zero_le _⟩ (hP.sub (ws' := []) [] rfl) hG rfl hl.1 rfl (Nat.le_of_ble_eq_true rfl) dX10_mean_3 rfl ?_
  refine lv_if_ne (tgt := 13) hx hb dX10_mean_6 (by decide) (fun c3 => ?_) (fun c3 => ?_)
  · have hv := if_n c3 hv
    refine lv_lconst (v := (0 : Int64)) hx hb dX10_mean_13 (by decide) ?_
    refine lv_lstore_n (lv' := [(2, .long (0 : Int64)), (0, .ref o_h), (1, .int p1)]) hx hb dX10_mean_14 rfl hl (by decide) rfl (fun ls hl => ?_)
    refine lv_iconst (v := (0 : Int32)) hx hb dX10_mean_15 (by decide) ?_
    refine lv_istore (lv' := [(4, .int (0 : Int32)), (2, .long (0 : Int64)), (0, .ref o_h), (1, .int p1)]) hx hb dX10_mean_16 hl (by decide) rfl (fun ls hl => ?_)
    have hL18 : ∀ (n : Nat) (x4 : Int32) (x5 : Int64) (ls : Array Slot), lv_has ls 5 [(4, .int x4), (2, .long x5), (0, .ref o_h), (1, .int p1)] → L_X10_mean_18 N o_s p1 n x4 x5 = some res → W p l e ({ frames := 2, cells := 0, slots := 0, locals := 53 }) s m [.ref o_h, .int p1].toArray below meth c s.heap [] 0 0 (MQ below (RdQ (some (.long res))) [.ref o_h, .int p1].toArray s 0 0 (fun _ => False)) (F0 m 18 ls []) := by
      intro n
      induction n with
      | zero => intro x4 x5 ls hl hv; cases hv
      | succ n18 ih18 =>
        intro x4 x5 ls hl hv
        rw [L_X10_mean_18] at hv
        refine lv_iload hx hb dX10_mean_18 (lv_at hl 0 rfl) ?_
        refine lv_aload_n hx hb dX10_mean_20 rfl (lv_at hl 2 rfl) ?_
        refine va_get (D := E.1) (ci := 4) (v := .ref o_a0) (C := RX10) (T := TX10) (N := 18) hx hb ht i_X10 hown hK hP 0 rfl rfl 0 (by decide) (ht _ kw_4_134) (fun _ h9 => h9) rfl dX10_mean_21 ?_
        refine lv_iconst (v := (0 : Int32)) hx hb dX10_mean_24 (by decide) ?_
        refine va_iald hx hb hK hP 1 0 rfl rfl (ix_s (by decide)) dX10_mean_25 ?_
        refine W.eq (g2 := F0 m 26 ls [.int (o_s 0), .int x4]) rfl ?_
        refine lv_icmp_ge (tgt := 50) hx hb dX10_mean_26 (by decide) (fun c6 => ?_) (fun c6 => ?_)
        · have hv := if_y c6 hv
          refine lv_lload_n hx hb dX10_mean_50 rfl (lv_at hl 1 rfl) ?_
          refine lv_aload_n hx hb dX10_mean_51 rfl (lv_at hl 2 rfl) ?_
          refine va_get (D := E.1) (ci := 4) (v := .ref o_a0) (C := RX10) (T := TX10) (N := 18) hx hb ht i_X10 hown hK hP 0 rfl rfl 0 (by decide) (ht _ kw_4_134) (fun _ h9 => h9) rfl dX10_mean_52 ?_
          refine lv_iconst (v := (0 : Int32)) hx hb dX10_mean_55 (by decide) ?_
          refine va_iald hx hb hK hP 1 0 rfl rfl (ix_s (by decide)) dX10_mean_56 ?_
          refine W.eq (g2 := F0 m 57 ls [.int (o_s 0), .long x5]) rfl ?_
          refine lv_i2l (v := ((o_s 0).toInt64)) hx hb dX10_mean_57 rfl ?_
          refine lv_iload_n hx hb dX10_mean_58 rfl (lv_at hl 3 rfl) ?_
          obtain ⟨r7, h8, hv⟩ := ob_s hv
          refine rdS (rest := []) (st1 := [.long r7]) (w := []) hC q_X10_partOf kw_5_163 (c_X10_partOf l E x5 ((o_s 0).toInt64) p1 N r7 h8) ⟨rfl, rfl⟩ ⟨Nat.le_of_ble_eq_true rfl, Nat.le_of_ble_eq_true rfl⟩ ⟨Nat.zero_le _, Nat.zero_le _⟩ (hP.sub (ws' := []) [] rfl) hG rfl hl.1 rfl (Nat.le_of_ble_eq_true rfl) dX10_mean_59 rfl ?_
          exact W.lret (v := r7) hx hb hr (fun t h9 _ => ⟨rv_l hv, h9⟩) (fun q h => absurd h List.not_mem_nil) dX10_mean_62 hlk
        · have hv := if_n c6 hv
          refine lv_lload_n hx hb dX10_mean_29 rfl (lv_at hl 1 rfl) ?_
          refine lv_aload_n hx hb dX10_mean_30 rfl (lv_at hl 2 rfl) ?_
          refine va_get (D := E.1) (ci := 4) (v := .ref o_a0) (C := RX10) (T := TX10) (N := 18) hx hb ht i_X10 hown hK hP 0 rfl rfl 0 (by decide) (ht _ kw_4_134) (fun _ h9 => h9) rfl dX10_mean_31 ?_
          refine lv_iload hx hb dX10_mean_34 (lv_at hl 0 rfl) ?_
          refine lv_iconst (v := (3 : Int32)) hx hb dX10_mean_36 (by decide) ?_
          obtain ⟨r9, h10, hv⟩ := ob_s hv
          refine rdS (rest := [.ref o_a0, .long x5]) (st1 := [.int r9, .ref o_a0, .long x5]) (w := []) hC q_X10_of kw_4_226 (c_X10_of l E x4 (3 : Int32) r9 h10) ⟨rfl, rfl⟩ ⟨Nat.le_of_ble_eq_true rfl, Nat.le_of_ble_eq_true rfl⟩ ⟨Nat.zero_le _, Nat.zero_le _⟩ (hP.sub (ws' := []) [] rfl) hG rfl hl.1 rfl (Nat.le_of_ble_eq_true rfl) dX10_mean_37 rfl ?_
          obtain ⟨g11, hv⟩ := gd_s hv
          refine va_iald hx hb hK hP 1 0 rfl rfl (ix_s g11) dX10_mean_40 ?_
          refine lv_i2l (v := ((o_s r9.toNatClampNeg).toInt64)) hx hb dX10_mean_41 rfl ?_
          refine lv_ladd hx hb dX10_mean_42 ?_
          refine lv_topl (fun z12 ez12 => ?_)
          have hv := nm_s ez12 hv
          refine lv_lstore_n (lv' := [(2, .long z12), (4, .int x4), (0, .ref o_h), (1, .int p1)]) hx hb dX10_mean_43 rfl hl (by decide) rfl (fun ls hl => ?_)
          refine lv_iinc (v := (x4 + (1 : Int32))) (lv' := [(4, .int (x4 + (1 : Int32))), (2, .long z12), (0, .ref o_h), (1, .int p1)]) hx hb dX10_mean_44 hl (k := 1) rfl rfl (by decide) rfl (fun ls hl => ?_)
          refine lv_goto (tgt := 18) hx hb dX10_mean_47 (by decide) ?_
          exact ih18 (x4 + (1 : Int32)) z12 _ (lv_sub hl [0, 1, 2, 3] rfl) hv
    exact hL18 N (0 : Int32) (0 : Int64) _ (lv_sub hl [0, 1, 2, 3] rfl) hv
  · have hv := if_y c3 hv
    refine lv_ldc2 (v := (1000000001 : Int64)) hx hb hown (ht _ kw_5_148) dX10_mean_9 ?_
    exact W.lret (v := (1000000001 : Int64)) hx hb hr (fun t h9 _ => ⟨rv_l hv, h9⟩) (fun q h => absurd h List.not_mem_nil) dX10_mean_12 hlk
theorem dX10_forged_0 : decode cX10_forged 0 = .ok (.aload_n 0, 1) := by decide +kernel
theorem dX10_forged_1 : decode cX10_forged 1 = .ok (.iload_n 1, 1) := by decide +kernel
theorem dX10_forged_2 : decode cX10_forged 2 = .ok (.iconst (-1), 1) := by decide +kernel
theorem dX10_forged_3 : decode cX10_forged 3 = .ok (.invokevirtual 141, 3) := by decide +kernel
theorem dX10_forged_6 : decode cX10_forged 6 = .ok (.istore_n 2, 1) := by decide +kernel
theorem dX10_forged_7 : decode cX10_forged 7 = .ok (.iload_n 2, 1) := by decide +kernel
theorem dX10_forged_8 : decode cX10_forged 8 = .ok (.ifCond .eq 5, 3) := by decide +kernel
theorem dX10_forged_11 : decode cX10_forged 11 = .ok (.iload_n 2, 1) := by decide +kernel
theorem dX10_forged_12 : decode cX10_forged 12 = .ok (.ireturn, 1) := by decide +kernel
theorem dX10_forged_13 : decode cX10_forged 13 = .ok (.iconst 0, 1) := by decide +kernel
theorem dX10_forged_14 : decode cX10_forged 14 = .ok (.istore_n 3, 1) := by decide +kernel
theorem dX10_forged_15 : decode cX10_forged 15 = .ok (.iload_n 3, 1) := by decide +kernel
theorem dX10_forged_16 : decode cX10_forged 16 = .ok (.aload_n 0, 1) := by decide +kernel
theorem dX10_forged_17 : decode cX10_forged 17 = .ok (.getfield 40, 3) := by decide +kernel
theorem dX10_forged_20 : decode cX10_forged 20 = .ok (.iload_n 1, 1) := by decide +kernel
theorem dX10_forged_21 : decode cX10_forged 21 = .ok (.iaload, 1) := by decide +kernel
theorem dX10_forged_22 : decode cX10_forged 22 = .ok (.if_icmp .ge 40, 3) := by decide +kernel
theorem dX10_forged_25 : decode cX10_forged 25 = .ok (.iload_n 3, 1) := by decide +kernel
theorem dX10_forged_26 : decode cX10_forged 26 = .ok (.invokestatic 155, 3) := by decide +kernel
theorem dX10_forged_29 : decode cX10_forged 29 = .ok (.ifCond .eq 25, 3) := by decide +kernel
theorem dX10_forged_32 : decode cX10_forged 32 = .ok (.aload_n 0, 1) := by decide +kernel
theorem dX10_forged_33 : decode cX10_forged 33 = .ok (.getfield 43, 3) := by decide +kernel
theorem dX10_forged_36 : decode cX10_forged 36 = .ok (.bipush 100, 2) := by decide +kernel
theorem dX10_forged_38 : decode cX10_forged 38 = .ok (.iload_n 1, 1) := by decide +kernel
theorem dX10_forged_39 : decode cX10_forged 39 = .ok (.imul, 1) := by decide +kernel
theorem dX10_forged_40 : decode cX10_forged 40 = .ok (.iload_n 3, 1) := by decide +kernel
theorem dX10_forged_41 : decode cX10_forged 41 = .ok (.iadd, 1) := by decide +kernel
theorem dX10_forged_42 : decode cX10_forged 42 = .ok (.iaload, 1) := by decide +kernel
theorem dX10_forged_43 : decode cX10_forged 43 = .ok (.aload_n 0, 1) := by decide +kernel
theorem dX10_forged_44 : decode cX10_forged 44 = .ok (.getfield 9, 3) := by decide +kernel
theorem dX10_forged_47 : decode cX10_forged 47 = .ok (.iconst 4, 1) := by decide +kernel
theorem dX10_forged_48 : decode cX10_forged 48 = .ok (.iload_n 3, 1) := by decide +kernel
theorem dX10_forged_49 : decode cX10_forged 49 = .ok (.iadd, 1) := by decide +kernel
theorem dX10_forged_50 : decode cX10_forged 50 = .ok (.iaload, 1) := by decide +kernel
theorem dX10_forged_51 : decode cX10_forged 51 = .ok (.if_icmp .eq 5, 3) := by decide +kernel
theorem dX10_forged_54 : decode cX10_forged 54 = .ok (.iload_n 3, 1) := by decide +kernel
theorem dX10_forged_55 : decode cX10_forged 55 = .ok (.ireturn, 1) := by decide +kernel
theorem dX10_forged_56 : decode cX10_forged 56 = .ok (.iinc 3 1, 3) := by decide +kernel
theorem dX10_forged_59 : decode cX10_forged 59 = .ok (.goto (-44), 3) := by decide +kernel
theorem dX10_forged_62 : decode cX10_forged 62 = .ok (.bipush (-4), 2) := by decide +kernel
theorem dX10_forged_64 : decode cX10_forged 64 = .ok (.ireturn, 1) := by decide +kernel
def L_X10_forged_15 (o_s : Nat → Int32) (o_size : Nat → Int32) (o_element : Nat → Int32) (p1 : Int32) : Nat → Int32 → Option (Int32)
  | 0, _ => none
  | n15 + 1, x4 => gd (ix p1 8) (if (o_size p1.toNatClampNeg) ≤ x4 then some (-4 : Int32) else ob (f_X10_isRail x4) (fun r7 => if r7 = 0 then some x4 else gd (ix (((100 : Int32) * p1) + x4) 800) (gd (ix ((4 : Int32) + x4) 42) (if (o_element (((100 : Int32) * p1) + x4).toNatClampNeg) = (o_s ((4 : Int32) + x4).toNatClampNeg) then L_X10_forged_15 o_s o_size o_element p1 n15 (x4 + (1 : Int32)) else some x4))))
def f_X10_forged (N : Nat) (o_s : Nat → Int32) (o_kept : Nat → Int32) (o_sort : Nat → Int32) (o_size : Nat → Int32) (o_element : Nat → Int32) (p1 : Int32) : Option (Int32) := ob (f_X10_wrongRow o_kept o_sort p1 (-1 : Int32)) (fun r1 => if r1 = 0 then L_X10_forged_15 o_s o_size o_element p1 N (0 : Int32) else some r1)
set_option maxHeartbeats 4000000 in
set_option maxRecDepth 100000 in
theorem c_X10_forged (l : Launch) (E : EE) (o_h : Nat) (o_a0 : Nat) (o_a1 : Nat) (o_a2 : Nat) (o_a3 : Nat) (o_a8 : Nat) (o_a9 : Nat) (o_a11 : Nat) (o_a12 : Nat) (o_a13 : Nat) (o_a14 : Nat) (o_a15 : Nat) (o_a16 : Nat) (o_s : Nat → Int32) (o_m : Nat → Int32) (o_image : Nat → Int32) (o_was : Nat → Int32) (o_hasImage : Int32) (o_place : Int32) (o_rowAt : Int32) (o_rowEnd : Int32) (o_numbers : Nat → Int32) (o_most : Nat → Int32) (o_seed : Int32) (o_kept : Nat → Int32) (o_keptKind : Nat → Int32) (o_keptFigure : Nat → Int32) (o_sort : Nat → Int32) (o_size : Nat → Int32) (o_element : Nat → Int32) (o_thrown : Int32) (p1 : Int32) (N : Nat) (res : Int32) (hv : f_X10_forged N o_s o_kept o_sort o_size o_element p1 = some res) : Rd l E yX10_forged cX10_forged 4 (some .int) ({ frames := 3, cells := 0, slots := 0, locals := 64 }) [.ref o_h, .int p1] [oMo o_h o_a0 o_a1 o_a2 o_a3 o_hasImage o_place o_rowAt o_rowEnd o_a8 o_a9 o_seed o_a11 o_a12 o_a13 o_a14 o_a15 o_a16 o_thrown, ai E o_a0 42 o_s, ai E o_a1 42 o_m, ai E o_a2 42 o_image, ai E o_a3 42 o_was, ai E o_a8 3 o_numbers, ai E o_a9 8192 o_most, ai E o_a11 8 o_kept, ai E o_a12 8 o_keptKind, ai E o_a13 8 o_keptFigure, ai E o_a14 8 o_sort, ai E o_a15 8 o_size, ai E o_a16 800 o_element] (some (.int res)) := by
  refine Rd.intro RX10 (by decide) rfl (Nat.le_of_ble_eq_true rfl) ?_
  intro p e s m below meth c ls hC hr hlk hP hG hl
  obtain ⟨hx, hb, hml, hown, ht⟩ := id hC
  have hK := hG.1
  have hl : lv_has ls 4 [(0, .ref o_h), (1, .int p1)] := hl
  rw [f_X10_forged] at hv
  refine lv_aload_n hx hb dX10_forged_0 rfl (lv_at hl 0 rfl) ?_
  refine lv_iload_n hx hb dX10_forged_1 rfl (lv_at hl 1 rfl) ?_
  refine lv_iconst (v := (-1 : Int32)) hx hb dX10_forged_2 (by decide) ?_
  obtain ⟨r1, h2, hv⟩ := ob_s hv
  refine rdV 4 0 (As := [.int p1, .int (-1 : Int32)]) (rest := []) (st1 := [.int r1]) (w := [oMo o_h o_a0 o_a1 o_a2 o_a3 o_hasImage o_place o_rowAt o_rowEnd o_a8 o_a9 o_seed o_a11 o_a12 o_a13 o_a14 o_a15 o_a16 o_thrown, ai E o_a0 42 o_s, ai E o_a1 42 o_m, ai E o_a2 42 o_image, ai E o_a3 42 o_was, ai E o_a8 3 o_numbers, ai E o_a9 8192 o_most, ai E o_a11 8 o_kept, ai E o_a12 8 o_keptKind, ai E o_a13 8 o_keptFigure, ai E o_a14 8 o_sort, ai E o_a15 8 o_size, ai E o_a16 800 o_element]) hC q_X10_wrongRow kw_4_193 (c_X10_wrongRow l E o_h o_a0 o_a1 o_a2 o_a3 o_a8 o_a9 o_a11 o_a12 o_a13 o_a14 o_a15 o_a16 o_s o_m o_image o_was o_hasImage o_place o_rowAt o_rowEnd o_numbers o_most o_seed o_kept o_keptKind o_keptFigure o_sort o_size o_element o_thrown p1 (-1 : Int32) r1 h2) ⟨rfl, rfl⟩ ⟨Nat.le_of_ble_eq_true rfl, Nat.le_of_ble_eq_true rfl⟩ ⟨Nat.zero_le _, Nat.zero_le _⟩ hP rfl rfl rfl hG rfl hl.1 rfl (Nat.le_of_ble_eq_true rfl) dX10_forged_3 rfl ?_
  refine lv_istore_n (lv' := [(2, .int r1), (0, .ref o_h), (1, .int p1)]) hx hb dX10_forged_6 rfl hl (by decide) rfl (fun ls hl => ?_)
  refine lv_iload_n hx hb dX10_forged_7 rfl (lv_at hl 0 rfl) ?_
  refine lv_if_eq (tgt := 13) hx hb dX10_forged_8 (by decide) (fun c3 => ?_) (fun c3 => ?_)
  · have hv := if_y c3 hv
    refine lv_iconst (v := (0 : Int32)) hx hb dX10_forged_13 (by decide) ?_
    refine lv_istore_n (lv' := [(3, .int (0 : Int32)), (2, .int r1), (0, .ref o_h), (1, .int p1)]) hx hb dX10_forged_14 rfl hl (by decide) rfl (fun ls hl => ?_)
    have hL15 : ∀ (n : Nat) (x4 : Int32) (ls : Array Slot), lv_has ls 4 [(3, .int x4), (0, .ref o_h), (1, .int p1)] → L_X10_forged_15 o_s o_size o_element p1 n x4 = some res → W p l e ({ frames := 3, cells := 0, slots := 0, locals := 64 }) s m [.ref o_h, .int p1].toArray below meth c s.heap [] 0 0 (MQ below (RdQ (some (.int res))) [.ref o_h, .int p1].toArray s 0 0 (fun _ => False)) (F0 m 15 ls []) := by
      intro n
      induction n with
      | zero => intro x4 ls hl hv; cases hv
      | succ n15 ih15 =>
        intro x4 ls hl hv
        rw [L_X10_forged_15] at hv
        refine lv_iload_n hx hb dX10_forged_15 rfl (lv_at hl 0 rfl) ?_
        refine lv_aload_n hx hb dX10_forged_16 rfl (lv_at hl 1 rfl) ?_
        refine va_get (D := E.1) (ci := 4) (v := .ref o_a15) (C := RX10) (T := TX10) (N := 18) hx hb ht i_X10 hown hK hP 0 rfl rfl 15 (by decide) (ht _ kw_4_149) (fun _ h9 => h9) rfl dX10_forged_17 ?_
        refine lv_iload_n hx hb dX10_forged_20 rfl (lv_at hl 2 rfl) ?_
        obtain ⟨g5, hv⟩ := gd_s hv
        refine va_iald hx hb hK hP 11 0 rfl rfl (ix_s g5) dX10_forged_21 ?_
        refine lv_icmp_ge (tgt := 62) hx hb dX10_forged_22 (by decide) (fun c6 => ?_) (fun c6 => ?_)
        · have hv := if_y c6 hv
          refine lv_bipush (v := (-4 : Int32)) hx hb dX10_forged_62 (by decide) ?_
          exact W.iret (v := (-4 : Int32)) hx hb hr (fun t h9 _ => ⟨rv_i hv, h9⟩) (fun q h => absurd h List.not_mem_nil) dX10_forged_64 hlk
        · have hv := if_n c6 hv
          refine lv_iload_n hx hb dX10_forged_25 rfl (lv_at hl 0 rfl) ?_
          obtain ⟨r7, h8, hv⟩ := ob_s hv
          refine rdS (rest := []) (st1 := [.int r7]) (w := []) hC q_X10_isRail kw_5_34 (c_X10_isRail l E x4 r7 h8) ⟨rfl, rfl⟩ ⟨Nat.le_of_ble_eq_true rfl, Nat.le_of_ble_eq_true rfl⟩ ⟨Nat.zero_le _, Nat.zero_le _⟩ (hP.sub (ws' := []) [] rfl) hG rfl hl.1 rfl (Nat.le_of_ble_eq_true rfl) dX10_forged_26 rfl ?_
          refine lv_if_eq (tgt := 54) hx hb dX10_forged_29 (by decide) (fun c9 => ?_) (fun c9 => ?_)
          · have hv := if_y c9 hv
            refine lv_iload_n hx hb dX10_forged_54 rfl (lv_at hl 0 rfl) ?_
            exact W.iret (v := x4) hx hb hr (fun t h9 _ => ⟨rv_i hv, h9⟩) (fun q h => absurd h List.not_mem_nil) dX10_forged_55 hlk
          · have hv := if_n c9 hv
            refine lv_aload_n hx hb dX10_forged_32 rfl (lv_at hl 1 rfl) ?_
            refine va_get (D := E.1) (ci := 4) (v := .ref o_a16) (C := RX10) (T := TX10) (N := 18) hx hb ht i_X10 hown hK hP 0 rfl rfl 16 (by decide) (ht _ kw_4_150) (fun _ h9 => h9) rfl dX10_forged_33 ?_
            refine lv_bipush (v := (100 : Int32)) hx hb dX10_forged_36 (by decide) ?_
            refine lv_iload_n hx hb dX10_forged_38 rfl (lv_at hl 2 rfl) ?_
            refine lv_imul hx hb dX10_forged_39 ?_
            refine lv_iload_n hx hb dX10_forged_40 rfl (lv_at hl 0 rfl) ?_
            refine lv_iadd hx hb dX10_forged_41 ?_
            obtain ⟨g10, hv⟩ := gd_s hv
            refine va_iald hx hb hK hP 12 0 rfl rfl (ix_s g10) dX10_forged_42 ?_
            refine lv_aload_n hx hb dX10_forged_43 rfl (lv_at hl 1 rfl) ?_
            refine va_get (D := E.1) (ci := 4) (v := .ref o_a0) (C := RX10) (T := TX10) (N := 18) hx hb ht i_X10 hown hK hP 0 rfl rfl 0 (by decide) (ht _ kw_4_134) (fun _ h9 => h9) rfl dX10_forged_44 ?_
            refine lv_iconst (v := (4 : Int32)) hx hb dX10_forged_47 (by decide) ?_
            refine lv_iload_n hx hb dX10_forged_48 rfl (lv_at hl 0 rfl) ?_
            refine lv_iadd hx hb dX10_forged_49 ?_
            obtain ⟨g11, hv⟩ := gd_s hv
            refine va_iald hx hb hK hP 1 0 rfl rfl (ix_s g11) dX10_forged_50 ?_
            refine lv_icmp_eq (tgt := 56) hx hb dX10_forged_51 (by decide) (fun c12 => ?_) (fun c12 => ?_)
            · have hv := if_y c12 hv
              refine lv_iinc (v := (x4 + (1 : Int32))) (lv' := [(3, .int (x4 + (1 : Int32))), (0, .ref o_h), (1, .int p1)]) hx hb dX10_forged_56 hl (k := 0) rfl rfl (by decide) rfl (fun ls hl => ?_)
              refine lv_goto (tgt := 15) hx hb dX10_forged_59 (by decide) ?_
              exact ih15 (x4 + (1 : Int32)) _ (lv_sub hl [0, 1, 2] rfl) hv
            · have hv := if_n c12 hv
              refine lv_iload_n hx hb dX10_forged_54 rfl (lv_at hl 0 rfl) ?_
              exact W.iret (v := x4) hx hb hr (fun t h9 _ => ⟨rv_i hv, h9⟩) (fun q h => absurd h List.not_mem_nil) dX10_forged_55 hlk
    exact hL15 N (0 : Int32) _ (lv_sub hl [0, 2, 3] rfl) hv
  · have hv := if_n c3 hv
    refine lv_iload_n hx hb dX10_forged_11 rfl (lv_at hl 0 rfl) ?_
    exact W.iret (v := r1) hx hb hr (fun t h9 _ => ⟨rv_i hv, h9⟩) (fun q h => absurd h List.not_mem_nil) dX10_forged_12 hlk
theorem dX10_judge_0 : decode cX10_judge 0 = .ok (.aload_n 0, 1) := by decide +kernel
theorem dX10_judge_1 : decode cX10_judge 1 = .ok (.iload_n 1, 1) := by decide +kernel
theorem dX10_judge_2 : decode cX10_judge 2 = .ok (.iconst (-1), 1) := by decide +kernel
theorem dX10_judge_3 : decode cX10_judge 3 = .ok (.invokevirtual 141, 3) := by decide +kernel
theorem dX10_judge_6 : decode cX10_judge 6 = .ok (.istore_n 2, 1) := by decide +kernel
theorem dX10_judge_7 : decode cX10_judge 7 = .ok (.iload_n 2, 1) := by decide +kernel
theorem dX10_judge_8 : decode cX10_judge 8 = .ok (.ifCond .eq 5, 3) := by decide +kernel
theorem dX10_judge_11 : decode cX10_judge 11 = .ok (.iload_n 2, 1) := by decide +kernel
theorem dX10_judge_12 : decode cX10_judge 12 = .ok (.ireturn, 1) := by decide +kernel
theorem dX10_judge_13 : decode cX10_judge 13 = .ok (.aload_n 0, 1) := by decide +kernel
theorem dX10_judge_14 : decode cX10_judge 14 = .ok (.getfield 9, 3) := by decide +kernel
theorem dX10_judge_17 : decode cX10_judge 17 = .ok (.aload_n 0, 1) := by decide +kernel
theorem dX10_judge_18 : decode cX10_judge 18 = .ok (.getfield 13, 3) := by decide +kernel
theorem dX10_judge_21 : decode cX10_judge 21 = .ok (.invokestatic 148, 3) := by decide +kernel
theorem dX10_judge_24 : decode cX10_judge 24 = .ok (.iconst 0, 1) := by decide +kernel
theorem dX10_judge_25 : decode cX10_judge 25 = .ok (.istore_n 3, 1) := by decide +kernel
theorem dX10_judge_26 : decode cX10_judge 26 = .ok (.iload_n 3, 1) := by decide +kernel
theorem dX10_judge_27 : decode cX10_judge 27 = .ok (.aload_n 0, 1) := by decide +kernel
theorem dX10_judge_28 : decode cX10_judge 28 = .ok (.getfield 40, 3) := by decide +kernel
theorem dX10_judge_31 : decode cX10_judge 31 = .ok (.iload_n 1, 1) := by decide +kernel
theorem dX10_judge_32 : decode cX10_judge 32 = .ok (.iaload, 1) := by decide +kernel
theorem dX10_judge_33 : decode cX10_judge 33 = .ok (.if_icmp .ge 65, 3) := by decide +kernel
theorem dX10_judge_36 : decode cX10_judge 36 = .ok (.aload_n 0, 1) := by decide +kernel
theorem dX10_judge_37 : decode cX10_judge 37 = .ok (.getfield 43, 3) := by decide +kernel
theorem dX10_judge_40 : decode cX10_judge 40 = .ok (.bipush 100, 2) := by decide +kernel
theorem dX10_judge_42 : decode cX10_judge 42 = .ok (.iload_n 1, 1) := by decide +kernel
theorem dX10_judge_43 : decode cX10_judge 43 = .ok (.imul, 1) := by decide +kernel
theorem dX10_judge_44 : decode cX10_judge 44 = .ok (.iload_n 3, 1) := by decide +kernel
theorem dX10_judge_45 : decode cX10_judge 45 = .ok (.iadd, 1) := by decide +kernel
theorem dX10_judge_46 : decode cX10_judge 46 = .ok (.iaload, 1) := by decide +kernel
theorem dX10_judge_47 : decode cX10_judge 47 = .ok (.istore 4, 2) := by decide +kernel
theorem dX10_judge_49 : decode cX10_judge 49 = .ok (.iload 4, 2) := by decide +kernel
theorem dX10_judge_51 : decode cX10_judge 51 = .ok (.aload_n 0, 1) := by decide +kernel
theorem dX10_judge_52 : decode cX10_judge 52 = .ok (.getfield 37, 3) := by decide +kernel
theorem dX10_judge_55 : decode cX10_judge 55 = .ok (.iload_n 1, 1) := by decide +kernel
theorem dX10_judge_56 : decode cX10_judge 56 = .ok (.iaload, 1) := by decide +kernel
theorem dX10_judge_57 : decode cX10_judge 57 = .ok (.invokestatic 240, 3) := by decide +kernel
theorem dX10_judge_60 : decode cX10_judge 60 = .ok (.if_icmp .eq 25, 3) := by decide +kernel
theorem dX10_judge_63 : decode cX10_judge 63 = .ok (.iload 4, 2) := by decide +kernel
theorem dX10_judge_65 : decode cX10_judge 65 = .ok (.aload_n 0, 1) := by decide +kernel
theorem dX10_judge_66 : decode cX10_judge 66 = .ok (.getfield 13, 3) := by decide +kernel
theorem dX10_judge_69 : decode cX10_judge 69 = .ok (.invokestatic 163, 3) := by decide +kernel
theorem dX10_judge_72 : decode cX10_judge 72 = .ok (.ifCond .eq 7, 3) := by decide +kernel
theorem dX10_judge_75 : decode cX10_judge 75 = .ok (.iconst 1, 1) := by decide +kernel
theorem dX10_judge_76 : decode cX10_judge 76 = .ok (.goto 4, 3) := by decide +kernel
theorem dX10_judge_79 : decode cX10_judge 79 = .ok (.iconst 0, 1) := by decide +kernel
theorem dX10_judge_80 : decode cX10_judge 80 = .ok (.if_icmp .eq 5, 3) := by decide +kernel
theorem dX10_judge_83 : decode cX10_judge 83 = .ok (.iload_n 3, 1) := by decide +kernel
theorem dX10_judge_84 : decode cX10_judge 84 = .ok (.ireturn, 1) := by decide +kernel
theorem dX10_judge_85 : decode cX10_judge 85 = .ok (.aload_n 0, 1) := by decide +kernel
theorem dX10_judge_86 : decode cX10_judge 86 = .ok (.getfield 13, 3) := by decide +kernel
theorem dX10_judge_89 : decode cX10_judge 89 = .ok (.invokestatic 109, 3) := by decide +kernel
theorem dX10_judge_92 : decode cX10_judge 92 = .ok (.iinc 3 1, 3) := by decide +kernel
theorem dX10_judge_95 : decode cX10_judge 95 = .ok (.goto (-69), 3) := by decide +kernel
theorem dX10_judge_98 : decode cX10_judge 98 = .ok (.bipush (-4), 2) := by decide +kernel
theorem dX10_judge_100 : decode cX10_judge 100 = .ok (.ireturn, 1) := by decide +kernel
def L_X10_judge_26 (N : Nat) (o_sort : Nat → Int32) (o_size : Nat → Int32) (o_element : Nat → Int32) (p1 : Int32) : Nat → Int32 → (Nat → Int32) → Option (Int32 × (Nat → Int32))
  | 0, _, _ => none
  | n26 + 1, x6, y7 => gd (ix p1 8) (if (o_size p1.toNatClampNeg) ≤ x6 then nm (-4 : Int32) (fun z10 => some (z10, y7)) else gd (ix (((100 : Int32) * p1) + x6) 800) (nm (o_element (((100 : Int32) * p1) + x6).toNatClampNeg) (fun z12 => gd (ix p1 8) (ob (f_X10_leastOf (o_sort p1.toNatClampNeg)) (fun r14 => if z12 = r14 then ob (f_X10_day N y7) (fun y17 => L_X10_judge_26 N o_sort o_size o_element p1 n26 (x6 + (1 : Int32)) y17) else ob (f_X10_doesCarry N y7) (fun r19 => if r19 = 0 then if z12 = (0 : Int32) then ob (f_X10_day N y7) (fun y23 => L_X10_judge_26 N o_sort o_size o_element p1 n26 (x6 + (1 : Int32)) y23) else some (x6, y7) else if z12 = (1 : Int32) then ob (f_X10_day N y7) (fun y26 => L_X10_judge_26 N o_sort o_size o_element p1 n26 (x6 + (1 : Int32)) y26) else some (x6, y7)))))))
def f_X10_judge (N : Nat) (o_s : Nat → Int32) (o_m : Nat → Int32) (o_kept : Nat → Int32) (o_sort : Nat → Int32) (o_size : Nat → Int32) (o_element : Nat → Int32) (p1 : Int32) : Option (Int32 × (Nat → Int32)) := ob (f_X10_wrongRow o_kept o_sort p1 (-1 : Int32)) (fun r1 => if r1 = 0 then ob (f_X10_copies N o_s o_m) (fun y4 => L_X10_judge_26 N o_sort o_size o_element p1 N (0 : Int32) y4) else some (r1, o_m))
set_option maxHeartbeats 4000000 in
set_option maxRecDepth 100000 in
theorem c_X10_judge (l : Launch) (E : EE) (o_h : Nat) (o_a0 : Nat) (o_a1 : Nat) (o_a2 : Nat) (o_a3 : Nat) (o_a8 : Nat) (o_a9 : Nat) (o_a11 : Nat) (o_a12 : Nat) (o_a13 : Nat) (o_a14 : Nat) (o_a15 : Nat) (o_a16 : Nat) (o_s : Nat → Int32) (o_m : Nat → Int32) (o_image : Nat → Int32) (o_was : Nat → Int32) (o_hasImage : Int32) (o_place : Int32) (o_rowAt : Int32) (o_rowEnd : Int32) (o_numbers : Nat → Int32) (o_most : Nat → Int32) (o_seed : Int32) (o_kept : Nat → Int32) (o_keptKind : Nat → Int32) (o_keptFigure : Nat → Int32) (o_sort : Nat → Int32) (o_size : Nat → Int32) (o_element : Nat → Int32) (o_thrown : Int32) (p1 : Int32) (N : Nat) (res : Int32) (w_o_m : Nat → Int32) (hv : f_X10_judge N o_s o_m o_kept o_sort o_size o_element p1 = some (res, w_o_m)) : Wr l E yX10_judge cX10_judge 5 (some .int) ({ frames := 6, cells := 0, slots := 0, locals := 128 }) [.ref o_h, .int p1] [oMo o_h o_a0 o_a1 o_a2 o_a3 o_hasImage o_place o_rowAt o_rowEnd o_a8 o_a9 o_seed o_a11 o_a12 o_a13 o_a14 o_a15 o_a16 o_thrown, ai E o_a0 42 o_s, ai E o_a1 42 o_m, ai E o_a2 42 o_image, ai E o_a3 42 o_was, ai E o_a8 3 o_numbers, ai E o_a9 8192 o_most, ai E o_a11 8 o_kept, ai E o_a12 8 o_keptKind, ai E o_a13 8 o_keptFigure, ai E o_a14 8 o_sort, ai E o_a15 8 o_size, ai E o_a16 800 o_element] [oMo o_h o_a0 o_a1 o_a2 o_a3 o_hasImage o_place o_rowAt o_rowEnd o_a8 o_a9 o_seed o_a11 o_a12 o_a13 o_a14 o_a15 o_a16 o_thrown, ai E o_a0 42 o_s, ai E o_a1 42 w_o_m, ai E o_a2 42 o_image, ai E o_a3 42 o_was, ai E o_a8 3 o_numbers, ai E o_a9 8192 o_most, ai E o_a11 8 o_kept, ai E o_a12 8 o_keptKind, ai E o_a13 8 o_keptFigure, ai E o_a14 8 o_sort, ai E o_a15 8 o_size, ai E o_a16 800 o_element] (some (.int res)) := by
  refine Wr.intro RX10 (by decide) rfl (Nat.le_of_ble_eq_true rfl) ?_
  intro p e s m below meth c ls A hC hr hlk hmn hP hD hS hA hG hl
  obtain ⟨hx, hb, hml, hown, ht⟩ := id hC
  have hK := hG.1
  have hl : lv_has ls 5 [(0, .ref o_h), (1, .int p1)] := hl
  rw [f_X10_judge] at hv
  refine lv_aload_n hx hb dX10_judge_0 rfl (lv_at hl 0 rfl) ?_
  refine lv_iload_n hx hb dX10_judge_1 rfl (lv_at hl 1 rfl) ?_
  refine lv_iconst (v := (-1 : Int32)) hx hb dX10_judge_2 (by decide) ?_
  obtain ⟨r1, h2, hv⟩ := ob_s hv
  refine rdV 4 0 (As := [.int p1, .int (-1 : Int32)]) (rest := []) (st1 := [.int r1]) (w := [oMo o_h o_a0 o_a1 o_a2 o_a3 o_hasImage o_place o_rowAt o_rowEnd o_a8 o_a9 o_seed o_a11 o_a12 o_a13 o_a14 o_a15 o_a16 o_thrown, ai E o_a0 42 o_s, ai E o_a1 42 o_m, ai E o_a2 42 o_image, ai E o_a3 42 o_was, ai E o_a8 3 o_numbers, ai E o_a9 8192 o_most, ai E o_a11 8 o_kept, ai E o_a12 8 o_keptKind, ai E o_a13 8 o_keptFigure, ai E o_a14 8 o_sort, ai E o_a15 8 o_size, ai E o_a16 800 o_element]) hC q_X10_wrongRow kw_4_193 (c_X10_wrongRow l E o_h o_a0 o_a1 o_a2 o_a3 o_a8 o_a9 o_a11 o_a12 o_a13 o_a14 o_a15 o_a16 o_s o_m o_image o_was o_hasImage o_place o_rowAt o_rowEnd o_numbers o_most o_seed o_kept o_keptKind o_keptFigure o_sort o_size o_element o_thrown p1 (-1 : Int32) r1 h2) ⟨rfl, rfl⟩ ⟨Nat.le_of_ble_eq_true rfl, Nat.le_of_ble_eq_true rfl⟩ ⟨Nat.zero_le _, Nat.zero_le _⟩ hP rfl rfl rfl hG rfl hl.1 rfl (Nat.le_of_ble_eq_true rfl) dX10_judge_3 rfl ?_
  refine lv_istore_n (lv' := [(2, .int r1), (0, .ref o_h), (1, .int p1)]) hx hb dX10_judge_6 rfl hl (by decide) rfl (fun ls hl => ?_)
  refine lv_iload_n hx hb dX10_judge_7 rfl (lv_at hl 0 rfl) ?_
  refine lv_if_eq (tgt := 13) hx hb dX10_judge_8 (by decide) (fun c3 => ?_) (fun c3 => ?_)
  · have hv := if_y c3 hv
    refine lv_aload_n hx hb dX10_judge_13 rfl (lv_at hl 1 rfl) ?_
    refine va_get (D := E.1) (ci := 4) (v := .ref o_a0) (C := RX10) (T := TX10) (N := 18) hx hb ht i_X10 hown hK hP 0 rfl rfl 0 (by decide) (ht _ kw_4_134) (fun _ h9 => h9) rfl dX10_judge_14 ?_
    refine lv_aload_n hx hb dX10_judge_17 rfl (lv_at hl 1 rfl) ?_
    refine va_get (D := E.1) (ci := 4) (v := .ref o_a1) (C := RX10) (T := TX10) (N := 18) hx hb ht i_X10 hown hK hP 0 rfl rfl 1 (by decide) (ht _ kw_4_135) (fun _ h9 => h9) rfl dX10_judge_18 ?_
    obtain ⟨y4, h5, hv⟩ := ob_s hv
    refine wrS (as := [o_h, o_a0, o_a1, o_a2, o_a3, o_a8, o_a9, o_a11, o_a12, o_a13, o_a14, o_a15, o_a16]) (wr := [oMo o_h o_a0 o_a1 o_a2 o_a3 o_hasImage o_place o_rowAt o_rowEnd o_a8 o_a9 o_seed o_a11 o_a12 o_a13 o_a14 o_a15 o_a16 o_thrown, ai E o_a2 42 o_image, ai E o_a3 42 o_was, ai E o_a8 3 o_numbers, ai E o_a9 8192 o_most, ai E o_a11 8 o_kept, ai E o_a12 8 o_keptKind, ai E o_a13 8 o_keptFigure, ai E o_a14 8 o_sort, ai E o_a15 8 o_size, ai E o_a16 800 o_element]) [1, 2] [0, 3, 4, 5, 6, 7, 8, 9, 10, 11, 12] (ws := [oMo o_h o_a0 o_a1 o_a2 o_a3 o_hasImage o_place o_rowAt o_rowEnd o_a8 o_a9 o_seed o_a11 o_a12 o_a13 o_a14 o_a15 o_a16 o_thrown, ai E o_a0 42 o_s, ai E o_a1 42 o_m, ai E o_a2 42 o_image, ai E o_a3 42 o_was, ai E o_a8 3 o_numbers, ai E o_a9 8192 o_most, ai E o_a11 8 o_kept, ai E o_a12 8 o_keptKind, ai E o_a13 8 o_keptFigure, ai E o_a14 8 o_sort, ai E o_a15 8 o_size, ai E o_a16 800 o_element]) (ws' := [oMo o_h o_a0 o_a1 o_a2 o_a3 o_hasImage o_place o_rowAt o_rowEnd o_a8 o_a9 o_seed o_a11 o_a12 o_a13 o_a14 o_a15 o_a16 o_thrown, ai E o_a0 42 o_s, ai E o_a1 42 y4, ai E o_a2 42 o_image, ai E o_a3 42 o_was, ai E o_a8 3 o_numbers, ai E o_a9 8192 o_most, ai E o_a11 8 o_kept, ai E o_a12 8 o_keptKind, ai E o_a13 8 o_keptFigure, ai E o_a14 8 o_sort, ai E o_a15 8 o_size, ai E o_a16 800 o_element]) (rest := []) (st1 := []) hC q_X10_copies kw_4_215 (c_X10_copies l E o_a0 o_a1 o_s o_m N y4 h5) ⟨rfl, rfl⟩ ⟨Nat.le_of_ble_eq_true rfl, Nat.le_of_ble_eq_true rfl⟩ ⟨Nat.zero_le _, Nat.zero_le _⟩ hP hD hS hA hG (by decide) rfl rfl rfl rfl rfl rfl rfl rfl hl.1 rfl (Nat.le_of_ble_eq_true rfl) dX10_judge_21 rfl (fun H locs hP hD hS => ?_)
    refine lv_iconst (v := (0 : Int32)) hx hb dX10_judge_24 (by decide) ?_
    refine lv_istore_n (lv' := [(3, .int (0 : Int32)), (2, .int r1), (0, .ref o_h), (1, .int p1)]) hx hb dX10_judge_25 rfl hl (by decide) rfl (fun ls hl => ?_)
    have hL26 : ∀ (n : Nat) (x6 : Int32) (y7 : Nat → Int32) (H : Heap) (locs : List Loc) (ls : Array Slot), va_P E.1 vwCl [oMo o_h o_a0 o_a1 o_a2 o_a3 o_hasImage o_place o_rowAt o_rowEnd o_a8 o_a9 o_seed o_a11 o_a12 o_a13 o_a14 o_a15 o_a16 o_thrown, ai E o_a0 42 o_s, ai E o_a1 42 y7, ai E o_a2 42 o_image, ai E o_a3 42 o_was, ai E o_a8 3 o_numbers, ai E o_a9 8192 o_most, ai E o_a11 8 o_kept, ai E o_a12 8 o_keptKind, ai E o_a13 8 o_keptFigure, ai E o_a14 8 o_sort, ai E o_a15 8 o_size, ai E o_a16 800 o_element] H → va_D A [oMo o_h o_a0 o_a1 o_a2 o_a3 o_hasImage o_place o_rowAt o_rowEnd o_a8 o_a9 o_seed o_a11 o_a12 o_a13 o_a14 o_a15 o_a16 o_thrown, ai E o_a0 42 o_s, ai E o_a1 42 y7, ai E o_a2 42 o_image, ai E o_a3 42 o_was, ai E o_a8 3 o_numbers, ai E o_a9 8192 o_most, ai E o_a11 8 o_kept, ai E o_a12 8 o_keptKind, ai E o_a13 8 o_keptFigure, ai E o_a14 8 o_sort, ai E o_a15 8 o_size, ai E o_a16 800 o_element] → va_S A s.heap H locs → lv_has ls 5 [(3, .int x6), (0, .ref o_h), (1, .int p1)] → L_X10_judge_26 N o_sort o_size o_element p1 n x6 y7 = some (res, w_o_m) → W p l e ({ frames := 6, cells := 0, slots := 0, locals := 128 }) s m [.ref o_h, .int p1].toArray below meth c H locs 0 0 (MQ below (fun _ st oc t => oc = .returned (some (.int res)) ∧ va_P E.1 vwCl [oMo o_h o_a0 o_a1 o_a2 o_a3 o_hasImage o_place o_rowAt o_rowEnd o_a8 o_a9 o_seed o_a11 o_a12 o_a13 o_a14 o_a15 o_a16 o_thrown, ai E o_a0 42 o_s, ai E o_a1 42 w_o_m, ai E o_a2 42 o_image, ai E o_a3 42 o_was, ai E o_a8 3 o_numbers, ai E o_a9 8192 o_most, ai E o_a11 8 o_kept, ai E o_a12 8 o_keptKind, ai E o_a13 8 o_keptFigure, ai E o_a14 8 o_sort, ai E o_a15 8 o_size, ai E o_a16 800 o_element] t.heap ∧ va_F A st t) [.ref o_h, .int p1].toArray s 0 0 A) (F0 m 26 ls []) := by
      intro n
      induction n with
      | zero => intro x6 y7 H locs ls hP hD hS hl hv; cases hv
      | succ n26 ih26 =>
        intro x6 y7 H locs ls hP hD hS hl hv
        rw [L_X10_judge_26] at hv
        refine lv_iload_n hx hb dX10_judge_26 rfl (lv_at hl 0 rfl) ?_
        refine lv_aload_n hx hb dX10_judge_27 rfl (lv_at hl 1 rfl) ?_
        refine va_get (D := E.1) (ci := 4) (v := .ref o_a15) (C := RX10) (T := TX10) (N := 18) hx hb ht i_X10 hown hK hP 0 rfl rfl 15 (by decide) (ht _ kw_4_149) (fun _ h9 => h9) rfl dX10_judge_28 ?_
        refine lv_iload_n hx hb dX10_judge_31 rfl (lv_at hl 2 rfl) ?_
        obtain ⟨g8, hv⟩ := gd_s hv
        refine va_iald hx hb hK hP 11 0 rfl rfl (ix_s g8) dX10_judge_32 ?_
        refine lv_icmp_ge (tgt := 98) hx hb dX10_judge_33 (by decide) (fun c9 => ?_) (fun c9 => ?_)
        · have hv := if_y c9 hv
          refine lv_bipush (v := (-4 : Int32)) hx hb dX10_judge_98 (by decide) ?_
          refine lv_topi (fun z10 ez10 => ?_)
          have hv := nm_s ez10 hv
          cases hv
          exact W.iret hx hb hr (fun t h9 _ => ⟨rfl, by rw [h9]; exact hP, hS.F h9⟩) hS.2.2 dX10_judge_100 hlk
        · have hv := if_n c9 hv
          refine lv_aload_n hx hb dX10_judge_36 rfl (lv_at hl 1 rfl) ?_
          refine va_get (D := E.1) (ci := 4) (v := .ref o_a16) (C := RX10) (T := TX10) (N := 18) hx hb ht i_X10 hown hK hP 0 rfl rfl 16 (by decide) (ht _ kw_4_150) (fun _ h9 => h9) rfl dX10_judge_37 ?_
          refine lv_bipush (v := (100 : Int32)) hx hb dX10_judge_40 (by decide) ?_
          refine lv_iload_n hx hb dX10_judge_42 rfl (lv_at hl 2 rfl) ?_
          refine lv_imul hx hb dX10_judge_43 ?_
          refine lv_iload_n hx hb dX10_judge_44 rfl (lv_at hl 0 rfl) ?_
          refine lv_iadd hx hb dX10_judge_45 ?_
          obtain ⟨g11, hv⟩ := gd_s hv
          refine va_iald hx hb hK hP 12 0 rfl rfl (ix_s g11) dX10_judge_46 ?_
          refine lv_topi (fun z12 ez12 => ?_)
          have hv := nm_s ez12 hv
          refine lv_istore (lv' := [(4, .int z12), (3, .int x6), (0, .ref o_h), (1, .int p1)]) hx hb dX10_judge_47 hl (by decide) rfl (fun ls hl => ?_)
          refine lv_iload hx hb dX10_judge_49 (lv_at hl 0 rfl) ?_
          refine lv_aload_n hx hb dX10_judge_51 rfl (lv_at hl 2 rfl) ?_
          refine va_get (D := E.1) (ci := 4) (v := .ref o_a14) (C := RX10) (T := TX10) (N := 18) hx hb ht i_X10 hown hK hP 0 rfl rfl 14 (by decide) (ht _ kw_4_148) (fun _ h9 => h9) rfl dX10_judge_52 ?_
          refine lv_iload_n hx hb dX10_judge_55 rfl (lv_at hl 3 rfl) ?_
          obtain ⟨g13, hv⟩ := gd_s hv
          refine va_iald hx hb hK hP 10 0 rfl rfl (ix_s g13) dX10_judge_56 ?_
          obtain ⟨r14, h15, hv⟩ := ob_s hv
          refine rdS (rest := [.int z12]) (st1 := [.int r14, .int z12]) (w := []) hC q_X10_leastOf kw_6_13 (c_X10_leastOf l E (o_sort p1.toNatClampNeg) r14 h15) ⟨rfl, rfl⟩ ⟨Nat.le_of_ble_eq_true rfl, Nat.le_of_ble_eq_true rfl⟩ ⟨Nat.zero_le _, Nat.zero_le _⟩ (hP.sub (ws' := []) [] rfl) hG rfl hl.1 rfl (Nat.le_of_ble_eq_true rfl) dX10_judge_57 rfl ?_
          refine lv_icmp_eq (tgt := 85) hx hb dX10_judge_60 (by decide) (fun c16 => ?_) (fun c16 => ?_)
          · have hv := if_y c16 hv
            refine lv_aload_n hx hb dX10_judge_85 rfl (lv_at hl 2 rfl) ?_
            refine va_get (D := E.1) (ci := 4) (v := .ref o_a1) (C := RX10) (T := TX10) (N := 18) hx hb ht i_X10 hown hK hP 0 rfl rfl 1 (by decide) (ht _ kw_4_135) (fun _ h9 => h9) rfl dX10_judge_86 ?_
            obtain ⟨y17, h18, hv⟩ := ob_s hv
            refine wrS (as := [o_h, o_a0, o_a1, o_a2, o_a3, o_a8, o_a9, o_a11, o_a12, o_a13, o_a14, o_a15, o_a16]) (wr := [oMo o_h o_a0 o_a1 o_a2 o_a3 o_hasImage o_place o_rowAt o_rowEnd o_a8 o_a9 o_seed o_a11 o_a12 o_a13 o_a14 o_a15 o_a16 o_thrown, ai E o_a0 42 o_s, ai E o_a2 42 o_image, ai E o_a3 42 o_was, ai E o_a8 3 o_numbers, ai E o_a9 8192 o_most, ai E o_a11 8 o_kept, ai E o_a12 8 o_keptKind, ai E o_a13 8 o_keptFigure, ai E o_a14 8 o_sort, ai E o_a15 8 o_size, ai E o_a16 800 o_element]) [2] [0, 1, 3, 4, 5, 6, 7, 8, 9, 10, 11, 12] (ws := [oMo o_h o_a0 o_a1 o_a2 o_a3 o_hasImage o_place o_rowAt o_rowEnd o_a8 o_a9 o_seed o_a11 o_a12 o_a13 o_a14 o_a15 o_a16 o_thrown, ai E o_a0 42 o_s, ai E o_a1 42 y7, ai E o_a2 42 o_image, ai E o_a3 42 o_was, ai E o_a8 3 o_numbers, ai E o_a9 8192 o_most, ai E o_a11 8 o_kept, ai E o_a12 8 o_keptKind, ai E o_a13 8 o_keptFigure, ai E o_a14 8 o_sort, ai E o_a15 8 o_size, ai E o_a16 800 o_element]) (ws' := [oMo o_h o_a0 o_a1 o_a2 o_a3 o_hasImage o_place o_rowAt o_rowEnd o_a8 o_a9 o_seed o_a11 o_a12 o_a13 o_a14 o_a15 o_a16 o_thrown, ai E o_a0 42 o_s, ai E o_a1 42 y17, ai E o_a2 42 o_image, ai E o_a3 42 o_was, ai E o_a8 3 o_numbers, ai E o_a9 8192 o_most, ai E o_a11 8 o_kept, ai E o_a12 8 o_keptKind, ai E o_a13 8 o_keptFigure, ai E o_a14 8 o_sort, ai E o_a15 8 o_size, ai E o_a16 800 o_element]) (rest := []) (st1 := []) hC q_X10_day kw_4_236 (c_X10_day l E o_a1 y7 N y17 h18) ⟨rfl, rfl⟩ ⟨Nat.le_of_ble_eq_true rfl, Nat.le_of_ble_eq_true rfl⟩ ⟨Nat.zero_le _, Nat.zero_le _⟩ hP hD hS hA hG (by decide) rfl rfl rfl rfl rfl rfl rfl rfl hl.1 rfl (Nat.le_of_ble_eq_true rfl) dX10_judge_89 rfl (fun H locs hP hD hS => ?_)
            refine lv_iinc (v := (x6 + (1 : Int32))) (lv' := [(3, .int (x6 + (1 : Int32))), (4, .int z12), (0, .ref o_h), (1, .int p1)]) hx hb dX10_judge_92 hl (k := 1) rfl rfl (by decide) rfl (fun ls hl => ?_)
            refine lv_goto (tgt := 26) hx hb dX10_judge_95 (by decide) ?_
            exact ih26 (x6 + (1 : Int32)) y17 _ _ _ hP hD hS (lv_sub hl [0, 2, 3] rfl) hv
          · have hv := if_n c16 hv
            refine lv_iload hx hb dX10_judge_63 (lv_at hl 0 rfl) ?_
            refine lv_aload_n hx hb dX10_judge_65 rfl (lv_at hl 2 rfl) ?_
            refine va_get (D := E.1) (ci := 4) (v := .ref o_a1) (C := RX10) (T := TX10) (N := 18) hx hb ht i_X10 hown hK hP 0 rfl rfl 1 (by decide) (ht _ kw_4_135) (fun _ h9 => h9) rfl dX10_judge_66 ?_
            obtain ⟨r19, h20, hv⟩ := ob_s hv
            refine rdS (rest := [.int z12]) (st1 := [.int r19, .int z12]) (w := [ai E o_a1 42 y7]) hC q_X10_doesCarry kw_5_70 (c_X10_doesCarry l E o_a1 y7 N r19 h20) ⟨rfl, rfl⟩ ⟨Nat.le_of_ble_eq_true rfl, Nat.le_of_ble_eq_true rfl⟩ ⟨Nat.zero_le _, Nat.zero_le _⟩ (hP.sub (ws' := [ai E o_a1 42 y7]) [2] rfl) hG rfl hl.1 rfl (Nat.le_of_ble_eq_true rfl) dX10_judge_69 rfl ?_
            refine lv_if_eq (tgt := 79) hx hb dX10_judge_72 (by decide) (fun c21 => ?_) (fun c21 => ?_)
            · have hv := if_y c21 hv
              refine lv_iconst (v := (0 : Int32)) hx hb dX10_judge_79 (by decide) ?_
              refine lv_icmp_eq (tgt := 85) hx hb dX10_judge_80 (by decide) (fun c22 => ?_) (fun c22 => ?_)
              · have hv := if_y c22 hv
                refine lv_aload_n hx hb dX10_judge_85 rfl (lv_at hl 2 rfl) ?_
                refine va_get (D := E.1) (ci := 4) (v := .ref o_a1) (C := RX10) (T := TX10) (N := 18) hx hb ht i_X10 hown hK hP 0 rfl rfl 1 (by decide) (ht _ kw_4_135) (fun _ h9 => h9) rfl dX10_judge_86 ?_
                obtain ⟨y23, h24, hv⟩ := ob_s hv
                refine wrS (as := [o_h, o_a0, o_a1, o_a2, o_a3, o_a8, o_a9, o_a11, o_a12, o_a13, o_a14, o_a15, o_a16]) (wr := [oMo o_h o_a0 o_a1 o_a2 o_a3 o_hasImage o_place o_rowAt o_rowEnd o_a8 o_a9 o_seed o_a11 o_a12 o_a13 o_a14 o_a15 o_a16 o_thrown, ai E o_a0 42 o_s, ai E o_a2 42 o_image, ai E o_a3 42 o_was, ai E o_a8 3 o_numbers, ai E o_a9 8192 o_most, ai E o_a11 8 o_kept, ai E o_a12 8 o_keptKind, ai E o_a13 8 o_keptFigure, ai E o_a14 8 o_sort, ai E o_a15 8 o_size, ai E o_a16 800 o_element]) [2] [0, 1, 3, 4, 5, 6, 7, 8, 9, 10, 11, 12] (ws := [oMo o_h o_a0 o_a1 o_a2 o_a3 o_hasImage o_place o_rowAt o_rowEnd o_a8 o_a9 o_seed o_a11 o_a12 o_a13 o_a14 o_a15 o_a16 o_thrown, ai E o_a0 42 o_s, ai E o_a1 42 y7, ai E o_a2 42 o_image, ai E o_a3 42 o_was, ai E o_a8 3 o_numbers, ai E o_a9 8192 o_most, ai E o_a11 8 o_kept, ai E o_a12 8 o_keptKind, ai E o_a13 8 o_keptFigure, ai E o_a14 8 o_sort, ai E o_a15 8 o_size, ai E o_a16 800 o_element]) (ws' := [oMo o_h o_a0 o_a1 o_a2 o_a3 o_hasImage o_place o_rowAt o_rowEnd o_a8 o_a9 o_seed o_a11 o_a12 o_a13 o_a14 o_a15 o_a16 o_thrown, ai E o_a0 42 o_s, ai E o_a1 42 y23, ai E o_a2 42 o_image, ai E o_a3 42 o_was, ai E o_a8 3 o_numbers, ai E o_a9 8192 o_most, ai E o_a11 8 o_kept, ai E o_a12 8 o_keptKind, ai E o_a13 8 o_keptFigure, ai E o_a14 8 o_sort, ai E o_a15 8 o_size, ai E o_a16 800 o_element]) (rest := []) (st1 := []) hC q_X10_day kw_4_236 (c_X10_day l E o_a1 y7 N y23 h24) ⟨rfl, rfl⟩ ⟨Nat.le_of_ble_eq_true rfl, Nat.le_of_ble_eq_true rfl⟩ ⟨Nat.zero_le _, Nat.zero_le _⟩ hP hD hS hA hG (by decide) rfl rfl rfl rfl rfl rfl rfl rfl hl.1 rfl (Nat.le_of_ble_eq_true rfl) dX10_judge_89 rfl (fun H locs hP hD hS => ?_)
                refine lv_iinc (v := (x6 + (1 : Int32))) (lv' := [(3, .int (x6 + (1 : Int32))), (4, .int z12), (0, .ref o_h), (1, .int p1)]) hx hb dX10_judge_92 hl (k := 1) rfl rfl (by decide) rfl (fun ls hl => ?_)
                refine lv_goto (tgt := 26) hx hb dX10_judge_95 (by decide) ?_
                exact ih26 (x6 + (1 : Int32)) y23 _ _ _ hP hD hS (lv_sub hl [0, 2, 3] rfl) hv
              · have hv := if_n c22 hv
                refine lv_iload_n hx hb dX10_judge_83 rfl (lv_at hl 1 rfl) ?_
                cases hv
                exact W.iret hx hb hr (fun t h9 _ => ⟨rfl, by rw [h9]; exact hP, hS.F h9⟩) hS.2.2 dX10_judge_84 hlk
            · have hv := if_n c21 hv
              refine lv_iconst (v := (1 : Int32)) hx hb dX10_judge_75 (by decide) ?_
              refine lv_goto (tgt := 80) hx hb dX10_judge_76 (by decide) ?_
              refine lv_icmp_eq (tgt := 85) hx hb dX10_judge_80 (by decide) (fun c25 => ?_) (fun c25 => ?_)
              · have hv := if_y c25 hv
                refine lv_aload_n hx hb dX10_judge_85 rfl (lv_at hl 2 rfl) ?_
                refine va_get (D := E.1) (ci := 4) (v := .ref o_a1) (C := RX10) (T := TX10) (N := 18) hx hb ht i_X10 hown hK hP 0 rfl rfl 1 (by decide) (ht _ kw_4_135) (fun _ h9 => h9) rfl dX10_judge_86 ?_
                obtain ⟨y26, h27, hv⟩ := ob_s hv
                refine wrS (as := [o_h, o_a0, o_a1, o_a2, o_a3, o_a8, o_a9, o_a11, o_a12, o_a13, o_a14, o_a15, o_a16]) (wr := [oMo o_h o_a0 o_a1 o_a2 o_a3 o_hasImage o_place o_rowAt o_rowEnd o_a8 o_a9 o_seed o_a11 o_a12 o_a13 o_a14 o_a15 o_a16 o_thrown, ai E o_a0 42 o_s, ai E o_a2 42 o_image, ai E o_a3 42 o_was, ai E o_a8 3 o_numbers, ai E o_a9 8192 o_most, ai E o_a11 8 o_kept, ai E o_a12 8 o_keptKind, ai E o_a13 8 o_keptFigure, ai E o_a14 8 o_sort, ai E o_a15 8 o_size, ai E o_a16 800 o_element]) [2] [0, 1, 3, 4, 5, 6, 7, 8, 9, 10, 11, 12] (ws := [oMo o_h o_a0 o_a1 o_a2 o_a3 o_hasImage o_place o_rowAt o_rowEnd o_a8 o_a9 o_seed o_a11 o_a12 o_a13 o_a14 o_a15 o_a16 o_thrown, ai E o_a0 42 o_s, ai E o_a1 42 y7, ai E o_a2 42 o_image, ai E o_a3 42 o_was, ai E o_a8 3 o_numbers, ai E o_a9 8192 o_most, ai E o_a11 8 o_kept, ai E o_a12 8 o_keptKind, ai E o_a13 8 o_keptFigure, ai E o_a14 8 o_sort, ai E o_a15 8 o_size, ai E o_a16 800 o_element]) (ws' := [oMo o_h o_a0 o_a1 o_a2 o_a3 o_hasImage o_place o_rowAt o_rowEnd o_a8 o_a9 o_seed o_a11 o_a12 o_a13 o_a14 o_a15 o_a16 o_thrown, ai E o_a0 42 o_s, ai E o_a1 42 y26, ai E o_a2 42 o_image, ai E o_a3 42 o_was, ai E o_a8 3 o_numbers, ai E o_a9 8192 o_most, ai E o_a11 8 o_kept, ai E o_a12 8 o_keptKind, ai E o_a13 8 o_keptFigure, ai E o_a14 8 o_sort, ai E o_a15 8 o_size, ai E o_a16 800 o_element]) (rest := []) (st1 := []) hC q_X10_day kw_4_236 (c_X10_day l E o_a1 y7 N y26 h27) ⟨rfl, rfl⟩ ⟨Nat.le_of_ble_eq_true rfl, Nat.le_of_ble_eq_true rfl⟩ ⟨Nat.zero_le _, Nat.zero_le _⟩ hP hD hS hA hG (by decide) rfl rfl rfl rfl rfl rfl rfl rfl hl.1 rfl (Nat.le_of_ble_eq_true rfl) dX10_judge_89 rfl (fun H locs hP hD hS => ?_)
                refine lv_iinc (v := (x6 + (1 : Int32))) (lv' := [(3, .int (x6 + (1 : Int32))), (4, .int z12), (0, .ref o_h), (1, .int p1)]) hx hb dX10_judge_92 hl (k := 1) rfl rfl (by decide) rfl (fun ls hl => ?_)
                refine lv_goto (tgt := 26) hx hb dX10_judge_95 (by decide) ?_
                exact ih26 (x6 + (1 : Int32)) y26 _ _ _ hP hD hS (lv_sub hl [0, 2, 3] rfl) hv
              · have hv := if_n c25 hv
                refine lv_iload_n hx hb dX10_judge_83 rfl (lv_at hl 1 rfl) ?_
                cases hv
                exact W.iret hx hb hr (fun t h9 _ => ⟨rfl, by rw [h9]; exact hP, hS.F h9⟩) hS.2.2 dX10_judge_84 hlk
    exact hL26 N (0 : Int32) y4 _ _ _ hP hD hS (lv_sub hl [0, 2, 3] rfl) hv
  · have hv := if_n c3 hv
    refine lv_iload_n hx hb dX10_judge_11 rfl (lv_at hl 0 rfl) ?_
    cases hv
    exact W.iret hx hb hr (fun t h9 _ => ⟨rfl, by rw [h9]; exact hP, hS.F h9⟩) hS.2.2 dX10_judge_12 hlk
theorem dX10_drawn_0 : decode cX10_drawn 0 = .ok (.aload_n 0, 1) := by decide +kernel
theorem dX10_drawn_1 : decode cX10_drawn 1 = .ok (.aload_n 0, 1) := by decide +kernel
theorem dX10_drawn_2 : decode cX10_drawn 2 = .ok (.getfield 247, 3) := by decide +kernel
theorem dX10_drawn_5 : decode cX10_drawn 5 = .ok (.ldc 250, 2) := by decide +kernel
theorem dX10_drawn_7 : decode cX10_drawn 7 = .ok (.imul, 1) := by decide +kernel
theorem dX10_drawn_8 : decode cX10_drawn 8 = .ok (.sipush 12345, 3) := by decide +kernel
theorem dX10_drawn_11 : decode cX10_drawn 11 = .ok (.iadd, 1) := by decide +kernel
theorem dX10_drawn_12 : decode cX10_drawn 12 = .ok (.putfield 247, 3) := by decide +kernel
theorem dX10_drawn_15 : decode cX10_drawn 15 = .ok (.aload_n 0, 1) := by decide +kernel
theorem dX10_drawn_16 : decode cX10_drawn 16 = .ok (.getfield 247, 3) := by decide +kernel
theorem dX10_drawn_19 : decode cX10_drawn 19 = .ok (.ldc 251, 2) := by decide +kernel
theorem dX10_drawn_21 : decode cX10_drawn 21 = .ok (.iand, 1) := by decide +kernel
theorem dX10_drawn_22 : decode cX10_drawn 22 = .ok (.ldc 252, 2) := by decide +kernel
theorem dX10_drawn_24 : decode cX10_drawn 24 = .ok (.idiv, 1) := by decide +kernel
theorem dX10_drawn_25 : decode cX10_drawn 25 = .ok (.iload_n 1, 1) := by decide +kernel
theorem dX10_drawn_26 : decode cX10_drawn 26 = .ok (.irem, 1) := by decide +kernel
theorem dX10_drawn_27 : decode cX10_drawn 27 = .ok (.ireturn, 1) := by decide +kernel
def f_X10_drawn (o_seed : Int32) (p1 : Int32) : Option (Int32 × Int32) := nm ((o_seed * (1103515245 : Int32)) + (12345 : Int32)) (fun z1 => gd (nz p1) (nm (((z1 &&& (2147483647 : Int32)) / (65536 : Int32)) - ((z1 &&& (2147483647 : Int32)) / (65536 : Int32)) / p1 * p1) (fun z3 => some (z3, z1))))
set_option maxHeartbeats 4000000 in
set_option maxRecDepth 100000 in
theorem c_X10_drawn (l : Launch) (E : EE) (o_h : Nat) (o_a0 : Nat) (o_a1 : Nat) (o_a2 : Nat) (o_a3 : Nat) (o_a8 : Nat) (o_a9 : Nat) (o_a11 : Nat) (o_a12 : Nat) (o_a13 : Nat) (o_a14 : Nat) (o_a15 : Nat) (o_a16 : Nat) (o_s : Nat → Int32) (o_m : Nat → Int32) (o_image : Nat → Int32) (o_was : Nat → Int32) (o_hasImage : Int32) (o_place : Int32) (o_rowAt : Int32) (o_rowEnd : Int32) (o_numbers : Nat → Int32) (o_most : Nat → Int32) (o_seed : Int32) (o_kept : Nat → Int32) (o_keptKind : Nat → Int32) (o_keptFigure : Nat → Int32) (o_sort : Nat → Int32) (o_size : Nat → Int32) (o_element : Nat → Int32) (o_thrown : Int32) (p1 : Int32) (res : Int32) (w_o_seed : Int32) (hv : f_X10_drawn o_seed p1 = some (res, w_o_seed)) : Wr l E yX10_drawn cX10_drawn 2 (some .int) ({ frames := 0, cells := 0, slots := 0, locals := 0 }) [.ref o_h, .int p1] [oMo o_h o_a0 o_a1 o_a2 o_a3 o_hasImage o_place o_rowAt o_rowEnd o_a8 o_a9 o_seed o_a11 o_a12 o_a13 o_a14 o_a15 o_a16 o_thrown, ai E o_a0 42 o_s, ai E o_a1 42 o_m, ai E o_a2 42 o_image, ai E o_a3 42 o_was, ai E o_a8 3 o_numbers, ai E o_a9 8192 o_most, ai E o_a11 8 o_kept, ai E o_a12 8 o_keptKind, ai E o_a13 8 o_keptFigure, ai E o_a14 8 o_sort, ai E o_a15 8 o_size, ai E o_a16 800 o_element] [oMo o_h o_a0 o_a1 o_a2 o_a3 o_hasImage o_place o_rowAt o_rowEnd o_a8 o_a9 w_o_seed o_a11 o_a12 o_a13 o_a14 o_a15 o_a16 o_thrown, ai E o_a0 42 o_s, ai E o_a1 42 o_m, ai E o_a2 42 o_image, ai E o_a3 42 o_was, ai E o_a8 3 o_numbers, ai E o_a9 8192 o_most, ai E o_a11 8 o_kept, ai E o_a12 8 o_keptKind, ai E o_a13 8 o_keptFigure, ai E o_a14 8 o_sort, ai E o_a15 8 o_size, ai E o_a16 800 o_element] (some (.int res)) := by
  refine Wr.intro RX10 (by decide) rfl (Nat.le_of_ble_eq_true rfl) ?_
  intro p e s m below meth c ls A hC hr hlk hmn hP hD hS hA hG hl
  obtain ⟨hx, hb, hml, hown, ht⟩ := id hC
  have hK := hG.1
  have hl : lv_has ls 2 [(0, .ref o_h), (1, .int p1)] := hl
  rw [f_X10_drawn] at hv
  refine lv_aload_n hx hb dX10_drawn_0 rfl (lv_at hl 0 rfl) ?_
  refine lv_aload_n hx hb dX10_drawn_1 rfl (lv_at hl 0 rfl) ?_
  refine va_get (D := E.1) (ci := 4) (v := .int o_seed) (C := RX10) (T := TX10) (N := 18) hx hb ht i_X10 hown hK hP 0 rfl rfl 10 (by decide) (ht _ kw_4_144) (fun _ h9 => h9) rfl dX10_drawn_2 ?_
  refine lv_ldc (v := (1103515245 : Int32)) hx hb hown (ht _ kw_6_49) dX10_drawn_5 ?_
  refine lv_imul hx hb dX10_drawn_7 ?_
  refine lv_sipush (v := (12345 : Int32)) hx hb dX10_drawn_8 (by decide) ?_
  refine lv_iadd hx hb dX10_drawn_11 ?_
  refine lv_topi (fun z1 ez1 => ?_)
  have hv := nm_s ez1 hv
  refine va_put (D := E.1) (ci := 4) (v := .int z1) (ty := .int) (C := RX10) (T := TX10) (N := 18) hx hb ht i_X10 tyX10 tyX10_ok nmX10 hown hK hP hD hS 0 rfl rfl 10 (by decide) (ht _ kw_4_144) (fun _ h9 => h9) rfl (by decide +kernel) rfl rfl (Nat.le_of_ble_eq_true rfl) dX10_drawn_12 (fun H locs hP hD hS => ?_)
  have hP : va_P E.1 vwCl [oMo o_h o_a0 o_a1 o_a2 o_a3 o_hasImage o_place o_rowAt o_rowEnd o_a8 o_a9 z1 o_a11 o_a12 o_a13 o_a14 o_a15 o_a16 o_thrown, ai E o_a0 42 o_s, ai E o_a1 42 o_m, ai E o_a2 42 o_image, ai E o_a3 42 o_was, ai E o_a8 3 o_numbers, ai E o_a9 8192 o_most, ai E o_a11 8 o_kept, ai E o_a12 8 o_keptKind, ai E o_a13 8 o_keptFigure, ai E o_a14 8 o_sort, ai E o_a15 8 o_size, ai E o_a16 800 o_element] H := hP
  have hD : va_D A [oMo o_h o_a0 o_a1 o_a2 o_a3 o_hasImage o_place o_rowAt o_rowEnd o_a8 o_a9 z1 o_a11 o_a12 o_a13 o_a14 o_a15 o_a16 o_thrown, ai E o_a0 42 o_s, ai E o_a1 42 o_m, ai E o_a2 42 o_image, ai E o_a3 42 o_was, ai E o_a8 3 o_numbers, ai E o_a9 8192 o_most, ai E o_a11 8 o_kept, ai E o_a12 8 o_keptKind, ai E o_a13 8 o_keptFigure, ai E o_a14 8 o_sort, ai E o_a15 8 o_size, ai E o_a16 800 o_element] := hD
  refine lv_aload_n hx hb dX10_drawn_15 rfl (lv_at hl 0 rfl) ?_
  refine va_get (D := E.1) (ci := 4) (v := .int z1) (C := RX10) (T := TX10) (N := 18) hx hb ht i_X10 hown hK hP 0 rfl rfl 10 (by decide) (ht _ kw_4_144) (fun _ h9 => h9) rfl dX10_drawn_16 ?_
  refine lv_ldc (v := (2147483647 : Int32)) hx hb hown (ht _ kw_6_50) dX10_drawn_19 ?_
  refine lv_iand hx hb dX10_drawn_21 ?_
  refine lv_ldc (v := (65536 : Int32)) hx hb hown (ht _ kw_6_51) dX10_drawn_22 ?_
  refine lv_idiv hx hb dX10_drawn_24 (by decide) ?_
  refine lv_iload_n hx hb dX10_drawn_25 rfl (lv_at hl 1 rfl) ?_
  obtain ⟨g2, hv⟩ := gd_s hv
  refine lv_irem hx hb dX10_drawn_26 (nz_s g2) ?_
  refine lv_topi (fun z3 ez3 => ?_)
  have hv := nm_s ez3 hv
  cases hv
  exact W.iret hx hb hr (fun t h9 _ => ⟨rfl, by rw [h9]; exact hP, hS.F h9⟩) hS.2.2 dX10_drawn_27 hlk
theorem dX10_streets_0 : decode cX10_streets 0 = .ok (.iload_n 1, 1) := by decide +kernel
theorem dX10_streets_1 : decode cX10_streets 1 = .ok (.iconst 1, 1) := by decide +kernel
theorem dX10_streets_2 : decode cX10_streets 2 = .ok (.bipush 20, 2) := by decide +kernel
theorem dX10_streets_4 : decode cX10_streets 4 = .ok (.invokestatic 46, 3) := by decide +kernel
theorem dX10_streets_7 : decode cX10_streets 7 = .ok (.ifCond .eq 12, 3) := by decide +kernel
theorem dX10_streets_10 : decode cX10_streets 10 = .ok (.iload_n 3, 1) := by decide +kernel
theorem dX10_streets_11 : decode cX10_streets 11 = .ok (.iconst 0, 1) := by decide +kernel
theorem dX10_streets_12 : decode cX10_streets 12 = .ok (.iconst 1, 1) := by decide +kernel
theorem dX10_streets_13 : decode cX10_streets 13 = .ok (.invokestatic 46, 3) := by decide +kernel
theorem dX10_streets_16 : decode cX10_streets 16 = .ok (.ifCond .ne 5, 3) := by decide +kernel
theorem dX10_streets_19 : decode cX10_streets 19 = .ok (.iconst (-1), 1) := by decide +kernel
theorem dX10_streets_20 : decode cX10_streets 20 = .ok (.ireturn, 1) := by decide +kernel
theorem dX10_streets_21 : decode cX10_streets 21 = .ok (.aload_n 0, 1) := by decide +kernel
theorem dX10_streets_22 : decode cX10_streets 22 = .ok (.iload_n 2, 1) := by decide +kernel
theorem dX10_streets_23 : decode cX10_streets 23 = .ok (.putfield 247, 3) := by decide +kernel
theorem dX10_streets_26 : decode cX10_streets 26 = .ok (.iconst 0, 1) := by decide +kernel
theorem dX10_streets_27 : decode cX10_streets 27 = .ok (.istore 4, 2) := by decide +kernel
theorem dX10_streets_29 : decode cX10_streets 29 = .ok (.iconst 0, 1) := by decide +kernel
theorem dX10_streets_30 : decode cX10_streets 30 = .ok (.istore 5, 2) := by decide +kernel
theorem dX10_streets_32 : decode cX10_streets 32 = .ok (.iload 5, 2) := by decide +kernel
theorem dX10_streets_34 : decode cX10_streets 34 = .ok (.iload_n 1, 1) := by decide +kernel
theorem dX10_streets_35 : decode cX10_streets 35 = .ok (.if_icmp .ge 120, 3) := by decide +kernel
theorem dX10_streets_38 : decode cX10_streets 38 = .ok (.aload_n 0, 1) := by decide +kernel
theorem dX10_streets_39 : decode cX10_streets 39 = .ok (.getfield 9, 3) := by decide +kernel
theorem dX10_streets_42 : decode cX10_streets 42 = .ok (.aload_n 0, 1) := by decide +kernel
theorem dX10_streets_43 : decode cX10_streets 43 = .ok (.getfield 13, 3) := by decide +kernel
theorem dX10_streets_46 : decode cX10_streets 46 = .ok (.invokestatic 148, 3) := by decide +kernel
theorem dX10_streets_49 : decode cX10_streets 49 = .ok (.iconst 0, 1) := by decide +kernel
theorem dX10_streets_50 : decode cX10_streets 50 = .ok (.istore 6, 2) := by decide +kernel
theorem dX10_streets_52 : decode cX10_streets 52 = .ok (.iload 6, 2) := by decide +kernel
theorem dX10_streets_54 : decode cX10_streets 54 = .ok (.aload_n 0, 1) := by decide +kernel
theorem dX10_streets_55 : decode cX10_streets 55 = .ok (.getfield 9, 3) := by decide +kernel
theorem dX10_streets_58 : decode cX10_streets 58 = .ok (.iconst 0, 1) := by decide +kernel
theorem dX10_streets_59 : decode cX10_streets 59 = .ok (.iaload, 1) := by decide +kernel
theorem dX10_streets_60 : decode cX10_streets 60 = .ok (.if_icmp .ge 46, 3) := by decide +kernel
theorem dX10_streets_63 : decode cX10_streets 63 = .ok (.aload_n 0, 1) := by decide +kernel
theorem dX10_streets_64 : decode cX10_streets 64 = .ok (.getfield 13, 3) := by decide +kernel
theorem dX10_streets_67 : decode cX10_streets 67 = .ok (.iload 6, 2) := by decide +kernel
theorem dX10_streets_69 : decode cX10_streets 69 = .ok (.iconst 2, 1) := by decide +kernel
theorem dX10_streets_70 : decode cX10_streets 70 = .ok (.invokestatic 50, 3) := by decide +kernel
theorem dX10_streets_73 : decode cX10_streets 73 = .ok (.aload_n 0, 1) := by decide +kernel
theorem dX10_streets_74 : decode cX10_streets 74 = .ok (.bipush 10, 2) := by decide +kernel
theorem dX10_streets_76 : decode cX10_streets 76 = .ok (.invokevirtual 253, 3) := by decide +kernel
theorem dX10_streets_79 : decode cX10_streets 79 = .ok (.iastore, 1) := by decide +kernel
theorem dX10_streets_80 : decode cX10_streets 80 = .ok (.aload_n 0, 1) := by decide +kernel
theorem dX10_streets_81 : decode cX10_streets 81 = .ok (.getfield 13, 3) := by decide +kernel
theorem dX10_streets_84 : decode cX10_streets 84 = .ok (.iload 6, 2) := by decide +kernel
theorem dX10_streets_86 : decode cX10_streets 86 = .ok (.iconst 3, 1) := by decide +kernel
theorem dX10_streets_87 : decode cX10_streets 87 = .ok (.invokestatic 50, 3) := by decide +kernel
theorem dX10_streets_90 : decode cX10_streets 90 = .ok (.aload_n 0, 1) := by decide +kernel
theorem dX10_streets_91 : decode cX10_streets 91 = .ok (.bipush 19, 2) := by decide +kernel
theorem dX10_streets_93 : decode cX10_streets 93 = .ok (.invokevirtual 253, 3) := by decide +kernel
theorem dX10_streets_96 : decode cX10_streets 96 = .ok (.bipush 9, 2) := by decide +kernel
theorem dX10_streets_98 : decode cX10_streets 98 = .ok (.isub, 1) := by decide +kernel
theorem dX10_streets_99 : decode cX10_streets 99 = .ok (.iastore, 1) := by decide +kernel
theorem dX10_streets_100 : decode cX10_streets 100 = .ok (.iinc 6 1, 3) := by decide +kernel
theorem dX10_streets_103 : decode cX10_streets 103 = .ok (.goto (-51), 3) := by decide +kernel
theorem dX10_streets_106 : decode cX10_streets 106 = .ok (.aload_n 0, 1) := by decide +kernel
theorem dX10_streets_107 : decode cX10_streets 107 = .ok (.getfield 13, 3) := by decide +kernel
theorem dX10_streets_110 : decode cX10_streets 110 = .ok (.iconst 5, 1) := by decide +kernel
theorem dX10_streets_111 : decode cX10_streets 111 = .ok (.invokestatic 138, 3) := by decide +kernel
theorem dX10_streets_114 : decode cX10_streets 114 = .ok (.iload 4, 2) := by decide +kernel
theorem dX10_streets_116 : decode cX10_streets 116 = .ok (.iload_n 3, 1) := by decide +kernel
theorem dX10_streets_117 : decode cX10_streets 117 = .ok (.iconst 1, 1) := by decide +kernel
theorem dX10_streets_118 : decode cX10_streets 118 = .ok (.if_icmp .ne 13, 3) := by decide +kernel
theorem dX10_streets_121 : decode cX10_streets 121 = .ok (.aload_n 0, 1) := by decide +kernel
theorem dX10_streets_122 : decode cX10_streets 122 = .ok (.getfield 13, 3) := by decide +kernel
theorem dX10_streets_125 : decode cX10_streets 125 = .ok (.invokestatic 167, 3) := by decide +kernel
theorem dX10_streets_128 : decode cX10_streets 128 = .ok (.goto 18, 3) := by decide +kernel
theorem dX10_streets_131 : decode cX10_streets 131 = .ok (.aload_n 0, 1) := by decide +kernel
theorem dX10_streets_132 : decode cX10_streets 132 = .ok (.getfield 13, 3) := by decide +kernel
theorem dX10_streets_135 : decode cX10_streets 135 = .ok (.invokestatic 163, 3) := by decide +kernel
theorem dX10_streets_138 : decode cX10_streets 138 = .ok (.ifCond .eq 7, 3) := by decide +kernel
theorem dX10_streets_141 : decode cX10_streets 141 = .ok (.iconst 1, 1) := by decide +kernel
theorem dX10_streets_142 : decode cX10_streets 142 = .ok (.goto 4, 3) := by decide +kernel
theorem dX10_streets_145 : decode cX10_streets 145 = .ok (.iconst 0, 1) := by decide +kernel
theorem dX10_streets_146 : decode cX10_streets 146 = .ok (.iadd, 1) := by decide +kernel
theorem dX10_streets_147 : decode cX10_streets 147 = .ok (.istore 4, 2) := by decide +kernel
theorem dX10_streets_149 : decode cX10_streets 149 = .ok (.iinc 5 1, 3) := by decide +kernel
theorem dX10_streets_152 : decode cX10_streets 152 = .ok (.goto (-120), 3) := by decide +kernel
theorem dX10_streets_155 : decode cX10_streets 155 = .ok (.iload 4, 2) := by decide +kernel
theorem dX10_streets_157 : decode cX10_streets 157 = .ok (.ireturn, 1) := by decide +kernel
def L_X10_streets_52 (o_s : Nat → Int32) (k_52 : Int32 → Int32 → (Nat → Int32) → Option (Int32 × Int32 × (Nat → Int32))) : Nat → Int32 → Int32 → (Nat → Int32) → Option (Int32 × Int32 × (Nat → Int32))
  | 0, _, _, _ => none
  | n52 + 1, x15, y16, y17 => if (o_s 0) ≤ x15 then k_52 x15 y16 y17 else ob (f_X10_of x15 (2 : Int32)) (fun r19 => ob (f_X10_drawn y16 (10 : Int32)) (fun (r21, y22) => gd (ix r19 42) (nm (upd y17 r19.toNatClampNeg r21) (fun f25 => ob (f_X10_of x15 (3 : Int32)) (fun r26 => ob (f_X10_drawn y22 (19 : Int32)) (fun (r28, y29) => gd (ix r26 42) (nm (upd f25 r26.toNatClampNeg (r28 - (9 : Int32))) (fun f32 => L_X10_streets_52 o_s k_52 n52 (x15 + (1 : Int32)) y29 f32))))))))
def L_X10_streets_32 (N : Nat) (o_s : Nat → Int32) (p1 : Int32) (p3 : Int32) : Nat → Int32 → Int32 → Int32 → (Nat → Int32) → Option (Int32 × Int32 × (Nat → Int32))
  | 0, _, _, _, _ => none
  | n32 + 1, x8, x9, y10, y11 => if p1 ≤ x8 then some (x9, y10, y11) else ob (f_X10_copies N o_s y11) (fun y13 => L_X10_streets_52 o_s (fun x33 y34 y35 => ob (f_X10_daysOn N y35 (5 : Int32)) (fun y36 => if p3 = (1 : Int32) then ob (f_X10_forIn N y36) (fun r42 => L_X10_streets_32 N o_s p1 p3 n32 (x8 + (1 : Int32)) (x9 + r42) y34 y36) else ob (f_X10_doesCarry N y36) (fun r39 => if r39 = 0 then L_X10_streets_32 N o_s p1 p3 n32 (x8 + (1 : Int32)) (x9 + (0 : Int32)) y34 y36 else L_X10_streets_32 N o_s p1 p3 n32 (x8 + (1 : Int32)) (x9 + (1 : Int32)) y34 y36))) N (0 : Int32) y10 y13)
def f_X10_streets (N : Nat) (o_s : Nat → Int32) (o_m : Nat → Int32) (o_seed : Int32) (p1 : Int32) (p2 : Int32) (p3 : Int32) : Option (Int32 × Int32 × (Nat → Int32)) := ob (f_X10_isIn p1 (1 : Int32) (20 : Int32)) (fun r1 => if r1 = 0 then nm (-1 : Int32) (fun z4 => some (z4, o_seed, o_m)) else ob (f_X10_isIn p3 (0 : Int32) (1 : Int32)) (fun r5 => if r5 = 0 then nm (-1 : Int32) (fun z44 => some (z44, o_seed, o_m)) else L_X10_streets_32 N o_s p1 p3 N (0 : Int32) (0 : Int32) p2 o_m))
set_option maxHeartbeats 4000000 in
set_option maxRecDepth 100000 in
theorem c_X10_streets (l : Launch) (E : EE) (o_h : Nat) (o_a0 : Nat) (o_a1 : Nat) (o_a2 : Nat) (o_a3 : Nat) (o_a8 : Nat) (o_a9 : Nat) (o_a11 : Nat) (o_a12 : Nat) (o_a13 : Nat) (o_a14 : Nat) (o_a15 : Nat) (o_a16 : Nat) (o_s : Nat → Int32) (o_m : Nat → Int32) (o_image : Nat → Int32) (o_was : Nat → Int32) (o_hasImage : Int32) (o_place : Int32) (o_rowAt : Int32) (o_rowEnd : Int32) (o_numbers : Nat → Int32) (o_most : Nat → Int32) (o_seed : Int32) (o_kept : Nat → Int32) (o_keptKind : Nat → Int32) (o_keptFigure : Nat → Int32) (o_sort : Nat → Int32) (o_size : Nat → Int32) (o_element : Nat → Int32) (o_thrown : Int32) (p1 : Int32) (p2 : Int32) (p3 : Int32) (N : Nat) (res : Int32) (w_o_seed : Int32) (w_o_m : Nat → Int32) (hv : f_X10_streets N o_s o_m o_seed p1 p2 p3 = some (res, w_o_seed, w_o_m)) : Wr l E yX10_streets cX10_streets 7 (some .int) ({ frames := 6, cells := 0, slots := 0, locals := 133 }) [.ref o_h, .int p1, .int p2, .int p3] [oMo o_h o_a0 o_a1 o_a2 o_a3 o_hasImage o_place o_rowAt o_rowEnd o_a8 o_a9 o_seed o_a11 o_a12 o_a13 o_a14 o_a15 o_a16 o_thrown, ai E o_a0 42 o_s, ai E o_a1 42 o_m, ai E o_a2 42 o_image, ai E o_a3 42 o_was, ai E o_a8 3 o_numbers, ai E o_a9 8192 o_most, ai E o_a11 8 o_kept, ai E o_a12 8 o_keptKind, ai E o_a13 8 o_keptFigure, ai E o_a14 8 o_sort, ai E o_a15 8 o_size, ai E o_a16 800 o_element] [oMo o_h o_a0 o_a1 o_a2 o_a3 o_hasImage o_place o_rowAt o_rowEnd o_a8 o_a9 w_o_seed o_a11 o_a12 o_a13 o_a14 o_a15 o_a16 o_thrown, ai E o_a0 42 o_s, ai E o_a1 42 w_o_m, ai E o_a2 42 o_image, ai E o_a3 42 o_was, ai E o_a8 3 o_numbers, ai E o_a9 8192 o_most, ai E o_a11 8 o_kept, ai E o_a12 8 o_keptKind, ai E o_a13 8 o_keptFigure, ai E o_a14 8 o_sort, ai E o_a15 8 o_size, ai E o_a16 800 o_element] (some (.int res)) := by
  refine Wr.intro RX10 (by decide) rfl (Nat.le_of_ble_eq_true rfl) ?_
  intro p e s m below meth c ls A hC hr hlk hmn hP hD hS hA hG hl
  obtain ⟨hx, hb, hml, hown, ht⟩ := id hC
  have hK := hG.1
  have hl : lv_has ls 7 [(0, .ref o_h), (1, .int p1), (2, .int p2), (3, .int p3)] := hl
  rw [f_X10_streets] at hv
  refine lv_iload_n hx hb dX10_streets_0 rfl (lv_at hl 1 rfl) ?_
  refine lv_iconst (v := (1 : Int32)) hx hb dX10_streets_1 (by decide) ?_
  refine lv_bipush (v := (20 : Int32)) hx hb dX10_streets_2 (by decide) ?_
  obtain ⟨r1, h2, hv⟩ := ob_s hv
  refine rdS (rest := []) (st1 := [.int r1]) (w := []) hC q_X10_isIn kw_4_200 (c_X10_isIn l E p1 (1 : Int32) (20 : Int32) r1 h2) ⟨rfl, rfl⟩ ⟨Nat.le_of_ble_eq_true rfl, Nat.le_of_ble_eq_true rfl⟩ ⟨Nat.zero_le _, Nat.zero_le _⟩ (hP.sub (ws' := []) [] rfl) hG rfl hl.1 rfl (Nat.le_of_ble_eq_true rfl) dX10_streets_4 rfl ?_
  refine lv_if_eq (tgt := 19) hx hb dX10_streets_7 (by decide) (fun c3 => ?_) (fun c3 => ?_)
  · have hv := if_y c3 hv
    refine lv_iconst (v := (-1 : Int32)) hx hb dX10_streets_19 (by decide) ?_
    refine lv_topi (fun z4 ez4 => ?_)
    have hv := nm_s ez4 hv
    cases hv
    exact W.iret hx hb hr (fun t h9 _ => ⟨rfl, by rw [h9]; exact hP, hS.F h9⟩) hS.2.2 dX10_streets_20 hlk
  · have hv := if_n c3 hv
    refine lv_iload_n hx hb dX10_streets_10 rfl (lv_at hl 3 rfl) ?_
    refine lv_iconst (v := (0 : Int32)) hx hb dX10_streets_11 (by decide) ?_
    refine lv_iconst (v := (1 : Int32)) hx hb dX10_streets_12 (by decide) ?_
    obtain ⟨r5, h6, hv⟩ := ob_s hv
    refine rdS (rest := []) (st1 := [.int r5]) (w := []) hC q_X10_isIn kw_4_200 (c_X10_isIn l E p3 (0 : Int32) (1 : Int32) r5 h6) ⟨rfl, rfl⟩ ⟨Nat.le_of_ble_eq_true rfl, Nat.le_of_ble_eq_true rfl⟩ ⟨Nat.zero_le _, Nat.zero_le _⟩ (hP.sub (ws' := []) [] rfl) hG rfl hl.1 rfl (Nat.le_of_ble_eq_true rfl) dX10_streets_13 rfl ?_
    refine lv_if_ne (tgt := 21) hx hb dX10_streets_16 (by decide) (fun c7 => ?_) (fun c7 => ?_)
    · have hv := if_n c7 hv
      refine lv_aload_n hx hb dX10_streets_21 rfl (lv_at hl 0 rfl) ?_
      refine lv_iload_n hx hb dX10_streets_22 rfl (lv_at hl 2 rfl) ?_
      refine va_put (D := E.1) (ci := 4) (v := .int p2) (ty := .int) (C := RX10) (T := TX10) (N := 18) hx hb ht i_X10 tyX10 tyX10_ok nmX10 hown hK hP hD hS 0 rfl rfl 10 (by decide) (ht _ kw_4_144) (fun _ h9 => h9) rfl (by decide +kernel) rfl rfl (Nat.le_of_ble_eq_true rfl) dX10_streets_23 (fun H locs hP hD hS => ?_)
      have hP : va_P E.1 vwCl [oMo o_h o_a0 o_a1 o_a2 o_a3 o_hasImage o_place o_rowAt o_rowEnd o_a8 o_a9 p2 o_a11 o_a12 o_a13 o_a14 o_a15 o_a16 o_thrown, ai E o_a0 42 o_s, ai E o_a1 42 o_m, ai E o_a2 42 o_image, ai E o_a3 42 o_was, ai E o_a8 3 o_numbers, ai E o_a9 8192 o_most, ai E o_a11 8 o_kept, ai E o_a12 8 o_keptKind, ai E o_a13 8 o_keptFigure, ai E o_a14 8 o_sort, ai E o_a15 8 o_size, ai E o_a16 800 o_element] H := hP
      have hD : va_D A [oMo o_h o_a0 o_a1 o_a2 o_a3 o_hasImage o_place o_rowAt o_rowEnd o_a8 o_a9 p2 o_a11 o_a12 o_a13 o_a14 o_a15 o_a16 o_thrown, ai E o_a0 42 o_s, ai E o_a1 42 o_m, ai E o_a2 42 o_image, ai E o_a3 42 o_was, ai E o_a8 3 o_numbers, ai E o_a9 8192 o_most, ai E o_a11 8 o_kept, ai E o_a12 8 o_keptKind, ai E o_a13 8 o_keptFigure, ai E o_a14 8 o_sort, ai E o_a15 8 o_size, ai E o_a16 800 o_element] := hD
      refine lv_iconst (v := (0 : Int32)) hx hb dX10_streets_26 (by decide) ?_
      refine lv_istore (lv' := [(4, .int (0 : Int32)), (0, .ref o_h), (1, .int p1), (2, .int p2), (3, .int p3)]) hx hb dX10_streets_27 hl (by decide) rfl (fun ls hl => ?_)
      refine lv_iconst (v := (0 : Int32)) hx hb dX10_streets_29 (by decide) ?_
      refine lv_istore (lv' := [(5, .int (0 : Int32)), (4, .int (0 : Int32)), (0, .ref o_h), (1, .int p1), (2, .int p2), (3, .int p3)]) hx hb dX10_streets_30 hl (by decide) rfl (fun ls hl => ?_)
      have hL32 : ∀ (n : Nat) (x8 : Int32) (x9 : Int32) (y10 : Int32) (y11 : Nat → Int32) (H : Heap) (locs : List Loc) (ls : Array Slot), va_P E.1 vwCl [oMo o_h o_a0 o_a1 o_a2 o_a3 o_hasImage o_place o_rowAt o_rowEnd o_a8 o_a9 y10 o_a11 o_a12 o_a13 o_a14 o_a15 o_a16 o_thrown, ai E o_a0 42 o_s, ai E o_a1 42 y11, ai E o_a2 42 o_image, ai E o_a3 42 o_was, ai E o_a8 3 o_numbers, ai E o_a9 8192 o_most, ai E o_a11 8 o_kept, ai E o_a12 8 o_keptKind, ai E o_a13 8 o_keptFigure, ai E o_a14 8 o_sort, ai E o_a15 8 o_size, ai E o_a16 800 o_element] H → va_D A [oMo o_h o_a0 o_a1 o_a2 o_a3 o_hasImage o_place o_rowAt o_rowEnd o_a8 o_a9 y10 o_a11 o_a12 o_a13 o_a14 o_a15 o_a16 o_thrown, ai E o_a0 42 o_s, ai E o_a1 42 y11, ai E o_a2 42 o_image, ai E o_a3 42 o_was, ai E o_a8 3 o_numbers, ai E o_a9 8192 o_most, ai E o_a11 8 o_kept, ai E o_a12 8 o_keptKind, ai E o_a13 8 o_keptFigure, ai E o_a14 8 o_sort, ai E o_a15 8 o_size, ai E o_a16 800 o_element] → va_S A s.heap H locs → lv_has ls 7 [(5, .int x8), (4, .int x9), (0, .ref o_h), (1, .int p1), (3, .int p3)] → L_X10_streets_32 N o_s p1 p3 n x8 x9 y10 y11 = some (res, w_o_seed, w_o_m) → W p l e ({ frames := 6, cells := 0, slots := 0, locals := 133 }) s m [.ref o_h, .int p1, .int p2, .int p3].toArray below meth c H locs 0 0 (MQ below (fun _ st oc t => oc = .returned (some (.int res)) ∧ va_P E.1 vwCl [oMo o_h o_a0 o_a1 o_a2 o_a3 o_hasImage o_place o_rowAt o_rowEnd o_a8 o_a9 w_o_seed o_a11 o_a12 o_a13 o_a14 o_a15 o_a16 o_thrown, ai E o_a0 42 o_s, ai E o_a1 42 w_o_m, ai E o_a2 42 o_image, ai E o_a3 42 o_was, ai E o_a8 3 o_numbers, ai E o_a9 8192 o_most, ai E o_a11 8 o_kept, ai E o_a12 8 o_keptKind, ai E o_a13 8 o_keptFigure, ai E o_a14 8 o_sort, ai E o_a15 8 o_size, ai E o_a16 800 o_element] t.heap ∧ va_F A st t) [.ref o_h, .int p1, .int p2, .int p3].toArray s 0 0 A) (F0 m 32 ls []) := by
        intro n
        induction n with
        | zero => intro x8 x9 y10 y11 H locs ls hP hD hS hl hv; cases hv
        | succ n32 ih32 =>
          intro x8 x9 y10 y11 H locs ls hP hD hS hl hv
          rw [L_X10_streets_32] at hv
          refine lv_iload hx hb dX10_streets_32 (lv_at hl 0 rfl) ?_
          refine lv_iload_n hx hb dX10_streets_34 rfl (lv_at hl 3 rfl) ?_
          refine lv_icmp_ge (tgt := 155) hx hb dX10_streets_35 (by decide) (fun c12 => ?_) (fun c12 => ?_)
          · have hv := if_y c12 hv
            refine lv_iload hx hb dX10_streets_155 (lv_at hl 1 rfl) ?_
            cases hv
            exact W.iret hx hb hr (fun t h9 _ => ⟨rfl, by rw [h9]; exact hP, hS.F h9⟩) hS.2.2 dX10_streets_157 hlk
          · have hv := if_n c12 hv
            refine lv_aload_n hx hb dX10_streets_38 rfl (lv_at hl 2 rfl) ?_
            refine va_get (D := E.1) (ci := 4) (v := .ref o_a0) (C := RX10) (T := TX10) (N := 18) hx hb ht i_X10 hown hK hP 0 rfl rfl 0 (by decide) (ht _ kw_4_134) (fun _ h9 => h9) rfl dX10_streets_39 ?_
            refine lv_aload_n hx hb dX10_streets_42 rfl (lv_at hl 2 rfl) ?_
            refine va_get (D := E.1) (ci := 4) (v := .ref o_a1) (C := RX10) (T := TX10) (N := 18) hx hb ht i_X10 hown hK hP 0 rfl rfl 1 (by decide) (ht _ kw_4_135) (fun _ h9 => h9) rfl dX10_streets_43 ?_
            obtain ⟨y13, h14, hv⟩ := ob_s hv
            refine wrS (as := [o_h, o_a0, o_a1, o_a2, o_a3, o_a8, o_a9, o_a11, o_a12, o_a13, o_a14, o_a15, o_a16]) (wr := [oMo o_h o_a0 o_a1 o_a2 o_a3 o_hasImage o_place o_rowAt o_rowEnd o_a8 o_a9 y10 o_a11 o_a12 o_a13 o_a14 o_a15 o_a16 o_thrown, ai E o_a2 42 o_image, ai E o_a3 42 o_was, ai E o_a8 3 o_numbers, ai E o_a9 8192 o_most, ai E o_a11 8 o_kept, ai E o_a12 8 o_keptKind, ai E o_a13 8 o_keptFigure, ai E o_a14 8 o_sort, ai E o_a15 8 o_size, ai E o_a16 800 o_element]) [1, 2] [0, 3, 4, 5, 6, 7, 8, 9, 10, 11, 12] (ws := [oMo o_h o_a0 o_a1 o_a2 o_a3 o_hasImage o_place o_rowAt o_rowEnd o_a8 o_a9 y10 o_a11 o_a12 o_a13 o_a14 o_a15 o_a16 o_thrown, ai E o_a0 42 o_s, ai E o_a1 42 y11, ai E o_a2 42 o_image, ai E o_a3 42 o_was, ai E o_a8 3 o_numbers, ai E o_a9 8192 o_most, ai E o_a11 8 o_kept, ai E o_a12 8 o_keptKind, ai E o_a13 8 o_keptFigure, ai E o_a14 8 o_sort, ai E o_a15 8 o_size, ai E o_a16 800 o_element]) (ws' := [oMo o_h o_a0 o_a1 o_a2 o_a3 o_hasImage o_place o_rowAt o_rowEnd o_a8 o_a9 y10 o_a11 o_a12 o_a13 o_a14 o_a15 o_a16 o_thrown, ai E o_a0 42 o_s, ai E o_a1 42 y13, ai E o_a2 42 o_image, ai E o_a3 42 o_was, ai E o_a8 3 o_numbers, ai E o_a9 8192 o_most, ai E o_a11 8 o_kept, ai E o_a12 8 o_keptKind, ai E o_a13 8 o_keptFigure, ai E o_a14 8 o_sort, ai E o_a15 8 o_size, ai E o_a16 800 o_element]) (rest := []) (st1 := []) hC q_X10_copies kw_4_215 (c_X10_copies l E o_a0 o_a1 o_s y11 N y13 h14) ⟨rfl, rfl⟩ ⟨Nat.le_of_ble_eq_true rfl, Nat.le_of_ble_eq_true rfl⟩ ⟨Nat.zero_le _, Nat.zero_le _⟩ hP hD hS hA hG (by decide) rfl rfl rfl rfl rfl rfl rfl rfl hl.1 rfl (Nat.le_of_ble_eq_true rfl) dX10_streets_46 rfl (fun H locs hP hD hS => ?_)
            refine lv_iconst (v := (0 : Int32)) hx hb dX10_streets_49 (by decide) ?_
            refine lv_istore (lv' := [(6, .int (0 : Int32)), (5, .int x8), (4, .int x9), (0, .ref o_h), (1, .int p1), (3, .int p3)]) hx hb dX10_streets_50 hl (by decide) rfl (fun ls hl => ?_)
            have hL52 : ∀ (k_52 : Int32 → Int32 → (Nat → Int32) → Option (Int32 × Int32 × (Nat → Int32))), (∀ (x15 : Int32) (y16 : Int32) (y17 : Nat → Int32) (H : Heap) (locs : List Loc) (ls : Array Slot), va_P E.1 vwCl [oMo o_h o_a0 o_a1 o_a2 o_a3 o_hasImage o_place o_rowAt o_rowEnd o_a8 o_a9 y16 o_a11 o_a12 o_a13 o_a14 o_a15 o_a16 o_thrown, ai E o_a0 42 o_s, ai E o_a1 42 y17, ai E o_a2 42 o_image, ai E o_a3 42 o_was, ai E o_a8 3 o_numbers, ai E o_a9 8192 o_most, ai E o_a11 8 o_kept, ai E o_a12 8 o_keptKind, ai E o_a13 8 o_keptFigure, ai E o_a14 8 o_sort, ai E o_a15 8 o_size, ai E o_a16 800 o_element] H → va_D A [oMo o_h o_a0 o_a1 o_a2 o_a3 o_hasImage o_place o_rowAt o_rowEnd o_a8 o_a9 y16 o_a11 o_a12 o_a13 o_a14 o_a15 o_a16 o_thrown, ai E o_a0 42 o_s, ai E o_a1 42 y17, ai E o_a2 42 o_image, ai E o_a3 42 o_was, ai E o_a8 3 o_numbers, ai E o_a9 8192 o_most, ai E o_a11 8 o_kept, ai E o_a12 8 o_keptKind, ai E o_a13 8 o_keptFigure, ai E o_a14 8 o_sort, ai E o_a15 8 o_size, ai E o_a16 800 o_element] → va_S A s.heap H locs → lv_has ls 7 [(6, .int x15), (5, .int x8), (4, .int x9), (0, .ref o_h), (1, .int p1), (3, .int p3)] → k_52 x15 y16 y17 = some (res, w_o_seed, w_o_m) → W p l e ({ frames := 6, cells := 0, slots := 0, locals := 133 }) s m [.ref o_h, .int p1, .int p2, .int p3].toArray below meth c H locs 0 0 (MQ below (fun _ st oc t => oc = .returned (some (.int res)) ∧ va_P E.1 vwCl [oMo o_h o_a0 o_a1 o_a2 o_a3 o_hasImage o_place o_rowAt o_rowEnd o_a8 o_a9 w_o_seed o_a11 o_a12 o_a13 o_a14 o_a15 o_a16 o_thrown, ai E o_a0 42 o_s, ai E o_a1 42 w_o_m, ai E o_a2 42 o_image, ai E o_a3 42 o_was, ai E o_a8 3 o_numbers, ai E o_a9 8192 o_most, ai E o_a11 8 o_kept, ai E o_a12 8 o_keptKind, ai E o_a13 8 o_keptFigure, ai E o_a14 8 o_sort, ai E o_a15 8 o_size, ai E o_a16 800 o_element] t.heap ∧ va_F A st t) [.ref o_h, .int p1, .int p2, .int p3].toArray s 0 0 A) (F0 m 106 ls [])) → ∀ (n : Nat) (x15 : Int32) (y16 : Int32) (y17 : Nat → Int32) (H : Heap) (locs : List Loc) (ls : Array Slot), va_P E.1 vwCl [oMo o_h o_a0 o_a1 o_a2 o_a3 o_hasImage o_place o_rowAt o_rowEnd o_a8 o_a9 y16 o_a11 o_a12 o_a13 o_a14 o_a15 o_a16 o_thrown, ai E o_a0 42 o_s, ai E o_a1 42 y17, ai E o_a2 42 o_image, ai E o_a3 42 o_was, ai E o_a8 3 o_numbers, ai E o_a9 8192 o_most, ai E o_a11 8 o_kept, ai E o_a12 8 o_keptKind, ai E o_a13 8 o_keptFigure, ai E o_a14 8 o_sort, ai E o_a15 8 o_size, ai E o_a16 800 o_element] H → va_D A [oMo o_h o_a0 o_a1 o_a2 o_a3 o_hasImage o_place o_rowAt o_rowEnd o_a8 o_a9 y16 o_a11 o_a12 o_a13 o_a14 o_a15 o_a16 o_thrown, ai E o_a0 42 o_s, ai E o_a1 42 y17, ai E o_a2 42 o_image, ai E o_a3 42 o_was, ai E o_a8 3 o_numbers, ai E o_a9 8192 o_most, ai E o_a11 8 o_kept, ai E o_a12 8 o_keptKind, ai E o_a13 8 o_keptFigure, ai E o_a14 8 o_sort, ai E o_a15 8 o_size, ai E o_a16 800 o_element] → va_S A s.heap H locs → lv_has ls 7 [(6, .int x15), (5, .int x8), (4, .int x9), (0, .ref o_h), (1, .int p1), (3, .int p3)] → L_X10_streets_52 o_s k_52 n x15 y16 y17 = some (res, w_o_seed, w_o_m) → W p l e ({ frames := 6, cells := 0, slots := 0, locals := 133 }) s m [.ref o_h, .int p1, .int p2, .int p3].toArray below meth c H locs 0 0 (MQ below (fun _ st oc t => oc = .returned (some (.int res)) ∧ va_P E.1 vwCl [oMo o_h o_a0 o_a1 o_a2 o_a3 o_hasImage o_place o_rowAt o_rowEnd o_a8 o_a9 w_o_seed o_a11 o_a12 o_a13 o_a14 o_a15 o_a16 o_thrown, ai E o_a0 42 o_s, ai E o_a1 42 w_o_m, ai E o_a2 42 o_image, ai E o_a3 42 o_was, ai E o_a8 3 o_numbers, ai E o_a9 8192 o_most, ai E o_a11 8 o_kept, ai E o_a12 8 o_keptKind, ai E o_a13 8 o_keptFigure, ai E o_a14 8 o_sort, ai E o_a15 8 o_size, ai E o_a16 800 o_element] t.heap ∧ va_F A st t) [.ref o_h, .int p1, .int p2, .int p3].toArray s 0 0 A) (F0 m 52 ls []) := by
              intro k_52 hk_52 n
              induction n with
              | zero => intro x15 y16 y17 H locs ls hP hD hS hl hv; cases hv
              | succ n52 ih52 =>
                intro x15 y16 y17 H locs ls hP hD hS hl hv
                rw [L_X10_streets_52] at hv
                refine lv_iload hx hb dX10_streets_52 (lv_at hl 0 rfl) ?_
                refine lv_aload_n hx hb dX10_streets_54 rfl (lv_at hl 3 rfl) ?_
                refine va_get (D := E.1) (ci := 4) (v := .ref o_a0) (C := RX10) (T := TX10) (N := 18) hx hb ht i_X10 hown hK hP 0 rfl rfl 0 (by decide) (ht _ kw_4_134) (fun _ h9 => h9) rfl dX10_streets_55 ?_
                refine lv_iconst (v := (0 : Int32)) hx hb dX10_streets_58 (by decide) ?_
                refine va_iald hx hb hK hP 1 0 rfl rfl (ix_s (by decide)) dX10_streets_59 ?_
                refine W.eq (g2 := F0 m 60 ls [.int (o_s 0), .int x15]) rfl ?_
                refine lv_icmp_ge (tgt := 106) hx hb dX10_streets_60 (by decide) (fun c18 => ?_) (fun c18 => ?_)
                · have hv := if_y c18 hv
                  exact hk_52 x15 y16 y17 _ _ _ hP hD hS (lv_sub hl [0, 1, 2, 3, 4, 5] rfl) hv
                · have hv := if_n c18 hv
                  refine lv_aload_n hx hb dX10_streets_63 rfl (lv_at hl 3 rfl) ?_
                  refine va_get (D := E.1) (ci := 4) (v := .ref o_a1) (C := RX10) (T := TX10) (N := 18) hx hb ht i_X10 hown hK hP 0 rfl rfl 1 (by decide) (ht _ kw_4_135) (fun _ h9 => h9) rfl dX10_streets_64 ?_
                  refine lv_iload hx hb dX10_streets_67 (lv_at hl 0 rfl) ?_
                  refine lv_iconst (v := (2 : Int32)) hx hb dX10_streets_69 (by decide) ?_
                  obtain ⟨r19, h20, hv⟩ := ob_s hv
                  refine rdS (rest := [.ref o_a1]) (st1 := [.int r19, .ref o_a1]) (w := []) hC q_X10_of kw_4_226 (c_X10_of l E x15 (2 : Int32) r19 h20) ⟨rfl, rfl⟩ ⟨Nat.le_of_ble_eq_true rfl, Nat.le_of_ble_eq_true rfl⟩ ⟨Nat.zero_le _, Nat.zero_le _⟩ (hP.sub (ws' := []) [] rfl) hG rfl hl.1 rfl (Nat.le_of_ble_eq_true rfl) dX10_streets_70 rfl ?_
                  refine lv_aload_n hx hb dX10_streets_73 rfl (lv_at hl 3 rfl) ?_
                  refine lv_bipush (v := (10 : Int32)) hx hb dX10_streets_74 (by decide) ?_
                  obtain ⟨⟨r21, y22⟩, h23, hv⟩ := ob_s hv
                  refine wrV (as := [o_h, o_a0, o_a1, o_a2, o_a3, o_a8, o_a9, o_a11, o_a12, o_a13, o_a14, o_a15, o_a16]) (wr := []) [0, 1, 2, 3, 4, 5, 6, 7, 8, 9, 10, 11, 12] [] 4 0 (ws := [oMo o_h o_a0 o_a1 o_a2 o_a3 o_hasImage o_place o_rowAt o_rowEnd o_a8 o_a9 y16 o_a11 o_a12 o_a13 o_a14 o_a15 o_a16 o_thrown, ai E o_a0 42 o_s, ai E o_a1 42 y17, ai E o_a2 42 o_image, ai E o_a3 42 o_was, ai E o_a8 3 o_numbers, ai E o_a9 8192 o_most, ai E o_a11 8 o_kept, ai E o_a12 8 o_keptKind, ai E o_a13 8 o_keptFigure, ai E o_a14 8 o_sort, ai E o_a15 8 o_size, ai E o_a16 800 o_element]) (ws' := [oMo o_h o_a0 o_a1 o_a2 o_a3 o_hasImage o_place o_rowAt o_rowEnd o_a8 o_a9 y22 o_a11 o_a12 o_a13 o_a14 o_a15 o_a16 o_thrown, ai E o_a0 42 o_s, ai E o_a1 42 y17, ai E o_a2 42 o_image, ai E o_a3 42 o_was, ai E o_a8 3 o_numbers, ai E o_a9 8192 o_most, ai E o_a11 8 o_kept, ai E o_a12 8 o_keptKind, ai E o_a13 8 o_keptFigure, ai E o_a14 8 o_sort, ai E o_a15 8 o_size, ai E o_a16 800 o_element]) (As := [.int (10 : Int32)]) (rest := [.int r19, .ref o_a1]) (st1 := [.int r21, .int r19, .ref o_a1]) hC q_X10_drawn kw_6_45 (c_X10_drawn l E o_h o_a0 o_a1 o_a2 o_a3 o_a8 o_a9 o_a11 o_a12 o_a13 o_a14 o_a15 o_a16 o_s y17 o_image o_was o_hasImage o_place o_rowAt o_rowEnd o_numbers o_most y16 o_kept o_keptKind o_keptFigure o_sort o_size o_element o_thrown (10 : Int32) r21 y22 h23) ⟨rfl, rfl⟩ ⟨Nat.le_of_ble_eq_true rfl, Nat.le_of_ble_eq_true rfl⟩ ⟨Nat.zero_le _, Nat.zero_le _⟩ hP hD hS hA rfl rfl rfl hG (by decide) rfl rfl rfl rfl rfl rfl rfl rfl hl.1 rfl (Nat.le_of_ble_eq_true rfl) dX10_streets_76 rfl (fun H locs hP hD hS => ?_)
                  obtain ⟨g24, hv⟩ := gd_s hv
                  refine va_iast hx hb hK hP hD hS 2 0 rfl rfl (ix_s g24) dX10_streets_79 (fun H locs hP hD hS => ?_)
                  have hP : va_P E.1 vwCl [oMo o_h o_a0 o_a1 o_a2 o_a3 o_hasImage o_place o_rowAt o_rowEnd o_a8 o_a9 y22 o_a11 o_a12 o_a13 o_a14 o_a15 o_a16 o_thrown, ai E o_a0 42 o_s, ai E o_a1 42 (upd y17 r19.toNatClampNeg r21), ai E o_a2 42 o_image, ai E o_a3 42 o_was, ai E o_a8 3 o_numbers, ai E o_a9 8192 o_most, ai E o_a11 8 o_kept, ai E o_a12 8 o_keptKind, ai E o_a13 8 o_keptFigure, ai E o_a14 8 o_sort, ai E o_a15 8 o_size, ai E o_a16 800 o_element] H := hP
                  have hD : va_D A [oMo o_h o_a0 o_a1 o_a2 o_a3 o_hasImage o_place o_rowAt o_rowEnd o_a8 o_a9 y22 o_a11 o_a12 o_a13 o_a14 o_a15 o_a16 o_thrown, ai E o_a0 42 o_s, ai E o_a1 42 (upd y17 r19.toNatClampNeg r21), ai E o_a2 42 o_image, ai E o_a3 42 o_was, ai E o_a8 3 o_numbers, ai E o_a9 8192 o_most, ai E o_a11 8 o_kept, ai E o_a12 8 o_keptKind, ai E o_a13 8 o_keptFigure, ai E o_a14 8 o_sort, ai E o_a15 8 o_size, ai E o_a16 800 o_element] := hD
                  obtain ⟨f25, ef25⟩ : ∃ z, z = (upd y17 r19.toNatClampNeg r21) := ⟨_, rfl⟩
                  rw [← ef25] at hP hD
                  have hv := nm_s ef25 hv
                  refine lv_aload_n hx hb dX10_streets_80 rfl (lv_at hl 3 rfl) ?_
                  refine va_get (D := E.1) (ci := 4) (v := .ref o_a1) (C := RX10) (T := TX10) (N := 18) hx hb ht i_X10 hown hK hP 0 rfl rfl 1 (by decide) (ht _ kw_4_135) (fun _ h9 => h9) rfl dX10_streets_81 ?_
                  refine lv_iload hx hb dX10_streets_84 (lv_at hl 0 rfl) ?_
                  refine lv_iconst (v := (3 : Int32)) hx hb dX10_streets_86 (by decide) ?_
                  obtain ⟨r26, h27, hv⟩ := ob_s hv
                  refine rdS (rest := [.ref o_a1]) (st1 := [.int r26, .ref o_a1]) (w := []) hC q_X10_of kw_4_226 (c_X10_of l E x15 (3 : Int32) r26 h27) ⟨rfl, rfl⟩ ⟨Nat.le_of_ble_eq_true rfl, Nat.le_of_ble_eq_true rfl⟩ ⟨Nat.zero_le _, Nat.zero_le _⟩ (hP.sub (ws' := []) [] rfl) hG rfl hl.1 rfl (Nat.le_of_ble_eq_true rfl) dX10_streets_87 rfl ?_
                  refine lv_aload_n hx hb dX10_streets_90 rfl (lv_at hl 3 rfl) ?_
                  refine lv_bipush (v := (19 : Int32)) hx hb dX10_streets_91 (by decide) ?_
                  obtain ⟨⟨r28, y29⟩, h30, hv⟩ := ob_s hv
                  refine wrV (as := [o_h, o_a0, o_a1, o_a2, o_a3, o_a8, o_a9, o_a11, o_a12, o_a13, o_a14, o_a15, o_a16]) (wr := []) [0, 1, 2, 3, 4, 5, 6, 7, 8, 9, 10, 11, 12] [] 4 0 (ws := [oMo o_h o_a0 o_a1 o_a2 o_a3 o_hasImage o_place o_rowAt o_rowEnd o_a8 o_a9 y22 o_a11 o_a12 o_a13 o_a14 o_a15 o_a16 o_thrown, ai E o_a0 42 o_s, ai E o_a1 42 f25, ai E o_a2 42 o_image, ai E o_a3 42 o_was, ai E o_a8 3 o_numbers, ai E o_a9 8192 o_most, ai E o_a11 8 o_kept, ai E o_a12 8 o_keptKind, ai E o_a13 8 o_keptFigure, ai E o_a14 8 o_sort, ai E o_a15 8 o_size, ai E o_a16 800 o_element]) (ws' := [oMo o_h o_a0 o_a1 o_a2 o_a3 o_hasImage o_place o_rowAt o_rowEnd o_a8 o_a9 y29 o_a11 o_a12 o_a13 o_a14 o_a15 o_a16 o_thrown, ai E o_a0 42 o_s, ai E o_a1 42 f25, ai E o_a2 42 o_image, ai E o_a3 42 o_was, ai E o_a8 3 o_numbers, ai E o_a9 8192 o_most, ai E o_a11 8 o_kept, ai E o_a12 8 o_keptKind, ai E o_a13 8 o_keptFigure, ai E o_a14 8 o_sort, ai E o_a15 8 o_size, ai E o_a16 800 o_element]) (As := [.int (19 : Int32)]) (rest := [.int r26, .ref o_a1]) (st1 := [.int r28, .int r26, .ref o_a1]) hC q_X10_drawn kw_6_45 (c_X10_drawn l E o_h o_a0 o_a1 o_a2 o_a3 o_a8 o_a9 o_a11 o_a12 o_a13 o_a14 o_a15 o_a16 o_s f25 o_image o_was o_hasImage o_place o_rowAt o_rowEnd o_numbers o_most y22 o_kept o_keptKind o_keptFigure o_sort o_size o_element o_thrown (19 : Int32) r28 y29 h30) ⟨rfl, rfl⟩ ⟨Nat.le_of_ble_eq_true rfl, Nat.le_of_ble_eq_true rfl⟩ ⟨Nat.zero_le _, Nat.zero_le _⟩ hP hD hS hA rfl rfl rfl hG (by decide) rfl rfl rfl rfl rfl rfl rfl rfl hl.1 rfl (Nat.le_of_ble_eq_true rfl) dX10_streets_93 rfl (fun H locs hP hD hS => ?_)
                  refine lv_bipush (v := (9 : Int32)) hx hb dX10_streets_96 (by decide) ?_
                  refine lv_isub hx hb dX10_streets_98 ?_
                  obtain ⟨g31, hv⟩ := gd_s hv
                  refine va_iast hx hb hK hP hD hS 2 0 rfl rfl (ix_s g31) dX10_streets_99 (fun H locs hP hD hS => ?_)
                  have hP : va_P E.1 vwCl [oMo o_h o_a0 o_a1 o_a2 o_a3 o_hasImage o_place o_rowAt o_rowEnd o_a8 o_a9 y29 o_a11 o_a12 o_a13 o_a14 o_a15 o_a16 o_thrown, ai E o_a0 42 o_s, ai E o_a1 42 (upd f25 r26.toNatClampNeg (r28 - (9 : Int32))), ai E o_a2 42 o_image, ai E o_a3 42 o_was, ai E o_a8 3 o_numbers, ai E o_a9 8192 o_most, ai E o_a11 8 o_kept, ai E o_a12 8 o_keptKind, ai E o_a13 8 o_keptFigure, ai E o_a14 8 o_sort, ai E o_a15 8 o_size, ai E o_a16 800 o_element] H := hP
                  have hD : va_D A [oMo o_h o_a0 o_a1 o_a2 o_a3 o_hasImage o_place o_rowAt o_rowEnd o_a8 o_a9 y29 o_a11 o_a12 o_a13 o_a14 o_a15 o_a16 o_thrown, ai E o_a0 42 o_s, ai E o_a1 42 (upd f25 r26.toNatClampNeg (r28 - (9 : Int32))), ai E o_a2 42 o_image, ai E o_a3 42 o_was, ai E o_a8 3 o_numbers, ai E o_a9 8192 o_most, ai E o_a11 8 o_kept, ai E o_a12 8 o_keptKind, ai E o_a13 8 o_keptFigure, ai E o_a14 8 o_sort, ai E o_a15 8 o_size, ai E o_a16 800 o_element] := hD
                  obtain ⟨f32, ef32⟩ : ∃ z, z = (upd f25 r26.toNatClampNeg (r28 - (9 : Int32))) := ⟨_, rfl⟩
                  rw [← ef32] at hP hD
                  have hv := nm_s ef32 hv
                  refine lv_iinc (v := (x15 + (1 : Int32))) (lv' := [(6, .int (x15 + (1 : Int32))), (5, .int x8), (4, .int x9), (0, .ref o_h), (1, .int p1), (3, .int p3)]) hx hb dX10_streets_100 hl (k := 0) rfl rfl (by decide) rfl (fun ls hl => ?_)
                  refine lv_goto (tgt := 52) hx hb dX10_streets_103 (by decide) ?_
                  exact ih52 (x15 + (1 : Int32)) y29 f32 _ _ _ hP hD hS (lv_sub hl [0, 1, 2, 3, 4, 5] rfl) hv
            refine hL52 _ (fun x33 y34 y35 H locs ls hP hD hS hl hv => ?_) N (0 : Int32) y10 y13 _ _ _ hP hD hS (lv_sub hl [0, 1, 2, 3, 4, 5] rfl) hv
            refine lv_aload_n hx hb dX10_streets_106 rfl (lv_at hl 3 rfl) ?_
            refine va_get (D := E.1) (ci := 4) (v := .ref o_a1) (C := RX10) (T := TX10) (N := 18) hx hb ht i_X10 hown hK hP 0 rfl rfl 1 (by decide) (ht _ kw_4_135) (fun _ h9 => h9) rfl dX10_streets_107 ?_
            refine lv_iconst (v := (5 : Int32)) hx hb dX10_streets_110 (by decide) ?_
            obtain ⟨y36, h37, hv⟩ := ob_s hv
            refine wrS (as := [o_h, o_a0, o_a1, o_a2, o_a3, o_a8, o_a9, o_a11, o_a12, o_a13, o_a14, o_a15, o_a16]) (wr := [oMo o_h o_a0 o_a1 o_a2 o_a3 o_hasImage o_place o_rowAt o_rowEnd o_a8 o_a9 y34 o_a11 o_a12 o_a13 o_a14 o_a15 o_a16 o_thrown, ai E o_a0 42 o_s, ai E o_a2 42 o_image, ai E o_a3 42 o_was, ai E o_a8 3 o_numbers, ai E o_a9 8192 o_most, ai E o_a11 8 o_kept, ai E o_a12 8 o_keptKind, ai E o_a13 8 o_keptFigure, ai E o_a14 8 o_sort, ai E o_a15 8 o_size, ai E o_a16 800 o_element]) [2] [0, 1, 3, 4, 5, 6, 7, 8, 9, 10, 11, 12] (ws := [oMo o_h o_a0 o_a1 o_a2 o_a3 o_hasImage o_place o_rowAt o_rowEnd o_a8 o_a9 y34 o_a11 o_a12 o_a13 o_a14 o_a15 o_a16 o_thrown, ai E o_a0 42 o_s, ai E o_a1 42 y35, ai E o_a2 42 o_image, ai E o_a3 42 o_was, ai E o_a8 3 o_numbers, ai E o_a9 8192 o_most, ai E o_a11 8 o_kept, ai E o_a12 8 o_keptKind, ai E o_a13 8 o_keptFigure, ai E o_a14 8 o_sort, ai E o_a15 8 o_size, ai E o_a16 800 o_element]) (ws' := [oMo o_h o_a0 o_a1 o_a2 o_a3 o_hasImage o_place o_rowAt o_rowEnd o_a8 o_a9 y34 o_a11 o_a12 o_a13 o_a14 o_a15 o_a16 o_thrown, ai E o_a0 42 o_s, ai E o_a1 42 y36, ai E o_a2 42 o_image, ai E o_a3 42 o_was, ai E o_a8 3 o_numbers, ai E o_a9 8192 o_most, ai E o_a11 8 o_kept, ai E o_a12 8 o_keptKind, ai E o_a13 8 o_keptFigure, ai E o_a14 8 o_sort, ai E o_a15 8 o_size, ai E o_a16 800 o_element]) (rest := []) (st1 := []) hC q_X10_daysOn kw_4_233 (c_X10_daysOn l E o_a1 y35 (5 : Int32) N y36 h37) ⟨rfl, rfl⟩ ⟨Nat.le_of_ble_eq_true rfl, Nat.le_of_ble_eq_true rfl⟩ ⟨Nat.zero_le _, Nat.zero_le _⟩ hP hD hS hA hG (by decide) rfl rfl rfl rfl rfl rfl rfl rfl hl.1 rfl (Nat.le_of_ble_eq_true rfl) dX10_streets_111 rfl (fun H locs hP hD hS => ?_)
            refine lv_iload hx hb dX10_streets_114 (lv_at hl 2 rfl) ?_
            refine lv_iload_n hx hb dX10_streets_116 rfl (lv_at hl 5 rfl) ?_
            refine lv_iconst (v := (1 : Int32)) hx hb dX10_streets_117 (by decide) ?_
            refine lv_icmp_ne (tgt := 131) hx hb dX10_streets_118 (by decide) (fun c38 => ?_) (fun c38 => ?_)
            · have hv := if_n c38 hv
              refine lv_aload_n hx hb dX10_streets_131 rfl (lv_at hl 3 rfl) ?_
              refine va_get (D := E.1) (ci := 4) (v := .ref o_a1) (C := RX10) (T := TX10) (N := 18) hx hb ht i_X10 hown hK hP 0 rfl rfl 1 (by decide) (ht _ kw_4_135) (fun _ h9 => h9) rfl dX10_streets_132 ?_
              obtain ⟨r39, h40, hv⟩ := ob_s hv
              refine rdS (rest := [.int x9]) (st1 := [.int r39, .int x9]) (w := [ai E o_a1 42 y36]) hC q_X10_doesCarry kw_5_70 (c_X10_doesCarry l E o_a1 y36 N r39 h40) ⟨rfl, rfl⟩ ⟨Nat.le_of_ble_eq_true rfl, Nat.le_of_ble_eq_true rfl⟩ ⟨Nat.zero_le _, Nat.zero_le _⟩ (hP.sub (ws' := [ai E o_a1 42 y36]) [2] rfl) hG rfl hl.1 rfl (Nat.le_of_ble_eq_true rfl) dX10_streets_135 rfl ?_
              refine lv_if_eq (tgt := 145) hx hb dX10_streets_138 (by decide) (fun c41 => ?_) (fun c41 => ?_)
              · have hv := if_y c41 hv
                refine lv_iconst (v := (0 : Int32)) hx hb dX10_streets_145 (by decide) ?_
                refine lv_iadd hx hb dX10_streets_146 ?_
                refine lv_istore (lv' := [(4, .int (x9 + (0 : Int32))), (6, .int x33), (5, .int x8), (0, .ref o_h), (1, .int p1), (3, .int p3)]) hx hb dX10_streets_147 hl (by decide) rfl (fun ls hl => ?_)
                refine lv_iinc (v := (x8 + (1 : Int32))) (lv' := [(5, .int (x8 + (1 : Int32))), (4, .int (x9 + (0 : Int32))), (6, .int x33), (0, .ref o_h), (1, .int p1), (3, .int p3)]) hx hb dX10_streets_149 hl (k := 2) rfl rfl (by decide) rfl (fun ls hl => ?_)
                refine lv_goto (tgt := 32) hx hb dX10_streets_152 (by decide) ?_
                exact ih32 (x8 + (1 : Int32)) (x9 + (0 : Int32)) y34 y36 _ _ _ hP hD hS (lv_sub hl [0, 1, 3, 4, 5] rfl) hv
              · have hv := if_n c41 hv
                refine lv_iconst (v := (1 : Int32)) hx hb dX10_streets_141 (by decide) ?_
                refine lv_goto (tgt := 146) hx hb dX10_streets_142 (by decide) ?_
                refine lv_iadd hx hb dX10_streets_146 ?_
                refine lv_istore (lv' := [(4, .int (x9 + (1 : Int32))), (6, .int x33), (5, .int x8), (0, .ref o_h), (1, .int p1), (3, .int p3)]) hx hb dX10_streets_147 hl (by decide) rfl (fun ls hl => ?_)
                refine lv_iinc (v := (x8 + (1 : Int32))) (lv' := [(5, .int (x8 + (1 : Int32))), (4, .int (x9 + (1 : Int32))), (6, .int x33), (0, .ref o_h), (1, .int p1), (3, .int p3)]) hx hb dX10_streets_149 hl (k := 2) rfl rfl (by decide) rfl (fun ls hl => ?_)
                refine lv_goto (tgt := 32) hx hb dX10_streets_152 (by decide) ?_
                exact ih32 (x8 + (1 : Int32)) (x9 + (1 : Int32)) y34 y36 _ _ _ hP hD hS (lv_sub hl [0, 1, 3, 4, 5] rfl) hv
            · have hv := if_y c38 hv
              refine lv_aload_n hx hb dX10_streets_121 rfl (lv_at hl 3 rfl) ?_
              refine va_get (D := E.1) (ci := 4) (v := .ref o_a1) (C := RX10) (T := TX10) (N := 18) hx hb ht i_X10 hown hK hP 0 rfl rfl 1 (by decide) (ht _ kw_4_135) (fun _ h9 => h9) rfl dX10_streets_122 ?_
              obtain ⟨r42, h43, hv⟩ := ob_s hv
              refine rdS (rest := [.int x9]) (st1 := [.int r42, .int x9]) (w := [ai E o_a1 42 y36]) hC q_X10_forIn kw_5_98 (c_X10_forIn l E o_a1 y36 N r42 h43) ⟨rfl, rfl⟩ ⟨Nat.le_of_ble_eq_true rfl, Nat.le_of_ble_eq_true rfl⟩ ⟨Nat.zero_le _, Nat.zero_le _⟩ (hP.sub (ws' := [ai E o_a1 42 y36]) [2] rfl) hG rfl hl.1 rfl (Nat.le_of_ble_eq_true rfl) dX10_streets_125 rfl ?_
              refine lv_goto (tgt := 146) hx hb dX10_streets_128 (by decide) ?_
              refine lv_iadd hx hb dX10_streets_146 ?_
              refine lv_istore (lv' := [(4, .int (x9 + r42)), (6, .int x33), (5, .int x8), (0, .ref o_h), (1, .int p1), (3, .int p3)]) hx hb dX10_streets_147 hl (by decide) rfl (fun ls hl => ?_)
              refine lv_iinc (v := (x8 + (1 : Int32))) (lv' := [(5, .int (x8 + (1 : Int32))), (4, .int (x9 + r42)), (6, .int x33), (0, .ref o_h), (1, .int p1), (3, .int p3)]) hx hb dX10_streets_149 hl (k := 2) rfl rfl (by decide) rfl (fun ls hl => ?_)
              refine lv_goto (tgt := 32) hx hb dX10_streets_152 (by decide) ?_
              exact ih32 (x8 + (1 : Int32)) (x9 + r42) y34 y36 _ _ _ hP hD hS (lv_sub hl [0, 1, 3, 4, 5] rfl) hv
      exact hL32 N (0 : Int32) (0 : Int32) p2 o_m _ _ _ hP hD hS (lv_sub hl [0, 1, 2, 3, 5] rfl) hv
    · have hv := if_y c7 hv
      refine lv_iconst (v := (-1 : Int32)) hx hb dX10_streets_19 (by decide) ?_
      refine lv_topi (fun z44 ez44 => ?_)
      have hv := nm_s ez44 hv
      cases hv
      exact W.iret hx hb hr (fun t h9 _ => ⟨rfl, by rw [h9]; exact hP, hS.F h9⟩) hS.2.2 dX10_streets_20 hlk
theorem dX10_image_0 : decode cX10_image 0 = .ok (.aload_n 0, 1) := by decide +kernel
theorem dX10_image_1 : decode cX10_image 1 = .ok (.getfield 9, 3) := by decide +kernel
theorem dX10_image_4 : decode cX10_image 4 = .ok (.aload_n 0, 1) := by decide +kernel
theorem dX10_image_5 : decode cX10_image 5 = .ok (.getfield 16, 3) := by decide +kernel
theorem dX10_image_8 : decode cX10_image 8 = .ok (.invokestatic 148, 3) := by decide +kernel
theorem dX10_image_11 : decode cX10_image 11 = .ok (.aload_n 0, 1) := by decide +kernel
theorem dX10_image_12 : decode cX10_image 12 = .ok (.iconst 1, 1) := by decide +kernel
theorem dX10_image_13 : decode cX10_image 13 = .ok (.putfield 256, 3) := by decide +kernel
theorem dX10_image_16 : decode cX10_image 16 = .ok (.aload_n 0, 1) := by decide +kernel
theorem dX10_image_17 : decode cX10_image 17 = .ok (.getfield 9, 3) := by decide +kernel
theorem dX10_image_20 : decode cX10_image 20 = .ok (.iconst 1, 1) := by decide +kernel
theorem dX10_image_21 : decode cX10_image 21 = .ok (.iaload, 1) := by decide +kernel
theorem dX10_image_22 : decode cX10_image 22 = .ok (.ireturn, 1) := by decide +kernel
def f_X10_image (N : Nat) (o_s : Nat → Int32) (o_image : Nat → Int32) : Option (Int32 × Int32 × (Nat → Int32)) := ob (f_X10_copies N o_s o_image) (fun y1 => nm (o_s 1) (fun z3 => some (z3, (1 : Int32), y1)))
set_option maxHeartbeats 4000000 in
set_option maxRecDepth 100000 in
theorem c_X10_image (l : Launch) (E : EE) (o_h : Nat) (o_a0 : Nat) (o_a1 : Nat) (o_a2 : Nat) (o_a3 : Nat) (o_a8 : Nat) (o_a9 : Nat) (o_a11 : Nat) (o_a12 : Nat) (o_a13 : Nat) (o_a14 : Nat) (o_a15 : Nat) (o_a16 : Nat) (o_s : Nat → Int32) (o_m : Nat → Int32) (o_image : Nat → Int32) (o_was : Nat → Int32) (o_hasImage : Int32) (o_place : Int32) (o_rowAt : Int32) (o_rowEnd : Int32) (o_numbers : Nat → Int32) (o_most : Nat → Int32) (o_seed : Int32) (o_kept : Nat → Int32) (o_keptKind : Nat → Int32) (o_keptFigure : Nat → Int32) (o_sort : Nat → Int32) (o_size : Nat → Int32) (o_element : Nat → Int32) (o_thrown : Int32) (N : Nat) (res : Int32) (w_o_hasImage : Int32) (w_o_image : Nat → Int32) (hv : f_X10_image N o_s o_image = some (res, w_o_hasImage, w_o_image)) : Wr l E yX10_image cX10_image 1 (some .int) ({ frames := 1, cells := 0, slots := 0, locals := 22 }) [.ref o_h] [oMo o_h o_a0 o_a1 o_a2 o_a3 o_hasImage o_place o_rowAt o_rowEnd o_a8 o_a9 o_seed o_a11 o_a12 o_a13 o_a14 o_a15 o_a16 o_thrown, ai E o_a0 42 o_s, ai E o_a1 42 o_m, ai E o_a2 42 o_image, ai E o_a3 42 o_was, ai E o_a8 3 o_numbers, ai E o_a9 8192 o_most, ai E o_a11 8 o_kept, ai E o_a12 8 o_keptKind, ai E o_a13 8 o_keptFigure, ai E o_a14 8 o_sort, ai E o_a15 8 o_size, ai E o_a16 800 o_element] [oMo o_h o_a0 o_a1 o_a2 o_a3 w_o_hasImage o_place o_rowAt o_rowEnd o_a8 o_a9 o_seed o_a11 o_a12 o_a13 o_a14 o_a15 o_a16 o_thrown, ai E o_a0 42 o_s, ai E o_a1 42 o_m, ai E o_a2 42 w_o_image, ai E o_a3 42 o_was, ai E o_a8 3 o_numbers, ai E o_a9 8192 o_most, ai E o_a11 8 o_kept, ai E o_a12 8 o_keptKind, ai E o_a13 8 o_keptFigure, ai E o_a14 8 o_sort, ai E o_a15 8 o_size, ai E o_a16 800 o_element] (some (.int res)) := by
  refine Wr.intro RX10 (by decide) rfl (Nat.le_of_ble_eq_true rfl) ?_
  intro p e s m below meth c ls A hC hr hlk hmn hP hD hS hA hG hl
  obtain ⟨hx, hb, hml, hown, ht⟩ := id hC
  have hK := hG.1
  have hl : lv_has ls 1 [(0, .ref o_h)] := hl
  rw [f_X10_image] at hv
  refine lv_aload_n hx hb dX10_image_0 rfl (lv_at hl 0 rfl) ?_
  refine va_get (D := E.1) (ci := 4) (v := .ref o_a0) (C := RX10) (T := TX10) (N := 18) hx hb ht i_X10 hown hK hP 0 rfl rfl 0 (by decide) (ht _ kw_4_134) (fun _ h9 => h9) rfl dX10_image_1 ?_
  refine lv_aload_n hx hb dX10_image_4 rfl (lv_at hl 0 rfl) ?_
  refine va_get (D := E.1) (ci := 4) (v := .ref o_a2) (C := RX10) (T := TX10) (N := 18) hx hb ht i_X10 hown hK hP 0 rfl rfl 2 (by decide) (ht _ kw_4_136) (fun _ h9 => h9) rfl dX10_image_5 ?_
  obtain ⟨y1, h2, hv⟩ := ob_s hv
  refine wrS (as := [o_h, o_a0, o_a1, o_a2, o_a3, o_a8, o_a9, o_a11, o_a12, o_a13, o_a14, o_a15, o_a16]) (wr := [oMo o_h o_a0 o_a1 o_a2 o_a3 o_hasImage o_place o_rowAt o_rowEnd o_a8 o_a9 o_seed o_a11 o_a12 o_a13 o_a14 o_a15 o_a16 o_thrown, ai E o_a1 42 o_m, ai E o_a3 42 o_was, ai E o_a8 3 o_numbers, ai E o_a9 8192 o_most, ai E o_a11 8 o_kept, ai E o_a12 8 o_keptKind, ai E o_a13 8 o_keptFigure, ai E o_a14 8 o_sort, ai E o_a15 8 o_size, ai E o_a16 800 o_element]) [1, 3] [0, 2, 4, 5, 6, 7, 8, 9, 10, 11, 12] (ws := [oMo o_h o_a0 o_a1 o_a2 o_a3 o_hasImage o_place o_rowAt o_rowEnd o_a8 o_a9 o_seed o_a11 o_a12 o_a13 o_a14 o_a15 o_a16 o_thrown, ai E o_a0 42 o_s, ai E o_a1 42 o_m, ai E o_a2 42 o_image, ai E o_a3 42 o_was, ai E o_a8 3 o_numbers, ai E o_a9 8192 o_most, ai E o_a11 8 o_kept, ai E o_a12 8 o_keptKind, ai E o_a13 8 o_keptFigure, ai E o_a14 8 o_sort, ai E o_a15 8 o_size, ai E o_a16 800 o_element]) (ws' := [oMo o_h o_a0 o_a1 o_a2 o_a3 o_hasImage o_place o_rowAt o_rowEnd o_a8 o_a9 o_seed o_a11 o_a12 o_a13 o_a14 o_a15 o_a16 o_thrown, ai E o_a0 42 o_s, ai E o_a1 42 o_m, ai E o_a2 42 y1, ai E o_a3 42 o_was, ai E o_a8 3 o_numbers, ai E o_a9 8192 o_most, ai E o_a11 8 o_kept, ai E o_a12 8 o_keptKind, ai E o_a13 8 o_keptFigure, ai E o_a14 8 o_sort, ai E o_a15 8 o_size, ai E o_a16 800 o_element]) (rest := []) (st1 := []) hC q_X10_copies kw_4_215 (c_X10_copies l E o_a0 o_a2 o_s o_image N y1 h2) ⟨rfl, rfl⟩ ⟨Nat.le_of_ble_eq_true rfl, Nat.le_of_ble_eq_true rfl⟩ ⟨Nat.zero_le _, Nat.zero_le _⟩ hP hD hS hA hG (by decide) rfl rfl rfl rfl rfl rfl rfl rfl hl.1 rfl (Nat.le_of_ble_eq_true rfl) dX10_image_8 rfl (fun H locs hP hD hS => ?_)
  refine lv_aload_n hx hb dX10_image_11 rfl (lv_at hl 0 rfl) ?_
  refine lv_iconst (v := (1 : Int32)) hx hb dX10_image_12 (by decide) ?_
  refine va_put (D := E.1) (ci := 4) (v := .int (1 : Int32)) (ty := .boolean) (C := RX10) (T := TX10) (N := 18) hx hb ht i_X10 tyX10 tyX10_ok nmX10 hown hK hP hD hS 0 rfl rfl 4 (by decide) (ht _ kw_4_138) (fun _ h9 => h9) rfl (by decide +kernel) rfl rfl (Nat.le_of_ble_eq_true rfl) dX10_image_13 (fun H locs hP hD hS => ?_)
  have hP : va_P E.1 vwCl [oMo o_h o_a0 o_a1 o_a2 o_a3 (1 : Int32) o_place o_rowAt o_rowEnd o_a8 o_a9 o_seed o_a11 o_a12 o_a13 o_a14 o_a15 o_a16 o_thrown, ai E o_a0 42 o_s, ai E o_a1 42 o_m, ai E o_a2 42 y1, ai E o_a3 42 o_was, ai E o_a8 3 o_numbers, ai E o_a9 8192 o_most, ai E o_a11 8 o_kept, ai E o_a12 8 o_keptKind, ai E o_a13 8 o_keptFigure, ai E o_a14 8 o_sort, ai E o_a15 8 o_size, ai E o_a16 800 o_element] H := hP
  have hD : va_D A [oMo o_h o_a0 o_a1 o_a2 o_a3 (1 : Int32) o_place o_rowAt o_rowEnd o_a8 o_a9 o_seed o_a11 o_a12 o_a13 o_a14 o_a15 o_a16 o_thrown, ai E o_a0 42 o_s, ai E o_a1 42 o_m, ai E o_a2 42 y1, ai E o_a3 42 o_was, ai E o_a8 3 o_numbers, ai E o_a9 8192 o_most, ai E o_a11 8 o_kept, ai E o_a12 8 o_keptKind, ai E o_a13 8 o_keptFigure, ai E o_a14 8 o_sort, ai E o_a15 8 o_size, ai E o_a16 800 o_element] := hD
  refine lv_aload_n hx hb dX10_image_16 rfl (lv_at hl 0 rfl) ?_
  refine va_get (D := E.1) (ci := 4) (v := .ref o_a0) (C := RX10) (T := TX10) (N := 18) hx hb ht i_X10 hown hK hP 0 rfl rfl 0 (by decide) (ht _ kw_4_134) (fun _ h9 => h9) rfl dX10_image_17 ?_
  refine lv_iconst (v := (1 : Int32)) hx hb dX10_image_20 (by decide) ?_
  refine va_iald hx hb hK hP 1 0 rfl rfl (ix_s (by decide)) dX10_image_21 ?_
  refine W.eq (g2 := F0 m 22 ls [.int (o_s 1)]) rfl ?_
  refine lv_topi (fun z3 ez3 => ?_)
  have hv := nm_s ez3 hv
  cases hv
  exact W.iret hx hb hr (fun t h9 _ => ⟨rfl, by rw [h9]; exact hP, hS.F h9⟩) hS.2.2 dX10_image_22 hlk
theorem dX10_restore_0 : decode cX10_restore 0 = .ok (.aload_n 0, 1) := by decide +kernel
theorem dX10_restore_1 : decode cX10_restore 1 = .ok (.getfield 256, 3) := by decide +kernel
theorem dX10_restore_4 : decode cX10_restore 4 = .ok (.ifCond .ne 6, 3) := by decide +kernel
theorem dX10_restore_7 : decode cX10_restore 7 = .ok (.bipush (-3), 2) := by decide +kernel
theorem dX10_restore_9 : decode cX10_restore 9 = .ok (.ireturn, 1) := by decide +kernel
theorem dX10_restore_10 : decode cX10_restore 10 = .ok (.aload_n 0, 1) := by decide +kernel
theorem dX10_restore_11 : decode cX10_restore 11 = .ok (.getfield 16, 3) := by decide +kernel
theorem dX10_restore_14 : decode cX10_restore 14 = .ok (.aload_n 0, 1) := by decide +kernel
theorem dX10_restore_15 : decode cX10_restore 15 = .ok (.getfield 9, 3) := by decide +kernel
theorem dX10_restore_18 : decode cX10_restore 18 = .ok (.invokestatic 148, 3) := by decide +kernel
theorem dX10_restore_21 : decode cX10_restore 21 = .ok (.aload_n 0, 1) := by decide +kernel
theorem dX10_restore_22 : decode cX10_restore 22 = .ok (.getfield 9, 3) := by decide +kernel
theorem dX10_restore_25 : decode cX10_restore 25 = .ok (.iconst 1, 1) := by decide +kernel
theorem dX10_restore_26 : decode cX10_restore 26 = .ok (.iaload, 1) := by decide +kernel
theorem dX10_restore_27 : decode cX10_restore 27 = .ok (.ireturn, 1) := by decide +kernel
def f_X10_restore (N : Nat) (o_s : Nat → Int32) (o_image : Nat → Int32) (o_hasImage : Int32) : Option (Int32 × (Nat → Int32)) := if o_hasImage = 0 then nm (-3 : Int32) (fun z5 => some (z5, o_s)) else ob (f_X10_copies N o_image o_s) (fun y2 => nm (y2 1) (fun z4 => some (z4, y2)))
set_option maxHeartbeats 4000000 in
set_option maxRecDepth 100000 in
theorem c_X10_restore (l : Launch) (E : EE) (o_h : Nat) (o_a0 : Nat) (o_a1 : Nat) (o_a2 : Nat) (o_a3 : Nat) (o_a8 : Nat) (o_a9 : Nat) (o_a11 : Nat) (o_a12 : Nat) (o_a13 : Nat) (o_a14 : Nat) (o_a15 : Nat) (o_a16 : Nat) (o_s : Nat → Int32) (o_m : Nat → Int32) (o_image : Nat → Int32) (o_was : Nat → Int32) (o_hasImage : Int32) (o_place : Int32) (o_rowAt : Int32) (o_rowEnd : Int32) (o_numbers : Nat → Int32) (o_most : Nat → Int32) (o_seed : Int32) (o_kept : Nat → Int32) (o_keptKind : Nat → Int32) (o_keptFigure : Nat → Int32) (o_sort : Nat → Int32) (o_size : Nat → Int32) (o_element : Nat → Int32) (o_thrown : Int32) (N : Nat) (res : Int32) (w_o_s : Nat → Int32) (hv : f_X10_restore N o_s o_image o_hasImage = some (res, w_o_s)) : Wr l E yX10_restore cX10_restore 1 (some .int) ({ frames := 1, cells := 0, slots := 0, locals := 22 }) [.ref o_h] [oMo o_h o_a0 o_a1 o_a2 o_a3 o_hasImage o_place o_rowAt o_rowEnd o_a8 o_a9 o_seed o_a11 o_a12 o_a13 o_a14 o_a15 o_a16 o_thrown, ai E o_a0 42 o_s, ai E o_a1 42 o_m, ai E o_a2 42 o_image, ai E o_a3 42 o_was, ai E o_a8 3 o_numbers, ai E o_a9 8192 o_most, ai E o_a11 8 o_kept, ai E o_a12 8 o_keptKind, ai E o_a13 8 o_keptFigure, ai E o_a14 8 o_sort, ai E o_a15 8 o_size, ai E o_a16 800 o_element] [oMo o_h o_a0 o_a1 o_a2 o_a3 o_hasImage o_place o_rowAt o_rowEnd o_a8 o_a9 o_seed o_a11 o_a12 o_a13 o_a14 o_a15 o_a16 o_thrown, ai E o_a0 42 w_o_s, ai E o_a1 42 o_m, ai E o_a2 42 o_image, ai E o_a3 42 o_was, ai E o_a8 3 o_numbers, ai E o_a9 8192 o_most, ai E o_a11 8 o_kept, ai E o_a12 8 o_keptKind, ai E o_a13 8 o_keptFigure, ai E o_a14 8 o_sort, ai E o_a15 8 o_size, ai E o_a16 800 o_element] (some (.int res)) := by
  refine Wr.intro RX10 (by decide) rfl (Nat.le_of_ble_eq_true rfl) ?_
  intro p e s m below meth c ls A hC hr hlk hmn hP hD hS hA hG hl
  obtain ⟨hx, hb, hml, hown, ht⟩ := id hC
  have hK := hG.1
  have hl : lv_has ls 1 [(0, .ref o_h)] := hl
  rw [f_X10_restore] at hv
  refine lv_aload_n hx hb dX10_restore_0 rfl (lv_at hl 0 rfl) ?_
  refine va_get (D := E.1) (ci := 4) (v := .int o_hasImage) (C := RX10) (T := TX10) (N := 18) hx hb ht i_X10 hown hK hP 0 rfl rfl 4 (by decide) (ht _ kw_4_138) (fun _ h9 => h9) rfl dX10_restore_1 ?_
  refine lv_if_ne (tgt := 10) hx hb dX10_restore_4 (by decide) (fun c1 => ?_) (fun c1 => ?_)
  · have hv := if_n c1 hv
    refine lv_aload_n hx hb dX10_restore_10 rfl (lv_at hl 0 rfl) ?_
    refine va_get (D := E.1) (ci := 4) (v := .ref o_a2) (C := RX10) (T := TX10) (N := 18) hx hb ht i_X10 hown hK hP 0 rfl rfl 2 (by decide) (ht _ kw_4_136) (fun _ h9 => h9) rfl dX10_restore_11 ?_
    refine lv_aload_n hx hb dX10_restore_14 rfl (lv_at hl 0 rfl) ?_
    refine va_get (D := E.1) (ci := 4) (v := .ref o_a0) (C := RX10) (T := TX10) (N := 18) hx hb ht i_X10 hown hK hP 0 rfl rfl 0 (by decide) (ht _ kw_4_134) (fun _ h9 => h9) rfl dX10_restore_15 ?_
    obtain ⟨y2, h3, hv⟩ := ob_s hv
    refine wrS (as := [o_h, o_a0, o_a1, o_a2, o_a3, o_a8, o_a9, o_a11, o_a12, o_a13, o_a14, o_a15, o_a16]) (wr := [oMo o_h o_a0 o_a1 o_a2 o_a3 o_hasImage o_place o_rowAt o_rowEnd o_a8 o_a9 o_seed o_a11 o_a12 o_a13 o_a14 o_a15 o_a16 o_thrown, ai E o_a1 42 o_m, ai E o_a3 42 o_was, ai E o_a8 3 o_numbers, ai E o_a9 8192 o_most, ai E o_a11 8 o_kept, ai E o_a12 8 o_keptKind, ai E o_a13 8 o_keptFigure, ai E o_a14 8 o_sort, ai E o_a15 8 o_size, ai E o_a16 800 o_element]) [3, 1] [0, 2, 4, 5, 6, 7, 8, 9, 10, 11, 12] (ws := [oMo o_h o_a0 o_a1 o_a2 o_a3 o_hasImage o_place o_rowAt o_rowEnd o_a8 o_a9 o_seed o_a11 o_a12 o_a13 o_a14 o_a15 o_a16 o_thrown, ai E o_a0 42 o_s, ai E o_a1 42 o_m, ai E o_a2 42 o_image, ai E o_a3 42 o_was, ai E o_a8 3 o_numbers, ai E o_a9 8192 o_most, ai E o_a11 8 o_kept, ai E o_a12 8 o_keptKind, ai E o_a13 8 o_keptFigure, ai E o_a14 8 o_sort, ai E o_a15 8 o_size, ai E o_a16 800 o_element]) (ws' := [oMo o_h o_a0 o_a1 o_a2 o_a3 o_hasImage o_place o_rowAt o_rowEnd o_a8 o_a9 o_seed o_a11 o_a12 o_a13 o_a14 o_a15 o_a16 o_thrown, ai E o_a0 42 y2, ai E o_a1 42 o_m, ai E o_a2 42 o_image, ai E o_a3 42 o_was, ai E o_a8 3 o_numbers, ai E o_a9 8192 o_most, ai E o_a11 8 o_kept, ai E o_a12 8 o_keptKind, ai E o_a13 8 o_keptFigure, ai E o_a14 8 o_sort, ai E o_a15 8 o_size, ai E o_a16 800 o_element]) (rest := []) (st1 := []) hC q_X10_copies kw_4_215 (c_X10_copies l E o_a2 o_a0 o_image o_s N y2 h3) ⟨rfl, rfl⟩ ⟨Nat.le_of_ble_eq_true rfl, Nat.le_of_ble_eq_true rfl⟩ ⟨Nat.zero_le _, Nat.zero_le _⟩ hP hD hS hA hG (by decide) rfl rfl rfl rfl rfl rfl rfl rfl hl.1 rfl (Nat.le_of_ble_eq_true rfl) dX10_restore_18 rfl (fun H locs hP hD hS => ?_)
    refine lv_aload_n hx hb dX10_restore_21 rfl (lv_at hl 0 rfl) ?_
    refine va_get (D := E.1) (ci := 4) (v := .ref o_a0) (C := RX10) (T := TX10) (N := 18) hx hb ht i_X10 hown hK hP 0 rfl rfl 0 (by decide) (ht _ kw_4_134) (fun _ h9 => h9) rfl dX10_restore_22 ?_
    refine lv_iconst (v := (1 : Int32)) hx hb dX10_restore_25 (by decide) ?_
    refine va_iald hx hb hK hP 1 0 rfl rfl (ix_s (by decide)) dX10_restore_26 ?_
    refine W.eq (g2 := F0 m 27 ls [.int (y2 1)]) rfl ?_
    refine lv_topi (fun z4 ez4 => ?_)
    have hv := nm_s ez4 hv
    cases hv
    exact W.iret hx hb hr (fun t h9 _ => ⟨rfl, by rw [h9]; exact hP, hS.F h9⟩) hS.2.2 dX10_restore_27 hlk
  · have hv := if_y c1 hv
    refine lv_bipush (v := (-3 : Int32)) hx hb dX10_restore_7 (by decide) ?_
    refine lv_topi (fun z5 ez5 => ?_)
    have hv := nm_s ez5 hv
    cases hv
    exact W.iret hx hb hr (fun t h9 _ => ⟨rfl, by rw [h9]; exact hP, hS.F h9⟩) hS.2.2 dX10_restore_9 hlk
theorem dX10_count_0 : decode cX10_count 0 = .ok (.iload_n 1, 1) := by decide +kernel
theorem dX10_count_1 : decode cX10_count 1 = .ok (.tableswitch 83 0 6 #[43, 43, 43, 50, 58, 67, 76], 43) := by decide +kernel
theorem dX10_count_44 : decode cX10_count 44 = .ok (.aload_n 0, 1) := by decide +kernel
theorem dX10_count_45 : decode cX10_count 45 = .ok (.getfield 9, 3) := by decide +kernel
theorem dX10_count_48 : decode cX10_count 48 = .ok (.iload_n 1, 1) := by decide +kernel
theorem dX10_count_49 : decode cX10_count 49 = .ok (.iaload, 1) := by decide +kernel
theorem dX10_count_50 : decode cX10_count 50 = .ok (.ireturn, 1) := by decide +kernel
theorem dX10_count_51 : decode cX10_count 51 = .ok (.aload_n 0, 1) := by decide +kernel
theorem dX10_count_52 : decode cX10_count 52 = .ok (.getfield 9, 3) := by decide +kernel
theorem dX10_count_55 : decode cX10_count 55 = .ok (.invokestatic 92, 3) := by decide +kernel
theorem dX10_count_58 : decode cX10_count 58 = .ok (.ireturn, 1) := by decide +kernel
theorem dX10_count_59 : decode cX10_count 59 = .ok (.aload_n 0, 1) := by decide +kernel
theorem dX10_count_60 : decode cX10_count 60 = .ok (.getfield 9, 3) := by decide +kernel
theorem dX10_count_63 : decode cX10_count 63 = .ok (.iconst 1, 1) := by decide +kernel
theorem dX10_count_64 : decode cX10_count 64 = .ok (.invokestatic 79, 3) := by decide +kernel
theorem dX10_count_67 : decode cX10_count 67 = .ok (.ireturn, 1) := by decide +kernel
theorem dX10_count_68 : decode cX10_count 68 = .ok (.aload_n 0, 1) := by decide +kernel
theorem dX10_count_69 : decode cX10_count 69 = .ok (.getfield 9, 3) := by decide +kernel
theorem dX10_count_72 : decode cX10_count 72 = .ok (.iconst (-1), 1) := by decide +kernel
theorem dX10_count_73 : decode cX10_count 73 = .ok (.invokestatic 79, 3) := by decide +kernel
theorem dX10_count_76 : decode cX10_count 76 = .ok (.ireturn, 1) := by decide +kernel
theorem dX10_count_77 : decode cX10_count 77 = .ok (.aload_n 0, 1) := by decide +kernel
theorem dX10_count_78 : decode cX10_count 78 = .ok (.getfield 9, 3) := by decide +kernel
theorem dX10_count_81 : decode cX10_count 81 = .ok (.iconst 3, 1) := by decide +kernel
theorem dX10_count_82 : decode cX10_count 82 = .ok (.iaload, 1) := by decide +kernel
theorem dX10_count_83 : decode cX10_count 83 = .ok (.ireturn, 1) := by decide +kernel
theorem dX10_count_84 : decode cX10_count 84 = .ok (.iconst (-1), 1) := by decide +kernel
theorem dX10_count_85 : decode cX10_count 85 = .ok (.ireturn, 1) := by decide +kernel
def f_X10_count (N : Nat) (o_s : Nat → Int32) (p1 : Int32) : Option (Int32) := if p1 = (0 : Int32) then gd (ix p1 42) (some (o_s p1.toNatClampNeg)) else if p1 = (1 : Int32) then gd (ix p1 42) (some (o_s p1.toNatClampNeg)) else if p1 = (2 : Int32) then gd (ix p1 42) (some (o_s p1.toNatClampNeg)) else if p1 = (3 : Int32) then ob (f_X10_heardIn N o_s) (fun r8 => some r8) else if p1 = (4 : Int32) then ob (f_X10_moodSet N o_s (1 : Int32)) (fun r11 => some r11) else if p1 = (5 : Int32) then ob (f_X10_moodSet N o_s (-1 : Int32)) (fun r14 => some r14) else if p1 = (6 : Int32) then some (o_s 3) else some (-1 : Int32)
set_option maxHeartbeats 4000000 in
set_option maxRecDepth 100000 in
theorem c_X10_count (l : Launch) (E : EE) (o_h : Nat) (o_a0 : Nat) (o_a1 : Nat) (o_a2 : Nat) (o_a3 : Nat) (o_a8 : Nat) (o_a9 : Nat) (o_a11 : Nat) (o_a12 : Nat) (o_a13 : Nat) (o_a14 : Nat) (o_a15 : Nat) (o_a16 : Nat) (o_s : Nat → Int32) (o_m : Nat → Int32) (o_image : Nat → Int32) (o_was : Nat → Int32) (o_hasImage : Int32) (o_place : Int32) (o_rowAt : Int32) (o_rowEnd : Int32) (o_numbers : Nat → Int32) (o_most : Nat → Int32) (o_seed : Int32) (o_kept : Nat → Int32) (o_keptKind : Nat → Int32) (o_keptFigure : Nat → Int32) (o_sort : Nat → Int32) (o_size : Nat → Int32) (o_element : Nat → Int32) (o_thrown : Int32) (p1 : Int32) (N : Nat) (res : Int32) (hv : f_X10_count N o_s p1 = some res) : Rd l E yX10_count cX10_count 2 (some .int) ({ frames := 3, cells := 0, slots := 0, locals := 64 }) [.ref o_h, .int p1] [oMo o_h o_a0 o_a1 o_a2 o_a3 o_hasImage o_place o_rowAt o_rowEnd o_a8 o_a9 o_seed o_a11 o_a12 o_a13 o_a14 o_a15 o_a16 o_thrown, ai E o_a0 42 o_s, ai E o_a1 42 o_m, ai E o_a2 42 o_image, ai E o_a3 42 o_was, ai E o_a8 3 o_numbers, ai E o_a9 8192 o_most, ai E o_a11 8 o_kept, ai E o_a12 8 o_keptKind, ai E o_a13 8 o_keptFigure, ai E o_a14 8 o_sort, ai E o_a15 8 o_size, ai E o_a16 800 o_element] (some (.int res)) := by
  refine Rd.intro RX10 (by decide) rfl (Nat.le_of_ble_eq_true rfl) ?_
  intro p e s m below meth c ls hC hr hlk hP hG hl
  obtain ⟨hx, hb, hml, hown, ht⟩ := id hC
  have hK := hG.1
  have hl : lv_has ls 2 [(0, .ref o_h), (1, .int p1)] := hl
  rw [f_X10_count] at hv
  refine lv_iload_n hx hb dX10_count_0 rfl (lv_at hl 1 rfl) ?_
  rcases Decidable.em (p1 = (0 : Int32)) with c1 | c1
  · have hv := if_y c1 hv
    refine lv_tableIn (tgt := 44) (off := 43) hx hb dX10_count_1 (by rw [c1]; decide) (by rw [c1]; decide) (by rw [c1]; rfl) (by decide) ?_
    refine lv_aload_n hx hb dX10_count_44 rfl (lv_at hl 0 rfl) ?_
    refine va_get (D := E.1) (ci := 4) (v := .ref o_a0) (C := RX10) (T := TX10) (N := 18) hx hb ht i_X10 hown hK hP 0 rfl rfl 0 (by decide) (ht _ kw_4_134) (fun _ h9 => h9) rfl dX10_count_45 ?_
    refine lv_iload_n hx hb dX10_count_48 rfl (lv_at hl 1 rfl) ?_
    obtain ⟨g2, hv⟩ := gd_s hv
    refine va_iald hx hb hK hP 1 0 rfl rfl (ix_s g2) dX10_count_49 ?_
    exact W.iret (v := (o_s p1.toNatClampNeg)) hx hb hr (fun t h9 _ => ⟨rv_i hv, h9⟩) (fun q h => absurd h List.not_mem_nil) dX10_count_50 hlk
  · have hv := if_n c1 hv
    rcases Decidable.em (p1 = (1 : Int32)) with c3 | c3
    · have hv := if_y c3 hv
      refine lv_tableIn (tgt := 44) (off := 43) hx hb dX10_count_1 (by rw [c3]; decide) (by rw [c3]; decide) (by rw [c3]; rfl) (by decide) ?_
      refine lv_aload_n hx hb dX10_count_44 rfl (lv_at hl 0 rfl) ?_
      refine va_get (D := E.1) (ci := 4) (v := .ref o_a0) (C := RX10) (T := TX10) (N := 18) hx hb ht i_X10 hown hK hP 0 rfl rfl 0 (by decide) (ht _ kw_4_134) (fun _ h9 => h9) rfl dX10_count_45 ?_
      refine lv_iload_n hx hb dX10_count_48 rfl (lv_at hl 1 rfl) ?_
      obtain ⟨g4, hv⟩ := gd_s hv
      refine va_iald hx hb hK hP 1 0 rfl rfl (ix_s g4) dX10_count_49 ?_
      exact W.iret (v := (o_s p1.toNatClampNeg)) hx hb hr (fun t h9 _ => ⟨rv_i hv, h9⟩) (fun q h => absurd h List.not_mem_nil) dX10_count_50 hlk
    · have hv := if_n c3 hv
      rcases Decidable.em (p1 = (2 : Int32)) with c5 | c5
      · have hv := if_y c5 hv
        refine lv_tableIn (tgt := 44) (off := 43) hx hb dX10_count_1 (by rw [c5]; decide) (by rw [c5]; decide) (by rw [c5]; rfl) (by decide) ?_
        refine lv_aload_n hx hb dX10_count_44 rfl (lv_at hl 0 rfl) ?_
        refine va_get (D := E.1) (ci := 4) (v := .ref o_a0) (C := RX10) (T := TX10) (N := 18) hx hb ht i_X10 hown hK hP 0 rfl rfl 0 (by decide) (ht _ kw_4_134) (fun _ h9 => h9) rfl dX10_count_45 ?_
        refine lv_iload_n hx hb dX10_count_48 rfl (lv_at hl 1 rfl) ?_
        obtain ⟨g6, hv⟩ := gd_s hv
        refine va_iald hx hb hK hP 1 0 rfl rfl (ix_s g6) dX10_count_49 ?_
        exact W.iret (v := (o_s p1.toNatClampNeg)) hx hb hr (fun t h9 _ => ⟨rv_i hv, h9⟩) (fun q h => absurd h List.not_mem_nil) dX10_count_50 hlk
      · have hv := if_n c5 hv
        rcases Decidable.em (p1 = (3 : Int32)) with c7 | c7
        · have hv := if_y c7 hv
          refine lv_tableIn (tgt := 51) (off := 50) hx hb dX10_count_1 (by rw [c7]; decide) (by rw [c7]; decide) (by rw [c7]; rfl) (by decide) ?_
          refine lv_aload_n hx hb dX10_count_51 rfl (lv_at hl 0 rfl) ?_
          refine va_get (D := E.1) (ci := 4) (v := .ref o_a0) (C := RX10) (T := TX10) (N := 18) hx hb ht i_X10 hown hK hP 0 rfl rfl 0 (by decide) (ht _ kw_4_134) (fun _ h9 => h9) rfl dX10_count_52 ?_
          obtain ⟨r8, h9, hv⟩ := ob_s hv
          refine rdS (rest := []) (st1 := [.int r8]) (w := [ai E o_a0 42 o_s]) hC q_X10_heardIn kw_5_73 (c_X10_heardIn l E o_a0 o_s N r8 h9) ⟨rfl, rfl⟩ ⟨Nat.le_of_ble_eq_true rfl, Nat.le_of_ble_eq_true rfl⟩ ⟨Nat.zero_le _, Nat.zero_le _⟩ (hP.sub (ws' := [ai E o_a0 42 o_s]) [1] rfl) hG rfl hl.1 rfl (Nat.le_of_ble_eq_true rfl) dX10_count_55 rfl ?_
          exact W.iret (v := r8) hx hb hr (fun t h9 _ => ⟨rv_i hv, h9⟩) (fun q h => absurd h List.not_mem_nil) dX10_count_58 hlk
        · have hv := if_n c7 hv
          rcases Decidable.em (p1 = (4 : Int32)) with c10 | c10
          · have hv := if_y c10 hv
            refine lv_tableIn (tgt := 59) (off := 58) hx hb dX10_count_1 (by rw [c10]; decide) (by rw [c10]; decide) (by rw [c10]; rfl) (by decide) ?_
            refine lv_aload_n hx hb dX10_count_59 rfl (lv_at hl 0 rfl) ?_
            refine va_get (D := E.1) (ci := 4) (v := .ref o_a0) (C := RX10) (T := TX10) (N := 18) hx hb ht i_X10 hown hK hP 0 rfl rfl 0 (by decide) (ht _ kw_4_134) (fun _ h9 => h9) rfl dX10_count_60 ?_
            refine lv_iconst (v := (1 : Int32)) hx hb dX10_count_63 (by decide) ?_
            obtain ⟨r11, h12, hv⟩ := ob_s hv
            refine rdS (rest := []) (st1 := [.int r11]) (w := [ai E o_a0 42 o_s]) hC q_X10_moodSet kw_5_79 (c_X10_moodSet l E o_a0 o_s (1 : Int32) N r11 h12) ⟨rfl, rfl⟩ ⟨Nat.le_of_ble_eq_true rfl, Nat.le_of_ble_eq_true rfl⟩ ⟨Nat.zero_le _, Nat.zero_le _⟩ (hP.sub (ws' := [ai E o_a0 42 o_s]) [1] rfl) hG rfl hl.1 rfl (Nat.le_of_ble_eq_true rfl) dX10_count_64 rfl ?_
            exact W.iret (v := r11) hx hb hr (fun t h9 _ => ⟨rv_i hv, h9⟩) (fun q h => absurd h List.not_mem_nil) dX10_count_67 hlk
          · have hv := if_n c10 hv
            rcases Decidable.em (p1 = (5 : Int32)) with c13 | c13
            · have hv := if_y c13 hv
              refine lv_tableIn (tgt := 68) (off := 67) hx hb dX10_count_1 (by rw [c13]; decide) (by rw [c13]; decide) (by rw [c13]; rfl) (by decide) ?_
              refine lv_aload_n hx hb dX10_count_68 rfl (lv_at hl 0 rfl) ?_
              refine va_get (D := E.1) (ci := 4) (v := .ref o_a0) (C := RX10) (T := TX10) (N := 18) hx hb ht i_X10 hown hK hP 0 rfl rfl 0 (by decide) (ht _ kw_4_134) (fun _ h9 => h9) rfl dX10_count_69 ?_
              refine lv_iconst (v := (-1 : Int32)) hx hb dX10_count_72 (by decide) ?_
              obtain ⟨r14, h15, hv⟩ := ob_s hv
              refine rdS (rest := []) (st1 := [.int r14]) (w := [ai E o_a0 42 o_s]) hC q_X10_moodSet kw_5_79 (c_X10_moodSet l E o_a0 o_s (-1 : Int32) N r14 h15) ⟨rfl, rfl⟩ ⟨Nat.le_of_ble_eq_true rfl, Nat.le_of_ble_eq_true rfl⟩ ⟨Nat.zero_le _, Nat.zero_le _⟩ (hP.sub (ws' := [ai E o_a0 42 o_s]) [1] rfl) hG rfl hl.1 rfl (Nat.le_of_ble_eq_true rfl) dX10_count_73 rfl ?_
              exact W.iret (v := r14) hx hb hr (fun t h9 _ => ⟨rv_i hv, h9⟩) (fun q h => absurd h List.not_mem_nil) dX10_count_76 hlk
            · have hv := if_n c13 hv
              rcases Decidable.em (p1 = (6 : Int32)) with c16 | c16
              · have hv := if_y c16 hv
                refine lv_tableIn (tgt := 77) (off := 76) hx hb dX10_count_1 (by rw [c16]; decide) (by rw [c16]; decide) (by rw [c16]; rfl) (by decide) ?_
                refine lv_aload_n hx hb dX10_count_77 rfl (lv_at hl 0 rfl) ?_
                refine va_get (D := E.1) (ci := 4) (v := .ref o_a0) (C := RX10) (T := TX10) (N := 18) hx hb ht i_X10 hown hK hP 0 rfl rfl 0 (by decide) (ht _ kw_4_134) (fun _ h9 => h9) rfl dX10_count_78 ?_
                refine lv_iconst (v := (3 : Int32)) hx hb dX10_count_81 (by decide) ?_
                refine va_iald hx hb hK hP 1 0 rfl rfl (ix_s (by decide)) dX10_count_82 ?_
                refine W.eq (g2 := F0 m 83 ls [.int (o_s 3)]) rfl ?_
                exact W.iret (v := (o_s 3)) hx hb hr (fun t h9 _ => ⟨rv_i hv, h9⟩) (fun q h => absurd h List.not_mem_nil) dX10_count_83 hlk
              · have hv := if_n c16 hv
                refine lv_tableD (tgt := 84) hx hb dX10_count_1 (fun i h => match i, h with | 0, _ => Or.inr (lv_neT c1 (by decide)) | 1, _ => Or.inr (lv_neT c3 (by decide)) | 2, _ => Or.inr (lv_neT c5 (by decide)) | 3, _ => Or.inr (lv_neT c7 (by decide)) | 4, _ => Or.inr (lv_neT c10 (by decide)) | 5, _ => Or.inr (lv_neT c13 (by decide)) | 6, _ => Or.inr (lv_neT c16 (by decide)) | i + 7, h => absurd h (by simp)) rfl (by decide) ?_
                refine lv_iconst (v := (-1 : Int32)) hx hb dX10_count_84 (by decide) ?_
                exact W.iret (v := (-1 : Int32)) hx hb hr (fun t h9 _ => ⟨rv_i hv, h9⟩) (fun q h => absurd h List.not_mem_nil) dX10_count_85 hlk
theorem dX10_thrown_0 : decode cX10_thrown 0 = .ok (.aload_n 0, 1) := by decide +kernel
theorem dX10_thrown_1 : decode cX10_thrown 1 = .ok (.getfield 260, 3) := by decide +kernel
theorem dX10_thrown_4 : decode cX10_thrown 4 = .ok (.ireturn, 1) := by decide +kernel
def f_X10_thrown (o_thrown : Int32) : Option (Int32) := some o_thrown
set_option maxHeartbeats 4000000 in
set_option maxRecDepth 100000 in
theorem c_X10_thrown (l : Launch) (E : EE) (o_h : Nat) (o_a0 : Nat) (o_a1 : Nat) (o_a2 : Nat) (o_a3 : Nat) (o_a8 : Nat) (o_a9 : Nat) (o_a11 : Nat) (o_a12 : Nat) (o_a13 : Nat) (o_a14 : Nat) (o_a15 : Nat) (o_a16 : Nat) (o_s : Nat → Int32) (o_m : Nat → Int32) (o_image : Nat → Int32) (o_was : Nat → Int32) (o_hasImage : Int32) (o_place : Int32) (o_rowAt : Int32) (o_rowEnd : Int32) (o_numbers : Nat → Int32) (o_most : Nat → Int32) (o_seed : Int32) (o_kept : Nat → Int32) (o_keptKind : Nat → Int32) (o_keptFigure : Nat → Int32) (o_sort : Nat → Int32) (o_size : Nat → Int32) (o_element : Nat → Int32) (o_thrown : Int32) (res : Int32) (hv : f_X10_thrown o_thrown = some res) : Rd l E yX10_thrown cX10_thrown 1 (some .int) ({ frames := 0, cells := 0, slots := 0, locals := 0 }) [.ref o_h] [oMo o_h o_a0 o_a1 o_a2 o_a3 o_hasImage o_place o_rowAt o_rowEnd o_a8 o_a9 o_seed o_a11 o_a12 o_a13 o_a14 o_a15 o_a16 o_thrown, ai E o_a0 42 o_s, ai E o_a1 42 o_m, ai E o_a2 42 o_image, ai E o_a3 42 o_was, ai E o_a8 3 o_numbers, ai E o_a9 8192 o_most, ai E o_a11 8 o_kept, ai E o_a12 8 o_keptKind, ai E o_a13 8 o_keptFigure, ai E o_a14 8 o_sort, ai E o_a15 8 o_size, ai E o_a16 800 o_element] (some (.int res)) := by
  refine Rd.intro RX10 (by decide) rfl (Nat.le_of_ble_eq_true rfl) ?_
  intro p e s m below meth c ls hC hr hlk hP hG hl
  obtain ⟨hx, hb, hml, hown, ht⟩ := id hC
  have hK := hG.1
  have hl : lv_has ls 1 [(0, .ref o_h)] := hl
  rw [f_X10_thrown] at hv
  refine lv_aload_n hx hb dX10_thrown_0 rfl (lv_at hl 0 rfl) ?_
  refine va_get (D := E.1) (ci := 4) (v := .int o_thrown) (C := RX10) (T := TX10) (N := 18) hx hb ht i_X10 hown hK hP 0 rfl rfl 17 (by decide) (ht _ kw_4_151) (fun _ h9 => h9) rfl dX10_thrown_1 ?_
  exact W.iret (v := o_thrown) hx hb hr (fun t h9 _ => ⟨rv_i hv, h9⟩) (fun q h => absurd h List.not_mem_nil) dX10_thrown_4 hlk
theorem dX10_keep_0 : decode cX10_keep 0 = .ok (.iload_n 1, 1) := by decide +kernel
theorem dX10_keep_1 : decode cX10_keep 1 = .ok (.invokestatic 263, 3) := by decide +kernel
theorem dX10_keep_4 : decode cX10_keep 4 = .ok (.ifCond .eq 38, 3) := by decide +kernel
theorem dX10_keep_7 : decode cX10_keep 7 = .ok (.iload_n 2, 1) := by decide +kernel
theorem dX10_keep_8 : decode cX10_keep 8 = .ok (.iconst 0, 1) := by decide +kernel
theorem dX10_keep_9 : decode cX10_keep 9 = .ok (.iconst 1, 1) := by decide +kernel
theorem dX10_keep_10 : decode cX10_keep 10 = .ok (.invokestatic 46, 3) := by decide +kernel
theorem dX10_keep_13 : decode cX10_keep 13 = .ok (.ifCond .eq 29, 3) := by decide +kernel
theorem dX10_keep_16 : decode cX10_keep 16 = .ok (.iload_n 2, 1) := by decide +kernel
theorem dX10_keep_17 : decode cX10_keep 17 = .ok (.iconst 1, 1) := by decide +kernel
theorem dX10_keep_18 : decode cX10_keep 18 = .ok (.if_icmp .ne 26, 3) := by decide +kernel
theorem dX10_keep_21 : decode cX10_keep 21 = .ok (.iload_n 3, 1) := by decide +kernel
theorem dX10_keep_22 : decode cX10_keep 22 = .ok (.iconst 0, 1) := by decide +kernel
theorem dX10_keep_23 : decode cX10_keep 23 = .ok (.bipush 7, 2) := by decide +kernel
theorem dX10_keep_25 : decode cX10_keep 25 = .ok (.invokestatic 46, 3) := by decide +kernel
theorem dX10_keep_28 : decode cX10_keep 28 = .ok (.ifCond .eq 14, 3) := by decide +kernel
theorem dX10_keep_31 : decode cX10_keep 31 = .ok (.iload 4, 2) := by decide +kernel
theorem dX10_keep_33 : decode cX10_keep 33 = .ok (.iconst 0, 1) := by decide +kernel
theorem dX10_keep_34 : decode cX10_keep 34 = .ok (.bipush 9, 2) := by decide +kernel
theorem dX10_keep_36 : decode cX10_keep 36 = .ok (.invokestatic 46, 3) := by decide +kernel
theorem dX10_keep_39 : decode cX10_keep 39 = .ok (.ifCond .ne 5, 3) := by decide +kernel
theorem dX10_keep_42 : decode cX10_keep 42 = .ok (.iconst (-1), 1) := by decide +kernel
theorem dX10_keep_43 : decode cX10_keep 43 = .ok (.ireturn, 1) := by decide +kernel
theorem dX10_keep_44 : decode cX10_keep 44 = .ok (.aload_n 0, 1) := by decide +kernel
theorem dX10_keep_45 : decode cX10_keep 45 = .ok (.getfield 28, 3) := by decide +kernel
theorem dX10_keep_48 : decode cX10_keep 48 = .ok (.iload_n 1, 1) := by decide +kernel
theorem dX10_keep_49 : decode cX10_keep 49 = .ok (.iload_n 2, 1) := by decide +kernel
theorem dX10_keep_50 : decode cX10_keep 50 = .ok (.iastore, 1) := by decide +kernel
theorem dX10_keep_51 : decode cX10_keep 51 = .ok (.aload_n 0, 1) := by decide +kernel
theorem dX10_keep_52 : decode cX10_keep 52 = .ok (.getfield 31, 3) := by decide +kernel
theorem dX10_keep_55 : decode cX10_keep 55 = .ok (.iload_n 1, 1) := by decide +kernel
theorem dX10_keep_56 : decode cX10_keep 56 = .ok (.iload_n 3, 1) := by decide +kernel
theorem dX10_keep_57 : decode cX10_keep 57 = .ok (.iastore, 1) := by decide +kernel
theorem dX10_keep_58 : decode cX10_keep 58 = .ok (.aload_n 0, 1) := by decide +kernel
theorem dX10_keep_59 : decode cX10_keep 59 = .ok (.getfield 34, 3) := by decide +kernel
theorem dX10_keep_62 : decode cX10_keep 62 = .ok (.iload_n 1, 1) := by decide +kernel
theorem dX10_keep_63 : decode cX10_keep 63 = .ok (.iload 4, 2) := by decide +kernel
theorem dX10_keep_65 : decode cX10_keep 65 = .ok (.iastore, 1) := by decide +kernel
theorem dX10_keep_66 : decode cX10_keep 66 = .ok (.iconst 0, 1) := by decide +kernel
theorem dX10_keep_67 : decode cX10_keep 67 = .ok (.ireturn, 1) := by decide +kernel
def f_X10_keep (o_kept : Nat → Int32) (o_keptKind : Nat → Int32) (o_keptFigure : Nat → Int32) (p1 : Int32) (p2 : Int32) (p3 : Int32) (p4 : Int32) : Option (Int32 × (Nat → Int32) × (Nat → Int32) × (Nat → Int32)) := ob (f_X10_isShelf p1) (fun r1 => if r1 = 0 then nm (-1 : Int32) (fun z4 => some (z4, o_kept, o_keptKind, o_keptFigure)) else ob (f_X10_isIn p2 (0 : Int32) (1 : Int32)) (fun r5 => if r5 = 0 then nm (-1 : Int32) (fun z8 => some (z8, o_kept, o_keptKind, o_keptFigure)) else if p2 = (1 : Int32) then ob (f_X10_isIn p3 (0 : Int32) (7 : Int32)) (fun r17 => if r17 = 0 then nm (-1 : Int32) (fun z20 => some (z20, o_kept, o_keptKind, o_keptFigure)) else ob (f_X10_isIn p4 (0 : Int32) (9 : Int32)) (fun r21 => if r21 = 0 then nm (-1 : Int32) (fun z31 => some (z31, o_kept, o_keptKind, o_keptFigure)) else gd (ix p1 8) (nm (upd o_kept p1.toNatClampNeg p2) (fun f25 => gd (ix p1 8) (nm (upd o_keptKind p1.toNatClampNeg p3) (fun f27 => gd (ix p1 8) (nm (upd o_keptFigure p1.toNatClampNeg p4) (fun f29 => nm (0 : Int32) (fun z30 => some (z30, f25, f27, f29)))))))))) else gd (ix p1 8) (nm (upd o_kept p1.toNatClampNeg p2) (fun f11 => gd (ix p1 8) (nm (upd o_keptKind p1.toNatClampNeg p3) (fun f13 => gd (ix p1 8) (nm (upd o_keptFigure p1.toNatClampNeg p4) (fun f15 => nm (0 : Int32) (fun z16 => some (z16, f11, f13, f15))))))))))
set_option maxHeartbeats 4000000 in
set_option maxRecDepth 100000 in
theorem c_X10_keep (l : Launch) (E : EE) (o_h : Nat) (o_a0 : Nat) (o_a1 : Nat) (o_a2 : Nat) (o_a3 : Nat) (o_a8 : Nat) (o_a9 : Nat) (o_a11 : Nat) (o_a12 : Nat) (o_a13 : Nat) (o_a14 : Nat) (o_a15 : Nat) (o_a16 : Nat) (o_s : Nat → Int32) (o_m : Nat → Int32) (o_image : Nat → Int32) (o_was : Nat → Int32) (o_hasImage : Int32) (o_place : Int32) (o_rowAt : Int32) (o_rowEnd : Int32) (o_numbers : Nat → Int32) (o_most : Nat → Int32) (o_seed : Int32) (o_kept : Nat → Int32) (o_keptKind : Nat → Int32) (o_keptFigure : Nat → Int32) (o_sort : Nat → Int32) (o_size : Nat → Int32) (o_element : Nat → Int32) (o_thrown : Int32) (p1 : Int32) (p2 : Int32) (p3 : Int32) (p4 : Int32) (res : Int32) (w_o_kept : Nat → Int32) (w_o_keptKind : Nat → Int32) (w_o_keptFigure : Nat → Int32) (hv : f_X10_keep o_kept o_keptKind o_keptFigure p1 p2 p3 p4 = some (res, w_o_kept, w_o_keptKind, w_o_keptFigure)) : Wr l E yX10_keep cX10_keep 5 (some .int) ({ frames := 2, cells := 0, slots := 0, locals := 42 }) [.ref o_h, .int p1, .int p2, .int p3, .int p4] [oMo o_h o_a0 o_a1 o_a2 o_a3 o_hasImage o_place o_rowAt o_rowEnd o_a8 o_a9 o_seed o_a11 o_a12 o_a13 o_a14 o_a15 o_a16 o_thrown, ai E o_a0 42 o_s, ai E o_a1 42 o_m, ai E o_a2 42 o_image, ai E o_a3 42 o_was, ai E o_a8 3 o_numbers, ai E o_a9 8192 o_most, ai E o_a11 8 o_kept, ai E o_a12 8 o_keptKind, ai E o_a13 8 o_keptFigure, ai E o_a14 8 o_sort, ai E o_a15 8 o_size, ai E o_a16 800 o_element] [oMo o_h o_a0 o_a1 o_a2 o_a3 o_hasImage o_place o_rowAt o_rowEnd o_a8 o_a9 o_seed o_a11 o_a12 o_a13 o_a14 o_a15 o_a16 o_thrown, ai E o_a0 42 o_s, ai E o_a1 42 o_m, ai E o_a2 42 o_image, ai E o_a3 42 o_was, ai E o_a8 3 o_numbers, ai E o_a9 8192 o_most, ai E o_a11 8 w_o_kept, ai E o_a12 8 w_o_keptKind, ai E o_a13 8 w_o_keptFigure, ai E o_a14 8 o_sort, ai E o_a15 8 o_size, ai E o_a16 800 o_element] (some (.int res)) := by
  refine Wr.intro RX10 (by decide) rfl (Nat.le_of_ble_eq_true rfl) ?_
  intro p e s m below meth c ls A hC hr hlk hmn hP hD hS hA hG hl
  obtain ⟨hx, hb, hml, hown, ht⟩ := id hC
  have hK := hG.1
  have hl : lv_has ls 5 [(0, .ref o_h), (1, .int p1), (2, .int p2), (3, .int p3), (4, .int p4)] := hl
  rw [f_X10_keep] at hv
  refine lv_iload_n hx hb dX10_keep_0 rfl (lv_at hl 1 rfl) ?_
  obtain ⟨r1, h2, hv⟩ := ob_s hv
  refine rdS (rest := []) (st1 := [.int r1]) (w := []) hC q_X10_isShelf kw_4_197 (c_X10_isShelf l E p1 r1 h2) ⟨rfl, rfl⟩ ⟨Nat.le_of_ble_eq_true rfl, Nat.le_of_ble_eq_true rfl⟩ ⟨Nat.zero_le _, Nat.zero_le _⟩ (hP.sub (ws' := []) [] rfl) hG rfl hl.1 rfl (Nat.le_of_ble_eq_true rfl) dX10_keep_1 rfl ?_
  refine lv_if_eq (tgt := 42) hx hb dX10_keep_4 (by decide) (fun c3 => ?_) (fun c3 => ?_)
  · have hv := if_y c3 hv
    refine lv_iconst (v := (-1 : Int32)) hx hb dX10_keep_42 (by decide) ?_
    refine lv_topi (fun z4 ez4 => ?_)
    have hv := nm_s ez4 hv
    cases hv
    exact W.iret hx hb hr (fun t h9 _ => ⟨rfl, by rw [h9]; exact hP, hS.F h9⟩) hS.2.2 dX10_keep_43 hlk
  · have hv := if_n c3 hv
    refine lv_iload_n hx hb dX10_keep_7 rfl (lv_at hl 2 rfl) ?_
    refine lv_iconst (v := (0 : Int32)) hx hb dX10_keep_8 (by decide) ?_
    refine lv_iconst (v := (1 : Int32)) hx hb dX10_keep_9 (by decide) ?_
    obtain ⟨r5, h6, hv⟩ := ob_s hv
    refine rdS (rest := []) (st1 := [.int r5]) (w := []) hC q_X10_isIn kw_4_200 (c_X10_isIn l E p2 (0 : Int32) (1 : Int32) r5 h6) ⟨rfl, rfl⟩ ⟨Nat.le_of_ble_eq_true rfl, Nat.le_of_ble_eq_true rfl⟩ ⟨Nat.zero_le _, Nat.zero_le _⟩ (hP.sub (ws' := []) [] rfl) hG rfl hl.1 rfl (Nat.le_of_ble_eq_true rfl) dX10_keep_10 rfl ?_
    refine lv_if_eq (tgt := 42) hx hb dX10_keep_13 (by decide) (fun c7 => ?_) (fun c7 => ?_)
    · have hv := if_y c7 hv
      refine lv_iconst (v := (-1 : Int32)) hx hb dX10_keep_42 (by decide) ?_
      refine lv_topi (fun z8 ez8 => ?_)
      have hv := nm_s ez8 hv
      cases hv
      exact W.iret hx hb hr (fun t h9 _ => ⟨rfl, by rw [h9]; exact hP, hS.F h9⟩) hS.2.2 dX10_keep_43 hlk
    · have hv := if_n c7 hv
      refine lv_iload_n hx hb dX10_keep_16 rfl (lv_at hl 2 rfl) ?_
      refine lv_iconst (v := (1 : Int32)) hx hb dX10_keep_17 (by decide) ?_
      refine lv_icmp_ne (tgt := 44) hx hb dX10_keep_18 (by decide) (fun c9 => ?_) (fun c9 => ?_)
      · have hv := if_n c9 hv
        refine lv_aload_n hx hb dX10_keep_44 rfl (lv_at hl 0 rfl) ?_
        refine va_get (D := E.1) (ci := 4) (v := .ref o_a11) (C := RX10) (T := TX10) (N := 18) hx hb ht i_X10 hown hK hP 0 rfl rfl 11 (by decide) (ht _ kw_4_145) (fun _ h9 => h9) rfl dX10_keep_45 ?_
        refine lv_iload_n hx hb dX10_keep_48 rfl (lv_at hl 1 rfl) ?_
        refine lv_iload_n hx hb dX10_keep_49 rfl (lv_at hl 2 rfl) ?_
        obtain ⟨g10, hv⟩ := gd_s hv
        refine va_iast hx hb hK hP hD hS 7 0 rfl rfl (ix_s g10) dX10_keep_50 (fun H locs hP hD hS => ?_)
        have hP : va_P E.1 vwCl [oMo o_h o_a0 o_a1 o_a2 o_a3 o_hasImage o_place o_rowAt o_rowEnd o_a8 o_a9 o_seed o_a11 o_a12 o_a13 o_a14 o_a15 o_a16 o_thrown, ai E o_a0 42 o_s, ai E o_a1 42 o_m, ai E o_a2 42 o_image, ai E o_a3 42 o_was, ai E o_a8 3 o_numbers, ai E o_a9 8192 o_most, ai E o_a11 8 (upd o_kept p1.toNatClampNeg p2), ai E o_a12 8 o_keptKind, ai E o_a13 8 o_keptFigure, ai E o_a14 8 o_sort, ai E o_a15 8 o_size, ai E o_a16 800 o_element] H := hP
        have hD : va_D A [oMo o_h o_a0 o_a1 o_a2 o_a3 o_hasImage o_place o_rowAt o_rowEnd o_a8 o_a9 o_seed o_a11 o_a12 o_a13 o_a14 o_a15 o_a16 o_thrown, ai E o_a0 42 o_s, ai E o_a1 42 o_m, ai E o_a2 42 o_image, ai E o_a3 42 o_was, ai E o_a8 3 o_numbers, ai E o_a9 8192 o_most, ai E o_a11 8 (upd o_kept p1.toNatClampNeg p2), ai E o_a12 8 o_keptKind, ai E o_a13 8 o_keptFigure, ai E o_a14 8 o_sort, ai E o_a15 8 o_size, ai E o_a16 800 o_element] := hD
        obtain ⟨f11, ef11⟩ : ∃ z, z = (upd o_kept p1.toNatClampNeg p2) := ⟨_, rfl⟩
        rw [← ef11] at hP hD
        have hv := nm_s ef11 hv
        refine lv_aload_n hx hb dX10_keep_51 rfl (lv_at hl 0 rfl) ?_
        refine va_get (D := E.1) (ci := 4) (v := .ref o_a12) (C := RX10) (T := TX10) (N := 18) hx hb ht i_X10 hown hK hP 0 rfl rfl 12 (by decide) (ht _ kw_4_146) (fun _ h9 => h9) rfl dX10_keep_52 ?_
        refine lv_iload_n hx hb dX10_keep_55 rfl (lv_at hl 1 rfl) ?_
        refine lv_iload_n hx hb dX10_keep_56 rfl (lv_at hl 3 rfl) ?_
        obtain ⟨g12, hv⟩ := gd_s hv
        refine va_iast hx hb hK hP hD hS 8 0 rfl rfl (ix_s g12) dX10_keep_57 (fun H locs hP hD hS => ?_)
        have hP : va_P E.1 vwCl [oMo o_h o_a0 o_a1 o_a2 o_a3 o_hasImage o_place o_rowAt o_rowEnd o_a8 o_a9 o_seed o_a11 o_a12 o_a13 o_a14 o_a15 o_a16 o_thrown, ai E o_a0 42 o_s, ai E o_a1 42 o_m, ai E o_a2 42 o_image, ai E o_a3 42 o_was, ai E o_a8 3 o_numbers, ai E o_a9 8192 o_most, ai E o_a11 8 f11, ai E o_a12 8 (upd o_keptKind p1.toNatClampNeg p3), ai E o_a13 8 o_keptFigure, ai E o_a14 8 o_sort, ai E o_a15 8 o_size, ai E o_a16 800 o_element] H := hP
        have hD : va_D A [oMo o_h o_a0 o_a1 o_a2 o_a3 o_hasImage o_place o_rowAt o_rowEnd o_a8 o_a9 o_seed o_a11 o_a12 o_a13 o_a14 o_a15 o_a16 o_thrown, ai E o_a0 42 o_s, ai E o_a1 42 o_m, ai E o_a2 42 o_image, ai E o_a3 42 o_was, ai E o_a8 3 o_numbers, ai E o_a9 8192 o_most, ai E o_a11 8 f11, ai E o_a12 8 (upd o_keptKind p1.toNatClampNeg p3), ai E o_a13 8 o_keptFigure, ai E o_a14 8 o_sort, ai E o_a15 8 o_size, ai E o_a16 800 o_element] := hD
        obtain ⟨f13, ef13⟩ : ∃ z, z = (upd o_keptKind p1.toNatClampNeg p3) := ⟨_, rfl⟩
        rw [← ef13] at hP hD
        have hv := nm_s ef13 hv
        refine lv_aload_n hx hb dX10_keep_58 rfl (lv_at hl 0 rfl) ?_
        refine va_get (D := E.1) (ci := 4) (v := .ref o_a13) (C := RX10) (T := TX10) (N := 18) hx hb ht i_X10 hown hK hP 0 rfl rfl 13 (by decide) (ht _ kw_4_147) (fun _ h9 => h9) rfl dX10_keep_59 ?_
        refine lv_iload_n hx hb dX10_keep_62 rfl (lv_at hl 1 rfl) ?_
        refine lv_iload hx hb dX10_keep_63 (lv_at hl 4 rfl) ?_
        obtain ⟨g14, hv⟩ := gd_s hv
        refine va_iast hx hb hK hP hD hS 9 0 rfl rfl (ix_s g14) dX10_keep_65 (fun H locs hP hD hS => ?_)
        have hP : va_P E.1 vwCl [oMo o_h o_a0 o_a1 o_a2 o_a3 o_hasImage o_place o_rowAt o_rowEnd o_a8 o_a9 o_seed o_a11 o_a12 o_a13 o_a14 o_a15 o_a16 o_thrown, ai E o_a0 42 o_s, ai E o_a1 42 o_m, ai E o_a2 42 o_image, ai E o_a3 42 o_was, ai E o_a8 3 o_numbers, ai E o_a9 8192 o_most, ai E o_a11 8 f11, ai E o_a12 8 f13, ai E o_a13 8 (upd o_keptFigure p1.toNatClampNeg p4), ai E o_a14 8 o_sort, ai E o_a15 8 o_size, ai E o_a16 800 o_element] H := hP
        have hD : va_D A [oMo o_h o_a0 o_a1 o_a2 o_a3 o_hasImage o_place o_rowAt o_rowEnd o_a8 o_a9 o_seed o_a11 o_a12 o_a13 o_a14 o_a15 o_a16 o_thrown, ai E o_a0 42 o_s, ai E o_a1 42 o_m, ai E o_a2 42 o_image, ai E o_a3 42 o_was, ai E o_a8 3 o_numbers, ai E o_a9 8192 o_most, ai E o_a11 8 f11, ai E o_a12 8 f13, ai E o_a13 8 (upd o_keptFigure p1.toNatClampNeg p4), ai E o_a14 8 o_sort, ai E o_a15 8 o_size, ai E o_a16 800 o_element] := hD
        obtain ⟨f15, ef15⟩ : ∃ z, z = (upd o_keptFigure p1.toNatClampNeg p4) := ⟨_, rfl⟩
        rw [← ef15] at hP hD
        have hv := nm_s ef15 hv
        refine lv_iconst (v := (0 : Int32)) hx hb dX10_keep_66 (by decide) ?_
        refine lv_topi (fun z16 ez16 => ?_)
        have hv := nm_s ez16 hv
        cases hv
        exact W.iret hx hb hr (fun t h9 _ => ⟨rfl, by rw [h9]; exact hP, hS.F h9⟩) hS.2.2 dX10_keep_67 hlk
      · have hv := if_y c9 hv
        refine lv_iload_n hx hb dX10_keep_21 rfl (lv_at hl 3 rfl) ?_
        refine lv_iconst (v := (0 : Int32)) hx hb dX10_keep_22 (by decide) ?_
        refine lv_bipush (v := (7 : Int32)) hx hb dX10_keep_23 (by decide) ?_
        obtain ⟨r17, h18, hv⟩ := ob_s hv
        refine rdS (rest := []) (st1 := [.int r17]) (w := []) hC q_X10_isIn kw_4_200 (c_X10_isIn l E p3 (0 : Int32) (7 : Int32) r17 h18) ⟨rfl, rfl⟩ ⟨Nat.le_of_ble_eq_true rfl, Nat.le_of_ble_eq_true rfl⟩ ⟨Nat.zero_le _, Nat.zero_le _⟩ (hP.sub (ws' := []) [] rfl) hG rfl hl.1 rfl (Nat.le_of_ble_eq_true rfl) dX10_keep_25 rfl ?_
        refine lv_if_eq (tgt := 42) hx hb dX10_keep_28 (by decide) (fun c19 => ?_) (fun c19 => ?_)
        · have hv := if_y c19 hv
          refine lv_iconst (v := (-1 : Int32)) hx hb dX10_keep_42 (by decide) ?_
          refine lv_topi (fun z20 ez20 => ?_)
          have hv := nm_s ez20 hv
          cases hv
          exact W.iret hx hb hr (fun t h9 _ => ⟨rfl, by rw [h9]; exact hP, hS.F h9⟩) hS.2.2 dX10_keep_43 hlk
        · have hv := if_n c19 hv
          refine lv_iload hx hb dX10_keep_31 (lv_at hl 4 rfl) ?_
          refine lv_iconst (v := (0 : Int32)) hx hb dX10_keep_33 (by decide) ?_
          refine lv_bipush (v := (9 : Int32)) hx hb dX10_keep_34 (by decide) ?_
          obtain ⟨r21, h22, hv⟩ := ob_s hv
          refine rdS (rest := []) (st1 := [.int r21]) (w := []) hC q_X10_isIn kw_4_200 (c_X10_isIn l E p4 (0 : Int32) (9 : Int32) r21 h22) ⟨rfl, rfl⟩ ⟨Nat.le_of_ble_eq_true rfl, Nat.le_of_ble_eq_true rfl⟩ ⟨Nat.zero_le _, Nat.zero_le _⟩ (hP.sub (ws' := []) [] rfl) hG rfl hl.1 rfl (Nat.le_of_ble_eq_true rfl) dX10_keep_36 rfl ?_
          refine lv_if_ne (tgt := 44) hx hb dX10_keep_39 (by decide) (fun c23 => ?_) (fun c23 => ?_)
          · have hv := if_n c23 hv
            refine lv_aload_n hx hb dX10_keep_44 rfl (lv_at hl 0 rfl) ?_
            refine va_get (D := E.1) (ci := 4) (v := .ref o_a11) (C := RX10) (T := TX10) (N := 18) hx hb ht i_X10 hown hK hP 0 rfl rfl 11 (by decide) (ht _ kw_4_145) (fun _ h9 => h9) rfl dX10_keep_45 ?_
            refine lv_iload_n hx hb dX10_keep_48 rfl (lv_at hl 1 rfl) ?_
            refine lv_iload_n hx hb dX10_keep_49 rfl (lv_at hl 2 rfl) ?_
            obtain ⟨g24, hv⟩ := gd_s hv
            refine va_iast hx hb hK hP hD hS 7 0 rfl rfl (ix_s g24) dX10_keep_50 (fun H locs hP hD hS => ?_)
            have hP : va_P E.1 vwCl [oMo o_h o_a0 o_a1 o_a2 o_a3 o_hasImage o_place o_rowAt o_rowEnd o_a8 o_a9 o_seed o_a11 o_a12 o_a13 o_a14 o_a15 o_a16 o_thrown, ai E o_a0 42 o_s, ai E o_a1 42 o_m, ai E o_a2 42 o_image, ai E o_a3 42 o_was, ai E o_a8 3 o_numbers, ai E o_a9 8192 o_most, ai E o_a11 8 (upd o_kept p1.toNatClampNeg p2), ai E o_a12 8 o_keptKind, ai E o_a13 8 o_keptFigure, ai E o_a14 8 o_sort, ai E o_a15 8 o_size, ai E o_a16 800 o_element] H := hP
            have hD : va_D A [oMo o_h o_a0 o_a1 o_a2 o_a3 o_hasImage o_place o_rowAt o_rowEnd o_a8 o_a9 o_seed o_a11 o_a12 o_a13 o_a14 o_a15 o_a16 o_thrown, ai E o_a0 42 o_s, ai E o_a1 42 o_m, ai E o_a2 42 o_image, ai E o_a3 42 o_was, ai E o_a8 3 o_numbers, ai E o_a9 8192 o_most, ai E o_a11 8 (upd o_kept p1.toNatClampNeg p2), ai E o_a12 8 o_keptKind, ai E o_a13 8 o_keptFigure, ai E o_a14 8 o_sort, ai E o_a15 8 o_size, ai E o_a16 800 o_element] := hD
            obtain ⟨f25, ef25⟩ : ∃ z, z = (upd o_kept p1.toNatClampNeg p2) := ⟨_, rfl⟩
            rw [← ef25] at hP hD
            have hv := nm_s ef25 hv
            refine lv_aload_n hx hb dX10_keep_51 rfl (lv_at hl 0 rfl) ?_
            refine va_get (D := E.1) (ci := 4) (v := .ref o_a12) (C := RX10) (T := TX10) (N := 18) hx hb ht i_X10 hown hK hP 0 rfl rfl 12 (by decide) (ht _ kw_4_146) (fun _ h9 => h9) rfl dX10_keep_52 ?_
            refine lv_iload_n hx hb dX10_keep_55 rfl (lv_at hl 1 rfl) ?_
            refine lv_iload_n hx hb dX10_keep_56 rfl (lv_at hl 3 rfl) ?_
            obtain ⟨g26, hv⟩ := gd_s hv
            refine va_iast hx hb hK hP hD hS 8 0 rfl rfl (ix_s g26) dX10_keep_57 (fun H locs hP hD hS => ?_)
            have hP : va_P E.1 vwCl [oMo o_h o_a0 o_a1 o_a2 o_a3 o_hasImage o_place o_rowAt o_rowEnd o_a8 o_a9 o_seed o_a11 o_a12 o_a13 o_a14 o_a15 o_a16 o_thrown, ai E o_a0 42 o_s, ai E o_a1 42 o_m, ai E o_a2 42 o_image, ai E o_a3 42 o_was, ai E o_a8 3 o_numbers, ai E o_a9 8192 o_most, ai E o_a11 8 f25, ai E o_a12 8 (upd o_keptKind p1.toNatClampNeg p3), ai E o_a13 8 o_keptFigure, ai E o_a14 8 o_sort, ai E o_a15 8 o_size, ai E o_a16 800 o_element] H := hP
            have hD : va_D A [oMo o_h o_a0 o_a1 o_a2 o_a3 o_hasImage o_place o_rowAt o_rowEnd o_a8 o_a9 o_seed o_a11 o_a12 o_a13 o_a14 o_a15 o_a16 o_thrown, ai E o_a0 42 o_s, ai E o_a1 42 o_m, ai E o_a2 42 o_image, ai E o_a3 42 o_was, ai E o_a8 3 o_numbers, ai E o_a9 8192 o_most, ai E o_a11 8 f25, ai E o_a12 8 (upd o_keptKind p1.toNatClampNeg p3), ai E o_a13 8 o_keptFigure, ai E o_a14 8 o_sort, ai E o_a15 8 o_size, ai E o_a16 800 o_element] := hD
            obtain ⟨f27, ef27⟩ : ∃ z, z = (upd o_keptKind p1.toNatClampNeg p3) := ⟨_, rfl⟩
            rw [← ef27] at hP hD
            have hv := nm_s ef27 hv
            refine lv_aload_n hx hb dX10_keep_58 rfl (lv_at hl 0 rfl) ?_
            refine va_get (D := E.1) (ci := 4) (v := .ref o_a13) (C := RX10) (T := TX10) (N := 18) hx hb ht i_X10 hown hK hP 0 rfl rfl 13 (by decide) (ht _ kw_4_147) (fun _ h9 => h9) rfl dX10_keep_59 ?_
            refine lv_iload_n hx hb dX10_keep_62 rfl (lv_at hl 1 rfl) ?_
            refine lv_iload hx hb dX10_keep_63 (lv_at hl 4 rfl) ?_
            obtain ⟨g28, hv⟩ := gd_s hv
            refine va_iast hx hb hK hP hD hS 9 0 rfl rfl (ix_s g28) dX10_keep_65 (fun H locs hP hD hS => ?_)
            have hP : va_P E.1 vwCl [oMo o_h o_a0 o_a1 o_a2 o_a3 o_hasImage o_place o_rowAt o_rowEnd o_a8 o_a9 o_seed o_a11 o_a12 o_a13 o_a14 o_a15 o_a16 o_thrown, ai E o_a0 42 o_s, ai E o_a1 42 o_m, ai E o_a2 42 o_image, ai E o_a3 42 o_was, ai E o_a8 3 o_numbers, ai E o_a9 8192 o_most, ai E o_a11 8 f25, ai E o_a12 8 f27, ai E o_a13 8 (upd o_keptFigure p1.toNatClampNeg p4), ai E o_a14 8 o_sort, ai E o_a15 8 o_size, ai E o_a16 800 o_element] H := hP
            have hD : va_D A [oMo o_h o_a0 o_a1 o_a2 o_a3 o_hasImage o_place o_rowAt o_rowEnd o_a8 o_a9 o_seed o_a11 o_a12 o_a13 o_a14 o_a15 o_a16 o_thrown, ai E o_a0 42 o_s, ai E o_a1 42 o_m, ai E o_a2 42 o_image, ai E o_a3 42 o_was, ai E o_a8 3 o_numbers, ai E o_a9 8192 o_most, ai E o_a11 8 f25, ai E o_a12 8 f27, ai E o_a13 8 (upd o_keptFigure p1.toNatClampNeg p4), ai E o_a14 8 o_sort, ai E o_a15 8 o_size, ai E o_a16 800 o_element] := hD
            obtain ⟨f29, ef29⟩ : ∃ z, z = (upd o_keptFigure p1.toNatClampNeg p4) := ⟨_, rfl⟩
            rw [← ef29] at hP hD
            have hv := nm_s ef29 hv
            refine lv_iconst (v := (0 : Int32)) hx hb dX10_keep_66 (by decide) ?_
            refine lv_topi (fun z30 ez30 => ?_)
            have hv := nm_s ez30 hv
            cases hv
            exact W.iret hx hb hr (fun t h9 _ => ⟨rfl, by rw [h9]; exact hP, hS.F h9⟩) hS.2.2 dX10_keep_67 hlk
          · have hv := if_y c23 hv
            refine lv_iconst (v := (-1 : Int32)) hx hb dX10_keep_42 (by decide) ?_
            refine lv_topi (fun z31 ez31 => ?_)
            have hv := nm_s ez31 hv
            cases hv
            exact W.iret hx hb hr (fun t h9 _ => ⟨rfl, by rw [h9]; exact hP, hS.F h9⟩) hS.2.2 dX10_keep_43 hlk
theorem dX10_row_0 : decode cX10_row 0 = .ok (.iload_n 1, 1) := by decide +kernel
theorem dX10_row_1 : decode cX10_row 1 = .ok (.invokestatic 263, 3) := by decide +kernel
theorem dX10_row_4 : decode cX10_row 4 = .ok (.ifCond .eq 18, 3) := by decide +kernel
theorem dX10_row_7 : decode cX10_row 7 = .ok (.iload_n 2, 1) := by decide +kernel
theorem dX10_row_8 : decode cX10_row 8 = .ok (.iconst 0, 1) := by decide +kernel
theorem dX10_row_9 : decode cX10_row 9 = .ok (.iconst 2, 1) := by decide +kernel
theorem dX10_row_10 : decode cX10_row 10 = .ok (.invokestatic 46, 3) := by decide +kernel
theorem dX10_row_13 : decode cX10_row 13 = .ok (.ifCond .eq 9, 3) := by decide +kernel
theorem dX10_row_16 : decode cX10_row 16 = .ok (.iload_n 3, 1) := by decide +kernel
theorem dX10_row_17 : decode cX10_row 17 = .ok (.bipush 100, 2) := by decide +kernel
theorem dX10_row_19 : decode cX10_row 19 = .ok (.if_icmp .le 5, 3) := by decide +kernel
theorem dX10_row_22 : decode cX10_row 22 = .ok (.iconst (-1), 1) := by decide +kernel
theorem dX10_row_23 : decode cX10_row 23 = .ok (.ireturn, 1) := by decide +kernel
theorem dX10_row_24 : decode cX10_row 24 = .ok (.iload_n 3, 1) := by decide +kernel
theorem dX10_row_25 : decode cX10_row 25 = .ok (.ifCond .ge 6, 3) := by decide +kernel
theorem dX10_row_28 : decode cX10_row 28 = .ok (.bipush (-14), 2) := by decide +kernel
theorem dX10_row_30 : decode cX10_row 30 = .ok (.ireturn, 1) := by decide +kernel
theorem dX10_row_31 : decode cX10_row 31 = .ok (.aload_n 0, 1) := by decide +kernel
theorem dX10_row_32 : decode cX10_row 32 = .ok (.getfield 28, 3) := by decide +kernel
theorem dX10_row_35 : decode cX10_row 35 = .ok (.iload_n 1, 1) := by decide +kernel
theorem dX10_row_36 : decode cX10_row 36 = .ok (.iconst 2, 1) := by decide +kernel
theorem dX10_row_37 : decode cX10_row 37 = .ok (.iastore, 1) := by decide +kernel
theorem dX10_row_38 : decode cX10_row 38 = .ok (.aload_n 0, 1) := by decide +kernel
theorem dX10_row_39 : decode cX10_row 39 = .ok (.getfield 37, 3) := by decide +kernel
theorem dX10_row_42 : decode cX10_row 42 = .ok (.iload_n 1, 1) := by decide +kernel
theorem dX10_row_43 : decode cX10_row 43 = .ok (.iload_n 2, 1) := by decide +kernel
theorem dX10_row_44 : decode cX10_row 44 = .ok (.iastore, 1) := by decide +kernel
theorem dX10_row_45 : decode cX10_row 45 = .ok (.aload_n 0, 1) := by decide +kernel
theorem dX10_row_46 : decode cX10_row 46 = .ok (.getfield 40, 3) := by decide +kernel
theorem dX10_row_49 : decode cX10_row 49 = .ok (.iload_n 1, 1) := by decide +kernel
theorem dX10_row_50 : decode cX10_row 50 = .ok (.iload_n 3, 1) := by decide +kernel
theorem dX10_row_51 : decode cX10_row 51 = .ok (.iastore, 1) := by decide +kernel
theorem dX10_row_52 : decode cX10_row 52 = .ok (.iconst 0, 1) := by decide +kernel
theorem dX10_row_53 : decode cX10_row 53 = .ok (.istore 4, 2) := by decide +kernel
theorem dX10_row_55 : decode cX10_row 55 = .ok (.iload 4, 2) := by decide +kernel
theorem dX10_row_57 : decode cX10_row 57 = .ok (.bipush 100, 2) := by decide +kernel
theorem dX10_row_59 : decode cX10_row 59 = .ok (.if_icmp .ge 22, 3) := by decide +kernel
theorem dX10_row_62 : decode cX10_row 62 = .ok (.aload_n 0, 1) := by decide +kernel
theorem dX10_row_63 : decode cX10_row 63 = .ok (.getfield 43, 3) := by decide +kernel
theorem dX10_row_66 : decode cX10_row 66 = .ok (.bipush 100, 2) := by decide +kernel
theorem dX10_row_68 : decode cX10_row 68 = .ok (.iload_n 1, 1) := by decide +kernel
theorem dX10_row_69 : decode cX10_row 69 = .ok (.imul, 1) := by decide +kernel
theorem dX10_row_70 : decode cX10_row 70 = .ok (.iload 4, 2) := by decide +kernel
theorem dX10_row_72 : decode cX10_row 72 = .ok (.iadd, 1) := by decide +kernel
theorem dX10_row_73 : decode cX10_row 73 = .ok (.iconst 0, 1) := by decide +kernel
theorem dX10_row_74 : decode cX10_row 74 = .ok (.iastore, 1) := by decide +kernel
theorem dX10_row_75 : decode cX10_row 75 = .ok (.iinc 4 1, 3) := by decide +kernel
theorem dX10_row_78 : decode cX10_row 78 = .ok (.goto (-23), 3) := by decide +kernel
theorem dX10_row_81 : decode cX10_row 81 = .ok (.iconst 0, 1) := by decide +kernel
theorem dX10_row_82 : decode cX10_row 82 = .ok (.ireturn, 1) := by decide +kernel
def L_X10_row_55 (p1 : Int32) (f12 : Nat → Int32) (f14 : Nat → Int32) (f16 : Nat → Int32) : Nat → Int32 → (Nat → Int32) → Option (Int32 × (Nat → Int32) × (Nat → Int32) × (Nat → Int32) × (Nat → Int32))
  | 0, _, _ => none
  | n55 + 1, x17, y18 => if (100 : Int32) ≤ x17 then nm (0 : Int32) (fun z20 => some (z20, f12, f14, f16, y18)) else gd (ix (((100 : Int32) * p1) + x17) 800) (nm (upd y18 (((100 : Int32) * p1) + x17).toNatClampNeg (0 : Int32)) (fun f22 => L_X10_row_55 p1 f12 f14 f16 n55 (x17 + (1 : Int32)) f22))
def f_X10_row (N : Nat) (o_kept : Nat → Int32) (o_sort : Nat → Int32) (o_size : Nat → Int32) (o_element : Nat → Int32) (p1 : Int32) (p2 : Int32) (p3 : Int32) : Option (Int32 × (Nat → Int32) × (Nat → Int32) × (Nat → Int32) × (Nat → Int32)) := ob (f_X10_isShelf p1) (fun r1 => if r1 = 0 then nm (-1 : Int32) (fun z4 => some (z4, o_kept, o_sort, o_size, o_element)) else ob (f_X10_isIn p2 (0 : Int32) (2 : Int32)) (fun r5 => if r5 = 0 then nm (-1 : Int32) (fun z8 => some (z8, o_kept, o_sort, o_size, o_element)) else if p3 ≤ (100 : Int32) then if 0 ≤ p3 then gd (ix p1 8) (nm (upd o_kept p1.toNatClampNeg (2 : Int32)) (fun f12 => gd (ix p1 8) (nm (upd o_sort p1.toNatClampNeg p2) (fun f14 => gd (ix p1 8) (nm (upd o_size p1.toNatClampNeg p3) (fun f16 => L_X10_row_55 p1 f12 f14 f16 N (0 : Int32) o_element)))))) else nm (-14 : Int32) (fun z23 => some (z23, o_kept, o_sort, o_size, o_element)) else nm (-1 : Int32) (fun z24 => some (z24, o_kept, o_sort, o_size, o_element))))
set_option maxHeartbeats 4000000 in
set_option maxRecDepth 100000 in
theorem c_X10_row (l : Launch) (E : EE) (o_h : Nat) (o_a0 : Nat) (o_a1 : Nat) (o_a2 : Nat) (o_a3 : Nat) (o_a8 : Nat) (o_a9 : Nat) (o_a11 : Nat) (o_a12 : Nat) (o_a13 : Nat) (o_a14 : Nat) (o_a15 : Nat) (o_a16 : Nat) (o_s : Nat → Int32) (o_m : Nat → Int32) (o_image : Nat → Int32) (o_was : Nat → Int32) (o_hasImage : Int32) (o_place : Int32) (o_rowAt : Int32) (o_rowEnd : Int32) (o_numbers : Nat → Int32) (o_most : Nat → Int32) (o_seed : Int32) (o_kept : Nat → Int32) (o_keptKind : Nat → Int32) (o_keptFigure : Nat → Int32) (o_sort : Nat → Int32) (o_size : Nat → Int32) (o_element : Nat → Int32) (o_thrown : Int32) (p1 : Int32) (p2 : Int32) (p3 : Int32) (N : Nat) (res : Int32) (w_o_kept : Nat → Int32) (w_o_sort : Nat → Int32) (w_o_size : Nat → Int32) (w_o_element : Nat → Int32) (hv : f_X10_row N o_kept o_sort o_size o_element p1 p2 p3 = some (res, w_o_kept, w_o_sort, w_o_size, w_o_element)) : Wr l E yX10_row cX10_row 5 (some .int) ({ frames := 2, cells := 0, slots := 0, locals := 42 }) [.ref o_h, .int p1, .int p2, .int p3] [oMo o_h o_a0 o_a1 o_a2 o_a3 o_hasImage o_place o_rowAt o_rowEnd o_a8 o_a9 o_seed o_a11 o_a12 o_a13 o_a14 o_a15 o_a16 o_thrown, ai E o_a0 42 o_s, ai E o_a1 42 o_m, ai E o_a2 42 o_image, ai E o_a3 42 o_was, ai E o_a8 3 o_numbers, ai E o_a9 8192 o_most, ai E o_a11 8 o_kept, ai E o_a12 8 o_keptKind, ai E o_a13 8 o_keptFigure, ai E o_a14 8 o_sort, ai E o_a15 8 o_size, ai E o_a16 800 o_element] [oMo o_h o_a0 o_a1 o_a2 o_a3 o_hasImage o_place o_rowAt o_rowEnd o_a8 o_a9 o_seed o_a11 o_a12 o_a13 o_a14 o_a15 o_a16 o_thrown, ai E o_a0 42 o_s, ai E o_a1 42 o_m, ai E o_a2 42 o_image, ai E o_a3 42 o_was, ai E o_a8 3 o_numbers, ai E o_a9 8192 o_most, ai E o_a11 8 w_o_kept, ai E o_a12 8 o_keptKind, ai E o_a13 8 o_keptFigure, ai E o_a14 8 w_o_sort, ai E o_a15 8 w_o_size, ai E o_a16 800 w_o_element] (some (.int res)) := by
  refine Wr.intro RX10 (by decide) rfl (Nat.le_of_ble_eq_true rfl) ?_
  intro p e s m below meth c ls A hC hr hlk hmn hP hD hS hA hG hl
  obtain ⟨hx, hb, hml, hown, ht⟩ := id hC
  have hK := hG.1
  have hl : lv_has ls 5 [(0, .ref o_h), (1, .int p1), (2, .int p2), (3, .int p3)] := hl
  rw [f_X10_row] at hv
  refine lv_iload_n hx hb dX10_row_0 rfl (lv_at hl 1 rfl) ?_
  obtain ⟨r1, h2, hv⟩ := ob_s hv
  refine rdS (rest := []) (st1 := [.int r1]) (w := []) hC q_X10_isShelf kw_4_197 (c_X10_isShelf l E p1 r1 h2) ⟨rfl, rfl⟩ ⟨Nat.le_of_ble_eq_true rfl, Nat.le_of_ble_eq_true rfl⟩ ⟨Nat.zero_le _, Nat.zero_le _⟩ (hP.sub (ws' := []) [] rfl) hG rfl hl.1 rfl (Nat.le_of_ble_eq_true rfl) dX10_row_1 rfl ?_
  refine lv_if_eq (tgt := 22) hx hb dX10_row_4 (by decide) (fun c3 => ?_) (fun c3 => ?_)
  · have hv := if_y c3 hv
    refine lv_iconst (v := (-1 : Int32)) hx hb dX10_row_22 (by decide) ?_
    refine lv_topi (fun z4 ez4 => ?_)
    have hv := nm_s ez4 hv
    cases hv
    exact W.iret hx hb hr (fun t h9 _ => ⟨rfl, by rw [h9]; exact hP, hS.F h9⟩) hS.2.2 dX10_row_23 hlk
  · have hv := if_n c3 hv
    refine lv_iload_n hx hb dX10_row_7 rfl (lv_at hl 2 rfl) ?_
    refine lv_iconst (v := (0 : Int32)) hx hb dX10_row_8 (by decide) ?_
    refine lv_iconst (v := (2 : Int32)) hx hb dX10_row_9 (by decide) ?_
    obtain ⟨r5, h6, hv⟩ := ob_s hv
    refine rdS (rest := []) (st1 := [.int r5]) (w := []) hC q_X10_isIn kw_4_200 (c_X10_isIn l E p2 (0 : Int32) (2 : Int32) r5 h6) ⟨rfl, rfl⟩ ⟨Nat.le_of_ble_eq_true rfl, Nat.le_of_ble_eq_true rfl⟩ ⟨Nat.zero_le _, Nat.zero_le _⟩ (hP.sub (ws' := []) [] rfl) hG rfl hl.1 rfl (Nat.le_of_ble_eq_true rfl) dX10_row_10 rfl ?_
    refine lv_if_eq (tgt := 22) hx hb dX10_row_13 (by decide) (fun c7 => ?_) (fun c7 => ?_)
    · have hv := if_y c7 hv
      refine lv_iconst (v := (-1 : Int32)) hx hb dX10_row_22 (by decide) ?_
      refine lv_topi (fun z8 ez8 => ?_)
      have hv := nm_s ez8 hv
      cases hv
      exact W.iret hx hb hr (fun t h9 _ => ⟨rfl, by rw [h9]; exact hP, hS.F h9⟩) hS.2.2 dX10_row_23 hlk
    · have hv := if_n c7 hv
      refine lv_iload_n hx hb dX10_row_16 rfl (lv_at hl 3 rfl) ?_
      refine lv_bipush (v := (100 : Int32)) hx hb dX10_row_17 (by decide) ?_
      refine lv_icmp_le (tgt := 24) hx hb dX10_row_19 (by decide) (fun c9 => ?_) (fun c9 => ?_)
      · have hv := if_y c9 hv
        refine lv_iload_n hx hb dX10_row_24 rfl (lv_at hl 3 rfl) ?_
        refine lv_if_ge (tgt := 31) hx hb dX10_row_25 (by decide) (fun c10 => ?_) (fun c10 => ?_)
        · have hv := if_y c10 hv
          refine lv_aload_n hx hb dX10_row_31 rfl (lv_at hl 0 rfl) ?_
          refine va_get (D := E.1) (ci := 4) (v := .ref o_a11) (C := RX10) (T := TX10) (N := 18) hx hb ht i_X10 hown hK hP 0 rfl rfl 11 (by decide) (ht _ kw_4_145) (fun _ h9 => h9) rfl dX10_row_32 ?_
          refine lv_iload_n hx hb dX10_row_35 rfl (lv_at hl 1 rfl) ?_
          refine lv_iconst (v := (2 : Int32)) hx hb dX10_row_36 (by decide) ?_
          obtain ⟨g11, hv⟩ := gd_s hv
          refine va_iast hx hb hK hP hD hS 7 0 rfl rfl (ix_s g11) dX10_row_37 (fun H locs hP hD hS => ?_)
          have hP : va_P E.1 vwCl [oMo o_h o_a0 o_a1 o_a2 o_a3 o_hasImage o_place o_rowAt o_rowEnd o_a8 o_a9 o_seed o_a11 o_a12 o_a13 o_a14 o_a15 o_a16 o_thrown, ai E o_a0 42 o_s, ai E o_a1 42 o_m, ai E o_a2 42 o_image, ai E o_a3 42 o_was, ai E o_a8 3 o_numbers, ai E o_a9 8192 o_most, ai E o_a11 8 (upd o_kept p1.toNatClampNeg (2 : Int32)), ai E o_a12 8 o_keptKind, ai E o_a13 8 o_keptFigure, ai E o_a14 8 o_sort, ai E o_a15 8 o_size, ai E o_a16 800 o_element] H := hP
          have hD : va_D A [oMo o_h o_a0 o_a1 o_a2 o_a3 o_hasImage o_place o_rowAt o_rowEnd o_a8 o_a9 o_seed o_a11 o_a12 o_a13 o_a14 o_a15 o_a16 o_thrown, ai E o_a0 42 o_s, ai E o_a1 42 o_m, ai E o_a2 42 o_image, ai E o_a3 42 o_was, ai E o_a8 3 o_numbers, ai E o_a9 8192 o_most, ai E o_a11 8 (upd o_kept p1.toNatClampNeg (2 : Int32)), ai E o_a12 8 o_keptKind, ai E o_a13 8 o_keptFigure, ai E o_a14 8 o_sort, ai E o_a15 8 o_size, ai E o_a16 800 o_element] := hD
          obtain ⟨f12, ef12⟩ : ∃ z, z = (upd o_kept p1.toNatClampNeg (2 : Int32)) := ⟨_, rfl⟩
          rw [← ef12] at hP hD
          have hv := nm_s ef12 hv
          refine lv_aload_n hx hb dX10_row_38 rfl (lv_at hl 0 rfl) ?_
          refine va_get (D := E.1) (ci := 4) (v := .ref o_a14) (C := RX10) (T := TX10) (N := 18) hx hb ht i_X10 hown hK hP 0 rfl rfl 14 (by decide) (ht _ kw_4_148) (fun _ h9 => h9) rfl dX10_row_39 ?_
          refine lv_iload_n hx hb dX10_row_42 rfl (lv_at hl 1 rfl) ?_
          refine lv_iload_n hx hb dX10_row_43 rfl (lv_at hl 2 rfl) ?_
          obtain ⟨g13, hv⟩ := gd_s hv
          refine va_iast hx hb hK hP hD hS 10 0 rfl rfl (ix_s g13) dX10_row_44 (fun H locs hP hD hS => ?_)
          have hP : va_P E.1 vwCl [oMo o_h o_a0 o_a1 o_a2 o_a3 o_hasImage o_place o_rowAt o_rowEnd o_a8 o_a9 o_seed o_a11 o_a12 o_a13 o_a14 o_a15 o_a16 o_thrown, ai E o_a0 42 o_s, ai E o_a1 42 o_m, ai E o_a2 42 o_image, ai E o_a3 42 o_was, ai E o_a8 3 o_numbers, ai E o_a9 8192 o_most, ai E o_a11 8 f12, ai E o_a12 8 o_keptKind, ai E o_a13 8 o_keptFigure, ai E o_a14 8 (upd o_sort p1.toNatClampNeg p2), ai E o_a15 8 o_size, ai E o_a16 800 o_element] H := hP
          have hD : va_D A [oMo o_h o_a0 o_a1 o_a2 o_a3 o_hasImage o_place o_rowAt o_rowEnd o_a8 o_a9 o_seed o_a11 o_a12 o_a13 o_a14 o_a15 o_a16 o_thrown, ai E o_a0 42 o_s, ai E o_a1 42 o_m, ai E o_a2 42 o_image, ai E o_a3 42 o_was, ai E o_a8 3 o_numbers, ai E o_a9 8192 o_most, ai E o_a11 8 f12, ai E o_a12 8 o_keptKind, ai E o_a13 8 o_keptFigure, ai E o_a14 8 (upd o_sort p1.toNatClampNeg p2), ai E o_a15 8 o_size, ai E o_a16 800 o_element] := hD
          obtain ⟨f14, ef14⟩ : ∃ z, z = (upd o_sort p1.toNatClampNeg p2) := ⟨_, rfl⟩
          rw [← ef14] at hP hD
          have hv := nm_s ef14 hv
          refine lv_aload_n hx hb dX10_row_45 rfl (lv_at hl 0 rfl) ?_
          refine va_get (D := E.1) (ci := 4) (v := .ref o_a15) (C := RX10) (T := TX10) (N := 18) hx hb ht i_X10 hown hK hP 0 rfl rfl 15 (by decide) (ht _ kw_4_149) (fun _ h9 => h9) rfl dX10_row_46 ?_
          refine lv_iload_n hx hb dX10_row_49 rfl (lv_at hl 1 rfl) ?_
          refine lv_iload_n hx hb dX10_row_50 rfl (lv_at hl 3 rfl) ?_
          obtain ⟨g15, hv⟩ := gd_s hv
          refine va_iast hx hb hK hP hD hS 11 0 rfl rfl (ix_s g15) dX10_row_51 (fun H locs hP hD hS => ?_)
          have hP : va_P E.1 vwCl [oMo o_h o_a0 o_a1 o_a2 o_a3 o_hasImage o_place o_rowAt o_rowEnd o_a8 o_a9 o_seed o_a11 o_a12 o_a13 o_a14 o_a15 o_a16 o_thrown, ai E o_a0 42 o_s, ai E o_a1 42 o_m, ai E o_a2 42 o_image, ai E o_a3 42 o_was, ai E o_a8 3 o_numbers, ai E o_a9 8192 o_most, ai E o_a11 8 f12, ai E o_a12 8 o_keptKind, ai E o_a13 8 o_keptFigure, ai E o_a14 8 f14, ai E o_a15 8 (upd o_size p1.toNatClampNeg p3), ai E o_a16 800 o_element] H := hP
          have hD : va_D A [oMo o_h o_a0 o_a1 o_a2 o_a3 o_hasImage o_place o_rowAt o_rowEnd o_a8 o_a9 o_seed o_a11 o_a12 o_a13 o_a14 o_a15 o_a16 o_thrown, ai E o_a0 42 o_s, ai E o_a1 42 o_m, ai E o_a2 42 o_image, ai E o_a3 42 o_was, ai E o_a8 3 o_numbers, ai E o_a9 8192 o_most, ai E o_a11 8 f12, ai E o_a12 8 o_keptKind, ai E o_a13 8 o_keptFigure, ai E o_a14 8 f14, ai E o_a15 8 (upd o_size p1.toNatClampNeg p3), ai E o_a16 800 o_element] := hD
          obtain ⟨f16, ef16⟩ : ∃ z, z = (upd o_size p1.toNatClampNeg p3) := ⟨_, rfl⟩
          rw [← ef16] at hP hD
          have hv := nm_s ef16 hv
          refine lv_iconst (v := (0 : Int32)) hx hb dX10_row_52 (by decide) ?_
          refine lv_istore (lv' := [(4, .int (0 : Int32)), (0, .ref o_h), (1, .int p1), (2, .int p2), (3, .int p3)]) hx hb dX10_row_53 hl (by decide) rfl (fun ls hl => ?_)
          have hL55 : ∀ (n : Nat) (x17 : Int32) (y18 : Nat → Int32) (H : Heap) (locs : List Loc) (ls : Array Slot), va_P E.1 vwCl [oMo o_h o_a0 o_a1 o_a2 o_a3 o_hasImage o_place o_rowAt o_rowEnd o_a8 o_a9 o_seed o_a11 o_a12 o_a13 o_a14 o_a15 o_a16 o_thrown, ai E o_a0 42 o_s, ai E o_a1 42 o_m, ai E o_a2 42 o_image, ai E o_a3 42 o_was, ai E o_a8 3 o_numbers, ai E o_a9 8192 o_most, ai E o_a11 8 f12, ai E o_a12 8 o_keptKind, ai E o_a13 8 o_keptFigure, ai E o_a14 8 f14, ai E o_a15 8 f16, ai E o_a16 800 y18] H → va_D A [oMo o_h o_a0 o_a1 o_a2 o_a3 o_hasImage o_place o_rowAt o_rowEnd o_a8 o_a9 o_seed o_a11 o_a12 o_a13 o_a14 o_a15 o_a16 o_thrown, ai E o_a0 42 o_s, ai E o_a1 42 o_m, ai E o_a2 42 o_image, ai E o_a3 42 o_was, ai E o_a8 3 o_numbers, ai E o_a9 8192 o_most, ai E o_a11 8 f12, ai E o_a12 8 o_keptKind, ai E o_a13 8 o_keptFigure, ai E o_a14 8 f14, ai E o_a15 8 f16, ai E o_a16 800 y18] → va_S A s.heap H locs → lv_has ls 5 [(4, .int x17), (0, .ref o_h), (1, .int p1)] → L_X10_row_55 p1 f12 f14 f16 n x17 y18 = some (res, w_o_kept, w_o_sort, w_o_size, w_o_element) → W p l e ({ frames := 2, cells := 0, slots := 0, locals := 42 }) s m [.ref o_h, .int p1, .int p2, .int p3].toArray below meth c H locs 0 0 (MQ below (fun _ st oc t => oc = .returned (some (.int res)) ∧ va_P E.1 vwCl [oMo o_h o_a0 o_a1 o_a2 o_a3 o_hasImage o_place o_rowAt o_rowEnd o_a8 o_a9 o_seed o_a11 o_a12 o_a13 o_a14 o_a15 o_a16 o_thrown, ai E o_a0 42 o_s, ai E o_a1 42 o_m, ai E o_a2 42 o_image, ai E o_a3 42 o_was, ai E o_a8 3 o_numbers, ai E o_a9 8192 o_most, ai E o_a11 8 w_o_kept, ai E o_a12 8 o_keptKind, ai E o_a13 8 o_keptFigure, ai E o_a14 8 w_o_sort, ai E o_a15 8 w_o_size, ai E o_a16 800 w_o_element] t.heap ∧ va_F A st t) [.ref o_h, .int p1, .int p2, .int p3].toArray s 0 0 A) (F0 m 55 ls []) := by
            intro n
            induction n with
            | zero => intro x17 y18 H locs ls hP hD hS hl hv; cases hv
            | succ n55 ih55 =>
              intro x17 y18 H locs ls hP hD hS hl hv
              rw [L_X10_row_55] at hv
              refine lv_iload hx hb dX10_row_55 (lv_at hl 0 rfl) ?_
              refine lv_bipush (v := (100 : Int32)) hx hb dX10_row_57 (by decide) ?_
              refine lv_icmp_ge (tgt := 81) hx hb dX10_row_59 (by decide) (fun c19 => ?_) (fun c19 => ?_)
              · have hv := if_y c19 hv
                refine lv_iconst (v := (0 : Int32)) hx hb dX10_row_81 (by decide) ?_
                refine lv_topi (fun z20 ez20 => ?_)
                have hv := nm_s ez20 hv
                cases hv
                exact W.iret hx hb hr (fun t h9 _ => ⟨rfl, by rw [h9]; exact hP, hS.F h9⟩) hS.2.2 dX10_row_82 hlk
              · have hv := if_n c19 hv
                refine lv_aload_n hx hb dX10_row_62 rfl (lv_at hl 1 rfl) ?_
                refine va_get (D := E.1) (ci := 4) (v := .ref o_a16) (C := RX10) (T := TX10) (N := 18) hx hb ht i_X10 hown hK hP 0 rfl rfl 16 (by decide) (ht _ kw_4_150) (fun _ h9 => h9) rfl dX10_row_63 ?_
                refine lv_bipush (v := (100 : Int32)) hx hb dX10_row_66 (by decide) ?_
                refine lv_iload_n hx hb dX10_row_68 rfl (lv_at hl 2 rfl) ?_
                refine lv_imul hx hb dX10_row_69 ?_
                refine lv_iload hx hb dX10_row_70 (lv_at hl 0 rfl) ?_
                refine lv_iadd hx hb dX10_row_72 ?_
                refine lv_iconst (v := (0 : Int32)) hx hb dX10_row_73 (by decide) ?_
                obtain ⟨g21, hv⟩ := gd_s hv
                refine va_iast hx hb hK hP hD hS 12 0 rfl rfl (ix_s g21) dX10_row_74 (fun H locs hP hD hS => ?_)
                have hP : va_P E.1 vwCl [oMo o_h o_a0 o_a1 o_a2 o_a3 o_hasImage o_place o_rowAt o_rowEnd o_a8 o_a9 o_seed o_a11 o_a12 o_a13 o_a14 o_a15 o_a16 o_thrown, ai E o_a0 42 o_s, ai E o_a1 42 o_m, ai E o_a2 42 o_image, ai E o_a3 42 o_was, ai E o_a8 3 o_numbers, ai E o_a9 8192 o_most, ai E o_a11 8 f12, ai E o_a12 8 o_keptKind, ai E o_a13 8 o_keptFigure, ai E o_a14 8 f14, ai E o_a15 8 f16, ai E o_a16 800 (upd y18 (((100 : Int32) * p1) + x17).toNatClampNeg (0 : Int32))] H := hP
                have hD : va_D A [oMo o_h o_a0 o_a1 o_a2 o_a3 o_hasImage o_place o_rowAt o_rowEnd o_a8 o_a9 o_seed o_a11 o_a12 o_a13 o_a14 o_a15 o_a16 o_thrown, ai E o_a0 42 o_s, ai E o_a1 42 o_m, ai E o_a2 42 o_image, ai E o_a3 42 o_was, ai E o_a8 3 o_numbers, ai E o_a9 8192 o_most, ai E o_a11 8 f12, ai E o_a12 8 o_keptKind, ai E o_a13 8 o_keptFigure, ai E o_a14 8 f14, ai E o_a15 8 f16, ai E o_a16 800 (upd y18 (((100 : Int32) * p1) + x17).toNatClampNeg (0 : Int32))] := hD
                obtain ⟨f22, ef22⟩ : ∃ z, z = (upd y18 (((100 : Int32) * p1) + x17).toNatClampNeg (0 : Int32)) := ⟨_, rfl⟩
                rw [← ef22] at hP hD
                have hv := nm_s ef22 hv
                refine lv_iinc (v := (x17 + (1 : Int32))) (lv' := [(4, .int (x17 + (1 : Int32))), (0, .ref o_h), (1, .int p1)]) hx hb dX10_row_75 hl (k := 0) rfl rfl (by decide) rfl (fun ls hl => ?_)
                refine lv_goto (tgt := 55) hx hb dX10_row_78 (by decide) ?_
                exact ih55 (x17 + (1 : Int32)) f22 _ _ _ hP hD hS (lv_sub hl [0, 1, 2] rfl) hv
          exact hL55 N (0 : Int32) o_element _ _ _ hP hD hS (lv_sub hl [0, 1, 2] rfl) hv
        · have hv := if_n c10 hv
          refine lv_bipush (v := (-14 : Int32)) hx hb dX10_row_28 (by decide) ?_
          refine lv_topi (fun z23 ez23 => ?_)
          have hv := nm_s ez23 hv
          cases hv
          exact W.iret hx hb hr (fun t h9 _ => ⟨rfl, by rw [h9]; exact hP, hS.F h9⟩) hS.2.2 dX10_row_30 hlk
      · have hv := if_n c9 hv
        refine lv_iconst (v := (-1 : Int32)) hx hb dX10_row_22 (by decide) ?_
        refine lv_topi (fun z24 ez24 => ?_)
        have hv := nm_s ez24 hv
        cases hv
        exact W.iret hx hb hr (fun t h9 _ => ⟨rfl, by rw [h9]; exact hP, hS.F h9⟩) hS.2.2 dX10_row_23 hlk
theorem dX10_put_0 : decode cX10_put 0 = .ok (.aload_n 0, 1) := by decide +kernel
theorem dX10_put_1 : decode cX10_put 1 = .ok (.iload_n 1, 1) := by decide +kernel
theorem dX10_put_2 : decode cX10_put 2 = .ok (.iconst (-1), 1) := by decide +kernel
theorem dX10_put_3 : decode cX10_put 3 = .ok (.invokevirtual 141, 3) := by decide +kernel
theorem dX10_put_6 : decode cX10_put 6 = .ok (.istore 4, 2) := by decide +kernel
theorem dX10_put_8 : decode cX10_put 8 = .ok (.iload 4, 2) := by decide +kernel
theorem dX10_put_10 : decode cX10_put 10 = .ok (.ifCond .eq 6, 3) := by decide +kernel
theorem dX10_put_13 : decode cX10_put 13 = .ok (.iload 4, 2) := by decide +kernel
theorem dX10_put_15 : decode cX10_put 15 = .ok (.ireturn, 1) := by decide +kernel
theorem dX10_put_16 : decode cX10_put 16 = .ok (.iload_n 2, 1) := by decide +kernel
theorem dX10_put_17 : decode cX10_put 17 = .ok (.iconst 0, 1) := by decide +kernel
theorem dX10_put_18 : decode cX10_put 18 = .ok (.aload_n 0, 1) := by decide +kernel
theorem dX10_put_19 : decode cX10_put 19 = .ok (.getfield 40, 3) := by decide +kernel
theorem dX10_put_22 : decode cX10_put 22 = .ok (.iload_n 1, 1) := by decide +kernel
theorem dX10_put_23 : decode cX10_put 23 = .ok (.iaload, 1) := by decide +kernel
theorem dX10_put_24 : decode cX10_put 24 = .ok (.iconst 1, 1) := by decide +kernel
theorem dX10_put_25 : decode cX10_put 25 = .ok (.isub, 1) := by decide +kernel
theorem dX10_put_26 : decode cX10_put 26 = .ok (.invokestatic 46, 3) := by decide +kernel
theorem dX10_put_29 : decode cX10_put 29 = .ok (.ifCond .ne 6, 3) := by decide +kernel
theorem dX10_put_32 : decode cX10_put 32 = .ok (.bipush (-13), 2) := by decide +kernel
theorem dX10_put_34 : decode cX10_put 34 = .ok (.ireturn, 1) := by decide +kernel
theorem dX10_put_35 : decode cX10_put 35 = .ok (.aload_n 0, 1) := by decide +kernel
theorem dX10_put_36 : decode cX10_put 36 = .ok (.getfield 43, 3) := by decide +kernel
theorem dX10_put_39 : decode cX10_put 39 = .ok (.bipush 100, 2) := by decide +kernel
theorem dX10_put_41 : decode cX10_put 41 = .ok (.iload_n 1, 1) := by decide +kernel
theorem dX10_put_42 : decode cX10_put 42 = .ok (.imul, 1) := by decide +kernel
theorem dX10_put_43 : decode cX10_put 43 = .ok (.iload_n 2, 1) := by decide +kernel
theorem dX10_put_44 : decode cX10_put 44 = .ok (.iadd, 1) := by decide +kernel
theorem dX10_put_45 : decode cX10_put 45 = .ok (.aload_n 0, 1) := by decide +kernel
theorem dX10_put_46 : decode cX10_put 46 = .ok (.getfield 37, 3) := by decide +kernel
theorem dX10_put_49 : decode cX10_put 49 = .ok (.iload_n 1, 1) := by decide +kernel
theorem dX10_put_50 : decode cX10_put 50 = .ok (.iaload, 1) := by decide +kernel
theorem dX10_put_51 : decode cX10_put 51 = .ok (.ifCond .ne 8, 3) := by decide +kernel
theorem dX10_put_54 : decode cX10_put 54 = .ok (.iload_n 3, 1) := by decide +kernel
theorem dX10_put_55 : decode cX10_put 55 = .ok (.i2b, 1) := by decide +kernel
theorem dX10_put_56 : decode cX10_put 56 = .ok (.goto 19, 3) := by decide +kernel
theorem dX10_put_59 : decode cX10_put 59 = .ok (.aload_n 0, 1) := by decide +kernel
theorem dX10_put_60 : decode cX10_put 60 = .ok (.getfield 37, 3) := by decide +kernel
theorem dX10_put_63 : decode cX10_put 63 = .ok (.iload_n 1, 1) := by decide +kernel
theorem dX10_put_64 : decode cX10_put 64 = .ok (.iaload, 1) := by decide +kernel
theorem dX10_put_65 : decode cX10_put 65 = .ok (.iconst 1, 1) := by decide +kernel
theorem dX10_put_66 : decode cX10_put 66 = .ok (.if_icmp .ne 8, 3) := by decide +kernel
theorem dX10_put_69 : decode cX10_put 69 = .ok (.iload_n 3, 1) := by decide +kernel
theorem dX10_put_70 : decode cX10_put 70 = .ok (.i2s, 1) := by decide +kernel
theorem dX10_put_71 : decode cX10_put 71 = .ok (.goto 4, 3) := by decide +kernel
theorem dX10_put_74 : decode cX10_put 74 = .ok (.iload_n 3, 1) := by decide +kernel
theorem dX10_put_75 : decode cX10_put 75 = .ok (.iastore, 1) := by decide +kernel
theorem dX10_put_76 : decode cX10_put 76 = .ok (.iconst 0, 1) := by decide +kernel
theorem dX10_put_77 : decode cX10_put 77 = .ok (.ireturn, 1) := by decide +kernel
def f_X10_put (o_kept : Nat → Int32) (o_sort : Nat → Int32) (o_size : Nat → Int32) (o_element : Nat → Int32) (p1 : Int32) (p2 : Int32) (p3 : Int32) : Option (Int32 × (Nat → Int32)) := ob (f_X10_wrongRow o_kept o_sort p1 (-1 : Int32)) (fun r1 => if r1 = 0 then gd (ix p1 8) (ob (f_X10_isIn p2 (0 : Int32) ((o_size p1.toNatClampNeg) - (1 : Int32))) (fun r5 => if r5 = 0 then nm (-13 : Int32) (fun z21 => some (z21, o_element)) else gd (ix p1 8) (if (o_sort p1.toNatClampNeg) = 0 then gd (ix (((100 : Int32) * p1) + p2) 800) (nm (upd o_element (((100 : Int32) * p1) + p2).toNatClampNeg (p3.toInt8.toInt32)) (fun f19 => nm (0 : Int32) (fun z20 => some (z20, f19)))) else gd (ix p1 8) (if (o_sort p1.toNatClampNeg) = (1 : Int32) then gd (ix (((100 : Int32) * p1) + p2) 800) (nm (upd o_element (((100 : Int32) * p1) + p2).toNatClampNeg (p3.toInt16.toInt32)) (fun f16 => nm (0 : Int32) (fun z17 => some (z17, f16)))) else gd (ix (((100 : Int32) * p1) + p2) 800) (nm (upd o_element (((100 : Int32) * p1) + p2).toNatClampNeg p3) (fun f13 => nm (0 : Int32) (fun z14 => some (z14, f13)))))))) else some (r1, o_element))
set_option maxHeartbeats 4000000 in
set_option maxRecDepth 100000 in
theorem c_X10_put (l : Launch) (E : EE) (o_h : Nat) (o_a0 : Nat) (o_a1 : Nat) (o_a2 : Nat) (o_a3 : Nat) (o_a8 : Nat) (o_a9 : Nat) (o_a11 : Nat) (o_a12 : Nat) (o_a13 : Nat) (o_a14 : Nat) (o_a15 : Nat) (o_a16 : Nat) (o_s : Nat → Int32) (o_m : Nat → Int32) (o_image : Nat → Int32) (o_was : Nat → Int32) (o_hasImage : Int32) (o_place : Int32) (o_rowAt : Int32) (o_rowEnd : Int32) (o_numbers : Nat → Int32) (o_most : Nat → Int32) (o_seed : Int32) (o_kept : Nat → Int32) (o_keptKind : Nat → Int32) (o_keptFigure : Nat → Int32) (o_sort : Nat → Int32) (o_size : Nat → Int32) (o_element : Nat → Int32) (o_thrown : Int32) (p1 : Int32) (p2 : Int32) (p3 : Int32) (res : Int32) (w_o_element : Nat → Int32) (hv : f_X10_put o_kept o_sort o_size o_element p1 p2 p3 = some (res, w_o_element)) : Wr l E yX10_put cX10_put 5 (some .int) ({ frames := 3, cells := 0, slots := 0, locals := 64 }) [.ref o_h, .int p1, .int p2, .int p3] [oMo o_h o_a0 o_a1 o_a2 o_a3 o_hasImage o_place o_rowAt o_rowEnd o_a8 o_a9 o_seed o_a11 o_a12 o_a13 o_a14 o_a15 o_a16 o_thrown, ai E o_a0 42 o_s, ai E o_a1 42 o_m, ai E o_a2 42 o_image, ai E o_a3 42 o_was, ai E o_a8 3 o_numbers, ai E o_a9 8192 o_most, ai E o_a11 8 o_kept, ai E o_a12 8 o_keptKind, ai E o_a13 8 o_keptFigure, ai E o_a14 8 o_sort, ai E o_a15 8 o_size, ai E o_a16 800 o_element] [oMo o_h o_a0 o_a1 o_a2 o_a3 o_hasImage o_place o_rowAt o_rowEnd o_a8 o_a9 o_seed o_a11 o_a12 o_a13 o_a14 o_a15 o_a16 o_thrown, ai E o_a0 42 o_s, ai E o_a1 42 o_m, ai E o_a2 42 o_image, ai E o_a3 42 o_was, ai E o_a8 3 o_numbers, ai E o_a9 8192 o_most, ai E o_a11 8 o_kept, ai E o_a12 8 o_keptKind, ai E o_a13 8 o_keptFigure, ai E o_a14 8 o_sort, ai E o_a15 8 o_size, ai E o_a16 800 w_o_element] (some (.int res)) := by
  refine Wr.intro RX10 (by decide) rfl (Nat.le_of_ble_eq_true rfl) ?_
  intro p e s m below meth c ls A hC hr hlk hmn hP hD hS hA hG hl
  obtain ⟨hx, hb, hml, hown, ht⟩ := id hC
  have hK := hG.1
  have hl : lv_has ls 5 [(0, .ref o_h), (1, .int p1), (2, .int p2), (3, .int p3)] := hl
  rw [f_X10_put] at hv
  refine lv_aload_n hx hb dX10_put_0 rfl (lv_at hl 0 rfl) ?_
  refine lv_iload_n hx hb dX10_put_1 rfl (lv_at hl 1 rfl) ?_
  refine lv_iconst (v := (-1 : Int32)) hx hb dX10_put_2 (by decide) ?_
  obtain ⟨r1, h2, hv⟩ := ob_s hv
  refine rdV 4 0 (As := [.int p1, .int (-1 : Int32)]) (rest := []) (st1 := [.int r1]) (w := [oMo o_h o_a0 o_a1 o_a2 o_a3 o_hasImage o_place o_rowAt o_rowEnd o_a8 o_a9 o_seed o_a11 o_a12 o_a13 o_a14 o_a15 o_a16 o_thrown, ai E o_a0 42 o_s, ai E o_a1 42 o_m, ai E o_a2 42 o_image, ai E o_a3 42 o_was, ai E o_a8 3 o_numbers, ai E o_a9 8192 o_most, ai E o_a11 8 o_kept, ai E o_a12 8 o_keptKind, ai E o_a13 8 o_keptFigure, ai E o_a14 8 o_sort, ai E o_a15 8 o_size, ai E o_a16 800 o_element]) hC q_X10_wrongRow kw_4_193 (c_X10_wrongRow l E o_h o_a0 o_a1 o_a2 o_a3 o_a8 o_a9 o_a11 o_a12 o_a13 o_a14 o_a15 o_a16 o_s o_m o_image o_was o_hasImage o_place o_rowAt o_rowEnd o_numbers o_most o_seed o_kept o_keptKind o_keptFigure o_sort o_size o_element o_thrown p1 (-1 : Int32) r1 h2) ⟨rfl, rfl⟩ ⟨Nat.le_of_ble_eq_true rfl, Nat.le_of_ble_eq_true rfl⟩ ⟨Nat.zero_le _, Nat.zero_le _⟩ hP rfl rfl rfl hG rfl hl.1 rfl (Nat.le_of_ble_eq_true rfl) dX10_put_3 rfl ?_
  refine lv_istore (lv' := [(4, .int r1), (0, .ref o_h), (1, .int p1), (2, .int p2), (3, .int p3)]) hx hb dX10_put_6 hl (by decide) rfl (fun ls hl => ?_)
  refine lv_iload hx hb dX10_put_8 (lv_at hl 0 rfl) ?_
  refine lv_if_eq (tgt := 16) hx hb dX10_put_10 (by decide) (fun c3 => ?_) (fun c3 => ?_)
  · have hv := if_y c3 hv
    refine lv_iload_n hx hb dX10_put_16 rfl (lv_at hl 3 rfl) ?_
    refine lv_iconst (v := (0 : Int32)) hx hb dX10_put_17 (by decide) ?_
    refine lv_aload_n hx hb dX10_put_18 rfl (lv_at hl 1 rfl) ?_
    refine va_get (D := E.1) (ci := 4) (v := .ref o_a15) (C := RX10) (T := TX10) (N := 18) hx hb ht i_X10 hown hK hP 0 rfl rfl 15 (by decide) (ht _ kw_4_149) (fun _ h9 => h9) rfl dX10_put_19 ?_
    refine lv_iload_n hx hb dX10_put_22 rfl (lv_at hl 2 rfl) ?_
    obtain ⟨g4, hv⟩ := gd_s hv
    refine va_iald hx hb hK hP 11 0 rfl rfl (ix_s g4) dX10_put_23 ?_
    refine lv_iconst (v := (1 : Int32)) hx hb dX10_put_24 (by decide) ?_
    refine lv_isub hx hb dX10_put_25 ?_
    obtain ⟨r5, h6, hv⟩ := ob_s hv
    refine rdS (rest := []) (st1 := [.int r5]) (w := []) hC q_X10_isIn kw_4_200 (c_X10_isIn l E p2 (0 : Int32) ((o_size p1.toNatClampNeg) - (1 : Int32)) r5 h6) ⟨rfl, rfl⟩ ⟨Nat.le_of_ble_eq_true rfl, Nat.le_of_ble_eq_true rfl⟩ ⟨Nat.zero_le _, Nat.zero_le _⟩ (hP.sub (ws' := []) [] rfl) hG rfl hl.1 rfl (Nat.le_of_ble_eq_true rfl) dX10_put_26 rfl ?_
    refine lv_if_ne (tgt := 35) hx hb dX10_put_29 (by decide) (fun c7 => ?_) (fun c7 => ?_)
    · have hv := if_n c7 hv
      refine lv_aload_n hx hb dX10_put_35 rfl (lv_at hl 1 rfl) ?_
      refine va_get (D := E.1) (ci := 4) (v := .ref o_a16) (C := RX10) (T := TX10) (N := 18) hx hb ht i_X10 hown hK hP 0 rfl rfl 16 (by decide) (ht _ kw_4_150) (fun _ h9 => h9) rfl dX10_put_36 ?_
      refine lv_bipush (v := (100 : Int32)) hx hb dX10_put_39 (by decide) ?_
      refine lv_iload_n hx hb dX10_put_41 rfl (lv_at hl 2 rfl) ?_
      refine lv_imul hx hb dX10_put_42 ?_
      refine lv_iload_n hx hb dX10_put_43 rfl (lv_at hl 3 rfl) ?_
      refine lv_iadd hx hb dX10_put_44 ?_
      refine lv_aload_n hx hb dX10_put_45 rfl (lv_at hl 1 rfl) ?_
      refine va_get (D := E.1) (ci := 4) (v := .ref o_a14) (C := RX10) (T := TX10) (N := 18) hx hb ht i_X10 hown hK hP 0 rfl rfl 14 (by decide) (ht _ kw_4_148) (fun _ h9 => h9) rfl dX10_put_46 ?_
      refine lv_iload_n hx hb dX10_put_49 rfl (lv_at hl 2 rfl) ?_
      obtain ⟨g8, hv⟩ := gd_s hv
      refine va_iald hx hb hK hP 10 0 rfl rfl (ix_s g8) dX10_put_50 ?_
      refine lv_if_ne (tgt := 59) hx hb dX10_put_51 (by decide) (fun c9 => ?_) (fun c9 => ?_)
      · have hv := if_n c9 hv
        refine lv_aload_n hx hb dX10_put_59 rfl (lv_at hl 1 rfl) ?_
        refine va_get (D := E.1) (ci := 4) (v := .ref o_a14) (C := RX10) (T := TX10) (N := 18) hx hb ht i_X10 hown hK hP 0 rfl rfl 14 (by decide) (ht _ kw_4_148) (fun _ h9 => h9) rfl dX10_put_60 ?_
        refine lv_iload_n hx hb dX10_put_63 rfl (lv_at hl 2 rfl) ?_
        obtain ⟨g10, hv⟩ := gd_s hv
        refine va_iald hx hb hK hP 10 0 rfl rfl (ix_s g10) dX10_put_64 ?_
        refine lv_iconst (v := (1 : Int32)) hx hb dX10_put_65 (by decide) ?_
        refine lv_icmp_ne (tgt := 74) hx hb dX10_put_66 (by decide) (fun c11 => ?_) (fun c11 => ?_)
        · have hv := if_n c11 hv
          refine lv_iload_n hx hb dX10_put_74 rfl (lv_at hl 4 rfl) ?_
          obtain ⟨g12, hv⟩ := gd_s hv
          refine va_iast hx hb hK hP hD hS 12 0 rfl rfl (ix_s g12) dX10_put_75 (fun H locs hP hD hS => ?_)
          have hP : va_P E.1 vwCl [oMo o_h o_a0 o_a1 o_a2 o_a3 o_hasImage o_place o_rowAt o_rowEnd o_a8 o_a9 o_seed o_a11 o_a12 o_a13 o_a14 o_a15 o_a16 o_thrown, ai E o_a0 42 o_s, ai E o_a1 42 o_m, ai E o_a2 42 o_image, ai E o_a3 42 o_was, ai E o_a8 3 o_numbers, ai E o_a9 8192 o_most, ai E o_a11 8 o_kept, ai E o_a12 8 o_keptKind, ai E o_a13 8 o_keptFigure, ai E o_a14 8 o_sort, ai E o_a15 8 o_size, ai E o_a16 800 (upd o_element (((100 : Int32) * p1) + p2).toNatClampNeg p3)] H := hP
          have hD : va_D A [oMo o_h o_a0 o_a1 o_a2 o_a3 o_hasImage o_place o_rowAt o_rowEnd o_a8 o_a9 o_seed o_a11 o_a12 o_a13 o_a14 o_a15 o_a16 o_thrown, ai E o_a0 42 o_s, ai E o_a1 42 o_m, ai E o_a2 42 o_image, ai E o_a3 42 o_was, ai E o_a8 3 o_numbers, ai E o_a9 8192 o_most, ai E o_a11 8 o_kept, ai E o_a12 8 o_keptKind, ai E o_a13 8 o_keptFigure, ai E o_a14 8 o_sort, ai E o_a15 8 o_size, ai E o_a16 800 (upd o_element (((100 : Int32) * p1) + p2).toNatClampNeg p3)] := hD
          obtain ⟨f13, ef13⟩ : ∃ z, z = (upd o_element (((100 : Int32) * p1) + p2).toNatClampNeg p3) := ⟨_, rfl⟩
          rw [← ef13] at hP hD
          have hv := nm_s ef13 hv
          refine lv_iconst (v := (0 : Int32)) hx hb dX10_put_76 (by decide) ?_
          refine lv_topi (fun z14 ez14 => ?_)
          have hv := nm_s ez14 hv
          cases hv
          exact W.iret hx hb hr (fun t h9 _ => ⟨rfl, by rw [h9]; exact hP, hS.F h9⟩) hS.2.2 dX10_put_77 hlk
        · have hv := if_y c11 hv
          refine lv_iload_n hx hb dX10_put_69 rfl (lv_at hl 4 rfl) ?_
          refine lv_i2s (v := (p3.toInt16.toInt32)) hx hb dX10_put_70 rfl ?_
          refine lv_goto (tgt := 75) hx hb dX10_put_71 (by decide) ?_
          obtain ⟨g15, hv⟩ := gd_s hv
          refine va_iast hx hb hK hP hD hS 12 0 rfl rfl (ix_s g15) dX10_put_75 (fun H locs hP hD hS => ?_)
          have hP : va_P E.1 vwCl [oMo o_h o_a0 o_a1 o_a2 o_a3 o_hasImage o_place o_rowAt o_rowEnd o_a8 o_a9 o_seed o_a11 o_a12 o_a13 o_a14 o_a15 o_a16 o_thrown, ai E o_a0 42 o_s, ai E o_a1 42 o_m, ai E o_a2 42 o_image, ai E o_a3 42 o_was, ai E o_a8 3 o_numbers, ai E o_a9 8192 o_most, ai E o_a11 8 o_kept, ai E o_a12 8 o_keptKind, ai E o_a13 8 o_keptFigure, ai E o_a14 8 o_sort, ai E o_a15 8 o_size, ai E o_a16 800 (upd o_element (((100 : Int32) * p1) + p2).toNatClampNeg (p3.toInt16.toInt32))] H := hP
          have hD : va_D A [oMo o_h o_a0 o_a1 o_a2 o_a3 o_hasImage o_place o_rowAt o_rowEnd o_a8 o_a9 o_seed o_a11 o_a12 o_a13 o_a14 o_a15 o_a16 o_thrown, ai E o_a0 42 o_s, ai E o_a1 42 o_m, ai E o_a2 42 o_image, ai E o_a3 42 o_was, ai E o_a8 3 o_numbers, ai E o_a9 8192 o_most, ai E o_a11 8 o_kept, ai E o_a12 8 o_keptKind, ai E o_a13 8 o_keptFigure, ai E o_a14 8 o_sort, ai E o_a15 8 o_size, ai E o_a16 800 (upd o_element (((100 : Int32) * p1) + p2).toNatClampNeg (p3.toInt16.toInt32))] := hD
          obtain ⟨f16, ef16⟩ : ∃ z, z = (upd o_element (((100 : Int32) * p1) + p2).toNatClampNeg (p3.toInt16.toInt32)) := ⟨_, rfl⟩
          rw [← ef16] at hP hD
          have hv := nm_s ef16 hv
          refine lv_iconst (v := (0 : Int32)) hx hb dX10_put_76 (by decide) ?_
          refine lv_topi (fun z17 ez17 => ?_)
          have hv := nm_s ez17 hv
          cases hv
          exact W.iret hx hb hr (fun t h9 _ => ⟨rfl, by rw [h9]; exact hP, hS.F h9⟩) hS.2.2 dX10_put_77 hlk
      · have hv := if_y c9 hv
        refine lv_iload_n hx hb dX10_put_54 rfl (lv_at hl 4 rfl) ?_
        refine lv_i2b (v := (p3.toInt8.toInt32)) hx hb dX10_put_55 rfl ?_
        refine lv_goto (tgt := 75) hx hb dX10_put_56 (by decide) ?_
        obtain ⟨g18, hv⟩ := gd_s hv
        refine va_iast hx hb hK hP hD hS 12 0 rfl rfl (ix_s g18) dX10_put_75 (fun H locs hP hD hS => ?_)
        have hP : va_P E.1 vwCl [oMo o_h o_a0 o_a1 o_a2 o_a3 o_hasImage o_place o_rowAt o_rowEnd o_a8 o_a9 o_seed o_a11 o_a12 o_a13 o_a14 o_a15 o_a16 o_thrown, ai E o_a0 42 o_s, ai E o_a1 42 o_m, ai E o_a2 42 o_image, ai E o_a3 42 o_was, ai E o_a8 3 o_numbers, ai E o_a9 8192 o_most, ai E o_a11 8 o_kept, ai E o_a12 8 o_keptKind, ai E o_a13 8 o_keptFigure, ai E o_a14 8 o_sort, ai E o_a15 8 o_size, ai E o_a16 800 (upd o_element (((100 : Int32) * p1) + p2).toNatClampNeg (p3.toInt8.toInt32))] H := hP
        have hD : va_D A [oMo o_h o_a0 o_a1 o_a2 o_a3 o_hasImage o_place o_rowAt o_rowEnd o_a8 o_a9 o_seed o_a11 o_a12 o_a13 o_a14 o_a15 o_a16 o_thrown, ai E o_a0 42 o_s, ai E o_a1 42 o_m, ai E o_a2 42 o_image, ai E o_a3 42 o_was, ai E o_a8 3 o_numbers, ai E o_a9 8192 o_most, ai E o_a11 8 o_kept, ai E o_a12 8 o_keptKind, ai E o_a13 8 o_keptFigure, ai E o_a14 8 o_sort, ai E o_a15 8 o_size, ai E o_a16 800 (upd o_element (((100 : Int32) * p1) + p2).toNatClampNeg (p3.toInt8.toInt32))] := hD
        obtain ⟨f19, ef19⟩ : ∃ z, z = (upd o_element (((100 : Int32) * p1) + p2).toNatClampNeg (p3.toInt8.toInt32)) := ⟨_, rfl⟩
        rw [← ef19] at hP hD
        have hv := nm_s ef19 hv
        refine lv_iconst (v := (0 : Int32)) hx hb dX10_put_76 (by decide) ?_
        refine lv_topi (fun z20 ez20 => ?_)
        have hv := nm_s ez20 hv
        cases hv
        exact W.iret hx hb hr (fun t h9 _ => ⟨rfl, by rw [h9]; exact hP, hS.F h9⟩) hS.2.2 dX10_put_77 hlk
    · have hv := if_y c7 hv
      refine lv_bipush (v := (-13 : Int32)) hx hb dX10_put_32 (by decide) ?_
      refine lv_topi (fun z21 ez21 => ?_)
      have hv := nm_s ez21 hv
      cases hv
      exact W.iret hx hb hr (fun t h9 _ => ⟨rfl, by rw [h9]; exact hP, hS.F h9⟩) hS.2.2 dX10_put_34 hlk
  · have hv := if_n c3 hv
    refine lv_iload hx hb dX10_put_13 (lv_at hl 0 rfl) ?_
    cases hv
    exact W.iret hx hb hr (fun t h9 _ => ⟨rfl, by rw [h9]; exact hP, hS.F h9⟩) hS.2.2 dX10_put_15 hlk
theorem dX10_element_0 : decode cX10_element 0 = .ok (.aload_n 0, 1) := by decide +kernel
theorem dX10_element_1 : decode cX10_element 1 = .ok (.iload_n 1, 1) := by decide +kernel
theorem dX10_element_2 : decode cX10_element 2 = .ok (.invokestatic 263, 3) := by decide +kernel
theorem dX10_element_5 : decode cX10_element 5 = .ok (.ifCond .ne 7, 3) := by decide +kernel
theorem dX10_element_8 : decode cX10_element 8 = .ok (.iconst 1, 1) := by decide +kernel
theorem dX10_element_9 : decode cX10_element 9 = .ok (.goto 34, 3) := by decide +kernel
theorem dX10_element_12 : decode cX10_element 12 = .ok (.aload_n 0, 1) := by decide +kernel
theorem dX10_element_13 : decode cX10_element 13 = .ok (.getfield 28, 3) := by decide +kernel
theorem dX10_element_16 : decode cX10_element 16 = .ok (.iload_n 1, 1) := by decide +kernel
theorem dX10_element_17 : decode cX10_element 17 = .ok (.iaload, 1) := by decide +kernel
theorem dX10_element_18 : decode cX10_element 18 = .ok (.iconst 2, 1) := by decide +kernel
theorem dX10_element_19 : decode cX10_element 19 = .ok (.if_icmp .ne 19, 3) := by decide +kernel
theorem dX10_element_22 : decode cX10_element 22 = .ok (.iload_n 2, 1) := by decide +kernel
theorem dX10_element_23 : decode cX10_element 23 = .ok (.iconst 0, 1) := by decide +kernel
theorem dX10_element_24 : decode cX10_element 24 = .ok (.aload_n 0, 1) := by decide +kernel
theorem dX10_element_25 : decode cX10_element 25 = .ok (.getfield 40, 3) := by decide +kernel
theorem dX10_element_28 : decode cX10_element 28 = .ok (.iload_n 1, 1) := by decide +kernel
theorem dX10_element_29 : decode cX10_element 29 = .ok (.iaload, 1) := by decide +kernel
theorem dX10_element_30 : decode cX10_element 30 = .ok (.iconst 1, 1) := by decide +kernel
theorem dX10_element_31 : decode cX10_element 31 = .ok (.isub, 1) := by decide +kernel
theorem dX10_element_32 : decode cX10_element 32 = .ok (.invokestatic 46, 3) := by decide +kernel
theorem dX10_element_35 : decode cX10_element 35 = .ok (.ifCond .ne 7, 3) := by decide +kernel
theorem dX10_element_38 : decode cX10_element 38 = .ok (.iconst 2, 1) := by decide +kernel
theorem dX10_element_39 : decode cX10_element 39 = .ok (.goto 4, 3) := by decide +kernel
theorem dX10_element_42 : decode cX10_element 42 = .ok (.iconst 0, 1) := by decide +kernel
theorem dX10_element_43 : decode cX10_element 43 = .ok (.putfield 260, 3) := by decide +kernel
theorem dX10_element_46 : decode cX10_element 46 = .ok (.aload_n 0, 1) := by decide +kernel
theorem dX10_element_47 : decode cX10_element 47 = .ok (.getfield 260, 3) := by decide +kernel
theorem dX10_element_50 : decode cX10_element 50 = .ok (.ifCond .ne 18, 3) := by decide +kernel
theorem dX10_element_53 : decode cX10_element 53 = .ok (.aload_n 0, 1) := by decide +kernel
theorem dX10_element_54 : decode cX10_element 54 = .ok (.getfield 43, 3) := by decide +kernel
theorem dX10_element_57 : decode cX10_element 57 = .ok (.bipush 100, 2) := by decide +kernel
theorem dX10_element_59 : decode cX10_element 59 = .ok (.iload_n 1, 1) := by decide +kernel
theorem dX10_element_60 : decode cX10_element 60 = .ok (.imul, 1) := by decide +kernel
theorem dX10_element_61 : decode cX10_element 61 = .ok (.iload_n 2, 1) := by decide +kernel
theorem dX10_element_62 : decode cX10_element 62 = .ok (.iadd, 1) := by decide +kernel
theorem dX10_element_63 : decode cX10_element 63 = .ok (.iaload, 1) := by decide +kernel
theorem dX10_element_64 : decode cX10_element 64 = .ok (.i2l, 1) := by decide +kernel
theorem dX10_element_65 : decode cX10_element 65 = .ok (.goto 4, 3) := by decide +kernel
theorem dX10_element_68 : decode cX10_element 68 = .ok (.lconst 0, 1) := by decide +kernel
theorem dX10_element_69 : decode cX10_element 69 = .ok (.lreturn, 1) := by decide +kernel
def f_X10_element (o_kept : Nat → Int32) (o_size : Nat → Int32) (o_element : Nat → Int32) (p1 : Int32) (p2 : Int32) : Option (Int64 × Int32) := ob (f_X10_isShelf p1) (fun r1 => if r1 = 0 then if (1 : Int32) = 0 then gd (ix (((100 : Int32) * p1) + p2) 800) (nm ((o_element (((100 : Int32) * p1) + p2).toNatClampNeg).toInt64) (fun z25 => some (z25, (1 : Int32)))) else nm (0 : Int64) (fun z23 => some (z23, (1 : Int32))) else gd (ix p1 8) (if (o_kept p1.toNatClampNeg) = (2 : Int32) then gd (ix p1 8) (ob (f_X10_isIn p2 (0 : Int32) ((o_size p1.toNatClampNeg) - (1 : Int32))) (fun r11 => if r11 = 0 then if (2 : Int32) = 0 then gd (ix (((100 : Int32) * p1) + p2) 800) (nm ((o_element (((100 : Int32) * p1) + p2).toNatClampNeg).toInt64) (fun z21 => some (z21, (2 : Int32)))) else nm (0 : Int64) (fun z19 => some (z19, (2 : Int32))) else if (0 : Int32) = 0 then gd (ix (((100 : Int32) * p1) + p2) 800) (nm ((o_element (((100 : Int32) * p1) + p2).toNatClampNeg).toInt64) (fun z17 => some (z17, (0 : Int32)))) else nm (0 : Int64) (fun z15 => some (z15, (0 : Int32))))) else if (2 : Int32) = 0 then gd (ix (((100 : Int32) * p1) + p2) 800) (nm ((o_element (((100 : Int32) * p1) + p2).toNatClampNeg).toInt64) (fun z9 => some (z9, (2 : Int32)))) else nm (0 : Int64) (fun z7 => some (z7, (2 : Int32)))))
set_option maxHeartbeats 4000000 in
set_option maxRecDepth 100000 in
theorem c_X10_element (l : Launch) (E : EE) (o_h : Nat) (o_a0 : Nat) (o_a1 : Nat) (o_a2 : Nat) (o_a3 : Nat) (o_a8 : Nat) (o_a9 : Nat) (o_a11 : Nat) (o_a12 : Nat) (o_a13 : Nat) (o_a14 : Nat) (o_a15 : Nat) (o_a16 : Nat) (o_s : Nat → Int32) (o_m : Nat → Int32) (o_image : Nat → Int32) (o_was : Nat → Int32) (o_hasImage : Int32) (o_place : Int32) (o_rowAt : Int32) (o_rowEnd : Int32) (o_numbers : Nat → Int32) (o_most : Nat → Int32) (o_seed : Int32) (o_kept : Nat → Int32) (o_keptKind : Nat → Int32) (o_keptFigure : Nat → Int32) (o_sort : Nat → Int32) (o_size : Nat → Int32) (o_element : Nat → Int32) (o_thrown : Int32) (p1 : Int32) (p2 : Int32) (res : Int64) (w_o_thrown : Int32) (hv : f_X10_element o_kept o_size o_element p1 p2 = some (res, w_o_thrown)) : Wr l E yX10_element cX10_element 3 (some .long) ({ frames := 2, cells := 0, slots := 0, locals := 42 }) [.ref o_h, .int p1, .int p2] [oMo o_h o_a0 o_a1 o_a2 o_a3 o_hasImage o_place o_rowAt o_rowEnd o_a8 o_a9 o_seed o_a11 o_a12 o_a13 o_a14 o_a15 o_a16 o_thrown, ai E o_a0 42 o_s, ai E o_a1 42 o_m, ai E o_a2 42 o_image, ai E o_a3 42 o_was, ai E o_a8 3 o_numbers, ai E o_a9 8192 o_most, ai E o_a11 8 o_kept, ai E o_a12 8 o_keptKind, ai E o_a13 8 o_keptFigure, ai E o_a14 8 o_sort, ai E o_a15 8 o_size, ai E o_a16 800 o_element] [oMo o_h o_a0 o_a1 o_a2 o_a3 o_hasImage o_place o_rowAt o_rowEnd o_a8 o_a9 o_seed o_a11 o_a12 o_a13 o_a14 o_a15 o_a16 w_o_thrown, ai E o_a0 42 o_s, ai E o_a1 42 o_m, ai E o_a2 42 o_image, ai E o_a3 42 o_was, ai E o_a8 3 o_numbers, ai E o_a9 8192 o_most, ai E o_a11 8 o_kept, ai E o_a12 8 o_keptKind, ai E o_a13 8 o_keptFigure, ai E o_a14 8 o_sort, ai E o_a15 8 o_size, ai E o_a16 800 o_element] (some (.long res)) := by
  refine Wr.intro RX10 (by decide) rfl (Nat.le_of_ble_eq_true rfl) ?_
  intro p e s m below meth c ls A hC hr hlk hmn hP hD hS hA hG hl
  obtain ⟨hx, hb, hml, hown, ht⟩ := id hC
  have hK := hG.1
  have hl : lv_has ls 3 [(0, .ref o_h), (1, .int p1), (2, .int p2)] := hl
  rw [f_X10_element] at hv
  refine lv_aload_n hx hb dX10_element_0 rfl (lv_at hl 0 rfl) ?_
  refine lv_iload_n hx hb dX10_element_1 rfl (lv_at hl 1 rfl) ?_
  obtain ⟨r1, h2, hv⟩ := ob_s hv
  refine rdS (rest := [.ref o_h]) (st1 := [.int r1, .ref o_h]) (w := []) hC q_X10_isShelf kw_4_197 (c_X10_isShelf l E p1 r1 h2) ⟨rfl, rfl⟩ ⟨Nat.le_of_ble_eq_true rfl, Nat.le_of_ble_eq_true rfl⟩ ⟨Nat.zero_le _, Nat.zero_le _⟩ (hP.sub (ws' := []) [] rfl) hG rfl hl.1 rfl (Nat.le_of_ble_eq_true rfl) dX10_element_2 rfl ?_
  refine lv_if_ne (tgt := 12) hx hb dX10_element_5 (by decide) (fun c3 => ?_) (fun c3 => ?_)
  · have hv := if_n c3 hv
    refine lv_aload_n hx hb dX10_element_12 rfl (lv_at hl 0 rfl) ?_
    refine va_get (D := E.1) (ci := 4) (v := .ref o_a11) (C := RX10) (T := TX10) (N := 18) hx hb ht i_X10 hown hK hP 0 rfl rfl 11 (by decide) (ht _ kw_4_145) (fun _ h9 => h9) rfl dX10_element_13 ?_
    refine lv_iload_n hx hb dX10_element_16 rfl (lv_at hl 1 rfl) ?_
    obtain ⟨g4, hv⟩ := gd_s hv
    refine va_iald hx hb hK hP 7 0 rfl rfl (ix_s g4) dX10_element_17 ?_
    refine lv_iconst (v := (2 : Int32)) hx hb dX10_element_18 (by decide) ?_
    refine lv_icmp_ne (tgt := 38) hx hb dX10_element_19 (by decide) (fun c5 => ?_) (fun c5 => ?_)
    · have hv := if_n c5 hv
      refine lv_iconst (v := (2 : Int32)) hx hb dX10_element_38 (by decide) ?_
      refine lv_goto (tgt := 43) hx hb dX10_element_39 (by decide) ?_
      refine va_put (D := E.1) (ci := 4) (v := .int (2 : Int32)) (ty := .int) (C := RX10) (T := TX10) (N := 18) hx hb ht i_X10 tyX10 tyX10_ok nmX10 hown hK hP hD hS 0 rfl rfl 17 (by decide) (ht _ kw_4_151) (fun _ h9 => h9) rfl (by decide +kernel) rfl rfl (Nat.le_of_ble_eq_true rfl) dX10_element_43 (fun H locs hP hD hS => ?_)
      have hP : va_P E.1 vwCl [oMo o_h o_a0 o_a1 o_a2 o_a3 o_hasImage o_place o_rowAt o_rowEnd o_a8 o_a9 o_seed o_a11 o_a12 o_a13 o_a14 o_a15 o_a16 (2 : Int32), ai E o_a0 42 o_s, ai E o_a1 42 o_m, ai E o_a2 42 o_image, ai E o_a3 42 o_was, ai E o_a8 3 o_numbers, ai E o_a9 8192 o_most, ai E o_a11 8 o_kept, ai E o_a12 8 o_keptKind, ai E o_a13 8 o_keptFigure, ai E o_a14 8 o_sort, ai E o_a15 8 o_size, ai E o_a16 800 o_element] H := hP
      have hD : va_D A [oMo o_h o_a0 o_a1 o_a2 o_a3 o_hasImage o_place o_rowAt o_rowEnd o_a8 o_a9 o_seed o_a11 o_a12 o_a13 o_a14 o_a15 o_a16 (2 : Int32), ai E o_a0 42 o_s, ai E o_a1 42 o_m, ai E o_a2 42 o_image, ai E o_a3 42 o_was, ai E o_a8 3 o_numbers, ai E o_a9 8192 o_most, ai E o_a11 8 o_kept, ai E o_a12 8 o_keptKind, ai E o_a13 8 o_keptFigure, ai E o_a14 8 o_sort, ai E o_a15 8 o_size, ai E o_a16 800 o_element] := hD
      refine lv_aload_n hx hb dX10_element_46 rfl (lv_at hl 0 rfl) ?_
      refine va_get (D := E.1) (ci := 4) (v := .int (2 : Int32)) (C := RX10) (T := TX10) (N := 18) hx hb ht i_X10 hown hK hP 0 rfl rfl 17 (by decide) (ht _ kw_4_151) (fun _ h9 => h9) rfl dX10_element_47 ?_
      refine lv_if_ne (tgt := 68) hx hb dX10_element_50 (by decide) (fun c6 => ?_) (fun c6 => ?_)
      · have hv := if_n c6 hv
        refine lv_lconst (v := (0 : Int64)) hx hb dX10_element_68 (by decide) ?_
        refine lv_topl (fun z7 ez7 => ?_)
        have hv := nm_s ez7 hv
        cases hv
        exact W.lret hx hb hr (fun t h9 _ => ⟨rfl, by rw [h9]; exact hP, hS.F h9⟩) hS.2.2 dX10_element_69 hlk
      · have hv := if_y c6 hv
        refine lv_aload_n hx hb dX10_element_53 rfl (lv_at hl 0 rfl) ?_
        refine va_get (D := E.1) (ci := 4) (v := .ref o_a16) (C := RX10) (T := TX10) (N := 18) hx hb ht i_X10 hown hK hP 0 rfl rfl 16 (by decide) (ht _ kw_4_150) (fun _ h9 => h9) rfl dX10_element_54 ?_
        refine lv_bipush (v := (100 : Int32)) hx hb dX10_element_57 (by decide) ?_
        refine lv_iload_n hx hb dX10_element_59 rfl (lv_at hl 1 rfl) ?_
        refine lv_imul hx hb dX10_element_60 ?_
        refine lv_iload_n hx hb dX10_element_61 rfl (lv_at hl 2 rfl) ?_
        refine lv_iadd hx hb dX10_element_62 ?_
        obtain ⟨g8, hv⟩ := gd_s hv
        refine va_iald hx hb hK hP 12 0 rfl rfl (ix_s g8) dX10_element_63 ?_
        refine lv_i2l (v := ((o_element (((100 : Int32) * p1) + p2).toNatClampNeg).toInt64)) hx hb dX10_element_64 rfl ?_
        refine lv_goto (tgt := 69) hx hb dX10_element_65 (by decide) ?_
        refine lv_topl (fun z9 ez9 => ?_)
        have hv := nm_s ez9 hv
        cases hv
        exact W.lret hx hb hr (fun t h9 _ => ⟨rfl, by rw [h9]; exact hP, hS.F h9⟩) hS.2.2 dX10_element_69 hlk
    · have hv := if_y c5 hv
      refine lv_iload_n hx hb dX10_element_22 rfl (lv_at hl 2 rfl) ?_
      refine lv_iconst (v := (0 : Int32)) hx hb dX10_element_23 (by decide) ?_
      refine lv_aload_n hx hb dX10_element_24 rfl (lv_at hl 0 rfl) ?_
      refine va_get (D := E.1) (ci := 4) (v := .ref o_a15) (C := RX10) (T := TX10) (N := 18) hx hb ht i_X10 hown hK hP 0 rfl rfl 15 (by decide) (ht _ kw_4_149) (fun _ h9 => h9) rfl dX10_element_25 ?_
      refine lv_iload_n hx hb dX10_element_28 rfl (lv_at hl 1 rfl) ?_
      obtain ⟨g10, hv⟩ := gd_s hv
      refine va_iald hx hb hK hP 11 0 rfl rfl (ix_s g10) dX10_element_29 ?_
      refine lv_iconst (v := (1 : Int32)) hx hb dX10_element_30 (by decide) ?_
      refine lv_isub hx hb dX10_element_31 ?_
      obtain ⟨r11, h12, hv⟩ := ob_s hv
      refine rdS (rest := [.ref o_h]) (st1 := [.int r11, .ref o_h]) (w := []) hC q_X10_isIn kw_4_200 (c_X10_isIn l E p2 (0 : Int32) ((o_size p1.toNatClampNeg) - (1 : Int32)) r11 h12) ⟨rfl, rfl⟩ ⟨Nat.le_of_ble_eq_true rfl, Nat.le_of_ble_eq_true rfl⟩ ⟨Nat.zero_le _, Nat.zero_le _⟩ (hP.sub (ws' := []) [] rfl) hG rfl hl.1 rfl (Nat.le_of_ble_eq_true rfl) dX10_element_32 rfl ?_
      refine lv_if_ne (tgt := 42) hx hb dX10_element_35 (by decide) (fun c13 => ?_) (fun c13 => ?_)
      · have hv := if_n c13 hv
        refine lv_iconst (v := (0 : Int32)) hx hb dX10_element_42 (by decide) ?_
        refine va_put (D := E.1) (ci := 4) (v := .int (0 : Int32)) (ty := .int) (C := RX10) (T := TX10) (N := 18) hx hb ht i_X10 tyX10 tyX10_ok nmX10 hown hK hP hD hS 0 rfl rfl 17 (by decide) (ht _ kw_4_151) (fun _ h9 => h9) rfl (by decide +kernel) rfl rfl (Nat.le_of_ble_eq_true rfl) dX10_element_43 (fun H locs hP hD hS => ?_)
        have hP : va_P E.1 vwCl [oMo o_h o_a0 o_a1 o_a2 o_a3 o_hasImage o_place o_rowAt o_rowEnd o_a8 o_a9 o_seed o_a11 o_a12 o_a13 o_a14 o_a15 o_a16 (0 : Int32), ai E o_a0 42 o_s, ai E o_a1 42 o_m, ai E o_a2 42 o_image, ai E o_a3 42 o_was, ai E o_a8 3 o_numbers, ai E o_a9 8192 o_most, ai E o_a11 8 o_kept, ai E o_a12 8 o_keptKind, ai E o_a13 8 o_keptFigure, ai E o_a14 8 o_sort, ai E o_a15 8 o_size, ai E o_a16 800 o_element] H := hP
        have hD : va_D A [oMo o_h o_a0 o_a1 o_a2 o_a3 o_hasImage o_place o_rowAt o_rowEnd o_a8 o_a9 o_seed o_a11 o_a12 o_a13 o_a14 o_a15 o_a16 (0 : Int32), ai E o_a0 42 o_s, ai E o_a1 42 o_m, ai E o_a2 42 o_image, ai E o_a3 42 o_was, ai E o_a8 3 o_numbers, ai E o_a9 8192 o_most, ai E o_a11 8 o_kept, ai E o_a12 8 o_keptKind, ai E o_a13 8 o_keptFigure, ai E o_a14 8 o_sort, ai E o_a15 8 o_size, ai E o_a16 800 o_element] := hD
        refine lv_aload_n hx hb dX10_element_46 rfl (lv_at hl 0 rfl) ?_
        refine va_get (D := E.1) (ci := 4) (v := .int (0 : Int32)) (C := RX10) (T := TX10) (N := 18) hx hb ht i_X10 hown hK hP 0 rfl rfl 17 (by decide) (ht _ kw_4_151) (fun _ h9 => h9) rfl dX10_element_47 ?_
        refine lv_if_ne (tgt := 68) hx hb dX10_element_50 (by decide) (fun c14 => ?_) (fun c14 => ?_)
        · have hv := if_n c14 hv
          refine lv_lconst (v := (0 : Int64)) hx hb dX10_element_68 (by decide) ?_
          refine lv_topl (fun z15 ez15 => ?_)
          have hv := nm_s ez15 hv
          cases hv
          exact W.lret hx hb hr (fun t h9 _ => ⟨rfl, by rw [h9]; exact hP, hS.F h9⟩) hS.2.2 dX10_element_69 hlk
        · have hv := if_y c14 hv
          refine lv_aload_n hx hb dX10_element_53 rfl (lv_at hl 0 rfl) ?_
          refine va_get (D := E.1) (ci := 4) (v := .ref o_a16) (C := RX10) (T := TX10) (N := 18) hx hb ht i_X10 hown hK hP 0 rfl rfl 16 (by decide) (ht _ kw_4_150) (fun _ h9 => h9) rfl dX10_element_54 ?_
          refine lv_bipush (v := (100 : Int32)) hx hb dX10_element_57 (by decide) ?_
          refine lv_iload_n hx hb dX10_element_59 rfl (lv_at hl 1 rfl) ?_
          refine lv_imul hx hb dX10_element_60 ?_
          refine lv_iload_n hx hb dX10_element_61 rfl (lv_at hl 2 rfl) ?_
          refine lv_iadd hx hb dX10_element_62 ?_
          obtain ⟨g16, hv⟩ := gd_s hv
          refine va_iald hx hb hK hP 12 0 rfl rfl (ix_s g16) dX10_element_63 ?_
          refine lv_i2l (v := ((o_element (((100 : Int32) * p1) + p2).toNatClampNeg).toInt64)) hx hb dX10_element_64 rfl ?_
          refine lv_goto (tgt := 69) hx hb dX10_element_65 (by decide) ?_
          refine lv_topl (fun z17 ez17 => ?_)
          have hv := nm_s ez17 hv
          cases hv
          exact W.lret hx hb hr (fun t h9 _ => ⟨rfl, by rw [h9]; exact hP, hS.F h9⟩) hS.2.2 dX10_element_69 hlk
      · have hv := if_y c13 hv
        refine lv_iconst (v := (2 : Int32)) hx hb dX10_element_38 (by decide) ?_
        refine lv_goto (tgt := 43) hx hb dX10_element_39 (by decide) ?_
        refine va_put (D := E.1) (ci := 4) (v := .int (2 : Int32)) (ty := .int) (C := RX10) (T := TX10) (N := 18) hx hb ht i_X10 tyX10 tyX10_ok nmX10 hown hK hP hD hS 0 rfl rfl 17 (by decide) (ht _ kw_4_151) (fun _ h9 => h9) rfl (by decide +kernel) rfl rfl (Nat.le_of_ble_eq_true rfl) dX10_element_43 (fun H locs hP hD hS => ?_)
        have hP : va_P E.1 vwCl [oMo o_h o_a0 o_a1 o_a2 o_a3 o_hasImage o_place o_rowAt o_rowEnd o_a8 o_a9 o_seed o_a11 o_a12 o_a13 o_a14 o_a15 o_a16 (2 : Int32), ai E o_a0 42 o_s, ai E o_a1 42 o_m, ai E o_a2 42 o_image, ai E o_a3 42 o_was, ai E o_a8 3 o_numbers, ai E o_a9 8192 o_most, ai E o_a11 8 o_kept, ai E o_a12 8 o_keptKind, ai E o_a13 8 o_keptFigure, ai E o_a14 8 o_sort, ai E o_a15 8 o_size, ai E o_a16 800 o_element] H := hP
        have hD : va_D A [oMo o_h o_a0 o_a1 o_a2 o_a3 o_hasImage o_place o_rowAt o_rowEnd o_a8 o_a9 o_seed o_a11 o_a12 o_a13 o_a14 o_a15 o_a16 (2 : Int32), ai E o_a0 42 o_s, ai E o_a1 42 o_m, ai E o_a2 42 o_image, ai E o_a3 42 o_was, ai E o_a8 3 o_numbers, ai E o_a9 8192 o_most, ai E o_a11 8 o_kept, ai E o_a12 8 o_keptKind, ai E o_a13 8 o_keptFigure, ai E o_a14 8 o_sort, ai E o_a15 8 o_size, ai E o_a16 800 o_element] := hD
        refine lv_aload_n hx hb dX10_element_46 rfl (lv_at hl 0 rfl) ?_
        refine va_get (D := E.1) (ci := 4) (v := .int (2 : Int32)) (C := RX10) (T := TX10) (N := 18) hx hb ht i_X10 hown hK hP 0 rfl rfl 17 (by decide) (ht _ kw_4_151) (fun _ h9 => h9) rfl dX10_element_47 ?_
        refine lv_if_ne (tgt := 68) hx hb dX10_element_50 (by decide) (fun c18 => ?_) (fun c18 => ?_)
        · have hv := if_n c18 hv
          refine lv_lconst (v := (0 : Int64)) hx hb dX10_element_68 (by decide) ?_
          refine lv_topl (fun z19 ez19 => ?_)
          have hv := nm_s ez19 hv
          cases hv
          exact W.lret hx hb hr (fun t h9 _ => ⟨rfl, by rw [h9]; exact hP, hS.F h9⟩) hS.2.2 dX10_element_69 hlk
        · have hv := if_y c18 hv
          refine lv_aload_n hx hb dX10_element_53 rfl (lv_at hl 0 rfl) ?_
          refine va_get (D := E.1) (ci := 4) (v := .ref o_a16) (C := RX10) (T := TX10) (N := 18) hx hb ht i_X10 hown hK hP 0 rfl rfl 16 (by decide) (ht _ kw_4_150) (fun _ h9 => h9) rfl dX10_element_54 ?_
          refine lv_bipush (v := (100 : Int32)) hx hb dX10_element_57 (by decide) ?_
          refine lv_iload_n hx hb dX10_element_59 rfl (lv_at hl 1 rfl) ?_
          refine lv_imul hx hb dX10_element_60 ?_
          refine lv_iload_n hx hb dX10_element_61 rfl (lv_at hl 2 rfl) ?_
          refine lv_iadd hx hb dX10_element_62 ?_
          obtain ⟨g20, hv⟩ := gd_s hv
          refine va_iald hx hb hK hP 12 0 rfl rfl (ix_s g20) dX10_element_63 ?_
          refine lv_i2l (v := ((o_element (((100 : Int32) * p1) + p2).toNatClampNeg).toInt64)) hx hb dX10_element_64 rfl ?_
          refine lv_goto (tgt := 69) hx hb dX10_element_65 (by decide) ?_
          refine lv_topl (fun z21 ez21 => ?_)
          have hv := nm_s ez21 hv
          cases hv
          exact W.lret hx hb hr (fun t h9 _ => ⟨rfl, by rw [h9]; exact hP, hS.F h9⟩) hS.2.2 dX10_element_69 hlk
  · have hv := if_y c3 hv
    refine lv_iconst (v := (1 : Int32)) hx hb dX10_element_8 (by decide) ?_
    refine lv_goto (tgt := 43) hx hb dX10_element_9 (by decide) ?_
    refine va_put (D := E.1) (ci := 4) (v := .int (1 : Int32)) (ty := .int) (C := RX10) (T := TX10) (N := 18) hx hb ht i_X10 tyX10 tyX10_ok nmX10 hown hK hP hD hS 0 rfl rfl 17 (by decide) (ht _ kw_4_151) (fun _ h9 => h9) rfl (by decide +kernel) rfl rfl (Nat.le_of_ble_eq_true rfl) dX10_element_43 (fun H locs hP hD hS => ?_)
    have hP : va_P E.1 vwCl [oMo o_h o_a0 o_a1 o_a2 o_a3 o_hasImage o_place o_rowAt o_rowEnd o_a8 o_a9 o_seed o_a11 o_a12 o_a13 o_a14 o_a15 o_a16 (1 : Int32), ai E o_a0 42 o_s, ai E o_a1 42 o_m, ai E o_a2 42 o_image, ai E o_a3 42 o_was, ai E o_a8 3 o_numbers, ai E o_a9 8192 o_most, ai E o_a11 8 o_kept, ai E o_a12 8 o_keptKind, ai E o_a13 8 o_keptFigure, ai E o_a14 8 o_sort, ai E o_a15 8 o_size, ai E o_a16 800 o_element] H := hP
    have hD : va_D A [oMo o_h o_a0 o_a1 o_a2 o_a3 o_hasImage o_place o_rowAt o_rowEnd o_a8 o_a9 o_seed o_a11 o_a12 o_a13 o_a14 o_a15 o_a16 (1 : Int32), ai E o_a0 42 o_s, ai E o_a1 42 o_m, ai E o_a2 42 o_image, ai E o_a3 42 o_was, ai E o_a8 3 o_numbers, ai E o_a9 8192 o_most, ai E o_a11 8 o_kept, ai E o_a12 8 o_keptKind, ai E o_a13 8 o_keptFigure, ai E o_a14 8 o_sort, ai E o_a15 8 o_size, ai E o_a16 800 o_element] := hD
    refine lv_aload_n hx hb dX10_element_46 rfl (lv_at hl 0 rfl) ?_
    refine va_get (D := E.1) (ci := 4) (v := .int (1 : Int32)) (C := RX10) (T := TX10) (N := 18) hx hb ht i_X10 hown hK hP 0 rfl rfl 17 (by decide) (ht _ kw_4_151) (fun _ h9 => h9) rfl dX10_element_47 ?_
    refine lv_if_ne (tgt := 68) hx hb dX10_element_50 (by decide) (fun c22 => ?_) (fun c22 => ?_)
    · have hv := if_n c22 hv
      refine lv_lconst (v := (0 : Int64)) hx hb dX10_element_68 (by decide) ?_
      refine lv_topl (fun z23 ez23 => ?_)
      have hv := nm_s ez23 hv
      cases hv
      exact W.lret hx hb hr (fun t h9 _ => ⟨rfl, by rw [h9]; exact hP, hS.F h9⟩) hS.2.2 dX10_element_69 hlk
    · have hv := if_y c22 hv
      refine lv_aload_n hx hb dX10_element_53 rfl (lv_at hl 0 rfl) ?_
      refine va_get (D := E.1) (ci := 4) (v := .ref o_a16) (C := RX10) (T := TX10) (N := 18) hx hb ht i_X10 hown hK hP 0 rfl rfl 16 (by decide) (ht _ kw_4_150) (fun _ h9 => h9) rfl dX10_element_54 ?_
      refine lv_bipush (v := (100 : Int32)) hx hb dX10_element_57 (by decide) ?_
      refine lv_iload_n hx hb dX10_element_59 rfl (lv_at hl 1 rfl) ?_
      refine lv_imul hx hb dX10_element_60 ?_
      refine lv_iload_n hx hb dX10_element_61 rfl (lv_at hl 2 rfl) ?_
      refine lv_iadd hx hb dX10_element_62 ?_
      obtain ⟨g24, hv⟩ := gd_s hv
      refine va_iald hx hb hK hP 12 0 rfl rfl (ix_s g24) dX10_element_63 ?_
      refine lv_i2l (v := ((o_element (((100 : Int32) * p1) + p2).toNatClampNeg).toInt64)) hx hb dX10_element_64 rfl ?_
      refine lv_goto (tgt := 69) hx hb dX10_element_65 (by decide) ?_
      refine lv_topl (fun z25 ez25 => ?_)
      have hv := nm_s ez25 hv
      cases hv
      exact W.lret hx hb hr (fun t h9 _ => ⟨rfl, by rw [h9]; exact hP, hS.F h9⟩) hS.2.2 dX10_element_69 hlk
theorem dX10_copy_0 : decode cX10_copy 0 = .ok (.iload_n 1, 1) := by decide +kernel
theorem dX10_copy_1 : decode cX10_copy 1 = .ok (.invokestatic 263, 3) := by decide +kernel
theorem dX10_copy_4 : decode cX10_copy 4 = .ok (.ifCond .eq 10, 3) := by decide +kernel
theorem dX10_copy_7 : decode cX10_copy 7 = .ok (.iload_n 3, 1) := by decide +kernel
theorem dX10_copy_8 : decode cX10_copy 8 = .ok (.invokestatic 263, 3) := by decide +kernel
theorem dX10_copy_11 : decode cX10_copy 11 = .ok (.ifCond .ne 5, 3) := by decide +kernel
theorem dX10_copy_14 : decode cX10_copy 14 = .ok (.iconst (-1), 1) := by decide +kernel
theorem dX10_copy_15 : decode cX10_copy 15 = .ok (.ireturn, 1) := by decide +kernel
theorem dX10_copy_16 : decode cX10_copy 16 = .ok (.aload_n 0, 1) := by decide +kernel
theorem dX10_copy_17 : decode cX10_copy 17 = .ok (.getfield 28, 3) := by decide +kernel
theorem dX10_copy_20 : decode cX10_copy 20 = .ok (.iload_n 1, 1) := by decide +kernel
theorem dX10_copy_21 : decode cX10_copy 21 = .ok (.iaload, 1) := by decide +kernel
theorem dX10_copy_22 : decode cX10_copy 22 = .ok (.ifCond .eq 12, 3) := by decide +kernel
theorem dX10_copy_25 : decode cX10_copy 25 = .ok (.aload_n 0, 1) := by decide +kernel
theorem dX10_copy_26 : decode cX10_copy 26 = .ok (.getfield 28, 3) := by decide +kernel
theorem dX10_copy_29 : decode cX10_copy 29 = .ok (.iload_n 3, 1) := by decide +kernel
theorem dX10_copy_30 : decode cX10_copy 30 = .ok (.iaload, 1) := by decide +kernel
theorem dX10_copy_31 : decode cX10_copy 31 = .ok (.ifCond .ne 6, 3) := by decide +kernel
theorem dX10_copy_34 : decode cX10_copy 34 = .ok (.bipush (-11), 2) := by decide +kernel
theorem dX10_copy_36 : decode cX10_copy 36 = .ok (.ireturn, 1) := by decide +kernel
theorem dX10_copy_37 : decode cX10_copy 37 = .ok (.aload_n 0, 1) := by decide +kernel
theorem dX10_copy_38 : decode cX10_copy 38 = .ok (.getfield 28, 3) := by decide +kernel
theorem dX10_copy_41 : decode cX10_copy 41 = .ok (.iload_n 1, 1) := by decide +kernel
theorem dX10_copy_42 : decode cX10_copy 42 = .ok (.iaload, 1) := by decide +kernel
theorem dX10_copy_43 : decode cX10_copy 43 = .ok (.iconst 2, 1) := by decide +kernel
theorem dX10_copy_44 : decode cX10_copy 44 = .ok (.if_icmp .ne 28, 3) := by decide +kernel
theorem dX10_copy_47 : decode cX10_copy 47 = .ok (.aload_n 0, 1) := by decide +kernel
theorem dX10_copy_48 : decode cX10_copy 48 = .ok (.getfield 28, 3) := by decide +kernel
theorem dX10_copy_51 : decode cX10_copy 51 = .ok (.iload_n 3, 1) := by decide +kernel
theorem dX10_copy_52 : decode cX10_copy 52 = .ok (.iaload, 1) := by decide +kernel
theorem dX10_copy_53 : decode cX10_copy 53 = .ok (.iconst 2, 1) := by decide +kernel
theorem dX10_copy_54 : decode cX10_copy 54 = .ok (.if_icmp .ne 18, 3) := by decide +kernel
theorem dX10_copy_57 : decode cX10_copy 57 = .ok (.aload_n 0, 1) := by decide +kernel
theorem dX10_copy_58 : decode cX10_copy 58 = .ok (.getfield 37, 3) := by decide +kernel
theorem dX10_copy_61 : decode cX10_copy 61 = .ok (.iload_n 1, 1) := by decide +kernel
theorem dX10_copy_62 : decode cX10_copy 62 = .ok (.iaload, 1) := by decide +kernel
theorem dX10_copy_63 : decode cX10_copy 63 = .ok (.aload_n 0, 1) := by decide +kernel
theorem dX10_copy_64 : decode cX10_copy 64 = .ok (.getfield 37, 3) := by decide +kernel
theorem dX10_copy_67 : decode cX10_copy 67 = .ok (.iload_n 3, 1) := by decide +kernel
theorem dX10_copy_68 : decode cX10_copy 68 = .ok (.iaload, 1) := by decide +kernel
theorem dX10_copy_69 : decode cX10_copy 69 = .ok (.if_icmp .eq 6, 3) := by decide +kernel
theorem dX10_copy_72 : decode cX10_copy 72 = .ok (.bipush (-12), 2) := by decide +kernel
theorem dX10_copy_74 : decode cX10_copy 74 = .ok (.ireturn, 1) := by decide +kernel
theorem dX10_copy_75 : decode cX10_copy 75 = .ok (.iload 5, 2) := by decide +kernel
theorem dX10_copy_77 : decode cX10_copy 77 = .ok (.ifCond .lt 39, 3) := by decide +kernel
theorem dX10_copy_80 : decode cX10_copy 80 = .ok (.iload_n 2, 1) := by decide +kernel
theorem dX10_copy_81 : decode cX10_copy 81 = .ok (.ifCond .lt 35, 3) := by decide +kernel
theorem dX10_copy_84 : decode cX10_copy 84 = .ok (.iload 4, 2) := by decide +kernel
theorem dX10_copy_86 : decode cX10_copy 86 = .ok (.ifCond .lt 30, 3) := by decide +kernel
theorem dX10_copy_89 : decode cX10_copy 89 = .ok (.iload 5, 2) := by decide +kernel
theorem dX10_copy_91 : decode cX10_copy 91 = .ok (.aload_n 0, 1) := by decide +kernel
theorem dX10_copy_92 : decode cX10_copy 92 = .ok (.getfield 40, 3) := by decide +kernel
theorem dX10_copy_95 : decode cX10_copy 95 = .ok (.iload_n 1, 1) := by decide +kernel
theorem dX10_copy_96 : decode cX10_copy 96 = .ok (.iaload, 1) := by decide +kernel
theorem dX10_copy_97 : decode cX10_copy 97 = .ok (.iload_n 2, 1) := by decide +kernel
theorem dX10_copy_98 : decode cX10_copy 98 = .ok (.isub, 1) := by decide +kernel
theorem dX10_copy_99 : decode cX10_copy 99 = .ok (.if_icmp .gt 17, 3) := by decide +kernel
theorem dX10_copy_102 : decode cX10_copy 102 = .ok (.iload 5, 2) := by decide +kernel
theorem dX10_copy_104 : decode cX10_copy 104 = .ok (.aload_n 0, 1) := by decide +kernel
theorem dX10_copy_105 : decode cX10_copy 105 = .ok (.getfield 40, 3) := by decide +kernel
theorem dX10_copy_108 : decode cX10_copy 108 = .ok (.iload_n 3, 1) := by decide +kernel
theorem dX10_copy_109 : decode cX10_copy 109 = .ok (.iaload, 1) := by decide +kernel
theorem dX10_copy_110 : decode cX10_copy 110 = .ok (.iload 4, 2) := by decide +kernel
theorem dX10_copy_112 : decode cX10_copy 112 = .ok (.isub, 1) := by decide +kernel
theorem dX10_copy_113 : decode cX10_copy 113 = .ok (.if_icmp .le 6, 3) := by decide +kernel
theorem dX10_copy_116 : decode cX10_copy 116 = .ok (.bipush (-13), 2) := by decide +kernel
theorem dX10_copy_118 : decode cX10_copy 118 = .ok (.ireturn, 1) := by decide +kernel
theorem dX10_copy_119 : decode cX10_copy 119 = .ok (.iconst 0, 1) := by decide +kernel
theorem dX10_copy_120 : decode cX10_copy 120 = .ok (.istore 6, 2) := by decide +kernel
theorem dX10_copy_122 : decode cX10_copy 122 = .ok (.iload 6, 2) := by decide +kernel
theorem dX10_copy_124 : decode cX10_copy 124 = .ok (.iload 5, 2) := by decide +kernel
theorem dX10_copy_126 : decode cX10_copy 126 = .ok (.if_icmp .ge 58, 3) := by decide +kernel
theorem dX10_copy_129 : decode cX10_copy 129 = .ok (.iload_n 2, 1) := by decide +kernel
theorem dX10_copy_130 : decode cX10_copy 130 = .ok (.iload 4, 2) := by decide +kernel
theorem dX10_copy_132 : decode cX10_copy 132 = .ok (.if_icmp .le 8, 3) := by decide +kernel
theorem dX10_copy_135 : decode cX10_copy 135 = .ok (.iload 6, 2) := by decide +kernel
theorem dX10_copy_137 : decode cX10_copy 137 = .ok (.goto 10, 3) := by decide +kernel
theorem dX10_copy_140 : decode cX10_copy 140 = .ok (.iload 5, 2) := by decide +kernel
theorem dX10_copy_142 : decode cX10_copy 142 = .ok (.iconst 1, 1) := by decide +kernel
theorem dX10_copy_143 : decode cX10_copy 143 = .ok (.isub, 1) := by decide +kernel
theorem dX10_copy_144 : decode cX10_copy 144 = .ok (.iload 6, 2) := by decide +kernel
theorem dX10_copy_146 : decode cX10_copy 146 = .ok (.isub, 1) := by decide +kernel
theorem dX10_copy_147 : decode cX10_copy 147 = .ok (.istore 7, 2) := by decide +kernel
theorem dX10_copy_149 : decode cX10_copy 149 = .ok (.aload_n 0, 1) := by decide +kernel
theorem dX10_copy_150 : decode cX10_copy 150 = .ok (.getfield 43, 3) := by decide +kernel
theorem dX10_copy_153 : decode cX10_copy 153 = .ok (.bipush 100, 2) := by decide +kernel
theorem dX10_copy_155 : decode cX10_copy 155 = .ok (.iload_n 3, 1) := by decide +kernel
theorem dX10_copy_156 : decode cX10_copy 156 = .ok (.imul, 1) := by decide +kernel
theorem dX10_copy_157 : decode cX10_copy 157 = .ok (.iload 4, 2) := by decide +kernel
theorem dX10_copy_159 : decode cX10_copy 159 = .ok (.iadd, 1) := by decide +kernel
theorem dX10_copy_160 : decode cX10_copy 160 = .ok (.iload 7, 2) := by decide +kernel
theorem dX10_copy_162 : decode cX10_copy 162 = .ok (.iadd, 1) := by decide +kernel
theorem dX10_copy_163 : decode cX10_copy 163 = .ok (.aload_n 0, 1) := by decide +kernel
theorem dX10_copy_164 : decode cX10_copy 164 = .ok (.getfield 43, 3) := by decide +kernel
theorem dX10_copy_167 : decode cX10_copy 167 = .ok (.bipush 100, 2) := by decide +kernel
theorem dX10_copy_169 : decode cX10_copy 169 = .ok (.iload_n 1, 1) := by decide +kernel
theorem dX10_copy_170 : decode cX10_copy 170 = .ok (.imul, 1) := by decide +kernel
theorem dX10_copy_171 : decode cX10_copy 171 = .ok (.iload_n 2, 1) := by decide +kernel
theorem dX10_copy_172 : decode cX10_copy 172 = .ok (.iadd, 1) := by decide +kernel
theorem dX10_copy_173 : decode cX10_copy 173 = .ok (.iload 7, 2) := by decide +kernel
theorem dX10_copy_175 : decode cX10_copy 175 = .ok (.iadd, 1) := by decide +kernel
theorem dX10_copy_176 : decode cX10_copy 176 = .ok (.iaload, 1) := by decide +kernel
theorem dX10_copy_177 : decode cX10_copy 177 = .ok (.iastore, 1) := by decide +kernel
theorem dX10_copy_178 : decode cX10_copy 178 = .ok (.iinc 6 1, 3) := by decide +kernel
theorem dX10_copy_181 : decode cX10_copy 181 = .ok (.goto (-59), 3) := by decide +kernel
theorem dX10_copy_184 : decode cX10_copy 184 = .ok (.iload 5, 2) := by decide +kernel
theorem dX10_copy_186 : decode cX10_copy 186 = .ok (.ireturn, 1) := by decide +kernel
def L_X10_copy_122 (p1 : Int32) (p2 : Int32) (p3 : Int32) (p4 : Int32) (p5 : Int32) : Nat → Int32 → (Nat → Int32) → Option (Int32 × (Nat → Int32))
  | 0, _, _ => none
  | n122 + 1, x33, y34 => if p5 ≤ x33 then some (p5, y34) else if p2 ≤ p4 then gd (ix ((((100 : Int32) * p1) + p2) + ((p5 - (1 : Int32)) - x33)) 800) (gd (ix ((((100 : Int32) * p3) + p4) + ((p5 - (1 : Int32)) - x33)) 800) (nm (upd y34 ((((100 : Int32) * p3) + p4) + ((p5 - (1 : Int32)) - x33)).toNatClampNeg (y34 ((((100 : Int32) * p1) + p2) + ((p5 - (1 : Int32)) - x33)).toNatClampNeg)) (fun f39 => L_X10_copy_122 p1 p2 p3 p4 p5 n122 (x33 + (1 : Int32)) f39))) else gd (ix ((((100 : Int32) * p1) + p2) + x33) 800) (gd (ix ((((100 : Int32) * p3) + p4) + x33) 800) (nm (upd y34 ((((100 : Int32) * p3) + p4) + x33).toNatClampNeg (y34 ((((100 : Int32) * p1) + p2) + x33).toNatClampNeg)) (fun f42 => L_X10_copy_122 p1 p2 p3 p4 p5 n122 (x33 + (1 : Int32)) f42)))
def f_X10_copy (N : Nat) (o_kept : Nat → Int32) (o_sort : Nat → Int32) (o_size : Nat → Int32) (o_element : Nat → Int32) (p1 : Int32) (p2 : Int32) (p3 : Int32) (p4 : Int32) (p5 : Int32) : Option (Int32 × (Nat → Int32)) := ob (f_X10_isShelf p1) (fun r1 => if r1 = 0 then nm (-1 : Int32) (fun z4 => some (z4, o_element)) else ob (f_X10_isShelf p3) (fun r5 => if r5 = 0 then nm (-1 : Int32) (fun z46 => some (z46, o_element)) else gd (ix p1 8) (if (o_kept p1.toNatClampNeg) = 0 then nm (-11 : Int32) (fun z10 => some (z10, o_element)) else gd (ix p3 8) (if (o_kept p3.toNatClampNeg) = 0 then nm (-11 : Int32) (fun z45 => some (z45, o_element)) else gd (ix p1 8) (if (o_kept p1.toNatClampNeg) = (2 : Int32) then gd (ix p3 8) (if (o_kept p3.toNatClampNeg) = (2 : Int32) then gd (ix p1 8) (gd (ix p3 8) (if (o_sort p1.toNatClampNeg) = (o_sort p3.toNatClampNeg) then if p5 < 0 then nm (-13 : Int32) (fun z23 => some (z23, o_element)) else if p2 < 0 then nm (-13 : Int32) (fun z25 => some (z25, o_element)) else if p4 < 0 then nm (-13 : Int32) (fun z27 => some (z27, o_element)) else gd (ix p1 8) (if ((o_size p1.toNatClampNeg) - p2) < p5 then nm (-13 : Int32) (fun z30 => some (z30, o_element)) else gd (ix p3 8) (if p5 ≤ ((o_size p3.toNatClampNeg) - p4) then L_X10_copy_122 p1 p2 p3 p4 p5 N (0 : Int32) o_element else nm (-13 : Int32) (fun z43 => some (z43, o_element)))) else nm (-12 : Int32) (fun z44 => some (z44, o_element)))) else nm (-12 : Int32) (fun z18 => some (z18, o_element))) else nm (-12 : Int32) (fun z15 => some (z15, o_element)))))))
set_option maxHeartbeats 4000000 in
set_option maxRecDepth 100000 in
theorem c_X10_copy (l : Launch) (E : EE) (o_h : Nat) (o_a0 : Nat) (o_a1 : Nat) (o_a2 : Nat) (o_a3 : Nat) (o_a8 : Nat) (o_a9 : Nat) (o_a11 : Nat) (o_a12 : Nat) (o_a13 : Nat) (o_a14 : Nat) (o_a15 : Nat) (o_a16 : Nat) (o_s : Nat → Int32) (o_m : Nat → Int32) (o_image : Nat → Int32) (o_was : Nat → Int32) (o_hasImage : Int32) (o_place : Int32) (o_rowAt : Int32) (o_rowEnd : Int32) (o_numbers : Nat → Int32) (o_most : Nat → Int32) (o_seed : Int32) (o_kept : Nat → Int32) (o_keptKind : Nat → Int32) (o_keptFigure : Nat → Int32) (o_sort : Nat → Int32) (o_size : Nat → Int32) (o_element : Nat → Int32) (o_thrown : Int32) (p1 : Int32) (p2 : Int32) (p3 : Int32) (p4 : Int32) (p5 : Int32) (N : Nat) (res : Int32) (w_o_element : Nat → Int32) (hv : f_X10_copy N o_kept o_sort o_size o_element p1 p2 p3 p4 p5 = some (res, w_o_element)) : Wr l E yX10_copy cX10_copy 8 (some .int) ({ frames := 2, cells := 0, slots := 0, locals := 42 }) [.ref o_h, .int p1, .int p2, .int p3, .int p4, .int p5] [oMo o_h o_a0 o_a1 o_a2 o_a3 o_hasImage o_place o_rowAt o_rowEnd o_a8 o_a9 o_seed o_a11 o_a12 o_a13 o_a14 o_a15 o_a16 o_thrown, ai E o_a0 42 o_s, ai E o_a1 42 o_m, ai E o_a2 42 o_image, ai E o_a3 42 o_was, ai E o_a8 3 o_numbers, ai E o_a9 8192 o_most, ai E o_a11 8 o_kept, ai E o_a12 8 o_keptKind, ai E o_a13 8 o_keptFigure, ai E o_a14 8 o_sort, ai E o_a15 8 o_size, ai E o_a16 800 o_element] [oMo o_h o_a0 o_a1 o_a2 o_a3 o_hasImage o_place o_rowAt o_rowEnd o_a8 o_a9 o_seed o_a11 o_a12 o_a13 o_a14 o_a15 o_a16 o_thrown, ai E o_a0 42 o_s, ai E o_a1 42 o_m, ai E o_a2 42 o_image, ai E o_a3 42 o_was, ai E o_a8 3 o_numbers, ai E o_a9 8192 o_most, ai E o_a11 8 o_kept, ai E o_a12 8 o_keptKind, ai E o_a13 8 o_keptFigure, ai E o_a14 8 o_sort, ai E o_a15 8 o_size, ai E o_a16 800 w_o_element] (some (.int res)) := by
  refine Wr.intro RX10 (by decide) rfl (Nat.le_of_ble_eq_true rfl) ?_
  intro p e s m below meth c ls A hC hr hlk hmn hP hD hS hA hG hl
  obtain ⟨hx, hb, hml, hown, ht⟩ := id hC
  have hK := hG.1
  have hl : lv_has ls 8 [(0, .ref o_h), (1, .int p1), (2, .int p2), (3, .int p3), (4, .int p4), (5, .int p5)] := hl
  rw [f_X10_copy] at hv
  refine lv_iload_n hx hb dX10_copy_0 rfl (lv_at hl 1 rfl) ?_
  obtain ⟨r1, h2, hv⟩ := ob_s hv
  refine rdS (rest := []) (st1 := [.int r1]) (w := []) hC q_X10_isShelf kw_4_197 (c_X10_isShelf l E p1 r1 h2) ⟨rfl, rfl⟩ ⟨Nat.le_of_ble_eq_true rfl, Nat.le_of_ble_eq_true rfl⟩ ⟨Nat.zero_le _, Nat.zero_le _⟩ (hP.sub (ws' := []) [] rfl) hG rfl hl.1 rfl (Nat.le_of_ble_eq_true rfl) dX10_copy_1 rfl ?_
  refine lv_if_eq (tgt := 14) hx hb dX10_copy_4 (by decide) (fun c3 => ?_) (fun c3 => ?_)
  · have hv := if_y c3 hv
    refine lv_iconst (v := (-1 : Int32)) hx hb dX10_copy_14 (by decide) ?_
    refine lv_topi (fun z4 ez4 => ?_)
    have hv := nm_s ez4 hv
    cases hv
    exact W.iret hx hb hr (fun t h9 _ => ⟨rfl, by rw [h9]; exact hP, hS.F h9⟩) hS.2.2 dX10_copy_15 hlk
  · have hv := if_n c3 hv
    refine lv_iload_n hx hb dX10_copy_7 rfl (lv_at hl 3 rfl) ?_
    obtain ⟨r5, h6, hv⟩ := ob_s hv
    refine rdS (rest := []) (st1 := [.int r5]) (w := []) hC q_X10_isShelf kw_4_197 (c_X10_isShelf l E p3 r5 h6) ⟨rfl, rfl⟩ ⟨Nat.le_of_ble_eq_true rfl, Nat.le_of_ble_eq_true rfl⟩ ⟨Nat.zero_le _, Nat.zero_le _⟩ (hP.sub (ws' := []) [] rfl) hG rfl hl.1 rfl (Nat.le_of_ble_eq_true rfl) dX10_copy_8 rfl ?_
    refine lv_if_ne (tgt := 16) hx hb dX10_copy_11 (by decide) (fun c7 => ?_) (fun c7 => ?_)
    · have hv := if_n c7 hv
      refine lv_aload_n hx hb dX10_copy_16 rfl (lv_at hl 0 rfl) ?_
      refine va_get (D := E.1) (ci := 4) (v := .ref o_a11) (C := RX10) (T := TX10) (N := 18) hx hb ht i_X10 hown hK hP 0 rfl rfl 11 (by decide) (ht _ kw_4_145) (fun _ h9 => h9) rfl dX10_copy_17 ?_
      refine lv_iload_n hx hb dX10_copy_20 rfl (lv_at hl 1 rfl) ?_
      obtain ⟨g8, hv⟩ := gd_s hv
      refine va_iald hx hb hK hP 7 0 rfl rfl (ix_s g8) dX10_copy_21 ?_
      refine lv_if_eq (tgt := 34) hx hb dX10_copy_22 (by decide) (fun c9 => ?_) (fun c9 => ?_)
      · have hv := if_y c9 hv
        refine lv_bipush (v := (-11 : Int32)) hx hb dX10_copy_34 (by decide) ?_
        refine lv_topi (fun z10 ez10 => ?_)
        have hv := nm_s ez10 hv
        cases hv
        exact W.iret hx hb hr (fun t h9 _ => ⟨rfl, by rw [h9]; exact hP, hS.F h9⟩) hS.2.2 dX10_copy_36 hlk
      · have hv := if_n c9 hv
        refine lv_aload_n hx hb dX10_copy_25 rfl (lv_at hl 0 rfl) ?_
        refine va_get (D := E.1) (ci := 4) (v := .ref o_a11) (C := RX10) (T := TX10) (N := 18) hx hb ht i_X10 hown hK hP 0 rfl rfl 11 (by decide) (ht _ kw_4_145) (fun _ h9 => h9) rfl dX10_copy_26 ?_
        refine lv_iload_n hx hb dX10_copy_29 rfl (lv_at hl 3 rfl) ?_
        obtain ⟨g11, hv⟩ := gd_s hv
        refine va_iald hx hb hK hP 7 0 rfl rfl (ix_s g11) dX10_copy_30 ?_
        refine lv_if_ne (tgt := 37) hx hb dX10_copy_31 (by decide) (fun c12 => ?_) (fun c12 => ?_)
        · have hv := if_n c12 hv
          refine lv_aload_n hx hb dX10_copy_37 rfl (lv_at hl 0 rfl) ?_
          refine va_get (D := E.1) (ci := 4) (v := .ref o_a11) (C := RX10) (T := TX10) (N := 18) hx hb ht i_X10 hown hK hP 0 rfl rfl 11 (by decide) (ht _ kw_4_145) (fun _ h9 => h9) rfl dX10_copy_38 ?_
          refine lv_iload_n hx hb dX10_copy_41 rfl (lv_at hl 1 rfl) ?_
          obtain ⟨g13, hv⟩ := gd_s hv
          refine va_iald hx hb hK hP 7 0 rfl rfl (ix_s g13) dX10_copy_42 ?_
          refine lv_iconst (v := (2 : Int32)) hx hb dX10_copy_43 (by decide) ?_
          refine lv_icmp_ne (tgt := 72) hx hb dX10_copy_44 (by decide) (fun c14 => ?_) (fun c14 => ?_)
          · have hv := if_n c14 hv
            refine lv_bipush (v := (-12 : Int32)) hx hb dX10_copy_72 (by decide) ?_
            refine lv_topi (fun z15 ez15 => ?_)
            have hv := nm_s ez15 hv
            cases hv
            exact W.iret hx hb hr (fun t h9 _ => ⟨rfl, by rw [h9]; exact hP, hS.F h9⟩) hS.2.2 dX10_copy_74 hlk
          · have hv := if_y c14 hv
            refine lv_aload_n hx hb dX10_copy_47 rfl (lv_at hl 0 rfl) ?_
            refine va_get (D := E.1) (ci := 4) (v := .ref o_a11) (C := RX10) (T := TX10) (N := 18) hx hb ht i_X10 hown hK hP 0 rfl rfl 11 (by decide) (ht _ kw_4_145) (fun _ h9 => h9) rfl dX10_copy_48 ?_
            refine lv_iload_n hx hb dX10_copy_51 rfl (lv_at hl 3 rfl) ?_
            obtain ⟨g16, hv⟩ := gd_s hv
            refine va_iald hx hb hK hP 7 0 rfl rfl (ix_s g16) dX10_copy_52 ?_
            refine lv_iconst (v := (2 : Int32)) hx hb dX10_copy_53 (by decide) ?_
            refine lv_icmp_ne (tgt := 72) hx hb dX10_copy_54 (by decide) (fun c17 => ?_) (fun c17 => ?_)
            · have hv := if_n c17 hv
              refine lv_bipush (v := (-12 : Int32)) hx hb dX10_copy_72 (by decide) ?_
              refine lv_topi (fun z18 ez18 => ?_)
              have hv := nm_s ez18 hv
              cases hv
              exact W.iret hx hb hr (fun t h9 _ => ⟨rfl, by rw [h9]; exact hP, hS.F h9⟩) hS.2.2 dX10_copy_74 hlk
            · have hv := if_y c17 hv
              refine lv_aload_n hx hb dX10_copy_57 rfl (lv_at hl 0 rfl) ?_
              refine va_get (D := E.1) (ci := 4) (v := .ref o_a14) (C := RX10) (T := TX10) (N := 18) hx hb ht i_X10 hown hK hP 0 rfl rfl 14 (by decide) (ht _ kw_4_148) (fun _ h9 => h9) rfl dX10_copy_58 ?_
              refine lv_iload_n hx hb dX10_copy_61 rfl (lv_at hl 1 rfl) ?_
              obtain ⟨g19, hv⟩ := gd_s hv
              refine va_iald hx hb hK hP 10 0 rfl rfl (ix_s g19) dX10_copy_62 ?_
              refine lv_aload_n hx hb dX10_copy_63 rfl (lv_at hl 0 rfl) ?_
              refine va_get (D := E.1) (ci := 4) (v := .ref o_a14) (C := RX10) (T := TX10) (N := 18) hx hb ht i_X10 hown hK hP 0 rfl rfl 14 (by decide) (ht _ kw_4_148) (fun _ h9 => h9) rfl dX10_copy_64 ?_
              refine lv_iload_n hx hb dX10_copy_67 rfl (lv_at hl 3 rfl) ?_
              obtain ⟨g20, hv⟩ := gd_s hv
              refine va_iald hx hb hK hP 10 0 rfl rfl (ix_s g20) dX10_copy_68 ?_
              refine lv_icmp_eq (tgt := 75) hx hb dX10_copy_69 (by decide) (fun c21 => ?_) (fun c21 => ?_)
              · have hv := if_y c21 hv
                refine lv_iload hx hb dX10_copy_75 (lv_at hl 5 rfl) ?_
                refine lv_if_lt (tgt := 116) hx hb dX10_copy_77 (by decide) (fun c22 => ?_) (fun c22 => ?_)
                · have hv := if_y c22 hv
                  refine lv_bipush (v := (-13 : Int32)) hx hb dX10_copy_116 (by decide) ?_
                  refine lv_topi (fun z23 ez23 => ?_)
                  have hv := nm_s ez23 hv
                  cases hv
                  exact W.iret hx hb hr (fun t h9 _ => ⟨rfl, by rw [h9]; exact hP, hS.F h9⟩) hS.2.2 dX10_copy_118 hlk
                · have hv := if_n c22 hv
                  refine lv_iload_n hx hb dX10_copy_80 rfl (lv_at hl 2 rfl) ?_
                  refine lv_if_lt (tgt := 116) hx hb dX10_copy_81 (by decide) (fun c24 => ?_) (fun c24 => ?_)
                  · have hv := if_y c24 hv
                    refine lv_bipush (v := (-13 : Int32)) hx hb dX10_copy_116 (by decide) ?_
                    refine lv_topi (fun z25 ez25 => ?_)
                    have hv := nm_s ez25 hv
                    cases hv
                    exact W.iret hx hb hr (fun t h9 _ => ⟨rfl, by rw [h9]; exact hP, hS.F h9⟩) hS.2.2 dX10_copy_118 hlk
                  · have hv := if_n c24 hv
                    refine lv_iload hx hb dX10_copy_84 (lv_at hl 4 rfl) ?_
                    refine lv_if_lt (tgt := 116) hx hb dX10_copy_86 (by decide) (fun c26 => ?_) (fun c26 => ?_)
                    · have hv := if_y c26 hv
                      refine lv_bipush (v := (-13 : Int32)) hx hb dX10_copy_116 (by decide) ?_
                      refine lv_topi (fun z27 ez27 => ?_)
                      have hv := nm_s ez27 hv
                      cases hv
                      exact W.iret hx hb hr (fun t h9 _ => ⟨rfl, by rw [h9]; exact hP, hS.F h9⟩) hS.2.2 dX10_copy_118 hlk
                    · have hv := if_n c26 hv
                      refine lv_iload hx hb dX10_copy_89 (lv_at hl 5 rfl) ?_
                      refine lv_aload_n hx hb dX10_copy_91 rfl (lv_at hl 0 rfl) ?_
                      refine va_get (D := E.1) (ci := 4) (v := .ref o_a15) (C := RX10) (T := TX10) (N := 18) hx hb ht i_X10 hown hK hP 0 rfl rfl 15 (by decide) (ht _ kw_4_149) (fun _ h9 => h9) rfl dX10_copy_92 ?_
                      refine lv_iload_n hx hb dX10_copy_95 rfl (lv_at hl 1 rfl) ?_
                      obtain ⟨g28, hv⟩ := gd_s hv
                      refine va_iald hx hb hK hP 11 0 rfl rfl (ix_s g28) dX10_copy_96 ?_
                      refine lv_iload_n hx hb dX10_copy_97 rfl (lv_at hl 2 rfl) ?_
                      refine lv_isub hx hb dX10_copy_98 ?_
                      refine lv_icmp_gt (tgt := 116) hx hb dX10_copy_99 (by decide) (fun c29 => ?_) (fun c29 => ?_)
                      · have hv := if_y c29 hv
                        refine lv_bipush (v := (-13 : Int32)) hx hb dX10_copy_116 (by decide) ?_
                        refine lv_topi (fun z30 ez30 => ?_)
                        have hv := nm_s ez30 hv
                        cases hv
                        exact W.iret hx hb hr (fun t h9 _ => ⟨rfl, by rw [h9]; exact hP, hS.F h9⟩) hS.2.2 dX10_copy_118 hlk
                      · have hv := if_n c29 hv
                        refine lv_iload hx hb dX10_copy_102 (lv_at hl 5 rfl) ?_
                        refine lv_aload_n hx hb dX10_copy_104 rfl (lv_at hl 0 rfl) ?_
                        refine va_get (D := E.1) (ci := 4) (v := .ref o_a15) (C := RX10) (T := TX10) (N := 18) hx hb ht i_X10 hown hK hP 0 rfl rfl 15 (by decide) (ht _ kw_4_149) (fun _ h9 => h9) rfl dX10_copy_105 ?_
                        refine lv_iload_n hx hb dX10_copy_108 rfl (lv_at hl 3 rfl) ?_
                        obtain ⟨g31, hv⟩ := gd_s hv
                        refine va_iald hx hb hK hP 11 0 rfl rfl (ix_s g31) dX10_copy_109 ?_
                        refine lv_iload hx hb dX10_copy_110 (lv_at hl 4 rfl) ?_
                        refine lv_isub hx hb dX10_copy_112 ?_
                        refine lv_icmp_le (tgt := 119) hx hb dX10_copy_113 (by decide) (fun c32 => ?_) (fun c32 => ?_)
                        · have hv := if_y c32 hv
                          refine lv_iconst (v := (0 : Int32)) hx hb dX10_copy_119 (by decide) ?_
                          refine lv_istore (lv' := [(6, .int (0 : Int32)), (0, .ref o_h), (1, .int p1), (2, .int p2), (3, .int p3), (4, .int p4), (5, .int p5)]) hx hb dX10_copy_120 hl (by decide) rfl (fun ls hl => ?_)
                          have hL122 : ∀ (n : Nat) (x33 : Int32) (y34 : Nat → Int32) (H : Heap) (locs : List Loc) (ls : Array Slot), va_P E.1 vwCl [oMo o_h o_a0 o_a1 o_a2 o_a3 o_hasImage o_place o_rowAt o_rowEnd o_a8 o_a9 o_seed o_a11 o_a12 o_a13 o_a14 o_a15 o_a16 o_thrown, ai E o_a0 42 o_s, ai E o_a1 42 o_m, ai E o_a2 42 o_image, ai E o_a3 42 o_was, ai E o_a8 3 o_numbers, ai E o_a9 8192 o_most, ai E o_a11 8 o_kept, ai E o_a12 8 o_keptKind, ai E o_a13 8 o_keptFigure, ai E o_a14 8 o_sort, ai E o_a15 8 o_size, ai E o_a16 800 y34] H → va_D A [oMo o_h o_a0 o_a1 o_a2 o_a3 o_hasImage o_place o_rowAt o_rowEnd o_a8 o_a9 o_seed o_a11 o_a12 o_a13 o_a14 o_a15 o_a16 o_thrown, ai E o_a0 42 o_s, ai E o_a1 42 o_m, ai E o_a2 42 o_image, ai E o_a3 42 o_was, ai E o_a8 3 o_numbers, ai E o_a9 8192 o_most, ai E o_a11 8 o_kept, ai E o_a12 8 o_keptKind, ai E o_a13 8 o_keptFigure, ai E o_a14 8 o_sort, ai E o_a15 8 o_size, ai E o_a16 800 y34] → va_S A s.heap H locs → lv_has ls 8 [(6, .int x33), (0, .ref o_h), (1, .int p1), (2, .int p2), (3, .int p3), (4, .int p4), (5, .int p5)] → L_X10_copy_122 p1 p2 p3 p4 p5 n x33 y34 = some (res, w_o_element) → W p l e ({ frames := 2, cells := 0, slots := 0, locals := 42 }) s m [.ref o_h, .int p1, .int p2, .int p3, .int p4, .int p5].toArray below meth c H locs 0 0 (MQ below (fun _ st oc t => oc = .returned (some (.int res)) ∧ va_P E.1 vwCl [oMo o_h o_a0 o_a1 o_a2 o_a3 o_hasImage o_place o_rowAt o_rowEnd o_a8 o_a9 o_seed o_a11 o_a12 o_a13 o_a14 o_a15 o_a16 o_thrown, ai E o_a0 42 o_s, ai E o_a1 42 o_m, ai E o_a2 42 o_image, ai E o_a3 42 o_was, ai E o_a8 3 o_numbers, ai E o_a9 8192 o_most, ai E o_a11 8 o_kept, ai E o_a12 8 o_keptKind, ai E o_a13 8 o_keptFigure, ai E o_a14 8 o_sort, ai E o_a15 8 o_size, ai E o_a16 800 w_o_element] t.heap ∧ va_F A st t) [.ref o_h, .int p1, .int p2, .int p3, .int p4, .int p5].toArray s 0 0 A) (F0 m 122 ls []) := by
                            intro n
                            induction n with
                            | zero => intro x33 y34 H locs ls hP hD hS hl hv; cases hv
                            | succ n122 ih122 =>
                              intro x33 y34 H locs ls hP hD hS hl hv
                              rw [L_X10_copy_122] at hv
                              refine lv_iload hx hb dX10_copy_122 (lv_at hl 0 rfl) ?_
                              refine lv_iload hx hb dX10_copy_124 (lv_at hl 6 rfl) ?_
                              refine lv_icmp_ge (tgt := 184) hx hb dX10_copy_126 (by decide) (fun c35 => ?_) (fun c35 => ?_)
                              · have hv := if_y c35 hv
                                refine lv_iload hx hb dX10_copy_184 (lv_at hl 6 rfl) ?_
                                cases hv
                                exact W.iret hx hb hr (fun t h9 _ => ⟨rfl, by rw [h9]; exact hP, hS.F h9⟩) hS.2.2 dX10_copy_186 hlk
                              · have hv := if_n c35 hv
                                refine lv_iload_n hx hb dX10_copy_129 rfl (lv_at hl 3 rfl) ?_
                                refine lv_iload hx hb dX10_copy_130 (lv_at hl 5 rfl) ?_
                                refine lv_icmp_le (tgt := 140) hx hb dX10_copy_132 (by decide) (fun c36 => ?_) (fun c36 => ?_)
                                · have hv := if_y c36 hv
                                  refine lv_iload hx hb dX10_copy_140 (lv_at hl 6 rfl) ?_
                                  refine lv_iconst (v := (1 : Int32)) hx hb dX10_copy_142 (by decide) ?_
                                  refine lv_isub hx hb dX10_copy_143 ?_
                                  refine lv_iload hx hb dX10_copy_144 (lv_at hl 0 rfl) ?_
                                  refine lv_isub hx hb dX10_copy_146 ?_
                                  refine lv_istore (lv' := [(7, .int ((p5 - (1 : Int32)) - x33)), (6, .int x33), (0, .ref o_h), (1, .int p1), (2, .int p2), (3, .int p3), (4, .int p4), (5, .int p5)]) hx hb dX10_copy_147 hl (by decide) rfl (fun ls hl => ?_)
                                  refine lv_aload_n hx hb dX10_copy_149 rfl (lv_at hl 2 rfl) ?_
                                  refine va_get (D := E.1) (ci := 4) (v := .ref o_a16) (C := RX10) (T := TX10) (N := 18) hx hb ht i_X10 hown hK hP 0 rfl rfl 16 (by decide) (ht _ kw_4_150) (fun _ h9 => h9) rfl dX10_copy_150 ?_
                                  refine lv_bipush (v := (100 : Int32)) hx hb dX10_copy_153 (by decide) ?_
                                  refine lv_iload_n hx hb dX10_copy_155 rfl (lv_at hl 5 rfl) ?_
                                  refine lv_imul hx hb dX10_copy_156 ?_
                                  refine lv_iload hx hb dX10_copy_157 (lv_at hl 6 rfl) ?_
                                  refine lv_iadd hx hb dX10_copy_159 ?_
                                  refine lv_iload hx hb dX10_copy_160 (lv_at hl 0 rfl) ?_
                                  refine lv_iadd hx hb dX10_copy_162 ?_
                                  refine lv_aload_n hx hb dX10_copy_163 rfl (lv_at hl 2 rfl) ?_
                                  refine va_get (D := E.1) (ci := 4) (v := .ref o_a16) (C := RX10) (T := TX10) (N := 18) hx hb ht i_X10 hown hK hP 0 rfl rfl 16 (by decide) (ht _ kw_4_150) (fun _ h9 => h9) rfl dX10_copy_164 ?_
                                  refine lv_bipush (v := (100 : Int32)) hx hb dX10_copy_167 (by decide) ?_
                                  refine lv_iload_n hx hb dX10_copy_169 rfl (lv_at hl 3 rfl) ?_
                                  refine lv_imul hx hb dX10_copy_170 ?_
                                  refine lv_iload_n hx hb dX10_copy_171 rfl (lv_at hl 4 rfl) ?_
                                  refine lv_iadd hx hb dX10_copy_172 ?_
                                  refine lv_iload hx hb dX10_copy_173 (lv_at hl 0 rfl) ?_
                                  refine lv_iadd hx hb dX10_copy_175 ?_
                                  obtain ⟨g37, hv⟩ := gd_s hv
                                  refine va_iald hx hb hK hP 12 0 rfl rfl (ix_s g37) dX10_copy_176 ?_
                                  obtain ⟨g38, hv⟩ := gd_s hv
                                  refine va_iast hx hb hK hP hD hS 12 0 rfl rfl (ix_s g38) dX10_copy_177 (fun H locs hP hD hS => ?_)
                                  have hP : va_P E.1 vwCl [oMo o_h o_a0 o_a1 o_a2 o_a3 o_hasImage o_place o_rowAt o_rowEnd o_a8 o_a9 o_seed o_a11 o_a12 o_a13 o_a14 o_a15 o_a16 o_thrown, ai E o_a0 42 o_s, ai E o_a1 42 o_m, ai E o_a2 42 o_image, ai E o_a3 42 o_was, ai E o_a8 3 o_numbers, ai E o_a9 8192 o_most, ai E o_a11 8 o_kept, ai E o_a12 8 o_keptKind, ai E o_a13 8 o_keptFigure, ai E o_a14 8 o_sort, ai E o_a15 8 o_size, ai E o_a16 800 (upd y34 ((((100 : Int32) * p3) + p4) + ((p5 - (1 : Int32)) - x33)).toNatClampNeg (y34 ((((100 : Int32) * p1) + p2) + ((p5 - (1 : Int32)) - x33)).toNatClampNeg))] H := hP
                                  have hD : va_D A [oMo o_h o_a0 o_a1 o_a2 o_a3 o_hasImage o_place o_rowAt o_rowEnd o_a8 o_a9 o_seed o_a11 o_a12 o_a13 o_a14 o_a15 o_a16 o_thrown, ai E o_a0 42 o_s, ai E o_a1 42 o_m, ai E o_a2 42 o_image, ai E o_a3 42 o_was, ai E o_a8 3 o_numbers, ai E o_a9 8192 o_most, ai E o_a11 8 o_kept, ai E o_a12 8 o_keptKind, ai E o_a13 8 o_keptFigure, ai E o_a14 8 o_sort, ai E o_a15 8 o_size, ai E o_a16 800 (upd y34 ((((100 : Int32) * p3) + p4) + ((p5 - (1 : Int32)) - x33)).toNatClampNeg (y34 ((((100 : Int32) * p1) + p2) + ((p5 - (1 : Int32)) - x33)).toNatClampNeg))] := hD
                                  obtain ⟨f39, ef39⟩ : ∃ z, z = (upd y34 ((((100 : Int32) * p3) + p4) + ((p5 - (1 : Int32)) - x33)).toNatClampNeg (y34 ((((100 : Int32) * p1) + p2) + ((p5 - (1 : Int32)) - x33)).toNatClampNeg)) := ⟨_, rfl⟩
                                  rw [← ef39] at hP hD
                                  have hv := nm_s ef39 hv
                                  refine lv_iinc (v := (x33 + (1 : Int32))) (lv' := [(6, .int (x33 + (1 : Int32))), (7, .int ((p5 - (1 : Int32)) - x33)), (0, .ref o_h), (1, .int p1), (2, .int p2), (3, .int p3), (4, .int p4), (5, .int p5)]) hx hb dX10_copy_178 hl (k := 1) rfl rfl (by decide) rfl (fun ls hl => ?_)
                                  refine lv_goto (tgt := 122) hx hb dX10_copy_181 (by decide) ?_
                                  exact ih122 (x33 + (1 : Int32)) f39 _ _ _ hP hD hS (lv_sub hl [0, 2, 3, 4, 5, 6, 7] rfl) hv
                                · have hv := if_n c36 hv
                                  refine lv_iload hx hb dX10_copy_135 (lv_at hl 0 rfl) ?_
                                  refine lv_goto (tgt := 147) hx hb dX10_copy_137 (by decide) ?_
                                  refine lv_istore (lv' := [(7, .int x33), (6, .int x33), (0, .ref o_h), (1, .int p1), (2, .int p2), (3, .int p3), (4, .int p4), (5, .int p5)]) hx hb dX10_copy_147 hl (by decide) rfl (fun ls hl => ?_)
                                  refine lv_aload_n hx hb dX10_copy_149 rfl (lv_at hl 2 rfl) ?_
                                  refine va_get (D := E.1) (ci := 4) (v := .ref o_a16) (C := RX10) (T := TX10) (N := 18) hx hb ht i_X10 hown hK hP 0 rfl rfl 16 (by decide) (ht _ kw_4_150) (fun _ h9 => h9) rfl dX10_copy_150 ?_
                                  refine lv_bipush (v := (100 : Int32)) hx hb dX10_copy_153 (by decide) ?_
                                  refine lv_iload_n hx hb dX10_copy_155 rfl (lv_at hl 5 rfl) ?_
                                  refine lv_imul hx hb dX10_copy_156 ?_
                                  refine lv_iload hx hb dX10_copy_157 (lv_at hl 6 rfl) ?_
                                  refine lv_iadd hx hb dX10_copy_159 ?_
                                  refine lv_iload hx hb dX10_copy_160 (lv_at hl 0 rfl) ?_
                                  refine lv_iadd hx hb dX10_copy_162 ?_
                                  refine lv_aload_n hx hb dX10_copy_163 rfl (lv_at hl 2 rfl) ?_
                                  refine va_get (D := E.1) (ci := 4) (v := .ref o_a16) (C := RX10) (T := TX10) (N := 18) hx hb ht i_X10 hown hK hP 0 rfl rfl 16 (by decide) (ht _ kw_4_150) (fun _ h9 => h9) rfl dX10_copy_164 ?_
                                  refine lv_bipush (v := (100 : Int32)) hx hb dX10_copy_167 (by decide) ?_
                                  refine lv_iload_n hx hb dX10_copy_169 rfl (lv_at hl 3 rfl) ?_
                                  refine lv_imul hx hb dX10_copy_170 ?_
                                  refine lv_iload_n hx hb dX10_copy_171 rfl (lv_at hl 4 rfl) ?_
                                  refine lv_iadd hx hb dX10_copy_172 ?_
                                  refine lv_iload hx hb dX10_copy_173 (lv_at hl 0 rfl) ?_
                                  refine lv_iadd hx hb dX10_copy_175 ?_
                                  obtain ⟨g40, hv⟩ := gd_s hv
                                  refine va_iald hx hb hK hP 12 0 rfl rfl (ix_s g40) dX10_copy_176 ?_
                                  obtain ⟨g41, hv⟩ := gd_s hv
                                  refine va_iast hx hb hK hP hD hS 12 0 rfl rfl (ix_s g41) dX10_copy_177 (fun H locs hP hD hS => ?_)
                                  have hP : va_P E.1 vwCl [oMo o_h o_a0 o_a1 o_a2 o_a3 o_hasImage o_place o_rowAt o_rowEnd o_a8 o_a9 o_seed o_a11 o_a12 o_a13 o_a14 o_a15 o_a16 o_thrown, ai E o_a0 42 o_s, ai E o_a1 42 o_m, ai E o_a2 42 o_image, ai E o_a3 42 o_was, ai E o_a8 3 o_numbers, ai E o_a9 8192 o_most, ai E o_a11 8 o_kept, ai E o_a12 8 o_keptKind, ai E o_a13 8 o_keptFigure, ai E o_a14 8 o_sort, ai E o_a15 8 o_size, ai E o_a16 800 (upd y34 ((((100 : Int32) * p3) + p4) + x33).toNatClampNeg (y34 ((((100 : Int32) * p1) + p2) + x33).toNatClampNeg))] H := hP
                                  have hD : va_D A [oMo o_h o_a0 o_a1 o_a2 o_a3 o_hasImage o_place o_rowAt o_rowEnd o_a8 o_a9 o_seed o_a11 o_a12 o_a13 o_a14 o_a15 o_a16 o_thrown, ai E o_a0 42 o_s, ai E o_a1 42 o_m, ai E o_a2 42 o_image, ai E o_a3 42 o_was, ai E o_a8 3 o_numbers, ai E o_a9 8192 o_most, ai E o_a11 8 o_kept, ai E o_a12 8 o_keptKind, ai E o_a13 8 o_keptFigure, ai E o_a14 8 o_sort, ai E o_a15 8 o_size, ai E o_a16 800 (upd y34 ((((100 : Int32) * p3) + p4) + x33).toNatClampNeg (y34 ((((100 : Int32) * p1) + p2) + x33).toNatClampNeg))] := hD
                                  obtain ⟨f42, ef42⟩ : ∃ z, z = (upd y34 ((((100 : Int32) * p3) + p4) + x33).toNatClampNeg (y34 ((((100 : Int32) * p1) + p2) + x33).toNatClampNeg)) := ⟨_, rfl⟩
                                  rw [← ef42] at hP hD
                                  have hv := nm_s ef42 hv
                                  refine lv_iinc (v := (x33 + (1 : Int32))) (lv' := [(6, .int (x33 + (1 : Int32))), (7, .int x33), (0, .ref o_h), (1, .int p1), (2, .int p2), (3, .int p3), (4, .int p4), (5, .int p5)]) hx hb dX10_copy_178 hl (k := 1) rfl rfl (by decide) rfl (fun ls hl => ?_)
                                  refine lv_goto (tgt := 122) hx hb dX10_copy_181 (by decide) ?_
                                  exact ih122 (x33 + (1 : Int32)) f42 _ _ _ hP hD hS (lv_sub hl [0, 2, 3, 4, 5, 6, 7] rfl) hv
                          exact hL122 N (0 : Int32) o_element _ _ _ hP hD hS (lv_sub hl [0, 1, 2, 3, 4, 5, 6] rfl) hv
                        · have hv := if_n c32 hv
                          refine lv_bipush (v := (-13 : Int32)) hx hb dX10_copy_116 (by decide) ?_
                          refine lv_topi (fun z43 ez43 => ?_)
                          have hv := nm_s ez43 hv
                          cases hv
                          exact W.iret hx hb hr (fun t h9 _ => ⟨rfl, by rw [h9]; exact hP, hS.F h9⟩) hS.2.2 dX10_copy_118 hlk
              · have hv := if_n c21 hv
                refine lv_bipush (v := (-12 : Int32)) hx hb dX10_copy_72 (by decide) ?_
                refine lv_topi (fun z44 ez44 => ?_)
                have hv := nm_s ez44 hv
                cases hv
                exact W.iret hx hb hr (fun t h9 _ => ⟨rfl, by rw [h9]; exact hP, hS.F h9⟩) hS.2.2 dX10_copy_74 hlk
        · have hv := if_y c12 hv
          refine lv_bipush (v := (-11 : Int32)) hx hb dX10_copy_34 (by decide) ?_
          refine lv_topi (fun z45 ez45 => ?_)
          have hv := nm_s ez45 hv
          cases hv
          exact W.iret hx hb hr (fun t h9 _ => ⟨rfl, by rw [h9]; exact hP, hS.F h9⟩) hS.2.2 dX10_copy_36 hlk
    · have hv := if_y c7 hv
      refine lv_iconst (v := (-1 : Int32)) hx hb dX10_copy_14 (by decide) ?_
      refine lv_topi (fun z46 ez46 => ?_)
      have hv := nm_s ez46 hv
      cases hv
      exact W.iret hx hb hr (fun t h9 _ => ⟨rfl, by rw [h9]; exact hP, hS.F h9⟩) hS.2.2 dX10_copy_15 hlk
theorem dX10_costBy_0 : decode cX10_costBy 0 = .ok (.iload_n 0, 1) := by decide +kernel
theorem dX10_costBy_1 : decode cX10_costBy 1 = .ok (.tableswitch 60 1 7 #[43, 47, 49, 47, 49, 51, 57], 43) := by decide +kernel
theorem dX10_costBy_44 : decode cX10_costBy 44 = .ok (.iconst 2, 1) := by decide +kernel
theorem dX10_costBy_45 : decode cX10_costBy 45 = .ok (.iload_n 1, 1) := by decide +kernel
theorem dX10_costBy_46 : decode cX10_costBy 46 = .ok (.iadd, 1) := by decide +kernel
theorem dX10_costBy_47 : decode cX10_costBy 47 = .ok (.ireturn, 1) := by decide +kernel
theorem dX10_costBy_48 : decode cX10_costBy 48 = .ok (.iconst 0, 1) := by decide +kernel
theorem dX10_costBy_49 : decode cX10_costBy 49 = .ok (.ireturn, 1) := by decide +kernel
theorem dX10_costBy_50 : decode cX10_costBy 50 = .ok (.iconst 1, 1) := by decide +kernel
theorem dX10_costBy_51 : decode cX10_costBy 51 = .ok (.ireturn, 1) := by decide +kernel
theorem dX10_costBy_52 : decode cX10_costBy 52 = .ok (.iconst 2, 1) := by decide +kernel
theorem dX10_costBy_53 : decode cX10_costBy 53 = .ok (.iconst 2, 1) := by decide +kernel
theorem dX10_costBy_54 : decode cX10_costBy 54 = .ok (.iload_n 1, 1) := by decide +kernel
theorem dX10_costBy_55 : decode cX10_costBy 55 = .ok (.iadd, 1) := by decide +kernel
theorem dX10_costBy_56 : decode cX10_costBy 56 = .ok (.imul, 1) := by decide +kernel
theorem dX10_costBy_57 : decode cX10_costBy 57 = .ok (.ireturn, 1) := by decide +kernel
theorem dX10_costBy_58 : decode cX10_costBy 58 = .ok (.bipush 9, 2) := by decide +kernel
theorem dX10_costBy_60 : decode cX10_costBy 60 = .ok (.ireturn, 1) := by decide +kernel
theorem dX10_costBy_61 : decode cX10_costBy 61 = .ok (.iconst 2, 1) := by decide +kernel
theorem dX10_costBy_62 : decode cX10_costBy 62 = .ok (.ireturn, 1) := by decide +kernel
def f_X10_costBy (p0 : Int32) (p1 : Int32) : Option (Int32) := if p0 = (1 : Int32) then some ((2 : Int32) + p1) else if p0 = (2 : Int32) then some (0 : Int32) else if p0 = (3 : Int32) then some (1 : Int32) else if p0 = (4 : Int32) then some (0 : Int32) else if p0 = (5 : Int32) then some (1 : Int32) else if p0 = (6 : Int32) then some ((2 : Int32) * ((2 : Int32) + p1)) else if p0 = (7 : Int32) then some (9 : Int32) else some (2 : Int32)
set_option maxHeartbeats 4000000 in
set_option maxRecDepth 100000 in
theorem c_X10_costBy (l : Launch) (E : EE) (p0 : Int32) (p1 : Int32) (res : Int32) (hv : f_X10_costBy p0 p1 = some res) : Rd l E yX10_costBy cX10_costBy 2 (some .int) ({ frames := 0, cells := 0, slots := 0, locals := 0 }) [.int p0, .int p1] [] (some (.int res)) := by
  refine Rd.intro RX10 (by decide) rfl (Nat.le_of_ble_eq_true rfl) ?_
  intro p e s m below meth c ls hC hr hlk hP hG hl
  obtain ⟨hx, hb, hml, hown, ht⟩ := id hC
  have hK := hG.1
  have hl : lv_has ls 2 [(0, .int p0), (1, .int p1)] := hl
  rw [f_X10_costBy] at hv
  refine lv_iload_n hx hb dX10_costBy_0 rfl (lv_at hl 0 rfl) ?_
  rcases Decidable.em (p0 = (1 : Int32)) with c1 | c1
  · have hv := if_y c1 hv
    refine lv_tableIn (tgt := 44) (off := 43) hx hb dX10_costBy_1 (by rw [c1]; decide) (by rw [c1]; decide) (by rw [c1]; rfl) (by decide) ?_
    refine lv_iconst (v := (2 : Int32)) hx hb dX10_costBy_44 (by decide) ?_
    refine lv_iload_n hx hb dX10_costBy_45 rfl (lv_at hl 1 rfl) ?_
    refine lv_iadd hx hb dX10_costBy_46 ?_
    exact W.iret (v := ((2 : Int32) + p1)) hx hb hr (fun t h9 _ => ⟨rv_i hv, h9⟩) (fun q h => absurd h List.not_mem_nil) dX10_costBy_47 hlk
  · have hv := if_n c1 hv
    rcases Decidable.em (p0 = (2 : Int32)) with c2 | c2
    · have hv := if_y c2 hv
      refine lv_tableIn (tgt := 48) (off := 47) hx hb dX10_costBy_1 (by rw [c2]; decide) (by rw [c2]; decide) (by rw [c2]; rfl) (by decide) ?_
      refine lv_iconst (v := (0 : Int32)) hx hb dX10_costBy_48 (by decide) ?_
      exact W.iret (v := (0 : Int32)) hx hb hr (fun t h9 _ => ⟨rv_i hv, h9⟩) (fun q h => absurd h List.not_mem_nil) dX10_costBy_49 hlk
    · have hv := if_n c2 hv
      rcases Decidable.em (p0 = (3 : Int32)) with c3 | c3
      · have hv := if_y c3 hv
        refine lv_tableIn (tgt := 50) (off := 49) hx hb dX10_costBy_1 (by rw [c3]; decide) (by rw [c3]; decide) (by rw [c3]; rfl) (by decide) ?_
        refine lv_iconst (v := (1 : Int32)) hx hb dX10_costBy_50 (by decide) ?_
        exact W.iret (v := (1 : Int32)) hx hb hr (fun t h9 _ => ⟨rv_i hv, h9⟩) (fun q h => absurd h List.not_mem_nil) dX10_costBy_51 hlk
      · have hv := if_n c3 hv
        rcases Decidable.em (p0 = (4 : Int32)) with c4 | c4
        · have hv := if_y c4 hv
          refine lv_tableIn (tgt := 48) (off := 47) hx hb dX10_costBy_1 (by rw [c4]; decide) (by rw [c4]; decide) (by rw [c4]; rfl) (by decide) ?_
          refine lv_iconst (v := (0 : Int32)) hx hb dX10_costBy_48 (by decide) ?_
          exact W.iret (v := (0 : Int32)) hx hb hr (fun t h9 _ => ⟨rv_i hv, h9⟩) (fun q h => absurd h List.not_mem_nil) dX10_costBy_49 hlk
        · have hv := if_n c4 hv
          rcases Decidable.em (p0 = (5 : Int32)) with c5 | c5
          · have hv := if_y c5 hv
            refine lv_tableIn (tgt := 50) (off := 49) hx hb dX10_costBy_1 (by rw [c5]; decide) (by rw [c5]; decide) (by rw [c5]; rfl) (by decide) ?_
            refine lv_iconst (v := (1 : Int32)) hx hb dX10_costBy_50 (by decide) ?_
            exact W.iret (v := (1 : Int32)) hx hb hr (fun t h9 _ => ⟨rv_i hv, h9⟩) (fun q h => absurd h List.not_mem_nil) dX10_costBy_51 hlk
          · have hv := if_n c5 hv
            rcases Decidable.em (p0 = (6 : Int32)) with c6 | c6
            · have hv := if_y c6 hv
              refine lv_tableIn (tgt := 52) (off := 51) hx hb dX10_costBy_1 (by rw [c6]; decide) (by rw [c6]; decide) (by rw [c6]; rfl) (by decide) ?_
              refine lv_iconst (v := (2 : Int32)) hx hb dX10_costBy_52 (by decide) ?_
              refine lv_iconst (v := (2 : Int32)) hx hb dX10_costBy_53 (by decide) ?_
              refine lv_iload_n hx hb dX10_costBy_54 rfl (lv_at hl 1 rfl) ?_
              refine lv_iadd hx hb dX10_costBy_55 ?_
              refine lv_imul hx hb dX10_costBy_56 ?_
              exact W.iret (v := ((2 : Int32) * ((2 : Int32) + p1))) hx hb hr (fun t h9 _ => ⟨rv_i hv, h9⟩) (fun q h => absurd h List.not_mem_nil) dX10_costBy_57 hlk
            · have hv := if_n c6 hv
              rcases Decidable.em (p0 = (7 : Int32)) with c7 | c7
              · have hv := if_y c7 hv
                refine lv_tableIn (tgt := 58) (off := 57) hx hb dX10_costBy_1 (by rw [c7]; decide) (by rw [c7]; decide) (by rw [c7]; rfl) (by decide) ?_
                refine lv_bipush (v := (9 : Int32)) hx hb dX10_costBy_58 (by decide) ?_
                exact W.iret (v := (9 : Int32)) hx hb hr (fun t h9 _ => ⟨rv_i hv, h9⟩) (fun q h => absurd h List.not_mem_nil) dX10_costBy_60 hlk
              · have hv := if_n c7 hv
                refine lv_tableD (tgt := 61) hx hb dX10_costBy_1 (fun i h => match i, h with | 0, _ => Or.inr (lv_neT c1 (by decide)) | 1, _ => Or.inr (lv_neT c2 (by decide)) | 2, _ => Or.inr (lv_neT c3 (by decide)) | 3, _ => Or.inr (lv_neT c4 (by decide)) | 4, _ => Or.inr (lv_neT c5 (by decide)) | 5, _ => Or.inr (lv_neT c6 (by decide)) | 6, _ => Or.inr (lv_neT c7 (by decide)) | i + 7, h => absurd h (by simp)) rfl (by decide) ?_
                refine lv_iconst (v := (2 : Int32)) hx hb dX10_costBy_61 (by decide) ?_
                exact W.iret (v := (2 : Int32)) hx hb hr (fun t h9 _ => ⟨rv_i hv, h9⟩) (fun q h => absurd h List.not_mem_nil) dX10_costBy_62 hlk
theorem dX10_cost_0 : decode cX10_cost 0 = .ok (.aload_n 0, 1) := by decide +kernel
theorem dX10_cost_1 : decode cX10_cost 1 = .ok (.iload_n 1, 1) := by decide +kernel
theorem dX10_cost_2 : decode cX10_cost 2 = .ok (.invokevirtual 158, 3) := by decide +kernel
theorem dX10_cost_5 : decode cX10_cost 5 = .ok (.istore_n 2, 1) := by decide +kernel
theorem dX10_cost_6 : decode cX10_cost 6 = .ok (.iload_n 2, 1) := by decide +kernel
theorem dX10_cost_7 : decode cX10_cost 7 = .ok (.ifCond .eq 7, 3) := by decide +kernel
theorem dX10_cost_10 : decode cX10_cost 10 = .ok (.iload_n 2, 1) := by decide +kernel
theorem dX10_cost_11 : decode cX10_cost 11 = .ok (.goto 18, 3) := by decide +kernel
theorem dX10_cost_14 : decode cX10_cost 14 = .ok (.aload_n 0, 1) := by decide +kernel
theorem dX10_cost_15 : decode cX10_cost 15 = .ok (.getfield 31, 3) := by decide +kernel
theorem dX10_cost_18 : decode cX10_cost 18 = .ok (.iload_n 1, 1) := by decide +kernel
theorem dX10_cost_19 : decode cX10_cost 19 = .ok (.iaload, 1) := by decide +kernel
theorem dX10_cost_20 : decode cX10_cost 20 = .ok (.aload_n 0, 1) := by decide +kernel
theorem dX10_cost_21 : decode cX10_cost 21 = .ok (.getfield 34, 3) := by decide +kernel
theorem dX10_cost_24 : decode cX10_cost 24 = .ok (.iload_n 1, 1) := by decide +kernel
theorem dX10_cost_25 : decode cX10_cost 25 = .ok (.iaload, 1) := by decide +kernel
theorem dX10_cost_26 : decode cX10_cost 26 = .ok (.invokestatic 266, 3) := by decide +kernel
theorem dX10_cost_29 : decode cX10_cost 29 = .ok (.ireturn, 1) := by decide +kernel
def f_X10_cost (o_kept : Nat → Int32) (o_keptKind : Nat → Int32) (o_keptFigure : Nat → Int32) (p1 : Int32) : Option (Int32) := ob (f_X10_wrongKept o_kept p1) (fun r1 => if r1 = 0 then gd (ix p1 8) (gd (ix p1 8) (ob (f_X10_costBy (o_keptKind p1.toNatClampNeg) (o_keptFigure p1.toNatClampNeg)) (fun r6 => some r6))) else some r1)
set_option maxHeartbeats 4000000 in
set_option maxRecDepth 100000 in
theorem c_X10_cost (l : Launch) (E : EE) (o_h : Nat) (o_a0 : Nat) (o_a1 : Nat) (o_a2 : Nat) (o_a3 : Nat) (o_a8 : Nat) (o_a9 : Nat) (o_a11 : Nat) (o_a12 : Nat) (o_a13 : Nat) (o_a14 : Nat) (o_a15 : Nat) (o_a16 : Nat) (o_s : Nat → Int32) (o_m : Nat → Int32) (o_image : Nat → Int32) (o_was : Nat → Int32) (o_hasImage : Int32) (o_place : Int32) (o_rowAt : Int32) (o_rowEnd : Int32) (o_numbers : Nat → Int32) (o_most : Nat → Int32) (o_seed : Int32) (o_kept : Nat → Int32) (o_keptKind : Nat → Int32) (o_keptFigure : Nat → Int32) (o_sort : Nat → Int32) (o_size : Nat → Int32) (o_element : Nat → Int32) (o_thrown : Int32) (p1 : Int32) (res : Int32) (hv : f_X10_cost o_kept o_keptKind o_keptFigure p1 = some res) : Rd l E yX10_cost cX10_cost 3 (some .int) ({ frames := 3, cells := 0, slots := 0, locals := 63 }) [.ref o_h, .int p1] [oMo o_h o_a0 o_a1 o_a2 o_a3 o_hasImage o_place o_rowAt o_rowEnd o_a8 o_a9 o_seed o_a11 o_a12 o_a13 o_a14 o_a15 o_a16 o_thrown, ai E o_a0 42 o_s, ai E o_a1 42 o_m, ai E o_a2 42 o_image, ai E o_a3 42 o_was, ai E o_a8 3 o_numbers, ai E o_a9 8192 o_most, ai E o_a11 8 o_kept, ai E o_a12 8 o_keptKind, ai E o_a13 8 o_keptFigure, ai E o_a14 8 o_sort, ai E o_a15 8 o_size, ai E o_a16 800 o_element] (some (.int res)) := by
  refine Rd.intro RX10 (by decide) rfl (Nat.le_of_ble_eq_true rfl) ?_
  intro p e s m below meth c ls hC hr hlk hP hG hl
  obtain ⟨hx, hb, hml, hown, ht⟩ := id hC
  have hK := hG.1
  have hl : lv_has ls 3 [(0, .ref o_h), (1, .int p1)] := hl
  rw [f_X10_cost] at hv
  refine lv_aload_n hx hb dX10_cost_0 rfl (lv_at hl 0 rfl) ?_
  refine lv_iload_n hx hb dX10_cost_1 rfl (lv_at hl 1 rfl) ?_
  obtain ⟨r1, h2, hv⟩ := ob_s hv
  refine rdV 4 0 (As := [.int p1]) (rest := []) (st1 := [.int r1]) (w := [oMo o_h o_a0 o_a1 o_a2 o_a3 o_hasImage o_place o_rowAt o_rowEnd o_a8 o_a9 o_seed o_a11 o_a12 o_a13 o_a14 o_a15 o_a16 o_thrown, ai E o_a0 42 o_s, ai E o_a1 42 o_m, ai E o_a2 42 o_image, ai E o_a3 42 o_was, ai E o_a8 3 o_numbers, ai E o_a9 8192 o_most, ai E o_a11 8 o_kept, ai E o_a12 8 o_keptKind, ai E o_a13 8 o_keptFigure, ai E o_a14 8 o_sort, ai E o_a15 8 o_size, ai E o_a16 800 o_element]) hC q_X10_wrongKept kw_5_41 (c_X10_wrongKept l E o_h o_a0 o_a1 o_a2 o_a3 o_a8 o_a9 o_a11 o_a12 o_a13 o_a14 o_a15 o_a16 o_s o_m o_image o_was o_hasImage o_place o_rowAt o_rowEnd o_numbers o_most o_seed o_kept o_keptKind o_keptFigure o_sort o_size o_element o_thrown p1 r1 h2) ⟨rfl, rfl⟩ ⟨Nat.le_of_ble_eq_true rfl, Nat.le_of_ble_eq_true rfl⟩ ⟨Nat.zero_le _, Nat.zero_le _⟩ hP rfl rfl rfl hG rfl hl.1 rfl (Nat.le_of_ble_eq_true rfl) dX10_cost_2 rfl ?_
  refine lv_istore_n (lv' := [(2, .int r1), (0, .ref o_h), (1, .int p1)]) hx hb dX10_cost_5 rfl hl (by decide) rfl (fun ls hl => ?_)
  refine lv_iload_n hx hb dX10_cost_6 rfl (lv_at hl 0 rfl) ?_
  refine lv_if_eq (tgt := 14) hx hb dX10_cost_7 (by decide) (fun c3 => ?_) (fun c3 => ?_)
  · have hv := if_y c3 hv
    refine lv_aload_n hx hb dX10_cost_14 rfl (lv_at hl 1 rfl) ?_
    refine va_get (D := E.1) (ci := 4) (v := .ref o_a12) (C := RX10) (T := TX10) (N := 18) hx hb ht i_X10 hown hK hP 0 rfl rfl 12 (by decide) (ht _ kw_4_146) (fun _ h9 => h9) rfl dX10_cost_15 ?_
    refine lv_iload_n hx hb dX10_cost_18 rfl (lv_at hl 2 rfl) ?_
    obtain ⟨g4, hv⟩ := gd_s hv
    refine va_iald hx hb hK hP 8 0 rfl rfl (ix_s g4) dX10_cost_19 ?_
    refine lv_aload_n hx hb dX10_cost_20 rfl (lv_at hl 1 rfl) ?_
    refine va_get (D := E.1) (ci := 4) (v := .ref o_a13) (C := RX10) (T := TX10) (N := 18) hx hb ht i_X10 hown hK hP 0 rfl rfl 13 (by decide) (ht _ kw_4_147) (fun _ h9 => h9) rfl dX10_cost_21 ?_
    refine lv_iload_n hx hb dX10_cost_24 rfl (lv_at hl 2 rfl) ?_
    obtain ⟨g5, hv⟩ := gd_s hv
    refine va_iald hx hb hK hP 9 0 rfl rfl (ix_s g5) dX10_cost_25 ?_
    obtain ⟨r6, h7, hv⟩ := ob_s hv
    refine rdS (rest := []) (st1 := [.int r6]) (w := []) hC q_X10_costBy kw_6_92 (c_X10_costBy l E (o_keptKind p1.toNatClampNeg) (o_keptFigure p1.toNatClampNeg) r6 h7) ⟨rfl, rfl⟩ ⟨Nat.le_of_ble_eq_true rfl, Nat.le_of_ble_eq_true rfl⟩ ⟨Nat.zero_le _, Nat.zero_le _⟩ (hP.sub (ws' := []) [] rfl) hG rfl hl.1 rfl (Nat.le_of_ble_eq_true rfl) dX10_cost_26 rfl ?_
    exact W.iret (v := r6) hx hb hr (fun t h9 _ => ⟨rv_i hv, h9⟩) (fun q h => absurd h List.not_mem_nil) dX10_cost_29 hlk
  · have hv := if_n c3 hv
    refine lv_iload_n hx hb dX10_cost_10 rfl (lv_at hl 0 rfl) ?_
    refine lv_goto (tgt := 29) hx hb dX10_cost_11 (by decide) ?_
    exact W.iret (v := r1) hx hb hr (fun t h9 _ => ⟨rv_i hv, h9⟩) (fun q h => absurd h List.not_mem_nil) dX10_cost_29 hlk
theorem dX10_toss_0 : decode cX10_toss 0 = .ok (.aload_n 0, 1) := by decide +kernel
theorem dX10_toss_1 : decode cX10_toss 1 = .ok (.iload_n 1, 1) := by decide +kernel
theorem dX10_toss_2 : decode cX10_toss 2 = .ok (.invokevirtual 158, 3) := by decide +kernel
theorem dX10_toss_5 : decode cX10_toss 5 = .ok (.istore_n 2, 1) := by decide +kernel
theorem dX10_toss_6 : decode cX10_toss 6 = .ok (.iload_n 2, 1) := by decide +kernel
theorem dX10_toss_7 : decode cX10_toss 7 = .ok (.ifCond .eq 5, 3) := by decide +kernel
theorem dX10_toss_10 : decode cX10_toss 10 = .ok (.iload_n 2, 1) := by decide +kernel
theorem dX10_toss_11 : decode cX10_toss 11 = .ok (.ireturn, 1) := by decide +kernel
theorem dX10_toss_12 : decode cX10_toss 12 = .ok (.aload_n 0, 1) := by decide +kernel
theorem dX10_toss_13 : decode cX10_toss 13 = .ok (.getfield 31, 3) := by decide +kernel
theorem dX10_toss_16 : decode cX10_toss 16 = .ok (.iload_n 1, 1) := by decide +kernel
theorem dX10_toss_17 : decode cX10_toss 17 = .ok (.iaload, 1) := by decide +kernel
theorem dX10_toss_18 : decode cX10_toss 18 = .ok (.istore_n 3, 1) := by decide +kernel
theorem dX10_toss_19 : decode cX10_toss 19 = .ok (.aload_n 0, 1) := by decide +kernel
theorem dX10_toss_20 : decode cX10_toss 20 = .ok (.getfield 34, 3) := by decide +kernel
theorem dX10_toss_23 : decode cX10_toss 23 = .ok (.iload_n 1, 1) := by decide +kernel
theorem dX10_toss_24 : decode cX10_toss 24 = .ok (.iaload, 1) := by decide +kernel
theorem dX10_toss_25 : decode cX10_toss 25 = .ok (.istore 4, 2) := by decide +kernel
theorem dX10_toss_27 : decode cX10_toss 27 = .ok (.iload_n 3, 1) := by decide +kernel
theorem dX10_toss_28 : decode cX10_toss 28 = .ok (.iconst 2, 1) := by decide +kernel
theorem dX10_toss_29 : decode cX10_toss 29 = .ok (.if_icmp .eq 13, 3) := by decide +kernel
theorem dX10_toss_32 : decode cX10_toss 32 = .ok (.iload_n 3, 1) := by decide +kernel
theorem dX10_toss_33 : decode cX10_toss 33 = .ok (.iconst 5, 1) := by decide +kernel
theorem dX10_toss_34 : decode cX10_toss 34 = .ok (.if_icmp .eq 8, 3) := by decide +kernel
theorem dX10_toss_37 : decode cX10_toss 37 = .ok (.iload 4, 2) := by decide +kernel
theorem dX10_toss_39 : decode cX10_toss 39 = .ok (.ifCond .ne 6, 3) := by decide +kernel
theorem dX10_toss_42 : decode cX10_toss 42 = .ok (.bipush (-15), 2) := by decide +kernel
theorem dX10_toss_44 : decode cX10_toss 44 = .ok (.ireturn, 1) := by decide +kernel
theorem dX10_toss_45 : decode cX10_toss 45 = .ok (.iload_n 3, 1) := by decide +kernel
theorem dX10_toss_46 : decode cX10_toss 46 = .ok (.bipush 6, 2) := by decide +kernel
theorem dX10_toss_48 : decode cX10_toss 48 = .ok (.if_icmp .ne 16, 3) := by decide +kernel
theorem dX10_toss_51 : decode cX10_toss 51 = .ok (.sipush 200, 3) := by decide +kernel
theorem dX10_toss_54 : decode cX10_toss 54 = .ok (.iload_n 3, 1) := by decide +kernel
theorem dX10_toss_55 : decode cX10_toss 55 = .ok (.iload 4, 2) := by decide +kernel
theorem dX10_toss_57 : decode cX10_toss 57 = .ok (.invokestatic 266, 3) := by decide +kernel
theorem dX10_toss_60 : decode cX10_toss 60 = .ok (.iadd, 1) := by decide +kernel
theorem dX10_toss_61 : decode cX10_toss 61 = .ok (.goto 18, 3) := by decide +kernel
theorem dX10_toss_64 : decode cX10_toss 64 = .ok (.iload_n 3, 1) := by decide +kernel
theorem dX10_toss_65 : decode cX10_toss 65 = .ok (.iconst 1, 1) := by decide +kernel
theorem dX10_toss_66 : decode cX10_toss 66 = .ok (.if_icmp .ne 11, 3) := by decide +kernel
theorem dX10_toss_69 : decode cX10_toss 69 = .ok (.bipush 100, 2) := by decide +kernel
theorem dX10_toss_71 : decode cX10_toss 71 = .ok (.iload 4, 2) := by decide +kernel
theorem dX10_toss_73 : decode cX10_toss 73 = .ok (.iadd, 1) := by decide +kernel
theorem dX10_toss_74 : decode cX10_toss 74 = .ok (.goto 5, 3) := by decide +kernel
theorem dX10_toss_77 : decode cX10_toss 77 = .ok (.iload 4, 2) := by decide +kernel
theorem dX10_toss_79 : decode cX10_toss 79 = .ok (.ireturn, 1) := by decide +kernel
def f_X10_toss (o_kept : Nat → Int32) (o_keptKind : Nat → Int32) (o_keptFigure : Nat → Int32) (p1 : Int32) : Option (Int32) := ob (f_X10_wrongKept o_kept p1) (fun r1 => if r1 = 0 then gd (ix p1 8) (gd (ix p1 8) (if (o_keptKind p1.toNatClampNeg) = (2 : Int32) then some (-15 : Int32) else if (o_keptKind p1.toNatClampNeg) = (5 : Int32) then some (-15 : Int32) else if (o_keptFigure p1.toNatClampNeg) = 0 then some (-15 : Int32) else if (o_keptKind p1.toNatClampNeg) = (6 : Int32) then ob (f_X10_costBy (o_keptKind p1.toNatClampNeg) (o_keptFigure p1.toNatClampNeg)) (fun r11 => some ((200 : Int32) + r11)) else if (o_keptKind p1.toNatClampNeg) = (1 : Int32) then some ((100 : Int32) + (o_keptFigure p1.toNatClampNeg)) else some (o_keptFigure p1.toNatClampNeg))) else some r1)
set_option maxHeartbeats 4000000 in
set_option maxRecDepth 100000 in
theorem c_X10_toss (l : Launch) (E : EE) (o_h : Nat) (o_a0 : Nat) (o_a1 : Nat) (o_a2 : Nat) (o_a3 : Nat) (o_a8 : Nat) (o_a9 : Nat) (o_a11 : Nat) (o_a12 : Nat) (o_a13 : Nat) (o_a14 : Nat) (o_a15 : Nat) (o_a16 : Nat) (o_s : Nat → Int32) (o_m : Nat → Int32) (o_image : Nat → Int32) (o_was : Nat → Int32) (o_hasImage : Int32) (o_place : Int32) (o_rowAt : Int32) (o_rowEnd : Int32) (o_numbers : Nat → Int32) (o_most : Nat → Int32) (o_seed : Int32) (o_kept : Nat → Int32) (o_keptKind : Nat → Int32) (o_keptFigure : Nat → Int32) (o_sort : Nat → Int32) (o_size : Nat → Int32) (o_element : Nat → Int32) (o_thrown : Int32) (p1 : Int32) (res : Int32) (hv : f_X10_toss o_kept o_keptKind o_keptFigure p1 = some res) : Rd l E yX10_toss cX10_toss 5 (some .int) ({ frames := 3, cells := 0, slots := 0, locals := 63 }) [.ref o_h, .int p1] [oMo o_h o_a0 o_a1 o_a2 o_a3 o_hasImage o_place o_rowAt o_rowEnd o_a8 o_a9 o_seed o_a11 o_a12 o_a13 o_a14 o_a15 o_a16 o_thrown, ai E o_a0 42 o_s, ai E o_a1 42 o_m, ai E o_a2 42 o_image, ai E o_a3 42 o_was, ai E o_a8 3 o_numbers, ai E o_a9 8192 o_most, ai E o_a11 8 o_kept, ai E o_a12 8 o_keptKind, ai E o_a13 8 o_keptFigure, ai E o_a14 8 o_sort, ai E o_a15 8 o_size, ai E o_a16 800 o_element] (some (.int res)) := by
  refine Rd.intro RX10 (by decide) rfl (Nat.le_of_ble_eq_true rfl) ?_
  intro p e s m below meth c ls hC hr hlk hP hG hl
  obtain ⟨hx, hb, hml, hown, ht⟩ := id hC
  have hK := hG.1
  have hl : lv_has ls 5 [(0, .ref o_h), (1, .int p1)] := hl
  rw [f_X10_toss] at hv
  refine lv_aload_n hx hb dX10_toss_0 rfl (lv_at hl 0 rfl) ?_
  refine lv_iload_n hx hb dX10_toss_1 rfl (lv_at hl 1 rfl) ?_
  obtain ⟨r1, h2, hv⟩ := ob_s hv
  refine rdV 4 0 (As := [.int p1]) (rest := []) (st1 := [.int r1]) (w := [oMo o_h o_a0 o_a1 o_a2 o_a3 o_hasImage o_place o_rowAt o_rowEnd o_a8 o_a9 o_seed o_a11 o_a12 o_a13 o_a14 o_a15 o_a16 o_thrown, ai E o_a0 42 o_s, ai E o_a1 42 o_m, ai E o_a2 42 o_image, ai E o_a3 42 o_was, ai E o_a8 3 o_numbers, ai E o_a9 8192 o_most, ai E o_a11 8 o_kept, ai E o_a12 8 o_keptKind, ai E o_a13 8 o_keptFigure, ai E o_a14 8 o_sort, ai E o_a15 8 o_size, ai E o_a16 800 o_element]) hC q_X10_wrongKept kw_5_41 (c_X10_wrongKept l E o_h o_a0 o_a1 o_a2 o_a3 o_a8 o_a9 o_a11 o_a12 o_a13 o_a14 o_a15 o_a16 o_s o_m o_image o_was o_hasImage o_place o_rowAt o_rowEnd o_numbers o_most o_seed o_kept o_keptKind o_keptFigure o_sort o_size o_element o_thrown p1 r1 h2) ⟨rfl, rfl⟩ ⟨Nat.le_of_ble_eq_true rfl, Nat.le_of_ble_eq_true rfl⟩ ⟨Nat.zero_le _, Nat.zero_le _⟩ hP rfl rfl rfl hG rfl hl.1 rfl (Nat.le_of_ble_eq_true rfl) dX10_toss_2 rfl ?_
  refine lv_istore_n (lv' := [(2, .int r1), (0, .ref o_h), (1, .int p1)]) hx hb dX10_toss_5 rfl hl (by decide) rfl (fun ls hl => ?_)
  refine lv_iload_n hx hb dX10_toss_6 rfl (lv_at hl 0 rfl) ?_
  refine lv_if_eq (tgt := 12) hx hb dX10_toss_7 (by decide) (fun c3 => ?_) (fun c3 => ?_)
  · have hv := if_y c3 hv
    refine lv_aload_n hx hb dX10_toss_12 rfl (lv_at hl 1 rfl) ?_
    refine va_get (D := E.1) (ci := 4) (v := .ref o_a12) (C := RX10) (T := TX10) (N := 18) hx hb ht i_X10 hown hK hP 0 rfl rfl 12 (by decide) (ht _ kw_4_146) (fun _ h9 => h9) rfl dX10_toss_13 ?_
    refine lv_iload_n hx hb dX10_toss_16 rfl (lv_at hl 2 rfl) ?_
    obtain ⟨g4, hv⟩ := gd_s hv
    refine va_iald hx hb hK hP 8 0 rfl rfl (ix_s g4) dX10_toss_17 ?_
    refine lv_istore_n (lv' := [(3, .int (o_keptKind p1.toNatClampNeg)), (2, .int r1), (0, .ref o_h), (1, .int p1)]) hx hb dX10_toss_18 rfl hl (by decide) rfl (fun ls hl => ?_)
    refine lv_aload_n hx hb dX10_toss_19 rfl (lv_at hl 2 rfl) ?_
    refine va_get (D := E.1) (ci := 4) (v := .ref o_a13) (C := RX10) (T := TX10) (N := 18) hx hb ht i_X10 hown hK hP 0 rfl rfl 13 (by decide) (ht _ kw_4_147) (fun _ h9 => h9) rfl dX10_toss_20 ?_
    refine lv_iload_n hx hb dX10_toss_23 rfl (lv_at hl 3 rfl) ?_
    obtain ⟨g5, hv⟩ := gd_s hv
    refine va_iald hx hb hK hP 9 0 rfl rfl (ix_s g5) dX10_toss_24 ?_
    refine lv_istore (lv' := [(4, .int (o_keptFigure p1.toNatClampNeg)), (3, .int (o_keptKind p1.toNatClampNeg)), (2, .int r1), (0, .ref o_h), (1, .int p1)]) hx hb dX10_toss_25 hl (by decide) rfl (fun ls hl => ?_)
    refine lv_iload_n hx hb dX10_toss_27 rfl (lv_at hl 1 rfl) ?_
    refine lv_iconst (v := (2 : Int32)) hx hb dX10_toss_28 (by decide) ?_
    refine lv_icmp_eq (tgt := 42) hx hb dX10_toss_29 (by decide) (fun c6 => ?_) (fun c6 => ?_)
    · have hv := if_y c6 hv
      refine lv_bipush (v := (-15 : Int32)) hx hb dX10_toss_42 (by decide) ?_
      exact W.iret (v := (-15 : Int32)) hx hb hr (fun t h9 _ => ⟨rv_i hv, h9⟩) (fun q h => absurd h List.not_mem_nil) dX10_toss_44 hlk
    · have hv := if_n c6 hv
      refine lv_iload_n hx hb dX10_toss_32 rfl (lv_at hl 1 rfl) ?_
      refine lv_iconst (v := (5 : Int32)) hx hb dX10_toss_33 (by decide) ?_
      refine lv_icmp_eq (tgt := 42) hx hb dX10_toss_34 (by decide) (fun c7 => ?_) (fun c7 => ?_)
      · have hv := if_y c7 hv
        refine lv_bipush (v := (-15 : Int32)) hx hb dX10_toss_42 (by decide) ?_
        exact W.iret (v := (-15 : Int32)) hx hb hr (fun t h9 _ => ⟨rv_i hv, h9⟩) (fun q h => absurd h List.not_mem_nil) dX10_toss_44 hlk
      · have hv := if_n c7 hv
        refine lv_iload hx hb dX10_toss_37 (lv_at hl 0 rfl) ?_
        refine lv_if_ne (tgt := 45) hx hb dX10_toss_39 (by decide) (fun c8 => ?_) (fun c8 => ?_)
        · have hv := if_n c8 hv
          refine lv_iload_n hx hb dX10_toss_45 rfl (lv_at hl 1 rfl) ?_
          refine lv_bipush (v := (6 : Int32)) hx hb dX10_toss_46 (by decide) ?_
          refine lv_icmp_ne (tgt := 64) hx hb dX10_toss_48 (by decide) (fun c9 => ?_) (fun c9 => ?_)
          · have hv := if_n c9 hv
            refine lv_iload_n hx hb dX10_toss_64 rfl (lv_at hl 1 rfl) ?_
            refine lv_iconst (v := (1 : Int32)) hx hb dX10_toss_65 (by decide) ?_
            refine lv_icmp_ne (tgt := 77) hx hb dX10_toss_66 (by decide) (fun c10 => ?_) (fun c10 => ?_)
            · have hv := if_n c10 hv
              refine lv_iload hx hb dX10_toss_77 (lv_at hl 0 rfl) ?_
              exact W.iret (v := (o_keptFigure p1.toNatClampNeg)) hx hb hr (fun t h9 _ => ⟨rv_i hv, h9⟩) (fun q h => absurd h List.not_mem_nil) dX10_toss_79 hlk
            · have hv := if_y c10 hv
              refine lv_bipush (v := (100 : Int32)) hx hb dX10_toss_69 (by decide) ?_
              refine lv_iload hx hb dX10_toss_71 (lv_at hl 0 rfl) ?_
              refine lv_iadd hx hb dX10_toss_73 ?_
              refine lv_goto (tgt := 79) hx hb dX10_toss_74 (by decide) ?_
              exact W.iret (v := ((100 : Int32) + (o_keptFigure p1.toNatClampNeg))) hx hb hr (fun t h9 _ => ⟨rv_i hv, h9⟩) (fun q h => absurd h List.not_mem_nil) dX10_toss_79 hlk
          · have hv := if_y c9 hv
            refine lv_sipush (v := (200 : Int32)) hx hb dX10_toss_51 (by decide) ?_
            refine lv_iload_n hx hb dX10_toss_54 rfl (lv_at hl 1 rfl) ?_
            refine lv_iload hx hb dX10_toss_55 (lv_at hl 0 rfl) ?_
            obtain ⟨r11, h12, hv⟩ := ob_s hv
            refine rdS (rest := [.int (200 : Int32)]) (st1 := [.int r11, .int (200 : Int32)]) (w := []) hC q_X10_costBy kw_6_92 (c_X10_costBy l E (o_keptKind p1.toNatClampNeg) (o_keptFigure p1.toNatClampNeg) r11 h12) ⟨rfl, rfl⟩ ⟨Nat.le_of_ble_eq_true rfl, Nat.le_of_ble_eq_true rfl⟩ ⟨Nat.zero_le _, Nat.zero_le _⟩ (hP.sub (ws' := []) [] rfl) hG rfl hl.1 rfl (Nat.le_of_ble_eq_true rfl) dX10_toss_57 rfl ?_
            refine lv_iadd hx hb dX10_toss_60 ?_
            refine lv_goto (tgt := 79) hx hb dX10_toss_61 (by decide) ?_
            exact W.iret (v := ((200 : Int32) + r11)) hx hb hr (fun t h9 _ => ⟨rv_i hv, h9⟩) (fun q h => absurd h List.not_mem_nil) dX10_toss_79 hlk
        · have hv := if_y c8 hv
          refine lv_bipush (v := (-15 : Int32)) hx hb dX10_toss_42 (by decide) ?_
          exact W.iret (v := (-15 : Int32)) hx hb hr (fun t h9 _ => ⟨rv_i hv, h9⟩) (fun q h => absurd h List.not_mem_nil) dX10_toss_44 hlk
  · have hv := if_n c3 hv
    refine lv_iload_n hx hb dX10_toss_10 rfl (lv_at hl 0 rfl) ?_
    exact W.iret (v := r1) hx hb hr (fun t h9 _ => ⟨rv_i hv, h9⟩) (fun q h => absurd h List.not_mem_nil) dX10_toss_11 hlk
