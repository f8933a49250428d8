theorem dX10_quarter_0 : decode cX10_quarter 0 = .ok (.aload_n 0, 1) := by decide +kernel
theorem dX10_quarter_1 : decode cX10_quarter 1 = .ok (.iload_n 1, 1) := by decide +kernel
theorem dX10_quarter_2 : decode cX10_quarter 2 = .ok (.iconst 0, 1) := by decide +kernel
theorem dX10_quarter_3 : decode cX10_quarter 3 = .ok (.invokevirtual 141, 3) := by decide +kernel
theorem dX10_quarter_6 : decode cX10_quarter 6 = .ok (.istore_n 2, 1) := by decide +kernel
theorem dX10_quarter_7 : decode cX10_quarter 7 = .ok (.iload_n 2, 1) := by decide +kernel
theorem dX10_quarter_8 : decode cX10_quarter 8 = .ok (.ifCond .eq 5, 3) := by decide +kernel
theorem dX10_quarter_11 : decode cX10_quarter 11 = .ok (.iload_n 2, 1) := by decide +kernel
theorem dX10_quarter_12 : decode cX10_quarter 12 = .ok (.ireturn, 1) := by decide +kernel
theorem dX10_quarter_13 : decode cX10_quarter 13 = .ok (.aload_n 0, 1) := by decide +kernel
theorem dX10_quarter_14 : decode cX10_quarter 14 = .ok (.bipush 100, 2) := by decide +kernel
theorem dX10_quarter_16 : decode cX10_quarter 16 = .ok (.iload_n 1, 1) := by decide +kernel
theorem dX10_quarter_17 : decode cX10_quarter 17 = .ok (.imul, 1) := by decide +kernel
theorem dX10_quarter_18 : decode cX10_quarter 18 = .ok (.putfield 120, 3) := by decide +kernel
theorem dX10_quarter_21 : decode cX10_quarter 21 = .ok (.aload_n 0, 1) := by decide +kernel
theorem dX10_quarter_22 : decode cX10_quarter 22 = .ok (.aload_n 0, 1) := by decide +kernel
theorem dX10_quarter_23 : decode cX10_quarter 23 = .ok (.getfield 40, 3) := by decide +kernel
theorem dX10_quarter_26 : decode cX10_quarter 26 = .ok (.iload_n 1, 1) := by decide +kernel
theorem dX10_quarter_27 : decode cX10_quarter 27 = .ok (.iaload, 1) := by decide +kernel
theorem dX10_quarter_28 : decode cX10_quarter 28 = .ok (.putfield 117, 3) := by decide +kernel
theorem dX10_quarter_31 : decode cX10_quarter 31 = .ok (.aload_n 0, 1) := by decide +kernel
theorem dX10_quarter_32 : decode cX10_quarter 32 = .ok (.iconst 0, 1) := by decide +kernel
theorem dX10_quarter_33 : decode cX10_quarter 33 = .ok (.putfield 113, 3) := by decide +kernel
theorem dX10_quarter_36 : decode cX10_quarter 36 = .ok (.iconst 0, 1) := by decide +kernel
theorem dX10_quarter_37 : decode cX10_quarter 37 = .ok (.istore_n 3, 1) := by decide +kernel
theorem dX10_quarter_38 : decode cX10_quarter 38 = .ok (.iconst 0, 1) := by decide +kernel
theorem dX10_quarter_39 : decode cX10_quarter 39 = .ok (.istore 4, 2) := by decide +kernel
theorem dX10_quarter_41 : decode cX10_quarter 41 = .ok (.aload_n 0, 1) := by decide +kernel
theorem dX10_quarter_42 : decode cX10_quarter 42 = .ok (.invokevirtual 144, 3) := by decide +kernel
theorem dX10_quarter_45 : decode cX10_quarter 45 = .ok (.ifCond .ne 13, 3) := by decide +kernel
theorem dX10_quarter_48 : decode cX10_quarter 48 = .ok (.sipush (-1000), 3) := by decide +kernel
theorem dX10_quarter_51 : decode cX10_quarter 51 = .ok (.aload_n 0, 1) := by decide +kernel
theorem dX10_quarter_52 : decode cX10_quarter 52 = .ok (.getfield 113, 3) := by decide +kernel
theorem dX10_quarter_55 : decode cX10_quarter 55 = .ok (.isub, 1) := by decide +kernel
theorem dX10_quarter_56 : decode cX10_quarter 56 = .ok (.istore 4, 2) := by decide +kernel
theorem dX10_quarter_58 : decode cX10_quarter 58 = .ok (.iinc 3 1, 3) := by decide +kernel
theorem dX10_quarter_61 : decode cX10_quarter 61 = .ok (.iload 4, 2) := by decide +kernel
theorem dX10_quarter_63 : decode cX10_quarter 63 = .ok (.ifCond .ne 14, 3) := by decide +kernel
theorem dX10_quarter_66 : decode cX10_quarter 66 = .ok (.aload_n 0, 1) := by decide +kernel
theorem dX10_quarter_67 : decode cX10_quarter 67 = .ok (.getfield 113, 3) := by decide +kernel
theorem dX10_quarter_70 : decode cX10_quarter 70 = .ok (.aload_n 0, 1) := by decide +kernel
theorem dX10_quarter_71 : decode cX10_quarter 71 = .ok (.getfield 117, 3) := by decide +kernel
theorem dX10_quarter_74 : decode cX10_quarter 74 = .ok (.if_icmp .lt (-33), 3) := by decide +kernel
theorem dX10_quarter_77 : decode cX10_quarter 77 = .ok (.aload_n 0, 1) := by decide +kernel
theorem dX10_quarter_78 : decode cX10_quarter 78 = .ok (.getfield 9, 3) := by decide +kernel
theorem dX10_quarter_81 : decode cX10_quarter 81 = .ok (.aload_n 0, 1) := by decide +kernel
theorem dX10_quarter_82 : decode cX10_quarter 82 = .ok (.getfield 19, 3) := by decide +kernel
theorem dX10_quarter_85 : decode cX10_quarter 85 = .ok (.invokestatic 148, 3) := by decide +kernel
theorem dX10_quarter_88 : decode cX10_quarter 88 = .ok (.aload_n 0, 1) := by decide +kernel
theorem dX10_quarter_89 : decode cX10_quarter 89 = .ok (.iconst 0, 1) := by decide +kernel
theorem dX10_quarter_90 : decode cX10_quarter 90 = .ok (.putfield 113, 3) := by decide +kernel
theorem dX10_quarter_93 : decode cX10_quarter 93 = .ok (.iload 4, 2) := by decide +kernel
theorem dX10_quarter_95 : decode cX10_quarter 95 = .ok (.ifCond .ne 66, 3) := by decide +kernel
theorem dX10_quarter_98 : decode cX10_quarter 98 = .ok (.aload_n 0, 1) := by decide +kernel
theorem dX10_quarter_99 : decode cX10_quarter 99 = .ok (.getfield 113, 3) := by decide +kernel
theorem dX10_quarter_102 : decode cX10_quarter 102 = .ok (.aload_n 0, 1) := by decide +kernel
theorem dX10_quarter_103 : decode cX10_quarter 103 = .ok (.getfield 117, 3) := by decide +kernel
theorem dX10_quarter_106 : decode cX10_quarter 106 = .ok (.if_icmp .ge 55, 3) := by decide +kernel
theorem dX10_quarter_109 : decode cX10_quarter 109 = .ok (.aload_n 0, 1) := by decide +kernel
theorem dX10_quarter_110 : decode cX10_quarter 110 = .ok (.getfield 113, 3) := by decide +kernel
theorem dX10_quarter_113 : decode cX10_quarter 113 = .ok (.istore 5, 2) := by decide +kernel
theorem dX10_quarter_115 : decode cX10_quarter 115 = .ok (.aload_n 0, 1) := by decide +kernel
theorem dX10_quarter_116 : decode cX10_quarter 116 = .ok (.invokevirtual 123, 3) := by decide +kernel
theorem dX10_quarter_119 : decode cX10_quarter 119 = .ok (.istore 6, 2) := by decide +kernel
theorem dX10_quarter_121 : decode cX10_quarter 121 = .ok (.aload_n 0, 1) := by decide +kernel
theorem dX10_quarter_122 : decode cX10_quarter 122 = .ok (.invokevirtual 144, 3) := by decide +kernel
theorem dX10_quarter_125 : decode cX10_quarter 125 = .ok (.istore 7, 2) := by decide +kernel
theorem dX10_quarter_127 : decode cX10_quarter 127 = .ok (.aload_n 0, 1) := by decide +kernel
theorem dX10_quarter_128 : decode cX10_quarter 128 = .ok (.iload 6, 2) := by decide +kernel
theorem dX10_quarter_130 : decode cX10_quarter 130 = .ok (.invokevirtual 152, 3) := by decide +kernel
theorem dX10_quarter_133 : decode cX10_quarter 133 = .ok (.ifCond .eq 6, 3) := by decide +kernel
theorem dX10_quarter_136 : decode cX10_quarter 136 = .ok (.goto (-43), 3) := by decide +kernel
theorem dX10_quarter_139 : decode cX10_quarter 139 = .ok (.sipush (-2000), 3) := by decide +kernel
theorem dX10_quarter_142 : decode cX10_quarter 142 = .ok (.iload 5, 2) := by decide +kernel
theorem dX10_quarter_144 : decode cX10_quarter 144 = .ok (.isub, 1) := by decide +kernel
theorem dX10_quarter_145 : decode cX10_quarter 145 = .ok (.istore 4, 2) := by decide +kernel
theorem dX10_quarter_147 : decode cX10_quarter 147 = .ok (.aload_n 0, 1) := by decide +kernel
theorem dX10_quarter_148 : decode cX10_quarter 148 = .ok (.getfield 19, 3) := by decide +kernel
theorem dX10_quarter_151 : decode cX10_quarter 151 = .ok (.aload_n 0, 1) := by decide +kernel
theorem dX10_quarter_152 : decode cX10_quarter 152 = .ok (.getfield 9, 3) := by decide +kernel
theorem dX10_quarter_155 : decode cX10_quarter 155 = .ok (.invokestatic 148, 3) := by decide +kernel
theorem dX10_quarter_158 : decode cX10_quarter 158 = .ok (.goto (-65), 3) := by decide +kernel
theorem dX10_quarter_161 : decode cX10_quarter 161 = .ok (.iload 4, 2) := by decide +kernel
theorem dX10_quarter_163 : decode cX10_quarter 163 = .ok (.ifCond .ne 7, 3) := by decide +kernel
theorem dX10_quarter_166 : decode cX10_quarter 166 = .ok (.iload_n 3, 1) := by decide +kernel
theorem dX10_quarter_167 : decode cX10_quarter 167 = .ok (.goto 5, 3) := by decide +kernel
theorem dX10_quarter_170 : decode cX10_quarter 170 = .ok (.iload 4, 2) := by decide +kernel
theorem dX10_quarter_172 : decode cX10_quarter 172 = .ok (.ireturn, 1) := by decide +kernel
def L_X10_quarter_93 (N : Nat) (o_element : Nat → Int32) (z4 : Int32) (z6 : Int32) (x8 : Int32) (y17 : Nat → Int32) : Nat → Int32 → Int32 → (Nat → Int32) → (Nat → Int32) → Option (Int32 × Int32 × Int32 × Int32 × (Nat → Int32) × (Nat → Int32) × (Nat → Int32))
  | 0, _, _, _, _ => none
  | n93 + 1, x19, y20, y21, y22 => if x19 = 0 then if z6 ≤ y20 then if x19 = 0 then nm (x8 + (1 : Int32)) (fun z28 => some (z28, y20, z4, z6, y21, y17, y22)) else some (x19, y20, z4, z6, y21, y17, y22) else ob (f_X10_here y20 z4 z6 o_element) (fun r29 => ob (f_X10_readsStatement N y20 z4 z6 y22 o_element) (fun (r31, y32, y33) => ob (f_X10_isDone N y21 y33 r29) (fun (r35, y36) => if r35 = 0 then ob (f_X10_copies N y17 y36) (fun y39 => L_X10_quarter_93 N o_element z4 z6 x8 y17 n93 ((-2000 : Int32) - y20) y32 y39 y33) else L_X10_quarter_93 N o_element z4 z6 x8 y17 n93 x19 y32 y36 y33))) else if x19 = 0 then nm (x8 + (1 : Int32)) (fun z25 => some (z25, y20, z4, z6, y21, y17, y22)) else some (x19, y20, z4, z6, y21, y17, y22)
def L_X10_quarter_41 (N : Nat) (o_s : Nat → Int32) (o_was : Nat → Int32) (o_element : Nat → Int32) (z4 : Int32) (z6 : Int32) : Nat → Int32 → Int32 → Int32 → (Nat → Int32) → Option (Int32 × Int32 × Int32 × Int32 × (Nat → Int32) × (Nat → Int32) × (Nat → Int32))
  | 0, _, _, _, _ => none
  | n41 + 1, x7, x8, y9, y10 => ob (f_X10_readsStatement N y9 z4 z6 y10 o_element) (fun (r11, y12, y13) => if r11 = 0 then if ((-1000 : Int32) - y12) = 0 then if y12 < z6 then L_X10_quarter_41 N o_s o_was o_element z4 z6 n41 ((-1000 : Int32) - y12) (x8 + (1 : Int32)) y12 y13 else ob (f_X10_copies N o_s o_was) (fun y92 => L_X10_quarter_93 N o_element z4 z6 x8 y92 N ((-1000 : Int32) - y12) (0 : Int32) o_s y13) else ob (f_X10_copies N o_s o_was) (fun y67 => L_X10_quarter_93 N o_element z4 z6 x8 y67 N ((-1000 : Int32) - y12) (0 : Int32) o_s y13) else if x7 = 0 then if y12 < z6 then L_X10_quarter_41 N o_s o_was o_element z4 z6 n41 x7 (x8 + (1 : Int32)) y12 y13 else ob (f_X10_copies N o_s o_was) (fun y42 => L_X10_quarter_93 N o_element z4 z6 x8 y42 N x7 (0 : Int32) o_s y13) else ob (f_X10_copies N o_s o_was) (fun y17 => L_X10_quarter_93 N o_element z4 z6 x8 y17 N x7 (0 : Int32) o_s y13))
def f_X10_quarter (N : Nat) (o_s : Nat → Int32) (o_was : Nat → Int32) (o_place : Int32) (o_rowAt : Int32) (o_rowEnd : Int32) (o_numbers : Nat → Int32) (o_kept : Nat → Int32) (o_sort : Nat → Int32) (o_size : Nat → Int32) (o_element : Nat → Int32) (p1 : Int32) : Option (Int32 × Int32 × Int32 × Int32 × (Nat → Int32) × (Nat → Int32) × (Nat → Int32)) := ob (f_X10_wrongRow o_kept o_sort p1 (0 : Int32)) (fun r1 => if r1 = 0 then nm ((100 : Int32) * p1) (fun z4 => gd (ix p1 8) (nm (o_size p1.toNatClampNeg) (fun z6 => L_X10_quarter_41 N o_s o_was o_element z4 z6 N (0 : Int32) (0 : Int32) (0 : Int32) o_numbers))) else some (r1, o_place, o_rowAt, o_rowEnd, o_s, o_was, o_numbers))
set_option maxHeartbeats 4000000 in
set_option maxRecDepth 100000 in
theorem c_X10_quarter (l : Launch) (E : EE) (o_h : Nat) (o_a0 : Nat) (o_a1 : Nat) (o_a2 : Nat) (o_a3 : Nat) (o_a8 : Nat) (o_a9 : Nat) (o_a11 : Nat) (o_a12 : Nat) (o_a13 : Nat) (o_a14 : Nat) (o_a15 : Nat) (o_a16 : Nat) (o_s : Nat → Int32) (o_m : Nat → Int32) (o_image : Nat → Int32) (o_was : Nat → Int32) (o_hasImage : Int32) (o_place : Int32) (o_rowAt : Int32) (o_rowEnd : Int32) (o_numbers : Nat → Int32) (o_most : Nat → Int32) (o_seed : Int32) (o_kept : Nat → Int32) (o_keptKind : Nat → Int32) (o_keptFigure : Nat → Int32) (o_sort : Nat → Int32) (o_size : Nat → Int32) (o_element : Nat → Int32) (o_thrown : Int32) (p1 : Int32) (N : Nat) (res : Int32) (w_o_place : Int32) (w_o_rowAt : Int32) (w_o_rowEnd : Int32) (w_o_s : Nat → Int32) (w_o_was : Nat → Int32) (w_o_numbers : Nat → Int32) (hv : f_X10_quarter N o_s o_was o_place o_rowAt o_rowEnd o_numbers o_kept o_sort o_size o_element p1 = some (res, w_o_place, w_o_rowAt, w_o_rowEnd, w_o_s, w_o_was, w_o_numbers)) : Wr l E yX10_quarter cX10_quarter 8 (some .int) ({ frames := 7, cells := 0, slots := 0, locals := 156 }) [.ref o_h, .int p1] [oMo o_h o_a0 o_a1 o_a2 o_a3 o_hasImage o_place o_rowAt o_rowEnd o_a8 o_a9 o_seed o_a11 o_a12 o_a13 o_a14 o_a15 o_a16 o_thrown, ai E o_a0 42 o_s, ai E o_a1 42 o_m, ai E o_a2 42 o_image, ai E o_a3 42 o_was, ai E o_a8 3 o_numbers, ai E o_a9 8192 o_most, ai E o_a11 8 o_kept, ai E o_a12 8 o_keptKind, ai E o_a13 8 o_keptFigure, ai E o_a14 8 o_sort, ai E o_a15 8 o_size, ai E o_a16 800 o_element] [oMo o_h o_a0 o_a1 o_a2 o_a3 o_hasImage w_o_place w_o_rowAt w_o_rowEnd o_a8 o_a9 o_seed o_a11 o_a12 o_a13 o_a14 o_a15 o_a16 o_thrown, ai E o_a0 42 w_o_s, ai E o_a1 42 o_m, ai E o_a2 42 o_image, ai E o_a3 42 w_o_was, ai E o_a8 3 w_o_numbers, ai E o_a9 8192 o_most, ai E o_a11 8 o_kept, ai E o_a12 8 o_keptKind, ai E o_a13 8 o_keptFigure, ai E o_a14 8 o_sort, ai E o_a15 8 o_size, ai E o_a16 800 o_element] (some (.int res)) := by
  refine Wr.intro RX10 (by decide) rfl (Nat.le_of_ble_eq_true rfl) ?_
  intro p e s m below meth c ls A hC hr hlk hmn hP hD hS hA hG hl
  obtain ⟨hx, hb, hml, hown, ht⟩ := id hC
  have hK := hG.1
  have hl : lv_has ls 8 [(0, .ref o_h), (1, .int p1)] := hl
  rw [f_X10_quarter] at hv
  refine lv_aload_n hx hb dX10_quarter_0 rfl (lv_at hl 0 rfl) ?_
  refine lv_iload_n hx hb dX10_quarter_1 rfl (lv_at hl 1 rfl) ?_
  refine lv_iconst (v := (0 : Int32)) hx hb dX10_quarter_2 (by decide) ?_
  obtain ⟨r1, h2, hv⟩ := ob_s hv
  refine rdV 4 0 (As := [.int p1, .int (0 : Int32)]) (rest := []) (st1 := [.int r1]) (w := [oMo o_h o_a0 o_a1 o_a2 o_a3 o_hasImage o_place o_rowAt o_rowEnd o_a8 o_a9 o_seed o_a11 o_a12 o_a13 o_a14 o_a15 o_a16 o_thrown, ai E o_a0 42 o_s, ai E o_a1 42 o_m, ai E o_a2 42 o_image, ai E o_a3 42 o_was, ai E o_a8 3 o_numbers, ai E o_a9 8192 o_most, ai E o_a11 8 o_kept, ai E o_a12 8 o_keptKind, ai E o_a13 8 o_keptFigure, ai E o_a14 8 o_sort, ai E o_a15 8 o_size, ai E o_a16 800 o_element]) hC q_X10_wrongRow kw_4_193 (c_X10_wrongRow l E o_h o_a0 o_a1 o_a2 o_a3 o_a8 o_a9 o_a11 o_a12 o_a13 o_a14 o_a15 o_a16 o_s o_m o_image o_was o_hasImage o_place o_rowAt o_rowEnd o_numbers o_most o_seed o_kept o_keptKind o_keptFigure o_sort o_size o_element o_thrown p1 (0 : Int32) r1 h2) ⟨rfl, rfl⟩ ⟨Nat.le_of_ble_eq_true rfl, Nat.le_of_ble_eq_true rfl⟩ ⟨Nat.zero_le _, Nat.zero_le _⟩ hP rfl rfl rfl hG rfl hl.1 rfl (Nat.le_of_ble_eq_true rfl) dX10_quarter_3 rfl ?_
  refine lv_istore_n (lv' := [(2, .int r1), (0, .ref o_h), (1, .int p1)]) hx hb dX10_quarter_6 rfl hl (by decide) rfl (fun ls hl => ?_)
  refine lv_iload_n hx hb dX10_quarter_7 rfl (lv_at hl 0 rfl) ?_
  refine lv_if_eq (tgt := 13) hx hb dX10_quarter_8 (by decide) (fun c3 => ?_) (fun c3 => ?_)
  · have hv := if_y c3 hv
    refine lv_aload_n hx hb dX10_quarter_13 rfl (lv_at hl 1 rfl) ?_
    refine lv_bipush (v := (100 : Int32)) hx hb dX10_quarter_14 (by decide) ?_
    refine lv_iload_n hx hb dX10_quarter_16 rfl (lv_at hl 2 rfl) ?_
    refine lv_imul hx hb dX10_quarter_17 ?_
    refine lv_topi (fun z4 ez4 => ?_)
    have hv := nm_s ez4 hv
    refine va_put (D := E.1) (ci := 4) (v := .int z4) (ty := .int) (C := RX10) (T := TX10) (N := 18) hx hb ht i_X10 tyX10 tyX10_ok nmX10 hown hK hP hD hS 0 rfl rfl 6 (by decide) (ht _ kw_4_140) (fun _ h9 => h9) rfl (by decide +kernel) rfl rfl (Nat.le_of_ble_eq_true rfl) dX10_quarter_18 (fun H locs hP hD hS => ?_)
    have hP : va_P E.1 vwCl [oMo o_h o_a0 o_a1 o_a2 o_a3 o_hasImage o_place z4 o_rowEnd o_a8 o_a9 o_seed o_a11 o_a12 o_a13 o_a14 o_a15 o_a16 o_thrown, ai E o_a0 42 o_s, ai E o_a1 42 o_m, ai E o_a2 42 o_image, ai E o_a3 42 o_was, ai E o_a8 3 o_numbers, ai E o_a9 8192 o_most, ai E o_a11 8 o_kept, ai E o_a12 8 o_keptKind, ai E o_a13 8 o_keptFigure, ai E o_a14 8 o_sort, ai E o_a15 8 o_size, ai E o_a16 800 o_element] H := hP
    have hD : va_D A [oMo o_h o_a0 o_a1 o_a2 o_a3 o_hasImage o_place z4 o_rowEnd o_a8 o_a9 o_seed o_a11 o_a12 o_a13 o_a14 o_a15 o_a16 o_thrown, ai E o_a0 42 o_s, ai E o_a1 42 o_m, ai E o_a2 42 o_image, ai E o_a3 42 o_was, ai E o_a8 3 o_numbers, ai E o_a9 8192 o_most, ai E o_a11 8 o_kept, ai E o_a12 8 o_keptKind, ai E o_a13 8 o_keptFigure, ai E o_a14 8 o_sort, ai E o_a15 8 o_size, ai E o_a16 800 o_element] := hD
    refine lv_aload_n hx hb dX10_quarter_21 rfl (lv_at hl 1 rfl) ?_
    refine lv_aload_n hx hb dX10_quarter_22 rfl (lv_at hl 1 rfl) ?_
    refine va_get (D := E.1) (ci := 4) (v := .ref o_a15) (C := RX10) (T := TX10) (N := 18) hx hb ht i_X10 hown hK hP 0 rfl rfl 15 (by decide) (ht _ kw_4_149) (fun _ h9 => h9) rfl dX10_quarter_23 ?_
    refine lv_iload_n hx hb dX10_quarter_26 rfl (lv_at hl 2 rfl) ?_
    obtain ⟨g5, hv⟩ := gd_s hv
    refine va_iald hx hb hK hP 11 0 rfl rfl (ix_s g5) dX10_quarter_27 ?_
    refine lv_topi (fun z6 ez6 => ?_)
    have hv := nm_s ez6 hv
    refine va_put (D := E.1) (ci := 4) (v := .int z6) (ty := .int) (C := RX10) (T := TX10) (N := 18) hx hb ht i_X10 tyX10 tyX10_ok nmX10 hown hK hP hD hS 0 rfl rfl 7 (by decide) (ht _ kw_4_141) (fun _ h9 => h9) rfl (by decide +kernel) rfl rfl (Nat.le_of_ble_eq_true rfl) dX10_quarter_28 (fun H locs hP hD hS => ?_)
    have hP : va_P E.1 vwCl [oMo o_h o_a0 o_a1 o_a2 o_a3 o_hasImage o_place z4 z6 o_a8 o_a9 o_seed o_a11 o_a12 o_a13 o_a14 o_a15 o_a16 o_thrown, ai E o_a0 42 o_s, ai E o_a1 42 o_m, ai E o_a2 42 o_image, ai E o_a3 42 o_was, ai E o_a8 3 o_numbers, ai E o_a9 8192 o_most, ai E o_a11 8 o_kept, ai E o_a12 8 o_keptKind, ai E o_a13 8 o_keptFigure, ai E o_a14 8 o_sort, ai E o_a15 8 o_size, ai E o_a16 800 o_element] H := hP
    have hD : va_D A [oMo o_h o_a0 o_a1 o_a2 o_a3 o_hasImage o_place z4 z6 o_a8 o_a9 o_seed o_a11 o_a12 o_a13 o_a14 o_a15 o_a16 o_thrown, ai E o_a0 42 o_s, ai E o_a1 42 o_m, ai E o_a2 42 o_image, ai E o_a3 42 o_was, ai E o_a8 3 o_numbers, ai E o_a9 8192 o_most, ai E o_a11 8 o_kept, ai E o_a12 8 o_keptKind, ai E o_a13 8 o_keptFigure, ai E o_a14 8 o_sort, ai E o_a15 8 o_size, ai E o_a16 800 o_element] := hD
    refine lv_aload_n hx hb dX10_quarter_31 rfl (lv_at hl 1 rfl) ?_
    refine lv_iconst (v := (0 : Int32)) hx hb dX10_quarter_32 (by decide) ?_
    refine va_put (D := E.1) (ci := 4) (v := .int (0 : Int32)) (ty := .int) (C := RX10) (T := TX10) (N := 18) hx hb ht i_X10 tyX10 tyX10_ok nmX10 hown hK hP hD hS 0 rfl rfl 5 (by decide) (ht _ kw_4_139) (fun _ h9 => h9) rfl (by decide +kernel) rfl rfl (Nat.le_of_ble_eq_true rfl) dX10_quarter_33 (fun H locs hP hD hS => ?_)
    have hP : va_P E.1 vwCl [oMo o_h o_a0 o_a1 o_a2 o_a3 o_hasImage (0 : Int32) z4 z6 o_a8 o_a9 o_seed o_a11 o_a12 o_a13 o_a14 o_a15 o_a16 o_thrown, ai E o_a0 42 o_s, ai E o_a1 42 o_m, ai E o_a2 42 o_image, ai E o_a3 42 o_was, ai E o_a8 3 o_numbers, ai E o_a9 8192 o_most, ai E o_a11 8 o_kept, ai E o_a12 8 o_keptKind, ai E o_a13 8 o_keptFigure, ai E o_a14 8 o_sort, ai E o_a15 8 o_size, ai E o_a16 800 o_element] H := hP
    have hD : va_D A [oMo o_h o_a0 o_a1 o_a2 o_a3 o_hasImage (0 : Int32) z4 z6 o_a8 o_a9 o_seed o_a11 o_a12 o_a13 o_a14 o_a15 o_a16 o_thrown, ai E o_a0 42 o_s, ai E o_a1 42 o_m, ai E o_a2 42 o_image, ai E o_a3 42 o_was, ai E o_a8 3 o_numbers, ai E o_a9 8192 o_most, ai E o_a11 8 o_kept, ai E o_a12 8 o_keptKind, ai E o_a13 8 o_keptFigure, ai E o_a14 8 o_sort, ai E o_a15 8 o_size, ai E o_a16 800 o_element] := hD
    refine lv_iconst (v := (0 : Int32)) hx hb dX10_quarter_36 (by decide) ?_
    refine lv_istore_n (lv' := [(3, .int (0 : Int32)), (2, .int r1), (0, .ref o_h), (1, .int p1)]) hx hb dX10_quarter_37 rfl hl (by decide) rfl (fun ls hl => ?_)
    refine lv_iconst (v := (0 : Int32)) hx hb dX10_quarter_38 (by decide) ?_
    refine lv_istore (lv' := [(4, .int (0 : Int32)), (3, .int (0 : Int32)), (2, .int r1), (0, .ref o_h), (1, .int p1)]) hx hb dX10_quarter_39 hl (by decide) rfl (fun ls hl => ?_)
    have hL41 : ∀ (n : Nat) (x7 : Int32) (x8 : Int32) (y9 : Int32) (y10 : Nat → Int32) (H : Heap) (locs : List Loc) (ls : Array Slot), va_P E.1 vwCl [oMo o_h o_a0 o_a1 o_a2 o_a3 o_hasImage y9 z4 z6 o_a8 o_a9 o_seed o_a11 o_a12 o_a13 o_a14 o_a15 o_a16 o_thrown, ai E o_a0 42 o_s, ai E o_a1 42 o_m, ai E o_a2 42 o_image, ai E o_a3 42 o_was, ai E o_a8 3 y10, ai E o_a9 8192 o_most, ai E o_a11 8 o_kept, ai E o_a12 8 o_keptKind, ai E o_a13 8 o_keptFigure, ai E o_a14 8 o_sort, ai E o_a15 8 o_size, ai E o_a16 800 o_element] H → va_D A [oMo o_h o_a0 o_a1 o_a2 o_a3 o_hasImage y9 z4 z6 o_a8 o_a9 o_seed o_a11 o_a12 o_a13 o_a14 o_a15 o_a16 o_thrown, ai E o_a0 42 o_s, ai E o_a1 42 o_m, ai E o_a2 42 o_image, ai E o_a3 42 o_was, ai E o_a8 3 y10, ai E o_a9 8192 o_most, ai E o_a11 8 o_kept, ai E o_a12 8 o_keptKind, ai E o_a13 8 o_keptFigure, ai E o_a14 8 o_sort, ai E o_a15 8 o_size, ai E o_a16 800 o_element] → va_S A s.heap H locs → lv_has ls 8 [(4, .int x7), (3, .int x8), (0, .ref o_h)] → L_X10_quarter_41 N o_s o_was o_element z4 z6 n x7 x8 y9 y10 = some (res, w_o_place, w_o_rowAt, w_o_rowEnd, w_o_s, w_o_was, w_o_numbers) → W p l e ({ frames := 7, cells := 0, slots := 0, locals := 156 }) s m [.ref o_h, .int p1].toArray below meth c H locs 0 0 (MQ below (fun _ st oc t => oc = .returned (some (.int res)) ∧ va_P E.1 vwCl [oMo o_h o_a0 o_a1 o_a2 o_a3 o_hasImage w_o_place w_o_rowAt w_o_rowEnd o_a8 o_a9 o_seed o_a11 o_a12 o_a13 o_a14 o_a15 o_a16 o_thrown, ai E o_a0 42 w_o_s, ai E o_a1 42 o_m, ai E o_a2 42 o_image, ai E o_a3 42 w_o_was, ai E o_a8 3 w_o_numbers, ai E o_a9 8192 o_most, ai E o_a11 8 o_kept, ai E o_a12 8 o_keptKind, ai E o_a13 8 o_keptFigure, ai E o_a14 8 o_sort, ai E o_a15 8 o_size, ai E o_a16 800 o_element] t.heap ∧ va_F A st t) [.ref o_h, .int p1].toArray s 0 0 A) (F0 m 41 ls []) := by
      intro n
      induction n with
      | zero => intro x7 x8 y9 y10 H locs ls hP hD hS hl hv; cases hv
      | succ n41 ih41 =>
        intro x7 x8 y9 y10 H locs ls hP hD hS hl hv
        rw [L_X10_quarter_41] at hv
        refine lv_aload_n hx hb dX10_quarter_41 rfl (lv_at hl 2 rfl) ?_
        obtain ⟨⟨r11, y12, y13⟩, h14, hv⟩ := ob_s hv
        refine wrV (as := [o_h, o_a0, o_a1, o_a2, o_a3, o_a8, o_a9, o_a11, o_a12, o_a13, o_a14, o_a15, o_a16]) (wr := []) [0, 1, 2, 3, 4, 5, 6, 7, 8, 9, 10, 11, 12] [] 4 0 (ws := [oMo o_h o_a0 o_a1 o_a2 o_a3 o_hasImage y9 z4 z6 o_a8 o_a9 o_seed o_a11 o_a12 o_a13 o_a14 o_a15 o_a16 o_thrown, ai E o_a0 42 o_s, ai E o_a1 42 o_m, ai E o_a2 42 o_image, ai E o_a3 42 o_was, ai E o_a8 3 y10, ai E o_a9 8192 o_most, ai E o_a11 8 o_kept, ai E o_a12 8 o_keptKind, ai E o_a13 8 o_keptFigure, ai E o_a14 8 o_sort, ai E o_a15 8 o_size, ai E o_a16 800 o_element]) (ws' := [oMo o_h o_a0 o_a1 o_a2 o_a3 o_hasImage y12 z4 z6 o_a8 o_a9 o_seed o_a11 o_a12 o_a13 o_a14 o_a15 o_a16 o_thrown, ai E o_a0 42 o_s, ai E o_a1 42 o_m, ai E o_a2 42 o_image, ai E o_a3 42 o_was, ai E o_a8 3 y13, ai E o_a9 8192 o_most, ai E o_a11 8 o_kept, ai E o_a12 8 o_keptKind, ai E o_a13 8 o_keptFigure, ai E o_a14 8 o_sort, ai E o_a15 8 o_size, ai E o_a16 800 o_element]) (As := []) (rest := []) (st1 := [.int r11]) hC q_X10_readsStatement kw_4_203 (c_X10_readsStatement l E o_h o_a0 o_a1 o_a2 o_a3 o_a8 o_a9 o_a11 o_a12 o_a13 o_a14 o_a15 o_a16 o_s o_m o_image o_was o_hasImage y9 z4 z6 y10 o_most o_seed o_kept o_keptKind o_keptFigure o_sort o_size o_element o_thrown N r11 y12 y13 h14) ⟨rfl, rfl⟩ ⟨Nat.le_of_ble_eq_true rfl, Nat.le_of_ble_eq_true rfl⟩ ⟨Nat.zero_le _, Nat.zero_le _⟩ hP hD hS hA rfl rfl rfl hG (by decide) rfl rfl rfl rfl rfl rfl rfl rfl hl.1 rfl (Nat.le_of_ble_eq_true rfl) dX10_quarter_42 rfl (fun H locs hP hD hS => ?_)
        refine lv_if_ne (tgt := 58) hx hb dX10_quarter_45 (by decide) (fun c15 => ?_) (fun c15 => ?_)
        · have hv := if_n c15 hv
          refine lv_iinc (v := (x8 + (1 : Int32))) (lv' := [(3, .int (x8 + (1 : Int32))), (4, .int x7), (0, .ref o_h)]) hx hb dX10_quarter_58 hl (k := 1) rfl rfl (by decide) rfl (fun ls hl => ?_)
          refine lv_iload hx hb dX10_quarter_61 (lv_at hl 1 rfl) ?_
          refine lv_if_ne (tgt := 77) hx hb dX10_quarter_63 (by decide) (fun c16 => ?_) (fun c16 => ?_)
          · have hv := if_n c16 hv
            refine lv_aload_n hx hb dX10_quarter_77 rfl (lv_at hl 2 rfl) ?_
            refine va_get (D := E.1) (ci := 4) (v := .ref o_a0) (C := RX10) (T := TX10) (N := 18) hx hb ht i_X10 hown hK hP 0 rfl rfl 0 (by decide) (ht _ kw_4_134) (fun _ h9 => h9) rfl dX10_quarter_78 ?_
            refine lv_aload_n hx hb dX10_quarter_81 rfl (lv_at hl 2 rfl) ?_
            refine va_get (D := E.1) (ci := 4) (v := .ref o_a3) (C := RX10) (T := TX10) (N := 18) hx hb ht i_X10 hown hK hP 0 rfl rfl 3 (by decide) (ht _ kw_4_137) (fun _ h9 => h9) rfl dX10_quarter_82 ?_
            obtain ⟨y17, h18, hv⟩ := ob_s hv
            refine wrS (as := [o_h, o_a0, o_a1, o_a2, o_a3, o_a8, o_a9, o_a11, o_a12, o_a13, o_a14, o_a15, o_a16]) (wr := [oMo o_h o_a0 o_a1 o_a2 o_a3 o_hasImage y12 z4 z6 o_a8 o_a9 o_seed o_a11 o_a12 o_a13 o_a14 o_a15 o_a16 o_thrown, ai E o_a1 42 o_m, ai E o_a2 42 o_image, ai E o_a8 3 y13, ai E o_a9 8192 o_most, ai E o_a11 8 o_kept, ai E o_a12 8 o_keptKind, ai E o_a13 8 o_keptFigure, ai E o_a14 8 o_sort, ai E o_a15 8 o_size, ai E o_a16 800 o_element]) [1, 4] [0, 2, 3, 5, 6, 7, 8, 9, 10, 11, 12] (ws := [oMo o_h o_a0 o_a1 o_a2 o_a3 o_hasImage y12 z4 z6 o_a8 o_a9 o_seed o_a11 o_a12 o_a13 o_a14 o_a15 o_a16 o_thrown, ai E o_a0 42 o_s, ai E o_a1 42 o_m, ai E o_a2 42 o_image, ai E o_a3 42 o_was, ai E o_a8 3 y13, ai E o_a9 8192 o_most, ai E o_a11 8 o_kept, ai E o_a12 8 o_keptKind, ai E o_a13 8 o_keptFigure, ai E o_a14 8 o_sort, ai E o_a15 8 o_size, ai E o_a16 800 o_element]) (ws' := [oMo o_h o_a0 o_a1 o_a2 o_a3 o_hasImage y12 z4 z6 o_a8 o_a9 o_seed o_a11 o_a12 o_a13 o_a14 o_a15 o_a16 o_thrown, ai E o_a0 42 o_s, ai E o_a1 42 o_m, ai E o_a2 42 o_image, ai E o_a3 42 y17, ai E o_a8 3 y13, ai E o_a9 8192 o_most, ai E o_a11 8 o_kept, ai E o_a12 8 o_keptKind, ai E o_a13 8 o_keptFigure, ai E o_a14 8 o_sort, ai E o_a15 8 o_size, ai E o_a16 800 o_element]) (rest := []) (st1 := []) hC q_X10_copies kw_4_215 (c_X10_copies l E o_a0 o_a3 o_s o_was N y17 h18) ⟨rfl, rfl⟩ ⟨Nat.le_of_ble_eq_true rfl, Nat.le_of_ble_eq_true rfl⟩ ⟨Nat.zero_le _, Nat.zero_le _⟩ hP hD hS hA hG (by decide) rfl rfl rfl rfl rfl rfl rfl rfl hl.1 rfl (Nat.le_of_ble_eq_true rfl) dX10_quarter_85 rfl (fun H locs hP hD hS => ?_)
            refine lv_aload_n hx hb dX10_quarter_88 rfl (lv_at hl 2 rfl) ?_
            refine lv_iconst (v := (0 : Int32)) hx hb dX10_quarter_89 (by decide) ?_
            refine va_put (D := E.1) (ci := 4) (v := .int (0 : Int32)) (ty := .int) (C := RX10) (T := TX10) (N := 18) hx hb ht i_X10 tyX10 tyX10_ok nmX10 hown hK hP hD hS 0 rfl rfl 5 (by decide) (ht _ kw_4_139) (fun _ h9 => h9) rfl (by decide +kernel) rfl rfl (Nat.le_of_ble_eq_true rfl) dX10_quarter_90 (fun H locs hP hD hS => ?_)
            have hP : va_P E.1 vwCl [oMo o_h o_a0 o_a1 o_a2 o_a3 o_hasImage (0 : Int32) z4 z6 o_a8 o_a9 o_seed o_a11 o_a12 o_a13 o_a14 o_a15 o_a16 o_thrown, ai E o_a0 42 o_s, ai E o_a1 42 o_m, ai E o_a2 42 o_image, ai E o_a3 42 y17, ai E o_a8 3 y13, ai E o_a9 8192 o_most, ai E o_a11 8 o_kept, ai E o_a12 8 o_keptKind, ai E o_a13 8 o_keptFigure, ai E o_a14 8 o_sort, ai E o_a15 8 o_size, ai E o_a16 800 o_element] H := hP
            have hD : va_D A [oMo o_h o_a0 o_a1 o_a2 o_a3 o_hasImage (0 : Int32) z4 z6 o_a8 o_a9 o_seed o_a11 o_a12 o_a13 o_a14 o_a15 o_a16 o_thrown, ai E o_a0 42 o_s, ai E o_a1 42 o_m, ai E o_a2 42 o_image, ai E o_a3 42 y17, ai E o_a8 3 y13, ai E o_a9 8192 o_most, ai E o_a11 8 o_kept, ai E o_a12 8 o_keptKind, ai E o_a13 8 o_keptFigure, ai E o_a14 8 o_sort, ai E o_a15 8 o_size, ai E o_a16 800 o_element] := hD
            have hL93 : ∀ (n : Nat) (x19 : Int32) (y20 : Int32) (y21 : Nat → Int32) (y22 : Nat → Int32) (H : Heap) (locs : List Loc) (ls : Array Slot), va_P E.1 vwCl [oMo o_h o_a0 o_a1 o_a2 o_a3 o_hasImage y20 z4 z6 o_a8 o_a9 o_seed o_a11 o_a12 o_a13 o_a14 o_a15 o_a16 o_thrown, ai E o_a0 42 y21, ai E o_a1 42 o_m, ai E o_a2 42 o_image, ai E o_a3 42 y17, ai E o_a8 3 y22, ai E o_a9 8192 o_most, ai E o_a11 8 o_kept, ai E o_a12 8 o_keptKind, ai E o_a13 8 o_keptFigure, ai E o_a14 8 o_sort, ai E o_a15 8 o_size, ai E o_a16 800 o_element] H → va_D A [oMo o_h o_a0 o_a1 o_a2 o_a3 o_hasImage y20 z4 z6 o_a8 o_a9 o_seed o_a11 o_a12 o_a13 o_a14 o_a15 o_a16 o_thrown, ai E o_a0 42 y21, ai E o_a1 42 o_m, ai E o_a2 42 o_image, ai E o_a3 42 y17, ai E o_a8 3 y22, ai E o_a9 8192 o_most, ai E o_a11 8 o_kept, ai E o_a12 8 o_keptKind, ai E o_a13 8 o_keptFigure, ai E o_a14 8 o_sort, ai E o_a15 8 o_size, ai E o_a16 800 o_element] → va_S A s.heap H locs → lv_has ls 8 [(3, .int (x8 + (1 : Int32))), (4, .int x19), (0, .ref o_h)] → L_X10_quarter_93 N o_element z4 z6 x8 y17 n x19 y20 y21 y22 = some (res, w_o_place, w_o_rowAt, w_o_rowEnd, w_o_s, w_o_was, w_o_numbers) → W p l e ({ frames := 7, cells := 0, slots := 0, locals := 156 }) s m [.ref o_h, .int p1].toArray below meth c H locs 0 0 (MQ below (fun _ st oc t => oc = .returned (some (.int res)) ∧ va_P E.1 vwCl [oMo o_h o_a0 o_a1 o_a2 o_a3 o_hasImage w_o_place w_o_rowAt w_o_rowEnd o_a8 o_a9 o_seed o_a11 o_a12 o_a13 o_a14 o_a15 o_a16 o_thrown, ai E o_a0 42 w_o_s, ai E o_a1 42 o_m, ai E o_a2 42 o_image, ai E o_a3 42 w_o_was, ai E o_a8 3 w_o_numbers, ai E o_a9 8192 o_most, ai E o_a11 8 o_kept, ai E o_a12 8 o_keptKind, ai E o_a13 8 o_keptFigure, ai E o_a14 8 o_sort, ai E o_a15 8 o_size, ai E o_a16 800 o_element] t.heap ∧ va_F A st t) [.ref o_h, .int p1].toArray s 0 0 A) (F0 m 93 ls []) := by
              intro n
              induction n with
              | zero => intro x19 y20 y21 y22 H locs ls hP hD hS hl hv; cases hv
              | succ n93 ih93 =>
                intro x19 y20 y21 y22 H locs ls hP hD hS hl hv
                rw [L_X10_quarter_93] at hv
                refine lv_iload hx hb dX10_quarter_93 (lv_at hl 1 rfl) ?_
                refine lv_if_ne (tgt := 161) hx hb dX10_quarter_95 (by decide) (fun c23 => ?_) (fun c23 => ?_)
                · have hv := if_n c23 hv
                  refine lv_iload hx hb dX10_quarter_161 (lv_at hl 1 rfl) ?_
                  refine lv_if_ne (tgt := 170) hx hb dX10_quarter_163 (by decide) (fun c24 => ?_) (fun c24 => ?_)
                  · have hv := if_n c24 hv
                    refine lv_iload hx hb dX10_quarter_170 (lv_at hl 1 rfl) ?_
                    cases hv
                    exact W.iret hx hb hr (fun t h9 _ => ⟨rfl, by rw [h9]; exact hP, hS.F h9⟩) hS.2.2 dX10_quarter_172 hlk
                  · have hv := if_y c24 hv
                    refine lv_iload_n hx hb dX10_quarter_166 rfl (lv_at hl 0 rfl) ?_
                    refine lv_goto (tgt := 172) hx hb dX10_quarter_167 (by decide) ?_
                    refine lv_topi (fun z25 ez25 => ?_)
                    have hv := nm_s ez25 hv
                    cases hv
                    exact W.iret hx hb hr (fun t h9 _ => ⟨rfl, by rw [h9]; exact hP, hS.F h9⟩) hS.2.2 dX10_quarter_172 hlk
                · have hv := if_y c23 hv
                  refine lv_aload_n hx hb dX10_quarter_98 rfl (lv_at hl 2 rfl) ?_
                  refine va_get (D := E.1) (ci := 4) (v := .int y20) (C := RX10) (T := TX10) (N := 18) hx hb ht i_X10 hown hK hP 0 rfl rfl 5 (by decide) (ht _ kw_4_139) (fun _ h9 => h9) rfl dX10_quarter_99 ?_
                  refine lv_aload_n hx hb dX10_quarter_102 rfl (lv_at hl 2 rfl) ?_
                  refine va_get (D := E.1) (ci := 4) (v := .int z6) (C := RX10) (T := TX10) (N := 18) hx hb ht i_X10 hown hK hP 0 rfl rfl 7 (by decide) (ht _ kw_4_141) (fun _ h9 => h9) rfl dX10_quarter_103 ?_
                  refine lv_icmp_ge (tgt := 161) hx hb dX10_quarter_106 (by decide) (fun c26 => ?_) (fun c26 => ?_)
                  · have hv := if_y c26 hv
                    refine lv_iload hx hb dX10_quarter_161 (lv_at hl 1 rfl) ?_
                    refine lv_if_ne (tgt := 170) hx hb dX10_quarter_163 (by decide) (fun c27 => ?_) (fun c27 => ?_)
                    · have hv := if_n c27 hv
                      refine lv_iload hx hb dX10_quarter_170 (lv_at hl 1 rfl) ?_
                      cases hv
                      exact W.iret hx hb hr (fun t h9 _ => ⟨rfl, by rw [h9]; exact hP, hS.F h9⟩) hS.2.2 dX10_quarter_172 hlk
                    · have hv := if_y c27 hv
                      refine lv_iload_n hx hb dX10_quarter_166 rfl (lv_at hl 0 rfl) ?_
                      refine lv_goto (tgt := 172) hx hb dX10_quarter_167 (by decide) ?_
                      refine lv_topi (fun z28 ez28 => ?_)
                      have hv := nm_s ez28 hv
                      cases hv
                      exact W.iret hx hb hr (fun t h9 _ => ⟨rfl, by rw [h9]; exact hP, hS.F h9⟩) hS.2.2 dX10_quarter_172 hlk
                  · have hv := if_n c26 hv
                    refine lv_aload_n hx hb dX10_quarter_109 rfl (lv_at hl 2 rfl) ?_
                    refine va_get (D := E.1) (ci := 4) (v := .int y20) (C := RX10) (T := TX10) (N := 18) hx hb ht i_X10 hown hK hP 0 rfl rfl 5 (by decide) (ht _ kw_4_139) (fun _ h9 => h9) rfl dX10_quarter_110 ?_
                    refine lv_istore (lv' := [(5, .int y20), (3, .int (x8 + (1 : Int32))), (4, .int x19), (0, .ref o_h)]) hx hb dX10_quarter_113 hl (by decide) rfl (fun ls hl => ?_)
                    refine lv_aload_n hx hb dX10_quarter_115 rfl (lv_at hl 3 rfl) ?_
                    obtain ⟨r29, h30, hv⟩ := ob_s hv
                    refine rdV 4 0 (As := []) (rest := []) (st1 := [.int r29]) (w := [oMo o_h o_a0 o_a1 o_a2 o_a3 o_hasImage y20 z4 z6 o_a8 o_a9 o_seed o_a11 o_a12 o_a13 o_a14 o_a15 o_a16 o_thrown, ai E o_a0 42 y21, ai E o_a1 42 o_m, ai E o_a2 42 o_image, ai E o_a3 42 y17, ai E o_a8 3 y22, ai E o_a9 8192 o_most, ai E o_a11 8 o_kept, ai E o_a12 8 o_keptKind, ai E o_a13 8 o_keptFigure, ai E o_a14 8 o_sort, ai E o_a15 8 o_size, ai E o_a16 800 o_element]) hC q_X10_here kw_4_207 (c_X10_here l E o_h o_a0 o_a1 o_a2 o_a3 o_a8 o_a9 o_a11 o_a12 o_a13 o_a14 o_a15 o_a16 y21 o_m o_image y17 o_hasImage y20 z4 z6 y22 o_most o_seed o_kept o_keptKind o_keptFigure o_sort o_size o_element o_thrown r29 h30) ⟨rfl, rfl⟩ ⟨Nat.le_of_ble_eq_true rfl, Nat.le_of_ble_eq_true rfl⟩ ⟨Nat.zero_le _, Nat.zero_le _⟩ hP rfl rfl rfl hG rfl hl.1 rfl (Nat.le_of_ble_eq_true rfl) dX10_quarter_116 rfl ?_
                    refine lv_istore (lv' := [(6, .int r29), (5, .int y20), (3, .int (x8 + (1 : Int32))), (4, .int x19), (0, .ref o_h)]) hx hb dX10_quarter_119 hl (by decide) rfl (fun ls hl => ?_)
                    refine lv_aload_n hx hb dX10_quarter_121 rfl (lv_at hl 4 rfl) ?_
                    obtain ⟨⟨r31, y32, y33⟩, h34, hv⟩ := ob_s hv
                    refine wrV (as := [o_h, o_a0, o_a1, o_a2, o_a3, o_a8, o_a9, o_a11, o_a12, o_a13, o_a14, o_a15, o_a16]) (wr := []) [0, 1, 2, 3, 4, 5, 6, 7, 8, 9, 10, 11, 12] [] 4 0 (ws := [oMo o_h o_a0 o_a1 o_a2 o_a3 o_hasImage y20 z4 z6 o_a8 o_a9 o_seed o_a11 o_a12 o_a13 o_a14 o_a15 o_a16 o_thrown, ai E o_a0 42 y21, ai E o_a1 42 o_m, ai E o_a2 42 o_image, ai E o_a3 42 y17, ai E o_a8 3 y22, ai E o_a9 8192 o_most, ai E o_a11 8 o_kept, ai E o_a12 8 o_keptKind, ai E o_a13 8 o_keptFigure, ai E o_a14 8 o_sort, ai E o_a15 8 o_size, ai E o_a16 800 o_element]) (ws' := [oMo o_h o_a0 o_a1 o_a2 o_a3 o_hasImage y32 z4 z6 o_a8 o_a9 o_seed o_a11 o_a12 o_a13 o_a14 o_a15 o_a16 o_thrown, ai E o_a0 42 y21, ai E o_a1 42 o_m, ai E o_a2 42 o_image, ai E o_a3 42 y17, ai E o_a8 3 y33, ai E o_a9 8192 o_most, ai E o_a11 8 o_kept, ai E o_a12 8 o_keptKind, ai E o_a13 8 o_keptFigure, ai E o_a14 8 o_sort, ai E o_a15 8 o_size, ai E o_a16 800 o_element]) (As := []) (rest := []) (st1 := [.int r31]) hC q_X10_readsStatement kw_4_203 (c_X10_readsStatement l E o_h o_a0 o_a1 o_a2 o_a3 o_a8 o_a9 o_a11 o_a12 o_a13 o_a14 o_a15 o_a16 y21 o_m o_image y17 o_hasImage y20 z4 z6 y22 o_most o_seed o_kept o_keptKind o_keptFigure o_sort o_size o_element o_thrown N r31 y32 y33 h34) ⟨rfl, rfl⟩ ⟨Nat.le_of_ble_eq_true rfl, Nat.le_of_ble_eq_true rfl⟩ ⟨Nat.zero_le _, Nat.zero_le _⟩ hP hD hS hA rfl rfl rfl hG (by decide) rfl rfl rfl rfl rfl rfl rfl rfl hl.1 rfl (Nat.le_of_ble_eq_true rfl) dX10_quarter_122 rfl (fun H locs hP hD hS => ?_)
                    refine lv_istore (lv' := [(7, .int r31), (6, .int r29), (5, .int y20), (3, .int (x8 + (1 : Int32))), (4, .int x19), (0, .ref o_h)]) hx hb dX10_quarter_125 hl (by decide) rfl (fun ls hl => ?_)
                    refine lv_aload_n hx hb dX10_quarter_127 rfl (lv_at hl 5 rfl) ?_
                    refine lv_iload hx hb dX10_quarter_128 (lv_at hl 1 rfl) ?_
                    obtain ⟨⟨r35, y36⟩, h37, hv⟩ := ob_s hv
                    refine wrV (as := [o_h, o_a0, o_a1, o_a2, o_a3, o_a8, o_a9, o_a11, o_a12, o_a13, o_a14, o_a15, o_a16]) (wr := []) [0, 1, 2, 3, 4, 5, 6, 7, 8, 9, 10, 11, 12] [] 4 0 (ws := [oMo o_h o_a0 o_a1 o_a2 o_a3 o_hasImage y32 z4 z6 o_a8 o_a9 o_seed o_a11 o_a12 o_a13 o_a14 o_a15 o_a16 o_thrown, ai E o_a0 42 y21, ai E o_a1 42 o_m, ai E o_a2 42 o_image, ai E o_a3 42 y17, ai E o_a8 3 y33, ai E o_a9 8192 o_most, ai E o_a11 8 o_kept, ai E o_a12 8 o_keptKind, ai E o_a13 8 o_keptFigure, ai E o_a14 8 o_sort, ai E o_a15 8 o_size, ai E o_a16 800 o_element]) (ws' := [oMo o_h o_a0 o_a1 o_a2 o_a3 o_hasImage y32 z4 z6 o_a8 o_a9 o_seed o_a11 o_a12 o_a13 o_a14 o_a15 o_a16 o_thrown, ai E o_a0 42 y36, ai E o_a1 42 o_m, ai E o_a2 42 o_image, ai E o_a3 42 y17, ai E o_a8 3 y33, ai E o_a9 8192 o_most, ai E o_a11 8 o_kept, ai E o_a12 8 o_keptKind, ai E o_a13 8 o_keptFigure, ai E o_a14 8 o_sort, ai E o_a15 8 o_size, ai E o_a16 800 o_element]) (As := [.int r29]) (rest := []) (st1 := [.int r35]) hC q_X10_isDone kw_4_218 (c_X10_isDone l E o_h o_a0 o_a1 o_a2 o_a3 o_a8 o_a9 o_a11 o_a12 o_a13 o_a14 o_a15 o_a16 y21 o_m o_image y17 o_hasImage y32 z4 z6 y33 o_most o_seed o_kept o_keptKind o_keptFigure o_sort o_size o_element o_thrown r29 N r35 y36 h37) ⟨rfl, rfl⟩ ⟨Nat.le_of_ble_eq_true rfl, Nat.le_of_ble_eq_true rfl⟩ ⟨Nat.zero_le _, Nat.zero_le _⟩ hP hD hS hA rfl rfl rfl hG (by decide) rfl rfl rfl rfl rfl rfl rfl rfl hl.1 rfl (Nat.le_of_ble_eq_true rfl) dX10_quarter_130 rfl (fun H locs hP hD hS => ?_)
                    refine lv_if_eq (tgt := 139) hx hb dX10_quarter_133 (by decide) (fun c38 => ?_) (fun c38 => ?_)
                    · have hv := if_y c38 hv
                      refine lv_sipush (v := (-2000 : Int32)) hx hb dX10_quarter_139 (by decide) ?_
                      refine lv_iload hx hb dX10_quarter_142 (lv_at hl 2 rfl) ?_
                      refine lv_isub hx hb dX10_quarter_144 ?_
                      refine lv_istore (lv' := [(4, .int ((-2000 : Int32) - y20)), (7, .int r31), (6, .int r29), (5, .int y20), (3, .int (x8 + (1 : Int32))), (0, .ref o_h)]) hx hb dX10_quarter_145 hl (by decide) rfl (fun ls hl => ?_)
                      refine lv_aload_n hx hb dX10_quarter_147 rfl (lv_at hl 5 rfl) ?_
                      refine va_get (D := E.1) (ci := 4) (v := .ref o_a3) (C := RX10) (T := TX10) (N := 18) hx hb ht i_X10 hown hK hP 0 rfl rfl 3 (by decide) (ht _ kw_4_137) (fun _ h9 => h9) rfl dX10_quarter_148 ?_
                      refine lv_aload_n hx hb dX10_quarter_151 rfl (lv_at hl 5 rfl) ?_
                      refine va_get (D := E.1) (ci := 4) (v := .ref o_a0) (C := RX10) (T := TX10) (N := 18) hx hb ht i_X10 hown hK hP 0 rfl rfl 0 (by decide) (ht _ kw_4_134) (fun _ h9 => h9) rfl dX10_quarter_152 ?_
                      obtain ⟨y39, h40, hv⟩ := ob_s hv
                      refine wrS (as := [o_h, o_a0, o_a1, o_a2, o_a3, o_a8, o_a9, o_a11, o_a12, o_a13, o_a14, o_a15, o_a16]) (wr := [oMo o_h o_a0 o_a1 o_a2 o_a3 o_hasImage y32 z4 z6 o_a8 o_a9 o_seed o_a11 o_a12 o_a13 o_a14 o_a15 o_a16 o_thrown, ai E o_a1 42 o_m, ai E o_a2 42 o_image, ai E o_a8 3 y33, ai E o_a9 8192 o_most, ai E o_a11 8 o_kept, ai E o_a12 8 o_keptKind, ai E o_a13 8 o_keptFigure, ai E o_a14 8 o_sort, ai E o_a15 8 o_size, ai E o_a16 800 o_element]) [4, 1] [0, 2, 3, 5, 6, 7, 8, 9, 10, 11, 12] (ws := [oMo o_h o_a0 o_a1 o_a2 o_a3 o_hasImage y32 z4 z6 o_a8 o_a9 o_seed o_a11 o_a12 o_a13 o_a14 o_a15 o_a16 o_thrown, ai E o_a0 42 y36, ai E o_a1 42 o_m, ai E o_a2 42 o_image, ai E o_a3 42 y17, ai E o_a8 3 y33, ai E o_a9 8192 o_most, ai E o_a11 8 o_kept, ai E o_a12 8 o_keptKind, ai E o_a13 8 o_keptFigure, ai E o_a14 8 o_sort, ai E o_a15 8 o_size, ai E o_a16 800 o_element]) (ws' := [oMo o_h o_a0 o_a1 o_a2 o_a3 o_hasImage y32 z4 z6 o_a8 o_a9 o_seed o_a11 o_a12 o_a13 o_a14 o_a15 o_a16 o_thrown, ai E o_a0 42 y39, ai E o_a1 42 o_m, ai E o_a2 42 o_image, ai E o_a3 42 y17, ai E o_a8 3 y33, ai E o_a9 8192 o_most, ai E o_a11 8 o_kept, ai E o_a12 8 o_keptKind, ai E o_a13 8 o_keptFigure, ai E o_a14 8 o_sort, ai E o_a15 8 o_size, ai E o_a16 800 o_element]) (rest := []) (st1 := []) hC q_X10_copies kw_4_215 (c_X10_copies l E o_a3 o_a0 y17 y36 N y39 h40) ⟨rfl, rfl⟩ ⟨Nat.le_of_ble_eq_true rfl, Nat.le_of_ble_eq_true rfl⟩ ⟨Nat.zero_le _, Nat.zero_le _⟩ hP hD hS hA hG (by decide) rfl rfl rfl rfl rfl rfl rfl rfl hl.1 rfl (Nat.le_of_ble_eq_true rfl) dX10_quarter_155 rfl (fun H locs hP hD hS => ?_)
                      refine lv_goto (tgt := 93) hx hb dX10_quarter_158 (by decide) ?_
                      exact ih93 ((-2000 : Int32) - y20) y32 y39 y33 _ _ _ hP hD hS (lv_sub hl [4, 0, 5] rfl) hv
                    · have hv := if_n c38 hv
                      refine lv_goto (tgt := 93) hx hb dX10_quarter_136 (by decide) ?_
                      exact ih93 x19 y32 y36 y33 _ _ _ hP hD hS (lv_sub hl [3, 4, 5] rfl) hv
            exact hL93 N x7 (0 : Int32) o_s y13 _ _ _ hP hD hS (lv_sub hl [0, 1, 2] rfl) hv
          · have hv := if_y c16 hv
            refine lv_aload_n hx hb dX10_quarter_66 rfl (lv_at hl 2 rfl) ?_
            refine va_get (D := E.1) (ci := 4) (v := .int y12) (C := RX10) (T := TX10) (N := 18) hx hb ht i_X10 hown hK hP 0 rfl rfl 5 (by decide) (ht _ kw_4_139) (fun _ h9 => h9) rfl dX10_quarter_67 ?_
            refine lv_aload_n hx hb dX10_quarter_70 rfl (lv_at hl 2 rfl) ?_
            refine va_get (D := E.1) (ci := 4) (v := .int z6) (C := RX10) (T := TX10) (N := 18) hx hb ht i_X10 hown hK hP 0 rfl rfl 7 (by decide) (ht _ kw_4_141) (fun _ h9 => h9) rfl dX10_quarter_71 ?_
            refine lv_icmp_lt (tgt := 41) hx hb dX10_quarter_74 (by decide) (fun c41 => ?_) (fun c41 => ?_)
            · have hv := if_y c41 hv
              exact ih41 x7 (x8 + (1 : Int32)) y12 y13 _ _ _ hP hD hS (lv_sub hl [1, 0, 2] rfl) hv
            · have hv := if_n c41 hv
              refine lv_aload_n hx hb dX10_quarter_77 rfl (lv_at hl 2 rfl) ?_
              refine va_get (D := E.1) (ci := 4) (v := .ref o_a0) (C := RX10) (T := TX10) (N := 18) hx hb ht i_X10 hown hK hP 0 rfl rfl 0 (by decide) (ht _ kw_4_134) (fun _ h9 => h9) rfl dX10_quarter_78 ?_
              refine lv_aload_n hx hb dX10_quarter_81 rfl (lv_at hl 2 rfl) ?_
              refine va_get (D := E.1) (ci := 4) (v := .ref o_a3) (C := RX10) (T := TX10) (N := 18) hx hb ht i_X10 hown hK hP 0 rfl rfl 3 (by decide) (ht _ kw_4_137) (fun _ h9 => h9) rfl dX10_quarter_82 ?_
              obtain ⟨y42, h43, hv⟩ := ob_s hv
              refine wrS (as := [o_h, o_a0, o_a1, o_a2, o_a3, o_a8, o_a9, o_a11, o_a12, o_a13, o_a14, o_a15, o_a16]) (wr := [oMo o_h o_a0 o_a1 o_a2 o_a3 o_hasImage y12 z4 z6 o_a8 o_a9 o_seed o_a11 o_a12 o_a13 o_a14 o_a15 o_a16 o_thrown, ai E o_a1 42 o_m, ai E o_a2 42 o_image, ai E o_a8 3 y13, ai E o_a9 8192 o_most, ai E o_a11 8 o_kept, ai E o_a12 8 o_keptKind, ai E o_a13 8 o_keptFigure, ai E o_a14 8 o_sort, ai E o_a15 8 o_size, ai E o_a16 800 o_element]) [1, 4] [0, 2, 3, 5, 6, 7, 8, 9, 10, 11, 12] (ws := [oMo o_h o_a0 o_a1 o_a2 o_a3 o_hasImage y12 z4 z6 o_a8 o_a9 o_seed o_a11 o_a12 o_a13 o_a14 o_a15 o_a16 o_thrown, ai E o_a0 42 o_s, ai E o_a1 42 o_m, ai E o_a2 42 o_image, ai E o_a3 42 o_was, ai E o_a8 3 y13, ai E o_a9 8192 o_most, ai E o_a11 8 o_kept, ai E o_a12 8 o_keptKind, ai E o_a13 8 o_keptFigure, ai E o_a14 8 o_sort, ai E o_a15 8 o_size, ai E o_a16 800 o_element]) (ws' := [oMo o_h o_a0 o_a1 o_a2 o_a3 o_hasImage y12 z4 z6 o_a8 o_a9 o_seed o_a11 o_a12 o_a13 o_a14 o_a15 o_a16 o_thrown, ai E o_a0 42 o_s, ai E o_a1 42 o_m, ai E o_a2 42 o_image, ai E o_a3 42 y42, ai E o_a8 3 y13, ai E o_a9 8192 o_most, ai E o_a11 8 o_kept, ai E o_a12 8 o_keptKind, ai E o_a13 8 o_keptFigure, ai E o_a14 8 o_sort, ai E o_a15 8 o_size, ai E o_a16 800 o_element]) (rest := []) (st1 := []) hC q_X10_copies kw_4_215 (c_X10_copies l E o_a0 o_a3 o_s o_was N y42 h43) ⟨rfl, rfl⟩ ⟨Nat.le_of_ble_eq_true rfl, Nat.le_of_ble_eq_true rfl⟩ ⟨Nat.zero_le _, Nat.zero_le _⟩ hP hD hS hA hG (by decide) rfl rfl rfl rfl rfl rfl rfl rfl hl.1 rfl (Nat.le_of_ble_eq_true rfl) dX10_quarter_85 rfl (fun H locs hP hD hS => ?_)
              refine lv_aload_n hx hb dX10_quarter_88 rfl (lv_at hl 2 rfl) ?_
              refine lv_iconst (v := (0 : Int32)) hx hb dX10_quarter_89 (by decide) ?_
              refine va_put (D := E.1) (ci := 4) (v := .int (0 : Int32)) (ty := .int) (C := RX10) (T := TX10) (N := 18) hx hb ht i_X10 tyX10 tyX10_ok nmX10 hown hK hP hD hS 0 rfl rfl 5 (by decide) (ht _ kw_4_139) (fun _ h9 => h9) rfl (by decide +kernel) rfl rfl (Nat.le_of_ble_eq_true rfl) dX10_quarter_90 (fun H locs hP hD hS => ?_)
              have hP : va_P E.1 vwCl [oMo o_h o_a0 o_a1 o_a2 o_a3 o_hasImage (0 : Int32) z4 z6 o_a8 o_a9 o_seed o_a11 o_a12 o_a13 o_a14 o_a15 o_a16 o_thrown, ai E o_a0 42 o_s, ai E o_a1 42 o_m, ai E o_a2 42 o_image, ai E o_a3 42 y42, ai E o_a8 3 y13, ai E o_a9 8192 o_most, ai E o_a11 8 o_kept, ai E o_a12 8 o_keptKind, ai E o_a13 8 o_keptFigure, ai E o_a14 8 o_sort, ai E o_a15 8 o_size, ai E o_a16 800 o_element] H := hP
              have hD : va_D A [oMo o_h o_a0 o_a1 o_a2 o_a3 o_hasImage (0 : Int32) z4 z6 o_a8 o_a9 o_seed o_a11 o_a12 o_a13 o_a14 o_a15 o_a16 o_thrown, ai E o_a0 42 o_s, ai E o_a1 42 o_m, ai E o_a2 42 o_image, ai E o_a3 42 y42, ai E o_a8 3 y13, ai E o_a9 8192 o_most, ai E o_a11 8 o_kept, ai E o_a12 8 o_keptKind, ai E o_a13 8 o_keptFigure, ai E o_a14 8 o_sort, ai E o_a15 8 o_size, ai E o_a16 800 o_element] := hD
              have hL93 : ∀ (n : Nat) (x44 : Int32) (y45 : Int32) (y46 : Nat → Int32) (y47 : Nat → Int32) (H : Heap) (locs : List Loc) (ls : Array Slot), va_P E.1 vwCl [oMo o_h o_a0 o_a1 o_a2 o_a3 o_hasImage y45 z4 z6 o_a8 o_a9 o_seed o_a11 o_a12 o_a13 o_a14 o_a15 o_a16 o_thrown, ai E o_a0 42 y46, ai E o_a1 42 o_m, ai E o_a2 42 o_image, ai E o_a3 42 y42, ai E o_a8 3 y47, ai E o_a9 8192 o_most, ai E o_a11 8 o_kept, ai E o_a12 8 o_keptKind, ai E o_a13 8 o_keptFigure, ai E o_a14 8 o_sort, ai E o_a15 8 o_size, ai E o_a16 800 o_element] H → va_D A [oMo o_h o_a0 o_a1 o_a2 o_a3 o_hasImage y45 z4 z6 o_a8 o_a9 o_seed o_a11 o_a12 o_a13 o_a14 o_a15 o_a16 o_thrown, ai E o_a0 42 y46, ai E o_a1 42 o_m, ai E o_a2 42 o_image, ai E o_a3 42 y42, ai E o_a8 3 y47, ai E o_a9 8192 o_most, ai E o_a11 8 o_kept, ai E o_a12 8 o_keptKind, ai E o_a13 8 o_keptFigure, ai E o_a14 8 o_sort, ai E o_a15 8 o_size, ai E o_a16 800 o_element] → va_S A s.heap H locs → lv_has ls 8 [(3, .int (x8 + (1 : Int32))), (4, .int x44), (0, .ref o_h)] → L_X10_quarter_93 N o_element z4 z6 x8 y42 n x44 y45 y46 y47 = some (res, w_o_place, w_o_rowAt, w_o_rowEnd, w_o_s, w_o_was, w_o_numbers) → W p l e ({ frames := 7, cells := 0, slots := 0, locals := 156 }) s m [.ref o_h, .int p1].toArray below meth c H locs 0 0 (MQ below (fun _ st oc t => oc = .returned (some (.int res)) ∧ va_P E.1 vwCl [oMo o_h o_a0 o_a1 o_a2 o_a3 o_hasImage w_o_place w_o_rowAt w_o_rowEnd o_a8 o_a9 o_seed o_a11 o_a12 o_a13 o_a14 o_a15 o_a16 o_thrown, ai E o_a0 42 w_o_s, ai E o_a1 42 o_m, ai E o_a2 42 o_image, ai E o_a3 42 w_o_was, ai E o_a8 3 w_o_numbers, ai E o_a9 8192 o_most, ai E o_a11 8 o_kept, ai E o_a12 8 o_keptKind, ai E o_a13 8 o_keptFigure, ai E o_a14 8 o_sort, ai E o_a15 8 o_size, ai E o_a16 800 o_element] t.heap ∧ va_F A st t) [.ref o_h, .int p1].toArray s 0 0 A) (F0 m 93 ls []) := by
                intro n
                induction n with
                | zero => intro x44 y45 y46 y47 H locs ls hP hD hS hl hv; cases hv
                | succ n93 ih93 =>
                  intro x44 y45 y46 y47 H locs ls hP hD hS hl hv
                  rw [L_X10_quarter_93] at hv
                  refine lv_iload hx hb dX10_quarter_93 (lv_at hl 1 rfl) ?_
                  refine lv_if_ne (tgt := 161) hx hb dX10_quarter_95 (by decide) (fun c48 => ?_) (fun c48 => ?_)
                  · have hv := if_n c48 hv
                    refine lv_iload hx hb dX10_quarter_161 (lv_at hl 1 rfl) ?_
                    refine lv_if_ne (tgt := 170) hx hb dX10_quarter_163 (by decide) (fun c49 => ?_) (fun c49 => ?_)
                    · have hv := if_n c49 hv
                      refine lv_iload hx hb dX10_quarter_170 (lv_at hl 1 rfl) ?_
                      cases hv
                      exact W.iret hx hb hr (fun t h9 _ => ⟨rfl, by rw [h9]; exact hP, hS.F h9⟩) hS.2.2 dX10_quarter_172 hlk
                    · have hv := if_y c49 hv
                      refine lv_iload_n hx hb dX10_quarter_166 rfl (lv_at hl 0 rfl) ?_
                      refine lv_goto (tgt := 172) hx hb dX10_quarter_167 (by decide) ?_
                      refine lv_topi (fun z50 ez50 => ?_)
                      have hv := nm_s ez50 hv
                      cases hv
                      exact W.iret hx hb hr (fun t h9 _ => ⟨rfl, by rw [h9]; exact hP, hS.F h9⟩) hS.2.2 dX10_quarter_172 hlk
                  · have hv := if_y c48 hv
                    refine lv_aload_n hx hb dX10_quarter_98 rfl (lv_at hl 2 rfl) ?_
                    refine va_get (D := E.1) (ci := 4) (v := .int y45) (C := RX10) (T := TX10) (N := 18) hx hb ht i_X10 hown hK hP 0 rfl rfl 5 (by decide) (ht _ kw_4_139) (fun _ h9 => h9) rfl dX10_quarter_99 ?_
                    refine lv_aload_n hx hb dX10_quarter_102 rfl (lv_at hl 2 rfl) ?_
                    refine va_get (D := E.1) (ci := 4) (v := .int z6) (C := RX10) (T := TX10) (N := 18) hx hb ht i_X10 hown hK hP 0 rfl rfl 7 (by decide) (ht _ kw_4_141) (fun _ h9 => h9) rfl dX10_quarter_103 ?_
                    refine lv_icmp_ge (tgt := 161) hx hb dX10_quarter_106 (by decide) (fun c51 => ?_) (fun c51 => ?_)
                    · have hv := if_y c51 hv
                      refine lv_iload hx hb dX10_quarter_161 (lv_at hl 1 rfl) ?_
                      refine lv_if_ne (tgt := 170) hx hb dX10_quarter_163 (by decide) (fun c52 => ?_) (fun c52 => ?_)
                      · have hv := if_n c52 hv
                        refine lv_iload hx hb dX10_quarter_170 (lv_at hl 1 rfl) ?_
                        cases hv
                        exact W.iret hx hb hr (fun t h9 _ => ⟨rfl, by rw [h9]; exact hP, hS.F h9⟩) hS.2.2 dX10_quarter_172 hlk
                      · have hv := if_y c52 hv
                        refine lv_iload_n hx hb dX10_quarter_166 rfl (lv_at hl 0 rfl) ?_
                        refine lv_goto (tgt := 172) hx hb dX10_quarter_167 (by decide) ?_
                        refine lv_topi (fun z53 ez53 => ?_)
                        have hv := nm_s ez53 hv
                        cases hv
                        exact W.iret hx hb hr (fun t h9 _ => ⟨rfl, by rw [h9]; exact hP, hS.F h9⟩) hS.2.2 dX10_quarter_172 hlk
                    · have hv := if_n c51 hv
                      refine lv_aload_n hx hb dX10_quarter_109 rfl (lv_at hl 2 rfl) ?_
                      refine va_get (D := E.1) (ci := 4) (v := .int y45) (C := RX10) (T := TX10) (N := 18) hx hb ht i_X10 hown hK hP 0 rfl rfl 5 (by decide) (ht _ kw_4_139) (fun _ h9 => h9) rfl dX10_quarter_110 ?_
                      refine lv_istore (lv' := [(5, .int y45), (3, .int (x8 + (1 : Int32))), (4, .int x44), (0, .ref o_h)]) hx hb dX10_quarter_113 hl (by decide) rfl (fun ls hl => ?_)
                      refine lv_aload_n hx hb dX10_quarter_115 rfl (lv_at hl 3 rfl) ?_
                      obtain ⟨r54, h55, hv⟩ := ob_s hv
                      refine rdV 4 0 (As := []) (rest := []) (st1 := [.int r54]) (w := [oMo o_h o_a0 o_a1 o_a2 o_a3 o_hasImage y45 z4 z6 o_a8 o_a9 o_seed o_a11 o_a12 o_a13 o_a14 o_a15 o_a16 o_thrown, ai E o_a0 42 y46, ai E o_a1 42 o_m, ai E o_a2 42 o_image, ai E o_a3 42 y42, ai E o_a8 3 y47, ai E o_a9 8192 o_most, ai E o_a11 8 o_kept, ai E o_a12 8 o_keptKind, ai E o_a13 8 o_keptFigure, ai E o_a14 8 o_sort, ai E o_a15 8 o_size, ai E o_a16 800 o_element]) hC q_X10_here kw_4_207 (c_X10_here l E o_h o_a0 o_a1 o_a2 o_a3 o_a8 o_a9 o_a11 o_a12 o_a13 o_a14 o_a15 o_a16 y46 o_m o_image y42 o_hasImage y45 z4 z6 y47 o_most o_seed o_kept o_keptKind o_keptFigure o_sort o_size o_element o_thrown r54 h55) ⟨rfl, rfl⟩ ⟨Nat.le_of_ble_eq_true rfl, Nat.le_of_ble_eq_true rfl⟩ ⟨Nat.zero_le _, Nat.zero_le _⟩ hP rfl rfl rfl hG rfl hl.1 rfl (Nat.le_of_ble_eq_true rfl) dX10_quarter_116 rfl ?_
                      refine lv_istore (lv' := [(6, .int r54), (5, .int y45), (3, .int (x8 + (1 : Int32))), (4, .int x44), (0, .ref o_h)]) hx hb dX10_quarter_119 hl (by decide) rfl (fun ls hl => ?_)
                      refine lv_aload_n hx hb dX10_quarter_121 rfl (lv_at hl 4 rfl) ?_
                      obtain ⟨⟨r56, y57, y58⟩, h59, hv⟩ := ob_s hv
                      refine wrV (as := [o_h, o_a0, o_a1, o_a2, o_a3, o_a8, o_a9, o_a11, o_a12, o_a13, o_a14, o_a15, o_a16]) (wr := []) [0, 1, 2, 3, 4, 5, 6, 7, 8, 9, 10, 11, 12] [] 4 0 (ws := [oMo o_h o_a0 o_a1 o_a2 o_a3 o_hasImage y45 z4 z6 o_a8 o_a9 o_seed o_a11 o_a12 o_a13 o_a14 o_a15 o_a16 o_thrown, ai E o_a0 42 y46, ai E o_a1 42 o_m, ai E o_a2 42 o_image, ai E o_a3 42 y42, ai E o_a8 3 y47, ai E o_a9 8192 o_most, ai E o_a11 8 o_kept, ai E o_a12 8 o_keptKind, ai E o_a13 8 o_keptFigure, ai E o_a14 8 o_sort, ai E o_a15 8 o_size, ai E o_a16 800 o_element]) (ws' := [oMo o_h o_a0 o_a1 o_a2 o_a3 o_hasImage y57 z4 z6 o_a8 o_a9 o_seed o_a11 o_a12 o_a13 o_a14 o_a15 o_a16 o_thrown, ai E o_a0 42 y46, ai E o_a1 42 o_m, ai E o_a2 42 o_image, ai E o_a3 42 y42, ai E o_a8 3 y58, ai E o_a9 8192 o_most, ai E o_a11 8 o_kept, ai E o_a12 8 o_keptKind, ai E o_a13 8 o_keptFigure, ai E o_a14 8 o_sort, ai E o_a15 8 o_size, ai E o_a16 800 o_element]) (As := []) (rest := []) (st1 := [.int r56]) hC q_X10_readsStatement kw_4_203 (c_X10_readsStatement l E o_h o_a0 o_a1 o_a2 o_a3 o_a8 o_a9 o_a11 o_a12 o_a13 o_a14 o_a15 o_a16 y46 o_m o_image y42 o_hasImage y45 z4 z6 y47 o_most o_seed o_kept o_keptKind o_keptFigure o_sort o_size o_element o_thrown N r56 y57 y58 h59) ⟨rfl, rfl⟩ ⟨Nat.le_of_ble_eq_true rfl, Nat.le_of_ble_eq_true rfl⟩ ⟨Nat.zero_le _, Nat.zero_le _⟩ hP hD hS hA rfl rfl rfl hG (by decide) rfl rfl rfl rfl rfl rfl rfl rfl hl.1 rfl (Nat.le_of_ble_eq_true rfl) dX10_quarter_122 rfl (fun H locs hP hD hS => ?_)
                      refine lv_istore (lv' := [(7, .int r56), (6, .int r54), (5, .int y45), (3, .int (x8 + (1 : Int32))), (4, .int x44), (0, .ref o_h)]) hx hb dX10_quarter_125 hl (by decide) rfl (fun ls hl => ?_)
                      refine lv_aload_n hx hb dX10_quarter_127 rfl (lv_at hl 5 rfl) ?_
                      refine lv_iload hx hb dX10_quarter_128 (lv_at hl 1 rfl) ?_
                      obtain ⟨⟨r60, y61⟩, h62, hv⟩ := ob_s hv
                      refine wrV (as := [o_h, o_a0, o_a1, o_a2, o_a3, o_a8, o_a9, o_a11, o_a12, o_a13, o_a14, o_a15, o_a16]) (wr := []) [0, 1, 2, 3, 4, 5, 6, 7, 8, 9, 10, 11, 12] [] 4 0 (ws := [oMo o_h o_a0 o_a1 o_a2 o_a3 o_hasImage y57 z4 z6 o_a8 o_a9 o_seed o_a11 o_a12 o_a13 o_a14 o_a15 o_a16 o_thrown, ai E o_a0 42 y46, ai E o_a1 42 o_m, ai E o_a2 42 o_image, ai E o_a3 42 y42, ai E o_a8 3 y58, ai E o_a9 8192 o_most, ai E o_a11 8 o_kept, ai E o_a12 8 o_keptKind, ai E o_a13 8 o_keptFigure, ai E o_a14 8 o_sort, ai E o_a15 8 o_size, ai E o_a16 800 o_element]) (ws' := [oMo o_h o_a0 o_a1 o_a2 o_a3 o_hasImage y57 z4 z6 o_a8 o_a9 o_seed o_a11 o_a12 o_a13 o_a14 o_a15 o_a16 o_thrown, ai E o_a0 42 y61, ai E o_a1 42 o_m, ai E o_a2 42 o_image, ai E o_a3 42 y42, ai E o_a8 3 y58, ai E o_a9 8192 o_most, ai E o_a11 8 o_kept, ai E o_a12 8 o_keptKind, ai E o_a13 8 o_keptFigure, ai E o_a14 8 o_sort, ai E o_a15 8 o_size, ai E o_a16 800 o_element]) (As := [.int r54]) (rest := []) (st1 := [.int r60]) hC q_X10_isDone kw_4_218 (c_X10_isDone l E o_h o_a0 o_a1 o_a2 o_a3 o_a8 o_a9 o_a11 o_a12 o_a13 o_a14 o_a15 o_a16 y46 o_m o_image y42 o_hasImage y57 z4 z6 y58 o_most o_seed o_kept o_keptKind o_keptFigure o_sort o_size o_element o_thrown r54 N r60 y61 h62) ⟨rfl, rfl⟩ ⟨Nat.le_of_ble_eq_true rfl, Nat.le_of_ble_eq_true rfl⟩ ⟨Nat.zero_le _, Nat.zero_le _⟩ hP hD hS hA rfl rfl rfl hG (by decide) rfl rfl rfl rfl rfl rfl rfl rfl hl.1 rfl (Nat.le_of_ble_eq_true rfl) dX10_quarter_130 rfl (fun H locs hP hD hS => ?_)
                      refine lv_if_eq (tgt := 139) hx hb dX10_quarter_133 (by decide) (fun c63 => ?_) (fun c63 => ?_)
                      · have hv := if_y c63 hv
                        refine lv_sipush (v := (-2000 : Int32)) hx hb dX10_quarter_139 (by decide) ?_
                        refine lv_iload hx hb dX10_quarter_142 (lv_at hl 2 rfl) ?_
                        refine lv_isub hx hb dX10_quarter_144 ?_
                        refine lv_istore (lv' := [(4, .int ((-2000 : Int32) - y45)), (7, .int r56), (6, .int r54), (5, .int y45), (3, .int (x8 + (1 : Int32))), (0, .ref o_h)]) hx hb dX10_quarter_145 hl (by decide) rfl (fun ls hl => ?_)
                        refine lv_aload_n hx hb dX10_quarter_147 rfl (lv_at hl 5 rfl) ?_
                        refine va_get (D := E.1) (ci := 4) (v := .ref o_a3) (C := RX10) (T := TX10) (N := 18) hx hb ht i_X10 hown hK hP 0 rfl rfl 3 (by decide) (ht _ kw_4_137) (fun _ h9 => h9) rfl dX10_quarter_148 ?_
                        refine lv_aload_n hx hb dX10_quarter_151 rfl (lv_at hl 5 rfl) ?_
                        refine va_get (D := E.1) (ci := 4) (v := .ref o_a0) (C := RX10) (T := TX10) (N := 18) hx hb ht i_X10 hown hK hP 0 rfl rfl 0 (by decide) (ht _ kw_4_134) (fun _ h9 => h9) rfl dX10_quarter_152 ?_
                        obtain ⟨y64, h65, hv⟩ := ob_s hv
                        refine wrS (as := [o_h, o_a0, o_a1, o_a2, o_a3, o_a8, o_a9, o_a11, o_a12, o_a13, o_a14, o_a15, o_a16]) (wr := [oMo o_h o_a0 o_a1 o_a2 o_a3 o_hasImage y57 z4 z6 o_a8 o_a9 o_seed o_a11 o_a12 o_a13 o_a14 o_a15 o_a16 o_thrown, ai E o_a1 42 o_m, ai E o_a2 42 o_image, ai E o_a8 3 y58, ai E o_a9 8192 o_most, ai E o_a11 8 o_kept, ai E o_a12 8 o_keptKind, ai E o_a13 8 o_keptFigure, ai E o_a14 8 o_sort, ai E o_a15 8 o_size, ai E o_a16 800 o_element]) [4, 1] [0, 2, 3, 5, 6, 7, 8, 9, 10, 11, 12] (ws := [oMo o_h o_a0 o_a1 o_a2 o_a3 o_hasImage y57 z4 z6 o_a8 o_a9 o_seed o_a11 o_a12 o_a13 o_a14 o_a15 o_a16 o_thrown, ai E o_a0 42 y61, ai E o_a1 42 o_m, ai E o_a2 42 o_image, ai E o_a3 42 y42, ai E o_a8 3 y58, ai E o_a9 8192 o_most, ai E o_a11 8 o_kept, ai E o_a12 8 o_keptKind, ai E o_a13 8 o_keptFigure, ai E o_a14 8 o_sort, ai E o_a15 8 o_size, ai E o_a16 800 o_element]) (ws' := [oMo o_h o_a0 o_a1 o_a2 o_a3 o_hasImage y57 z4 z6 o_a8 o_a9 o_seed o_a11 o_a12 o_a13 o_a14 o_a15 o_a16 o_thrown, ai E o_a0 42 y64, ai E o_a1 42 o_m, ai E o_a2 42 o_image, ai E o_a3 42 y42, ai E o_a8 3 y58, ai E o_a9 8192 o_most, ai E o_a11 8 o_kept, ai E o_a12 8 o_keptKind, ai E o_a13 8 o_keptFigure, ai E o_a14 8 o_sort, ai E o_a15 8 o_size, ai E o_a16 800 o_element]) (rest := []) (st1 := []) hC q_X10_copies kw_4_215 (c_X10_copies l E o_a3 o_a0 y42 y61 N y64 h65) ⟨rfl, rfl⟩ ⟨Nat.le_of_ble_eq_true rfl, Nat.le_of_ble_eq_true rfl⟩ ⟨Nat.zero_le _, Nat.zero_le _⟩ hP hD hS hA hG (by decide) rfl rfl rfl rfl rfl rfl rfl rfl hl.1 rfl (Nat.le_of_ble_eq_true rfl) dX10_quarter_155 rfl (fun H locs hP hD hS => ?_)
                        refine lv_goto (tgt := 93) hx hb dX10_quarter_158 (by decide) ?_
                        exact ih93 ((-2000 : Int32) - y45) y57 y64 y58 _ _ _ hP hD hS (lv_sub hl [4, 0, 5] rfl) hv
                      · have hv := if_n c63 hv
                        refine lv_goto (tgt := 93) hx hb dX10_quarter_136 (by decide) ?_
                        exact ih93 x44 y57 y61 y58 _ _ _ hP hD hS (lv_sub hl [3, 4, 5] rfl) hv
              exact hL93 N x7 (0 : Int32) o_s y13 _ _ _ hP hD hS (lv_sub hl [0, 1, 2] rfl) hv
        · have hv := if_y c15 hv
          refine lv_sipush (v := (-1000 : Int32)) hx hb dX10_quarter_48 (by decide) ?_
          refine lv_aload_n hx hb dX10_quarter_51 rfl (lv_at hl 2 rfl) ?_
          refine va_get (D := E.1) (ci := 4) (v := .int y12) (C := RX10) (T := TX10) (N := 18) hx hb ht i_X10 hown hK hP 0 rfl rfl 5 (by decide) (ht _ kw_4_139) (fun _ h9 => h9) rfl dX10_quarter_52 ?_
          refine lv_isub hx hb dX10_quarter_55 ?_
          refine lv_istore (lv' := [(4, .int ((-1000 : Int32) - y12)), (3, .int x8), (0, .ref o_h)]) hx hb dX10_quarter_56 hl (by decide) rfl (fun ls hl => ?_)
          refine lv_iinc (v := (x8 + (1 : Int32))) (lv' := [(3, .int (x8 + (1 : Int32))), (4, .int ((-1000 : Int32) - y12)), (0, .ref o_h)]) hx hb dX10_quarter_58 hl (k := 1) rfl rfl (by decide) rfl (fun ls hl => ?_)
          refine lv_iload hx hb dX10_quarter_61 (lv_at hl 1 rfl) ?_
          refine lv_if_ne (tgt := 77) hx hb dX10_quarter_63 (by decide) (fun c66 => ?_) (fun c66 => ?_)
          · have hv := if_n c66 hv
            refine lv_aload_n hx hb dX10_quarter_77 rfl (lv_at hl 2 rfl) ?_
            refine va_get (D := E.1) (ci := 4) (v := .ref o_a0) (C := RX10) (T := TX10) (N := 18) hx hb ht i_X10 hown hK hP 0 rfl rfl 0 (by decide) (ht _ kw_4_134) (fun _ h9 => h9) rfl dX10_quarter_78 ?_
            refine lv_aload_n hx hb dX10_quarter_81 rfl (lv_at hl 2 rfl) ?_
            refine va_get (D := E.1) (ci := 4) (v := .ref o_a3) (C := RX10) (T := TX10) (N := 18) hx hb ht i_X10 hown hK hP 0 rfl rfl 3 (by decide) (ht _ kw_4_137) (fun _ h9 => h9) rfl dX10_quarter_82 ?_
            obtain ⟨y67, h68, hv⟩ := ob_s hv
            refine wrS (as := [o_h, o_a0, o_a1, o_a2, o_a3, o_a8, o_a9, o_a11, o_a12, o_a13, o_a14, o_a15, o_a16]) (wr := [oMo o_h o_a0 o_a1 o_a2 o_a3 o_hasImage y12 z4 z6 o_a8 o_a9 o_seed o_a11 o_a12 o_a13 o_a14 o_a15 o_a16 o_thrown, ai E o_a1 42 o_m, ai E o_a2 42 o_image, ai E o_a8 3 y13, ai E o_a9 8192 o_most, ai E o_a11 8 o_kept, ai E o_a12 8 o_keptKind, ai E o_a13 8 o_keptFigure, ai E o_a14 8 o_sort, ai E o_a15 8 o_size, ai E o_a16 800 o_element]) [1, 4] [0, 2, 3, 5, 6, 7, 8, 9, 10, 11, 12] (ws := [oMo o_h o_a0 o_a1 o_a2 o_a3 o_hasImage y12 z4 z6 o_a8 o_a9 o_seed o_a11 o_a12 o_a13 o_a14 o_a15 o_a16 o_thrown, ai E o_a0 42 o_s, ai E o_a1 42 o_m, ai E o_a2 42 o_image, ai E o_a3 42 o_was, ai E o_a8 3 y13, ai E o_a9 8192 o_most, ai E o_a11 8 o_kept, ai E o_a12 8 o_keptKind, ai E o_a13 8 o_keptFigure, ai E o_a14 8 o_sort, ai E o_a15 8 o_size, ai E o_a16 800 o_element]) (ws' := [oMo o_h o_a0 o_a1 o_a2 o_a3 o_hasImage y12 z4 z6 o_a8 o_a9 o_seed o_a11 o_a12 o_a13 o_a14 o_a15 o_a16 o_thrown, ai E o_a0 42 o_s, ai E o_a1 42 o_m, ai E o_a2 42 o_image, ai E o_a3 42 y67, ai E o_a8 3 y13, ai E o_a9 8192 o_most, ai E o_a11 8 o_kept, ai E o_a12 8 o_keptKind, ai E o_a13 8 o_keptFigure, ai E o_a14 8 o_sort, ai E o_a15 8 o_size, ai E o_a16 800 o_element]) (rest := []) (st1 := []) hC q_X10_copies kw_4_215 (c_X10_copies l E o_a0 o_a3 o_s o_was N y67 h68) ⟨rfl, rfl⟩ ⟨Nat.le_of_ble_eq_true rfl, Nat.le_of_ble_eq_true rfl⟩ ⟨Nat.zero_le _, Nat.zero_le _⟩ hP hD hS hA hG (by decide) rfl rfl rfl rfl rfl rfl rfl rfl hl.1 rfl (Nat.le_of_ble_eq_true rfl) dX10_quarter_85 rfl (fun H locs hP hD hS => ?_)
            refine lv_aload_n hx hb dX10_quarter_88 rfl (lv_at hl 2 rfl) ?_
            refine lv_iconst (v := (0 : Int32)) hx hb dX10_quarter_89 (by decide) ?_
            refine va_put (D := E.1) (ci := 4) (v := .int (0 : Int32)) (ty := .int) (C := RX10) (T := TX10) (N := 18) hx hb ht i_X10 tyX10 tyX10_ok nmX10 hown hK hP hD hS 0 rfl rfl 5 (by decide) (ht _ kw_4_139) (fun _ h9 => h9) rfl (by decide +kernel) rfl rfl (Nat.le_of_ble_eq_true rfl) dX10_quarter_90 (fun H locs hP hD hS => ?_)
            have hP : va_P E.1 vwCl [oMo o_h o_a0 o_a1 o_a2 o_a3 o_hasImage (0 : Int32) z4 z6 o_a8 o_a9 o_seed o_a11 o_a12 o_a13 o_a14 o_a15 o_a16 o_thrown, ai E o_a0 42 o_s, ai E o_a1 42 o_m, ai E o_a2 42 o_image, ai E o_a3 42 y67, ai E o_a8 3 y13, ai E o_a9 8192 o_most, ai E o_a11 8 o_kept, ai E o_a12 8 o_keptKind, ai E o_a13 8 o_keptFigure, ai E o_a14 8 o_sort, ai E o_a15 8 o_size, ai E o_a16 800 o_element] H := hP
            have hD : va_D A [oMo o_h o_a0 o_a1 o_a2 o_a3 o_hasImage (0 : Int32) z4 z6 o_a8 o_a9 o_seed o_a11 o_a12 o_a13 o_a14 o_a15 o_a16 o_thrown, ai E o_a0 42 o_s, ai E o_a1 42 o_m, ai E o_a2 42 o_image, ai E o_a3 42 y67, ai E o_a8 3 y13, ai E o_a9 8192 o_most, ai E o_a11 8 o_kept, ai E o_a12 8 o_keptKind, ai E o_a13 8 o_keptFigure, ai E o_a14 8 o_sort, ai E o_a15 8 o_size, ai E o_a16 800 o_element] := hD
            have hL93 : ∀ (n : Nat) (x69 : Int32) (y70 : Int32) (y71 : Nat → Int32) (y72 : Nat → Int32) (H : Heap) (locs : List Loc) (ls : Array Slot), va_P E.1 vwCl [oMo o_h o_a0 o_a1 o_a2 o_a3 o_hasImage y70 z4 z6 o_a8 o_a9 o_seed o_a11 o_a12 o_a13 o_a14 o_a15 o_a16 o_thrown, ai E o_a0 42 y71, ai E o_a1 42 o_m, ai E o_a2 42 o_image, ai E o_a3 42 y67, ai E o_a8 3 y72, ai E o_a9 8192 o_most, ai E o_a11 8 o_kept, ai E o_a12 8 o_keptKind, ai E o_a13 8 o_keptFigure, ai E o_a14 8 o_sort, ai E o_a15 8 o_size, ai E o_a16 800 o_element] H → va_D A [oMo o_h o_a0 o_a1 o_a2 o_a3 o_hasImage y70 z4 z6 o_a8 o_a9 o_seed o_a11 o_a12 o_a13 o_a14 o_a15 o_a16 o_thrown, ai E o_a0 42 y71, ai E o_a1 42 o_m, ai E o_a2 42 o_image, ai E o_a3 42 y67, ai E o_a8 3 y72, ai E o_a9 8192 o_most, ai E o_a11 8 o_kept, ai E o_a12 8 o_keptKind, ai E o_a13 8 o_keptFigure, ai E o_a14 8 o_sort, ai E o_a15 8 o_size, ai E o_a16 800 o_element] → va_S A s.heap H locs → lv_has ls 8 [(3, .int (x8 + (1 : Int32))), (4, .int x69), (0, .ref o_h)] → L_X10_quarter_93 N o_element z4 z6 x8 y67 n x69 y70 y71 y72 = some (res, w_o_place, w_o_rowAt, w_o_rowEnd, w_o_s, w_o_was, w_o_numbers) → W p l e ({ frames := 7, cells := 0, slots := 0, locals := 156 }) s m [.ref o_h, .int p1].toArray below meth c H locs 0 0 (MQ below (fun _ st oc t => oc = .returned (some (.int res)) ∧ va_P E.1 vwCl [oMo o_h o_a0 o_a1 o_a2 o_a3 o_hasImage w_o_place w_o_rowAt w_o_rowEnd o_a8 o_a9 o_seed o_a11 o_a12 o_a13 o_a14 o_a15 o_a16 o_thrown, ai E o_a0 42 w_o_s, ai E o_a1 42 o_m, ai E o_a2 42 o_image, ai E o_a3 42 w_o_was, ai E o_a8 3 w_o_numbers, ai E o_a9 8192 o_most, ai E o_a11 8 o_kept, ai E o_a12 8 o_keptKind, ai E o_a13 8 o_keptFigure, ai E o_a14 8 o_sort, ai E o_a15 8 o_size, ai E o_a16 800 o_element] t.heap ∧ va_F A st t) [.ref o_h, .int p1].toArray s 0 0 A) (F0 m 93 ls []) := by
              intro n
              induction n with
              | zero => intro x69 y70 y71 y72 H locs ls hP hD hS hl hv; cases hv
              | succ n93 ih93 =>
                intro x69 y70 y71 y72 H locs ls hP hD hS hl hv
                rw [L_X10_quarter_93] at hv
                refine lv_iload hx hb dX10_quarter_93 (lv_at hl 1 rfl) ?_
                refine lv_if_ne (tgt := 161) hx hb dX10_quarter_95 (by decide) (fun c73 => ?_) (fun c73 => ?_)
                · have hv := if_n c73 hv
                  refine lv_iload hx hb dX10_quarter_161 (lv_at hl 1 rfl) ?_
                  refine lv_if_ne (tgt := 170) hx hb dX10_quarter_163 (by decide) (fun c74 => ?_) (fun c74 => ?_)
                  · have hv := if_n c74 hv
                    refine lv_iload hx hb dX10_quarter_170 (lv_at hl 1 rfl) ?_
                    cases hv
                    exact W.iret hx hb hr (fun t h9 _ => ⟨rfl, by rw [h9]; exact hP, hS.F h9⟩) hS.2.2 dX10_quarter_172 hlk
                  · have hv := if_y c74 hv
                    refine lv_iload_n hx hb dX10_quarter_166 rfl (lv_at hl 0 rfl) ?_
                    refine lv_goto (tgt := 172) hx hb dX10_quarter_167 (by decide) ?_
                    refine lv_topi (fun z75 ez75 => ?_)
                    have hv := nm_s ez75 hv
                    cases hv
                    exact W.iret hx hb hr (fun t h9 _ => ⟨rfl, by rw [h9]; exact hP, hS.F h9⟩) hS.2.2 dX10_quarter_172 hlk
                · have hv := if_y c73 hv
                  refine lv_aload_n hx hb dX10_quarter_98 rfl (lv_at hl 2 rfl) ?_
                  refine va_get (D := E.1) (ci := 4) (v := .int y70) (C := RX10) (T := TX10) (N := 18) hx hb ht i_X10 hown hK hP 0 rfl rfl 5 (by decide) (ht _ kw_4_139) (fun _ h9 => h9) rfl dX10_quarter_99 ?_
                  refine lv_aload_n hx hb dX10_quarter_102 rfl (lv_at hl 2 rfl) ?_
                  refine va_get (D := E.1) (ci := 4) (v := .int z6) (C := RX10) (T := TX10) (N := 18) hx hb ht i_X10 hown hK hP 0 rfl rfl 7 (by decide) (ht _ kw_4_141) (fun _ h9 => h9) rfl dX10_quarter_103 ?_
                  refine lv_icmp_ge (tgt := 161) hx hb dX10_quarter_106 (by decide) (fun c76 => ?_) (fun c76 => ?_)
                  · have hv := if_y c76 hv
                    refine lv_iload hx hb dX10_quarter_161 (lv_at hl 1 rfl) ?_
                    refine lv_if_ne (tgt := 170) hx hb dX10_quarter_163 (by decide) (fun c77 => ?_) (fun c77 => ?_)
                    · have hv := if_n c77 hv
                      refine lv_iload hx hb dX10_quarter_170 (lv_at hl 1 rfl) ?_
                      cases hv
                      exact W.iret hx hb hr (fun t h9 _ => ⟨rfl, by rw [h9]; exact hP, hS.F h9⟩) hS.2.2 dX10_quarter_172 hlk
                    · have hv := if_y c77 hv
                      refine lv_iload_n hx hb dX10_quarter_166 rfl (lv_at hl 0 rfl) ?_
                      refine lv_goto (tgt := 172) hx hb dX10_quarter_167 (by decide) ?_
                      refine lv_topi (fun z78 ez78 => ?_)
                      have hv := nm_s ez78 hv
                      cases hv
                      exact W.iret hx hb hr (fun t h9 _ => ⟨rfl, by rw [h9]; exact hP, hS.F h9⟩) hS.2.2 dX10_quarter_172 hlk
                  · have hv := if_n c76 hv
                    refine lv_aload_n hx hb dX10_quarter_109 rfl (lv_at hl 2 rfl) ?_
                    refine va_get (D := E.1) (ci := 4) (v := .int y70) (C := RX10) (T := TX10) (N := 18) hx hb ht i_X10 hown hK hP 0 rfl rfl 5 (by decide) (ht _ kw_4_139) (fun _ h9 => h9) rfl dX10_quarter_110 ?_
                    refine lv_istore (lv' := [(5, .int y70), (3, .int (x8 + (1 : Int32))), (4, .int x69), (0, .ref o_h)]) hx hb dX10_quarter_113 hl (by decide) rfl (fun ls hl => ?_)
                    refine lv_aload_n hx hb dX10_quarter_115 rfl (lv_at hl 3 rfl) ?_
                    obtain ⟨r79, h80, hv⟩ := ob_s hv
                    refine rdV 4 0 (As := []) (rest := []) (st1 := [.int r79]) (w := [oMo o_h o_a0 o_a1 o_a2 o_a3 o_hasImage y70 z4 z6 o_a8 o_a9 o_seed o_a11 o_a12 o_a13 o_a14 o_a15 o_a16 o_thrown, ai E o_a0 42 y71, ai E o_a1 42 o_m, ai E o_a2 42 o_image, ai E o_a3 42 y67, ai E o_a8 3 y72, ai E o_a9 8192 o_most, ai E o_a11 8 o_kept, ai E o_a12 8 o_keptKind, ai E o_a13 8 o_keptFigure, ai E o_a14 8 o_sort, ai E o_a15 8 o_size, ai E o_a16 800 o_element]) hC q_X10_here kw_4_207 (c_X10_here l E o_h o_a0 o_a1 o_a2 o_a3 o_a8 o_a9 o_a11 o_a12 o_a13 o_a14 o_a15 o_a16 y71 o_m o_image y67 o_hasImage y70 z4 z6 y72 o_most o_seed o_kept o_keptKind o_keptFigure o_sort o_size o_element o_thrown r79 h80) ⟨rfl, rfl⟩ ⟨Nat.le_of_ble_eq_true rfl, Nat.le_of_ble_eq_true rfl⟩ ⟨Nat.zero_le _, Nat.zero_le _⟩ hP rfl rfl rfl hG rfl hl.1 rfl (Nat.le_of_ble_eq_true rfl) dX10_quarter_116 rfl ?_
                    refine lv_istore (lv' := [(6, .int r79), (5, .int y70), (3, .int (x8 + (1 : Int32))), (4, .int x69), (0, .ref o_h)]) hx hb dX10_quarter_119 hl (by decide) rfl (fun ls hl => ?_)
                    refine lv_aload_n hx hb dX10_quarter_121 rfl (lv_at hl 4 rfl) ?_
                    obtain ⟨⟨r81, y82, y83⟩, h84, hv⟩ := ob_s hv
                    refine wrV (as := [o_h, o_a0, o_a1, o_a2, o_a3, o_a8, o_a9, o_a11, o_a12, o_a13, o_a14, o_a15, o_a16]) (wr := []) [0, 1, 2, 3, 4, 5, 6, 7, 8, 9, 10, 11, 12] [] 4 0 (ws := [oMo o_h o_a0 o_a1 o_a2 o_a3 o_hasImage y70 z4 z6 o_a8 o_a9 o_seed o_a11 o_a12 o_a13 o_a14 o_a15 o_a16 o_thrown, ai E o_a0 42 y71, ai E o_a1 42 o_m, ai E o_a2 42 o_image, ai E o_a3 42 y67, ai E o_a8 3 y72, ai E o_a9 8192 o_most, ai E o_a11 8 o_kept, ai E o_a12 8 o_keptKind, ai E o_a13 8 o_keptFigure, ai E o_a14 8 o_sort, ai E o_a15 8 o_size, ai E o_a16 800 o_element]) (ws' := [oMo o_h o_a0 o_a1 o_a2 o_a3 o_hasImage y82 z4 z6 o_a8 o_a9 o_seed o_a11 o_a12 o_a13 o_a14 o_a15 o_a16 o_thrown, ai E o_a0 42 y71, ai E o_a1 42 o_m, ai E o_a2 42 o_image, ai E o_a3 42 y67, ai E o_a8 3 y83, ai E o_a9 8192 o_most, ai E o_a11 8 o_kept, ai E o_a12 8 o_keptKind, ai E o_a13 8 o_keptFigure, ai E o_a14 8 o_sort, ai E o_a15 8 o_size, ai E o_a16 800 o_element]) (As := []) (rest := []) (st1 := [.int r81]) hC q_X10_readsStatement kw_4_203 (c_X10_readsStatement l E o_h o_a0 o_a1 o_a2 o_a3 o_a8 o_a9 o_a11 o_a12 o_a13 o_a14 o_a15 o_a16 y71 o_m o_image y67 o_hasImage y70 z4 z6 y72 o_most o_seed o_kept o_keptKind o_keptFigure o_sort o_size o_element o_thrown N r81 y82 y83 h84) ⟨rfl, rfl⟩ ⟨Nat.le_of_ble_eq_true rfl, Nat.le_of_ble_eq_true rfl⟩ ⟨Nat.zero_le _, Nat.zero_le _⟩ hP hD hS hA rfl rfl rfl hG (by decide) rfl rfl rfl rfl rfl rfl rfl rfl hl.1 rfl (Nat.le_of_ble_eq_true rfl) dX10_quarter_122 rfl (fun H locs hP hD hS => ?_)
                    refine lv_istore (lv' := [(7, .int r81), (6, .int r79), (5, .int y70), (3, .int (x8 + (1 : Int32))), (4, .int x69), (0, .ref o_h)]) hx hb dX10_quarter_125 hl (by decide) rfl (fun ls hl => ?_)
                    refine lv_aload_n hx hb dX10_quarter_127 rfl (lv_at hl 5 rfl) ?_
                    refine lv_iload hx hb dX10_quarter_128 (lv_at hl 1 rfl) ?_
                    obtain ⟨⟨r85, y86⟩, h87, hv⟩ := ob_s hv
                    refine wrV (as := [o_h, o_a0, o_a1, o_a2, o_a3, o_a8, o_a9, o_a11, o_a12, o_a13, o_a14, o_a15, o_a16]) (wr := []) [0, 1, 2, 3, 4, 5, 6, 7, 8, 9, 10, 11, 12] [] 4 0 (ws := [oMo o_h o_a0 o_a1 o_a2 o_a3 o_hasImage y82 z4 z6 o_a8 o_a9 o_seed o_a11 o_a12 o_a13 o_a14 o_a15 o_a16 o_thrown, ai E o_a0 42 y71, ai E o_a1 42 o_m, ai E o_a2 42 o_image, ai E o_a3 42 y67, ai E o_a8 3 y83, ai E o_a9 8192 o_most, ai E o_a11 8 o_kept, ai E o_a12 8 o_keptKind, ai E o_a13 8 o_keptFigure, ai E o_a14 8 o_sort, ai E o_a15 8 o_size, ai E o_a16 800 o_element]) (ws' := [oMo o_h o_a0 o_a1 o_a2 o_a3 o_hasImage y82 z4 z6 o_a8 o_a9 o_seed o_a11 o_a12 o_a13 o_a14 o_a15 o_a16 o_thrown, ai E o_a0 42 y86, ai E o_a1 42 o_m, ai E o_a2 42 o_image, ai E o_a3 42 y67, ai E o_a8 3 y83, ai E o_a9 8192 o_most, ai E o_a11 8 o_kept, ai E o_a12 8 o_keptKind, ai E o_a13 8 o_keptFigure, ai E o_a14 8 o_sort, ai E o_a15 8 o_size, ai E o_a16 800 o_element]) (As := [.int r79]) (rest := []) (st1 := [.int r85]) hC q_X10_isDone kw_4_218 (c_X10_isDone l E o_h o_a0 o_a1 o_a2 o_a3 o_a8 o_a9 o_a11 o_a12 o_a13 o_a14 o_a15 o_a16 y71 o_m o_image y67 o_hasImage y82 z4 z6 y83 o_most o_seed o_kept o_keptKind o_keptFigure o_sort o_size o_element o_thrown r79 N r85 y86 h87) ⟨rfl, rfl⟩ ⟨Nat.le_of_ble_eq_true rfl, Nat.le_of_ble_eq_true rfl⟩ ⟨Nat.zero_le _, Nat.zero_le _⟩ hP hD hS hA rfl rfl rfl hG (by decide) rfl rfl rfl rfl rfl rfl rfl rfl hl.1 rfl (Nat.le_of_ble_eq_true rfl) dX10_quarter_130 rfl (fun H locs hP hD hS => ?_)
                    refine lv_if_eq (tgt := 139) hx hb dX10_quarter_133 (by decide) (fun c88 => ?_) (fun c88 => ?_)
                    · have hv := if_y c88 hv
                      refine lv_sipush (v := (-2000 : Int32)) hx hb dX10_quarter_139 (by decide) ?_
                      refine lv_iload hx hb dX10_quarter_142 (lv_at hl 2 rfl) ?_
                      refine lv_isub hx hb dX10_quarter_144 ?_
                      refine lv_istore (lv' := [(4, .int ((-2000 : Int32) - y70)), (7, .int r81), (6, .int r79), (5, .int y70), (3, .int (x8 + (1 : Int32))), (0, .ref o_h)]) hx hb dX10_quarter_145 hl (by decide) rfl (fun ls hl => ?_)
                      refine lv_aload_n hx hb dX10_quarter_147 rfl (lv_at hl 5 rfl) ?_
                      refine va_get (D := E.1) (ci := 4) (v := .ref o_a3) (C := RX10) (T := TX10) (N := 18) hx hb ht i_X10 hown hK hP 0 rfl rfl 3 (by decide) (ht _ kw_4_137) (fun _ h9 => h9) rfl dX10_quarter_148 ?_
                      refine lv_aload_n hx hb dX10_quarter_151 rfl (lv_at hl 5 rfl) ?_
                      refine va_get (D := E.1) (ci := 4) (v := .ref o_a0) (C := RX10) (T := TX10) (N := 18) hx hb ht i_X10 hown hK hP 0 rfl rfl 0 (by decide) (ht _ kw_4_134) (fun _ h9 => h9) rfl dX10_quarter_152 ?_
                      obtain ⟨y89, h90, hv⟩ := ob_s hv
                      refine wrS (as := [o_h, o_a0, o_a1, o_a2, o_a3, o_a8, o_a9, o_a11, o_a12, o_a13, o_a14, o_a15, o_a16]) (wr := [oMo o_h o_a0 o_a1 o_a2 o_a3 o_hasImage y82 z4 z6 o_a8 o_a9 o_seed o_a11 o_a12 o_a13 o_a14 o_a15 o_a16 o_thrown, ai E o_a1 42 o_m, ai E o_a2 42 o_image, ai E o_a8 3 y83, ai E o_a9 8192 o_most, ai E o_a11 8 o_kept, ai E o_a12 8 o_keptKind, ai E o_a13 8 o_keptFigure, ai E o_a14 8 o_sort, ai E o_a15 8 o_size, ai E o_a16 800 o_element]) [4, 1] [0, 2, 3, 5, 6, 7, 8, 9, 10, 11, 12] (ws := [oMo o_h o_a0 o_a1 o_a2 o_a3 o_hasImage y82 z4 z6 o_a8 o_a9 o_seed o_a11 o_a12 o_a13 o_a14 o_a15 o_a16 o_thrown, ai E o_a0 42 y86, ai E o_a1 42 o_m, ai E o_a2 42 o_image, ai E o_a3 42 y67, ai E o_a8 3 y83, ai E o_a9 8192 o_most, ai E o_a11 8 o_kept, ai E o_a12 8 o_keptKind, ai E o_a13 8 o_keptFigure, ai E o_a14 8 o_sort, ai E o_a15 8 o_size, ai E o_a16 800 o_element]) (ws' := [oMo o_h o_a0 o_a1 o_a2 o_a3 o_hasImage y82 z4 z6 o_a8 o_a9 o_seed o_a11 o_a12 o_a13 o_a14 o_a15 o_a16 o_thrown, ai E o_a0 42 y89, ai E o_a1 42 o_m, ai E o_a2 42 o_image, ai E o_a3 42 y67, ai E o_a8 3 y83, ai E o_a9 8192 o_most, ai E o_a11 8 o_kept, ai E o_a12 8 o_keptKind, ai E o_a13 8 o_keptFigure, ai E o_a14 8 o_sort, ai E o_a15 8 o_size, ai E o_a16 800 o_element]) (rest := []) (st1 := []) hC q_X10_copies kw_4_215 (c_X10_copies l E o_a3 o_a0 y67 y86 N y89 h90) ⟨rfl, rfl⟩ ⟨Nat.le_of_ble_eq_true rfl, Nat.le_of_ble_eq_true rfl⟩ ⟨Nat.zero_le _, Nat.zero_le _⟩ hP hD hS hA hG (by decide) rfl rfl rfl rfl rfl rfl rfl rfl hl.1 rfl (Nat.le_of_ble_eq_true rfl) dX10_quarter_155 rfl (fun H locs hP hD hS => ?_)
                      refine lv_goto (tgt := 93) hx hb dX10_quarter_158 (by decide) ?_
                      exact ih93 ((-2000 : Int32) - y70) y82 y89 y83 _ _ _ hP hD hS (lv_sub hl [4, 0, 5] rfl) hv
                    · have hv := if_n c88 hv
                      refine lv_goto (tgt := 93) hx hb dX10_quarter_136 (by decide) ?_
                      exact ih93 x69 y82 y86 y83 _ _ _ hP hD hS (lv_sub hl [3, 4, 5] rfl) hv
            exact hL93 N ((-1000 : Int32) - y12) (0 : Int32) o_s y13 _ _ _ hP hD hS (lv_sub hl [0, 1, 2] rfl) hv
          · have hv := if_y c66 hv
            refine lv_aload_n hx hb dX10_quarter_66 rfl (lv_at hl 2 rfl) ?_
            refine va_get (D := E.1) (ci := 4) (v := .int y12) (C := RX10) (T := TX10) (N := 18) hx hb ht i_X10 hown hK hP 0 rfl rfl 5 (by decide) (ht _ kw_4_139) (fun _ h9 => h9) rfl dX10_quarter_67 ?_
            refine lv_aload_n hx hb dX10_quarter_70 rfl (lv_at hl 2 rfl) ?_
            refine va_get (D := E.1) (ci := 4) (v := .int z6) (C := RX10) (T := TX10) (N := 18) hx hb ht i_X10 hown hK hP 0 rfl rfl 7 (by decide) (ht _ kw_4_141) (fun _ h9 => h9) rfl dX10_quarter_71 ?_
            refine lv_icmp_lt (tgt := 41) hx hb dX10_quarter_74 (by decide) (fun c91 => ?_) (fun c91 => ?_)
            · have hv := if_y c91 hv
              exact ih41 ((-1000 : Int32) - y12) (x8 + (1 : Int32)) y12 y13 _ _ _ hP hD hS (lv_sub hl [1, 0, 2] rfl) hv
            · have hv := if_n c91 hv
              refine lv_aload_n hx hb dX10_quarter_77 rfl (lv_at hl 2 rfl) ?_
              refine va_get (D := E.1) (ci := 4) (v := .ref o_a0) (C := RX10) (T := TX10) (N := 18) hx hb ht i_X10 hown hK hP 0 rfl rfl 0 (by decide) (ht _ kw_4_134) (fun _ h9 => h9) rfl dX10_quarter_78 ?_
              refine lv_aload_n hx hb dX10_quarter_81 rfl (lv_at hl 2 rfl) ?_
              refine va_get (D := E.1) (ci := 4) (v := .ref o_a3) (C := RX10) (T := TX10) (N := 18) hx hb ht i_X10 hown hK hP 0 rfl rfl 3 (by decide) (ht _ kw_4_137) (fun _ h9 => h9) rfl dX10_quarter_82 ?_
              obtain ⟨y92, h93, hv⟩ := ob_s hv
              refine wrS (as := [o_h, o_a0, o_a1, o_a2, o_a3, o_a8, o_a9, o_a11, o_a12, o_a13, o_a14, o_a15, o_a16]) (wr := [oMo o_h o_a0 o_a1 o_a2 o_a3 o_hasImage y12 z4 z6 o_a8 o_a9 o_seed o_a11 o_a12 o_a13 o_a14 o_a15 o_a16 o_thrown, ai E o_a1 42 o_m, ai E o_a2 42 o_image, ai E o_a8 3 y13, ai E o_a9 8192 o_most, ai E o_a11 8 o_kept, ai E o_a12 8 o_keptKind, ai E o_a13 8 o_keptFigure, ai E o_a14 8 o_sort, ai E o_a15 8 o_size, ai E o_a16 800 o_element]) [1, 4] [0, 2, 3, 5, 6, 7, 8, 9, 10, 11, 12] (ws := [oMo o_h o_a0 o_a1 o_a2 o_a3 o_hasImage y12 z4 z6 o_a8 o_a9 o_seed o_a11 o_a12 o_a13 o_a14 o_a15 o_a16 o_thrown, ai E o_a0 42 o_s, ai E o_a1 42 o_m, ai E o_a2 42 o_image, ai E o_a3 42 o_was, ai E o_a8 3 y13, ai E o_a9 8192 o_most, ai E o_a11 8 o_kept, ai E o_a12 8 o_keptKind, ai E o_a13 8 o_keptFigure, ai E o_a14 8 o_sort, ai E o_a15 8 o_size, ai E o_a16 800 o_element]) (ws' := [oMo o_h o_a0 o_a1 o_a2 o_a3 o_hasImage y12 z4 z6 o_a8 o_a9 o_seed o_a11 o_a12 o_a13 o_a14 o_a15 o_a16 o_thrown, ai E o_a0 42 o_s, ai E o_a1 42 o_m, ai E o_a2 42 o_image, ai E o_a3 42 y92, ai E o_a8 3 y13, ai E o_a9 8192 o_most, ai E o_a11 8 o_kept, ai E o_a12 8 o_keptKind, ai E o_a13 8 o_keptFigure, ai E o_a14 8 o_sort, ai E o_a15 8 o_size, ai E o_a16 800 o_element]) (rest := []) (st1 := []) hC q_X10_copies kw_4_215 (c_X10_copies l E o_a0 o_a3 o_s o_was N y92 h93) ⟨rfl, rfl⟩ ⟨Nat.le_of_ble_eq_true rfl, Nat.le_of_ble_eq_true rfl⟩ ⟨Nat.zero_le _, Nat.zero_le _⟩ hP hD hS hA hG (by decide) rfl rfl rfl rfl rfl rfl rfl rfl hl.1 rfl (Nat.le_of_ble_eq_true rfl) dX10_quarter_85 rfl (fun H locs hP hD hS => ?_)
              refine lv_aload_n hx hb dX10_quarter_88 rfl (lv_at hl 2 rfl) ?_
              refine lv_iconst (v := (0 : Int32)) hx hb dX10_quarter_89 (by decide) ?_
              refine va_put (D := E.1) (ci := 4) (v := .int (0 : Int32)) (ty := .int) (C := RX10) (T := TX10) (N := 18) hx hb ht i_X10 tyX10 tyX10_ok nmX10 hown hK hP hD hS 0 rfl rfl 5 (by decide) (ht _ kw_4_139) (fun _ h9 => h9) rfl (by decide +kernel) rfl rfl (Nat.le_of_ble_eq_true rfl) dX10_quarter_90 (fun H locs hP hD hS => ?_)
              have hP : va_P E.1 vwCl [oMo o_h o_a0 o_a1 o_a2 o_a3 o_hasImage (0 : Int32) z4 z6 o_a8 o_a9 o_seed o_a11 o_a12 o_a13 o_a14 o_a15 o_a16 o_thrown, ai E o_a0 42 o_s, ai E o_a1 42 o_m, ai E o_a2 42 o_image, ai E o_a3 42 y92, ai E o_a8 3 y13, ai E o_a9 8192 o_most, ai E o_a11 8 o_kept, ai E o_a12 8 o_keptKind, ai E o_a13 8 o_keptFigure, ai E o_a14 8 o_sort, ai E o_a15 8 o_size, ai E o_a16 800 o_element] H := hP
              have hD : va_D A [oMo o_h o_a0 o_a1 o_a2 o_a3 o_hasImage (0 : Int32) z4 z6 o_a8 o_a9 o_seed o_a11 o_a12 o_a13 o_a14 o_a15 o_a16 o_thrown, ai E o_a0 42 o_s, ai E o_a1 42 o_m, ai E o_a2 42 o_image, ai E o_a3 42 y92, ai E o_a8 3 y13, ai E o_a9 8192 o_most, ai E o_a11 8 o_kept, ai E o_a12 8 o_keptKind, ai E o_a13 8 o_keptFigure, ai E o_a14 8 o_sort, ai E o_a15 8 o_size, ai E o_a16 800 o_element] := hD
              have hL93 : ∀ (n : Nat) (x94 : Int32) (y95 : Int32) (y96 : Nat → Int32) (y97 : Nat → Int32) (H : Heap) (locs : List Loc) (ls : Array Slot), va_P E.1 vwCl [oMo o_h o_a0 o_a1 o_a2 o_a3 o_hasImage y95 z4 z6 o_a8 o_a9 o_seed o_a11 o_a12 o_a13 o_a14 o_a15 o_a16 o_thrown, ai E o_a0 42 y96, ai E o_a1 42 o_m, ai E o_a2 42 o_image, ai E o_a3 42 y92, ai E o_a8 3 y97, ai E o_a9 8192 o_most, ai E o_a11 8 o_kept, ai E o_a12 8 o_keptKind, ai E o_a13 8 o_keptFigure, ai E o_a14 8 o_sort, ai E o_a15 8 o_size, ai E o_a16 800 o_element] H → va_D A [oMo o_h o_a0 o_a1 o_a2 o_a3 o_hasImage y95 z4 z6 o_a8 o_a9 o_seed o_a11 o_a12 o_a13 o_a14 o_a15 o_a16 o_thrown, ai E o_a0 42 y96, ai E o_a1 42 o_m, ai E o_a2 42 o_image, ai E o_a3 42 y92, ai E o_a8 3 y97, ai E o_a9 8192 o_most, ai E o_a11 8 o_kept, ai E o_a12 8 o_keptKind, ai E o_a13 8 o_keptFigure, ai E o_a14 8 o_sort, ai E o_a15 8 o_size, ai E o_a16 800 o_element] → va_S A s.heap H locs → lv_has ls 8 [(3, .int (x8 + (1 : Int32))), (4, .int x94), (0, .ref o_h)] → L_X10_quarter_93 N o_element z4 z6 x8 y92 n x94 y95 y96 y97 = some (res, w_o_place, w_o_rowAt, w_o_rowEnd, w_o_s, w_o_was, w_o_numbers) → W p l e ({ frames := 7, cells := 0, slots := 0, locals := 156 }) s m [.ref o_h, .int p1].toArray below meth c H locs 0 0 (MQ below (fun _ st oc t => oc = .returned (some (.int res)) ∧ va_P E.1 vwCl [oMo o_h o_a0 o_a1 o_a2 o_a3 o_hasImage w_o_place w_o_rowAt w_o_rowEnd o_a8 o_a9 o_seed o_a11 o_a12 o_a13 o_a14 o_a15 o_a16 o_thrown, ai E o_a0 42 w_o_s, ai E o_a1 42 o_m, ai E o_a2 42 o_image, ai E o_a3 42 w_o_was, ai E o_a8 3 w_o_numbers, ai E o_a9 8192 o_most, ai E o_a11 8 o_kept, ai E o_a12 8 o_keptKind, ai E o_a13 8 o_keptFigure, ai E o_a14 8 o_sort, ai E o_a15 8 o_size, ai E o_a16 800 o_element] t.heap ∧ va_F A st t) [.ref o_h, .int p1].toArray s 0 0 A) (F0 m 93 ls []) := by
                intro n
                induction n with
                | zero => intro x94 y95 y96 y97 H locs ls hP hD hS hl hv; cases hv
                | succ n93 ih93 =>
                  intro x94 y95 y96 y97 H locs ls hP hD hS hl hv
                  rw [L_X10_quarter_93] at hv
                  refine lv_iload hx hb dX10_quarter_93 (lv_at hl 1 rfl) ?_
                  refine lv_if_ne (tgt := 161) hx hb dX10_quarter_95 (by decide) (fun c98 => ?_) (fun c98 => ?_)
                  · have hv := if_n c98 hv
                    refine lv_iload hx hb dX10_quarter_161 (lv_at hl 1 rfl) ?_
                    refine lv_if_ne (tgt := 170) hx hb dX10_quarter_163 (by decide) (fun c99 => ?_) (fun c99 => ?_)
                    · have hv := if_n c99 hv
                      refine lv_iload hx hb dX10_quarter_170 (lv_at hl 1 rfl) ?_
                      cases hv
                      exact W.iret hx hb hr (fun t h9 _ => ⟨rfl, by rw [h9]; exact hP, hS.F h9⟩) hS.2.2 dX10_quarter_172 hlk
                    · have hv := if_y c99 hv
                      refine lv_iload_n hx hb dX10_quarter_166 rfl (lv_at hl 0 rfl) ?_
                      refine lv_goto (tgt := 172) hx hb dX10_quarter_167 (by decide) ?_
                      refine lv_topi (fun z100 ez100 => ?_)
                      have hv := nm_s ez100 hv
                      cases hv
                      exact W.iret hx hb hr (fun t h9 _ => ⟨rfl, by rw [h9]; exact hP, hS.F h9⟩) hS.2.2 dX10_quarter_172 hlk
                  · have hv := if_y c98 hv
                    refine lv_aload_n hx hb dX10_quarter_98 rfl (lv_at hl 2 rfl) ?_
                    refine va_get (D := E.1) (ci := 4) (v := .int y95) (C := RX10) (T := TX10) (N := 18) hx hb ht i_X10 hown hK hP 0 rfl rfl 5 (by decide) (ht _ kw_4_139) (fun _ h9 => h9) rfl dX10_quarter_99 ?_
                    refine lv_aload_n hx hb dX10_quarter_102 rfl (lv_at hl 2 rfl) ?_
                    refine va_get (D := E.1) (ci := 4) (v := .int z6) (C := RX10) (T := TX10) (N := 18) hx hb ht i_X10 hown hK hP 0 rfl rfl 7 (by decide) (ht _ kw_4_141) (fun _ h9 => h9) rfl dX10_quarter_103 ?_
                    refine lv_icmp_ge (tgt := 161) hx hb dX10_quarter_106 (by decide) (fun c101 => ?_) (fun c101 => ?_)
                    · have hv := if_y c101 hv
                      refine lv_iload hx hb dX10_quarter_161 (lv_at hl 1 rfl) ?_
                      refine lv_if_ne (tgt := 170) hx hb dX10_quarter_163 (by decide) (fun c102 => ?_) (fun c102 => ?_)
                      · have hv := if_n c102 hv
                        refine lv_iload hx hb dX10_quarter_170 (lv_at hl 1 rfl) ?_
                        cases hv
                        exact W.iret hx hb hr (fun t h9 _ => ⟨rfl, by rw [h9]; exact hP, hS.F h9⟩) hS.2.2 dX10_quarter_172 hlk
                      · have hv := if_y c102 hv
                        refine lv_iload_n hx hb dX10_quarter_166 rfl (lv_at hl 0 rfl) ?_
                        refine lv_goto (tgt := 172) hx hb dX10_quarter_167 (by decide) ?_
                        refine lv_topi (fun z103 ez103 => ?_)
                        have hv := nm_s ez103 hv
                        cases hv
                        exact W.iret hx hb hr (fun t h9 _ => ⟨rfl, by rw [h9]; exact hP, hS.F h9⟩) hS.2.2 dX10_quarter_172 hlk
                    · have hv := if_n c101 hv
                      refine lv_aload_n hx hb dX10_quarter_109 rfl (lv_at hl 2 rfl) ?_
                      refine va_get (D := E.1) (ci := 4) (v := .int y95) (C := RX10) (T := TX10) (N := 18) hx hb ht i_X10 hown hK hP 0 rfl rfl 5 (by decide) (ht _ kw_4_139) (fun _ h9 => h9) rfl dX10_quarter_110 ?_
                      refine lv_istore (lv' := [(5, .int y95), (3, .int (x8 + (1 : Int32))), (4, .int x94), (0, .ref o_h)]) hx hb dX10_quarter_113 hl (by decide) rfl (fun ls hl => ?_)
                      refine lv_aload_n hx hb dX10_quarter_115 rfl (lv_at hl 3 rfl) ?_
                      obtain ⟨r104, h105, hv⟩ := ob_s hv
                      refine rdV 4 0 (As := []) (rest := []) (st1 := [.int r104]) (w := [oMo o_h o_a0 o_a1 o_a2 o_a3 o_hasImage y95 z4 z6 o_a8 o_a9 o_seed o_a11 o_a12 o_a13 o_a14 o_a15 o_a16 o_thrown, ai E o_a0 42 y96, ai E o_a1 42 o_m, ai E o_a2 42 o_image, ai E o_a3 42 y92, ai E o_a8 3 y97, ai E o_a9 8192 o_most, ai E o_a11 8 o_kept, ai E o_a12 8 o_keptKind, ai E o_a13 8 o_keptFigure, ai E o_a14 8 o_sort, ai E o_a15 8 o_size, ai E o_a16 800 o_element]) hC q_X10_here kw_4_207 (c_X10_here l E o_h o_a0 o_a1 o_a2 o_a3 o_a8 o_a9 o_a11 o_a12 o_a13 o_a14 o_a15 o_a16 y96 o_m o_image y92 o_hasImage y95 z4 z6 y97 o_most o_seed o_kept o_keptKind o_keptFigure o_sort o_size o_element o_thrown r104 h105) ⟨rfl, rfl⟩ ⟨Nat.le_of_ble_eq_true rfl, Nat.le_of_ble_eq_true rfl⟩ ⟨Nat.zero_le _, Nat.zero_le _⟩ hP rfl rfl rfl hG rfl hl.1 rfl (Nat.le_of_ble_eq_true rfl) dX10_quarter_116 rfl ?_
                      refine lv_istore (lv' := [(6, .int r104), (5, .int y95), (3, .int (x8 + (1 : Int32))), (4, .int x94), (0, .ref o_h)]) hx hb dX10_quarter_119 hl (by decide) rfl (fun ls hl => ?_)
                      refine lv_aload_n hx hb dX10_quarter_121 rfl (lv_at hl 4 rfl) ?_
                      obtain ⟨⟨r106, y107, y108⟩, h109, hv⟩ := ob_s hv
                      refine wrV (as := [o_h, o_a0, o_a1, o_a2, o_a3, o_a8, o_a9, o_a11, o_a12, o_a13, o_a14, o_a15, o_a16]) (wr := []) [0, 1, 2, 3, 4, 5, 6, 7, 8, 9, 10, 11, 12] [] 4 0 (ws := [oMo o_h o_a0 o_a1 o_a2 o_a3 o_hasImage y95 z4 z6 o_a8 o_a9 o_seed o_a11 o_a12 o_a13 o_a14 o_a15 o_a16 o_thrown, ai E o_a0 42 y96, ai E o_a1 42 o_m, ai E o_a2 42 o_image, ai E o_a3 42 y92, ai E o_a8 3 y97, ai E o_a9 8192 o_most, ai E o_a11 8 o_kept, ai E o_a12 8 o_keptKind, ai E o_a13 8 o_keptFigure, ai E o_a14 8 o_sort, ai E o_a15 8 o_size, ai E o_a16 800 o_element]) (ws' := [oMo o_h o_a0 o_a1 o_a2 o_a3 o_hasImage y107 z4 z6 o_a8 o_a9 o_seed o_a11 o_a12 o_a13 o_a14 o_a15 o_a16 o_thrown, ai E o_a0 42 y96, ai E o_a1 42 o_m, ai E o_a2 42 o_image, ai E o_a3 42 y92, ai E o_a8 3 y108, ai E o_a9 8192 o_most, ai E o_a11 8 o_kept, ai E o_a12 8 o_keptKind, ai E o_a13 8 o_keptFigure, ai E o_a14 8 o_sort, ai E o_a15 8 o_size, ai E o_a16 800 o_element]) (As := []) (rest := []) (st1 := [.int r106]) hC q_X10_readsStatement kw_4_203 (c_X10_readsStatement l E o_h o_a0 o_a1 o_a2 o_a3 o_a8 o_a9 o_a11 o_a12 o_a13 o_a14 o_a15 o_a16 y96 o_m o_image y92 o_hasImage y95 z4 z6 y97 o_most o_seed o_kept o_keptKind o_keptFigure o_sort o_size o_element o_thrown N r106 y107 y108 h109) ⟨rfl, rfl⟩ ⟨Nat.le_of_ble_eq_true rfl, Nat.le_of_ble_eq_true rfl⟩ ⟨Nat.zero_le _, Nat.zero_le _⟩ hP hD hS hA rfl rfl rfl hG (by decide) rfl rfl rfl rfl rfl rfl rfl rfl hl.1 rfl (Nat.le_of_ble_eq_true rfl) dX10_quarter_122 rfl (fun H locs hP hD hS => ?_)
                      refine lv_istore (lv' := [(7, .int r106), (6, .int r104), (5, .int y95), (3, .int (x8 + (1 : Int32))), (4, .int x94), (0, .ref o_h)]) hx hb dX10_quarter_125 hl (by decide) rfl (fun ls hl => ?_)
                      refine lv_aload_n hx hb dX10_quarter_127 rfl (lv_at hl 5 rfl) ?_
                      refine lv_iload hx hb dX10_quarter_128 (lv_at hl 1 rfl) ?_
                      obtain ⟨⟨r110, y111⟩, h112, hv⟩ := ob_s hv
                      refine wrV (as := [o_h, o_a0, o_a1, o_a2, o_a3, o_a8, o_a9, o_a11, o_a12, o_a13, o_a14, o_a15, o_a16]) (wr := []) [0, 1, 2, 3, 4, 5, 6, 7, 8, 9, 10, 11, 12] [] 4 0 (ws := [oMo o_h o_a0 o_a1 o_a2 o_a3 o_hasImage y107 z4 z6 o_a8 o_a9 o_seed o_a11 o_a12 o_a13 o_a14 o_a15 o_a16 o_thrown, ai E o_a0 42 y96, ai E o_a1 42 o_m, ai E o_a2 42 o_image, ai E o_a3 42 y92, ai E o_a8 3 y108, ai E o_a9 8192 o_most, ai E o_a11 8 o_kept, ai E o_a12 8 o_keptKind, ai E o_a13 8 o_keptFigure, ai E o_a14 8 o_sort, ai E o_a15 8 o_size, ai E o_a16 800 o_element]) (ws' := [oMo o_h o_a0 o_a1 o_a2 o_a3 o_hasImage y107 z4 z6 o_a8 o_a9 o_seed o_a11 o_a12 o_a13 o_a14 o_a15 o_a16 o_thrown, ai E o_a0 42 y111, ai E o_a1 42 o_m, ai E o_a2 42 o_image, ai E o_a3 42 y92, ai E o_a8 3 y108, ai E o_a9 8192 o_most, ai E o_a11 8 o_kept, ai E o_a12 8 o_keptKind, ai E o_a13 8 o_keptFigure, ai E o_a14 8 o_sort, ai E o_a15 8 o_size, ai E o_a16 800 o_element]) (As := [.int r104]) (rest := []) (st1 := [.int r110]) hC q_X10_isDone kw_4_218 (c_X10_isDone l E o_h o_a0 o_a1 o_a2 o_a3 o_a8 o_a9 o_a11 o_a12 o_a13 o_a14 o_a15 o_a16 y96 o_m o_image y92 o_hasImage y107 z4 z6 y108 o_most o_seed o_kept o_keptKind o_keptFigure o_sort o_size o_element o_thrown r104 N r110 y111 h112) ⟨rfl, rfl⟩ ⟨Nat.le_of_ble_eq_true rfl, Nat.le_of_ble_eq_true rfl⟩ ⟨Nat.zero_le _, Nat.zero_le _⟩ hP hD hS hA rfl rfl rfl hG (by decide) rfl rfl rfl rfl rfl rfl rfl rfl hl.1 rfl (Nat.le_of_ble_eq_true rfl) dX10_quarter_130 rfl (fun H locs hP hD hS => ?_)
                      refine lv_if_eq (tgt := 139) hx hb dX10_quarter_133 (by decide) (fun c113 => ?_) (fun c113 => ?_)
                      · have hv := if_y c113 hv
                        refine lv_sipush (v := (-2000 : Int32)) hx hb dX10_quarter_139 (by decide) ?_
                        refine lv_iload hx hb dX10_quarter_142 (lv_at hl 2 rfl) ?_
                        refine lv_isub hx hb dX10_quarter_144 ?_
                        refine lv_istore (lv' := [(4, .int ((-2000 : Int32) - y95)), (7, .int r106), (6, .int r104), (5, .int y95), (3, .int (x8 + (1 : Int32))), (0, .ref o_h)]) hx hb dX10_quarter_145 hl (by decide) rfl (fun ls hl => ?_)
                        refine lv_aload_n hx hb dX10_quarter_147 rfl (lv_at hl 5 rfl) ?_
                        refine va_get (D := E.1) (ci := 4) (v := .ref o_a3) (C := RX10) (T := TX10) (N := 18) hx hb ht i_X10 hown hK hP 0 rfl rfl 3 (by decide) (ht _ kw_4_137) (fun _ h9 => h9) rfl dX10_quarter_148 ?_
                        refine lv_aload_n hx hb dX10_quarter_151 rfl (lv_at hl 5 rfl) ?_
                        refine va_get (D := E.1) (ci := 4) (v := .ref o_a0) (C := RX10) (T := TX10) (N := 18) hx hb ht i_X10 hown hK hP 0 rfl rfl 0 (by decide) (ht _ kw_4_134) (fun _ h9 => h9) rfl dX10_quarter_152 ?_
                        obtain ⟨y114, h115, hv⟩ := ob_s hv
                        refine wrS (as := [o_h, o_a0, o_a1, o_a2, o_a3, o_a8, o_a9, o_a11, o_a12, o_a13, o_a14, o_a15, o_a16]) (wr := [oMo o_h o_a0 o_a1 o_a2 o_a3 o_hasImage y107 z4 z6 o_a8 o_a9 o_seed o_a11 o_a12 o_a13 o_a14 o_a15 o_a16 o_thrown, ai E o_a1 42 o_m, ai E o_a2 42 o_image, ai E o_a8 3 y108, ai E o_a9 8192 o_most, ai E o_a11 8 o_kept, ai E o_a12 8 o_keptKind, ai E o_a13 8 o_keptFigure, ai E o_a14 8 o_sort, ai E o_a15 8 o_size, ai E o_a16 800 o_element]) [4, 1] [0, 2, 3, 5, 6, 7, 8, 9, 10, 11, 12] (ws := [oMo o_h o_a0 o_a1 o_a2 o_a3 o_hasImage y107 z4 z6 o_a8 o_a9 o_seed o_a11 o_a12 o_a13 o_a14 o_a15 o_a16 o_thrown, ai E o_a0 42 y111, ai E o_a1 42 o_m, ai E o_a2 42 o_image, ai E o_a3 42 y92, ai E o_a8 3 y108, ai E o_a9 8192 o_most, ai E o_a11 8 o_kept, ai E o_a12 8 o_keptKind, ai E o_a13 8 o_keptFigure, ai E o_a14 8 o_sort, ai E o_a15 8 o_size, ai E o_a16 800 o_element]) (ws' := [oMo o_h o_a0 o_a1 o_a2 o_a3 o_hasImage y107 z4 z6 o_a8 o_a9 o_seed o_a11 o_a12 o_a13 o_a14 o_a15 o_a16 o_thrown, ai E o_a0 42 y114, ai E o_a1 42 o_m, ai E o_a2 42 o_image, ai E o_a3 42 y92, ai E o_a8 3 y108, ai E o_a9 8192 o_most, ai E o_a11 8 o_kept, ai E o_a12 8 o_keptKind, ai E o_a13 8 o_keptFigure, ai E o_a14 8 o_sort, ai E o_a15 8 o_size, ai E o_a16 800 o_element]) (rest := []) (st1 := []) hC q_X10_copies kw_4_215 (c_X10_copies l E o_a3 o_a0 y92 y111 N y114 h115) ⟨rfl, rfl⟩ ⟨Nat.le_of_ble_eq_true rfl, Nat.le_of_ble_eq_true rfl⟩ ⟨Nat.zero_le _, Nat.zero_le _⟩ hP hD hS hA hG (by decide) rfl rfl rfl rfl rfl rfl rfl rfl hl.1 rfl (Nat.le_of_ble_eq_true rfl) dX10_quarter_155 rfl (fun H locs hP hD hS => ?_)
                        refine lv_goto (tgt := 93) hx hb dX10_quarter_158 (by decide) ?_
                        exact ih93 ((-2000 : Int32) - y95) y107 y114 y108 _ _ _ hP hD hS (lv_sub hl [4, 0, 5] rfl) hv
                      · have hv := if_n c113 hv
                        refine lv_goto (tgt := 93) hx hb dX10_quarter_136 (by decide) ?_
                        exact ih93 x94 y107 y111 y108 _ _ _ hP hD hS (lv_sub hl [3, 4, 5] rfl) hv
              exact hL93 N ((-1000 : Int32) - y12) (0 : Int32) o_s y13 _ _ _ hP hD hS (lv_sub hl [0, 1, 2] rfl) hv
    exact hL41 N (0 : Int32) (0 : Int32) (0 : Int32) o_numbers _ _ _ hP hD hS (lv_sub hl [0, 1, 3] rfl) hv
  · have hv := if_n c3 hv
    refine lv_iload_n hx hb dX10_quarter_11 rfl (lv_at hl 0 rfl) ?_
    cases hv
    exact W.iret hx hb hr (fun t h9 _ => ⟨rfl, by rw [h9]; exact hP, hS.F h9⟩) hS.2.2 dX10_quarter_12 hlk
theorem dX10_speaker_0 : decode cX10_speaker 0 = .ok (.aload_n 0, 1) := by decide +kernel
theorem dX10_speaker_1 : decode cX10_speaker 1 = .ok (.iload_n 1, 1) := by decide +kernel
theorem dX10_speaker_2 : decode cX10_speaker 2 = .ok (.invokevirtual 134, 3) := by decide +kernel
theorem dX10_speaker_5 : decode cX10_speaker 5 = .ok (.ifCond .eq 13, 3) := by decide +kernel
theorem dX10_speaker_8 : decode cX10_speaker 8 = .ok (.iload_n 2, 1) := by decide +kernel
theorem dX10_speaker_9 : decode cX10_speaker 9 = .ok (.iconst 0, 1) := by decide +kernel
theorem dX10_speaker_10 : decode cX10_speaker 10 = .ok (.bipush 6, 2) := by decide +kernel
theorem dX10_speaker_12 : decode cX10_speaker 12 = .ok (.invokestatic 46, 3) := by decide +kernel
theorem dX10_speaker_15 : decode cX10_speaker 15 = .ok (.ifCond .ne 5, 3) := by decide +kernel
theorem dX10_speaker_18 : decode cX10_speaker 18 = .ok (.iconst (-1), 1) := by decide +kernel
theorem dX10_speaker_19 : decode cX10_speaker 19 = .ok (.ireturn, 1) := by decide +kernel
theorem dX10_speaker_20 : decode cX10_speaker 20 = .ok (.iload_n 2, 1) := by decide +kernel
theorem dX10_speaker_21 : decode cX10_speaker 21 = .ok (.tableswitch 95 3 6 #[31, 45, 54, 71], 31) := by decide +kernel
theorem dX10_speaker_52 : decode cX10_speaker 52 = .ok (.aload_n 0, 1) := by decide +kernel
theorem dX10_speaker_53 : decode cX10_speaker 53 = .ok (.getfield 9, 3) := by decide +kernel
theorem dX10_speaker_56 : decode cX10_speaker 56 = .ok (.iload_n 1, 1) := by decide +kernel
theorem dX10_speaker_57 : decode cX10_speaker 57 = .ok (.iconst 3, 1) := by decide +kernel
theorem dX10_speaker_58 : decode cX10_speaker 58 = .ok (.invokestatic 50, 3) := by decide +kernel
theorem dX10_speaker_61 : decode cX10_speaker 61 = .ok (.iaload, 1) := by decide +kernel
theorem dX10_speaker_62 : decode cX10_speaker 62 = .ok (.bipush 9, 2) := by decide +kernel
theorem dX10_speaker_64 : decode cX10_speaker 64 = .ok (.iadd, 1) := by decide +kernel
theorem dX10_speaker_65 : decode cX10_speaker 65 = .ok (.ireturn, 1) := by decide +kernel
theorem dX10_speaker_66 : decode cX10_speaker 66 = .ok (.aload_n 0, 1) := by decide +kernel
theorem dX10_speaker_67 : decode cX10_speaker 67 = .ok (.getfield 9, 3) := by decide +kernel
theorem dX10_speaker_70 : decode cX10_speaker 70 = .ok (.iload_n 1, 1) := by decide +kernel
theorem dX10_speaker_71 : decode cX10_speaker 71 = .ok (.invokestatic 70, 3) := by decide +kernel
theorem dX10_speaker_74 : decode cX10_speaker 74 = .ok (.ireturn, 1) := by decide +kernel
theorem dX10_speaker_75 : decode cX10_speaker 75 = .ok (.aload_n 0, 1) := by decide +kernel
theorem dX10_speaker_76 : decode cX10_speaker 76 = .ok (.getfield 9, 3) := by decide +kernel
theorem dX10_speaker_79 : decode cX10_speaker 79 = .ok (.iload_n 1, 1) := by decide +kernel
theorem dX10_speaker_80 : decode cX10_speaker 80 = .ok (.invokestatic 66, 3) := by decide +kernel
theorem dX10_speaker_83 : decode cX10_speaker 83 = .ok (.ifCond .eq 7, 3) := by decide +kernel
theorem dX10_speaker_86 : decode cX10_speaker 86 = .ok (.iconst 1, 1) := by decide +kernel
theorem dX10_speaker_87 : decode cX10_speaker 87 = .ok (.goto 4, 3) := by decide +kernel
theorem dX10_speaker_90 : decode cX10_speaker 90 = .ok (.iconst 0, 1) := by decide +kernel
theorem dX10_speaker_91 : decode cX10_speaker 91 = .ok (.ireturn, 1) := by decide +kernel
theorem dX10_speaker_92 : decode cX10_speaker 92 = .ok (.aload_n 0, 1) := by decide +kernel
theorem dX10_speaker_93 : decode cX10_speaker 93 = .ok (.getfield 9, 3) := by decide +kernel
theorem dX10_speaker_96 : decode cX10_speaker 96 = .ok (.iload_n 1, 1) := by decide +kernel
theorem dX10_speaker_97 : decode cX10_speaker 97 = .ok (.iconst 0, 1) := by decide +kernel
theorem dX10_speaker_98 : decode cX10_speaker 98 = .ok (.invokestatic 50, 3) := by decide +kernel
theorem dX10_speaker_101 : decode cX10_speaker 101 = .ok (.iaload, 1) := by decide +kernel
theorem dX10_speaker_102 : decode cX10_speaker 102 = .ok (.aload_n 0, 1) := by decide +kernel
theorem dX10_speaker_103 : decode cX10_speaker 103 = .ok (.getfield 9, 3) := by decide +kernel
theorem dX10_speaker_106 : decode cX10_speaker 106 = .ok (.iload_n 1, 1) := by decide +kernel
theorem dX10_speaker_107 : decode cX10_speaker 107 = .ok (.iconst 1, 1) := by decide +kernel
theorem dX10_speaker_108 : decode cX10_speaker 108 = .ok (.invokestatic 50, 3) := by decide +kernel
theorem dX10_speaker_111 : decode cX10_speaker 111 = .ok (.iaload, 1) := by decide +kernel
theorem dX10_speaker_112 : decode cX10_speaker 112 = .ok (.invokestatic 102, 3) := by decide +kernel
theorem dX10_speaker_115 : decode cX10_speaker 115 = .ok (.ireturn, 1) := by decide +kernel
theorem dX10_speaker_116 : decode cX10_speaker 116 = .ok (.aload_n 0, 1) := by decide +kernel
theorem dX10_speaker_117 : decode cX10_speaker 117 = .ok (.getfield 9, 3) := by decide +kernel
theorem dX10_speaker_120 : decode cX10_speaker 120 = .ok (.iload_n 1, 1) := by decide +kernel
theorem dX10_speaker_121 : decode cX10_speaker 121 = .ok (.iload_n 2, 1) := by decide +kernel
theorem dX10_speaker_122 : decode cX10_speaker 122 = .ok (.invokestatic 50, 3) := by decide +kernel
theorem dX10_speaker_125 : decode cX10_speaker 125 = .ok (.iaload, 1) := by decide +kernel
theorem dX10_speaker_126 : decode cX10_speaker 126 = .ok (.ireturn, 1) := by decide +kernel
def f_X10_speaker (o_s : Nat → Int32) (p1 : Int32) (p2 : Int32) : Option (Int32) := ob (f_X10_isSpeaker o_s p1) (fun r1 => if r1 = 0 then some (-1 : Int32) else ob (f_X10_isIn p2 (0 : Int32) (6 : Int32)) (fun r4 => if r4 = 0 then some (-1 : Int32) else if p2 = (3 : Int32) then ob (f_X10_of p1 (3 : Int32)) (fun r8 => gd (ix r8 42) (some ((o_s r8.toNatClampNeg) + (9 : Int32)))) else if p2 = (4 : Int32) then ob (f_X10_weight o_s p1) (fun r12 => some r12) else if p2 = (5 : Int32) then ob (f_X10_isHeard o_s p1) (fun r15 => if r15 = 0 then some (0 : Int32) else some (1 : Int32)) else if p2 = (6 : Int32) then ob (f_X10_of p1 (0 : Int32)) (fun r19 => gd (ix r19 42) (ob (f_X10_of p1 (1 : Int32)) (fun r22 => gd (ix r22 42) (ob (f_X10_swayBy (o_s r19.toNatClampNeg) (o_s r22.toNatClampNeg)) (fun r25 => some r25))))) else ob (f_X10_of p1 p2) (fun r27 => gd (ix r27 42) (some (o_s r27.toNatClampNeg)))))
set_option maxHeartbeats 4000000 in
set_option maxRecDepth 100000 in
theorem c_X10_speaker (l : Launch) (E : EE) (o_h : Nat) (o_a0 : Nat) (o_a1 : Nat) (o_a2 : Nat) (o_a3 : Nat) (o_a8 : Nat) (o_a9 : Nat) (o_a11 : Nat) (o_a12 : Nat) (o_a13 : Nat) (o_a14 : Nat) (o_a15 : Nat) (o_a16 : Nat) (o_s : Nat → Int32) (o_m : Nat → Int32) (o_image : Nat → Int32) (o_was : Nat → Int32) (o_hasImage : Int32) (o_place : Int32) (o_rowAt : Int32) (o_rowEnd : Int32) (o_numbers : Nat → Int32) (o_most : Nat → Int32) (o_seed : Int32) (o_kept : Nat → Int32) (o_keptKind : Nat → Int32) (o_keptFigure : Nat → Int32) (o_sort : Nat → Int32) (o_size : Nat → Int32) (o_element : Nat → Int32) (o_thrown : Int32) (p1 : Int32) (p2 : Int32) (res : Int32) (hv : f_X10_speaker o_s p1 p2 = some res) : Rd l E yX10_speaker cX10_speaker 3 (some .int) ({ frames := 3, cells := 0, slots := 0, locals := 63 }) [.ref o_h, .int p1, .int p2] [oMo o_h o_a0 o_a1 o_a2 o_a3 o_hasImage o_place o_rowAt o_rowEnd o_a8 o_a9 o_seed o_a11 o_a12 o_a13 o_a14 o_a15 o_a16 o_thrown, ai E o_a0 42 o_s, ai E o_a1 42 o_m, ai E o_a2 42 o_image, ai E o_a3 42 o_was, ai E o_a8 3 o_numbers, ai E o_a9 8192 o_most, ai E o_a11 8 o_kept, ai E o_a12 8 o_keptKind, ai E o_a13 8 o_keptFigure, ai E o_a14 8 o_sort, ai E o_a15 8 o_size, ai E o_a16 800 o_element] (some (.int res)) := by
  refine Rd.intro RX10 (by decide) rfl (Nat.le_of_ble_eq_true rfl) ?_
  intro p e s m below meth c ls hC hr hlk hP hG hl
  obtain ⟨hx, hb, hml, hown, ht⟩ := id hC
  have hK := hG.1
  have hl : lv_has ls 3 [(0, .ref o_h), (1, .int p1), (2, .int p2)] := hl
  rw [f_X10_speaker] at hv
  refine lv_aload_n hx hb dX10_speaker_0 rfl (lv_at hl 0 rfl) ?_
  refine lv_iload_n hx hb dX10_speaker_1 rfl (lv_at hl 1 rfl) ?_
  obtain ⟨r1, h2, hv⟩ := ob_s hv
  refine rdV 4 0 (As := [.int p1]) (rest := []) (st1 := [.int r1]) (w := [oMo o_h o_a0 o_a1 o_a2 o_a3 o_hasImage o_place o_rowAt o_rowEnd o_a8 o_a9 o_seed o_a11 o_a12 o_a13 o_a14 o_a15 o_a16 o_thrown, ai E o_a0 42 o_s, ai E o_a1 42 o_m, ai E o_a2 42 o_image, ai E o_a3 42 o_was, ai E o_a8 3 o_numbers, ai E o_a9 8192 o_most, ai E o_a11 8 o_kept, ai E o_a12 8 o_keptKind, ai E o_a13 8 o_keptFigure, ai E o_a14 8 o_sort, ai E o_a15 8 o_size, ai E o_a16 800 o_element]) hC q_X10_isSpeaker kw_4_229 (c_X10_isSpeaker l E o_h o_a0 o_a1 o_a2 o_a3 o_a8 o_a9 o_a11 o_a12 o_a13 o_a14 o_a15 o_a16 o_s o_m o_image o_was o_hasImage o_place o_rowAt o_rowEnd o_numbers o_most o_seed o_kept o_keptKind o_keptFigure o_sort o_size o_element o_thrown p1 r1 h2) ⟨rfl, rfl⟩ ⟨Nat.le_of_ble_eq_true rfl, Nat.le_of_ble_eq_true rfl⟩ ⟨Nat.zero_le _, Nat.zero_le _⟩ hP rfl rfl rfl hG rfl hl.1 rfl (Nat.le_of_ble_eq_true rfl) dX10_speaker_2 rfl ?_
  refine lv_if_eq (tgt := 18) hx hb dX10_speaker_5 (by decide) (fun c3 => ?_) (fun c3 => ?_)
  · have hv := if_y c3 hv
    refine lv_iconst (v := (-1 : Int32)) hx hb dX10_speaker_18 (by decide) ?_
    exact W.iret (v := (-1 : Int32)) hx hb hr (fun t h9 _ => ⟨rv_i hv, h9⟩) (fun q h => absurd h List.not_mem_nil) dX10_speaker_19 hlk
  · have hv := if_n c3 hv
    refine lv_iload_n hx hb dX10_speaker_8 rfl (lv_at hl 2 rfl) ?_
    refine lv_iconst (v := (0 : Int32)) hx hb dX10_speaker_9 (by decide) ?_
    refine lv_bipush (v := (6 : Int32)) hx hb dX10_speaker_10 (by decide) ?_
    obtain ⟨r4, h5, hv⟩ := ob_s hv
    refine rdS (rest := []) (st1 := [.int r4]) (w := []) hC q_X10_isIn kw_4_200 (c_X10_isIn l E p2 (0 : Int32) (6 : Int32) r4 h5) ⟨rfl, rfl⟩ ⟨Nat.le_of_ble_eq_true rfl, Nat.le_of_ble_eq_true rfl⟩ ⟨Nat.zero_le _, Nat.zero_le _⟩ (hP.sub (ws' := []) [] rfl) hG rfl hl.1 rfl (Nat.le_of_ble_eq_true rfl) dX10_speaker_12 rfl ?_
    refine lv_if_ne (tgt := 20) hx hb dX10_speaker_15 (by decide) (fun c6 => ?_) (fun c6 => ?_)
    · have hv := if_n c6 hv
      refine lv_iload_n hx hb dX10_speaker_20 rfl (lv_at hl 2 rfl) ?_
      rcases Decidable.em (p2 = (3 : Int32)) with c7 | c7
      · have hv := if_y c7 hv
        refine lv_tableIn (tgt := 52) (off := 31) hx hb dX10_speaker_21 (by rw [c7]; decide) (by rw [c7]; decide) (by rw [c7]; rfl) (by decide) ?_
        refine lv_aload_n hx hb dX10_speaker_52 rfl (lv_at hl 0 rfl) ?_
        refine va_get (D := E.1) (ci := 4) (v := .ref o_a0) (C := RX10) (T := TX10) (N := 18) hx hb ht i_X10 hown hK hP 0 rfl rfl 0 (by decide) (ht _ kw_4_134) (fun _ h9 => h9) rfl dX10_speaker_53 ?_
        refine lv_iload_n hx hb dX10_speaker_56 rfl (lv_at hl 1 rfl) ?_
        refine lv_iconst (v := (3 : Int32)) hx hb dX10_speaker_57 (by decide) ?_
        obtain ⟨r8, h9, hv⟩ := ob_s hv
        refine rdS (rest := [.ref o_a0]) (st1 := [.int r8, .ref o_a0]) (w := []) hC q_X10_of kw_4_226 (c_X10_of l E p1 (3 : Int32) r8 h9) ⟨rfl, rfl⟩ ⟨Nat.le_of_ble_eq_true rfl, Nat.le_of_ble_eq_true rfl⟩ ⟨Nat.zero_le _, Nat.zero_le _⟩ (hP.sub (ws' := []) [] rfl) hG rfl hl.1 rfl (Nat.le_of_ble_eq_true rfl) dX10_speaker_58 rfl ?_
        obtain ⟨g10, hv⟩ := gd_s hv
        refine va_iald hx hb hK hP 1 0 rfl rfl (ix_s g10) dX10_speaker_61 ?_
        refine lv_bipush (v := (9 : Int32)) hx hb dX10_speaker_62 (by decide) ?_
        refine lv_iadd hx hb dX10_speaker_64 ?_
        exact W.iret (v := ((o_s r8.toNatClampNeg) + (9 : Int32))) hx hb hr (fun t h9 _ => ⟨rv_i hv, h9⟩) (fun q h => absurd h List.not_mem_nil) dX10_speaker_65 hlk
      · have hv := if_n c7 hv
        rcases Decidable.em (p2 = (4 : Int32)) with c11 | c11
        · have hv := if_y c11 hv
          refine lv_tableIn (tgt := 66) (off := 45) hx hb dX10_speaker_21 (by rw [c11]; decide) (by rw [c11]; decide) (by rw [c11]; rfl) (by decide) ?_
          refine lv_aload_n hx hb dX10_speaker_66 rfl (lv_at hl 0 rfl) ?_
          refine va_get (D := E.1) (ci := 4) (v := .ref o_a0) (C := RX10) (T := TX10) (N := 18) hx hb ht i_X10 hown hK hP 0 rfl rfl 0 (by decide) (ht _ kw_4_134) (fun _ h9 => h9) rfl dX10_speaker_67 ?_
          refine lv_iload_n hx hb dX10_speaker_70 rfl (lv_at hl 1 rfl) ?_
          obtain ⟨r12, h13, hv⟩ := ob_s hv
          refine rdS (rest := []) (st1 := [.int r12]) (w := [ai E o_a0 42 o_s]) hC q_X10_weight kw_5_24 (c_X10_weight l E o_a0 o_s p1 r12 h13) ⟨rfl, rfl⟩ ⟨Nat.le_of_ble_eq_true rfl, Nat.le_of_ble_eq_true rfl⟩ ⟨Nat.zero_le _, Nat.zero_le _⟩ (hP.sub (ws' := [ai E o_a0 42 o_s]) [1] rfl) hG rfl hl.1 rfl (Nat.le_of_ble_eq_true rfl) dX10_speaker_71 rfl ?_
          exact W.iret (v := r12) hx hb hr (fun t h9 _ => ⟨rv_i hv, h9⟩) (fun q h => absurd h List.not_mem_nil) dX10_speaker_74 hlk
        · have hv := if_n c11 hv
          rcases Decidable.em (p2 = (5 : Int32)) with c14 | c14
          · have hv := if_y c14 hv
            refine lv_tableIn (tgt := 75) (off := 54) hx hb dX10_speaker_21 (by rw [c14]; decide) (by rw [c14]; decide) (by rw [c14]; rfl) (by decide) ?_
            refine lv_aload_n hx hb dX10_speaker_75 rfl (lv_at hl 0 rfl) ?_
            refine va_get (D := E.1) (ci := 4) (v := .ref o_a0) (C := RX10) (T := TX10) (N := 18) hx hb ht i_X10 hown hK hP 0 rfl rfl 0 (by decide) (ht _ kw_4_134) (fun _ h9 => h9) rfl dX10_speaker_76 ?_
            refine lv_iload_n hx hb dX10_speaker_79 rfl (lv_at hl 1 rfl) ?_
            obtain ⟨r15, h16, hv⟩ := ob_s hv
            refine rdS (rest := []) (st1 := [.int r15]) (w := [ai E o_a0 42 o_s]) hC q_X10_isHeard kw_5_2 (c_X10_isHeard l E o_a0 o_s p1 r15 h16) ⟨rfl, rfl⟩ ⟨Nat.le_of_ble_eq_true rfl, Nat.le_of_ble_eq_true rfl⟩ ⟨Nat.zero_le _, Nat.zero_le _⟩ (hP.sub (ws' := [ai E o_a0 42 o_s]) [1] rfl) hG rfl hl.1 rfl (Nat.le_of_ble_eq_true rfl) dX10_speaker_80 rfl ?_
            refine lv_if_eq (tgt := 90) hx hb dX10_speaker_83 (by decide) (fun c17 => ?_) (fun c17 => ?_)
            · have hv := if_y c17 hv
              refine lv_iconst (v := (0 : Int32)) hx hb dX10_speaker_90 (by decide) ?_
              exact W.iret (v := (0 : Int32)) hx hb hr (fun t h9 _ => ⟨rv_i hv, h9⟩) (fun q h => absurd h List.not_mem_nil) dX10_speaker_91 hlk
            · have hv := if_n c17 hv
              refine lv_iconst (v := (1 : Int32)) hx hb dX10_speaker_86 (by decide) ?_
              refine lv_goto (tgt := 91) hx hb dX10_speaker_87 (by decide) ?_
              exact W.iret (v := (1 : Int32)) hx hb hr (fun t h9 _ => ⟨rv_i hv, h9⟩) (fun q h => absurd h List.not_mem_nil) dX10_speaker_91 hlk
          · have hv := if_n c14 hv
            rcases Decidable.em (p2 = (6 : Int32)) with c18 | c18
            · have hv := if_y c18 hv
              refine lv_tableIn (tgt := 92) (off := 71) hx hb dX10_speaker_21 (by rw [c18]; decide) (by rw [c18]; decide) (by rw [c18]; rfl) (by decide) ?_
              refine lv_aload_n hx hb dX10_speaker_92 rfl (lv_at hl 0 rfl) ?_
              refine va_get (D := E.1) (ci := 4) (v := .ref o_a0) (C := RX10) (T := TX10) (N := 18) hx hb ht i_X10 hown hK hP 0 rfl rfl 0 (by decide) (ht _ kw_4_134) (fun _ h9 => h9) rfl dX10_speaker_93 ?_
              refine lv_iload_n hx hb dX10_speaker_96 rfl (lv_at hl 1 rfl) ?_
              refine lv_iconst (v := (0 : Int32)) hx hb dX10_speaker_97 (by decide) ?_
              obtain ⟨r19, h20, hv⟩ := ob_s hv
              refine rdS (rest := [.ref o_a0]) (st1 := [.int r19, .ref o_a0]) (w := []) hC q_X10_of kw_4_226 (c_X10_of l E p1 (0 : Int32) r19 h20) ⟨rfl, rfl⟩ ⟨Nat.le_of_ble_eq_true rfl, Nat.le_of_ble_eq_true rfl⟩ ⟨Nat.zero_le _, Nat.zero_le _⟩ (hP.sub (ws' := []) [] rfl) hG rfl hl.1 rfl (Nat.le_of_ble_eq_true rfl) dX10_speaker_98 rfl ?_
              obtain ⟨g21, hv⟩ := gd_s hv
              refine va_iald hx hb hK hP 1 0 rfl rfl (ix_s g21) dX10_speaker_101 ?_
              refine lv_aload_n hx hb dX10_speaker_102 rfl (lv_at hl 0 rfl) ?_
              refine va_get (D := E.1) (ci := 4) (v := .ref o_a0) (C := RX10) (T := TX10) (N := 18) hx hb ht i_X10 hown hK hP 0 rfl rfl 0 (by decide) (ht _ kw_4_134) (fun _ h9 => h9) rfl dX10_speaker_103 ?_
              refine lv_iload_n hx hb dX10_speaker_106 rfl (lv_at hl 1 rfl) ?_
              refine lv_iconst (v := (1 : Int32)) hx hb dX10_speaker_107 (by decide) ?_
              obtain ⟨r22, h23, hv⟩ := ob_s hv
              refine rdS (rest := [.ref o_a0, .int (o_s r19.toNatClampNeg)]) (st1 := [.int r22, .ref o_a0, .int (o_s r19.toNatClampNeg)]) (w := []) hC q_X10_of kw_4_226 (c_X10_of l E p1 (1 : Int32) r22 h23) ⟨rfl, rfl⟩ ⟨Nat.le_of_ble_eq_true rfl, Nat.le_of_ble_eq_true rfl⟩ ⟨Nat.zero_le _, Nat.zero_le _⟩ (hP.sub (ws' := []) [] rfl) hG rfl hl.1 rfl (Nat.le_of_ble_eq_true rfl) dX10_speaker_108 rfl ?_
              obtain ⟨g24, hv⟩ := gd_s hv
              refine va_iald hx hb hK hP 1 0 rfl rfl (ix_s g24) dX10_speaker_111 ?_
              obtain ⟨r25, h26, hv⟩ := ob_s hv
              refine rdS (rest := []) (st1 := [.int r25]) (w := []) hC q_X10_swayBy kw_5_17 (c_X10_swayBy l E (o_s r19.toNatClampNeg) (o_s r22.toNatClampNeg) r25 h26) ⟨rfl, rfl⟩ ⟨Nat.le_of_ble_eq_true rfl, Nat.le_of_ble_eq_true rfl⟩ ⟨Nat.zero_le _, Nat.zero_le _⟩ (hP.sub (ws' := []) [] rfl) hG rfl hl.1 rfl (Nat.le_of_ble_eq_true rfl) dX10_speaker_112 rfl ?_
              exact W.iret (v := r25) hx hb hr (fun t h9 _ => ⟨rv_i hv, h9⟩) (fun q h => absurd h List.not_mem_nil) dX10_speaker_115 hlk
            · have hv := if_n c18 hv
              refine lv_tableD (tgt := 116) hx hb dX10_speaker_21 (fun i h => match i, h with | 0, _ => Or.inr (lv_neT c7 (by decide)) | 1, _ => Or.inr (lv_neT c11 (by decide)) | 2, _ => Or.inr (lv_neT c14 (by decide)) | 3, _ => Or.inr (lv_neT c18 (by decide)) | i + 4, h => absurd h (by simp)) rfl (by decide) ?_
              refine lv_aload_n hx hb dX10_speaker_116 rfl (lv_at hl 0 rfl) ?_
              refine va_get (D := E.1) (ci := 4) (v := .ref o_a0) (C := RX10) (T := TX10) (N := 18) hx hb ht i_X10 hown hK hP 0 rfl rfl 0 (by decide) (ht _ kw_4_134) (fun _ h9 => h9) rfl dX10_speaker_117 ?_
              refine lv_iload_n hx hb dX10_speaker_120 rfl (lv_at hl 1 rfl) ?_
              refine lv_iload_n hx hb dX10_speaker_121 rfl (lv_at hl 2 rfl) ?_
              obtain ⟨r27, h28, hv⟩ := ob_s hv
              refine rdS (rest := [.ref o_a0]) (st1 := [.int r27, .ref o_a0]) (w := []) hC q_X10_of kw_4_226 (c_X10_of l E p1 p2 r27 h28) ⟨rfl, rfl⟩ ⟨Nat.le_of_ble_eq_true rfl, Nat.le_of_ble_eq_true rfl⟩ ⟨Nat.zero_le _, Nat.zero_le _⟩ (hP.sub (ws' := []) [] rfl) hG rfl hl.1 rfl (Nat.le_of_ble_eq_true rfl) dX10_speaker_122 rfl ?_
              obtain ⟨g29, hv⟩ := gd_s hv
              refine va_iald hx hb hK hP 1 0 rfl rfl (ix_s g29) dX10_speaker_125 ?_
              exact W.iret (v := (o_s r27.toNatClampNeg)) hx hb hr (fun t h9 _ => ⟨rv_i hv, h9⟩) (fun q h => absurd h List.not_mem_nil) dX10_speaker_126 hlk
    · have hv := if_y c6 hv
      refine lv_iconst (v := (-1 : Int32)) hx hb dX10_speaker_18 (by decide) ?_
      exact W.iret (v := (-1 : Int32)) hx hb hr (fun t h9 _ => ⟨rv_i hv, h9⟩) (fun q h => absurd h List.not_mem_nil) dX10_speaker_19 hlk
theorem dX10_balcony_0 : decode cX10_balcony 0 = .ok (.iload_n 1, 1) := by decide +kernel
theorem dX10_balcony_1 : decode cX10_balcony 1 = .ok (.invokestatic 155, 3) := by decide +kernel
theorem dX10_balcony_4 : decode cX10_balcony 4 = .ok (.ifCond .eq 12, 3) := by decide +kernel
theorem dX10_balcony_7 : decode cX10_balcony 7 = .ok (.iload_n 2, 1) := by decide +kernel
theorem dX10_balcony_8 : decode cX10_balcony 8 = .ok (.iconst 0, 1) := by decide +kernel
theorem dX10_balcony_9 : decode cX10_balcony 9 = .ok (.iconst 2, 1) := by decide +kernel
theorem dX10_balcony_10 : decode cX10_balcony 10 = .ok (.invokestatic 46, 3) := by decide +kernel
theorem dX10_balcony_13 : decode cX10_balcony 13 = .ok (.ifCond .ne 5, 3) := by decide +kernel
theorem dX10_balcony_16 : decode cX10_balcony 16 = .ok (.iconst (-1), 1) := by decide +kernel
theorem dX10_balcony_17 : decode cX10_balcony 17 = .ok (.ireturn, 1) := by decide +kernel
theorem dX10_balcony_18 : decode cX10_balcony 18 = .ok (.iload_n 2, 1) := by decide +kernel
theorem dX10_balcony_19 : decode cX10_balcony 19 = .ok (.ifCond .ne 12, 3) := by decide +kernel
theorem dX10_balcony_22 : decode cX10_balcony 22 = .ok (.aload_n 0, 1) := by decide +kernel
theorem dX10_balcony_23 : decode cX10_balcony 23 = .ok (.getfield 9, 3) := by decide +kernel
theorem dX10_balcony_26 : decode cX10_balcony 26 = .ok (.iconst 4, 1) := by decide +kernel
theorem dX10_balcony_27 : decode cX10_balcony 27 = .ok (.iload_n 1, 1) := by decide +kernel
theorem dX10_balcony_28 : decode cX10_balcony 28 = .ok (.iadd, 1) := by decide +kernel
theorem dX10_balcony_29 : decode cX10_balcony 29 = .ok (.iaload, 1) := by decide +kernel
theorem dX10_balcony_30 : decode cX10_balcony 30 = .ok (.ireturn, 1) := by decide +kernel
theorem dX10_balcony_31 : decode cX10_balcony 31 = .ok (.iload_n 2, 1) := by decide +kernel
theorem dX10_balcony_32 : decode cX10_balcony 32 = .ok (.iconst 1, 1) := by decide +kernel
theorem dX10_balcony_33 : decode cX10_balcony 33 = .ok (.if_icmp .ne 14, 3) := by decide +kernel
theorem dX10_balcony_36 : decode cX10_balcony 36 = .ok (.aload_n 0, 1) := by decide +kernel
theorem dX10_balcony_37 : decode cX10_balcony 37 = .ok (.getfield 9, 3) := by decide +kernel
theorem dX10_balcony_40 : decode cX10_balcony 40 = .ok (.iconst 3, 1) := by decide +kernel
theorem dX10_balcony_41 : decode cX10_balcony 41 = .ok (.iaload, 1) := by decide +kernel
theorem dX10_balcony_42 : decode cX10_balcony 42 = .ok (.iload_n 1, 1) := by decide +kernel
theorem dX10_balcony_43 : decode cX10_balcony 43 = .ok (.ishr, 1) := by decide +kernel
theorem dX10_balcony_44 : decode cX10_balcony 44 = .ok (.iconst 1, 1) := by decide +kernel
theorem dX10_balcony_45 : decode cX10_balcony 45 = .ok (.iand, 1) := by decide +kernel
theorem dX10_balcony_46 : decode cX10_balcony 46 = .ok (.ireturn, 1) := by decide +kernel
theorem dX10_balcony_47 : decode cX10_balcony 47 = .ok (.iconst 0, 1) := by decide +kernel
theorem dX10_balcony_48 : decode cX10_balcony 48 = .ok (.istore_n 3, 1) := by decide +kernel
theorem dX10_balcony_49 : decode cX10_balcony 49 = .ok (.iconst 0, 1) := by decide +kernel
theorem dX10_balcony_50 : decode cX10_balcony 50 = .ok (.istore 4, 2) := by decide +kernel
theorem dX10_balcony_52 : decode cX10_balcony 52 = .ok (.iload 4, 2) := by decide +kernel
theorem dX10_balcony_54 : decode cX10_balcony 54 = .ok (.aload_n 0, 1) := by decide +kernel
theorem dX10_balcony_55 : decode cX10_balcony 55 = .ok (.getfield 9, 3) := by decide +kernel
theorem dX10_balcony_58 : decode cX10_balcony 58 = .ok (.iconst 0, 1) := by decide +kernel
theorem dX10_balcony_59 : decode cX10_balcony 59 = .ok (.iaload, 1) := by decide +kernel
theorem dX10_balcony_60 : decode cX10_balcony 60 = .ok (.if_icmp .ge 35, 3) := by decide +kernel
theorem dX10_balcony_63 : decode cX10_balcony 63 = .ok (.iload_n 3, 1) := by decide +kernel
theorem dX10_balcony_64 : decode cX10_balcony 64 = .ok (.aload_n 0, 1) := by decide +kernel
theorem dX10_balcony_65 : decode cX10_balcony 65 = .ok (.getfield 9, 3) := by decide +kernel
theorem dX10_balcony_68 : decode cX10_balcony 68 = .ok (.iload 4, 2) := by decide +kernel
theorem dX10_balcony_70 : decode cX10_balcony 70 = .ok (.iconst 2, 1) := by decide +kernel
theorem dX10_balcony_71 : decode cX10_balcony 71 = .ok (.invokestatic 50, 3) := by decide +kernel
theorem dX10_balcony_74 : decode cX10_balcony 74 = .ok (.iaload, 1) := by decide +kernel
theorem dX10_balcony_75 : decode cX10_balcony 75 = .ok (.iload_n 1, 1) := by decide +kernel
theorem dX10_balcony_76 : decode cX10_balcony 76 = .ok (.if_icmp .ne 10, 3) := by decide +kernel
theorem dX10_balcony_79 : decode cX10_balcony 79 = .ok (.iconst 1, 1) := by decide +kernel
theorem dX10_balcony_80 : decode cX10_balcony 80 = .ok (.iload 4, 2) := by decide +kernel
theorem dX10_balcony_82 : decode cX10_balcony 82 = .ok (.ishl, 1) := by decide +kernel
theorem dX10_balcony_83 : decode cX10_balcony 83 = .ok (.goto 4, 3) := by decide +kernel
theorem dX10_balcony_86 : decode cX10_balcony 86 = .ok (.iconst 0, 1) := by decide +kernel
theorem dX10_balcony_87 : decode cX10_balcony 87 = .ok (.ior, 1) := by decide +kernel
theorem dX10_balcony_88 : decode cX10_balcony 88 = .ok (.istore_n 3, 1) := by decide +kernel
theorem dX10_balcony_89 : decode cX10_balcony 89 = .ok (.iinc 4 1, 3) := by decide +kernel
theorem dX10_balcony_92 : decode cX10_balcony 92 = .ok (.goto (-40), 3) := by decide +kernel
theorem dX10_balcony_95 : decode cX10_balcony 95 = .ok (.iload_n 3, 1) := by decide +kernel
theorem dX10_balcony_96 : decode cX10_balcony 96 = .ok (.ireturn, 1) := by decide +kernel
def L_X10_balcony_52 (o_s : Nat → Int32) (p1 : Int32) : Nat → Int32 → Int32 → Option (Int32)
  | 0, _, _ => none
  | n52 + 1, x9, x10 => if (o_s 0) ≤ x9 then some x10 else ob (f_X10_of x9 (2 : Int32)) (fun r12 => gd (ix r12 42) (if (o_s r12.toNatClampNeg) = p1 then nm (x10 ||| ((1 : Int32) <<< (x9 &&& 31))) (fun z16 => L_X10_balcony_52 o_s p1 n52 (x9 + (1 : Int32)) z16) else L_X10_balcony_52 o_s p1 n52 (x9 + (1 : Int32)) (x10 ||| (0 : Int32))))
def f_X10_balcony (N : Nat) (o_s : Nat → Int32) (p1 : Int32) (p2 : Int32) : Option (Int32) := ob (f_X10_isRail p1) (fun r1 => if r1 = 0 then some (-1 : Int32) else ob (f_X10_isIn p2 (0 : Int32) (2 : Int32)) (fun r4 => if r4 = 0 then some (-1 : Int32) else if p2 = 0 then gd (ix ((4 : Int32) + p1) 42) (some (o_s ((4 : Int32) + p1).toNatClampNeg)) else if p2 = (1 : Int32) then some (((o_s 3) >>> (p1 &&& 31)) &&& (1 : Int32)) else L_X10_balcony_52 o_s p1 N (0 : Int32) (0 : Int32)))
set_option maxHeartbeats 4000000 in
set_option maxRecDepth 100000 in
theorem c_X10_balcony (l : Launch) (E : EE) (o_h : Nat) (o_a0 : Nat) (o_a1 : Nat) (o_a2 : Nat) (o_a3 : Nat) (o_a8 : Nat) (o_a9 : Nat) (o_a11 : Nat) (o_a12 : Nat) (o_a13 : Nat) (o_a14 : Nat) (o_a15 : Nat) (o_a16 : Nat) (o_s : Nat → Int32) (o_m : Nat → Int32) (o_image : Nat → Int32) (o_was : Nat → Int32) (o_hasImage : Int32) (o_place : Int32) (o_rowAt : Int32) (o_rowEnd : Int32) (o_numbers : Nat → Int32) (o_most : Nat → Int32) (o_seed : Int32) (o_kept : Nat → Int32) (o_keptKind : Nat → Int32) (o_keptFigure : Nat → Int32) (o_sort : Nat → Int32) (o_size : Nat → Int32) (o_element : Nat → Int32) (o_thrown : Int32) (p1 : Int32) (p2 : Int32) (N : Nat) (res : Int32) (hv : f_X10_balcony N o_s p1 p2 = some res) : Rd l E yX10_balcony cX10_balcony 5 (some .int) ({ frames := 2, cells := 0, slots := 0, locals := 42 }) [.ref o_h, .int p1, .int p2] [oMo o_h o_a0 o_a1 o_a2 o_a3 o_hasImage o_place o_rowAt o_rowEnd o_a8 o_a9 o_seed o_a11 o_a12 o_a13 o_a14 o_a15 o_a16 o_thrown, ai E o_a0 42 o_s, ai E o_a1 42 o_m, ai E o_a2 42 o_image, ai E o_a3 42 o_was, ai E o_a8 3 o_numbers, ai E o_a9 8192 o_most, ai E o_a11 8 o_kept, ai E o_a12 8 o_keptKind, ai E o_a13 8 o_keptFigure, ai E o_a14 8 o_sort, ai E o_a15 8 o_size, ai E o_a16 800 o_element] (some (.int res)) := by
  refine Rd.intro RX10 (by decide) rfl (Nat.le_of_ble_eq_true rfl) ?_
  intro p e s m below meth c ls hC hr hlk hP hG hl
  obtain ⟨hx, hb, hml, hown, ht⟩ := id hC
  have hK := hG.1
  have hl : lv_has ls 5 [(0, .ref o_h), (1, .int p1), (2, .int p2)] := hl
  rw [f_X10_balcony] at hv
  refine lv_iload_n hx hb dX10_balcony_0 rfl (lv_at hl 1 rfl) ?_
  obtain ⟨r1, h2, hv⟩ := ob_s hv
  refine rdS (rest := []) (st1 := [.int r1]) (w := []) hC q_X10_isRail kw_5_34 (c_X10_isRail l E p1 r1 h2) ⟨rfl, rfl⟩ ⟨Nat.le_of_ble_eq_true rfl, Nat.le_of_ble_eq_true rfl⟩ ⟨Nat.zero_le _, Nat.zero_le _⟩ (hP.sub (ws' := []) [] rfl) hG rfl hl.1 rfl (Nat.le_of_ble_eq_true rfl) dX10_balcony_1 rfl ?_
  refine lv_if_eq (tgt := 16) hx hb dX10_balcony_4 (by decide) (fun c3 => ?_) (fun c3 => ?_)
  · have hv := if_y c3 hv
    refine lv_iconst (v := (-1 : Int32)) hx hb dX10_balcony_16 (by decide) ?_
    exact W.iret (v := (-1 : Int32)) hx hb hr (fun t h9 _ => ⟨rv_i hv, h9⟩) (fun q h => absurd h List.not_mem_nil) dX10_balcony_17 hlk
  · have hv := if_n c3 hv
    refine lv_iload_n hx hb dX10_balcony_7 rfl (lv_at hl 2 rfl) ?_
    refine lv_iconst (v := (0 : Int32)) hx hb dX10_balcony_8 (by decide) ?_
    refine lv_iconst (v := (2 : Int32)) hx hb dX10_balcony_9 (by decide) ?_
    obtain ⟨r4, h5, hv⟩ := ob_s hv
    refine rdS (rest := []) (st1 := [.int r4]) (w := []) hC q_X10_isIn kw_4_200 (c_X10_isIn l E p2 (0 : Int32) (2 : Int32) r4 h5) ⟨rfl, rfl⟩ ⟨Nat.le_of_ble_eq_true rfl, Nat.le_of_ble_eq_true rfl⟩ ⟨Nat.zero_le _, Nat.zero_le _⟩ (hP.sub (ws' := []) [] rfl) hG rfl hl.1 rfl (Nat.le_of_ble_eq_true rfl) dX10_balcony_10 rfl ?_
    refine lv_if_ne (tgt := 18) hx hb dX10_balcony_13 (by decide) (fun c6 => ?_) (fun c6 => ?_)
    · have hv := if_n c6 hv
      refine lv_iload_n hx hb dX10_balcony_18 rfl (lv_at hl 2 rfl) ?_
      refine lv_if_ne (tgt := 31) hx hb dX10_balcony_19 (by decide) (fun c7 => ?_) (fun c7 => ?_)
      · have hv := if_n c7 hv
        refine lv_iload_n hx hb dX10_balcony_31 rfl (lv_at hl 2 rfl) ?_
        refine lv_iconst (v := (1 : Int32)) hx hb dX10_balcony_32 (by decide) ?_
        refine lv_icmp_ne (tgt := 47) hx hb dX10_balcony_33 (by decide) (fun c8 => ?_) (fun c8 => ?_)
        · have hv := if_n c8 hv
          refine lv_iconst (v := (0 : Int32)) hx hb dX10_balcony_47 (by decide) ?_
          refine lv_istore_n (lv' := [(3, .int (0 : Int32)), (0, .ref o_h), (1, .int p1), (2, .int p2)]) hx hb dX10_balcony_48 rfl hl (by decide) rfl (fun ls hl => ?_)
          refine lv_iconst (v := (0 : Int32)) hx hb dX10_balcony_49 (by decide) ?_
          refine lv_istore (lv' := [(4, .int (0 : Int32)), (3, .int (0 : Int32)), (0, .ref o_h), (1, .int p1), (2, .int p2)]) hx hb dX10_balcony_50 hl (by decide) rfl (fun ls hl => ?_)
          have hL52 : ∀ (n : Nat) (x9 : Int32) (x10 : Int32) (ls : Array Slot), lv_has ls 5 [(4, .int x9), (3, .int x10), (0, .ref o_h), (1, .int p1)] → L_X10_balcony_52 o_s p1 n x9 x10 = some res → W p l e ({ frames := 2, cells := 0, slots := 0, locals := 42 }) s m [.ref o_h, .int p1, .int p2].toArray below meth c s.heap [] 0 0 (MQ below (RdQ (some (.int res))) [.ref o_h, .int p1, .int p2].toArray s 0 0 (fun _ => False)) (F0 m 52 ls []) := by
            intro n
            induction n with
            | zero => intro x9 x10 ls hl hv; cases hv
            | succ n52 ih52 =>
              intro x9 x10 ls hl hv
              rw [L_X10_balcony_52] at hv
              refine lv_iload hx hb dX10_balcony_52 (lv_at hl 0 rfl) ?_
              refine lv_aload_n hx hb dX10_balcony_54 rfl (lv_at hl 2 rfl) ?_
              refine va_get (D := E.1) (ci := 4) (v := .ref o_a0) (C := RX10) (T := TX10) (N := 18) hx hb ht i_X10 hown hK hP 0 rfl rfl 0 (by decide) (ht _ kw_4_134) (fun _ h9 => h9) rfl dX10_balcony_55 ?_
              refine lv_iconst (v := (0 : Int32)) hx hb dX10_balcony_58 (by decide) ?_
              refine va_iald hx hb hK hP 1 0 rfl rfl (ix_s (by decide)) dX10_balcony_59 ?_
              refine W.eq (g2 := F0 m 60 ls [.int (o_s 0), .int x9]) rfl ?_
              refine lv_icmp_ge (tgt := 95) hx hb dX10_balcony_60 (by decide) (fun c11 => ?_) (fun c11 => ?_)
              · have hv := if_y c11 hv
                refine lv_iload_n hx hb dX10_balcony_95 rfl (lv_at hl 1 rfl) ?_
                exact W.iret (v := x10) hx hb hr (fun t h9 _ => ⟨rv_i hv, h9⟩) (fun q h => absurd h List.not_mem_nil) dX10_balcony_96 hlk
              · have hv := if_n c11 hv
                refine lv_iload_n hx hb dX10_balcony_63 rfl (lv_at hl 1 rfl) ?_
                refine lv_aload_n hx hb dX10_balcony_64 rfl (lv_at hl 2 rfl) ?_
                refine va_get (D := E.1) (ci := 4) (v := .ref o_a0) (C := RX10) (T := TX10) (N := 18) hx hb ht i_X10 hown hK hP 0 rfl rfl 0 (by decide) (ht _ kw_4_134) (fun _ h9 => h9) rfl dX10_balcony_65 ?_
                refine lv_iload hx hb dX10_balcony_68 (lv_at hl 0 rfl) ?_
                refine lv_iconst (v := (2 : Int32)) hx hb dX10_balcony_70 (by decide) ?_
                obtain ⟨r12, h13, hv⟩ := ob_s hv
                refine rdS (rest := [.ref o_a0, .int x10]) (st1 := [.int r12, .ref o_a0, .int x10]) (w := []) hC q_X10_of kw_4_226 (c_X10_of l E x9 (2 : Int32) r12 h13) ⟨rfl, rfl⟩ ⟨Nat.le_of_ble_eq_true rfl, Nat.le_of_ble_eq_true rfl⟩ ⟨Nat.zero_le _, Nat.zero_le _⟩ (hP.sub (ws' := []) [] rfl) hG rfl hl.1 rfl (Nat.le_of_ble_eq_true rfl) dX10_balcony_71 rfl ?_
                obtain ⟨g14, hv⟩ := gd_s hv
                refine va_iald hx hb hK hP 1 0 rfl rfl (ix_s g14) dX10_balcony_74 ?_
                refine lv_iload_n hx hb dX10_balcony_75 rfl (lv_at hl 3 rfl) ?_
                refine lv_icmp_ne (tgt := 86) hx hb dX10_balcony_76 (by decide) (fun c15 => ?_) (fun c15 => ?_)
                · have hv := if_n c15 hv
                  refine lv_iconst (v := (0 : Int32)) hx hb dX10_balcony_86 (by decide) ?_
                  refine lv_ior hx hb dX10_balcony_87 ?_
                  refine lv_istore_n (lv' := [(3, .int (x10 ||| (0 : Int32))), (4, .int x9), (0, .ref o_h), (1, .int p1)]) hx hb dX10_balcony_88 rfl hl (by decide) rfl (fun ls hl => ?_)
                  refine lv_iinc (v := (x9 + (1 : Int32))) (lv' := [(4, .int (x9 + (1 : Int32))), (3, .int (x10 ||| (0 : Int32))), (0, .ref o_h), (1, .int p1)]) hx hb dX10_balcony_89 hl (k := 1) rfl rfl (by decide) rfl (fun ls hl => ?_)
                  refine lv_goto (tgt := 52) hx hb dX10_balcony_92 (by decide) ?_
                  exact ih52 (x9 + (1 : Int32)) (x10 ||| (0 : Int32)) _ (lv_sub hl [0, 1, 2, 3] rfl) hv
                · have hv := if_y c15 hv
                  refine lv_iconst (v := (1 : Int32)) hx hb dX10_balcony_79 (by decide) ?_
                  refine lv_iload hx hb dX10_balcony_80 (lv_at hl 0 rfl) ?_
                  refine lv_ishl hx hb dX10_balcony_82 ?_
                  refine lv_goto (tgt := 87) hx hb dX10_balcony_83 (by decide) ?_
                  refine lv_ior hx hb dX10_balcony_87 ?_
                  refine lv_topi (fun z16 ez16 => ?_)
                  have hv := nm_s ez16 hv
                  refine lv_istore_n (lv' := [(3, .int z16), (4, .int x9), (0, .ref o_h), (1, .int p1)]) hx hb dX10_balcony_88 rfl hl (by decide) rfl (fun ls hl => ?_)
                  refine lv_iinc (v := (x9 + (1 : Int32))) (lv' := [(4, .int (x9 + (1 : Int32))), (3, .int z16), (0, .ref o_h), (1, .int p1)]) hx hb dX10_balcony_89 hl (k := 1) rfl rfl (by decide) rfl (fun ls hl => ?_)
                  refine lv_goto (tgt := 52) hx hb dX10_balcony_92 (by decide) ?_
                  exact ih52 (x9 + (1 : Int32)) z16 _ (lv_sub hl [0, 1, 2, 3] rfl) hv
          exact hL52 N (0 : Int32) (0 : Int32) _ (lv_sub hl [0, 1, 2, 3] rfl) hv
        · have hv := if_y c8 hv
          refine lv_aload_n hx hb dX10_balcony_36 rfl (lv_at hl 0 rfl) ?_
          refine va_get (D := E.1) (ci := 4) (v := .ref o_a0) (C := RX10) (T := TX10) (N := 18) hx hb ht i_X10 hown hK hP 0 rfl rfl 0 (by decide) (ht _ kw_4_134) (fun _ h9 => h9) rfl dX10_balcony_37 ?_
          refine lv_iconst (v := (3 : Int32)) hx hb dX10_balcony_40 (by decide) ?_
          refine va_iald hx hb hK hP 1 0 rfl rfl (ix_s (by decide)) dX10_balcony_41 ?_
          refine W.eq (g2 := F0 m 42 ls [.int (o_s 3)]) rfl ?_
          refine lv_iload_n hx hb dX10_balcony_42 rfl (lv_at hl 1 rfl) ?_
          refine lv_ishr hx hb dX10_balcony_43 ?_
          refine lv_iconst (v := (1 : Int32)) hx hb dX10_balcony_44 (by decide) ?_
          refine lv_iand hx hb dX10_balcony_45 ?_
          exact W.iret (v := (((o_s 3) >>> (p1 &&& 31)) &&& (1 : Int32))) hx hb hr (fun t h9 _ => ⟨rv_i hv, h9⟩) (fun q h => absurd h List.not_mem_nil) dX10_balcony_46 hlk
      · have hv := if_y c7 hv
        refine lv_aload_n hx hb dX10_balcony_22 rfl (lv_at hl 0 rfl) ?_
        refine va_get (D := E.1) (ci := 4) (v := .ref o_a0) (C := RX10) (T := TX10) (N := 18) hx hb ht i_X10 hown hK hP 0 rfl rfl 0 (by decide) (ht _ kw_4_134) (fun _ h9 => h9) rfl dX10_balcony_23 ?_
        refine lv_iconst (v := (4 : Int32)) hx hb dX10_balcony_26 (by decide) ?_
        refine lv_iload_n hx hb dX10_balcony_27 rfl (lv_at hl 1 rfl) ?_
        refine lv_iadd hx hb dX10_balcony_28 ?_
        obtain ⟨g17, hv⟩ := gd_s hv
        refine va_iald hx hb hK hP 1 0 rfl rfl (ix_s g17) dX10_balcony_29 ?_
        exact W.iret (v := (o_s ((4 : Int32) + p1).toNatClampNeg)) hx hb hr (fun t h9 _ => ⟨rv_i hv, h9⟩) (fun q h => absurd h List.not_mem_nil) dX10_balcony_30 hlk
    · have hv := if_y c6 hv
      refine lv_iconst (v := (-1 : Int32)) hx hb dX10_balcony_16 (by decide) ?_
      exact W.iret (v := (-1 : Int32)) hx hb hr (fun t h9 _ => ⟨rv_i hv, h9⟩) (fun q h => absurd h List.not_mem_nil) dX10_balcony_17 hlk
theorem dX10_comes_0 : decode cX10_comes 0 = .ok (.iload_n 2, 1) := by decide +kernel
theorem dX10_comes_1 : decode cX10_comes 1 = .ok (.invokestatic 155, 3) := by decide +kernel
theorem dX10_comes_4 : decode cX10_comes 4 = .ok (.ifCond .ne 5, 3) := by decide +kernel
theorem dX10_comes_7 : decode cX10_comes 7 = .ok (.iconst (-1), 1) := by decide +kernel
theorem dX10_comes_8 : decode cX10_comes 8 = .ok (.ireturn, 1) := by decide +kernel
theorem dX10_comes_9 : decode cX10_comes 9 = .ok (.aload_n 0, 1) := by decide +kernel
theorem dX10_comes_10 : decode cX10_comes 10 = .ok (.iload_n 1, 1) := by decide +kernel
theorem dX10_comes_11 : decode cX10_comes 11 = .ok (.invokevirtual 158, 3) := by decide +kernel
theorem dX10_comes_14 : decode cX10_comes 14 = .ok (.istore_n 3, 1) := by decide +kernel
theorem dX10_comes_15 : decode cX10_comes 15 = .ok (.iload_n 3, 1) := by decide +kernel
theorem dX10_comes_16 : decode cX10_comes 16 = .ok (.ifCond .eq 5, 3) := by decide +kernel
theorem dX10_comes_19 : decode cX10_comes 19 = .ok (.iload_n 3, 1) := by decide +kernel
theorem dX10_comes_20 : decode cX10_comes 20 = .ok (.ireturn, 1) := by decide +kernel
theorem dX10_comes_21 : decode cX10_comes 21 = .ok (.aload_n 0, 1) := by decide +kernel
theorem dX10_comes_22 : decode cX10_comes 22 = .ok (.getfield 9, 3) := by decide +kernel
theorem dX10_comes_25 : decode cX10_comes 25 = .ok (.iconst 0, 1) := by decide +kernel
theorem dX10_comes_26 : decode cX10_comes 26 = .ok (.iaload, 1) := by decide +kernel
theorem dX10_comes_27 : decode cX10_comes 27 = .ok (.bipush 7, 2) := by decide +kernel
theorem dX10_comes_29 : decode cX10_comes 29 = .ok (.if_icmp .ne 6, 3) := by decide +kernel
theorem dX10_comes_32 : decode cX10_comes 32 = .ok (.bipush (-2), 2) := by decide +kernel
theorem dX10_comes_34 : decode cX10_comes 34 = .ok (.ireturn, 1) := by decide +kernel
theorem dX10_comes_35 : decode cX10_comes 35 = .ok (.aload_n 0, 1) := by decide +kernel
theorem dX10_comes_36 : decode cX10_comes 36 = .ok (.aload_n 0, 1) := by decide +kernel
theorem dX10_comes_37 : decode cX10_comes 37 = .ok (.getfield 31, 3) := by decide +kernel
theorem dX10_comes_40 : decode cX10_comes 40 = .ok (.iload_n 1, 1) := by decide +kernel
theorem dX10_comes_41 : decode cX10_comes 41 = .ok (.iaload, 1) := by decide +kernel
theorem dX10_comes_42 : decode cX10_comes 42 = .ok (.aload_n 0, 1) := by decide +kernel
theorem dX10_comes_43 : decode cX10_comes 43 = .ok (.getfield 34, 3) := by decide +kernel
theorem dX10_comes_46 : decode cX10_comes 46 = .ok (.iload_n 1, 1) := by decide +kernel
theorem dX10_comes_47 : decode cX10_comes 47 = .ok (.iaload, 1) := by decide +kernel
theorem dX10_comes_48 : decode cX10_comes 48 = .ok (.iload_n 2, 1) := by decide +kernel
theorem dX10_comes_49 : decode cX10_comes 49 = .ok (.invokevirtual 130, 3) := by decide +kernel
theorem dX10_comes_52 : decode cX10_comes 52 = .ok (.aload_n 0, 1) := by decide +kernel
theorem dX10_comes_53 : decode cX10_comes 53 = .ok (.getfield 9, 3) := by decide +kernel
theorem dX10_comes_56 : decode cX10_comes 56 = .ok (.iconst 0, 1) := by decide +kernel
theorem dX10_comes_57 : decode cX10_comes 57 = .ok (.iaload, 1) := by decide +kernel
theorem dX10_comes_58 : decode cX10_comes 58 = .ok (.iconst 1, 1) := by decide +kernel
theorem dX10_comes_59 : decode cX10_comes 59 = .ok (.isub, 1) := by decide +kernel
theorem dX10_comes_60 : decode cX10_comes 60 = .ok (.ireturn, 1) := by decide +kernel
def f_X10_comes (o_s : Nat → Int32) (o_kept : Nat → Int32) (o_keptKind : Nat → Int32) (o_keptFigure : Nat → Int32) (p1 : Int32) (p2 : Int32) : Option (Int32 × (Nat → Int32)) := ob (f_X10_isRail p2) (fun r1 => if r1 = 0 then nm (-1 : Int32) (fun z14 => some (z14, o_s)) else ob (f_X10_wrongKept o_kept p1) (fun r4 => if r4 = 0 then if (o_s 0) = (7 : Int32) then nm (-2 : Int32) (fun z13 => some (z13, o_s)) else gd (ix p1 8) (gd (ix p1 8) (ob (f_X10_adds o_s (o_keptKind p1.toNatClampNeg) (o_keptFigure p1.toNatClampNeg) p2) (fun y10 => nm ((y10 0) - (1 : Int32)) (fun z12 => some (z12, y10))))) else some (r4, o_s)))
set_option maxHeartbeats 4000000 in
set_option maxRecDepth 100000 in
theorem c_X10_comes (l : Launch) (E : EE) (o_h : Nat) (o_a0 : Nat) (o_a1 : Nat) (o_a2 : Nat) (o_a3 : Nat) (o_a8 : Nat) (o_a9 : Nat) (o_a11 : Nat) (o_a12 : Nat) (o_a13 : Nat) (o_a14 : Nat) (o_a15 : Nat) (o_a16 : Nat) (o_s : Nat → Int32) (o_m : Nat → Int32) (o_image : Nat → Int32) (o_was : Nat → Int32) (o_hasImage : Int32) (o_place : Int32) (o_rowAt : Int32) (o_rowEnd : Int32) (o_numbers : Nat → Int32) (o_most : Nat → Int32) (o_seed : Int32) (o_kept : Nat → Int32) (o_keptKind : Nat → Int32) (o_keptFigure : Nat → Int32) (o_sort : Nat → Int32) (o_size : Nat → Int32) (o_element : Nat → Int32) (o_thrown : Int32) (p1 : Int32) (p2 : Int32) (res : Int32) (w_o_s : Nat → Int32) (hv : f_X10_comes o_s o_kept o_keptKind o_keptFigure p1 p2 = some (res, w_o_s)) : Wr l E yX10_comes cX10_comes 4 (some .int) ({ frames := 3, cells := 0, slots := 0, locals := 63 }) [.ref o_h, .int p1, .int p2] [oMo o_h o_a0 o_a1 o_a2 o_a3 o_hasImage o_place o_rowAt o_rowEnd o_a8 o_a9 o_seed o_a11 o_a12 o_a13 o_a14 o_a15 o_a16 o_thrown, ai E o_a0 42 o_s, ai E o_a1 42 o_m, ai E o_a2 42 o_image, ai E o_a3 42 o_was, ai E o_a8 3 o_numbers, ai E o_a9 8192 o_most, ai E o_a11 8 o_kept, ai E o_a12 8 o_keptKind, ai E o_a13 8 o_keptFigure, ai E o_a14 8 o_sort, ai E o_a15 8 o_size, ai E o_a16 800 o_element] [oMo o_h o_a0 o_a1 o_a2 o_a3 o_hasImage o_place o_rowAt o_rowEnd o_a8 o_a9 o_seed o_a11 o_a12 o_a13 o_a14 o_a15 o_a16 o_thrown, ai E o_a0 42 w_o_s, ai E o_a1 42 o_m, ai E o_a2 42 o_image, ai E o_a3 42 o_was, ai E o_a8 3 o_numbers, ai E o_a9 8192 o_most, ai E o_a11 8 o_kept, ai E o_a12 8 o_keptKind, ai E o_a13 8 o_keptFigure, ai E o_a14 8 o_sort, ai E o_a15 8 o_size, ai E o_a16 800 o_element] (some (.int res)) := by
  refine Wr.intro RX10 (by decide) rfl (Nat.le_of_ble_eq_true rfl) ?_
  intro p e s m below meth c ls A hC hr hlk hmn hP hD hS hA hG hl
  obtain ⟨hx, hb, hml, hown, ht⟩ := id hC
  have hK := hG.1
  have hl : lv_has ls 4 [(0, .ref o_h), (1, .int p1), (2, .int p2)] := hl
  rw [f_X10_comes] at hv
  refine lv_iload_n hx hb dX10_comes_0 rfl (lv_at hl 2 rfl) ?_
  obtain ⟨r1, h2, hv⟩ := ob_s hv
  refine rdS (rest := []) (st1 := [.int r1]) (w := []) hC q_X10_isRail kw_5_34 (c_X10_isRail l E p2 r1 h2) ⟨rfl, rfl⟩ ⟨Nat.le_of_ble_eq_true rfl, Nat.le_of_ble_eq_true rfl⟩ ⟨Nat.zero_le _, Nat.zero_le _⟩ (hP.sub (ws' := []) [] rfl) hG rfl hl.1 rfl (Nat.le_of_ble_eq_true rfl) dX10_comes_1 rfl ?_
  refine lv_if_ne (tgt := 9) hx hb dX10_comes_4 (by decide) (fun c3 => ?_) (fun c3 => ?_)
  · have hv := if_n c3 hv
    refine lv_aload_n hx hb dX10_comes_9 rfl (lv_at hl 0 rfl) ?_
    refine lv_iload_n hx hb dX10_comes_10 rfl (lv_at hl 1 rfl) ?_
    obtain ⟨r4, h5, hv⟩ := ob_s hv
    refine rdV 4 0 (As := [.int p1]) (rest := []) (st1 := [.int r4]) (w := [oMo o_h o_a0 o_a1 o_a2 o_a3 o_hasImage o_place o_rowAt o_rowEnd o_a8 o_a9 o_seed o_a11 o_a12 o_a13 o_a14 o_a15 o_a16 o_thrown, ai E o_a0 42 o_s, ai E o_a1 42 o_m, ai E o_a2 42 o_image, ai E o_a3 42 o_was, ai E o_a8 3 o_numbers, ai E o_a9 8192 o_most, ai E o_a11 8 o_kept, ai E o_a12 8 o_keptKind, ai E o_a13 8 o_keptFigure, ai E o_a14 8 o_sort, ai E o_a15 8 o_size, ai E o_a16 800 o_element]) hC q_X10_wrongKept kw_5_41 (c_X10_wrongKept l E o_h o_a0 o_a1 o_a2 o_a3 o_a8 o_a9 o_a11 o_a12 o_a13 o_a14 o_a15 o_a16 o_s o_m o_image o_was o_hasImage o_place o_rowAt o_rowEnd o_numbers o_most o_seed o_kept o_keptKind o_keptFigure o_sort o_size o_element o_thrown p1 r4 h5) ⟨rfl, rfl⟩ ⟨Nat.le_of_ble_eq_true rfl, Nat.le_of_ble_eq_true rfl⟩ ⟨Nat.zero_le _, Nat.zero_le _⟩ hP rfl rfl rfl hG rfl hl.1 rfl (Nat.le_of_ble_eq_true rfl) dX10_comes_11 rfl ?_
    refine lv_istore_n (lv' := [(3, .int r4), (0, .ref o_h), (1, .int p1), (2, .int p2)]) hx hb dX10_comes_14 rfl hl (by decide) rfl (fun ls hl => ?_)
    refine lv_iload_n hx hb dX10_comes_15 rfl (lv_at hl 0 rfl) ?_
    refine lv_if_eq (tgt := 21) hx hb dX10_comes_16 (by decide) (fun c6 => ?_) (fun c6 => ?_)
    · have hv := if_y c6 hv
      refine lv_aload_n hx hb dX10_comes_21 rfl (lv_at hl 1 rfl) ?_
      refine va_get (D := E.1) (ci := 4) (v := .ref o_a0) (C := RX10) (T := TX10) (N := 18) hx hb ht i_X10 hown hK hP 0 rfl rfl 0 (by decide) (ht _ kw_4_134) (fun _ h9 => h9) rfl dX10_comes_22 ?_
      refine lv_iconst (v := (0 : Int32)) hx hb dX10_comes_25 (by decide) ?_
      refine va_iald hx hb hK hP 1 0 rfl rfl (ix_s (by decide)) dX10_comes_26 ?_
      refine W.eq (g2 := F0 m 27 ls [.int (o_s 0)]) rfl ?_
      refine lv_bipush (v := (7 : Int32)) hx hb dX10_comes_27 (by decide) ?_
      refine lv_icmp_ne (tgt := 35) hx hb dX10_comes_29 (by decide) (fun c7 => ?_) (fun c7 => ?_)
      · have hv := if_n c7 hv
        refine lv_aload_n hx hb dX10_comes_35 rfl (lv_at hl 1 rfl) ?_
        refine lv_aload_n hx hb dX10_comes_36 rfl (lv_at hl 1 rfl) ?_
        refine va_get (D := E.1) (ci := 4) (v := .ref o_a12) (C := RX10) (T := TX10) (N := 18) hx hb ht i_X10 hown hK hP 0 rfl rfl 12 (by decide) (ht _ kw_4_146) (fun _ h9 => h9) rfl dX10_comes_37 ?_
        refine lv_iload_n hx hb dX10_comes_40 rfl (lv_at hl 2 rfl) ?_
        obtain ⟨g8, hv⟩ := gd_s hv
        refine va_iald hx hb hK hP 8 0 rfl rfl (ix_s g8) dX10_comes_41 ?_
        refine lv_aload_n hx hb dX10_comes_42 rfl (lv_at hl 1 rfl) ?_
        refine va_get (D := E.1) (ci := 4) (v := .ref o_a13) (C := RX10) (T := TX10) (N := 18) hx hb ht i_X10 hown hK hP 0 rfl rfl 13 (by decide) (ht _ kw_4_147) (fun _ h9 => h9) rfl dX10_comes_43 ?_
        refine lv_iload_n hx hb dX10_comes_46 rfl (lv_at hl 2 rfl) ?_
        obtain ⟨g9, hv⟩ := gd_s hv
        refine va_iald hx hb hK hP 9 0 rfl rfl (ix_s g9) dX10_comes_47 ?_
        refine lv_iload_n hx hb dX10_comes_48 rfl (lv_at hl 3 rfl) ?_
        obtain ⟨y10, h11, hv⟩ := ob_s hv
        refine wrV (as := [o_h, o_a0, o_a1, o_a2, o_a3, o_a8, o_a9, o_a11, o_a12, o_a13, o_a14, o_a15, o_a16]) (wr := []) [0, 1, 2, 3, 4, 5, 6, 7, 8, 9, 10, 11, 12] [] 4 0 (ws := [oMo o_h o_a0 o_a1 o_a2 o_a3 o_hasImage o_place o_rowAt o_rowEnd o_a8 o_a9 o_seed o_a11 o_a12 o_a13 o_a14 o_a15 o_a16 o_thrown, ai E o_a0 42 o_s, ai E o_a1 42 o_m, ai E o_a2 42 o_image, ai E o_a3 42 o_was, ai E o_a8 3 o_numbers, ai E o_a9 8192 o_most, ai E o_a11 8 o_kept, ai E o_a12 8 o_keptKind, ai E o_a13 8 o_keptFigure, ai E o_a14 8 o_sort, ai E o_a15 8 o_size, ai E o_a16 800 o_element]) (ws' := [oMo o_h o_a0 o_a1 o_a2 o_a3 o_hasImage o_place o_rowAt o_rowEnd o_a8 o_a9 o_seed o_a11 o_a12 o_a13 o_a14 o_a15 o_a16 o_thrown, ai E o_a0 42 y10, ai E o_a1 42 o_m, ai E o_a2 42 o_image, ai E o_a3 42 o_was, ai E o_a8 3 o_numbers, ai E o_a9 8192 o_most, ai E o_a11 8 o_kept, ai E o_a12 8 o_keptKind, ai E o_a13 8 o_keptFigure, ai E o_a14 8 o_sort, ai E o_a15 8 o_size, ai E o_a16 800 o_element]) (As := [.int (o_keptKind p1.toNatClampNeg), .int (o_keptFigure p1.toNatClampNeg), .int p2]) (rest := []) (st1 := []) hC q_X10_adds kw_4_222 (c_X10_adds l E o_h o_a0 o_a1 o_a2 o_a3 o_a8 o_a9 o_a11 o_a12 o_a13 o_a14 o_a15 o_a16 o_s o_m o_image o_was o_hasImage o_place o_rowAt o_rowEnd o_numbers o_most o_seed o_kept o_keptKind o_keptFigure o_sort o_size o_element o_thrown (o_keptKind p1.toNatClampNeg) (o_keptFigure p1.toNatClampNeg) p2 y10 h11) ⟨rfl, rfl⟩ ⟨Nat.le_of_ble_eq_true rfl, Nat.le_of_ble_eq_true rfl⟩ ⟨Nat.zero_le _, Nat.zero_le _⟩ hP hD hS hA rfl rfl rfl hG (by decide) rfl rfl rfl rfl rfl rfl rfl rfl hl.1 rfl (Nat.le_of_ble_eq_true rfl) dX10_comes_49 rfl (fun H locs hP hD hS => ?_)
        refine lv_aload_n hx hb dX10_comes_52 rfl (lv_at hl 1 rfl) ?_
        refine va_get (D := E.1) (ci := 4) (v := .ref o_a0) (C := RX10) (T := TX10) (N := 18) hx hb ht i_X10 hown hK hP 0 rfl rfl 0 (by decide) (ht _ kw_4_134) (fun _ h9 => h9) rfl dX10_comes_53 ?_
        refine lv_iconst (v := (0 : Int32)) hx hb dX10_comes_56 (by decide) ?_
        refine va_iald hx hb hK hP 1 0 rfl rfl (ix_s (by decide)) dX10_comes_57 ?_
        refine W.eq (g2 := F0 m 58 ls [.int (y10 0)]) rfl ?_
        refine lv_iconst (v := (1 : Int32)) hx hb dX10_comes_58 (by decide) ?_
        refine lv_isub hx hb dX10_comes_59 ?_
        refine lv_topi (fun z12 ez12 => ?_)
        have hv := nm_s ez12 hv
        cases hv
        exact W.iret hx hb hr (fun t h9 _ => ⟨rfl, by rw [h9]; exact hP, hS.F h9⟩) hS.2.2 dX10_comes_60 hlk
      · have hv := if_y c7 hv
        refine lv_bipush (v := (-2 : Int32)) hx hb dX10_comes_32 (by decide) ?_
        refine lv_topi (fun z13 ez13 => ?_)
        have hv := nm_s ez13 hv
        cases hv
        exact W.iret hx hb hr (fun t h9 _ => ⟨rfl, by rw [h9]; exact hP, hS.F h9⟩) hS.2.2 dX10_comes_34 hlk
    · have hv := if_n c6 hv
      refine lv_iload_n hx hb dX10_comes_19 rfl (lv_at hl 0 rfl) ?_
      cases hv
      exact W.iret hx hb hr (fun t h9 _ => ⟨rfl, by rw [h9]; exact hP, hS.F h9⟩) hS.2.2 dX10_comes_20 hlk
  · have hv := if_y c3 hv
    refine lv_iconst (v := (-1 : Int32)) hx hb dX10_comes_7 (by decide) ?_
    refine lv_topi (fun z14 ez14 => ?_)
    have hv := nm_s ez14 hv
    cases hv
    exact W.iret hx hb hr (fun t h9 _ => ⟨rfl, by rw [h9]; exact hP, hS.F h9⟩) hS.2.2 dX10_comes_8 hlk
theorem dX10_builds_0 : decode cX10_builds 0 = .ok (.iload_n 1, 1) := by decide +kernel
theorem dX10_builds_1 : decode cX10_builds 1 = .ok (.invokestatic 155, 3) := by decide +kernel
theorem dX10_builds_4 : decode cX10_builds 4 = .ok (.ifCond .eq 13, 3) := by decide +kernel
theorem dX10_builds_7 : decode cX10_builds 7 = .ok (.iload_n 2, 1) := by decide +kernel
theorem dX10_builds_8 : decode cX10_builds 8 = .ok (.iconst 0, 1) := by decide +kernel
theorem dX10_builds_9 : decode cX10_builds 9 = .ok (.bipush 7, 2) := by decide +kernel
theorem dX10_builds_11 : decode cX10_builds 11 = .ok (.invokestatic 46, 3) := by decide +kernel
theorem dX10_builds_14 : decode cX10_builds 14 = .ok (.ifCond .ne 5, 3) := by decide +kernel
theorem dX10_builds_17 : decode cX10_builds 17 = .ok (.iconst (-1), 1) := by decide +kernel
theorem dX10_builds_18 : decode cX10_builds 18 = .ok (.ireturn, 1) := by decide +kernel
theorem dX10_builds_19 : decode cX10_builds 19 = .ok (.aload_n 0, 1) := by decide +kernel
theorem dX10_builds_20 : decode cX10_builds 20 = .ok (.getfield 9, 3) := by decide +kernel
theorem dX10_builds_23 : decode cX10_builds 23 = .ok (.iconst 4, 1) := by decide +kernel
theorem dX10_builds_24 : decode cX10_builds 24 = .ok (.iload_n 1, 1) := by decide +kernel
theorem dX10_builds_25 : decode cX10_builds 25 = .ok (.iadd, 1) := by decide +kernel
theorem dX10_builds_26 : decode cX10_builds 26 = .ok (.iaload, 1) := by decide +kernel
theorem dX10_builds_27 : decode cX10_builds 27 = .ok (.istore_n 3, 1) := by decide +kernel
theorem dX10_builds_28 : decode cX10_builds 28 = .ok (.aload_n 0, 1) := by decide +kernel
theorem dX10_builds_29 : decode cX10_builds 29 = .ok (.getfield 9, 3) := by decide +kernel
theorem dX10_builds_32 : decode cX10_builds 32 = .ok (.iconst 4, 1) := by decide +kernel
theorem dX10_builds_33 : decode cX10_builds 33 = .ok (.iload_n 1, 1) := by decide +kernel
theorem dX10_builds_34 : decode cX10_builds 34 = .ok (.iadd, 1) := by decide +kernel
theorem dX10_builds_35 : decode cX10_builds 35 = .ok (.iload_n 2, 1) := by decide +kernel
theorem dX10_builds_36 : decode cX10_builds 36 = .ok (.iastore, 1) := by decide +kernel
theorem dX10_builds_37 : decode cX10_builds 37 = .ok (.iload_n 3, 1) := by decide +kernel
theorem dX10_builds_38 : decode cX10_builds 38 = .ok (.ireturn, 1) := by decide +kernel
def f_X10_builds (o_s : Nat → Int32) (p1 : Int32) (p2 : Int32) : Option (Int32 × (Nat → Int32)) := ob (f_X10_isRail p1) (fun r1 => if r1 = 0 then nm (-1 : Int32) (fun z4 => some (z4, o_s)) else ob (f_X10_isIn p2 (0 : Int32) (7 : Int32)) (fun r5 => if r5 = 0 then nm (-1 : Int32) (fun z12 => some (z12, o_s)) else gd (ix ((4 : Int32) + p1) 42) (nm (o_s ((4 : Int32) + p1).toNatClampNeg) (fun z9 => gd (ix ((4 : Int32) + p1) 42) (nm (upd o_s ((4 : Int32) + p1).toNatClampNeg p2) (fun f11 => some (z9, f11)))))))
set_option maxHeartbeats 4000000 in
set_option maxRecDepth 100000 in
theorem c_X10_builds (l : Launch) (E : EE) (o_h : Nat) (o_a0 : Nat) (o_a1 : Nat) (o_a2 : Nat) (o_a3 : Nat) (o_a8 : Nat) (o_a9 : Nat) (o_a11 : Nat) (o_a12 : Nat) (o_a13 : Nat) (o_a14 : Nat) (o_a15 : Nat) (o_a16 : Nat) (o_s : Nat → Int32) (o_m : Nat → Int32) (o_image : Nat → Int32) (o_was : Nat → Int32) (o_hasImage : Int32) (o_place : Int32) (o_rowAt : Int32) (o_rowEnd : Int32) (o_numbers : Nat → Int32) (o_most : Nat → Int32) (o_seed : Int32) (o_kept : Nat → Int32) (o_keptKind : Nat → Int32) (o_keptFigure : Nat → Int32) (o_sort : Nat → Int32) (o_size : Nat → Int32) (o_element : Nat → Int32) (o_thrown : Int32) (p1 : Int32) (p2 : Int32) (res : Int32) (w_o_s : Nat → Int32) (hv : f_X10_builds o_s p1 p2 = some (res, w_o_s)) : Wr l E yX10_builds cX10_builds 4 (some .int) ({ frames := 2, cells := 0, slots := 0, locals := 42 }) [.ref o_h, .int p1, .int p2] [oMo o_h o_a0 o_a1 o_a2 o_a3 o_hasImage o_place o_rowAt o_rowEnd o_a8 o_a9 o_seed o_a11 o_a12 o_a13 o_a14 o_a15 o_a16 o_thrown, ai E o_a0 42 o_s, ai E o_a1 42 o_m, ai E o_a2 42 o_image, ai E o_a3 42 o_was, ai E o_a8 3 o_numbers, ai E o_a9 8192 o_most, ai E o_a11 8 o_kept, ai E o_a12 8 o_keptKind, ai E o_a13 8 o_keptFigure, ai E o_a14 8 o_sort, ai E o_a15 8 o_size, ai E o_a16 800 o_element] [oMo o_h o_a0 o_a1 o_a2 o_a3 o_hasImage o_place o_rowAt o_rowEnd o_a8 o_a9 o_seed o_a11 o_a12 o_a13 o_a14 o_a15 o_a16 o_thrown, ai E o_a0 42 w_o_s, ai E o_a1 42 o_m, ai E o_a2 42 o_image, ai E o_a3 42 o_was, ai E o_a8 3 o_numbers, ai E o_a9 8192 o_most, ai E o_a11 8 o_kept, ai E o_a12 8 o_keptKind, ai E o_a13 8 o_keptFigure, ai E o_a14 8 o_sort, ai E o_a15 8 o_size, ai E o_a16 800 o_element] (some (.int res)) := by
  refine Wr.intro RX10 (by decide) rfl (Nat.le_of_ble_eq_true rfl) ?_
  intro p e s m below meth c ls A hC hr hlk hmn hP hD hS hA hG hl
  obtain ⟨hx, hb, hml, hown, ht⟩ := id hC
  have hK := hG.1
  have hl : lv_has ls 4 [(0, .ref o_h), (1, .int p1), (2, .int p2)] := hl
  rw [f_X10_builds] at hv
  refine lv_iload_n hx hb dX10_builds_0 rfl (lv_at hl 1 rfl) ?_
  obtain ⟨r1, h2, hv⟩ := ob_s hv
  refine rdS (rest := []) (st1 := [.int r1]) (w := []) hC q_X10_isRail kw_5_34 (c_X10_isRail l E p1 r1 h2) ⟨rfl, rfl⟩ ⟨Nat.le_of_ble_eq_true rfl, Nat.le_of_ble_eq_true rfl⟩ ⟨Nat.zero_le _, Nat.zero_le _⟩ (hP.sub (ws' := []) [] rfl) hG rfl hl.1 rfl (Nat.le_of_ble_eq_true rfl) dX10_builds_1 rfl ?_
  refine lv_if_eq (tgt := 17) hx hb dX10_builds_4 (by decide) (fun c3 => ?_) (fun c3 => ?_)
  · have hv := if_y c3 hv
    refine lv_iconst (v := (-1 : Int32)) hx hb dX10_builds_17 (by decide) ?_
    refine lv_topi (fun z4 ez4 => ?_)
    have hv := nm_s ez4 hv
    cases hv
    exact W.iret hx hb hr (fun t h9 _ => ⟨rfl, by rw [h9]; exact hP, hS.F h9⟩) hS.2.2 dX10_builds_18 hlk
  · have hv := if_n c3 hv
    refine lv_iload_n hx hb dX10_builds_7 rfl (lv_at hl 2 rfl) ?_
    refine lv_iconst (v := (0 : Int32)) hx hb dX10_builds_8 (by decide) ?_
    refine lv_bipush (v := (7 : Int32)) hx hb dX10_builds_9 (by decide) ?_
    obtain ⟨r5, h6, hv⟩ := ob_s hv
    refine rdS (rest := []) (st1 := [.int r5]) (w := []) hC q_X10_isIn kw_4_200 (c_X10_isIn l E p2 (0 : Int32) (7 : Int32) r5 h6) ⟨rfl, rfl⟩ ⟨Nat.le_of_ble_eq_true rfl, Nat.le_of_ble_eq_true rfl⟩ ⟨Nat.zero_le _, Nat.zero_le _⟩ (hP.sub (ws' := []) [] rfl) hG rfl hl.1 rfl (Nat.le_of_ble_eq_true rfl) dX10_builds_11 rfl ?_
    refine lv_if_ne (tgt := 19) hx hb dX10_builds_14 (by decide) (fun c7 => ?_) (fun c7 => ?_)
    · have hv := if_n c7 hv
      refine lv_aload_n hx hb dX10_builds_19 rfl (lv_at hl 0 rfl) ?_
      refine va_get (D := E.1) (ci := 4) (v := .ref o_a0) (C := RX10) (T := TX10) (N := 18) hx hb ht i_X10 hown hK hP 0 rfl rfl 0 (by decide) (ht _ kw_4_134) (fun _ h9 => h9) rfl dX10_builds_20 ?_
      refine lv_iconst (v := (4 : Int32)) hx hb dX10_builds_23 (by decide) ?_
      refine lv_iload_n hx hb dX10_builds_24 rfl (lv_at hl 1 rfl) ?_
      refine lv_iadd hx hb dX10_builds_25 ?_
      obtain ⟨g8, hv⟩ := gd_s hv
      refine va_iald hx hb hK hP 1 0 rfl rfl (ix_s g8) dX10_builds_26 ?_
      refine lv_topi (fun z9 ez9 => ?_)
      have hv := nm_s ez9 hv
      refine lv_istore_n (lv' := [(3, .int z9), (0, .ref o_h), (1, .int p1), (2, .int p2)]) hx hb dX10_builds_27 rfl hl (by decide) rfl (fun ls hl => ?_)
      refine lv_aload_n hx hb dX10_builds_28 rfl (lv_at hl 1 rfl) ?_
      refine va_get (D := E.1) (ci := 4) (v := .ref o_a0) (C := RX10) (T := TX10) (N := 18) hx hb ht i_X10 hown hK hP 0 rfl rfl 0 (by decide) (ht _ kw_4_134) (fun _ h9 => h9) rfl dX10_builds_29 ?_
      refine lv_iconst (v := (4 : Int32)) hx hb dX10_builds_32 (by decide) ?_
      refine lv_iload_n hx hb dX10_builds_33 rfl (lv_at hl 2 rfl) ?_
      refine lv_iadd hx hb dX10_builds_34 ?_
      refine lv_iload_n hx hb dX10_builds_35 rfl (lv_at hl 3 rfl) ?_
      obtain ⟨g10, hv⟩ := gd_s hv
      refine va_iast hx hb hK hP hD hS 1 0 rfl rfl (ix_s g10) dX10_builds_36 (fun H locs hP hD hS => ?_)
      have hP : va_P E.1 vwCl [oMo o_h o_a0 o_a1 o_a2 o_a3 o_hasImage o_place o_rowAt o_rowEnd o_a8 o_a9 o_seed o_a11 o_a12 o_a13 o_a14 o_a15 o_a16 o_thrown, ai E o_a0 42 (upd o_s ((4 : Int32) + p1).toNatClampNeg p2), ai E o_a1 42 o_m, ai E o_a2 42 o_image, ai E o_a3 42 o_was, ai E o_a8 3 o_numbers, ai E o_a9 8192 o_most, ai E o_a11 8 o_kept, ai E o_a12 8 o_keptKind, ai E o_a13 8 o_keptFigure, ai E o_a14 8 o_sort, ai E o_a15 8 o_size, ai E o_a16 800 o_element] H := hP
      have hD : va_D A [oMo o_h o_a0 o_a1 o_a2 o_a3 o_hasImage o_place o_rowAt o_rowEnd o_a8 o_a9 o_seed o_a11 o_a12 o_a13 o_a14 o_a15 o_a16 o_thrown, ai E o_a0 42 (upd o_s ((4 : Int32) + p1).toNatClampNeg p2), ai E o_a1 42 o_m, ai E o_a2 42 o_image, ai E o_a3 42 o_was, ai E o_a8 3 o_numbers, ai E o_a9 8192 o_most, ai E o_a11 8 o_kept, ai E o_a12 8 o_keptKind, ai E o_a13 8 o_keptFigure, ai E o_a14 8 o_sort, ai E o_a15 8 o_size, ai E o_a16 800 o_element] := hD
      obtain ⟨f11, ef11⟩ : ∃ z, z = (upd o_s ((4 : Int32) + p1).toNatClampNeg p2) := ⟨_, rfl⟩
      rw [← ef11] at hP hD
      have hv := nm_s ef11 hv
      refine lv_iload_n hx hb dX10_builds_37 rfl (lv_at hl 0 rfl) ?_
      cases hv
      exact W.iret hx hb hr (fun t h9 _ => ⟨rfl, by rw [h9]; exact hP, hS.F h9⟩) hS.2.2 dX10_builds_38 hlk
    · have hv := if_y c7 hv
      refine lv_iconst (v := (-1 : Int32)) hx hb dX10_builds_17 (by decide) ?_
      refine lv_topi (fun z12 ez12 => ?_)
      have hv := nm_s ez12 hv
      cases hv
      exact W.iret hx hb hr (fun t h9 _ => ⟨rfl, by rw [h9]; exact hP, hS.F h9⟩) hS.2.2 dX10_builds_18 hlk
theorem dX10_shuts_0 : decode cX10_shuts 0 = .ok (.iload_n 1, 1) := by decide +kernel
theorem dX10_shuts_1 : decode cX10_shuts 1 = .ok (.invokestatic 155, 3) := by decide +kernel
theorem dX10_shuts_4 : decode cX10_shuts 4 = .ok (.ifCond .ne 5, 3) := by decide +kernel
theorem dX10_shuts_7 : decode cX10_shuts 7 = .ok (.iconst (-1), 1) := by decide +kernel
theorem dX10_shuts_8 : decode cX10_shuts 8 = .ok (.ireturn, 1) := by decide +kernel
theorem dX10_shuts_9 : decode cX10_shuts 9 = .ok (.aload_n 0, 1) := by decide +kernel
theorem dX10_shuts_10 : decode cX10_shuts 10 = .ok (.getfield 9, 3) := by decide +kernel
theorem dX10_shuts_13 : decode cX10_shuts 13 = .ok (.iconst 3, 1) := by decide +kernel
theorem dX10_shuts_14 : decode cX10_shuts 14 = .ok (.dup2, 1) := by decide +kernel
theorem dX10_shuts_15 : decode cX10_shuts 15 = .ok (.iaload, 1) := by decide +kernel
theorem dX10_shuts_16 : decode cX10_shuts 16 = .ok (.iconst 1, 1) := by decide +kernel
theorem dX10_shuts_17 : decode cX10_shuts 17 = .ok (.iload_n 1, 1) := by decide +kernel
theorem dX10_shuts_18 : decode cX10_shuts 18 = .ok (.ishl, 1) := by decide +kernel
theorem dX10_shuts_19 : decode cX10_shuts 19 = .ok (.ixor, 1) := by decide +kernel
theorem dX10_shuts_20 : decode cX10_shuts 20 = .ok (.iastore, 1) := by decide +kernel
theorem dX10_shuts_21 : decode cX10_shuts 21 = .ok (.aload_n 0, 1) := by decide +kernel
theorem dX10_shuts_22 : decode cX10_shuts 22 = .ok (.getfield 9, 3) := by decide +kernel
theorem dX10_shuts_25 : decode cX10_shuts 25 = .ok (.iconst 3, 1) := by decide +kernel
theorem dX10_shuts_26 : decode cX10_shuts 26 = .ok (.iaload, 1) := by decide +kernel
theorem dX10_shuts_27 : decode cX10_shuts 27 = .ok (.iload_n 1, 1) := by decide +kernel
theorem dX10_shuts_28 : decode cX10_shuts 28 = .ok (.ishr, 1) := by decide +kernel
theorem dX10_shuts_29 : decode cX10_shuts 29 = .ok (.iconst 1, 1) := by decide +kernel
theorem dX10_shuts_30 : decode cX10_shuts 30 = .ok (.iand, 1) := by decide +kernel
theorem dX10_shuts_31 : decode cX10_shuts 31 = .ok (.ireturn, 1) := by decide +kernel
def f_X10_shuts (o_s : Nat → Int32) (p1 : Int32) : Option (Int32 × (Nat → Int32)) := ob (f_X10_isRail p1) (fun r1 => if r1 = 0 then nm (-1 : Int32) (fun z6 => some (z6, o_s)) else nm (upd o_s 3 ((o_s 3) ^^^ ((1 : Int32) <<< (p1 &&& 31)))) (fun f4 => nm (((f4 3) >>> (p1 &&& 31)) &&& (1 : Int32)) (fun z5 => some (z5, f4))))
set_option maxHeartbeats 4000000 in
set_option maxRecDepth 100000 in
theorem c_X10_shuts (l : Launch) (E : EE) (o_h : Nat) (o_a0 : Nat) (o_a1 : Nat) (o_a2 : Nat) (o_a3 : Nat) (o_a8 : Nat) (o_a9 : Nat) (o_a11 : Nat) (o_a12 : Nat) (o_a13 : Nat) (o_a14 : Nat) (o_a15 : Nat) (o_a16 : Nat) (o_s : Nat → Int32) (o_m : Nat → Int32) (o_image : Nat → Int32) (o_was : Nat → Int32) (o_hasImage : Int32) (o_place : Int32) (o_rowAt : Int32) (o_rowEnd : Int32) (o_numbers : Nat → Int32) (o_most : Nat → Int32) (o_seed : Int32) (o_kept : Nat → Int32) (o_keptKind : Nat → Int32) (o_keptFigure : Nat → Int32) (o_sort : Nat → Int32) (o_size : Nat → Int32) (o_element : Nat → Int32) (o_thrown : Int32) (p1 : Int32) (res : Int32) (w_o_s : Nat → Int32) (hv : f_X10_shuts o_s p1 = some (res, w_o_s)) : Wr l E yX10_shuts cX10_shuts 2 (some .int) ({ frames := 2, cells := 0, slots := 0, locals := 42 }) [.ref o_h, .int p1] [oMo o_h o_a0 o_a1 o_a2 o_a3 o_hasImage o_place o_rowAt o_rowEnd o_a8 o_a9 o_seed o_a11 o_a12 o_a13 o_a14 o_a15 o_a16 o_thrown, ai E o_a0 42 o_s, ai E o_a1 42 o_m, ai E o_a2 42 o_image, ai E o_a3 42 o_was, ai E o_a8 3 o_numbers, ai E o_a9 8192 o_most, ai E o_a11 8 o_kept, ai E o_a12 8 o_keptKind, ai E o_a13 8 o_keptFigure, ai E o_a14 8 o_sort, ai E o_a15 8 o_size, ai E o_a16 800 o_element] [oMo o_h o_a0 o_a1 o_a2 o_a3 o_hasImage o_place o_rowAt o_rowEnd o_a8 o_a9 o_seed o_a11 o_a12 o_a13 o_a14 o_a15 o_a16 o_thrown, ai E o_a0 42 w_o_s, ai E o_a1 42 o_m, ai E o_a2 42 o_image, ai E o_a3 42 o_was, ai E o_a8 3 o_numbers, ai E o_a9 8192 o_most, ai E o_a11 8 o_kept, ai E o_a12 8 o_keptKind, ai E o_a13 8 o_keptFigure, ai E o_a14 8 o_sort, ai E o_a15 8 o_size, ai E o_a16 800 o_element] (some (.int res)) := by
  refine Wr.intro RX10 (by decide) rfl (Nat.le_of_ble_eq_true rfl) ?_
  intro p e s m below meth c ls A hC hr hlk hmn hP hD hS hA hG hl
  obtain ⟨hx, hb, hml, hown, ht⟩ := id hC
  have hK := hG.1
  have hl : lv_has ls 2 [(0, .ref o_h), (1, .int p1)] := hl
  rw [f_X10_shuts] at hv
  refine lv_iload_n hx hb dX10_shuts_0 rfl (lv_at hl 1 rfl) ?_
  obtain ⟨r1, h2, hv⟩ := ob_s hv
  refine rdS (rest := []) (st1 := [.int r1]) (w := []) hC q_X10_isRail kw_5_34 (c_X10_isRail l E p1 r1 h2) ⟨rfl, rfl⟩ ⟨Nat.le_of_ble_eq_true rfl, Nat.le_of_ble_eq_true rfl⟩ ⟨Nat.zero_le _, Nat.zero_le _⟩ (hP.sub (ws' := []) [] rfl) hG rfl hl.1 rfl (Nat.le_of_ble_eq_true rfl) dX10_shuts_1 rfl ?_
  refine lv_if_ne (tgt := 9) hx hb dX10_shuts_4 (by decide) (fun c3 => ?_) (fun c3 => ?_)
  · have hv := if_n c3 hv
    refine lv_aload_n hx hb dX10_shuts_9 rfl (lv_at hl 0 rfl) ?_
    refine va_get (D := E.1) (ci := 4) (v := .ref o_a0) (C := RX10) (T := TX10) (N := 18) hx hb ht i_X10 hown hK hP 0 rfl rfl 0 (by decide) (ht _ kw_4_134) (fun _ h9 => h9) rfl dX10_shuts_10 ?_
    refine lv_iconst (v := (3 : Int32)) hx hb dX10_shuts_13 (by decide) ?_
    refine lv_dup2_11 hx hb dX10_shuts_14 rfl rfl ?_
    refine va_iald hx hb hK hP 1 0 rfl rfl (ix_s (by decide)) dX10_shuts_15 ?_
    refine W.eq (g2 := F0 m 16 ls [.int (o_s 3), .int (3 : Int32), .ref o_a0]) rfl ?_
    refine lv_iconst (v := (1 : Int32)) hx hb dX10_shuts_16 (by decide) ?_
    refine lv_iload_n hx hb dX10_shuts_17 rfl (lv_at hl 1 rfl) ?_
    refine lv_ishl hx hb dX10_shuts_18 ?_
    refine lv_ixor hx hb dX10_shuts_19 ?_
    refine va_iast hx hb hK hP hD hS 1 0 rfl rfl (ix_s (by decide)) dX10_shuts_20 (fun H locs hP hD hS => ?_)
    have hP : va_P E.1 vwCl [oMo o_h o_a0 o_a1 o_a2 o_a3 o_hasImage o_place o_rowAt o_rowEnd o_a8 o_a9 o_seed o_a11 o_a12 o_a13 o_a14 o_a15 o_a16 o_thrown, ai E o_a0 42 (upd o_s 3 ((o_s 3) ^^^ ((1 : Int32) <<< (p1 &&& 31)))), ai E o_a1 42 o_m, ai E o_a2 42 o_image, ai E o_a3 42 o_was, ai E o_a8 3 o_numbers, ai E o_a9 8192 o_most, ai E o_a11 8 o_kept, ai E o_a12 8 o_keptKind, ai E o_a13 8 o_keptFigure, ai E o_a14 8 o_sort, ai E o_a15 8 o_size, ai E o_a16 800 o_element] H := hP
    have hD : va_D A [oMo o_h o_a0 o_a1 o_a2 o_a3 o_hasImage o_place o_rowAt o_rowEnd o_a8 o_a9 o_seed o_a11 o_a12 o_a13 o_a14 o_a15 o_a16 o_thrown, ai E o_a0 42 (upd o_s 3 ((o_s 3) ^^^ ((1 : Int32) <<< (p1 &&& 31)))), ai E o_a1 42 o_m, ai E o_a2 42 o_image, ai E o_a3 42 o_was, ai E o_a8 3 o_numbers, ai E o_a9 8192 o_most, ai E o_a11 8 o_kept, ai E o_a12 8 o_keptKind, ai E o_a13 8 o_keptFigure, ai E o_a14 8 o_sort, ai E o_a15 8 o_size, ai E o_a16 800 o_element] := hD
    obtain ⟨f4, ef4⟩ : ∃ z, z = (upd o_s 3 ((o_s 3) ^^^ ((1 : Int32) <<< (p1 &&& 31)))) := ⟨_, rfl⟩
    rw [← ef4] at hP hD
    have hv := nm_s ef4 hv
    refine lv_aload_n hx hb dX10_shuts_21 rfl (lv_at hl 0 rfl) ?_
    refine va_get (D := E.1) (ci := 4) (v := .ref o_a0) (C := RX10) (T := TX10) (N := 18) hx hb ht i_X10 hown hK hP 0 rfl rfl 0 (by decide) (ht _ kw_4_134) (fun _ h9 => h9) rfl dX10_shuts_22 ?_
    refine lv_iconst (v := (3 : Int32)) hx hb dX10_shuts_25 (by decide) ?_
    refine va_iald hx hb hK hP 1 0 rfl rfl (ix_s (by decide)) dX10_shuts_26 ?_
    refine W.eq (g2 := F0 m 27 ls [.int (f4 3)]) rfl ?_
    refine lv_iload_n hx hb dX10_shuts_27 rfl (lv_at hl 1 rfl) ?_
    refine lv_ishr hx hb dX10_shuts_28 ?_
    refine lv_iconst (v := (1 : Int32)) hx hb dX10_shuts_29 (by decide) ?_
    refine lv_iand hx hb dX10_shuts_30 ?_
    refine lv_topi (fun z5 ez5 => ?_)
    have hv := nm_s ez5 hv
    cases hv
    exact W.iret hx hb hr (fun t h9 _ => ⟨rfl, by rw [h9]; exact hP, hS.F h9⟩) hS.2.2 dX10_shuts_31 hlk
  · have hv := if_y c3 hv
    refine lv_iconst (v := (-1 : Int32)) hx hb dX10_shuts_7 (by decide) ?_
    refine lv_topi (fun z6 ez6 => ?_)
    have hv := nm_s ez6 hv
    cases hv
    exact W.iret hx hb hr (fun t h9 _ => ⟨rfl, by rw [h9]; exact hP, hS.F h9⟩) hS.2.2 dX10_shuts_8 hlk
theorem dX10_thinks_0 : decode cX10_thinks 0 = .ok (.aload_n 0, 1) := by decide +kernel
theorem dX10_thinks_1 : decode cX10_thinks 1 = .ok (.iload_n 1, 1) := by decide +kernel
theorem dX10_thinks_2 : decode cX10_thinks 2 = .ok (.invokevirtual 134, 3) := by decide +kernel
theorem dX10_thinks_5 : decode cX10_thinks 5 = .ok (.ifCond .eq 14, 3) := by decide +kernel
theorem dX10_thinks_8 : decode cX10_thinks 8 = .ok (.iload_n 2, 1) := by decide +kernel
theorem dX10_thinks_9 : decode cX10_thinks 9 = .ok (.bipush (-9), 2) := by decide +kernel
theorem dX10_thinks_11 : decode cX10_thinks 11 = .ok (.bipush 9, 2) := by decide +kernel
theorem dX10_thinks_13 : decode cX10_thinks 13 = .ok (.invokestatic 46, 3) := by decide +kernel
theorem dX10_thinks_16 : decode cX10_thinks 16 = .ok (.ifCond .ne 6, 3) := by decide +kernel
theorem dX10_thinks_19 : decode cX10_thinks 19 = .ok (.ldc 162, 2) := by decide +kernel
theorem dX10_thinks_21 : decode cX10_thinks 21 = .ok (.ireturn, 1) := by decide +kernel
theorem dX10_thinks_22 : decode cX10_thinks 22 = .ok (.aload_n 0, 1) := by decide +kernel
theorem dX10_thinks_23 : decode cX10_thinks 23 = .ok (.getfield 9, 3) := by decide +kernel
theorem dX10_thinks_26 : decode cX10_thinks 26 = .ok (.iload_n 1, 1) := by decide +kernel
theorem dX10_thinks_27 : decode cX10_thinks 27 = .ok (.iconst 3, 1) := by decide +kernel
theorem dX10_thinks_28 : decode cX10_thinks 28 = .ok (.invokestatic 50, 3) := by decide +kernel
theorem dX10_thinks_31 : decode cX10_thinks 31 = .ok (.iaload, 1) := by decide +kernel
theorem dX10_thinks_32 : decode cX10_thinks 32 = .ok (.istore_n 3, 1) := by decide +kernel
theorem dX10_thinks_33 : decode cX10_thinks 33 = .ok (.aload_n 0, 1) := by decide +kernel
theorem dX10_thinks_34 : decode cX10_thinks 34 = .ok (.getfield 9, 3) := by decide +kernel
theorem dX10_thinks_37 : decode cX10_thinks 37 = .ok (.iload_n 1, 1) := by decide +kernel
theorem dX10_thinks_38 : decode cX10_thinks 38 = .ok (.iconst 3, 1) := by decide +kernel
theorem dX10_thinks_39 : decode cX10_thinks 39 = .ok (.invokestatic 50, 3) := by decide +kernel
theorem dX10_thinks_42 : decode cX10_thinks 42 = .ok (.iload_n 2, 1) := by decide +kernel
theorem dX10_thinks_43 : decode cX10_thinks 43 = .ok (.iastore, 1) := by decide +kernel
theorem dX10_thinks_44 : decode cX10_thinks 44 = .ok (.iload_n 3, 1) := by decide +kernel
theorem dX10_thinks_45 : decode cX10_thinks 45 = .ok (.ireturn, 1) := by decide +kernel
def f_X10_thinks (o_s : Nat → Int32) (p1 : Int32) (p2 : Int32) : Option (Int32 × (Nat → Int32)) := ob (f_X10_isSpeaker o_s p1) (fun r1 => if r1 = 0 then nm (1000000001 : Int32) (fun z4 => some (z4, o_s)) else ob (f_X10_isIn p2 (-9 : Int32) (9 : Int32)) (fun r5 => if r5 = 0 then nm (1000000001 : Int32) (fun z16 => some (z16, o_s)) else ob (f_X10_of p1 (3 : Int32)) (fun r8 => gd (ix r8 42) (ob (f_X10_of p1 (3 : Int32)) (fun r11 => gd (ix r11 42) (nm (upd o_s r11.toNatClampNeg p2) (fun f14 => nm (o_s r8.toNatClampNeg) (fun z15 => some (z15, f14)))))))))
set_option maxHeartbeats 4000000 in
set_option maxRecDepth 100000 in
theorem c_X10_thinks (l : Launch) (E : EE) (o_h : Nat) (o_a0 : Nat) (o_a1 : Nat) (o_a2 : Nat) (o_a3 : Nat) (o_a8 : Nat) (o_a9 : Nat) (o_a11 : Nat) (o_a12 : Nat) (o_a13 : Nat) (o_a14 : Nat) (o_a15 : Nat) (o_a16 : Nat) (o_s : Nat → Int32) (o_m : Nat → Int32) (o_image : Nat → Int32) (o_was : Nat → Int32) (o_hasImage : Int32) (o_place : Int32) (o_rowAt : Int32) (o_rowEnd : Int32) (o_numbers : Nat → Int32) (o_most : Nat → Int32) (o_seed : Int32) (o_kept : Nat → Int32) (o_keptKind : Nat → Int32) (o_keptFigure : Nat → Int32) (o_sort : Nat → Int32) (o_size : Nat → Int32) (o_element : Nat → Int32) (o_thrown : Int32) (p1 : Int32) (p2 : Int32) (res : Int32) (w_o_s : Nat → Int32) (hv : f_X10_thinks o_s p1 p2 = some (res, w_o_s)) : Wr l E yX10_thinks cX10_thinks 4 (some .int) ({ frames := 2, cells := 0, slots := 0, locals := 43 }) [.ref o_h, .int p1, .int p2] [oMo o_h o_a0 o_a1 o_a2 o_a3 o_hasImage o_place o_rowAt o_rowEnd o_a8 o_a9 o_seed o_a11 o_a12 o_a13 o_a14 o_a15 o_a16 o_thrown, ai E o_a0 42 o_s, ai E o_a1 42 o_m, ai E o_a2 42 o_image, ai E o_a3 42 o_was, ai E o_a8 3 o_numbers, ai E o_a9 8192 o_most, ai E o_a11 8 o_kept, ai E o_a12 8 o_keptKind, ai E o_a13 8 o_keptFigure, ai E o_a14 8 o_sort, ai E o_a15 8 o_size, ai E o_a16 800 o_element] [oMo o_h o_a0 o_a1 o_a2 o_a3 o_hasImage o_place o_rowAt o_rowEnd o_a8 o_a9 o_seed o_a11 o_a12 o_a13 o_a14 o_a15 o_a16 o_thrown, ai E o_a0 42 w_o_s, ai E o_a1 42 o_m, ai E o_a2 42 o_image, ai E o_a3 42 o_was, ai E o_a8 3 o_numbers, ai E o_a9 8192 o_most, ai E o_a11 8 o_kept, ai E o_a12 8 o_keptKind, ai E o_a13 8 o_keptFigure, ai E o_a14 8 o_sort, ai E o_a15 8 o_size, ai E o_a16 800 o_element] (some (.int res)) := by
  refine Wr.intro RX10 (by decide) rfl (Nat.le_of_ble_eq_true rfl) ?_
  intro p e s m below meth c ls A hC hr hlk hmn hP hD hS hA hG hl
  obtain ⟨hx, hb, hml, hown, ht⟩ := id hC
  have hK := hG.1
  have hl : lv_has ls 4 [(0, .ref o_h), (1, .int p1), (2, .int p2)] := hl
  rw [f_X10_thinks] at hv
  refine lv_aload_n hx hb dX10_thinks_0 rfl (lv_at hl 0 rfl) ?_
  refine lv_iload_n hx hb dX10_thinks_1 rfl (lv_at hl 1 rfl) ?_
  obtain ⟨r1, h2, hv⟩ := ob_s hv
  refine rdV 4 0 (As := [.int p1]) (rest := []) (st1 := [.int r1]) (w := [oMo o_h o_a0 o_a1 o_a2 o_a3 o_hasImage o_place o_rowAt o_rowEnd o_a8 o_a9 o_seed o_a11 o_a12 o_a13 o_a14 o_a15 o_a16 o_thrown, ai E o_a0 42 o_s, ai E o_a1 42 o_m, ai E o_a2 42 o_image, ai E o_a3 42 o_was, ai E o_a8 3 o_numbers, ai E o_a9 8192 o_most, ai E o_a11 8 o_kept, ai E o_a12 8 o_keptKind, ai E o_a13 8 o_keptFigure, ai E o_a14 8 o_sort, ai E o_a15 8 o_size, ai E o_a16 800 o_element]) hC q_X10_isSpeaker kw_4_229 (c_X10_isSpeaker l E o_h o_a0 o_a1 o_a2 o_a3 o_a8 o_a9 o_a11 o_a12 o_a13 o_a14 o_a15 o_a16 o_s o_m o_image o_was o_hasImage o_place o_rowAt o_rowEnd o_numbers o_most o_seed o_kept o_keptKind o_keptFigure o_sort o_size o_element o_thrown p1 r1 h2) ⟨rfl, rfl⟩ ⟨Nat.le_of_ble_eq_true rfl, Nat.le_of_ble_eq_true rfl⟩ ⟨Nat.zero_le _, Nat.zero_le _⟩ hP rfl rfl rfl hG rfl hl.1 rfl (Nat.le_of_ble_eq_true rfl) dX10_thinks_2 rfl ?_
  refine lv_if_eq (tgt := 19) hx hb dX10_thinks_5 (by decide) (fun c3 => ?_) (fun c3 => ?_)
  · have hv := if_y c3 hv
    refine lv_ldc (v := (1000000001 : Int32)) hx hb hown (ht _ kw_5_57) dX10_thinks_19 ?_
    refine lv_topi (fun z4 ez4 => ?_)
    have hv := nm_s ez4 hv
    cases hv
    exact W.iret hx hb hr (fun t h9 _ => ⟨rfl, by rw [h9]; exact hP, hS.F h9⟩) hS.2.2 dX10_thinks_21 hlk
  · have hv := if_n c3 hv
    refine lv_iload_n hx hb dX10_thinks_8 rfl (lv_at hl 2 rfl) ?_
    refine lv_bipush (v := (-9 : Int32)) hx hb dX10_thinks_9 (by decide) ?_
    refine lv_bipush (v := (9 : Int32)) hx hb dX10_thinks_11 (by decide) ?_
    obtain ⟨r5, h6, hv⟩ := ob_s hv
    refine rdS (rest := []) (st1 := [.int r5]) (w := []) hC q_X10_isIn kw_4_200 (c_X10_isIn l E p2 (-9 : Int32) (9 : Int32) r5 h6) ⟨rfl, rfl⟩ ⟨Nat.le_of_ble_eq_true rfl, Nat.le_of_ble_eq_true rfl⟩ ⟨Nat.zero_le _, Nat.zero_le _⟩ (hP.sub (ws' := []) [] rfl) hG rfl hl.1 rfl (Nat.le_of_ble_eq_true rfl) dX10_thinks_13 rfl ?_
    refine lv_if_ne (tgt := 22) hx hb dX10_thinks_16 (by decide) (fun c7 => ?_) (fun c7 => ?_)
    · have hv := if_n c7 hv
      refine lv_aload_n hx hb dX10_thinks_22 rfl (lv_at hl 0 rfl) ?_
      refine va_get (D := E.1) (ci := 4) (v := .ref o_a0) (C := RX10) (T := TX10) (N := 18) hx hb ht i_X10 hown hK hP 0 rfl rfl 0 (by decide) (ht _ kw_4_134) (fun _ h9 => h9) rfl dX10_thinks_23 ?_
      refine lv_iload_n hx hb dX10_thinks_26 rfl (lv_at hl 1 rfl) ?_
      refine lv_iconst (v := (3 : Int32)) hx hb dX10_thinks_27 (by decide) ?_
      obtain ⟨r8, h9, hv⟩ := ob_s hv
      refine rdS (rest := [.ref o_a0]) (st1 := [.int r8, .ref o_a0]) (w := []) hC q_X10_of kw_4_226 (c_X10_of l E p1 (3 : Int32) r8 h9) ⟨rfl, rfl⟩ ⟨Nat.le_of_ble_eq_true rfl, Nat.le_of_ble_eq_true rfl⟩ ⟨Nat.zero_le _, Nat.zero_le _⟩ (hP.sub (ws' := []) [] rfl) hG rfl hl.1 rfl (Nat.le_of_ble_eq_true rfl) dX10_thinks_28 rfl ?_
      obtain ⟨g10, hv⟩ := gd_s hv
      refine va_iald hx hb hK hP 1 0 rfl rfl (ix_s g10) dX10_thinks_31 ?_
      refine lv_istore_n (lv' := [(3, .int (o_s r8.toNatClampNeg)), (0, .ref o_h), (1, .int p1), (2, .int p2)]) hx hb dX10_thinks_32 rfl hl (by decide) rfl (fun ls hl => ?_)
      refine lv_aload_n hx hb dX10_thinks_33 rfl (lv_at hl 1 rfl) ?_
      refine va_get (D := E.1) (ci := 4) (v := .ref o_a0) (C := RX10) (T := TX10) (N := 18) hx hb ht i_X10 hown hK hP 0 rfl rfl 0 (by decide) (ht _ kw_4_134) (fun _ h9 => h9) rfl dX10_thinks_34 ?_
      refine lv_iload_n hx hb dX10_thinks_37 rfl (lv_at hl 2 rfl) ?_
      refine lv_iconst (v := (3 : Int32)) hx hb dX10_thinks_38 (by decide) ?_
      obtain ⟨r11, h12, hv⟩ := ob_s hv
      refine rdS (rest := [.ref o_a0]) (st1 := [.int r11, .ref o_a0]) (w := []) hC q_X10_of kw_4_226 (c_X10_of l E p1 (3 : Int32) r11 h12) ⟨rfl, rfl⟩ ⟨Nat.le_of_ble_eq_true rfl, Nat.le_of_ble_eq_true rfl⟩ ⟨Nat.zero_le _, Nat.zero_le _⟩ (hP.sub (ws' := []) [] rfl) hG rfl hl.1 rfl (Nat.le_of_ble_eq_true rfl) dX10_thinks_39 rfl ?_
      refine lv_iload_n hx hb dX10_thinks_42 rfl (lv_at hl 3 rfl) ?_
      obtain ⟨g13, hv⟩ := gd_s hv
      refine va_iast hx hb hK hP hD hS 1 0 rfl rfl (ix_s g13) dX10_thinks_43 (fun H locs hP hD hS => ?_)
      have hP : va_P E.1 vwCl [oMo o_h o_a0 o_a1 o_a2 o_a3 o_hasImage o_place o_rowAt o_rowEnd o_a8 o_a9 o_seed o_a11 o_a12 o_a13 o_a14 o_a15 o_a16 o_thrown, ai E o_a0 42 (upd o_s r11.toNatClampNeg p2), ai E o_a1 42 o_m, ai E o_a2 42 o_image, ai E o_a3 42 o_was, ai E o_a8 3 o_numbers, ai E o_a9 8192 o_most, ai E o_a11 8 o_kept, ai E o_a12 8 o_keptKind, ai E o_a13 8 o_keptFigure, ai E o_a14 8 o_sort, ai E o_a15 8 o_size, ai E o_a16 800 o_element] H := hP
      have hD : va_D A [oMo o_h o_a0 o_a1 o_a2 o_a3 o_hasImage o_place o_rowAt o_rowEnd o_a8 o_a9 o_seed o_a11 o_a12 o_a13 o_a14 o_a15 o_a16 o_thrown, ai E o_a0 42 (upd o_s r11.toNatClampNeg p2), ai E o_a1 42 o_m, ai E o_a2 42 o_image, ai E o_a3 42 o_was, ai E o_a8 3 o_numbers, ai E o_a9 8192 o_most, ai E o_a11 8 o_kept, ai E o_a12 8 o_keptKind, ai E o_a13 8 o_keptFigure, ai E o_a14 8 o_sort, ai E o_a15 8 o_size, ai E o_a16 800 o_element] := hD
      obtain ⟨f14, ef14⟩ : ∃ z, z = (upd o_s r11.toNatClampNeg p2) := ⟨_, rfl⟩
      rw [← ef14] at hP hD
      have hv := nm_s ef14 hv
      refine lv_iload_n hx hb dX10_thinks_44 rfl (lv_at hl 0 rfl) ?_
      refine lv_topi (fun z15 ez15 => ?_)
      have hv := nm_s ez15 hv
      cases hv
      exact W.iret hx hb hr (fun t h9 _ => ⟨rfl, by rw [h9]; exact hP, hS.F h9⟩) hS.2.2 dX10_thinks_45 hlk
    · have hv := if_y c7 hv
      refine lv_ldc (v := (1000000001 : Int32)) hx hb hown (ht _ kw_5_57) dX10_thinks_19 ?_
      refine lv_topi (fun z16 ez16 => ?_)
      have hv := nm_s ez16 hv
      cases hv
      exact W.iret hx hb hr (fun t h9 _ => ⟨rfl, by rw [h9]; exact hP, hS.F h9⟩) hS.2.2 dX10_thinks_21 hlk
theorem dX10_goes_0 : decode cX10_goes 0 = .ok (.aload_n 0, 1) := by decide +kernel
theorem dX10_goes_1 : decode cX10_goes 1 = .ok (.iload_n 1, 1) := by decide +kernel
theorem dX10_goes_2 : decode cX10_goes 2 = .ok (.invokevirtual 134, 3) := by decide +kernel
theorem dX10_goes_5 : decode cX10_goes 5 = .ok (.ifCond .eq 10, 3) := by decide +kernel
theorem dX10_goes_8 : decode cX10_goes 8 = .ok (.iload_n 2, 1) := by decide +kernel
theorem dX10_goes_9 : decode cX10_goes 9 = .ok (.invokestatic 155, 3) := by decide +kernel
theorem dX10_goes_12 : decode cX10_goes 12 = .ok (.ifCond .ne 5, 3) := by decide +kernel
theorem dX10_goes_15 : decode cX10_goes 15 = .ok (.iconst (-1), 1) := by decide +kernel
theorem dX10_goes_16 : decode cX10_goes 16 = .ok (.ireturn, 1) := by decide +kernel
theorem dX10_goes_17 : decode cX10_goes 17 = .ok (.aload_n 0, 1) := by decide +kernel
theorem dX10_goes_18 : decode cX10_goes 18 = .ok (.getfield 9, 3) := by decide +kernel
theorem dX10_goes_21 : decode cX10_goes 21 = .ok (.iload_n 1, 1) := by decide +kernel
theorem dX10_goes_22 : decode cX10_goes 22 = .ok (.iconst 2, 1) := by decide +kernel
theorem dX10_goes_23 : decode cX10_goes 23 = .ok (.invokestatic 50, 3) := by decide +kernel
theorem dX10_goes_26 : decode cX10_goes 26 = .ok (.iaload, 1) := by decide +kernel
theorem dX10_goes_27 : decode cX10_goes 27 = .ok (.istore_n 3, 1) := by decide +kernel
theorem dX10_goes_28 : decode cX10_goes 28 = .ok (.aload_n 0, 1) := by decide +kernel
theorem dX10_goes_29 : decode cX10_goes 29 = .ok (.getfield 9, 3) := by decide +kernel
theorem dX10_goes_32 : decode cX10_goes 32 = .ok (.iload_n 1, 1) := by decide +kernel
theorem dX10_goes_33 : decode cX10_goes 33 = .ok (.iconst 2, 1) := by decide +kernel
theorem dX10_goes_34 : decode cX10_goes 34 = .ok (.invokestatic 50, 3) := by decide +kernel
theorem dX10_goes_37 : decode cX10_goes 37 = .ok (.iload_n 2, 1) := by decide +kernel
theorem dX10_goes_38 : decode cX10_goes 38 = .ok (.iastore, 1) := by decide +kernel
theorem dX10_goes_39 : decode cX10_goes 39 = .ok (.iload_n 3, 1) := by decide +kernel
theorem dX10_goes_40 : decode cX10_goes 40 = .ok (.ireturn, 1) := by decide +kernel
def f_X10_goes (o_s : Nat → Int32) (p1 : Int32) (p2 : Int32) : Option (Int32 × (Nat → Int32)) := ob (f_X10_isSpeaker o_s p1) (fun r1 => if r1 = 0 then nm (-1 : Int32) (fun z4 => some (z4, o_s)) else ob (f_X10_isRail p2) (fun r5 => if r5 = 0 then nm (-1 : Int32) (fun z16 => some (z16, o_s)) else ob (f_X10_of p1 (2 : Int32)) (fun r8 => gd (ix r8 42) (ob (f_X10_of p1 (2 : Int32)) (fun r11 => gd (ix r11 42) (nm (upd o_s r11.toNatClampNeg p2) (fun f14 => nm (o_s r8.toNatClampNeg) (fun z15 => some (z15, f14)))))))))
set_option maxHeartbeats 4000000 in
set_option maxRecDepth 100000 in
theorem c_X10_goes (l : Launch) (E : EE) (o_h : Nat) (o_a0 : Nat) (o_a1 : Nat) (o_a2 : Nat) (o_a3 : Nat) (o_a8 : Nat) (o_a9 : Nat) (o_a11 : Nat) (o_a12 : Nat) (o_a13 : Nat) (o_a14 : Nat) (o_a15 : Nat) (o_a16 : Nat) (o_s : Nat → Int32) (o_m : Nat → Int32) (o_image : Nat → Int32) (o_was : Nat → Int32) (o_hasImage : Int32) (o_place : Int32) (o_rowAt : Int32) (o_rowEnd : Int32) (o_numbers : Nat → Int32) (o_most : Nat → Int32) (o_seed : Int32) (o_kept : Nat → Int32) (o_keptKind : Nat → Int32) (o_keptFigure : Nat → Int32) (o_sort : Nat → Int32) (o_size : Nat → Int32) (o_element : Nat → Int32) (o_thrown : Int32) (p1 : Int32) (p2 : Int32) (res : Int32) (w_o_s : Nat → Int32) (hv : f_X10_goes o_s p1 p2 = some (res, w_o_s)) : Wr l E yX10_goes cX10_goes 4 (some .int) ({ frames := 2, cells := 0, slots := 0, locals := 43 }) [.ref o_h, .int p1, .int p2] [oMo o_h o_a0 o_a1 o_a2 o_a3 o_hasImage o_place o_rowAt o_rowEnd o_a8 o_a9 o_seed o_a11 o_a12 o_a13 o_a14 o_a15 o_a16 o_thrown, ai E o_a0 42 o_s, ai E o_a1 42 o_m, ai E o_a2 42 o_image, ai E o_a3 42 o_was, ai E o_a8 3 o_numbers, ai E o_a9 8192 o_most, ai E o_a11 8 o_kept, ai E o_a12 8 o_keptKind, ai E o_a13 8 o_keptFigure, ai E o_a14 8 o_sort, ai E o_a15 8 o_size, ai E o_a16 800 o_element] [oMo o_h o_a0 o_a1 o_a2 o_a3 o_hasImage o_place o_rowAt o_rowEnd o_a8 o_a9 o_seed o_a11 o_a12 o_a13 o_a14 o_a15 o_a16 o_thrown, ai E o_a0 42 w_o_s, ai E o_a1 42 o_m, ai E o_a2 42 o_image, ai E o_a3 42 o_was, ai E o_a8 3 o_numbers, ai E o_a9 8192 o_most, ai E o_a11 8 o_kept, ai E o_a12 8 o_keptKind, ai E o_a13 8 o_keptFigure, ai E o_a14 8 o_sort, ai E o_a15 8 o_size, ai E o_a16 800 o_element] (some (.int res)) := by
  refine Wr.intro RX10 (by decide) rfl (Nat.le_of_ble_eq_true rfl) ?_
  intro p e s m below meth c ls A hC hr hlk hmn hP hD hS hA hG hl
  obtain ⟨hx, hb, hml, hown, ht⟩ := id hC
  have hK := hG.1
  have hl : lv_has ls 4 [(0, .ref o_h), (1, .int p1), (2, .int p2)] := hl
  rw [f_X10_goes] at hv
  refine lv_aload_n hx hb dX10_goes_0 rfl (lv_at hl 0 rfl) ?_
  refine lv_iload_n hx hb dX10_goes_1 rfl (lv_at hl 1 rfl) ?_
  obtain ⟨r1, h2, hv⟩ := ob_s hv
  refine rdV 4 0 (As := [.int p1]) (rest := []) (st1 := [.int r1]) (w := [oMo o_h o_a0 o_a1 o_a2 o_a3 o_hasImage o_place o_rowAt o_rowEnd o_a8 o_a9 o_seed o_a11 o_a12 o_a13 o_a14 o_a15 o_a16 o_thrown, ai E o_a0 42 o_s, ai E o_a1 42 o_m, ai E o_a2 42 o_image, ai E o_a3 42 o_was, ai E o_a8 3 o_numbers, ai E o_a9 8192 o_most, ai E o_a11 8 o_kept, ai E o_a12 8 o_keptKind, ai E o_a13 8 o_keptFigure, ai E o_a14 8 o_sort, ai E o_a15 8 o_size, ai E o_a16 800 o_element]) hC q_X10_isSpeaker kw_4_229 (c_X10_isSpeaker l E o_h o_a0 o_a1 o_a2 o_a3 o_a8 o_a9 o_a11 o_a12 o_a13 o_a14 o_a15 o_a16 o_s o_m o_image o_was o_hasImage o_place o_rowAt o_rowEnd o_numbers o_most o_seed o_kept o_keptKind o_keptFigure o_sort o_size o_element o_thrown p1 r1 h2) ⟨rfl, rfl⟩ ⟨Nat.le_of_ble_eq_true rfl, Nat.le_of_ble_eq_true rfl⟩ ⟨Nat.zero_le _, Nat.zero_le _⟩ hP rfl rfl rfl hG rfl hl.1 rfl (Nat.le_of_ble_eq_true rfl) dX10_goes_2 rfl ?_
  refine lv_if_eq (tgt := 15) hx hb dX10_goes_5 (by decide) (fun c3 => ?_) (fun c3 => ?_)
  · have hv := if_y c3 hv
    refine lv_iconst (v := (-1 : Int32)) hx hb dX10_goes_15 (by decide) ?_
    refine lv_topi (fun z4 ez4 => ?_)
    have hv := nm_s ez4 hv
    cases hv
    exact W.iret hx hb hr (fun t h9 _ => ⟨rfl, by rw [h9]; exact hP, hS.F h9⟩) hS.2.2 dX10_goes_16 hlk
  · have hv := if_n c3 hv
    refine lv_iload_n hx hb dX10_goes_8 rfl (lv_at hl 2 rfl) ?_
    obtain ⟨r5, h6, hv⟩ := ob_s hv
    refine rdS (rest := []) (st1 := [.int r5]) (w := []) hC q_X10_isRail kw_5_34 (c_X10_isRail l E p2 r5 h6) ⟨rfl, rfl⟩ ⟨Nat.le_of_ble_eq_true rfl, Nat.le_of_ble_eq_true rfl⟩ ⟨Nat.zero_le _, Nat.zero_le _⟩ (hP.sub (ws' := []) [] rfl) hG rfl hl.1 rfl (Nat.le_of_ble_eq_true rfl) dX10_goes_9 rfl ?_
    refine lv_if_ne (tgt := 17) hx hb dX10_goes_12 (by decide) (fun c7 => ?_) (fun c7 => ?_)
    · have hv := if_n c7 hv
      refine lv_aload_n hx hb dX10_goes_17 rfl (lv_at hl 0 rfl) ?_
      refine va_get (D := E.1) (ci := 4) (v := .ref o_a0) (C := RX10) (T := TX10) (N := 18) hx hb ht i_X10 hown hK hP 0 rfl rfl 0 (by decide) (ht _ kw_4_134) (fun _ h9 => h9) rfl dX10_goes_18 ?_
      refine lv_iload_n hx hb dX10_goes_21 rfl (lv_at hl 1 rfl) ?_
      refine lv_iconst (v := (2 : Int32)) hx hb dX10_goes_22 (by decide) ?_
      obtain ⟨r8, h9, hv⟩ := ob_s hv
      refine rdS (rest := [.ref o_a0]) (st1 := [.int r8, .ref o_a0]) (w := []) hC q_X10_of kw_4_226 (c_X10_of l E p1 (2 : Int32) r8 h9) ⟨rfl, rfl⟩ ⟨Nat.le_of_ble_eq_true rfl, Nat.le_of_ble_eq_true rfl⟩ ⟨Nat.zero_le _, Nat.zero_le _⟩ (hP.sub (ws' := []) [] rfl) hG rfl hl.1 rfl (Nat.le_of_ble_eq_true rfl) dX10_goes_23 rfl ?_
      obtain ⟨g10, hv⟩ := gd_s hv
      refine va_iald hx hb hK hP 1 0 rfl rfl (ix_s g10) dX10_goes_26 ?_
      refine lv_istore_n (lv' := [(3, .int (o_s r8.toNatClampNeg)), (0, .ref o_h), (1, .int p1), (2, .int p2)]) hx hb dX10_goes_27 rfl hl (by decide) rfl (fun ls hl => ?_)
      refine lv_aload_n hx hb dX10_goes_28 rfl (lv_at hl 1 rfl) ?_
      refine va_get (D := E.1) (ci := 4) (v := .ref o_a0) (C := RX10) (T := TX10) (N := 18) hx hb ht i_X10 hown hK hP 0 rfl rfl 0 (by decide) (ht _ kw_4_134) (fun _ h9 => h9) rfl dX10_goes_29 ?_
      refine lv_iload_n hx hb dX10_goes_32 rfl (lv_at hl 2 rfl) ?_
      refine lv_iconst (v := (2 : Int32)) hx hb dX10_goes_33 (by decide) ?_
      obtain ⟨r11, h12, hv⟩ := ob_s hv
      refine rdS (rest := [.ref o_a0]) (st1 := [.int r11, .ref o_a0]) (w := []) hC q_X10_of kw_4_226 (c_X10_of l E p1 (2 : Int32) r11 h12) ⟨rfl, rfl⟩ ⟨Nat.le_of_ble_eq_true rfl, Nat.le_of_ble_eq_true rfl⟩ ⟨Nat.zero_le _, Nat.zero_le _⟩ (hP.sub (ws' := []) [] rfl) hG rfl hl.1 rfl (Nat.le_of_ble_eq_true rfl) dX10_goes_34 rfl ?_
      refine lv_iload_n hx hb dX10_goes_37 rfl (lv_at hl 3 rfl) ?_
      obtain ⟨g13, hv⟩ := gd_s hv
      refine va_iast hx hb hK hP hD hS 1 0 rfl rfl (ix_s g13) dX10_goes_38 (fun H locs hP hD hS => ?_)
      have hP : va_P E.1 vwCl [oMo o_h o_a0 o_a1 o_a2 o_a3 o_hasImage o_place o_rowAt o_rowEnd o_a8 o_a9 o_seed o_a11 o_a12 o_a13 o_a14 o_a15 o_a16 o_thrown, ai E o_a0 42 (upd o_s r11.toNatClampNeg p2), ai E o_a1 42 o_m, ai E o_a2 42 o_image, ai E o_a3 42 o_was, ai E o_a8 3 o_numbers, ai E o_a9 8192 o_most, ai E o_a11 8 o_kept, ai E o_a12 8 o_keptKind, ai E o_a13 8 o_keptFigure, ai E o_a14 8 o_sort, ai E o_a15 8 o_size, ai E o_a16 800 o_element] H := hP
      have hD : va_D A [oMo o_h o_a0 o_a1 o_a2 o_a3 o_hasImage o_place o_rowAt o_rowEnd o_a8 o_a9 o_seed o_a11 o_a12 o_a13 o_a14 o_a15 o_a16 o_thrown, ai E o_a0 42 (upd o_s r11.toNatClampNeg p2), ai E o_a1 42 o_m, ai E o_a2 42 o_image, ai E o_a3 42 o_was, ai E o_a8 3 o_numbers, ai E o_a9 8192 o_most, ai E o_a11 8 o_kept, ai E o_a12 8 o_keptKind, ai E o_a13 8 o_keptFigure, ai E o_a14 8 o_sort, ai E o_a15 8 o_size, ai E o_a16 800 o_element] := hD
      obtain ⟨f14, ef14⟩ : ∃ z, z = (upd o_s r11.toNatClampNeg p2) := ⟨_, rfl⟩
      rw [← ef14] at hP hD
      have hv := nm_s ef14 hv
      refine lv_iload_n hx hb dX10_goes_39 rfl (lv_at hl 0 rfl) ?_
      refine lv_topi (fun z15 ez15 => ?_)
      have hv := nm_s ez15 hv
      cases hv
      exact W.iret hx hb hr (fun t h9 _ => ⟨rfl, by rw [h9]; exact hP, hS.F h9⟩) hS.2.2 dX10_goes_40 hlk
    · have hv := if_y c7 hv
      refine lv_iconst (v := (-1 : Int32)) hx hb dX10_goes_15 (by decide) ?_
      refine lv_topi (fun z16 ez16 => ?_)
      have hv := nm_s ez16 hv
      cases hv
      exact W.iret hx hb hr (fun t h9 _ => ⟨rfl, by rw [h9]; exact hP, hS.F h9⟩) hS.2.2 dX10_goes_16 hlk
theorem dX10_quota_0 : decode cX10_quota 0 = .ok (.iload_n 1, 1) := by decide +kernel
theorem dX10_quota_1 : decode cX10_quota 1 = .ok (.iconst 1, 1) := by decide +kernel
theorem dX10_quota_2 : decode cX10_quota 2 = .ok (.bipush 99, 2) := by decide +kernel
theorem dX10_quota_4 : decode cX10_quota 4 = .ok (.invokestatic 46, 3) := by decide +kernel
theorem dX10_quota_7 : decode cX10_quota 7 = .ok (.ifCond .ne 5, 3) := by decide +kernel
theorem dX10_quota_10 : decode cX10_quota 10 = .ok (.iconst (-1), 1) := by decide +kernel
theorem dX10_quota_11 : decode cX10_quota 11 = .ok (.ireturn, 1) := by decide +kernel
theorem dX10_quota_12 : decode cX10_quota 12 = .ok (.aload_n 0, 1) := by decide +kernel
theorem dX10_quota_13 : decode cX10_quota 13 = .ok (.getfield 9, 3) := by decide +kernel
theorem dX10_quota_16 : decode cX10_quota 16 = .ok (.iconst 2, 1) := by decide +kernel
theorem dX10_quota_17 : decode cX10_quota 17 = .ok (.iaload, 1) := by decide +kernel
theorem dX10_quota_18 : decode cX10_quota 18 = .ok (.istore_n 2, 1) := by decide +kernel
theorem dX10_quota_19 : decode cX10_quota 19 = .ok (.aload_n 0, 1) := by decide +kernel
theorem dX10_quota_20 : decode cX10_quota 20 = .ok (.getfield 9, 3) := by decide +kernel
theorem dX10_quota_23 : decode cX10_quota 23 = .ok (.iconst 2, 1) := by decide +kernel
theorem dX10_quota_24 : decode cX10_quota 24 = .ok (.iload_n 1, 1) := by decide +kernel
theorem dX10_quota_25 : decode cX10_quota 25 = .ok (.iastore, 1) := by decide +kernel
theorem dX10_quota_26 : decode cX10_quota 26 = .ok (.iload_n 2, 1) := by decide +kernel
theorem dX10_quota_27 : decode cX10_quota 27 = .ok (.ireturn, 1) := by decide +kernel
def f_X10_quota (o_s : Nat → Int32) (p1 : Int32) : Option (Int32 × (Nat → Int32)) := ob (f_X10_isIn p1 (1 : Int32) (99 : Int32)) (fun r1 => if r1 = 0 then nm (-1 : Int32) (fun z6 => some (z6, o_s)) else nm (upd o_s 2 p1) (fun f4 => nm (o_s 2) (fun z5 => some (z5, f4))))
set_option maxHeartbeats 4000000 in
set_option maxRecDepth 100000 in
theorem c_X10_quota (l : Launch) (E : EE) (o_h : Nat) (o_a0 : Nat) (o_a1 : Nat) (o_a2 : Nat) (o_a3 : Nat) (o_a8 : Nat) (o_a9 : Nat) (o_a11 : Nat) (o_a12 : Nat) (o_a13 : Nat) (o_a14 : Nat) (o_a15 : Nat) (o_a16 : Nat) (o_s : Nat → Int32) (o_m : Nat → Int32) (o_image : Nat → Int32) (o_was : Nat → Int32) (o_hasImage : Int32) (o_place : Int32) (o_rowAt : Int32) (o_rowEnd : Int32) (o_numbers : Nat → Int32) (o_most : Nat → Int32) (o_seed : Int32) (o_kept : Nat → Int32) (o_keptKind : Nat → Int32) (o_keptFigure : Nat → Int32) (o_sort : Nat → Int32) (o_size : Nat → Int32) (o_element : Nat → Int32) (o_thrown : Int32) (p1 : Int32) (res : Int32) (w_o_s : Nat → Int32) (hv : f_X10_quota o_s p1 = some (res, w_o_s)) : Wr l E yX10_quota cX10_quota 3 (some .int) ({ frames := 1, cells := 0, slots := 0, locals := 22 }) [.ref o_h, .int p1] [oMo o_h o_a0 o_a1 o_a2 o_a3 o_hasImage o_place o_rowAt o_rowEnd o_a8 o_a9 o_seed o_a11 o_a12 o_a13 o_a14 o_a15 o_a16 o_thrown, ai E o_a0 42 o_s, ai E o_a1 42 o_m, ai E o_a2 42 o_image, ai E o_a3 42 o_was, ai E o_a8 3 o_numbers, ai E o_a9 8192 o_most, ai E o_a11 8 o_kept, ai E o_a12 8 o_keptKind, ai E o_a13 8 o_keptFigure, ai E o_a14 8 o_sort, ai E o_a15 8 o_size, ai E o_a16 800 o_element] [oMo o_h o_a0 o_a1 o_a2 o_a3 o_hasImage o_place o_rowAt o_rowEnd o_a8 o_a9 o_seed o_a11 o_a12 o_a13 o_a14 o_a15 o_a16 o_thrown, ai E o_a0 42 w_o_s, ai E o_a1 42 o_m, ai E o_a2 42 o_image, ai E o_a3 42 o_was, ai E o_a8 3 o_numbers, ai E o_a9 8192 o_most, ai E o_a11 8 o_kept, ai E o_a12 8 o_keptKind, ai E o_a13 8 o_keptFigure, ai E o_a14 8 o_sort, ai E o_a15 8 o_size, ai E o_a16 800 o_element] (some (.int res)) := by
  refine Wr.intro RX10 (by decide) rfl (Nat.le_of_ble_eq_true rfl) ?_
  intro p e s m below meth c ls A hC hr hlk hmn hP hD hS hA hG hl
  obtain ⟨hx, hb, hml, hown, ht⟩ := id hC
  have hK := hG.1
  have hl : lv_has ls 3 [(0, .ref o_h), (1, .int p1)] := hl
  rw [f_X10_quota] at hv
  refine lv_iload_n hx hb dX10_quota_0 rfl (lv_at hl 1 rfl) ?_
  refine lv_iconst (v := (1 : Int32)) hx hb dX10_quota_1 (by decide) ?_
  refine lv_bipush (v := (99 : Int32)) hx hb dX10_quota_2 (by decide) ?_
  obtain ⟨r1, h2, hv⟩ := ob_s hv
  refine rdS (rest := []) (st1 := [.int r1]) (w := []) hC q_X10_isIn kw_4_200 (c_X10_isIn l E p1 (1 : Int32) (99 : Int32) r1 h2) ⟨rfl, rfl⟩ ⟨Nat.le_of_ble_eq_true rfl, Nat.le_of_ble_eq_true rfl⟩ ⟨Nat.zero_le _, Nat.zero_le _⟩ (hP.sub (ws' := []) [] rfl) hG rfl hl.1 rfl (Nat.le_of_ble_eq_true rfl) dX10_quota_4 rfl ?_
  refine lv_if_ne (tgt := 12) hx hb dX10_quota_7 (by decide) (fun c3 => ?_) (fun c3 => ?_)
  · have hv := if_n c3 hv
    refine lv_aload_n hx hb dX10_quota_12 rfl (lv_at hl 0 rfl) ?_
    refine va_get (D := E.1) (ci := 4) (v := .ref o_a0) (C := RX10) (T := TX10) (N := 18) hx hb ht i_X10 hown hK hP 0 rfl rfl 0 (by decide) (ht _ kw_4_134) (fun _ h9 => h9) rfl dX10_quota_13 ?_
    refine lv_iconst (v := (2 : Int32)) hx hb dX10_quota_16 (by decide) ?_
    refine va_iald hx hb hK hP 1 0 rfl rfl (ix_s (by decide)) dX10_quota_17 ?_
    refine W.eq (g2 := F0 m 18 ls [.int (o_s 2)]) rfl ?_
    refine lv_istore_n (lv' := [(2, .int (o_s 2)), (0, .ref o_h), (1, .int p1)]) hx hb dX10_quota_18 rfl hl (by decide) rfl (fun ls hl => ?_)
    refine lv_aload_n hx hb dX10_quota_19 rfl (lv_at hl 1 rfl) ?_
    refine va_get (D := E.1) (ci := 4) (v := .ref o_a0) (C := RX10) (T := TX10) (N := 18) hx hb ht i_X10 hown hK hP 0 rfl rfl 0 (by decide) (ht _ kw_4_134) (fun _ h9 => h9) rfl dX10_quota_20 ?_
    refine lv_iconst (v := (2 : Int32)) hx hb dX10_quota_23 (by decide) ?_
    refine lv_iload_n hx hb dX10_quota_24 rfl (lv_at hl 2 rfl) ?_
    refine va_iast hx hb hK hP hD hS 1 0 rfl rfl (ix_s (by decide)) dX10_quota_25 (fun H locs hP hD hS => ?_)
    have hP : va_P E.1 vwCl [oMo o_h o_a0 o_a1 o_a2 o_a3 o_hasImage o_place o_rowAt o_rowEnd o_a8 o_a9 o_seed o_a11 o_a12 o_a13 o_a14 o_a15 o_a16 o_thrown, ai E o_a0 42 (upd o_s 2 p1), ai E o_a1 42 o_m, ai E o_a2 42 o_image, ai E o_a3 42 o_was, ai E o_a8 3 o_numbers, ai E o_a9 8192 o_most, ai E o_a11 8 o_kept, ai E o_a12 8 o_keptKind, ai E o_a13 8 o_keptFigure, ai E o_a14 8 o_sort, ai E o_a15 8 o_size, ai E o_a16 800 o_element] H := hP
    have hD : va_D A [oMo o_h o_a0 o_a1 o_a2 o_a3 o_hasImage o_place o_rowAt o_rowEnd o_a8 o_a9 o_seed o_a11 o_a12 o_a13 o_a14 o_a15 o_a16 o_thrown, ai E o_a0 42 (upd o_s 2 p1), ai E o_a1 42 o_m, ai E o_a2 42 o_image, ai E o_a3 42 o_was, ai E o_a8 3 o_numbers, ai E o_a9 8192 o_most, ai E o_a11 8 o_kept, ai E o_a12 8 o_keptKind, ai E o_a13 8 o_keptFigure, ai E o_a14 8 o_sort, ai E o_a15 8 o_size, ai E o_a16 800 o_element] := hD
    obtain ⟨f4, ef4⟩ : ∃ z, z = (upd o_s 2 p1) := ⟨_, rfl⟩
    rw [← ef4] at hP hD
    have hv := nm_s ef4 hv
    refine lv_iload_n hx hb dX10_quota_26 rfl (lv_at hl 0 rfl) ?_
    refine lv_topi (fun z5 ez5 => ?_)
    have hv := nm_s ez5 hv
    cases hv
    exact W.iret hx hb hr (fun t h9 _ => ⟨rfl, by rw [h9]; exact hP, hS.F h9⟩) hS.2.2 dX10_quota_27 hlk
  · have hv := if_y c3 hv
    refine lv_iconst (v := (-1 : Int32)) hx hb dX10_quota_10 (by decide) ?_
    refine lv_topi (fun z6 ez6 => ?_)
    have hv := nm_s ez6 hv
    cases hv
    exact W.iret hx hb hr (fun t h9 _ => ⟨rfl, by rw [h9]; exact hP, hS.F h9⟩) hS.2.2 dX10_quota_11 hlk
theorem dX10_days_0 : decode cX10_days 0 = .ok (.iload_n 1, 1) := by decide +kernel
theorem dX10_days_1 : decode cX10_days 1 = .ok (.iconst 1, 1) := by decide +kernel
theorem dX10_days_2 : decode cX10_days 2 = .ok (.bipush 60, 2) := by decide +kernel
theorem dX10_days_4 : decode cX10_days 4 = .ok (.invokestatic 46, 3) := by decide +kernel
theorem dX10_days_7 : decode cX10_days 7 = .ok (.ifCond .ne 5, 3) := by decide +kernel
theorem dX10_days_10 : decode cX10_days 10 = .ok (.iconst (-1), 1) := by decide +kernel
theorem dX10_days_11 : decode cX10_days 11 = .ok (.ireturn, 1) := by decide +kernel
theorem dX10_days_12 : decode cX10_days 12 = .ok (.aload_n 0, 1) := by decide +kernel
theorem dX10_days_13 : decode cX10_days 13 = .ok (.getfield 9, 3) := by decide +kernel
theorem dX10_days_16 : decode cX10_days 16 = .ok (.iconst 1, 1) := by decide +kernel
theorem dX10_days_17 : decode cX10_days 17 = .ok (.iaload, 1) := by decide +kernel
theorem dX10_days_18 : decode cX10_days 18 = .ok (.iload_n 1, 1) := by decide +kernel
theorem dX10_days_19 : decode cX10_days 19 = .ok (.iadd, 1) := by decide +kernel
theorem dX10_days_20 : decode cX10_days 20 = .ok (.sipush 999, 3) := by decide +kernel
theorem dX10_days_23 : decode cX10_days 23 = .ok (.if_icmp .le 6, 3) := by decide +kernel
theorem dX10_days_26 : decode cX10_days 26 = .ok (.bipush (-3), 2) := by decide +kernel
theorem dX10_days_28 : decode cX10_days 28 = .ok (.ireturn, 1) := by decide +kernel
theorem dX10_days_29 : decode cX10_days 29 = .ok (.aload_n 0, 1) := by decide +kernel
theorem dX10_days_30 : decode cX10_days 30 = .ok (.getfield 9, 3) := by decide +kernel
theorem dX10_days_33 : decode cX10_days 33 = .ok (.iload_n 1, 1) := by decide +kernel
theorem dX10_days_34 : decode cX10_days 34 = .ok (.invokestatic 138, 3) := by decide +kernel
theorem dX10_days_37 : decode cX10_days 37 = .ok (.aload_n 0, 1) := by decide +kernel
theorem dX10_days_38 : decode cX10_days 38 = .ok (.getfield 9, 3) := by decide +kernel
theorem dX10_days_41 : decode cX10_days 41 = .ok (.invokestatic 163, 3) := by decide +kernel
theorem dX10_days_44 : decode cX10_days 44 = .ok (.ifCond .eq 7, 3) := by decide +kernel
theorem dX10_days_47 : decode cX10_days 47 = .ok (.iconst 1, 1) := by decide +kernel
theorem dX10_days_48 : decode cX10_days 48 = .ok (.goto 4, 3) := by decide +kernel
theorem dX10_days_51 : decode cX10_days 51 = .ok (.iconst 0, 1) := by decide +kernel
theorem dX10_days_52 : decode cX10_days 52 = .ok (.ireturn, 1) := by decide +kernel
def f_X10_days (N : Nat) (o_s : Nat → Int32) (p1 : Int32) : Option (Int32 × (Nat → Int32)) := ob (f_X10_isIn p1 (1 : Int32) (60 : Int32)) (fun r1 => if r1 = 0 then nm (-1 : Int32) (fun z13 => some (z13, o_s)) else if ((o_s 1) + p1) ≤ (999 : Int32) then ob (f_X10_daysOn N o_s p1) (fun y5 => ob (f_X10_doesCarry N y5) (fun r7 => if r7 = 0 then nm (0 : Int32) (fun z10 => some (z10, y5)) else nm (1 : Int32) (fun z11 => some (z11, y5)))) else nm (-3 : Int32) (fun z12 => some (z12, o_s)))
set_option maxHeartbeats 4000000 in
set_option maxRecDepth 100000 in
theorem c_X10_days (l : Launch) (E : EE) (o_h : Nat) (o_a0 : Nat) (o_a1 : Nat) (o_a2 : Nat) (o_a3 : Nat) (o_a8 : Nat) (o_a9 : Nat) (o_a11 : Nat) (o_a12 : Nat) (o_a13 : Nat) (o_a14 : Nat) (o_a15 : Nat) (o_a16 : Nat) (o_s : Nat → Int32) (o_m : Nat → Int32) (o_image : Nat → Int32) (o_was : Nat → Int32) (o_hasImage : Int32) (o_place : Int32) (o_rowAt : Int32) (o_rowEnd : Int32) (o_numbers : Nat → Int32) (o_most : Nat → Int32) (o_seed : Int32) (o_kept : Nat → Int32) (o_keptKind : Nat → Int32) (o_keptFigure : Nat → Int32) (o_sort : Nat → Int32) (o_size : Nat → Int32) (o_element : Nat → Int32) (o_thrown : Int32) (p1 : Int32) (N : Nat) (res : Int32) (w_o_s : Nat → Int32) (hv : f_X10_days N o_s p1 = some (res, w_o_s)) : Wr l E yX10_days cX10_days 2 (some .int) ({ frames := 6, cells := 0, slots := 0, locals := 133 }) [.ref o_h, .int p1] [oMo o_h o_a0 o_a1 o_a2 o_a3 o_hasImage o_place o_rowAt o_rowEnd o_a8 o_a9 o_seed o_a11 o_a12 o_a13 o_a14 o_a15 o_a16 o_thrown, ai E o_a0 42 o_s, ai E o_a1 42 o_m, ai E o_a2 42 o_image, ai E o_a3 42 o_was, ai E o_a8 3 o_numbers, ai E o_a9 8192 o_most, ai E o_a11 8 o_kept, ai E o_a12 8 o_keptKind, ai E o_a13 8 o_keptFigure, ai E o_a14 8 o_sort, ai E o_a15 8 o_size, ai E o_a16 800 o_element] [oMo o_h o_a0 o_a1 o_a2 o_a3 o_hasImage o_place o_rowAt o_rowEnd o_a8 o_a9 o_seed o_a11 o_a12 o_a13 o_a14 o_a15 o_a16 o_thrown, ai E o_a0 42 w_o_s, ai E o_a1 42 o_m, ai E o_a2 42 o_image, ai E o_a3 42 o_was, ai E o_a8 3 o_numbers, ai E o_a9 8192 o_most, ai E o_a11 8 o_kept, ai E o_a12 8 o_keptKind, ai E o_a13 8 o_keptFigure, ai E o_a14 8 o_sort, ai E o_a15 8 o_size, ai E o_a16 800 o_element] (some (.int res)) := by
  refine Wr.intro RX10 (by decide) rfl (Nat.le_of_ble_eq_true rfl) ?_
  intro p e s m below meth c ls A hC hr hlk hmn hP hD hS hA hG hl
  obtain ⟨hx, hb, hml, hown, ht⟩ := id hC
  have hK := hG.1
  have hl : lv_has ls 2 [(0, .ref o_h), (1, .int p1)] := hl
  rw [f_X10_days] at hv
  refine lv_iload_n hx hb dX10_days_0 rfl (lv_at hl 1 rfl) ?_
  refine lv_iconst (v := (1 : Int32)) hx hb dX10_days_1 (by decide) ?_
  refine lv_bipush (v := (60 : Int32)) hx hb dX10_days_2 (by decide) ?_
  obtain ⟨r1, h2, hv⟩ := ob_s hv
  refine rdS (rest := []) (st1 := [.int r1]) (w := []) hC q_X10_isIn kw_4_200 (c_X10_isIn l E p1 (1 : Int32) (60 : Int32) r1 h2) ⟨rfl, rfl⟩ ⟨Nat.le_of_ble_eq_true rfl, Nat.le_of_ble_eq_true rfl⟩ ⟨Nat.zero_le _, Nat.zero_le _⟩ (hP.sub (ws' := []) [] rfl) hG rfl hl.1 rfl (Nat.le_of_ble_eq_true rfl) dX10_days_4 rfl ?_
  refine lv_if_ne (tgt := 12) hx hb dX10_days_7 (by decide) (fun c3 => ?_) (fun c3 => ?_)
  · have hv := if_n c3 hv
    refine lv_aload_n hx hb dX10_days_12 rfl (lv_at hl 0 rfl) ?_
    refine va_get (D := E.1) (ci := 4) (v := .ref o_a0) (C := RX10) (T := TX10) (N := 18) hx hb ht i_X10 hown hK hP 0 rfl rfl 0 (by decide) (ht _ kw_4_134) (fun _ h9 => h9) rfl dX10_days_13 ?_
    refine lv_iconst (v := (1 : Int32)) hx hb dX10_days_16 (by decide) ?_
    refine va_iald hx hb hK hP 1 0 rfl rfl (ix_s (by decide)) dX10_days_17 ?_
    refine W.eq (g2 := F0 m 18 ls [.int (o_s 1)]) rfl ?_
    refine lv_iload_n hx hb dX10_days_18 rfl (lv_at hl 1 rfl) ?_
    refine lv_iadd hx hb dX10_days_19 ?_
    refine lv_sipush (v := (999 : Int32)) hx hb dX10_days_20 (by decide) ?_
    refine lv_icmp_le (tgt := 29) hx hb dX10_days_23 (by decide) (fun c4 => ?_) (fun c4 => ?_)
    · have hv := if_y c4 hv
      refine lv_aload_n hx hb dX10_days_29 rfl (lv_at hl 0 rfl) ?_
      refine va_get (D := E.1) (ci := 4) (v := .ref o_a0) (C := RX10) (T := TX10) (N := 18) hx hb ht i_X10 hown hK hP 0 rfl rfl 0 (by decide) (ht _ kw_4_134) (fun _ h9 => h9) rfl dX10_days_30 ?_
      refine lv_iload_n hx hb dX10_days_33 rfl (lv_at hl 1 rfl) ?_
      obtain ⟨y5, h6, hv⟩ := ob_s hv
      refine wrS (as := [o_h, o_a0, o_a1, o_a2, o_a3, o_a8, o_a9, o_a11, o_a12, o_a13, o_a14, o_a15, o_a16]) (wr := [oMo o_h o_a0 o_a1 o_a2 o_a3 o_hasImage o_place o_rowAt o_rowEnd o_a8 o_a9 o_seed o_a11 o_a12 o_a13 o_a14 o_a15 o_a16 o_thrown, ai E o_a1 42 o_m, ai E o_a2 42 o_image, ai E o_a3 42 o_was, ai E o_a8 3 o_numbers, ai E o_a9 8192 o_most, ai E o_a11 8 o_kept, ai E o_a12 8 o_keptKind, ai E o_a13 8 o_keptFigure, ai E o_a14 8 o_sort, ai E o_a15 8 o_size, ai E o_a16 800 o_element]) [1] [0, 2, 3, 4, 5, 6, 7, 8, 9, 10, 11, 12] (ws := [oMo o_h o_a0 o_a1 o_a2 o_a3 o_hasImage o_place o_rowAt o_rowEnd o_a8 o_a9 o_seed o_a11 o_a12 o_a13 o_a14 o_a15 o_a16 o_thrown, ai E o_a0 42 o_s, ai E o_a1 42 o_m, ai E o_a2 42 o_image, ai E o_a3 42 o_was, ai E o_a8 3 o_numbers, ai E o_a9 8192 o_most, ai E o_a11 8 o_kept, ai E o_a12 8 o_keptKind, ai E o_a13 8 o_keptFigure, ai E o_a14 8 o_sort, ai E o_a15 8 o_size, ai E o_a16 800 o_element]) (ws' := [oMo o_h o_a0 o_a1 o_a2 o_a3 o_hasImage o_place o_rowAt o_rowEnd o_a8 o_a9 o_seed o_a11 o_a12 o_a13 o_a14 o_a15 o_a16 o_thrown, ai E o_a0 42 y5, ai E o_a1 42 o_m, ai E o_a2 42 o_image, ai E o_a3 42 o_was, ai E o_a8 3 o_numbers, ai E o_a9 8192 o_most, ai E o_a11 8 o_kept, ai E o_a12 8 o_keptKind, ai E o_a13 8 o_keptFigure, ai E o_a14 8 o_sort, ai E o_a15 8 o_size, ai E o_a16 800 o_element]) (rest := []) (st1 := []) hC q_X10_daysOn kw_4_233 (c_X10_daysOn l E o_a0 o_s p1 N y5 h6) ⟨rfl, rfl⟩ ⟨Nat.le_of_ble_eq_true rfl, Nat.le_of_ble_eq_true rfl⟩ ⟨Nat.zero_le _, Nat.zero_le _⟩ hP hD hS hA hG (by decide) rfl rfl rfl rfl rfl rfl rfl rfl hl.1 rfl (Nat.le_of_ble_eq_true rfl) dX10_days_34 rfl (fun H locs hP hD hS => ?_)
      refine lv_aload_n hx hb dX10_days_37 rfl (lv_at hl 0 rfl) ?_
      refine va_get (D := E.1) (ci := 4) (v := .ref o_a0) (C := RX10) (T := TX10) (N := 18) hx hb ht i_X10 hown hK hP 0 rfl rfl 0 (by decide) (ht _ kw_4_134) (fun _ h9 => h9) rfl dX10_days_38 ?_
      obtain ⟨r7, h8, hv⟩ := ob_s hv
      refine rdS (rest := []) (st1 := [.int r7]) (w := [ai E o_a0 42 y5]) hC q_X10_doesCarry kw_5_70 (c_X10_doesCarry l E o_a0 y5 N r7 h8) ⟨rfl, rfl⟩ ⟨Nat.le_of_ble_eq_true rfl, Nat.le_of_ble_eq_true rfl⟩ ⟨Nat.zero_le _, Nat.zero_le _⟩ (hP.sub (ws' := [ai E o_a0 42 y5]) [1] rfl) hG rfl hl.1 rfl (Nat.le_of_ble_eq_true rfl) dX10_days_41 rfl ?_
      refine lv_if_eq (tgt := 51) hx hb dX10_days_44 (by decide) (fun c9 => ?_) (fun c9 => ?_)
      · have hv := if_y c9 hv
        refine lv_iconst (v := (0 : Int32)) hx hb dX10_days_51 (by decide) ?_
        refine lv_topi (fun z10 ez10 => ?_)
        have hv := nm_s ez10 hv
        cases hv
        exact W.iret hx hb hr (fun t h9 _ => ⟨rfl, by rw [h9]; exact hP, hS.F h9⟩) hS.2.2 dX10_days_52 hlk
      · have hv := if_n c9 hv
        refine lv_iconst (v := (1 : Int32)) hx hb dX10_days_47 (by decide) ?_
        refine lv_goto (tgt := 52) hx hb dX10_days_48 (by decide) ?_
        refine lv_topi (fun z11 ez11 => ?_)
        have hv := nm_s ez11 hv
        cases hv
        exact W.iret hx hb hr (fun t h9 _ => ⟨rfl, by rw [h9]; exact hP, hS.F h9⟩) hS.2.2 dX10_days_52 hlk
    · have hv := if_n c4 hv
      refine lv_bipush (v := (-3 : Int32)) hx hb dX10_days_26 (by decide) ?_
      refine lv_topi (fun z12 ez12 => ?_)
      have hv := nm_s ez12 hv
      cases hv
      exact W.iret hx hb hr (fun t h9 _ => ⟨rfl, by rw [h9]; exact hP, hS.F h9⟩) hS.2.2 dX10_days_28 hlk
  · have hv := if_y c3 hv
    refine lv_iconst (v := (-1 : Int32)) hx hb dX10_days_10 (by decide) ?_
    refine lv_topi (fun z13 ez13 => ?_)
    have hv := nm_s ez13 hv
    cases hv
    exact W.iret hx hb hr (fun t h9 _ => ⟨rfl, by rw [h9]; exact hP, hS.F h9⟩) hS.2.2 dX10_days_11 hlk
theorem dX10_carries_0 : decode cX10_carries 0 = .ok (.iload_n 1, 1) := by decide +kernel
theorem dX10_carries_1 : decode cX10_carries 1 = .ok (.tableswitch 105 0 3 #[31, 47, 55, 90], 31) := by decide +kernel
theorem dX10_carries_32 : decode cX10_carries 32 = .ok (.aload_n 0, 1) := by decide +kernel
theorem dX10_carries_33 : decode cX10_carries 33 = .ok (.getfield 9, 3) := by decide +kernel
theorem dX10_carries_36 : decode cX10_carries 36 = .ok (.invokestatic 163, 3) := by decide +kernel
theorem dX10_carries_39 : decode cX10_carries 39 = .ok (.ifCond .eq 7, 3) := by decide +kernel
theorem dX10_carries_42 : decode cX10_carries 42 = .ok (.iconst 1, 1) := by decide +kernel
theorem dX10_carries_43 : decode cX10_carries 43 = .ok (.goto 4, 3) := by decide +kernel
theorem dX10_carries_46 : decode cX10_carries 46 = .ok (.iconst 0, 1) := by decide +kernel
theorem dX10_carries_47 : decode cX10_carries 47 = .ok (.ireturn, 1) := by decide +kernel
theorem dX10_carries_48 : decode cX10_carries 48 = .ok (.aload_n 0, 1) := by decide +kernel
theorem dX10_carries_49 : decode cX10_carries 49 = .ok (.getfield 9, 3) := by decide +kernel
theorem dX10_carries_52 : decode cX10_carries 52 = .ok (.invokestatic 167, 3) := by decide +kernel
theorem dX10_carries_55 : decode cX10_carries 55 = .ok (.ireturn, 1) := by decide +kernel
theorem dX10_carries_56 : decode cX10_carries 56 = .ok (.aload_n 0, 1) := by decide +kernel
theorem dX10_carries_57 : decode cX10_carries 57 = .ok (.getfield 9, 3) := by decide +kernel
theorem dX10_carries_60 : decode cX10_carries 60 = .ok (.invokestatic 167, 3) := by decide +kernel
theorem dX10_carries_63 : decode cX10_carries 63 = .ok (.aload_n 0, 1) := by decide +kernel
theorem dX10_carries_64 : decode cX10_carries 64 = .ok (.getfield 9, 3) := by decide +kernel
theorem dX10_carries_67 : decode cX10_carries 67 = .ok (.iconst 2, 1) := by decide +kernel
theorem dX10_carries_68 : decode cX10_carries 68 = .ok (.iaload, 1) := by decide +kernel
theorem dX10_carries_69 : decode cX10_carries 69 = .ok (.if_icmp .ge 20, 3) := by decide +kernel
theorem dX10_carries_72 : decode cX10_carries 72 = .ok (.aload_n 0, 1) := by decide +kernel
theorem dX10_carries_73 : decode cX10_carries 73 = .ok (.getfield 9, 3) := by decide +kernel
theorem dX10_carries_76 : decode cX10_carries 76 = .ok (.iconst 2, 1) := by decide +kernel
theorem dX10_carries_77 : decode cX10_carries 77 = .ok (.iaload, 1) := by decide +kernel
theorem dX10_carries_78 : decode cX10_carries 78 = .ok (.aload_n 0, 1) := by decide +kernel
theorem dX10_carries_79 : decode cX10_carries 79 = .ok (.getfield 9, 3) := by decide +kernel
theorem dX10_carries_82 : decode cX10_carries 82 = .ok (.invokestatic 167, 3) := by decide +kernel
theorem dX10_carries_85 : decode cX10_carries 85 = .ok (.isub, 1) := by decide +kernel
theorem dX10_carries_86 : decode cX10_carries 86 = .ok (.goto 4, 3) := by decide +kernel
theorem dX10_carries_89 : decode cX10_carries 89 = .ok (.iconst 0, 1) := by decide +kernel
theorem dX10_carries_90 : decode cX10_carries 90 = .ok (.ireturn, 1) := by decide +kernel
theorem dX10_carries_91 : decode cX10_carries 91 = .ok (.aload_n 0, 1) := by decide +kernel
theorem dX10_carries_92 : decode cX10_carries 92 = .ok (.getfield 9, 3) := by decide +kernel
theorem dX10_carries_95 : decode cX10_carries 95 = .ok (.aload_n 0, 1) := by decide +kernel
theorem dX10_carries_96 : decode cX10_carries 96 = .ok (.getfield 9, 3) := by decide +kernel
theorem dX10_carries_99 : decode cX10_carries 99 = .ok (.invokestatic 92, 3) := by decide +kernel
theorem dX10_carries_102 : decode cX10_carries 102 = .ok (.invokestatic 96, 3) := by decide +kernel
theorem dX10_carries_105 : decode cX10_carries 105 = .ok (.ireturn, 1) := by decide +kernel
theorem dX10_carries_106 : decode cX10_carries 106 = .ok (.iconst (-1), 1) := by decide +kernel
theorem dX10_carries_107 : decode cX10_carries 107 = .ok (.ireturn, 1) := by decide +kernel
def f_X10_carries (N : Nat) (o_s : Nat → Int32) (p1 : Int32) : Option (Int32) := if p1 = (0 : Int32) then ob (f_X10_doesCarry N o_s) (fun r2 => if r2 = 0 then some (0 : Int32) else some (1 : Int32)) else if p1 = (1 : Int32) then ob (f_X10_forIn N o_s) (fun r6 => some r6) else if p1 = (2 : Int32) then ob (f_X10_forIn N o_s) (fun r9 => if (o_s 2) ≤ r9 then some (0 : Int32) else ob (f_X10_forIn N o_s) (fun r12 => some ((o_s 2) - r12))) else if p1 = (3 : Int32) then ob (f_X10_heardIn N o_s) (fun r15 => ob (f_X10_whyBy N o_s r15) (fun r17 => some r17)) else some (-1 : Int32)
set_option maxHeartbeats 4000000 in
set_option maxRecDepth 100000 in
theorem c_X10_carries (l : Launch) (E : EE) (o_h : Nat) (o_a0 : Nat) (o_a1 : Nat) (o_a2 : Nat) (o_a3 : Nat) (o_a8 : Nat) (o_a9 : Nat) (o_a11 : Nat) (o_a12 : Nat) (o_a13 : Nat) (o_a14 : Nat) (o_a15 : Nat) (o_a16 : Nat) (o_s : Nat → Int32) (o_m : Nat → Int32) (o_image : Nat → Int32) (o_was : Nat → Int32) (o_hasImage : Int32) (o_place : Int32) (o_rowAt : Int32) (o_rowEnd : Int32) (o_numbers : Nat → Int32) (o_most : Nat → Int32) (o_seed : Int32) (o_kept : Nat → Int32) (o_keptKind : Nat → Int32) (o_keptFigure : Nat → Int32) (o_sort : Nat → Int32) (o_size : Nat → Int32) (o_element : Nat → Int32) (o_thrown : Int32) (p1 : Int32) (N : Nat) (res : Int32) (hv : f_X10_carries N o_s p1 = some res) : Rd l E yX10_carries cX10_carries 2 (some .int) ({ frames := 6, cells := 0, slots := 0, locals := 128 }) [.ref o_h, .int p1] [oMo o_h o_a0 o_a1 o_a2 o_a3 o_hasImage o_place o_rowAt o_rowEnd o_a8 o_a9 o_seed o_a11 o_a12 o_a13 o_a14 o_a15 o_a16 o_thrown, ai E o_a0 42 o_s, ai E o_a1 42 o_m, ai E o_a2 42 o_image, ai E o_a3 42 o_was, ai E o_a8 3 o_numbers, ai E o_a9 8192 o_most, ai E o_a11 8 o_kept, ai E o_a12 8 o_keptKind, ai E o_a13 8 o_keptFigure, ai E o_a14 8 o_sort, ai E o_a15 8 o_size, ai E o_a16 800 o_element] (some (.int res)) := by
  refine Rd.intro RX10 (by decide) rfl (Nat.le_of_ble_eq_true rfl) ?_
  intro p e s m below meth c ls hC hr hlk hP hG hl
  obtain ⟨hx, hb, hml, hown, ht⟩ := id hC
  have hK := hG.1
  have hl : lv_has ls 2 [(0, .ref o_h), (1, .int p1)] := hl
  rw [f_X10_carries] at hv
  refine lv_iload_n hx hb dX10_carries_0 rfl (lv_at hl 1 rfl) ?_
  rcases Decidable.em (p1 = (0 : Int32)) with c1 | c1
  · have hv := if_y c1 hv
    refine lv_tableIn (tgt := 32) (off := 31) hx hb dX10_carries_1 (by rw [c1]; decide) (by rw [c1]; decide) (by rw [c1]; rfl) (by decide) ?_
    refine lv_aload_n hx hb dX10_carries_32 rfl (lv_at hl 0 rfl) ?_
    refine va_get (D := E.1) (ci := 4) (v := .ref o_a0) (C := RX10) (T := TX10) (N := 18) hx hb ht i_X10 hown hK hP 0 rfl rfl 0 (by decide) (ht _ kw_4_134) (fun _ h9 => h9) rfl dX10_carries_33 ?_
    obtain ⟨r2, h3, hv⟩ := ob_s hv
    refine rdS (rest := []) (st1 := [.int r2]) (w := [ai E o_a0 42 o_s]) hC q_X10_doesCarry kw_5_70 (c_X10_doesCarry l E o_a0 o_s N r2 h3) ⟨rfl, rfl⟩ ⟨Nat.le_of_ble_eq_true rfl, Nat.le_of_ble_eq_true rfl⟩ ⟨Nat.zero_le _, Nat.zero_le _⟩ (hP.sub (ws' := [ai E o_a0 42 o_s]) [1] rfl) hG rfl hl.1 rfl (Nat.le_of_ble_eq_true rfl) dX10_carries_36 rfl ?_
    refine lv_if_eq (tgt := 46) hx hb dX10_carries_39 (by decide) (fun c4 => ?_) (fun c4 => ?_)
    · have hv := if_y c4 hv
      refine lv_iconst (v := (0 : Int32)) hx hb dX10_carries_46 (by decide) ?_
      exact W.iret (v := (0 : Int32)) hx hb hr (fun t h9 _ => ⟨rv_i hv, h9⟩) (fun q h => absurd h List.not_mem_nil) dX10_carries_47 hlk
    · have hv := if_n c4 hv
      refine lv_iconst (v := (1 : Int32)) hx hb dX10_carries_42 (by decide) ?_
      refine lv_goto (tgt := 47) hx hb dX10_carries_43 (by decide) ?_
      exact W.iret (v := (1 : Int32)) hx hb hr (fun t h9 _ => ⟨rv_i hv, h9⟩) (fun q h => absurd h List.not_mem_nil) dX10_carries_47 hlk
  · have hv := if_n c1 hv
    rcases Decidable.em (p1 = (1 : Int32)) with c5 | c5
    · have hv := if_y c5 hv
      refine lv_tableIn (tgt := 48) (off := 47) hx hb dX10_carries_1 (by rw [c5]; decide) (by rw [c5]; decide) (by rw [c5]; rfl) (by decide) ?_
      refine lv_aload_n hx hb dX10_carries_48 rfl (lv_at hl 0 rfl) ?_
      refine va_get (D := E.1) (ci := 4) (v := .ref o_a0) (C := RX10) (T := TX10) (N := 18) hx hb ht i_X10 hown hK hP 0 rfl rfl 0 (by decide) (ht _ kw_4_134) (fun _ h9 => h9) rfl dX10_carries_49 ?_
      obtain ⟨r6, h7, hv⟩ := ob_s hv
      refine rdS (rest := []) (st1 := [.int r6]) (w := [ai E o_a0 42 o_s]) hC q_X10_forIn kw_5_98 (c_X10_forIn l E o_a0 o_s N r6 h7) ⟨rfl, rfl⟩ ⟨Nat.le_of_ble_eq_true rfl, Nat.le_of_ble_eq_true rfl⟩ ⟨Nat.zero_le _, Nat.zero_le _⟩ (hP.sub (ws' := [ai E o_a0 42 o_s]) [1] rfl) hG rfl hl.1 rfl (Nat.le_of_ble_eq_true rfl) dX10_carries_52 rfl ?_
      exact W.iret (v := r6) hx hb hr (fun t h9 _ => ⟨rv_i hv, h9⟩) (fun q h => absurd h List.not_mem_nil) dX10_carries_55 hlk
    · have hv := if_n c5 hv
      rcases Decidable.em (p1 = (2 : Int32)) with c8 | c8
      · have hv := if_y c8 hv
        refine lv_tableIn (tgt := 56) (off := 55) hx hb dX10_carries_1 (by rw [c8]; decide) (by rw [c8]; decide) (by rw [c8]; rfl) (by decide) ?_
        refine lv_aload_n hx hb dX10_carries_56 rfl (lv_at hl 0 rfl) ?_
        refine va_get (D := E.1) (ci := 4) (v := .ref o_a0) (C := RX10) (T := TX10) (N := 18) hx hb ht i_X10 hown hK hP 0 rfl rfl 0 (by decide) (ht _ kw_4_134) (fun _ h9 => h9) rfl dX10_carries_57 ?_
        obtain ⟨r9, h10, hv⟩ := ob_s hv
        refine rdS (rest := []) (st1 := [.int r9]) (w := [ai E o_a0 42 o_s]) hC q_X10_forIn kw_5_98 (c_X10_forIn l E o_a0 o_s N r9 h10) ⟨rfl, rfl⟩ ⟨Nat.le_of_ble_eq_true rfl, Nat.le_of_ble_eq_true rfl⟩ ⟨Nat.zero_le _, Nat.zero_le _⟩ (hP.sub (ws' := [ai E o_a0 42 o_s]) [1] rfl) hG rfl hl.1 rfl (Nat.le_of_ble_eq_true rfl) dX10_carries_60 rfl ?_
        refine lv_aload_n hx hb dX10_carries_63 rfl (lv_at hl 0 rfl) ?_
        refine va_get (D := E.1) (ci := 4) (v := .ref o_a0) (C := RX10) (T := TX10) (N := 18) hx hb ht i_X10 hown hK hP 0 rfl rfl 0 (by decide) (ht _ kw_4_134) (fun _ h9 => h9) rfl dX10_carries_64 ?_
        refine lv_iconst (v := (2 : Int32)) hx hb dX10_carries_67 (by decide) ?_
        refine va_iald hx hb hK hP 1 0 rfl rfl (ix_s (by decide)) dX10_carries_68 ?_
        refine W.eq (g2 := F0 m 69 ls [.int (o_s 2), .int r9]) rfl ?_
        refine lv_icmp_ge (tgt := 89) hx hb dX10_carries_69 (by decide) (fun c11 => ?_) (fun c11 => ?_)
        · have hv := if_y c11 hv
          refine lv_iconst (v := (0 : Int32)) hx hb dX10_carries_89 (by decide) ?_
          exact W.iret (v := (0 : Int32)) hx hb hr (fun t h9 _ => ⟨rv_i hv, h9⟩) (fun q h => absurd h List.not_mem_nil) dX10_carries_90 hlk
        · have hv := if_n c11 hv
          refine lv_aload_n hx hb dX10_carries_72 rfl (lv_at hl 0 rfl) ?_
          refine va_get (D := E.1) (ci := 4) (v := .ref o_a0) (C := RX10) (T := TX10) (N := 18) hx hb ht i_X10 hown hK hP 0 rfl rfl 0 (by decide) (ht _ kw_4_134) (fun _ h9 => h9) rfl dX10_carries_73 ?_
          refine lv_iconst (v := (2 : Int32)) hx hb dX10_carries_76 (by decide) ?_
          refine va_iald hx hb hK hP 1 0 rfl rfl (ix_s (by decide)) dX10_carries_77 ?_
          refine W.eq (g2 := F0 m 78 ls [.int (o_s 2)]) rfl ?_
          refine lv_aload_n hx hb dX10_carries_78 rfl (lv_at hl 0 rfl) ?_
          refine va_get (D := E.1) (ci := 4) (v := .ref o_a0) (C := RX10) (T := TX10) (N := 18) hx hb ht i_X10 hown hK hP 0 rfl rfl 0 (by decide) (ht _ kw_4_134) (fun _ h9 => h9) rfl dX10_carries_79 ?_
          obtain ⟨r12, h13, hv⟩ := ob_s hv
          refine rdS (rest := [.int (o_s 2)]) (st1 := [.int r12, .int (o_s 2)]) (w := [ai E o_a0 42 o_s]) hC q_X10_forIn kw_5_98 (c_X10_forIn l E o_a0 o_s N r12 h13) ⟨rfl, rfl⟩ ⟨Nat.le_of_ble_eq_true rfl, Nat.le_of_ble_eq_true rfl⟩ ⟨Nat.zero_le _, Nat.zero_le _⟩ (hP.sub (ws' := [ai E o_a0 42 o_s]) [1] rfl) hG rfl hl.1 rfl (Nat.le_of_ble_eq_true rfl) dX10_carries_82 rfl ?_
          refine lv_isub hx hb dX10_carries_85 ?_
          refine lv_goto (tgt := 90) hx hb dX10_carries_86 (by decide) ?_
          exact W.iret (v := ((o_s 2) - r12)) hx hb hr (fun t h9 _ => ⟨rv_i hv, h9⟩) (fun q h => absurd h List.not_mem_nil) dX10_carries_90 hlk
      · have hv := if_n c8 hv
        rcases Decidable.em (p1 = (3 : Int32)) with c14 | c14
        · have hv := if_y c14 hv
          refine lv_tableIn (tgt := 91) (off := 90) hx hb dX10_carries_1 (by rw [c14]; decide) (by rw [c14]; decide) (by rw [c14]; rfl) (by decide) ?_
          refine lv_aload_n hx hb dX10_carries_91 rfl (lv_at hl 0 rfl) ?_
          refine va_get (D := E.1) (ci := 4) (v := .ref o_a0) (C := RX10) (T := TX10) (N := 18) hx hb ht i_X10 hown hK hP 0 rfl rfl 0 (by decide) (ht _ kw_4_134) (fun _ h9 => h9) rfl dX10_carries_92 ?_
          refine lv_aload_n hx hb dX10_carries_95 rfl (lv_at hl 0 rfl) ?_
          refine va_get (D := E.1) (ci := 4) (v := .ref o_a0) (C := RX10) (T := TX10) (N := 18) hx hb ht i_X10 hown hK hP 0 rfl rfl 0 (by decide) (ht _ kw_4_134) (fun _ h9 => h9) rfl dX10_carries_96 ?_
          obtain ⟨r15, h16, hv⟩ := ob_s hv
          refine rdS (rest := [.ref o_a0]) (st1 := [.int r15, .ref o_a0]) (w := [ai E o_a0 42 o_s]) hC q_X10_heardIn kw_5_73 (c_X10_heardIn l E o_a0 o_s N r15 h16) ⟨rfl, rfl⟩ ⟨Nat.le_of_ble_eq_true rfl, Nat.le_of_ble_eq_true rfl⟩ ⟨Nat.zero_le _, Nat.zero_le _⟩ (hP.sub (ws' := [ai E o_a0 42 o_s]) [1] rfl) hG rfl hl.1 rfl (Nat.le_of_ble_eq_true rfl) dX10_carries_99 rfl ?_
          obtain ⟨r17, h18, hv⟩ := ob_s hv
          refine rdS (rest := []) (st1 := [.int r17]) (w := [ai E o_a0 42 o_s]) hC q_X10_whyBy kw_5_76 (c_X10_whyBy l E o_a0 o_s r15 N r17 h18) ⟨rfl, rfl⟩ ⟨Nat.le_of_ble_eq_true rfl, Nat.le_of_ble_eq_true rfl⟩ ⟨Nat.zero_le _, Nat.zero_le _⟩ (hP.sub (ws' := [ai E o_a0 42 o_s]) [1] rfl) hG rfl hl.1 rfl (Nat.le_of_ble_eq_true rfl) dX10_carries_102 rfl ?_
          exact W.iret (v := r17) hx hb hr (fun t h9 _ => ⟨rv_i hv, h9⟩) (fun q h => absurd h List.not_mem_nil) dX10_carries_105 hlk
        · have hv := if_n c14 hv
          refine lv_tableD (tgt := 106) hx hb dX10_carries_1 (fun i h => match i, h with | 0, _ => Or.inr (lv_neT c1 (by decide)) | 1, _ => Or.inr (lv_neT c5 (by decide)) | 2, _ => Or.inr (lv_neT c8 (by decide)) | 3, _ => Or.inr (lv_neT c14 (by decide)) | i + 4, h => absurd h (by simp)) rfl (by decide) ?_
          refine lv_iconst (v := (-1 : Int32)) hx hb dX10_carries_106 (by decide) ?_
          exact W.iret (v := (-1 : Int32)) hx hb hr (fun t h9 _ => ⟨rv_i hv, h9⟩) (fun q h => absurd h List.not_mem_nil) dX10_carries_107 hlk
theorem dX10_isLate_0 : decode cX10_isLate 0 = .ok (.iload_n 0, 1) := by decide +kernel
theorem dX10_isLate_1 : decode cX10_isLate 1 = .ok (.iconst 0, 1) := by decide +kernel
theorem dX10_isLate_2 : decode cX10_isLate 2 = .ok (.bipush 60, 2) := by decide +kernel
theorem dX10_isLate_4 : decode cX10_isLate 4 = .ok (.invokestatic 46, 3) := by decide +kernel
theorem dX10_isLate_7 : decode cX10_isLate 7 = .ok (.ireturn, 1) := by decide +kernel
def f_X10_isLate (p0 : Int32) : Option (Int32) := ob (f_X10_isIn p0 (0 : Int32) (60 : Int32)) (fun r1 => gd (bz r1) (some r1))
set_option maxHeartbeats 4000000 in
set_option maxRecDepth 100000 in
theorem c_X10_isLate (l : Launch) (E : EE) (p0 : Int32) (res : Int32) (hv : f_X10_isLate p0 = some res) : Rd l E yX10_isLate cX10_isLate 1 (some .boolean) ({ frames := 1, cells := 0, slots := 0, locals := 22 }) [.int p0] [] (some (.int res)) := by
  refine Rd.intro RX10 (by decide) rfl (Nat.le_of_ble_eq_true rfl) ?_
  intro p e s m below meth c ls hC hr hlk hP hG hl
  obtain ⟨hx, hb, hml, hown, ht⟩ := id hC
  have hK := hG.1
  have hl : lv_has ls 1 [(0, .int p0)] := hl
  rw [f_X10_isLate] at hv
  refine lv_iload_n hx hb dX10_isLate_0 rfl (lv_at hl 0 rfl) ?_
  refine lv_iconst (v := (0 : Int32)) hx hb dX10_isLate_1 (by decide) ?_
  refine lv_bipush (v := (60 : Int32)) hx hb dX10_isLate_2 (by decide) ?_
  obtain ⟨r1, h2, hv⟩ := ob_s hv
  refine rdS (rest := []) (st1 := [.int r1]) (w := []) hC q_X10_isIn kw_4_200 (c_X10_isIn l E p0 (0 : Int32) (60 : Int32) r1 h2) ⟨rfl, rfl⟩ ⟨Nat.le_of_ble_eq_true rfl, Nat.le_of_ble_eq_true rfl⟩ ⟨Nat.zero_le _, Nat.zero_le _⟩ hP hG rfl hl.1 rfl (Nat.le_of_ble_eq_true rfl) dX10_isLate_4 rfl ?_
  obtain ⟨g3, hv⟩ := gd_s hv
  exact W.zret (v := r1) hx hb hr (bz_s g3) (fun t h9 _ => ⟨rv_i hv, h9⟩) (fun q h => absurd h List.not_mem_nil) dX10_isLate_7 hlk
theorem dX10_takes_0 : decode cX10_takes 0 = .ok (.aload_n 0, 1) := by decide +kernel
theorem dX10_takes_1 : decode cX10_takes 1 = .ok (.getfield 9, 3) := by decide +kernel
theorem dX10_takes_4 : decode cX10_takes 4 = .ok (.aload_n 0, 1) := by decide +kernel
theorem dX10_takes_5 : decode cX10_takes 5 = .ok (.getfield 13, 3) := by decide +kernel
theorem dX10_takes_8 : decode cX10_takes 8 = .ok (.invokestatic 148, 3) := by decide +kernel
theorem dX10_takes_11 : decode cX10_takes 11 = .ok (.aload_n 0, 1) := by decide +kernel
theorem dX10_takes_12 : decode cX10_takes 12 = .ok (.getfield 13, 3) := by decide +kernel
theorem dX10_takes_15 : decode cX10_takes 15 = .ok (.iload_n 1, 1) := by decide +kernel
theorem dX10_takes_16 : decode cX10_takes 16 = .ok (.invokestatic 138, 3) := by decide +kernel
theorem dX10_takes_19 : decode cX10_takes 19 = .ok (.return_, 1) := by decide +kernel
def f_X10_takes (N : Nat) (o_s : Nat → Int32) (o_m : Nat → Int32) (p1 : Int32) : Option ((Nat → Int32)) := ob (f_X10_copies N o_s o_m) (fun y1 => ob (f_X10_daysOn N y1 p1) (fun y3 => some y3))
set_option maxHeartbeats 4000000 in
set_option maxRecDepth 100000 in
theorem c_X10_takes (l : Launch) (E : EE) (o_h : Nat) (o_a0 : Nat) (o_a1 : Nat) (o_a2 : Nat) (o_a3 : Nat) (o_a8 : Nat) (o_a9 : Nat) (o_a11 : Nat) (o_a12 : Nat) (o_a13 : Nat) (o_a14 : Nat) (o_a15 : Nat) (o_a16 : Nat) (o_s : Nat → Int32) (o_m : Nat → Int32) (o_image : Nat → Int32) (o_was : Nat → Int32) (o_hasImage : Int32) (o_place : Int32) (o_rowAt : Int32) (o_rowEnd : Int32) (o_numbers : Nat → Int32) (o_most : Nat → Int32) (o_seed : Int32) (o_kept : Nat → Int32) (o_keptKind : Nat → Int32) (o_keptFigure : Nat → Int32) (o_sort : Nat → Int32) (o_size : Nat → Int32) (o_element : Nat → Int32) (o_thrown : Int32) (p1 : Int32) (N : Nat) (w_o_m : Nat → Int32) (hv : f_X10_takes N o_s o_m p1 = some w_o_m) : Wr l E yX10_takes cX10_takes 2 none ({ frames := 6, cells := 0, slots := 0, locals := 133 }) [.ref o_h, .int p1] [oMo o_h o_a0 o_a1 o_a2 o_a3 o_hasImage o_place o_rowAt o_rowEnd o_a8 o_a9 o_seed o_a11 o_a12 o_a13 o_a14 o_a15 o_a16 o_thrown, ai E o_a0 42 o_s, ai E o_a1 42 o_m, ai E o_a2 42 o_image, ai E o_a3 42 o_was, ai E o_a8 3 o_numbers, ai E o_a9 8192 o_most, ai E o_a11 8 o_kept, ai E o_a12 8 o_keptKind, ai E o_a13 8 o_keptFigure, ai E o_a14 8 o_sort, ai E o_a15 8 o_size, ai E o_a16 800 o_element] [oMo o_h o_a0 o_a1 o_a2 o_a3 o_hasImage o_place o_rowAt o_rowEnd o_a8 o_a9 o_seed o_a11 o_a12 o_a13 o_a14 o_a15 o_a16 o_thrown, ai E o_a0 42 o_s, ai E o_a1 42 w_o_m, ai E o_a2 42 o_image, ai E o_a3 42 o_was, ai E o_a8 3 o_numbers, ai E o_a9 8192 o_most, ai E o_a11 8 o_kept, ai E o_a12 8 o_keptKind, ai E o_a13 8 o_keptFigure, ai E o_a14 8 o_sort, ai E o_a15 8 o_size, ai E o_a16 800 o_element] none := by
  refine Wr.intro RX10 (by decide) rfl (Nat.le_of_ble_eq_true rfl) ?_
  intro p e s m below meth c ls A hC hr hlk hmn hP hD hS hA hG hl
  obtain ⟨hx, hb, hml, hown, ht⟩ := id hC
  have hK := hG.1
  have hl : lv_has ls 2 [(0, .ref o_h), (1, .int p1)] := hl
  rw [f_X10_takes] at hv
  refine lv_aload_n hx hb dX10_takes_0 rfl (lv_at hl 0 rfl) ?_
  refine va_get (D := E.1) (ci := 4) (v := .ref o_a0) (C := RX10) (T := TX10) (N := 18) hx hb ht i_X10 hown hK hP 0 rfl rfl 0 (by decide) (ht _ kw_4_134) (fun _ h9 => h9) rfl dX10_takes_1 ?_
  refine lv_aload_n hx hb dX10_takes_4 rfl (lv_at hl 0 rfl) ?_
  refine va_get (D := E.1) (ci := 4) (v := .ref o_a1) (C := RX10) (T := TX10) (N := 18) hx hb ht i_X10 hown hK hP 0 rfl rfl 1 (by decide) (ht _ kw_4_135) (fun _ h9 => h9) rfl dX10_takes_5 ?_
  obtain ⟨y1, h2, hv⟩ := ob_s hv
  refine wrS (as := [o_h, o_a0, o_a1, o_a2, o_a3, o_a8, o_a9, o_a11, o_a12, o_a13, o_a14, o_a15, o_a16]) (wr := [oMo o_h o_a0 o_a1 o_a2 o_a3 o_hasImage o_place o_rowAt o_rowEnd o_a8 o_a9 o_seed o_a11 o_a12 o_a13 o_a14 o_a15 o_a16 o_thrown, ai E o_a2 42 o_image, ai E o_a3 42 o_was, ai E o_a8 3 o_numbers, ai E o_a9 8192 o_most, ai E o_a11 8 o_kept, ai E o_a12 8 o_keptKind, ai E o_a13 8 o_keptFigure, ai E o_a14 8 o_sort, ai E o_a15 8 o_size, ai E o_a16 800 o_element]) [1, 2] [0, 3, 4, 5, 6, 7, 8, 9, 10, 11, 12] (ws := [oMo o_h o_a0 o_a1 o_a2 o_a3 o_hasImage o_place o_rowAt o_rowEnd o_a8 o_a9 o_seed o_a11 o_a12 o_a13 o_a14 o_a15 o_a16 o_thrown, ai E o_a0 42 o_s, ai E o_a1 42 o_m, ai E o_a2 42 o_image, ai E o_a3 42 o_was, ai E o_a8 3 o_numbers, ai E o_a9 8192 o_most, ai E o_a11 8 o_kept, ai E o_a12 8 o_keptKind, ai E o_a13 8 o_keptFigure, ai E o_a14 8 o_sort, ai E o_a15 8 o_size, ai E o_a16 800 o_element]) (ws' := [oMo o_h o_a0 o_a1 o_a2 o_a3 o_hasImage o_place o_rowAt o_rowEnd o_a8 o_a9 o_seed o_a11 o_a12 o_a13 o_a14 o_a15 o_a16 o_thrown, ai E o_a0 42 o_s, ai E o_a1 42 y1, ai E o_a2 42 o_image, ai E o_a3 42 o_was, ai E o_a8 3 o_numbers, ai E o_a9 8192 o_most, ai E o_a11 8 o_kept, ai E o_a12 8 o_keptKind, ai E o_a13 8 o_keptFigure, ai E o_a14 8 o_sort, ai E o_a15 8 o_size, ai E o_a16 800 o_element]) (rest := []) (st1 := []) hC q_X10_copies kw_4_215 (c_X10_copies l E o_a0 o_a1 o_s o_m N y1 h2) ⟨rfl, rfl⟩ ⟨Nat.le_of_ble_eq_true rfl, Nat.le_of_ble_eq_true rfl⟩ ⟨Nat.zero_le _, Nat.zero_le _⟩ hP hD hS hA hG (by decide) rfl rfl rfl rfl rfl rfl rfl rfl hl.1 rfl (Nat.le_of_ble_eq_true rfl) dX10_takes_8 rfl (fun H locs hP hD hS => ?_)
  refine lv_aload_n hx hb dX10_takes_11 rfl (lv_at hl 0 rfl) ?_
  refine va_get (D := E.1) (ci := 4) (v := .ref o_a1) (C := RX10) (T := TX10) (N := 18) hx hb ht i_X10 hown hK hP 0 rfl rfl 1 (by decide) (ht _ kw_4_135) (fun _ h9 => h9) rfl dX10_takes_12 ?_
  refine lv_iload_n hx hb dX10_takes_15 rfl (lv_at hl 1 rfl) ?_
  obtain ⟨y3, h4, hv⟩ := ob_s hv
  refine wrS (as := [o_h, o_a0, o_a1, o_a2, o_a3, o_a8, o_a9, o_a11, o_a12, o_a13, o_a14, o_a15, o_a16]) (wr := [oMo o_h o_a0 o_a1 o_a2 o_a3 o_hasImage o_place o_rowAt o_rowEnd o_a8 o_a9 o_seed o_a11 o_a12 o_a13 o_a14 o_a15 o_a16 o_thrown, ai E o_a0 42 o_s, ai E o_a2 42 o_image, ai E o_a3 42 o_was, ai E o_a8 3 o_numbers, ai E o_a9 8192 o_most, ai E o_a11 8 o_kept, ai E o_a12 8 o_keptKind, ai E o_a13 8 o_keptFigure, ai E o_a14 8 o_sort, ai E o_a15 8 o_size, ai E o_a16 800 o_element]) [2] [0, 1, 3, 4, 5, 6, 7, 8, 9, 10, 11, 12] (ws := [oMo o_h o_a0 o_a1 o_a2 o_a3 o_hasImage o_place o_rowAt o_rowEnd o_a8 o_a9 o_seed o_a11 o_a12 o_a13 o_a14 o_a15 o_a16 o_thrown, ai E o_a0 42 o_s, ai E o_a1 42 y1, ai E o_a2 42 o_image, ai E o_a3 42 o_was, ai E o_a8 3 o_numbers, ai E o_a9 8192 o_most, ai E o_a11 8 o_kept, ai E o_a12 8 o_keptKind, ai E o_a13 8 o_keptFigure, ai E o_a14 8 o_sort, ai E o_a15 8 o_size, ai E o_a16 800 o_element]) (ws' := [oMo o_h o_a0 o_a1 o_a2 o_a3 o_hasImage o_place o_rowAt o_rowEnd o_a8 o_a9 o_seed o_a11 o_a12 o_a13 o_a14 o_a15 o_a16 o_thrown, ai E o_a0 42 o_s, ai E o_a1 42 y3, ai E o_a2 42 o_image, ai E o_a3 42 o_was, ai E o_a8 3 o_numbers, ai E o_a9 8192 o_most, ai E o_a11 8 o_kept, ai E o_a12 8 o_keptKind, ai E o_a13 8 o_keptFigure, ai E o_a14 8 o_sort, ai E o_a15 8 o_size, ai E o_a16 800 o_element]) (rest := []) (st1 := []) hC q_X10_daysOn kw_4_233 (c_X10_daysOn l E o_a1 y1 p1 N y3 h4) ⟨rfl, rfl⟩ ⟨Nat.le_of_ble_eq_true rfl, Nat.le_of_ble_eq_true rfl⟩ ⟨Nat.zero_le _, Nat.zero_le _⟩ hP hD hS hA hG (by decide) rfl rfl rfl rfl rfl rfl rfl rfl hl.1 rfl (Nat.le_of_ble_eq_true rfl) dX10_takes_16 rfl (fun H locs hP hD hS => ?_)
  cases hv
  exact W.vret hx hb hr (fun t h9 _ => ⟨rfl, by rw [h9]; exact hP, hS.F h9⟩) hS.2.2 dX10_takes_19 hlk
theorem dX10_moodThen_0 : decode cX10_moodThen 0 = .ok (.aload_n 0, 1) := by decide +kernel
theorem dX10_moodThen_1 : decode cX10_moodThen 1 = .ok (.iload_n 1, 1) := by decide +kernel
theorem dX10_moodThen_2 : decode cX10_moodThen 2 = .ok (.invokevirtual 134, 3) := by decide +kernel
theorem dX10_moodThen_5 : decode cX10_moodThen 5 = .ok (.ifCond .eq 10, 3) := by decide +kernel
theorem dX10_moodThen_8 : decode cX10_moodThen 8 = .ok (.iload_n 2, 1) := by decide +kernel
theorem dX10_moodThen_9 : decode cX10_moodThen 9 = .ok (.invokestatic 170, 3) := by decide +kernel
theorem dX10_moodThen_12 : decode cX10_moodThen 12 = .ok (.ifCond .ne 6, 3) := by decide +kernel
theorem dX10_moodThen_15 : decode cX10_moodThen 15 = .ok (.ldc 162, 2) := by decide +kernel
theorem dX10_moodThen_17 : decode cX10_moodThen 17 = .ok (.ireturn, 1) := by decide +kernel
theorem dX10_moodThen_18 : decode cX10_moodThen 18 = .ok (.aload_n 0, 1) := by decide +kernel
theorem dX10_moodThen_19 : decode cX10_moodThen 19 = .ok (.iload_n 2, 1) := by decide +kernel
theorem dX10_moodThen_20 : decode cX10_moodThen 20 = .ok (.invokevirtual 173, 3) := by decide +kernel
theorem dX10_moodThen_23 : decode cX10_moodThen 23 = .ok (.aload_n 0, 1) := by decide +kernel
theorem dX10_moodThen_24 : decode cX10_moodThen 24 = .ok (.getfield 13, 3) := by decide +kernel
theorem dX10_moodThen_27 : decode cX10_moodThen 27 = .ok (.iload_n 1, 1) := by decide +kernel
theorem dX10_moodThen_28 : decode cX10_moodThen 28 = .ok (.iconst 3, 1) := by decide +kernel
theorem dX10_moodThen_29 : decode cX10_moodThen 29 = .ok (.invokestatic 50, 3) := by decide +kernel
theorem dX10_moodThen_32 : decode cX10_moodThen 32 = .ok (.iaload, 1) := by decide +kernel
theorem dX10_moodThen_33 : decode cX10_moodThen 33 = .ok (.ireturn, 1) := by decide +kernel
def f_X10_moodThen (N : Nat) (o_s : Nat → Int32) (o_m : Nat → Int32) (p1 : Int32) (p2 : Int32) : Option (Int32 × (Nat → Int32)) := ob (f_X10_isSpeaker o_s p1) (fun r1 => if r1 = 0 then nm (1000000001 : Int32) (fun z4 => some (z4, o_m)) else ob (f_X10_isLate p2) (fun r5 => if r5 = 0 then nm (1000000001 : Int32) (fun z14 => some (z14, o_m)) else ob (f_X10_takes N o_s o_m p2) (fun y8 => ob (f_X10_of p1 (3 : Int32)) (fun r10 => gd (ix r10 42) (nm (y8 r10.toNatClampNeg) (fun z13 => some (z13, y8)))))))
set_option maxHeartbeats 4000000 in
set_option maxRecDepth 100000 in
theorem c_X10_moodThen (l : Launch) (E : EE) (o_h : Nat) (o_a0 : Nat) (o_a1 : Nat) (o_a2 : Nat) (o_a3 : Nat) (o_a8 : Nat) (o_a9 : Nat) (o_a11 : Nat) (o_a12 : Nat) (o_a13 : Nat) (o_a14 : Nat) (o_a15 : Nat) (o_a16 : Nat) (o_s : Nat → Int32) (o_m : Nat → Int32) (o_image : Nat → Int32) (o_was : Nat → Int32) (o_hasImage : Int32) (o_place : Int32) (o_rowAt : Int32) (o_rowEnd : Int32) (o_numbers : Nat → Int32) (o_most : Nat → Int32) (o_seed : Int32) (o_kept : Nat → Int32) (o_keptKind : Nat → Int32) (o_keptFigure : Nat → Int32) (o_sort : Nat → Int32) (o_size : Nat → Int32) (o_element : Nat → Int32) (o_thrown : Int32) (p1 : Int32) (p2 : Int32) (N : Nat) (res : Int32) (w_o_m : Nat → Int32) (hv : f_X10_moodThen N o_s o_m p1 p2 = some (res, w_o_m)) : Wr l E yX10_moodThen cX10_moodThen 3 (some .int) ({ frames := 7, cells := 0, slots := 0, locals := 154 }) [.ref o_h, .int p1, .int p2] [oMo o_h o_a0 o_a1 o_a2 o_a3 o_hasImage o_place o_rowAt o_rowEnd o_a8 o_a9 o_seed o_a11 o_a12 o_a13 o_a14 o_a15 o_a16 o_thrown, ai E o_a0 42 o_s, ai E o_a1 42 o_m, ai E o_a2 42 o_image, ai E o_a3 42 o_was, ai E o_a8 3 o_numbers, ai E o_a9 8192 o_most, ai E o_a11 8 o_kept, ai E o_a12 8 o_keptKind, ai E o_a13 8 o_keptFigure, ai E o_a14 8 o_sort, ai E o_a15 8 o_size, ai E o_a16 800 o_element] [oMo o_h o_a0 o_a1 o_a2 o_a3 o_hasImage o_place o_rowAt o_rowEnd o_a8 o_a9 o_seed o_a11 o_a12 o_a13 o_a14 o_a15 o_a16 o_thrown, ai E o_a0 42 o_s, ai E o_a1 42 w_o_m, ai E o_a2 42 o_image, ai E o_a3 42 o_was, ai E o_a8 3 o_numbers, ai E o_a9 8192 o_most, ai E o_a11 8 o_kept, ai E o_a12 8 o_keptKind, ai E o_a13 8 o_keptFigure, ai E o_a14 8 o_sort, ai E o_a15 8 o_size, ai E o_a16 800 o_element] (some (.int res)) := by
  refine Wr.intro RX10 (by decide) rfl (Nat.le_of_ble_eq_true rfl) ?_
  intro p e s m below meth c ls A hC hr hlk hmn hP hD hS hA hG hl
  obtain ⟨hx, hb, hml, hown, ht⟩ := id hC
  have hK := hG.1
  have hl : lv_has ls 3 [(0, .ref o_h), (1, .int p1), (2, .int p2)] := hl
  rw [f_X10_moodThen] at hv
  refine lv_aload_n hx hb dX10_moodThen_0 rfl (lv_at hl 0 rfl) ?_
  refine lv_iload_n hx hb dX10_moodThen_1 rfl (lv_at hl 1 rfl) ?_
  obtain ⟨r1, h2, hv⟩ := ob_s hv
  refine rdV 4 0 (As := [.int p1]) (rest := []) (st1 := [.int r1]) (w := [oMo o_h o_a0 o_a1 o_a2 o_a3 o_hasImage o_place o_rowAt o_rowEnd o_a8 o_a9 o_seed o_a11 o_a12 o_a13 o_a14 o_a15 o_a16 o_thrown, ai E o_a0 42 o_s, ai E o_a1 42 o_m, ai E o_a2 42 o_image, ai E o_a3 42 o_was, ai E o_a8 3 o_numbers, ai E o_a9 8192 o_most, ai E o_a11 8 o_kept, ai E o_a12 8 o_keptKind, ai E o_a13 8 o_keptFigure, ai E o_a14 8 o_sort, ai E o_a15 8 o_size, ai E o_a16 800 o_element]) hC q_X10_isSpeaker kw_4_229 (c_X10_isSpeaker l E o_h o_a0 o_a1 o_a2 o_a3 o_a8 o_a9 o_a11 o_a12 o_a13 o_a14 o_a15 o_a16 o_s o_m o_image o_was o_hasImage o_place o_rowAt o_rowEnd o_numbers o_most o_seed o_kept o_keptKind o_keptFigure o_sort o_size o_element o_thrown p1 r1 h2) ⟨rfl, rfl⟩ ⟨Nat.le_of_ble_eq_true rfl, Nat.le_of_ble_eq_true rfl⟩ ⟨Nat.zero_le _, Nat.zero_le _⟩ hP rfl rfl rfl hG rfl hl.1 rfl (Nat.le_of_ble_eq_true rfl) dX10_moodThen_2 rfl ?_
  refine lv_if_eq (tgt := 15) hx hb dX10_moodThen_5 (by decide) (fun c3 => ?_) (fun c3 => ?_)
  · have hv := if_y c3 hv
    refine lv_ldc (v := (1000000001 : Int32)) hx hb hown (ht _ kw_5_57) dX10_moodThen_15 ?_
    refine lv_topi (fun z4 ez4 => ?_)
    have hv := nm_s ez4 hv
    cases hv
    exact W.iret hx hb hr (fun t h9 _ => ⟨rfl, by rw [h9]; exact hP, hS.F h9⟩) hS.2.2 dX10_moodThen_17 hlk
  · have hv := if_n c3 hv
    refine lv_iload_n hx hb dX10_moodThen_8 rfl (lv_at hl 2 rfl) ?_
    obtain ⟨r5, h6, hv⟩ := ob_s hv
    refine rdS (rest := []) (st1 := [.int r5]) (w := []) hC q_X10_isLate kw_5_105 (c_X10_isLate l E p2 r5 h6) ⟨rfl, rfl⟩ ⟨Nat.le_of_ble_eq_true rfl, Nat.le_of_ble_eq_true rfl⟩ ⟨Nat.zero_le _, Nat.zero_le _⟩ (hP.sub (ws' := []) [] rfl) hG rfl hl.1 rfl (Nat.le_of_ble_eq_true rfl) dX10_moodThen_9 rfl ?_
    refine lv_if_ne (tgt := 18) hx hb dX10_moodThen_12 (by decide) (fun c7 => ?_) (fun c7 => ?_)
    · have hv := if_n c7 hv
      refine lv_aload_n hx hb dX10_moodThen_18 rfl (lv_at hl 0 rfl) ?_
      refine lv_iload_n hx hb dX10_moodThen_19 rfl (lv_at hl 2 rfl) ?_
      obtain ⟨y8, h9, hv⟩ := ob_s hv
      refine wrV (as := [o_h, o_a0, o_a1, o_a2, o_a3, o_a8, o_a9, o_a11, o_a12, o_a13, o_a14, o_a15, o_a16]) (wr := []) [0, 1, 2, 3, 4, 5, 6, 7, 8, 9, 10, 11, 12] [] 4 0 (ws := [oMo o_h o_a0 o_a1 o_a2 o_a3 o_hasImage o_place o_rowAt o_rowEnd o_a8 o_a9 o_seed o_a11 o_a12 o_a13 o_a14 o_a15 o_a16 o_thrown, ai E o_a0 42 o_s, ai E o_a1 42 o_m, ai E o_a2 42 o_image, ai E o_a3 42 o_was, ai E o_a8 3 o_numbers, ai E o_a9 8192 o_most, ai E o_a11 8 o_kept, ai E o_a12 8 o_keptKind, ai E o_a13 8 o_keptFigure, ai E o_a14 8 o_sort, ai E o_a15 8 o_size, ai E o_a16 800 o_element]) (ws' := [oMo o_h o_a0 o_a1 o_a2 o_a3 o_hasImage o_place o_rowAt o_rowEnd o_a8 o_a9 o_seed o_a11 o_a12 o_a13 o_a14 o_a15 o_a16 o_thrown, ai E o_a0 42 o_s, ai E o_a1 42 y8, ai E o_a2 42 o_image, ai E o_a3 42 o_was, ai E o_a8 3 o_numbers, ai E o_a9 8192 o_most, ai E o_a11 8 o_kept, ai E o_a12 8 o_keptKind, ai E o_a13 8 o_keptFigure, ai E o_a14 8 o_sort, ai E o_a15 8 o_size, ai E o_a16 800 o_element]) (As := [.int p2]) (rest := []) (st1 := []) hC q_X10_takes kw_5_108 (c_X10_takes l E o_h o_a0 o_a1 o_a2 o_a3 o_a8 o_a9 o_a11 o_a12 o_a13 o_a14 o_a15 o_a16 o_s o_m o_image o_was o_hasImage o_place o_rowAt o_rowEnd o_numbers o_most o_seed o_kept o_keptKind o_keptFigure o_sort o_size o_element o_thrown p2 N y8 h9) ⟨rfl, rfl⟩ ⟨Nat.le_of_ble_eq_true rfl, Nat.le_of_ble_eq_true rfl⟩ ⟨Nat.zero_le _, Nat.zero_le _⟩ hP hD hS hA rfl rfl rfl hG (by decide) rfl rfl rfl rfl rfl rfl rfl rfl hl.1 rfl (Nat.le_of_ble_eq_true rfl) dX10_moodThen_20 rfl (fun H locs hP hD hS => ?_)
      refine lv_aload_n hx hb dX10_moodThen_23 rfl (lv_at hl 0 rfl) ?_
      refine va_get (D := E.1) (ci := 4) (v := .ref o_a1) (C := RX10) (T := TX10) (N := 18) hx hb ht i_X10 hown hK hP 0 rfl rfl 1 (by decide) (ht _ kw_4_135) (fun _ h9 => h9) rfl dX10_moodThen_24 ?_
      refine lv_iload_n hx hb dX10_moodThen_27 rfl (lv_at hl 1 rfl) ?_
      refine lv_iconst (v := (3 : Int32)) hx hb dX10_moodThen_28 (by decide) ?_
      obtain ⟨r10, h11, hv⟩ := ob_s hv
      refine rdS (rest := [.ref o_a1]) (st1 := [.int r10, .ref o_a1]) (w := []) hC q_X10_of kw_4_226 (c_X10_of l E p1 (3 : Int32) r10 h11) ⟨rfl, rfl⟩ ⟨Nat.le_of_ble_eq_true rfl, Nat.le_of_ble_eq_true rfl⟩ ⟨Nat.zero_le _, Nat.zero_le _⟩ (hP.sub (ws' := []) [] rfl) hG rfl hl.1 rfl (Nat.le_of_ble_eq_true rfl) dX10_moodThen_29 rfl ?_
      obtain ⟨g12, hv⟩ := gd_s hv
      refine va_iald hx hb hK hP 2 0 rfl rfl (ix_s g12) dX10_moodThen_32 ?_
      refine lv_topi (fun z13 ez13 => ?_)
      have hv := nm_s ez13 hv
      cases hv
      exact W.iret hx hb hr (fun t h9 _ => ⟨rfl, by rw [h9]; exact hP, hS.F h9⟩) hS.2.2 dX10_moodThen_33 hlk
    · have hv := if_y c7 hv
      refine lv_ldc (v := (1000000001 : Int32)) hx hb hown (ht _ kw_5_57) dX10_moodThen_15 ?_
      refine lv_topi (fun z14 ez14 => ?_)
      have hv := nm_s ez14 hv
      cases hv
      exact W.iret hx hb hr (fun t h9 _ => ⟨rfl, by rw [h9]; exact hP, hS.F h9⟩) hS.2.2 dX10_moodThen_17 hlk
theorem dX10_then_0 : decode cX10_then 0 = .ok (.iload_n 1, 1) := by decide +kernel
theorem dX10_then_1 : decode cX10_then 1 = .ok (.invokestatic 170, 3) := by decide +kernel
theorem dX10_then_4 : decode cX10_then 4 = .ok (.ifCond .eq 12, 3) := by decide +kernel
theorem dX10_then_7 : decode cX10_then 7 = .ok (.iload_n 2, 1) := by decide +kernel
theorem dX10_then_8 : decode cX10_then 8 = .ok (.iconst 0, 1) := by decide +kernel
theorem dX10_then_9 : decode cX10_then 9 = .ok (.iconst 1, 1) := by decide +kernel
theorem dX10_then_10 : decode cX10_then 10 = .ok (.invokestatic 46, 3) := by decide +kernel
theorem dX10_then_13 : decode cX10_then 13 = .ok (.ifCond .ne 5, 3) := by decide +kernel
theorem dX10_then_16 : decode cX10_then 16 = .ok (.iconst (-1), 1) := by decide +kernel
theorem dX10_then_17 : decode cX10_then 17 = .ok (.ireturn, 1) := by decide +kernel
theorem dX10_then_18 : decode cX10_then 18 = .ok (.aload_n 0, 1) := by decide +kernel
theorem dX10_then_19 : decode cX10_then 19 = .ok (.iload_n 1, 1) := by decide +kernel
theorem dX10_then_20 : decode cX10_then 20 = .ok (.invokevirtual 173, 3) := by decide +kernel
theorem dX10_then_23 : decode cX10_then 23 = .ok (.iload_n 2, 1) := by decide +kernel
theorem dX10_then_24 : decode cX10_then 24 = .ok (.iconst 1, 1) := by decide +kernel
theorem dX10_then_25 : decode cX10_then 25 = .ok (.if_icmp .ne 13, 3) := by decide +kernel
theorem dX10_then_28 : decode cX10_then 28 = .ok (.aload_n 0, 1) := by decide +kernel
theorem dX10_then_29 : decode cX10_then 29 = .ok (.getfield 13, 3) := by decide +kernel
theorem dX10_then_32 : decode cX10_then 32 = .ok (.invokestatic 167, 3) := by decide +kernel
theorem dX10_then_35 : decode cX10_then 35 = .ok (.goto 18, 3) := by decide +kernel
theorem dX10_then_38 : decode cX10_then 38 = .ok (.aload_n 0, 1) := by decide +kernel
theorem dX10_then_39 : decode cX10_then 39 = .ok (.getfield 13, 3) := by decide +kernel
theorem dX10_then_42 : decode cX10_then 42 = .ok (.invokestatic 163, 3) := by decide +kernel
theorem dX10_then_45 : decode cX10_then 45 = .ok (.ifCond .eq 7, 3) := by decide +kernel
theorem dX10_then_48 : decode cX10_then 48 = .ok (.iconst 1, 1) := by decide +kernel
theorem dX10_then_49 : decode cX10_then 49 = .ok (.goto 4, 3) := by decide +kernel
theorem dX10_then_52 : decode cX10_then 52 = .ok (.iconst 0, 1) := by decide +kernel
theorem dX10_then_53 : decode cX10_then 53 = .ok (.ireturn, 1) := by decide +kernel
def f_X10_then (N : Nat) (o_s : Nat → Int32) (o_m : Nat → Int32) (p1 : Int32) (p2 : Int32) : Option (Int32 × (Nat → Int32)) := ob (f_X10_isLate p1) (fun r1 => if r1 = 0 then nm (-1 : Int32) (fun z4 => some (z4, o_m)) else ob (f_X10_isIn p2 (0 : Int32) (1 : Int32)) (fun r5 => if r5 = 0 then nm (-1 : Int32) (fun z18 => some (z18, o_m)) else ob (f_X10_takes N o_s o_m p1) (fun y8 => if p2 = (1 : Int32) then ob (f_X10_forIn N y8) (fun r16 => some (r16, y8)) else ob (f_X10_doesCarry N y8) (fun r11 => if r11 = 0 then nm (0 : Int32) (fun z14 => some (z14, y8)) else nm (1 : Int32) (fun z15 => some (z15, y8))))))
set_option maxHeartbeats 4000000 in
set_option maxRecDepth 100000 in
theorem c_X10_then (l : Launch) (E : EE) (o_h : Nat) (o_a0 : Nat) (o_a1 : Nat) (o_a2 : Nat) (o_a3 : Nat) (o_a8 : Nat) (o_a9 : Nat) (o_a11 : Nat) (o_a12 : Nat) (o_a13 : Nat) (o_a14 : Nat) (o_a15 : Nat) (o_a16 : Nat) (o_s : Nat → Int32) (o_m : Nat → Int32) (o_image : Nat → Int32) (o_was : Nat → Int32) (o_hasImage : Int32) (o_place : Int32) (o_rowAt : Int32) (o_rowEnd : Int32) (o_numbers : Nat → Int32) (o_most : Nat → Int32) (o_seed : Int32) (o_kept : Nat → Int32) (o_keptKind : Nat → Int32) (o_keptFigure : Nat → Int32) (o_sort : Nat → Int32) (o_size : Nat → Int32) (o_element : Nat → Int32) (o_thrown : Int32) (p1 : Int32) (p2 : Int32) (N : Nat) (res : Int32) (w_o_m : Nat → Int32) (hv : f_X10_then N o_s o_m p1 p2 = some (res, w_o_m)) : Wr l E yX10_then cX10_then 3 (some .int) ({ frames := 7, cells := 0, slots := 0, locals := 154 }) [.ref o_h, .int p1, .int p2] [oMo o_h o_a0 o_a1 o_a2 o_a3 o_hasImage o_place o_rowAt o_rowEnd o_a8 o_a9 o_seed o_a11 o_a12 o_a13 o_a14 o_a15 o_a16 o_thrown, ai E o_a0 42 o_s, ai E o_a1 42 o_m, ai E o_a2 42 o_image, ai E o_a3 42 o_was, ai E o_a8 3 o_numbers, ai E o_a9 8192 o_most, ai E o_a11 8 o_kept, ai E o_a12 8 o_keptKind, ai E o_a13 8 o_keptFigure, ai E o_a14 8 o_sort, ai E o_a15 8 o_size, ai E o_a16 800 o_element] [oMo o_h o_a0 o_a1 o_a2 o_a3 o_hasImage o_place o_rowAt o_rowEnd o_a8 o_a9 o_seed o_a11 o_a12 o_a13 o_a14 o_a15 o_a16 o_thrown, ai E o_a0 42 o_s, ai E o_a1 42 w_o_m, ai E o_a2 42 o_image, ai E o_a3 42 o_was, ai E o_a8 3 o_numbers, ai E o_a9 8192 o_most, ai E o_a11 8 o_kept, ai E o_a12 8 o_keptKind, ai E o_a13 8 o_keptFigure, ai E o_a14 8 o_sort, ai E o_a15 8 o_size, ai E o_a16 800 o_element] (some (.int res)) := by
  refine Wr.intro RX10 (by decide) rfl (Nat.le_of_ble_eq_true rfl) ?_
  intro p e s m below meth c ls A hC hr hlk hmn hP hD hS hA hG hl
  obtain ⟨hx, hb, hml, hown, ht⟩ := id hC
  have hK := hG.1
  have hl : lv_has ls 3 [(0, .ref o_h), (1, .int p1), (2, .int p2)] := hl
  rw [f_X10_then] at hv
  refine lv_iload_n hx hb dX10_then_0 rfl (lv_at hl 1 rfl) ?_
  obtain ⟨r1, h2, hv⟩ := ob_s hv
  refine rdS (rest := []) (st1 := [.int r1]) (w := []) hC q_X10_isLate kw_5_105 (c_X10_isLate l E p1 r1 h2) ⟨rfl, rfl⟩ ⟨Nat.le_of_ble_eq_true rfl, Nat.le_of_ble_eq_true rfl⟩ ⟨Nat.zero_le _, Nat.zero_le _⟩ (hP.sub (ws' := []) [] rfl) hG rfl hl.1 rfl (Nat.le_of_ble_eq_true rfl) dX10_then_1 rfl ?_
  refine lv_if_eq (tgt := 16) hx hb dX10_then_4 (by decide) (fun c3 => ?_) (fun c3 => ?_)
  · have hv := if_y c3 hv
    refine lv_iconst (v := (-1 : Int32)) hx hb dX10_then_16 (by decide) ?_
    refine lv_topi (fun z4 ez4 => ?_)
    have hv := nm_s ez4 hv
    cases hv
    exact W.iret hx hb hr (fun t h9 _ => ⟨rfl, by rw [h9]; exact hP, hS.F h9⟩) hS.2.2 dX10_then_17 hlk
  · have hv := if_n c3 hv
    refine lv_iload_n hx hb dX10_then_7 rfl (lv_at hl 2 rfl) ?_
    refine lv_iconst (v := (0 : Int32)) hx hb dX10_then_8 (by decide) ?_
    refine lv_iconst (v := (1 : Int32)) hx hb dX10_then_9 (by decide) ?_
    obtain ⟨r5, h6, hv⟩ := ob_s hv
    refine rdS (rest := []) (st1 := [.int r5]) (w := []) hC q_X10_isIn kw_4_200 (c_X10_isIn l E p2 (0 : Int32) (1 : Int32) r5 h6) ⟨rfl, rfl⟩ ⟨Nat.le_of_ble_eq_true rfl, Nat.le_of_ble_eq_true rfl⟩ ⟨Nat.zero_le _, Nat.zero_le _⟩ (hP.sub (ws' := []) [] rfl) hG rfl hl.1 rfl (Nat.le_of_ble_eq_true rfl) dX10_then_10 rfl ?_
    refine lv_if_ne (tgt := 18) hx hb dX10_then_13 (by decide) (fun c7 => ?_) (fun c7 => ?_)
    · have hv := if_n c7 hv
      refine lv_aload_n hx hb dX10_then_18 rfl (lv_at hl 0 rfl) ?_
      refine lv_iload_n hx hb dX10_then_19 rfl (lv_at hl 1 rfl) ?_
      obtain ⟨y8, h9, hv⟩ := ob_s hv
      refine wrV (as := [o_h, o_a0, o_a1, o_a2, o_a3, o_a8, o_a9, o_a11, o_a12, o_a13, o_a14, o_a15, o_a16]) (wr := []) [0, 1, 2, 3, 4, 5, 6, 7, 8, 9, 10, 11, 12] [] 4 0 (ws := [oMo o_h o_a0 o_a1 o_a2 o_a3 o_hasImage o_place o_rowAt o_rowEnd o_a8 o_a9 o_seed o_a11 o_a12 o_a13 o_a14 o_a15 o_a16 o_thrown, ai E o_a0 42 o_s, ai E o_a1 42 o_m, ai E o_a2 42 o_image, ai E o_a3 42 o_was, ai E o_a8 3 o_numbers, ai E o_a9 8192 o_most, ai E o_a11 8 o_kept, ai E o_a12 8 o_keptKind, ai E o_a13 8 o_keptFigure, ai E o_a14 8 o_sort, ai E o_a15 8 o_size, ai E o_a16 800 o_element]) (ws' := [oMo o_h o_a0 o_a1 o_a2 o_a3 o_hasImage o_place o_rowAt o_rowEnd o_a8 o_a9 o_seed o_a11 o_a12 o_a13 o_a14 o_a15 o_a16 o_thrown, ai E o_a0 42 o_s, ai E o_a1 42 y8, ai E o_a2 42 o_image, ai E o_a3 42 o_was, ai E o_a8 3 o_numbers, ai E o_a9 8192 o_most, ai E o_a11 8 o_kept, ai E o_a12 8 o_keptKind, ai E o_a13 8 o_keptFigure, ai E o_a14 8 o_sort, ai E o_a15 8 o_size, ai E o_a16 800 o_element]) (As := [.int p1]) (rest := []) (st1 := []) hC q_X10_takes kw_5_108 (c_X10_takes l E o_h o_a0 o_a1 o_a2 o_a3 o_a8 o_a9 o_a11 o_a12 o_a13 o_a14 o_a15 o_a16 o_s o_m o_image o_was o_hasImage o_place o_rowAt o_rowEnd o_numbers o_most o_seed o_kept o_keptKind o_keptFigure o_sort o_size o_element o_thrown p1 N y8 h9) ⟨rfl, rfl⟩ ⟨Nat.le_of_ble_eq_true rfl, Nat.le_of_ble_eq_true rfl⟩ ⟨Nat.zero_le _, Nat.zero_le _⟩ hP hD hS hA rfl rfl rfl hG (by decide) rfl rfl rfl rfl rfl rfl rfl rfl hl.1 rfl (Nat.le_of_ble_eq_true rfl) dX10_then_20 rfl (fun H locs hP hD hS => ?_)
      refine lv_iload_n hx hb dX10_then_23 rfl (lv_at hl 2 rfl) ?_
      refine lv_iconst (v := (1 : Int32)) hx hb dX10_then_24 (by decide) ?_
      refine lv_icmp_ne (tgt := 38) hx hb dX10_then_25 (by decide) (fun c10 => ?_) (fun c10 => ?_)
      · have hv := if_n c10 hv
        refine lv_aload_n hx hb dX10_then_38 rfl (lv_at hl 0 rfl) ?_
        refine va_get (D := E.1) (ci := 4) (v := .ref o_a1) (C := RX10) (T := TX10) (N := 18) hx hb ht i_X10 hown hK hP 0 rfl rfl 1 (by decide) (ht _ kw_4_135) (fun _ h9 => h9) rfl dX10_then_39 ?_
        obtain ⟨r11, h12, hv⟩ := ob_s hv
        refine rdS (rest := []) (st1 := [.int r11]) (w := [ai E o_a1 42 y8]) hC q_X10_doesCarry kw_5_70 (c_X10_doesCarry l E o_a1 y8 N r11 h12) ⟨rfl, rfl⟩ ⟨Nat.le_of_ble_eq_true rfl, Nat.le_of_ble_eq_true rfl⟩ ⟨Nat.zero_le _, Nat.zero_le _⟩ (hP.sub (ws' := [ai E o_a1 42 y8]) [2] rfl) hG rfl hl.1 rfl (Nat.le_of_ble_eq_true rfl) dX10_then_42 rfl ?_
        refine lv_if_eq (tgt := 52) hx hb dX10_then_45 (by decide) (fun c13 => ?_) (fun c13 => ?_)
        · have hv := if_y c13 hv
          refine lv_iconst (v := (0 : Int32)) hx hb dX10_then_52 (by decide) ?_
          refine lv_topi (fun z14 ez14 => ?_)
          have hv := nm_s ez14 hv
          cases hv
          exact W.iret hx hb hr (fun t h9 _ => ⟨rfl, by rw [h9]; exact hP, hS.F h9⟩) hS.2.2 dX10_then_53 hlk
        · have hv := if_n c13 hv
          refine lv_iconst (v := (1 : Int32)) hx hb dX10_then_48 (by decide) ?_
          refine lv_goto (tgt := 53) hx hb dX10_then_49 (by decide) ?_
          refine lv_topi (fun z15 ez15 => ?_)
          have hv := nm_s ez15 hv
          cases hv
          exact W.iret hx hb hr (fun t h9 _ => ⟨rfl, by rw [h9]; exact hP, hS.F h9⟩) hS.2.2 dX10_then_53 hlk
      · have hv := if_y c10 hv
        refine lv_aload_n hx hb dX10_then_28 rfl (lv_at hl 0 rfl) ?_
        refine va_get (D := E.1) (ci := 4) (v := .ref o_a1) (C := RX10) (T := TX10) (N := 18) hx hb ht i_X10 hown hK hP 0 rfl rfl 1 (by decide) (ht _ kw_4_135) (fun _ h9 => h9) rfl dX10_then_29 ?_
        obtain ⟨r16, h17, hv⟩ := ob_s hv
        refine rdS (rest := []) (st1 := [.int r16]) (w := [ai E o_a1 42 y8]) hC q_X10_forIn kw_5_98 (c_X10_forIn l E o_a1 y8 N r16 h17) ⟨rfl, rfl⟩ ⟨Nat.le_of_ble_eq_true rfl, Nat.le_of_ble_eq_true rfl⟩ ⟨Nat.zero_le _, Nat.zero_le _⟩ (hP.sub (ws' := [ai E o_a1 42 y8]) [2] rfl) hG rfl hl.1 rfl (Nat.le_of_ble_eq_true rfl) dX10_then_32 rfl ?_
        refine lv_goto (tgt := 53) hx hb dX10_then_35 (by decide) ?_
        cases hv
        exact W.iret hx hb hr (fun t h9 _ => ⟨rfl, by rw [h9]; exact hP, hS.F h9⟩) hS.2.2 dX10_then_53 hlk
    · have hv := if_y c7 hv
      refine lv_iconst (v := (-1 : Int32)) hx hb dX10_then_16 (by decide) ?_
      refine lv_topi (fun z18 ez18 => ?_)
      have hv := nm_s ez18 hv
      cases hv
      exact W.iret hx hb hr (fun t h9 _ => ⟨rfl, by rw [h9]; exact hP, hS.F h9⟩) hS.2.2 dX10_then_17 hlk
theorem dX10_when_0 : decode cX10_when 0 = .ok (.aload_n 0, 1) := by decide +kernel
theorem dX10_when_1 : decode cX10_when 1 = .ok (.getfield 9, 3) := by decide +kernel
theorem dX10_when_4 : decode cX10_when 4 = .ok (.aload_n 0, 1) := by decide +kernel
theorem dX10_when_5 : decode cX10_when 5 = .ok (.getfield 13, 3) := by decide +kernel
theorem dX10_when_8 : decode cX10_when 8 = .ok (.invokestatic 148, 3) := by decide +kernel
theorem dX10_when_11 : decode cX10_when 11 = .ok (.iconst 0, 1) := by decide +kernel
theorem dX10_when_12 : decode cX10_when 12 = .ok (.istore_n 1, 1) := by decide +kernel
theorem dX10_when_13 : decode cX10_when 13 = .ok (.iload_n 1, 1) := by decide +kernel
theorem dX10_when_14 : decode cX10_when 14 = .ok (.bipush 60, 2) := by decide +kernel
theorem dX10_when_16 : decode cX10_when 16 = .ok (.if_icmp .gt 28, 3) := by decide +kernel
theorem dX10_when_19 : decode cX10_when 19 = .ok (.aload_n 0, 1) := by decide +kernel
theorem dX10_when_20 : decode cX10_when 20 = .ok (.getfield 13, 3) := by decide +kernel
theorem dX10_when_23 : decode cX10_when 23 = .ok (.invokestatic 163, 3) := by decide +kernel
theorem dX10_when_26 : decode cX10_when 26 = .ok (.ifCond .eq 5, 3) := by decide +kernel
theorem dX10_when_29 : decode cX10_when 29 = .ok (.iload_n 1, 1) := by decide +kernel
theorem dX10_when_30 : decode cX10_when 30 = .ok (.ireturn, 1) := by decide +kernel
theorem dX10_when_31 : decode cX10_when 31 = .ok (.aload_n 0, 1) := by decide +kernel
theorem dX10_when_32 : decode cX10_when 32 = .ok (.getfield 13, 3) := by decide +kernel
theorem dX10_when_35 : decode cX10_when 35 = .ok (.invokestatic 109, 3) := by decide +kernel
theorem dX10_when_38 : decode cX10_when 38 = .ok (.iinc 1 1, 3) := by decide +kernel
theorem dX10_when_41 : decode cX10_when 41 = .ok (.goto (-28), 3) := by decide +kernel
theorem dX10_when_44 : decode cX10_when 44 = .ok (.bipush (-4), 2) := by decide +kernel
theorem dX10_when_46 : decode cX10_when 46 = .ok (.ireturn, 1) := by decide +kernel
def L_X10_when_13 (N : Nat) : Nat → Int32 → (Nat → Int32) → Option (Int32 × (Nat → Int32))
  | 0, _, _ => none
  | n13 + 1, x3, y4 => if (60 : Int32) < x3 then nm (-4 : Int32) (fun z6 => some (z6, y4)) else ob (f_X10_doesCarry N y4) (fun r7 => if r7 = 0 then ob (f_X10_day N y4) (fun y10 => L_X10_when_13 N n13 (x3 + (1 : Int32)) y10) else some (x3, y4))
def f_X10_when (N : Nat) (o_s : Nat → Int32) (o_m : Nat → Int32) : Option (Int32 × (Nat → Int32)) := ob (f_X10_copies N o_s o_m) (fun y1 => L_X10_when_13 N N (0 : Int32) y1)
set_option maxHeartbeats 4000000 in
set_option maxRecDepth 100000 in
theorem c_X10_when (l : Launch) (E : EE) (o_h : Nat) (o_a0 : Nat) (o_a1 : Nat) (o_a2 : Nat) (o_a3 : Nat) (o_a8 : Nat) (o_a9 : Nat) (o_a11 : Nat) (o_a12 : Nat) (o_a13 : Nat) (o_a14 : Nat) (o_a15 : Nat) (o_a16 : Nat) (o_s : Nat → Int32) (o_m : Nat → Int32) (o_image : Nat → Int32) (o_was : Nat → Int32) (o_hasImage : Int32) (o_place : Int32) (o_rowAt : Int32) (o_rowEnd : Int32) (o_numbers : Nat → Int32) (o_most : Nat → Int32) (o_seed : Int32) (o_kept : Nat → Int32) (o_keptKind : Nat → Int32) (o_keptFigure : Nat → Int32) (o_sort : Nat → Int32) (o_size : Nat → Int32) (o_element : Nat → Int32) (o_thrown : Int32) (N : Nat) (res : Int32) (w_o_m : Nat → Int32) (hv : f_X10_when N o_s o_m = some (res, w_o_m)) : Wr l E yX10_when cX10_when 2 (some .int) ({ frames := 6, cells := 0, slots := 0, locals := 128 }) [.ref o_h] [oMo o_h o_a0 o_a1 o_a2 o_a3 o_hasImage o_place o_rowAt o_rowEnd o_a8 o_a9 o_seed o_a11 o_a12 o_a13 o_a14 o_a15 o_a16 o_thrown, ai E o_a0 42 o_s, ai E o_a1 42 o_m, ai E o_a2 42 o_image, ai E o_a3 42 o_was, ai E o_a8 3 o_numbers, ai E o_a9 8192 o_most, ai E o_a11 8 o_kept, ai E o_a12 8 o_keptKind, ai E o_a13 8 o_keptFigure, ai E o_a14 8 o_sort, ai E o_a15 8 o_size, ai E o_a16 800 o_element] [oMo o_h o_a0 o_a1 o_a2 o_a3 o_hasImage o_place o_rowAt o_rowEnd o_a8 o_a9 o_seed o_a11 o_a12 o_a13 o_a14 o_a15 o_a16 o_thrown, ai E o_a0 42 o_s, ai E o_a1 42 w_o_m, ai E o_a2 42 o_image, ai E o_a3 42 o_was, ai E o_a8 3 o_numbers, ai E o_a9 8192 o_most, ai E o_a11 8 o_kept, ai E o_a12 8 o_keptKind, ai E o_a13 8 o_keptFigure, ai E o_a14 8 o_sort, ai E o_a15 8 o_size, ai E o_a16 800 o_element] (some (.int res)) := by
  refine Wr.intro RX10 (by decide) rfl (Nat.le_of_ble_eq_true rfl) ?_
  intro p e s m below meth c ls A hC hr hlk hmn hP hD hS hA hG hl
  obtain ⟨hx, hb, hml, hown, ht⟩ := id hC
  have hK := hG.1
  have hl : lv_has ls 2 [(0, .ref o_h)] := hl
  rw [f_X10_when] at hv
  refine lv_aload_n hx hb dX10_when_0 rfl (lv_at hl 0 rfl) ?_
  refine va_get (D := E.1) (ci := 4) (v := .ref o_a0) (C := RX10) (T := TX10) (N := 18) hx hb ht i_X10 hown hK hP 0 rfl rfl 0 (by decide) (ht _ kw_4_134) (fun _ h9 => h9) rfl dX10_when_1 ?_
  refine lv_aload_n hx hb dX10_when_4 rfl (lv_at hl 0 rfl) ?_
  refine va_get (D := E.1) (ci := 4) (v := .ref o_a1) (C := RX10) (T := TX10) (N := 18) hx hb ht i_X10 hown hK hP 0 rfl rfl 1 (by decide) (ht _ kw_4_135) (fun _ h9 => h9) rfl dX10_when_5 ?_
  obtain ⟨y1, h2, hv⟩ := ob_s hv
  refine wrS (as := [o_h, o_a0, o_a1, o_a2, o_a3, o_a8, o_a9, o_a11, o_a12, o_a13, o_a14, o_a15, o_a16]) (wr := [oMo o_h o_a0 o_a1 o_a2 o_a3 o_hasImage o_place o_rowAt o_rowEnd o_a8 o_a9 o_seed o_a11 o_a12 o_a13 o_a14 o_a15 o_a16 o_thrown, ai E o_a2 42 o_image, ai E o_a3 42 o_was, ai E o_a8 3 o_numbers, ai E o_a9 8192 o_most, ai E o_a11 8 o_kept, ai E o_a12 8 o_keptKind, ai E o_a13 8 o_keptFigure, ai E o_a14 8 o_sort, ai E o_a15 8 o_size, ai E o_a16 800 o_element]) [1, 2] [0, 3, 4, 5, 6, 7, 8, 9, 10, 11, 12] (ws := [oMo o_h o_a0 o_a1 o_a2 o_a3 o_hasImage o_place o_rowAt o_rowEnd o_a8 o_a9 o_seed o_a11 o_a12 o_a13 o_a14 o_a15 o_a16 o_thrown, ai E o_a0 42 o_s, ai E o_a1 42 o_m, ai E o_a2 42 o_image, ai E o_a3 42 o_was, ai E o_a8 3 o_numbers, ai E o_a9 8192 o_most, ai E o_a11 8 o_kept, ai E o_a12 8 o_keptKind, ai E o_a13 8 o_keptFigure, ai E o_a14 8 o_sort, ai E o_a15 8 o_size, ai E o_a16 800 o_element]) (ws' := [oMo o_h o_a0 o_a1 o_a2 o_a3 o_hasImage o_place o_rowAt o_rowEnd o_a8 o_a9 o_seed o_a11 o_a12 o_a13 o_a14 o_a15 o_a16 o_thrown, ai E o_a0 42 o_s, ai E o_a1 42 y1, ai E o_a2 42 o_image, ai E o_a3 42 o_was, ai E o_a8 3 o_numbers, ai E o_a9 8192 o_most, ai E o_a11 8 o_kept, ai E o_a12 8 o_keptKind, ai E o_a13 8 o_keptFigure, ai E o_a14 8 o_sort, ai E o_a15 8 o_size, ai E o_a16 800 o_element]) (rest := []) (st1 := []) hC q_X10_copies kw_4_215 (c_X10_copies l E o_a0 o_a1 o_s o_m N y1 h2) ⟨rfl, rfl⟩ ⟨Nat.le_of_ble_eq_true rfl, Nat.le_of_ble_eq_true rfl⟩ ⟨Nat.zero_le _, Nat.zero_le _⟩ hP hD hS hA hG (by decide) rfl rfl rfl rfl rfl rfl rfl rfl hl.1 rfl (Nat.le_of_ble_eq_true rfl) dX10_when_8 rfl (fun H locs hP hD hS => ?_)
  refine lv_iconst (v := (0 : Int32)) hx hb dX10_when_11 (by decide) ?_
  refine lv_istore_n (lv' := [(1, .int (0 : Int32)), (0, .ref o_h)]) hx hb dX10_when_12 rfl hl (by decide) rfl (fun ls hl => ?_)
  have hL13 : ∀ (n : Nat) (x3 : Int32) (y4 : Nat → Int32) (H : Heap) (locs : List Loc) (ls : Array Slot), va_P E.1 vwCl [oMo o_h o_a0 o_a1 o_a2 o_a3 o_hasImage o_place o_rowAt o_rowEnd o_a8 o_a9 o_seed o_a11 o_a12 o_a13 o_a14 o_a15 o_a16 o_thrown, ai E o_a0 42 o_s, ai E o_a1 42 y4, ai E o_a2 42 o_image, ai E o_a3 42 o_was, ai E o_a8 3 o_numbers, ai E o_a9 8192 o_most, ai E o_a11 8 o_kept, ai E o_a12 8 o_keptKind, ai E o_a13 8 o_keptFigure, ai E o_a14 8 o_sort, ai E o_a15 8 o_size, ai E o_a16 800 o_element] H → va_D A [oMo o_h o_a0 o_a1 o_a2 o_a3 o_hasImage o_place o_rowAt o_rowEnd o_a8 o_a9 o_seed o_a11 o_a12 o_a13 o_a14 o_a15 o_a16 o_thrown, ai E o_a0 42 o_s, ai E o_a1 42 y4, ai E o_a2 42 o_image, ai E o_a3 42 o_was, ai E o_a8 3 o_numbers, ai E o_a9 8192 o_most, ai E o_a11 8 o_kept, ai E o_a12 8 o_keptKind, ai E o_a13 8 o_keptFigure, ai E o_a14 8 o_sort, ai E o_a15 8 o_size, ai E o_a16 800 o_element] → va_S A s.heap H locs → lv_has ls 2 [(1, .int x3), (0, .ref o_h)] → L_X10_when_13 N n x3 y4 = some (res, w_o_m) → W p l e ({ frames := 6, cells := 0, slots := 0, locals := 128 }) s m [.ref o_h].toArray below meth c H locs 0 0 (MQ below (fun _ st oc t => oc = .returned (some (.int res)) ∧ va_P E.1 vwCl [oMo o_h o_a0 o_a1 o_a2 o_a3 o_hasImage o_place o_rowAt o_rowEnd o_a8 o_a9 o_seed o_a11 o_a12 o_a13 o_a14 o_a15 o_a16 o_thrown, ai E o_a0 42 o_s, ai E o_a1 42 w_o_m, ai E o_a2 42 o_image, ai E o_a3 42 o_was, ai E o_a8 3 o_numbers, ai E o_a9 8192 o_most, ai E o_a11 8 o_kept, ai E o_a12 8 o_keptKind, ai E o_a13 8 o_keptFigure, ai E o_a14 8 o_sort, ai E o_a15 8 o_size, ai E o_a16 800 o_element] t.heap ∧ va_F A st t) [.ref o_h].toArray s 0 0 A) (F0 m 13 ls []) := by
    intro n
    induction n with
    | zero => intro x3 y4 H locs ls hP hD hS hl hv; cases hv
    | succ n13 ih13 =>
      intro x3 y4 H locs ls hP hD hS hl hv
      rw [L_X10_when_13] at hv
      refine lv_iload_n hx hb dX10_when_13 rfl (lv_at hl 0 rfl) ?_
      refine lv_bipush (v := (60 : Int32)) hx hb dX10_when_14 (by decide) ?_
      refine lv_icmp_gt (tgt := 44) hx hb dX10_when_16 (by decide) (fun c5 => ?_) (fun c5 => ?_)
      · have hv := if_y c5 hv
        refine lv_bipush (v := (-4 : Int32)) hx hb dX10_when_44 (by decide) ?_
        refine lv_topi (fun z6 ez6 => ?_)
        have hv := nm_s ez6 hv
        cases hv
        exact W.iret hx hb hr (fun t h9 _ => ⟨rfl, by rw [h9]; exact hP, hS.F h9⟩) hS.2.2 dX10_when_46 hlk
      · have hv := if_n c5 hv
        refine lv_aload_n hx hb dX10_when_19 rfl (lv_at hl 1 rfl) ?_
        refine va_get (D := E.1) (ci := 4) (v := .ref o_a1) (C := RX10) (T := TX10) (N := 18) hx hb ht i_X10 hown hK hP 0 rfl rfl 1 (by decide) (ht _ kw_4_135) (fun _ h9 => h9) rfl dX10_when_20 ?_
        obtain ⟨r7, h8, hv⟩ := ob_s hv
        refine rdS (rest := []) (st1 := [.int r7]) (w := [ai E o_a1 42 y4]) hC q_X10_doesCarry kw_5_70 (c_X10_doesCarry l E o_a1 y4 N r7 h8) ⟨rfl, rfl⟩ ⟨Nat.le_of_ble_eq_true rfl, Nat.le_of_ble_eq_true rfl⟩ ⟨Nat.zero_le _, Nat.zero_le _⟩ (hP.sub (ws' := [ai E o_a1 42 y4]) [2] rfl) hG rfl hl.1 rfl (Nat.le_of_ble_eq_true rfl) dX10_when_23 rfl ?_
        refine lv_if_eq (tgt := 31) hx hb dX10_when_26 (by decide) (fun c9 => ?_) (fun c9 => ?_)
        · have hv := if_y c9 hv
          refine lv_aload_n hx hb dX10_when_31 rfl (lv_at hl 1 rfl) ?_
          refine va_get (D := E.1) (ci := 4) (v := .ref o_a1) (C := RX10) (T := TX10) (N := 18) hx hb ht i_X10 hown hK hP 0 rfl rfl 1 (by decide) (ht _ kw_4_135) (fun _ h9 => h9) rfl dX10_when_32 ?_
          obtain ⟨y10, h11, hv⟩ := ob_s hv
          refine wrS (as := [o_h, o_a0, o_a1, o_a2, o_a3, o_a8, o_a9, o_a11, o_a12, o_a13, o_a14, o_a15, o_a16]) (wr := [oMo o_h o_a0 o_a1 o_a2 o_a3 o_hasImage o_place o_rowAt o_rowEnd o_a8 o_a9 o_seed o_a11 o_a12 o_a13 o_a14 o_a15 o_a16 o_thrown, ai E o_a0 42 o_s, ai E o_a2 42 o_image, ai E o_a3 42 o_was, ai E o_a8 3 o_numbers, ai E o_a9 8192 o_most, ai E o_a11 8 o_kept, ai E o_a12 8 o_keptKind, ai E o_a13 8 o_keptFigure, ai E o_a14 8 o_sort, ai E o_a15 8 o_size, ai E o_a16 800 o_element]) [2] [0, 1, 3, 4, 5, 6, 7, 8, 9, 10, 11, 12] (ws := [oMo o_h o_a0 o_a1 o_a2 o_a3 o_hasImage o_place o_rowAt o_rowEnd o_a8 o_a9 o_seed o_a11 o_a12 o_a13 o_a14 o_a15 o_a16 o_thrown, ai E o_a0 42 o_s, ai E o_a1 42 y4, ai E o_a2 42 o_image, ai E o_a3 42 o_was, ai E o_a8 3 o_numbers, ai E o_a9 8192 o_most, ai E o_a11 8 o_kept, ai E o_a12 8 o_keptKind, ai E o_a13 8 o_keptFigure, ai E o_a14 8 o_sort, ai E o_a15 8 o_size, ai E o_a16 800 o_element]) (ws' := [oMo o_h o_a0 o_a1 o_a2 o_a3 o_hasImage o_place o_rowAt o_rowEnd o_a8 o_a9 o_seed o_a11 o_a12 o_a13 o_a14 o_a15 o_a16 o_thrown, ai E o_a0 42 o_s, ai E o_a1 42 y10, ai E o_a2 42 o_image, ai E o_a3 42 o_was, ai E o_a8 3 o_numbers, ai E o_a9 8192 o_most, ai E o_a11 8 o_kept, ai E o_a12 8 o_keptKind, ai E o_a13 8 o_keptFigure, ai E o_a14 8 o_sort, ai E o_a15 8 o_size, ai E o_a16 800 o_element]) (rest := []) (st1 := []) hC q_X10_day kw_4_236 (c_X10_day l E o_a1 y4 N y10 h11) ⟨rfl, rfl⟩ ⟨Nat.le_of_ble_eq_true rfl, Nat.le_of_ble_eq_true rfl⟩ ⟨Nat.zero_le _, Nat.zero_le _⟩ hP hD hS hA hG (by decide) rfl rfl rfl rfl rfl rfl rfl rfl hl.1 rfl (Nat.le_of_ble_eq_true rfl) dX10_when_35 rfl (fun H locs hP hD hS => ?_)
          refine lv_iinc (v := (x3 + (1 : Int32))) (lv' := [(1, .int (x3 + (1 : Int32))), (0, .ref o_h)]) hx hb dX10_when_38 hl (k := 0) rfl rfl (by decide) rfl (fun ls hl => ?_)
          refine lv_goto (tgt := 13) hx hb dX10_when_41 (by decide) ?_
          exact ih13 (x3 + (1 : Int32)) y10 _ _ _ hP hD hS (lv_sub hl [0, 1] rfl) hv
        · have hv := if_n c9 hv
          refine lv_iload_n hx hb dX10_when_29 rfl (lv_at hl 0 rfl) ?_
          cases hv
          exact W.iret hx hb hr (fun t h9 _ => ⟨rfl, by rw [h9]; exact hP, hS.F h9⟩) hS.2.2 dX10_when_30 hlk
  exact hL13 N (0 : Int32) y1 _ _ _ hP hD hS (lv_sub hl [0, 1] rfl) hv
theorem dX10_holdsIn_0 : decode cX10_holdsIn 0 = .ok (.iconst 0, 1) := by decide +kernel
theorem dX10_holdsIn_1 : decode cX10_holdsIn 1 = .ok (.istore_n 2, 1) := by decide +kernel
theorem dX10_holdsIn_2 : decode cX10_holdsIn 2 = .ok (.iconst 0, 1) := by decide +kernel
theorem dX10_holdsIn_3 : decode cX10_holdsIn 3 = .ok (.istore_n 3, 1) := by decide +kernel
theorem dX10_holdsIn_4 : decode cX10_holdsIn 4 = .ok (.iload_n 3, 1) := by decide +kernel
theorem dX10_holdsIn_5 : decode cX10_holdsIn 5 = .ok (.iload_n 1, 1) := by decide +kernel
theorem dX10_holdsIn_6 : decode cX10_holdsIn 6 = .ok (.if_icmp .ge 34, 3) := by decide +kernel
theorem dX10_holdsIn_9 : decode cX10_holdsIn 9 = .ok (.aload_n 0, 1) := by decide +kernel
theorem dX10_holdsIn_10 : decode cX10_holdsIn 10 = .ok (.getfield 13, 3) := by decide +kernel
theorem dX10_holdsIn_13 : decode cX10_holdsIn 13 = .ok (.invokestatic 109, 3) := by decide +kernel
theorem dX10_holdsIn_16 : decode cX10_holdsIn 16 = .ok (.iload_n 2, 1) := by decide +kernel
theorem dX10_holdsIn_17 : decode cX10_holdsIn 17 = .ok (.aload_n 0, 1) := by decide +kernel
theorem dX10_holdsIn_18 : decode cX10_holdsIn 18 = .ok (.getfield 13, 3) := by decide +kernel
theorem dX10_holdsIn_21 : decode cX10_holdsIn 21 = .ok (.invokestatic 163, 3) := by decide +kernel
theorem dX10_holdsIn_24 : decode cX10_holdsIn 24 = .ok (.ifCond .eq 7, 3) := by decide +kernel
theorem dX10_holdsIn_27 : decode cX10_holdsIn 27 = .ok (.iconst 1, 1) := by decide +kernel
theorem dX10_holdsIn_28 : decode cX10_holdsIn 28 = .ok (.goto 4, 3) := by decide +kernel
theorem dX10_holdsIn_31 : decode cX10_holdsIn 31 = .ok (.iconst 0, 1) := by decide +kernel
theorem dX10_holdsIn_32 : decode cX10_holdsIn 32 = .ok (.iadd, 1) := by decide +kernel
theorem dX10_holdsIn_33 : decode cX10_holdsIn 33 = .ok (.istore_n 2, 1) := by decide +kernel
theorem dX10_holdsIn_34 : decode cX10_holdsIn 34 = .ok (.iinc 3 1, 3) := by decide +kernel
theorem dX10_holdsIn_37 : decode cX10_holdsIn 37 = .ok (.goto (-33), 3) := by decide +kernel
theorem dX10_holdsIn_40 : decode cX10_holdsIn 40 = .ok (.iload_n 2, 1) := by decide +kernel
theorem dX10_holdsIn_41 : decode cX10_holdsIn 41 = .ok (.ireturn, 1) := by decide +kernel
def L_X10_holdsIn_4 (N : Nat) (p1 : Int32) : Nat → Int32 → Int32 → (Nat → Int32) → Option (Int32 × (Nat → Int32))
  | 0, _, _, _ => none
  | n4 + 1, x1, x2, y3 => if p1 ≤ x1 then some (x2, y3) else ob (f_X10_day N y3) (fun y5 => ob (f_X10_doesCarry N y5) (fun r7 => if r7 = 0 then L_X10_holdsIn_4 N p1 n4 (x1 + (1 : Int32)) (x2 + (0 : Int32)) y5 else L_X10_holdsIn_4 N p1 n4 (x1 + (1 : Int32)) (x2 + (1 : Int32)) y5))
def f_X10_holdsIn (N : Nat) (o_m : Nat → Int32) (p1 : Int32) : Option (Int32 × (Nat → Int32)) := L_X10_holdsIn_4 N p1 N (0 : Int32) (0 : Int32) o_m
set_option maxHeartbeats 4000000 in
set_option maxRecDepth 100000 in
theorem c_X10_holdsIn (l : Launch) (E : EE) (o_h : Nat) (o_a0 : Nat) (o_a1 : Nat) (o_a2 : Nat) (o_a3 : Nat) (o_a8 : Nat) (o_a9 : Nat) (o_a11 : Nat) (o_a12 : Nat) (o_a13 : Nat) (o_a14 : Nat) (o_a15 : Nat) (o_a16 : Nat) (o_s : Nat → Int32) (o_m : Nat → Int32) (o_image : Nat → Int32) (o_was : Nat → Int32) (o_hasImage : Int32) (o_place : Int32) (o_rowAt : Int32) (o_rowEnd : Int32) (o_numbers : Nat → Int32) (o_most : Nat → Int32) (o_seed : Int32) (o_kept : Nat → Int32) (o_keptKind : Nat → Int32) (o_keptFigure : Nat → Int32) (o_sort : Nat → Int32) (o_size : Nat → Int32) (o_element : Nat → Int32) (o_thrown : Int32) (p1 : Int32) (N : Nat) (res : Int32) (w_o_m : Nat → Int32) (hv : f_X10_holdsIn N o_m p1 = some (res, w_o_m)) : Wr l E yX10_holdsIn cX10_holdsIn 4 (some .int) ({ frames := 6, cells := 0, slots := 0, locals := 128 }) [.ref o_h, .int p1] [oMo o_h o_a0 o_a1 o_a2 o_a3 o_hasImage o_place o_rowAt o_rowEnd o_a8 o_a9 o_seed o_a11 o_a12 o_a13 o_a14 o_a15 o_a16 o_thrown, ai E o_a0 42 o_s, ai E o_a1 42 o_m, ai E o_a2 42 o_image, ai E o_a3 42 o_was, ai E o_a8 3 o_numbers, ai E o_a9 8192 o_most, ai E o_a11 8 o_kept, ai E o_a12 8 o_keptKind, ai E o_a13 8 o_keptFigure, ai E o_a14 8 o_sort, ai E o_a15 8 o_size, ai E o_a16 800 o_element] [oMo o_h o_a0 o_a1 o_a2 o_a3 o_hasImage o_place o_rowAt o_rowEnd o_a8 o_a9 o_seed o_a11 o_a12 o_a13 o_a14 o_a15 o_a16 o_thrown, ai E o_a0 42 o_s, ai E o_a1 42 w_o_m, ai E o_a2 42 o_image, ai E o_a3 42 o_was, ai E o_a8 3 o_numbers, ai E o_a9 8192 o_most, ai E o_a11 8 o_kept, ai E o_a12 8 o_keptKind, ai E o_a13 8 o_keptFigure, ai E o_a14 8 o_sort, ai E o_a15 8 o_size, ai E o_a16 800 o_element] (some (.int res)) := by
  refine Wr.intro RX10 (by decide) rfl (Nat.le_of_ble_eq_true rfl) ?_
  intro p e s m below meth c ls A hC hr hlk hmn hP hD hS hA hG hl
  obtain ⟨hx, hb, hml, hown, ht⟩ := id hC
  have hK := hG.1
  have hl : lv_has ls 4 [(0, .ref o_h), (1, .int p1)] := hl
  rw [f_X10_holdsIn] at hv
  refine lv_iconst (v := (0 : Int32)) hx hb dX10_holdsIn_0 (by decide) ?_
  refine lv_istore_n (lv' := [(2, .int (0 : Int32)), (0, .ref o_h), (1, .int p1)]) hx hb dX10_holdsIn_1 rfl hl (by decide) rfl (fun ls hl => ?_)
  refine lv_iconst (v := (0 : Int32)) hx hb dX10_holdsIn_2 (by decide) ?_
  refine lv_istore_n (lv' := [(3, .int (0 : Int32)), (2, .int (0 : Int32)), (0, .ref o_h), (1, .int p1)]) hx hb dX10_holdsIn_3 rfl hl (by decide) rfl (fun ls hl => ?_)
  have hL4 : ∀ (n : Nat) (x1 : Int32) (x2 : Int32) (y3 : Nat → Int32) (H : Heap) (locs : List Loc) (ls : Array Slot), va_P E.1 vwCl [oMo o_h o_a0 o_a1 o_a2 o_a3 o_hasImage o_place o_rowAt o_rowEnd o_a8 o_a9 o_seed o_a11 o_a12 o_a13 o_a14 o_a15 o_a16 o_thrown, ai E o_a0 42 o_s, ai E o_a1 42 y3, ai E o_a2 42 o_image, ai E o_a3 42 o_was, ai E o_a8 3 o_numbers, ai E o_a9 8192 o_most, ai E o_a11 8 o_kept, ai E o_a12 8 o_keptKind, ai E o_a13 8 o_keptFigure, ai E o_a14 8 o_sort, ai E o_a15 8 o_size, ai E o_a16 800 o_element] H → va_D A [oMo o_h o_a0 o_a1 o_a2 o_a3 o_hasImage o_place o_rowAt o_rowEnd o_a8 o_a9 o_seed o_a11 o_a12 o_a13 o_a14 o_a15 o_a16 o_thrown, ai E o_a0 42 o_s, ai E o_a1 42 y3, ai E o_a2 42 o_image, ai E o_a3 42 o_was, ai E o_a8 3 o_numbers, ai E o_a9 8192 o_most, ai E o_a11 8 o_kept, ai E o_a12 8 o_keptKind, ai E o_a13 8 o_keptFigure, ai E o_a14 8 o_sort, ai E o_a15 8 o_size, ai E o_a16 800 o_element] → va_S A s.heap H locs → lv_has ls 4 [(3, .int x1), (2, .int x2), (0, .ref o_h), (1, .int p1)] → L_X10_holdsIn_4 N p1 n x1 x2 y3 = some (res, w_o_m) → W p l e ({ frames := 6, cells := 0, slots := 0, locals := 128 }) s m [.ref o_h, .int p1].toArray below meth c H locs 0 0 (MQ below (fun _ st oc t => oc = .returned (some (.int res)) ∧ va_P E.1 vwCl [oMo o_h o_a0 o_a1 o_a2 o_a3 o_hasImage o_place o_rowAt o_rowEnd o_a8 o_a9 o_seed o_a11 o_a12 o_a13 o_a14 o_a15 o_a16 o_thrown, ai E o_a0 42 o_s, ai E o_a1 42 w_o_m, ai E o_a2 42 o_image, ai E o_a3 42 o_was, ai E o_a8 3 o_numbers, ai E o_a9 8192 o_most, ai E o_a11 8 o_kept, ai E o_a12 8 o_keptKind, ai E o_a13 8 o_keptFigure, ai E o_a14 8 o_sort, ai E o_a15 8 o_size, ai E o_a16 800 o_element] t.heap ∧ va_F A st t) [.ref o_h, .int p1].toArray s 0 0 A) (F0 m 4 ls []) := by
    intro n
    induction n with
    | zero => intro x1 x2 y3 H locs ls hP hD hS hl hv; cases hv
    | succ n4 ih4 =>
      intro x1 x2 y3 H locs ls hP hD hS hl hv
      rw [L_X10_holdsIn_4] at hv
      refine lv_iload_n hx hb dX10_holdsIn_4 rfl (lv_at hl 0 rfl) ?_
      refine lv_iload_n hx hb dX10_holdsIn_5 rfl (lv_at hl 3 rfl) ?_
      refine lv_icmp_ge (tgt := 40) hx hb dX10_holdsIn_6 (by decide) (fun c4 => ?_) (fun c4 => ?_)
      · have hv := if_y c4 hv
        refine lv_iload_n hx hb dX10_holdsIn_40 rfl (lv_at hl 1 rfl) ?_
        cases hv
        exact W.iret hx hb hr (fun t h9 _ => ⟨rfl, by rw [h9]; exact hP, hS.F h9⟩) hS.2.2 dX10_holdsIn_41 hlk
      · have hv := if_n c4 hv
        refine lv_aload_n hx hb dX10_holdsIn_9 rfl (lv_at hl 2 rfl) ?_
        refine va_get (D := E.1) (ci := 4) (v := .ref o_a1) (C := RX10) (T := TX10) (N := 18) hx hb ht i_X10 hown hK hP 0 rfl rfl 1 (by decide) (ht _ kw_4_135) (fun _ h9 => h9) rfl dX10_holdsIn_10 ?_
        obtain ⟨y5, h6, hv⟩ := ob_s hv
        refine wrS (as := [o_h, o_a0, o_a1, o_a2, o_a3, o_a8, o_a9, o_a11, o_a12, o_a13, o_a14, o_a15, o_a16]) (wr := [oMo o_h o_a0 o_a1 o_a2 o_a3 o_hasImage o_place o_rowAt o_rowEnd o_a8 o_a9 o_seed o_a11 o_a12 o_a13 o_a14 o_a15 o_a16 o_thrown, ai E o_a0 42 o_s, ai E o_a2 42 o_image, ai E o_a3 42 o_was, ai E o_a8 3 o_numbers, ai E o_a9 8192 o_most, ai E o_a11 8 o_kept, ai E o_a12 8 o_keptKind, ai E o_a13 8 o_keptFigure, ai E o_a14 8 o_sort, ai E o_a15 8 o_size, ai E o_a16 800 o_element]) [2] [0, 1, 3, 4, 5, 6, 7, 8, 9, 10, 11, 12] (ws := [oMo o_h o_a0 o_a1 o_a2 o_a3 o_hasImage o_place o_rowAt o_rowEnd o_a8 o_a9 o_seed o_a11 o_a12 o_a13 o_a14 o_a15 o_a16 o_thrown, ai E o_a0 42 o_s, ai E o_a1 42 y3, ai E o_a2 42 o_image, ai E o_a3 42 o_was, ai E o_a8 3 o_numbers, ai E o_a9 8192 o_most, ai E o_a11 8 o_kept, ai E o_a12 8 o_keptKind, ai E o_a13 8 o_keptFigure, ai E o_a14 8 o_sort, ai E o_a15 8 o_size, ai E o_a16 800 o_element]) (ws' := [oMo o_h o_a0 o_a1 o_a2 o_a3 o_hasImage o_place o_rowAt o_rowEnd o_a8 o_a9 o_seed o_a11 o_a12 o_a13 o_a14 o_a15 o_a16 o_thrown, ai E o_a0 42 o_s, ai E o_a1 42 y5, ai E o_a2 42 o_image, ai E o_a3 42 o_was, ai E o_a8 3 o_numbers, ai E o_a9 8192 o_most, ai E o_a11 8 o_kept, ai E o_a12 8 o_keptKind, ai E o_a13 8 o_keptFigure, ai E o_a14 8 o_sort, ai E o_a15 8 o_size, ai E o_a16 800 o_element]) (rest := []) (st1 := []) hC q_X10_day kw_4_236 (c_X10_day l E o_a1 y3 N y5 h6) ⟨rfl, rfl⟩ ⟨Nat.le_of_ble_eq_true rfl, Nat.le_of_ble_eq_true rfl⟩ ⟨Nat.zero_le _, Nat.zero_le _⟩ hP hD hS hA hG (by decide) rfl rfl rfl rfl rfl rfl rfl rfl hl.1 rfl (Nat.le_of_ble_eq_true rfl) dX10_holdsIn_13 rfl (fun H locs hP hD hS => ?_)
        refine lv_iload_n hx hb dX10_holdsIn_16 rfl (lv_at hl 1 rfl) ?_
        refine lv_aload_n hx hb dX10_holdsIn_17 rfl (lv_at hl 2 rfl) ?_
        refine va_get (D := E.1) (ci := 4) (v := .ref o_a1) (C := RX10) (T := TX10) (N := 18) hx hb ht i_X10 hown hK hP 0 rfl rfl 1 (by decide) (ht _ kw_4_135) (fun _ h9 => h9) rfl dX10_holdsIn_18 ?_
        obtain ⟨r7, h8, hv⟩ := ob_s hv
        refine rdS (rest := [.int x2]) (st1 := [.int r7, .int x2]) (w := [ai E o_a1 42 y5]) hC q_X10_doesCarry kw_5_70 (c_X10_doesCarry l E o_a1 y5 N r7 h8) ⟨rfl, rfl⟩ ⟨Nat.le_of_ble_eq_true rfl, Nat.le_of_ble_eq_true rfl⟩ ⟨Nat.zero_le _, Nat.zero_le _⟩ (hP.sub (ws' := [ai E o_a1 42 y5]) [2] rfl) hG rfl hl.1 rfl (Nat.le_of_ble_eq_true rfl) dX10_holdsIn_21 rfl ?_
        refine lv_if_eq (tgt := 31) hx hb dX10_holdsIn_24 (by decide) (fun c9 => ?_) (fun c9 => ?_)
        · have hv := if_y c9 hv
          refine lv_iconst (v := (0 : Int32)) hx hb dX10_holdsIn_31 (by decide) ?_
          refine lv_iadd hx hb dX10_holdsIn_32 ?_
          refine lv_istore_n (lv' := [(2, .int (x2 + (0 : Int32))), (3, .int x1), (0, .ref o_h), (1, .int p1)]) hx hb dX10_holdsIn_33 rfl hl (by decide) rfl (fun ls hl => ?_)
          refine lv_iinc (v := (x1 + (1 : Int32))) (lv' := [(3, .int (x1 + (1 : Int32))), (2, .int (x2 + (0 : Int32))), (0, .ref o_h), (1, .int p1)]) hx hb dX10_holdsIn_34 hl (k := 1) rfl rfl (by decide) rfl (fun ls hl => ?_)
          refine lv_goto (tgt := 4) hx hb dX10_holdsIn_37 (by decide) ?_
          exact ih4 (x1 + (1 : Int32)) (x2 + (0 : Int32)) y5 _ _ _ hP hD hS (lv_sub hl [0, 1, 2, 3] rfl) hv
        · have hv := if_n c9 hv
          refine lv_iconst (v := (1 : Int32)) hx hb dX10_holdsIn_27 (by decide) ?_
          refine lv_goto (tgt := 32) hx hb dX10_holdsIn_28 (by decide) ?_
          refine lv_iadd hx hb dX10_holdsIn_32 ?_
          refine lv_istore_n (lv' := [(2, .int (x2 + (1 : Int32))), (3, .int x1), (0, .ref o_h), (1, .int p1)]) hx hb dX10_holdsIn_33 rfl hl (by decide) rfl (fun ls hl => ?_)
          refine lv_iinc (v := (x1 + (1 : Int32))) (lv' := [(3, .int (x1 + (1 : Int32))), (2, .int (x2 + (1 : Int32))), (0, .ref o_h), (1, .int p1)]) hx hb dX10_holdsIn_34 hl (k := 1) rfl rfl (by decide) rfl (fun ls hl => ?_)
          refine lv_goto (tgt := 4) hx hb dX10_holdsIn_37 (by decide) ?_
          exact ih4 (x1 + (1 : Int32)) (x2 + (1 : Int32)) y5 _ _ _ hP hD hS (lv_sub hl [0, 1, 2, 3] rfl) hv
  exact hL4 N (0 : Int32) (0 : Int32) o_m _ _ _ hP hD hS (lv_sub hl [0, 1, 2, 3] rfl) hv
theorem dX10_holdsNow_0 : decode cX10_holdsNow 0 = .ok (.aload_n 0, 1) := by decide +kernel
theorem dX10_holdsNow_1 : decode cX10_holdsNow 1 = .ok (.getfield 9, 3) := by decide +kernel
theorem dX10_holdsNow_4 : decode cX10_holdsNow 4 = .ok (.aload_n 0, 1) := by decide +kernel
theorem dX10_holdsNow_5 : decode cX10_holdsNow 5 = .ok (.getfield 13, 3) := by decide +kernel
theorem dX10_holdsNow_8 : decode cX10_holdsNow 8 = .ok (.invokestatic 148, 3) := by decide +kernel
theorem dX10_holdsNow_11 : decode cX10_holdsNow 11 = .ok (.aload_n 0, 1) := by decide +kernel
theorem dX10_holdsNow_12 : decode cX10_holdsNow 12 = .ok (.iload_n 1, 1) := by decide +kernel
theorem dX10_holdsNow_13 : decode cX10_holdsNow 13 = .ok (.invokevirtual 177, 3) := by decide +kernel
theorem dX10_holdsNow_16 : decode cX10_holdsNow 16 = .ok (.ireturn, 1) := by decide +kernel
def f_X10_holdsNow (N : Nat) (o_s : Nat → Int32) (o_m : Nat → Int32) (p1 : Int32) : Option (Int32 × (Nat → Int32)) := ob (f_X10_copies N o_s o_m) (fun y1 => ob (f_X10_holdsIn N y1 p1) (fun (r3, y4) => some (r3, y4)))
set_option maxHeartbeats 4000000 in
set_option maxRecDepth 100000 in
theorem c_X10_holdsNow (l : Launch) (E : EE) (o_h : Nat) (o_a0 : Nat) (o_a1 : Nat) (o_a2 : Nat) (o_a3 : Nat) (o_a8 : Nat) (o_a9 : Nat) (o_a11 : Nat) (o_a12 : Nat) (o_a13 : Nat) (o_a14 : Nat) (o_a15 : Nat) (o_a16 : Nat) (o_s : Nat → Int32) (o_m : Nat → Int32) (o_image : Nat → Int32) (o_was : Nat → Int32) (o_hasImage : Int32) (o_place : Int32) (o_rowAt : Int32) (o_rowEnd : Int32) (o_numbers : Nat → Int32) (o_most : Nat → Int32) (o_seed : Int32) (o_kept : Nat → Int32) (o_keptKind : Nat → Int32) (o_keptFigure : Nat → Int32) (o_sort : Nat → Int32) (o_size : Nat → Int32) (o_element : Nat → Int32) (o_thrown : Int32) (p1 : Int32) (N : Nat) (res : Int32) (w_o_m : Nat → Int32) (hv : f_X10_holdsNow N o_s o_m p1 = some (res, w_o_m)) : Wr l E yX10_holdsNow cX10_holdsNow 2 (some .int) ({ frames := 7, cells := 0, slots := 0, locals := 151 }) [.ref o_h, .int p1] [oMo o_h o_a0 o_a1 o_a2 o_a3 o_hasImage o_place o_rowAt o_rowEnd o_a8 o_a9 o_seed o_a11 o_a12 o_a13 o_a14 o_a15 o_a16 o_thrown, ai E o_a0 42 o_s, ai E o_a1 42 o_m, ai E o_a2 42 o_image, ai E o_a3 42 o_was, ai E o_a8 3 o_numbers, ai E o_a9 8192 o_most, ai E o_a11 8 o_kept, ai E o_a12 8 o_keptKind, ai E o_a13 8 o_keptFigure, ai E o_a14 8 o_sort, ai E o_a15 8 o_size, ai E o_a16 800 o_element] [oMo o_h o_a0 o_a1 o_a2 o_a3 o_hasImage o_place o_rowAt o_rowEnd o_a8 o_a9 o_seed o_a11 o_a12 o_a13 o_a14 o_a15 o_a16 o_thrown, ai E o_a0 42 o_s, ai E o_a1 42 w_o_m, ai E o_a2 42 o_image, ai E o_a3 42 o_was, ai E o_a8 3 o_numbers, ai E o_a9 8192 o_most, ai E o_a11 8 o_kept, ai E o_a12 8 o_keptKind, ai E o_a13 8 o_keptFigure, ai E o_a14 8 o_sort, ai E o_a15 8 o_size, ai E o_a16 800 o_element] (some (.int res)) := by
  refine Wr.intro RX10 (by decide) rfl (Nat.le_of_ble_eq_true rfl) ?_
  intro p e s m below meth c ls A hC hr hlk hmn hP hD hS hA hG hl
  obtain ⟨hx, hb, hml, hown, ht⟩ := id hC
  have hK := hG.1
  have hl : lv_has ls 2 [(0, .ref o_h), (1, .int p1)] := hl
  rw [f_X10_holdsNow] at hv
  refine lv_aload_n hx hb dX10_holdsNow_0 rfl (lv_at hl 0 rfl) ?_
  refine va_get (D := E.1) (ci := 4) (v := .ref o_a0) (C := RX10) (T := TX10) (N := 18) hx hb ht i_X10 hown hK hP 0 rfl rfl 0 (by decide) (ht _ kw_4_134) (fun _ h9 => h9) rfl dX10_holdsNow_1 ?_
  refine lv_aload_n hx hb dX10_holdsNow_4 rfl (lv_at hl 0 rfl) ?_
  refine va_get (D := E.1) (ci := 4) (v := .ref o_a1) (C := RX10) (T := TX10) (N := 18) hx hb ht i_X10 hown hK hP 0 rfl rfl 1 (by decide) (ht _ kw_4_135) (fun _ h9 => h9) rfl dX10_holdsNow_5 ?_
  obtain ⟨y1, h2, hv⟩ := ob_s hv
  refine wrS (as := [o_h, o_a0, o_a1, o_a2, o_a3, o_a8, o_a9, o_a11, o_a12, o_a13, o_a14, o_a15, o_a16]) (wr := [oMo o_h o_a0 o_a1 o_a2 o_a3 o_hasImage o_place o_rowAt o_rowEnd o_a8 o_a9 o_seed o_a11 o_a12 o_a13 o_a14 o_a15 o_a16 o_thrown, ai E o_a2 42 o_image, ai E o_a3 42 o_was, ai E o_a8 3 o_numbers, ai E o_a9 8192 o_most, ai E o_a11 8 o_kept, ai E o_a12 8 o_keptKind, ai E o_a13 8 o_keptFigure, ai E o_a14 8 o_sort, ai E o_a15 8 o_size, ai E o_a16 800 o_element]) [1, 2] [0, 3, 4, 5, 6, 7, 8, 9, 10, 11, 12] (ws := [oMo o_h o_a0 o_a1 o_a2 o_a3 o_hasImage o_place o_rowAt o_rowEnd o_a8 o_a9 o_seed o_a11 o_a12 o_a13 o_a14 o_a15 o_a16 o_thrown, ai E o_a0 42 o_s, ai E o_a1 42 o_m, ai E o_a2 42 o_image, ai E o_a3 42 o_was, ai E o_a8 3 o_numbers, ai E o_a9 8192 o_most, ai E o_a11 8 o_kept, ai E o_a12 8 o_keptKind, ai E o_a13 8 o_keptFigure, ai E o_a14 8 o_sort, ai E o_a15 8 o_size, ai E o_a16 800 o_element]) (ws' := [oMo o_h o_a0 o_a1 o_a2 o_a3 o_hasImage o_place o_rowAt o_rowEnd o_a8 o_a9 o_seed o_a11 o_a12 o_a13 o_a14 o_a15 o_a16 o_thrown, ai E o_a0 42 o_s, ai E o_a1 42 y1, ai E o_a2 42 o_image, ai E o_a3 42 o_was, ai E o_a8 3 o_numbers, ai E o_a9 8192 o_most, ai E o_a11 8 o_kept, ai E o_a12 8 o_keptKind, ai E o_a13 8 o_keptFigure, ai E o_a14 8 o_sort, ai E o_a15 8 o_size, ai E o_a16 800 o_element]) (rest := []) (st1 := []) hC q_X10_copies kw_4_215 (c_X10_copies l E o_a0 o_a1 o_s o_m N y1 h2) ⟨rfl, rfl⟩ ⟨Nat.le_of_ble_eq_true rfl, Nat.le_of_ble_eq_true rfl⟩ ⟨Nat.zero_le _, Nat.zero_le _⟩ hP hD hS hA hG (by decide) rfl rfl rfl rfl rfl rfl rfl rfl hl.1 rfl (Nat.le_of_ble_eq_true rfl) dX10_holdsNow_8 rfl (fun H locs hP hD hS => ?_)
  refine lv_aload_n hx hb dX10_holdsNow_11 rfl (lv_at hl 0 rfl) ?_
  refine lv_iload_n hx hb dX10_holdsNow_12 rfl (lv_at hl 1 rfl) ?_
  obtain ⟨⟨r3, y4⟩, h5, hv⟩ := ob_s hv
  refine wrV (as := [o_h, o_a0, o_a1, o_a2, o_a3, o_a8, o_a9, o_a11, o_a12, o_a13, o_a14, o_a15, o_a16]) (wr := []) [0, 1, 2, 3, 4, 5, 6, 7, 8, 9, 10, 11, 12] [] 4 0 (ws := [oMo o_h o_a0 o_a1 o_a2 o_a3 o_hasImage o_place o_rowAt o_rowEnd o_a8 o_a9 o_seed o_a11 o_a12 o_a13 o_a14 o_a15 o_a16 o_thrown, ai E o_a0 42 o_s, ai E o_a1 42 y1, ai E o_a2 42 o_image, ai E o_a3 42 o_was, ai E o_a8 3 o_numbers, ai E o_a9 8192 o_most, ai E o_a11 8 o_kept, ai E o_a12 8 o_keptKind, ai E o_a13 8 o_keptFigure, ai E o_a14 8 o_sort, ai E o_a15 8 o_size, ai E o_a16 800 o_element]) (ws' := [oMo o_h o_a0 o_a1 o_a2 o_a3 o_hasImage o_place o_rowAt o_rowEnd o_a8 o_a9 o_seed o_a11 o_a12 o_a13 o_a14 o_a15 o_a16 o_thrown, ai E o_a0 42 o_s, ai E o_a1 42 y4, ai E o_a2 42 o_image, ai E o_a3 42 o_was, ai E o_a8 3 o_numbers, ai E o_a9 8192 o_most, ai E o_a11 8 o_kept, ai E o_a12 8 o_keptKind, ai E o_a13 8 o_keptFigure, ai E o_a14 8 o_sort, ai E o_a15 8 o_size, ai E o_a16 800 o_element]) (As := [.int p1]) (rest := []) (st1 := [.int r3]) hC q_X10_holdsIn kw_5_128 (c_X10_holdsIn l E o_h o_a0 o_a1 o_a2 o_a3 o_a8 o_a9 o_a11 o_a12 o_a13 o_a14 o_a15 o_a16 o_s y1 o_image o_was o_hasImage o_place o_rowAt o_rowEnd o_numbers o_most o_seed o_kept o_keptKind o_keptFigure o_sort o_size o_element o_thrown p1 N r3 y4 h5) ⟨rfl, rfl⟩ ⟨Nat.le_of_ble_eq_true rfl, Nat.le_of_ble_eq_true rfl⟩ ⟨Nat.zero_le _, Nat.zero_le _⟩ hP hD hS hA rfl rfl rfl hG (by decide) rfl rfl rfl rfl rfl rfl rfl rfl hl.1 rfl (Nat.le_of_ble_eq_true rfl) dX10_holdsNow_13 rfl (fun H locs hP hD hS => ?_)
  cases hv
  exact W.iret hx hb hr (fun t h9 _ => ⟨rfl, by rw [h9]; exact hP, hS.F h9⟩) hS.2.2 dX10_holdsNow_16 hlk
theorem dX10_holds_0 : decode cX10_holds 0 = .ok (.iload_n 1, 1) := by decide +kernel
theorem dX10_holds_1 : decode cX10_holds 1 = .ok (.invokestatic 170, 3) := by decide +kernel
theorem dX10_holds_4 : decode cX10_holds 4 = .ok (.ifCond .eq 11, 3) := by decide +kernel
theorem dX10_holds_7 : decode cX10_holds 7 = .ok (.aload_n 0, 1) := by decide +kernel
theorem dX10_holds_8 : decode cX10_holds 8 = .ok (.iload_n 1, 1) := by decide +kernel
theorem dX10_holds_9 : decode cX10_holds 9 = .ok (.invokevirtual 180, 3) := by decide +kernel
theorem dX10_holds_12 : decode cX10_holds 12 = .ok (.goto 4, 3) := by decide +kernel
theorem dX10_holds_15 : decode cX10_holds 15 = .ok (.iconst (-1), 1) := by decide +kernel
theorem dX10_holds_16 : decode cX10_holds 16 = .ok (.ireturn, 1) := by decide +kernel
def f_X10_holds (N : Nat) (o_s : Nat → Int32) (o_m : Nat → Int32) (p1 : Int32) : Option (Int32 × (Nat → Int32)) := ob (f_X10_isLate p1) (fun r1 => if r1 = 0 then nm (-1 : Int32) (fun z4 => some (z4, o_m)) else ob (f_X10_holdsNow N o_s o_m p1) (fun (r5, y6) => some (r5, y6)))
set_option maxHeartbeats 4000000 in
set_option maxRecDepth 100000 in
theorem c_X10_holds (l : Launch) (E : EE) (o_h : Nat) (o_a0 : Nat) (o_a1 : Nat) (o_a2 : Nat) (o_a3 : Nat) (o_a8 : Nat) (o_a9 : Nat) (o_a11 : Nat) (o_a12 : Nat) (o_a13 : Nat) (o_a14 : Nat) (o_a15 : Nat) (o_a16 : Nat) (o_s : Nat → Int32) (o_m : Nat → Int32) (o_image : Nat → Int32) (o_was : Nat → Int32) (o_hasImage : Int32) (o_place : Int32) (o_rowAt : Int32) (o_rowEnd : Int32) (o_numbers : Nat → Int32) (o_most : Nat → Int32) (o_seed : Int32) (o_kept : Nat → Int32) (o_keptKind : Nat → Int32) (o_keptFigure : Nat → Int32) (o_sort : Nat → Int32) (o_size : Nat → Int32) (o_element : Nat → Int32) (o_thrown : Int32) (p1 : Int32) (N : Nat) (res : Int32) (w_o_m : Nat → Int32) (hv : f_X10_holds N o_s o_m p1 = some (res, w_o_m)) : Wr l E yX10_holds cX10_holds 2 (some .int) ({ frames := 8, cells := 0, slots := 0, locals := 172 }) [.ref o_h, .int p1] [oMo o_h o_a0 o_a1 o_a2 o_a3 o_hasImage o_place o_rowAt o_rowEnd o_a8 o_a9 o_seed o_a11 o_a12 o_a13 o_a14 o_a15 o_a16 o_thrown, ai E o_a0 42 o_s, ai E o_a1 42 o_m, ai E o_a2 42 o_image, ai E o_a3 42 o_was, ai E o_a8 3 o_numbers, ai E o_a9 8192 o_most, ai E o_a11 8 o_kept, ai E o_a12 8 o_keptKind, ai E o_a13 8 o_keptFigure, ai E o_a14 8 o_sort, ai E o_a15 8 o_size, ai E o_a16 800 o_element] [oMo o_h o_a0 o_a1 o_a2 o_a3 o_hasImage o_place o_rowAt o_rowEnd o_a8 o_a9 o_seed o_a11 o_a12 o_a13 o_a14 o_a15 o_a16 o_thrown, ai E o_a0 42 o_s, ai E o_a1 42 w_o_m, ai E o_a2 42 o_image, ai E o_a3 42 o_was, ai E o_a8 3 o_numbers, ai E o_a9 8192 o_most, ai E o_a11 8 o_kept, ai E o_a12 8 o_keptKind, ai E o_a13 8 o_keptFigure, ai E o_a14 8 o_sort, ai E o_a15 8 o_size, ai E o_a16 800 o_element] (some (.int res)) := by
  refine Wr.intro RX10 (by decide) rfl (Nat.le_of_ble_eq_true rfl) ?_
  intro p e s m below meth c ls A hC hr hlk hmn hP hD hS hA hG hl
  obtain ⟨hx, hb, hml, hown, ht⟩ := id hC
  have hK := hG.1
  have hl : lv_has ls 2 [(0, .ref o_h), (1, .int p1)] := hl
  rw [f_X10_holds] at hv
  refine lv_iload_n hx hb dX10_holds_0 rfl (lv_at hl 1 rfl) ?_
  obtain ⟨r1, h2, hv⟩ := ob_s hv
  refine rdS (rest := []) (st1 := [.int r1]) (w := []) hC q_X10_isLate kw_5_105 (c_X10_isLate l E p1 r1 h2) ⟨rfl, rfl⟩ ⟨Nat.le_of_ble_eq_true rfl, Nat.le_of_ble_eq_true rfl⟩ ⟨Nat.zero_le _, Nat.zero_le _⟩ (hP.sub (ws' := []) [] rfl) hG rfl hl.1 rfl (Nat.le_of_ble_eq_true rfl) dX10_holds_1 rfl ?_
  refine lv_if_eq (tgt := 15) hx hb dX10_holds_4 (by decide) (fun c3 => ?_) (fun c3 => ?_)
  · have hv := if_y c3 hv
    refine lv_iconst (v := (-1 : Int32)) hx hb dX10_holds_15 (by decide) ?_
    refine lv_topi (fun z4 ez4 => ?_)
    have hv := nm_s ez4 hv
    cases hv
    exact W.iret hx hb hr (fun t h9 _ => ⟨rfl, by rw [h9]; exact hP, hS.F h9⟩) hS.2.2 dX10_holds_16 hlk
  · have hv := if_n c3 hv
    refine lv_aload_n hx hb dX10_holds_7 rfl (lv_at hl 0 rfl) ?_
    refine lv_iload_n hx hb dX10_holds_8 rfl (lv_at hl 1 rfl) ?_
    obtain ⟨⟨r5, y6⟩, h7, hv⟩ := ob_s hv
    refine wrV (as := [o_h, o_a0, o_a1, o_a2, o_a3, o_a8, o_a9, o_a11, o_a12, o_a13, o_a14, o_a15, o_a16]) (wr := []) [0, 1, 2, 3, 4, 5, 6, 7, 8, 9, 10, 11, 12] [] 4 0 (ws := [oMo o_h o_a0 o_a1 o_a2 o_a3 o_hasImage o_place o_rowAt o_rowEnd o_a8 o_a9 o_seed o_a11 o_a12 o_a13 o_a14 o_a15 o_a16 o_thrown, ai E o_a0 42 o_s, ai E o_a1 42 o_m, ai E o_a2 42 o_image, ai E o_a3 42 o_was, ai E o_a8 3 o_numbers, ai E o_a9 8192 o_most, ai E o_a11 8 o_kept, ai E o_a12 8 o_keptKind, ai E o_a13 8 o_keptFigure, ai E o_a14 8 o_sort, ai E o_a15 8 o_size, ai E o_a16 800 o_element]) (ws' := [oMo o_h o_a0 o_a1 o_a2 o_a3 o_hasImage o_place o_rowAt o_rowEnd o_a8 o_a9 o_seed o_a11 o_a12 o_a13 o_a14 o_a15 o_a16 o_thrown, ai E o_a0 42 o_s, ai E o_a1 42 y6, ai E o_a2 42 o_image, ai E o_a3 42 o_was, ai E o_a8 3 o_numbers, ai E o_a9 8192 o_most, ai E o_a11 8 o_kept, ai E o_a12 8 o_keptKind, ai E o_a13 8 o_keptFigure, ai E o_a14 8 o_sort, ai E o_a15 8 o_size, ai E o_a16 800 o_element]) (As := [.int p1]) (rest := []) (st1 := [.int r5]) hC q_X10_holdsNow kw_5_124 (c_X10_holdsNow l E o_h o_a0 o_a1 o_a2 o_a3 o_a8 o_a9 o_a11 o_a12 o_a13 o_a14 o_a15 o_a16 o_s o_m o_image o_was o_hasImage o_place o_rowAt o_rowEnd o_numbers o_most o_seed o_kept o_keptKind o_keptFigure o_sort o_size o_element o_thrown p1 N r5 y6 h7) ⟨rfl, rfl⟩ ⟨Nat.le_of_ble_eq_true rfl, Nat.le_of_ble_eq_true rfl⟩ ⟨Nat.zero_le _, Nat.zero_le _⟩ hP hD hS hA rfl rfl rfl hG (by decide) rfl rfl rfl rfl rfl rfl rfl rfl hl.1 rfl (Nat.le_of_ble_eq_true rfl) dX10_holds_9 rfl (fun H locs hP hD hS => ?_)
    refine lv_goto (tgt := 16) hx hb dX10_holds_12 (by decide) ?_
    cases hv
    exact W.iret hx hb hr (fun t h9 _ => ⟨rfl, by rw [h9]; exact hP, hS.F h9⟩) hS.2.2 dX10_holds_16 hlk
theorem dX10_couldBy_0 : decode cX10_couldBy 0 = .ok (.iload_n 1, 1) := by decide +kernel
theorem dX10_couldBy_1 : decode cX10_couldBy 1 = .ok (.aload_n 0, 1) := by decide +kernel
theorem dX10_couldBy_2 : decode cX10_couldBy 2 = .ok (.getfield 9, 3) := by decide +kernel
theorem dX10_couldBy_5 : decode cX10_couldBy 5 = .ok (.invokestatic 92, 3) := by decide +kernel
theorem dX10_couldBy_8 : decode cX10_couldBy 8 = .ok (.iand, 1) := by decide +kernel
theorem dX10_couldBy_9 : decode cX10_couldBy 9 = .ok (.istore_n 3, 1) := by decide +kernel
theorem dX10_couldBy_10 : decode cX10_couldBy 10 = .ok (.aload_n 0, 1) := by decide +kernel
theorem dX10_couldBy_11 : decode cX10_couldBy 11 = .ok (.getfield 9, 3) := by decide +kernel
theorem dX10_couldBy_14 : decode cX10_couldBy 14 = .ok (.iload_n 3, 1) := by decide +kernel
theorem dX10_couldBy_15 : decode cX10_couldBy 15 = .ok (.iconst 0, 1) := by decide +kernel
theorem dX10_couldBy_16 : decode cX10_couldBy 16 = .ok (.invokestatic 82, 3) := by decide +kernel
theorem dX10_couldBy_19 : decode cX10_couldBy 19 = .ok (.ifCond .eq 31, 3) := by decide +kernel
theorem dX10_couldBy_22 : decode cX10_couldBy 22 = .ok (.aload_n 0, 1) := by decide +kernel
theorem dX10_couldBy_23 : decode cX10_couldBy 23 = .ok (.getfield 9, 3) := by decide +kernel
theorem dX10_couldBy_26 : decode cX10_couldBy 26 = .ok (.iload_n 3, 1) := by decide +kernel
theorem dX10_couldBy_27 : decode cX10_couldBy 27 = .ok (.iconst 1, 1) := by decide +kernel
theorem dX10_couldBy_28 : decode cX10_couldBy 28 = .ok (.invokestatic 82, 3) := by decide +kernel
theorem dX10_couldBy_31 : decode cX10_couldBy 31 = .ok (.ifCond .eq 19, 3) := by decide +kernel
theorem dX10_couldBy_34 : decode cX10_couldBy 34 = .ok (.aload_n 0, 1) := by decide +kernel
theorem dX10_couldBy_35 : decode cX10_couldBy 35 = .ok (.getfield 9, 3) := by decide +kernel
theorem dX10_couldBy_38 : decode cX10_couldBy 38 = .ok (.iload_n 3, 1) := by decide +kernel
theorem dX10_couldBy_39 : decode cX10_couldBy 39 = .ok (.invokestatic 86, 3) := by decide +kernel
theorem dX10_couldBy_42 : decode cX10_couldBy 42 = .ok (.iload_n 2, 1) := by decide +kernel
theorem dX10_couldBy_43 : decode cX10_couldBy 43 = .ok (.if_icmp .lt 7, 3) := by decide +kernel
theorem dX10_couldBy_46 : decode cX10_couldBy 46 = .ok (.iconst 1, 1) := by decide +kernel
theorem dX10_couldBy_47 : decode cX10_couldBy 47 = .ok (.goto 4, 3) := by decide +kernel
theorem dX10_couldBy_50 : decode cX10_couldBy 50 = .ok (.iconst 0, 1) := by decide +kernel
theorem dX10_couldBy_51 : decode cX10_couldBy 51 = .ok (.ireturn, 1) := by decide +kernel
def f_X10_couldBy (N : Nat) (o_s : Nat → Int32) (p1 : Int32) (p2 : Int32) : Option (Int32) := ob (f_X10_heardIn N o_s) (fun r1 => ob (f_X10_isOnSide N o_s (p1 &&& r1) (0 : Int32)) (fun r3 => if r3 = 0 then some (0 : Int32) else ob (f_X10_isOnSide N o_s (p1 &&& r1) (1 : Int32)) (fun r6 => if r6 = 0 then some (0 : Int32) else ob (f_X10_weightOf N o_s (p1 &&& r1)) (fun r9 => if r9 < p2 then some (0 : Int32) else some (1 : Int32)))))
set_option maxHeartbeats 4000000 in
set_option maxRecDepth 100000 in
theorem c_X10_couldBy (l : Launch) (E : EE) (o_h : Nat) (o_a0 : Nat) (o_a1 : Nat) (o_a2 : Nat) (o_a3 : Nat) (o_a8 : Nat) (o_a9 : Nat) (o_a11 : Nat) (o_a12 : Nat) (o_a13 : Nat) (o_a14 : Nat) (o_a15 : Nat) (o_a16 : Nat) (o_s : Nat → Int32) (o_m : Nat → Int32) (o_image : Nat → Int32) (o_was : Nat → Int32) (o_hasImage : Int32) (o_place : Int32) (o_rowAt : Int32) (o_rowEnd : Int32) (o_numbers : Nat → Int32) (o_most : Nat → Int32) (o_seed : Int32) (o_kept : Nat → Int32) (o_keptKind : Nat → Int32) (o_keptFigure : Nat → Int32) (o_sort : Nat → Int32) (o_size : Nat → Int32) (o_element : Nat → Int32) (o_thrown : Int32) (p1 : Int32) (p2 : Int32) (N : Nat) (res : Int32) (hv : f_X10_couldBy N o_s p1 p2 = some res) : Rd l E yX10_couldBy cX10_couldBy 4 (some .boolean) ({ frames := 4, cells := 0, slots := 0, locals := 86 }) [.ref o_h, .int p1, .int p2] [oMo o_h o_a0 o_a1 o_a2 o_a3 o_hasImage o_place o_rowAt o_rowEnd o_a8 o_a9 o_seed o_a11 o_a12 o_a13 o_a14 o_a15 o_a16 o_thrown, ai E o_a0 42 o_s, ai E o_a1 42 o_m, ai E o_a2 42 o_image, ai E o_a3 42 o_was, ai E o_a8 3 o_numbers, ai E o_a9 8192 o_most, ai E o_a11 8 o_kept, ai E o_a12 8 o_keptKind, ai E o_a13 8 o_keptFigure, ai E o_a14 8 o_sort, ai E o_a15 8 o_size, ai E o_a16 800 o_element] (some (.int res)) := by
  refine Rd.intro RX10 (by decide) rfl (Nat.le_of_ble_eq_true rfl) ?_
  intro p e s m below meth c ls hC hr hlk hP hG hl
  obtain ⟨hx, hb, hml, hown, ht⟩ := id hC
  have hK := hG.1
  have hl : lv_has ls 4 [(0, .ref o_h), (1, .int p1), (2, .int p2)] := hl
  rw [f_X10_couldBy] at hv
  refine lv_iload_n hx hb dX10_couldBy_0 rfl (lv_at hl 1 rfl) ?_
  refine lv_aload_n hx hb dX10_couldBy_1 rfl (lv_at hl 0 rfl) ?_
  refine va_get (D := E.1) (ci := 4) (v := .ref o_a0) (C := RX10) (T := TX10) (N := 18) hx hb ht i_X10 hown hK hP 0 rfl rfl 0 (by decide) (ht _ kw_4_134) (fun _ h9 => h9) rfl dX10_couldBy_2 ?_
  obtain ⟨r1, h2, hv⟩ := ob_s hv
  refine rdS (rest := [.int p1]) (st1 := [.int r1, .int p1]) (w := [ai E o_a0 42 o_s]) hC q_X10_heardIn kw_5_73 (c_X10_heardIn l E o_a0 o_s N r1 h2) ⟨rfl, rfl⟩ ⟨Nat.le_of_ble_eq_true rfl, Nat.le_of_ble_eq_true rfl⟩ ⟨Nat.zero_le _, Nat.zero_le _⟩ (hP.sub (ws' := [ai E o_a0 42 o_s]) [1] rfl) hG rfl hl.1 rfl (Nat.le_of_ble_eq_true rfl) dX10_couldBy_5 rfl ?_
  refine lv_iand hx hb dX10_couldBy_8 ?_
  refine lv_istore_n (lv' := [(3, .int (p1 &&& r1)), (0, .ref o_h), (1, .int p1), (2, .int p2)]) hx hb dX10_couldBy_9 rfl hl (by decide) rfl (fun ls hl => ?_)
  refine lv_aload_n hx hb dX10_couldBy_10 rfl (lv_at hl 1 rfl) ?_
  refine va_get (D := E.1) (ci := 4) (v := .ref o_a0) (C := RX10) (T := TX10) (N := 18) hx hb ht i_X10 hown hK hP 0 rfl rfl 0 (by decide) (ht _ kw_4_134) (fun _ h9 => h9) rfl dX10_couldBy_11 ?_
  refine lv_iload_n hx hb dX10_couldBy_14 rfl (lv_at hl 0 rfl) ?_
  refine lv_iconst (v := (0 : Int32)) hx hb dX10_couldBy_15 (by decide) ?_
  obtain ⟨r3, h4, hv⟩ := ob_s hv
  refine rdS (rest := []) (st1 := [.int r3]) (w := [ai E o_a0 42 o_s]) hC q_X10_isOnSide kw_5_82 (c_X10_isOnSide l E o_a0 o_s (p1 &&& r1) (0 : Int32) N r3 h4) ⟨rfl, rfl⟩ ⟨Nat.le_of_ble_eq_true rfl, Nat.le_of_ble_eq_true rfl⟩ ⟨Nat.zero_le _, Nat.zero_le _⟩ (hP.sub (ws' := [ai E o_a0 42 o_s]) [1] rfl) hG rfl hl.1 rfl (Nat.le_of_ble_eq_true rfl) dX10_couldBy_16 rfl ?_
  refine lv_if_eq (tgt := 50) hx hb dX10_couldBy_19 (by decide) (fun c5 => ?_) (fun c5 => ?_)
  · have hv := if_y c5 hv
    refine lv_iconst (v := (0 : Int32)) hx hb dX10_couldBy_50 (by decide) ?_
    exact W.zret (v := (0 : Int32)) hx hb hr rfl (fun t h9 _ => ⟨rv_i hv, h9⟩) (fun q h => absurd h List.not_mem_nil) dX10_couldBy_51 hlk
  · have hv := if_n c5 hv
    refine lv_aload_n hx hb dX10_couldBy_22 rfl (lv_at hl 1 rfl) ?_
    refine va_get (D := E.1) (ci := 4) (v := .ref o_a0) (C := RX10) (T := TX10) (N := 18) hx hb ht i_X10 hown hK hP 0 rfl rfl 0 (by decide) (ht _ kw_4_134) (fun _ h9 => h9) rfl dX10_couldBy_23 ?_
    refine lv_iload_n hx hb dX10_couldBy_26 rfl (lv_at hl 0 rfl) ?_
    refine lv_iconst (v := (1 : Int32)) hx hb dX10_couldBy_27 (by decide) ?_
    obtain ⟨r6, h7, hv⟩ := ob_s hv
    refine rdS (rest := []) (st1 := [.int r6]) (w := [ai E o_a0 42 o_s]) hC q_X10_isOnSide kw_5_82 (c_X10_isOnSide l E o_a0 o_s (p1 &&& r1) (1 : Int32) N r6 h7) ⟨rfl, rfl⟩ ⟨Nat.le_of_ble_eq_true rfl, Nat.le_of_ble_eq_true rfl⟩ ⟨Nat.zero_le _, Nat.zero_le _⟩ (hP.sub (ws' := [ai E o_a0 42 o_s]) [1] rfl) hG rfl hl.1 rfl (Nat.le_of_ble_eq_true rfl) dX10_couldBy_28 rfl ?_
    refine lv_if_eq (tgt := 50) hx hb dX10_couldBy_31 (by decide) (fun c8 => ?_) (fun c8 => ?_)
    · have hv := if_y c8 hv
      refine lv_iconst (v := (0 : Int32)) hx hb dX10_couldBy_50 (by decide) ?_
      exact W.zret (v := (0 : Int32)) hx hb hr rfl (fun t h9 _ => ⟨rv_i hv, h9⟩) (fun q h => absurd h List.not_mem_nil) dX10_couldBy_51 hlk
    · have hv := if_n c8 hv
      refine lv_aload_n hx hb dX10_couldBy_34 rfl (lv_at hl 1 rfl) ?_
      refine va_get (D := E.1) (ci := 4) (v := .ref o_a0) (C := RX10) (T := TX10) (N := 18) hx hb ht i_X10 hown hK hP 0 rfl rfl 0 (by decide) (ht _ kw_4_134) (fun _ h9 => h9) rfl dX10_couldBy_35 ?_
      refine lv_iload_n hx hb dX10_couldBy_38 rfl (lv_at hl 0 rfl) ?_
      obtain ⟨r9, h10, hv⟩ := ob_s hv
      refine rdS (rest := []) (st1 := [.int r9]) (w := [ai E o_a0 42 o_s]) hC q_X10_weightOf kw_5_85 (c_X10_weightOf l E o_a0 o_s (p1 &&& r1) N r9 h10) ⟨rfl, rfl⟩ ⟨Nat.le_of_ble_eq_true rfl, Nat.le_of_ble_eq_true rfl⟩ ⟨Nat.zero_le _, Nat.zero_le _⟩ (hP.sub (ws' := [ai E o_a0 42 o_s]) [1] rfl) hG rfl hl.1 rfl (Nat.le_of_ble_eq_true rfl) dX10_couldBy_39 rfl ?_
      refine lv_iload_n hx hb dX10_couldBy_42 rfl (lv_at hl 3 rfl) ?_
      refine lv_icmp_lt (tgt := 50) hx hb dX10_couldBy_43 (by decide) (fun c11 => ?_) (fun c11 => ?_)
      · have hv := if_y c11 hv
        refine lv_iconst (v := (0 : Int32)) hx hb dX10_couldBy_50 (by decide) ?_
        exact W.zret (v := (0 : Int32)) hx hb hr rfl (fun t h9 _ => ⟨rv_i hv, h9⟩) (fun q h => absurd h List.not_mem_nil) dX10_couldBy_51 hlk
      · have hv := if_n c11 hv
        refine lv_iconst (v := (1 : Int32)) hx hb dX10_couldBy_46 (by decide) ?_
        refine lv_goto (tgt := 51) hx hb dX10_couldBy_47 (by decide) ?_
        exact W.zret (v := (1 : Int32)) hx hb hr rfl (fun t h9 _ => ⟨rv_i hv, h9⟩) (fun q h => absurd h List.not_mem_nil) dX10_couldBy_51 hlk
theorem dX10_isGroup_0 : decode cX10_isGroup 0 = .ok (.iload_n 1, 1) := by decide +kernel
theorem dX10_isGroup_1 : decode cX10_isGroup 1 = .ok (.iconst 0, 1) := by decide +kernel
theorem dX10_isGroup_2 : decode cX10_isGroup 2 = .ok (.iconst 1, 1) := by decide +kernel
theorem dX10_isGroup_3 : decode cX10_isGroup 3 = .ok (.aload_n 0, 1) := by decide +kernel
theorem dX10_isGroup_4 : decode cX10_isGroup 4 = .ok (.getfield 9, 3) := by decide +kernel
theorem dX10_isGroup_7 : decode cX10_isGroup 7 = .ok (.iconst 0, 1) := by decide +kernel
theorem dX10_isGroup_8 : decode cX10_isGroup 8 = .ok (.iaload, 1) := by decide +kernel
theorem dX10_isGroup_9 : decode cX10_isGroup 9 = .ok (.ishl, 1) := by decide +kernel
theorem dX10_isGroup_10 : decode cX10_isGroup 10 = .ok (.iconst 1, 1) := by decide +kernel
theorem dX10_isGroup_11 : decode cX10_isGroup 11 = .ok (.isub, 1) := by decide +kernel
theorem dX10_isGroup_12 : decode cX10_isGroup 12 = .ok (.invokestatic 46, 3) := by decide +kernel
theorem dX10_isGroup_15 : decode cX10_isGroup 15 = .ok (.ireturn, 1) := by decide +kernel
def f_X10_isGroup (o_s : Nat → Int32) (p1 : Int32) : Option (Int32) := ob (f_X10_isIn p1 (0 : Int32) (((1 : Int32) <<< ((o_s 0) &&& 31)) - (1 : Int32))) (fun r1 => gd (bz r1) (some r1))
set_option maxHeartbeats 4000000 in
set_option maxRecDepth 100000 in
theorem c_X10_isGroup (l : Launch) (E : EE) (o_h : Nat) (o_a0 : Nat) (o_a1 : Nat) (o_a2 : Nat) (o_a3 : Nat) (o_a8 : Nat) (o_a9 : Nat) (o_a11 : Nat) (o_a12 : Nat) (o_a13 : Nat) (o_a14 : Nat) (o_a15 : Nat) (o_a16 : Nat) (o_s : Nat → Int32) (o_m : Nat → Int32) (o_image : Nat → Int32) (o_was : Nat → Int32) (o_hasImage : Int32) (o_place : Int32) (o_rowAt : Int32) (o_rowEnd : Int32) (o_numbers : Nat → Int32) (o_most : Nat → Int32) (o_seed : Int32) (o_kept : Nat → Int32) (o_keptKind : Nat → Int32) (o_keptFigure : Nat → Int32) (o_sort : Nat → Int32) (o_size : Nat → Int32) (o_element : Nat → Int32) (o_thrown : Int32) (p1 : Int32) (res : Int32) (hv : f_X10_isGroup o_s p1 = some res) : Rd l E yX10_isGroup cX10_isGroup 2 (some .boolean) ({ frames := 1, cells := 0, slots := 0, locals := 22 }) [.ref o_h, .int p1] [oMo o_h o_a0 o_a1 o_a2 o_a3 o_hasImage o_place o_rowAt o_rowEnd o_a8 o_a9 o_seed o_a11 o_a12 o_a13 o_a14 o_a15 o_a16 o_thrown, ai E o_a0 42 o_s, ai E o_a1 42 o_m, ai E o_a2 42 o_image, ai E o_a3 42 o_was, ai E o_a8 3 o_numbers, ai E o_a9 8192 o_most, ai E o_a11 8 o_kept, ai E o_a12 8 o_keptKind, ai E o_a13 8 o_keptFigure, ai E o_a14 8 o_sort, ai E o_a15 8 o_size, ai E o_a16 800 o_element] (some (.int res)) := by
  refine Rd.intro RX10 (by decide) rfl (Nat.le_of_ble_eq_true rfl) ?_
  intro p e s m below meth c ls hC hr hlk hP hG hl
  obtain ⟨hx, hb, hml, hown, ht⟩ := id hC
  have hK := hG.1
  have hl : lv_has ls 2 [(0, .ref o_h), (1, .int p1)] := hl
  rw [f_X10_isGroup] at hv
  refine lv_iload_n hx hb dX10_isGroup_0 rfl (lv_at hl 1 rfl) ?_
  refine lv_iconst (v := (0 : Int32)) hx hb dX10_isGroup_1 (by decide) ?_
  refine lv_iconst (v := (1 : Int32)) hx hb dX10_isGroup_2 (by decide) ?_
  refine lv_aload_n hx hb dX10_isGroup_3 rfl (lv_at hl 0 rfl) ?_
  refine va_get (D := E.1) (ci := 4) (v := .ref o_a0) (C := RX10) (T := TX10) (N := 18) hx hb ht i_X10 hown hK hP 0 rfl rfl 0 (by decide) (ht _ kw_4_134) (fun _ h9 => h9) rfl dX10_isGroup_4 ?_
  refine lv_iconst (v := (0 : Int32)) hx hb dX10_isGroup_7 (by decide) ?_
  refine va_iald hx hb hK hP 1 0 rfl rfl (ix_s (by decide)) dX10_isGroup_8 ?_
  refine W.eq (g2 := F0 m 9 ls [.int (o_s 0), .int (1 : Int32), .int (0 : Int32), .int p1]) rfl ?_
  refine lv_ishl hx hb dX10_isGroup_9 ?_
  refine lv_iconst (v := (1 : Int32)) hx hb dX10_isGroup_10 (by decide) ?_
  refine lv_isub hx hb dX10_isGroup_11 ?_
  obtain ⟨r1, h2, hv⟩ := ob_s hv
  refine rdS (rest := []) (st1 := [.int r1]) (w := []) hC q_X10_isIn kw_4_200 (c_X10_isIn l E p1 (0 : Int32) (((1 : Int32) <<< ((o_s 0) &&& 31)) - (1 : Int32)) r1 h2) ⟨rfl, rfl⟩ ⟨Nat.le_of_ble_eq_true rfl, Nat.le_of_ble_eq_true rfl⟩ ⟨Nat.zero_le _, Nat.zero_le _⟩ (hP.sub (ws' := []) [] rfl) hG rfl hl.1 rfl (Nat.le_of_ble_eq_true rfl) dX10_isGroup_12 rfl ?_
  obtain ⟨g3, hv⟩ := gd_s hv
  exact W.zret (v := r1) hx hb hr (bz_s g3) (fun t h9 _ => ⟨rv_i hv, h9⟩) (fun q h => absurd h List.not_mem_nil) dX10_isGroup_15 hlk
theorem dX10_could_0 : decode cX10_could 0 = .ok (.aload_n 0, 1) := by decide +kernel
theorem dX10_could_1 : decode cX10_could 1 = .ok (.iload_n 1, 1) := by decide +kernel
theorem dX10_could_2 : decode cX10_could 2 = .ok (.invokevirtual 183, 3) := by decide +kernel
theorem dX10_could_5 : decode cX10_could 5 = .ok (.ifCond .ne 7, 3) := by decide +kernel
theorem dX10_could_8 : decode cX10_could 8 = .ok (.iconst (-1), 1) := by decide +kernel
theorem dX10_could_9 : decode cX10_could 9 = .ok (.goto 22, 3) := by decide +kernel
theorem dX10_could_12 : decode cX10_could 12 = .ok (.aload_n 0, 1) := by decide +kernel
theorem dX10_could_13 : decode cX10_could 13 = .ok (.iload_n 1, 1) := by decide +kernel
theorem dX10_could_14 : decode cX10_could 14 = .ok (.aload_n 0, 1) := by decide +kernel
theorem dX10_could_15 : decode cX10_could 15 = .ok (.getfield 9, 3) := by decide +kernel
theorem dX10_could_18 : decode cX10_could 18 = .ok (.iconst 2, 1) := by decide +kernel
theorem dX10_could_19 : decode cX10_could 19 = .ok (.iaload, 1) := by decide +kernel
theorem dX10_could_20 : decode cX10_could 20 = .ok (.invokevirtual 186, 3) := by decide +kernel
theorem dX10_could_23 : decode cX10_could 23 = .ok (.ifCond .eq 7, 3) := by decide +kernel
theorem dX10_could_26 : decode cX10_could 26 = .ok (.iconst 1, 1) := by decide +kernel
theorem dX10_could_27 : decode cX10_could 27 = .ok (.goto 4, 3) := by decide +kernel
theorem dX10_could_30 : decode cX10_could 30 = .ok (.iconst 0, 1) := by decide +kernel
theorem dX10_could_31 : decode cX10_could 31 = .ok (.ireturn, 1) := by decide +kernel
def f_X10_could (N : Nat) (o_s : Nat → Int32) (p1 : Int32) : Option (Int32) := ob (f_X10_isGroup o_s p1) (fun r1 => if r1 = 0 then some (-1 : Int32) else ob (f_X10_couldBy N o_s p1 (o_s 2)) (fun r4 => if r4 = 0 then some (0 : Int32) else some (1 : Int32)))
set_option maxHeartbeats 4000000 in
set_option maxRecDepth 100000 in
theorem c_X10_could (l : Launch) (E : EE) (o_h : Nat) (o_a0 : Nat) (o_a1 : Nat) (o_a2 : Nat) (o_a3 : Nat) (o_a8 : Nat) (o_a9 : Nat) (o_a11 : Nat) (o_a12 : Nat) (o_a13 : Nat) (o_a14 : Nat) (o_a15 : Nat) (o_a16 : Nat) (o_s : Nat → Int32) (o_m : Nat → Int32) (o_image : Nat → Int32) (o_was : Nat → Int32) (o_hasImage : Int32) (o_place : Int32) (o_rowAt : Int32) (o_rowEnd : Int32) (o_numbers : Nat → Int32) (o_most : Nat → Int32) (o_seed : Int32) (o_kept : Nat → Int32) (o_keptKind : Nat → Int32) (o_keptFigure : Nat → Int32) (o_sort : Nat → Int32) (o_size : Nat → Int32) (o_element : Nat → Int32) (o_thrown : Int32) (p1 : Int32) (N : Nat) (res : Int32) (hv : f_X10_could N o_s p1 = some res) : Rd l E yX10_could cX10_could 2 (some .int) ({ frames := 5, cells := 0, slots := 0, locals := 109 }) [.ref o_h, .int p1] [oMo o_h o_a0 o_a1 o_a2 o_a3 o_hasImage o_place o_rowAt o_rowEnd o_a8 o_a9 o_seed o_a11 o_a12 o_a13 o_a14 o_a15 o_a16 o_thrown, ai E o_a0 42 o_s, ai E o_a1 42 o_m, ai E o_a2 42 o_image, ai E o_a3 42 o_was, ai E o_a8 3 o_numbers, ai E o_a9 8192 o_most, ai E o_a11 8 o_kept, ai E o_a12 8 o_keptKind, ai E o_a13 8 o_keptFigure, ai E o_a14 8 o_sort, ai E o_a15 8 o_size, ai E o_a16 800 o_element] (some (.int res)) := by
  refine Rd.intro RX10 (by decide) rfl (Nat.le_of_ble_eq_true rfl) ?_
  intro p e s m below meth c ls hC hr hlk hP hG hl
  obtain ⟨hx, hb, hml, hown, ht⟩ := id hC
  have hK := hG.1
  have hl : lv_has ls 2 [(0, .ref o_h), (1, .int p1)] := hl
  rw [f_X10_could] at hv
  refine lv_aload_n hx hb dX10_could_0 rfl (lv_at hl 0 rfl) ?_
  refine lv_iload_n hx hb dX10_could_1 rfl (lv_at hl 1 rfl) ?_
  obtain ⟨r1, h2, hv⟩ := ob_s hv
  refine rdV 4 0 (As := [.int p1]) (rest := []) (st1 := [.int r1]) (w := [oMo o_h o_a0 o_a1 o_a2 o_a3 o_hasImage o_place o_rowAt o_rowEnd o_a8 o_a9 o_seed o_a11 o_a12 o_a13 o_a14 o_a15 o_a16 o_thrown, ai E o_a0 42 o_s, ai E o_a1 42 o_m, ai E o_a2 42 o_image, ai E o_a3 42 o_was, ai E o_a8 3 o_numbers, ai E o_a9 8192 o_most, ai E o_a11 8 o_kept, ai E o_a12 8 o_keptKind, ai E o_a13 8 o_keptFigure, ai E o_a14 8 o_sort, ai E o_a15 8 o_size, ai E o_a16 800 o_element]) hC q_X10_isGroup kw_5_136 (c_X10_isGroup l E o_h o_a0 o_a1 o_a2 o_a3 o_a8 o_a9 o_a11 o_a12 o_a13 o_a14 o_a15 o_a16 o_s o_m o_image o_was o_hasImage o_place o_rowAt o_rowEnd o_numbers o_most o_seed o_kept o_keptKind o_keptFigure o_sort o_size o_element o_thrown p1 r1 h2) ⟨rfl, rfl⟩ ⟨Nat.le_of_ble_eq_true rfl, Nat.le_of_ble_eq_true rfl⟩ ⟨Nat.zero_le _, Nat.zero_le _⟩ hP rfl rfl rfl hG rfl hl.1 rfl (Nat.le_of_ble_eq_true rfl) dX10_could_2 rfl ?_
  refine lv_if_ne (tgt := 12) hx hb dX10_could_5 (by decide) (fun c3 => ?_) (fun c3 => ?_)
  · have hv := if_n c3 hv
    refine lv_aload_n hx hb dX10_could_12 rfl (lv_at hl 0 rfl) ?_
    refine lv_iload_n hx hb dX10_could_13 rfl (lv_at hl 1 rfl) ?_
    refine lv_aload_n hx hb dX10_could_14 rfl (lv_at hl 0 rfl) ?_
    refine va_get (D := E.1) (ci := 4) (v := .ref o_a0) (C := RX10) (T := TX10) (N := 18) hx hb ht i_X10 hown hK hP 0 rfl rfl 0 (by decide) (ht _ kw_4_134) (fun _ h9 => h9) rfl dX10_could_15 ?_
    refine lv_iconst (v := (2 : Int32)) hx hb dX10_could_18 (by decide) ?_
    refine va_iald hx hb hK hP 1 0 rfl rfl (ix_s (by decide)) dX10_could_19 ?_
    refine W.eq (g2 := F0 m 20 ls [.int (o_s 2), .int p1, .ref o_h]) rfl ?_
    obtain ⟨r4, h5, hv⟩ := ob_s hv
    refine rdV 4 0 (As := [.int p1, .int (o_s 2)]) (rest := []) (st1 := [.int r4]) (w := [oMo o_h o_a0 o_a1 o_a2 o_a3 o_hasImage o_place o_rowAt o_rowEnd o_a8 o_a9 o_seed o_a11 o_a12 o_a13 o_a14 o_a15 o_a16 o_thrown, ai E o_a0 42 o_s, ai E o_a1 42 o_m, ai E o_a2 42 o_image, ai E o_a3 42 o_was, ai E o_a8 3 o_numbers, ai E o_a9 8192 o_most, ai E o_a11 8 o_kept, ai E o_a12 8 o_keptKind, ai E o_a13 8 o_keptFigure, ai E o_a14 8 o_sort, ai E o_a15 8 o_size, ai E o_a16 800 o_element]) hC q_X10_couldBy kw_5_140 (c_X10_couldBy l E o_h o_a0 o_a1 o_a2 o_a3 o_a8 o_a9 o_a11 o_a12 o_a13 o_a14 o_a15 o_a16 o_s o_m o_image o_was o_hasImage o_place o_rowAt o_rowEnd o_numbers o_most o_seed o_kept o_keptKind o_keptFigure o_sort o_size o_element o_thrown p1 (o_s 2) N r4 h5) ⟨rfl, rfl⟩ ⟨Nat.le_of_ble_eq_true rfl, Nat.le_of_ble_eq_true rfl⟩ ⟨Nat.zero_le _, Nat.zero_le _⟩ hP rfl rfl rfl hG rfl hl.1 rfl (Nat.le_of_ble_eq_true rfl) dX10_could_20 rfl ?_
    refine lv_if_eq (tgt := 30) hx hb dX10_could_23 (by decide) (fun c6 => ?_) (fun c6 => ?_)
    · have hv := if_y c6 hv
      refine lv_iconst (v := (0 : Int32)) hx hb dX10_could_30 (by decide) ?_
      exact W.iret (v := (0 : Int32)) hx hb hr (fun t h9 _ => ⟨rv_i hv, h9⟩) (fun q h => absurd h List.not_mem_nil) dX10_could_31 hlk
    · have hv := if_n c6 hv
      refine lv_iconst (v := (1 : Int32)) hx hb dX10_could_26 (by decide) ?_
      refine lv_goto (tgt := 31) hx hb dX10_could_27 (by decide) ?_
      exact W.iret (v := (1 : Int32)) hx hb hr (fun t h9 _ => ⟨rv_i hv, h9⟩) (fun q h => absurd h List.not_mem_nil) dX10_could_31 hlk
  · have hv := if_y c3 hv
    refine lv_iconst (v := (-1 : Int32)) hx hb dX10_could_8 (by decide) ?_
    refine lv_goto (tgt := 31) hx hb dX10_could_9 (by decide) ?_
    exact W.iret (v := (-1 : Int32)) hx hb hr (fun t h9 _ => ⟨rv_i hv, h9⟩) (fun q h => absurd h List.not_mem_nil) dX10_could_31 hlk
theorem dX10_doesSwing_0 : decode cX10_doesSwing 0 = .ok (.iload_n 1, 1) := by decide +kernel
theorem dX10_doesSwing_1 : decode cX10_doesSwing 1 = .ok (.iload_n 2, 1) := by decide +kernel
theorem dX10_doesSwing_2 : decode cX10_doesSwing 2 = .ok (.invokestatic 62, 3) := by decide +kernel
theorem dX10_doesSwing_5 : decode cX10_doesSwing 5 = .ok (.ifCond .eq 41, 3) := by decide +kernel
theorem dX10_doesSwing_8 : decode cX10_doesSwing 8 = .ok (.aload_n 0, 1) := by decide +kernel
theorem dX10_doesSwing_9 : decode cX10_doesSwing 9 = .ok (.iload_n 1, 1) := by decide +kernel
theorem dX10_doesSwing_10 : decode cX10_doesSwing 10 = .ok (.aload_n 0, 1) := by decide +kernel
theorem dX10_doesSwing_11 : decode cX10_doesSwing 11 = .ok (.getfield 9, 3) := by decide +kernel
theorem dX10_doesSwing_14 : decode cX10_doesSwing 14 = .ok (.iconst 2, 1) := by decide +kernel
theorem dX10_doesSwing_15 : decode cX10_doesSwing 15 = .ok (.iaload, 1) := by decide +kernel
theorem dX10_doesSwing_16 : decode cX10_doesSwing 16 = .ok (.invokevirtual 186, 3) := by decide +kernel
theorem dX10_doesSwing_19 : decode cX10_doesSwing 19 = .ok (.ifCond .eq 27, 3) := by decide +kernel
theorem dX10_doesSwing_22 : decode cX10_doesSwing 22 = .ok (.aload_n 0, 1) := by decide +kernel
theorem dX10_doesSwing_23 : decode cX10_doesSwing 23 = .ok (.iload_n 1, 1) := by decide +kernel
theorem dX10_doesSwing_24 : decode cX10_doesSwing 24 = .ok (.iconst 1, 1) := by decide +kernel
theorem dX10_doesSwing_25 : decode cX10_doesSwing 25 = .ok (.iload_n 2, 1) := by decide +kernel
theorem dX10_doesSwing_26 : decode cX10_doesSwing 26 = .ok (.ishl, 1) := by decide +kernel
theorem dX10_doesSwing_27 : decode cX10_doesSwing 27 = .ok (.iconst (-1), 1) := by decide +kernel
theorem dX10_doesSwing_28 : decode cX10_doesSwing 28 = .ok (.ixor, 1) := by decide +kernel
theorem dX10_doesSwing_29 : decode cX10_doesSwing 29 = .ok (.iand, 1) := by decide +kernel
theorem dX10_doesSwing_30 : decode cX10_doesSwing 30 = .ok (.aload_n 0, 1) := by decide +kernel
theorem dX10_doesSwing_31 : decode cX10_doesSwing 31 = .ok (.getfield 9, 3) := by decide +kernel
theorem dX10_doesSwing_34 : decode cX10_doesSwing 34 = .ok (.iconst 2, 1) := by decide +kernel
theorem dX10_doesSwing_35 : decode cX10_doesSwing 35 = .ok (.iaload, 1) := by decide +kernel
theorem dX10_doesSwing_36 : decode cX10_doesSwing 36 = .ok (.invokevirtual 186, 3) := by decide +kernel
theorem dX10_doesSwing_39 : decode cX10_doesSwing 39 = .ok (.ifCond .ne 7, 3) := by decide +kernel
theorem dX10_doesSwing_42 : decode cX10_doesSwing 42 = .ok (.iconst 1, 1) := by decide +kernel
theorem dX10_doesSwing_43 : decode cX10_doesSwing 43 = .ok (.goto 4, 3) := by decide +kernel
theorem dX10_doesSwing_46 : decode cX10_doesSwing 46 = .ok (.iconst 0, 1) := by decide +kernel
theorem dX10_doesSwing_47 : decode cX10_doesSwing 47 = .ok (.ireturn, 1) := by decide +kernel
def f_X10_doesSwing (N : Nat) (o_s : Nat → Int32) (p1 : Int32) (p2 : Int32) : Option (Int32) := ob (f_X10_has p1 p2) (fun r1 => if r1 = 0 then some (0 : Int32) else ob (f_X10_couldBy N o_s p1 (o_s 2)) (fun r4 => if r4 = 0 then some (0 : Int32) else ob (f_X10_couldBy N o_s (p1 &&& (((1 : Int32) <<< (p2 &&& 31)) ^^^ (-1 : Int32))) (o_s 2)) (fun r7 => if r7 = 0 then some (1 : Int32) else some (0 : Int32))))
set_option maxHeartbeats 4000000 in
set_option maxRecDepth 100000 in
theorem c_X10_doesSwing (l : Launch) (E : EE) (o_h : Nat) (o_a0 : Nat) (o_a1 : Nat) (o_a2 : Nat) (o_a3 : Nat) (o_a8 : Nat) (o_a9 : Nat) (o_a11 : Nat) (o_a12 : Nat) (o_a13 : Nat) (o_a14 : Nat) (o_a15 : Nat) (o_a16 : Nat) (o_s : Nat → Int32) (o_m : Nat → Int32) (o_image : Nat → Int32) (o_was : Nat → Int32) (o_hasImage : Int32) (o_place : Int32) (o_rowAt : Int32) (o_rowEnd : Int32) (o_numbers : Nat → Int32) (o_most : Nat → Int32) (o_seed : Int32) (o_kept : Nat → Int32) (o_keptKind : Nat → Int32) (o_keptFigure : Nat → Int32) (o_sort : Nat → Int32) (o_size : Nat → Int32) (o_element : Nat → Int32) (o_thrown : Int32) (p1 : Int32) (p2 : Int32) (N : Nat) (res : Int32) (hv : f_X10_doesSwing N o_s p1 p2 = some res) : Rd l E yX10_doesSwing cX10_doesSwing 3 (some .boolean) ({ frames := 5, cells := 0, slots := 0, locals := 109 }) [.ref o_h, .int p1, .int p2] [oMo o_h o_a0 o_a1 o_a2 o_a3 o_hasImage o_place o_rowAt o_rowEnd o_a8 o_a9 o_seed o_a11 o_a12 o_a13 o_a14 o_a15 o_a16 o_thrown, ai E o_a0 42 o_s, ai E o_a1 42 o_m, ai E o_a2 42 o_image, ai E o_a3 42 o_was, ai E o_a8 3 o_numbers, ai E o_a9 8192 o_most, ai E o_a11 8 o_kept, ai E o_a12 8 o_keptKind, ai E o_a13 8 o_keptFigure, ai E o_a14 8 o_sort, ai E o_a15 8 o_size, ai E o_a16 800 o_element] (some (.int res)) := by
  refine Rd.intro RX10 (by decide) rfl (Nat.le_of_ble_eq_true rfl) ?_
  intro p e s m below meth c ls hC hr hlk hP hG hl
  obtain ⟨hx, hb, hml, hown, ht⟩ := id hC
  have hK := hG.1
  have hl : lv_has ls 3 [(0, .ref o_h), (1, .int p1), (2, .int p2)] := hl
  rw [f_X10_doesSwing] at hv
  refine lv_iload_n hx hb dX10_doesSwing_0 rfl (lv_at hl 1 rfl) ?_
  refine lv_iload_n hx hb dX10_doesSwing_1 rfl (lv_at hl 2 rfl) ?_
  obtain ⟨r1, h2, hv⟩ := ob_s hv
  refine rdS (rest := []) (st1 := [.int r1]) (w := []) hC q_X10_has kw_5_5 (c_X10_has l E p1 p2 r1 h2) ⟨rfl, rfl⟩ ⟨Nat.le_of_ble_eq_true rfl, Nat.le_of_ble_eq_true rfl⟩ ⟨Nat.zero_le _, Nat.zero_le _⟩ (hP.sub (ws' := []) [] rfl) hG rfl hl.1 rfl (Nat.le_of_ble_eq_true rfl) dX10_doesSwing_2 rfl ?_
  refine lv_if_eq (tgt := 46) hx hb dX10_doesSwing_5 (by decide) (fun c3 => ?_) (fun c3 => ?_)
  · have hv := if_y c3 hv
    refine lv_iconst (v := (0 : Int32)) hx hb dX10_doesSwing_46 (by decide) ?_
    exact W.zret (v := (0 : Int32)) hx hb hr rfl (fun t h9 _ => ⟨rv_i hv, h9⟩) (fun q h => absurd h List.not_mem_nil) dX10_doesSwing_47 hlk
  · have hv := if_n c3 hv
    refine lv_aload_n hx hb dX10_doesSwing_8 rfl (lv_at hl 0 rfl) ?_
    refine lv_iload_n hx hb dX10_doesSwing_9 rfl (lv_at hl 1 rfl) ?_
    refine lv_aload_n hx hb dX10_doesSwing_10 rfl (lv_at hl 0 rfl) ?_
    refine va_get (D := E.1) (ci := 4) (v := .ref o_a0) (C := RX10) (T := TX10) (N := 18) hx hb ht i_X10 hown hK hP 0 rfl rfl 0 (by decide) (ht _ kw_4_134) (fun _ h9 => h9) rfl dX10_doesSwing_11 ?_
    refine lv_iconst (v := (2 : Int32)) hx hb dX10_doesSwing_14 (by decide) ?_
    refine va_iald hx hb hK hP 1 0 rfl rfl (ix_s (by decide)) dX10_doesSwing_15 ?_
    refine W.eq (g2 := F0 m 16 ls [.int (o_s 2), .int p1, .ref o_h]) rfl ?_
    obtain ⟨r4, h5, hv⟩ := ob_s hv
    refine rdV 4 0 (As := [.int p1, .int (o_s 2)]) (rest := []) (st1 := [.int r4]) (w := [oMo o_h o_a0 o_a1 o_a2 o_a3 o_hasImage o_place o_rowAt o_rowEnd o_a8 o_a9 o_seed o_a11 o_a12 o_a13 o_a14 o_a15 o_a16 o_thrown, ai E o_a0 42 o_s, ai E o_a1 42 o_m, ai E o_a2 42 o_image, ai E o_a3 42 o_was, ai E o_a8 3 o_numbers, ai E o_a9 8192 o_most, ai E o_a11 8 o_kept, ai E o_a12 8 o_keptKind, ai E o_a13 8 o_keptFigure, ai E o_a14 8 o_sort, ai E o_a15 8 o_size, ai E o_a16 800 o_element]) hC q_X10_couldBy kw_5_140 (c_X10_couldBy l E o_h o_a0 o_a1 o_a2 o_a3 o_a8 o_a9 o_a11 o_a12 o_a13 o_a14 o_a15 o_a16 o_s o_m o_image o_was o_hasImage o_place o_rowAt o_rowEnd o_numbers o_most o_seed o_kept o_keptKind o_keptFigure o_sort o_size o_element o_thrown p1 (o_s 2) N r4 h5) ⟨rfl, rfl⟩ ⟨Nat.le_of_ble_eq_true rfl, Nat.le_of_ble_eq_true rfl⟩ ⟨Nat.zero_le _, Nat.zero_le _⟩ hP rfl rfl rfl hG rfl hl.1 rfl (Nat.le_of_ble_eq_true rfl) dX10_doesSwing_16 rfl ?_
    refine lv_if_eq (tgt := 46) hx hb dX10_doesSwing_19 (by decide) (fun c6 => ?_) (fun c6 => ?_)
    · have hv := if_y c6 hv
      refine lv_iconst (v := (0 : Int32)) hx hb dX10_doesSwing_46 (by decide) ?_
      exact W.zret (v := (0 : Int32)) hx hb hr rfl (fun t h9 _ => ⟨rv_i hv, h9⟩) (fun q h => absurd h List.not_mem_nil) dX10_doesSwing_47 hlk
    · have hv := if_n c6 hv
      refine lv_aload_n hx hb dX10_doesSwing_22 rfl (lv_at hl 0 rfl) ?_
      refine lv_iload_n hx hb dX10_doesSwing_23 rfl (lv_at hl 1 rfl) ?_
      refine lv_iconst (v := (1 : Int32)) hx hb dX10_doesSwing_24 (by decide) ?_
      refine lv_iload_n hx hb dX10_doesSwing_25 rfl (lv_at hl 2 rfl) ?_
      refine lv_ishl hx hb dX10_doesSwing_26 ?_
      refine lv_iconst (v := (-1 : Int32)) hx hb dX10_doesSwing_27 (by decide) ?_
      refine lv_ixor hx hb dX10_doesSwing_28 ?_
      refine lv_iand hx hb dX10_doesSwing_29 ?_
      refine lv_aload_n hx hb dX10_doesSwing_30 rfl (lv_at hl 0 rfl) ?_
      refine va_get (D := E.1) (ci := 4) (v := .ref o_a0) (C := RX10) (T := TX10) (N := 18) hx hb ht i_X10 hown hK hP 0 rfl rfl 0 (by decide) (ht _ kw_4_134) (fun _ h9 => h9) rfl dX10_doesSwing_31 ?_
      refine lv_iconst (v := (2 : Int32)) hx hb dX10_doesSwing_34 (by decide) ?_
      refine va_iald hx hb hK hP 1 0 rfl rfl (ix_s (by decide)) dX10_doesSwing_35 ?_
      refine W.eq (g2 := F0 m 36 ls [.int (o_s 2), .int (p1 &&& (((1 : Int32) <<< (p2 &&& 31)) ^^^ (-1 : Int32))), .ref o_h]) rfl ?_
      obtain ⟨r7, h8, hv⟩ := ob_s hv
      refine rdV 4 0 (As := [.int (p1 &&& (((1 : Int32) <<< (p2 &&& 31)) ^^^ (-1 : Int32))), .int (o_s 2)]) (rest := []) (st1 := [.int r7]) (w := [oMo o_h o_a0 o_a1 o_a2 o_a3 o_hasImage o_place o_rowAt o_rowEnd o_a8 o_a9 o_seed o_a11 o_a12 o_a13 o_a14 o_a15 o_a16 o_thrown, ai E o_a0 42 o_s, ai E o_a1 42 o_m, ai E o_a2 42 o_image, ai E o_a3 42 o_was, ai E o_a8 3 o_numbers, ai E o_a9 8192 o_most, ai E o_a11 8 o_kept, ai E o_a12 8 o_keptKind, ai E o_a13 8 o_keptFigure, ai E o_a14 8 o_sort, ai E o_a15 8 o_size, ai E o_a16 800 o_element]) hC q_X10_couldBy kw_5_140 (c_X10_couldBy l E o_h o_a0 o_a1 o_a2 o_a3 o_a8 o_a9 o_a11 o_a12 o_a13 o_a14 o_a15 o_a16 o_s o_m o_image o_was o_hasImage o_place o_rowAt o_rowEnd o_numbers o_most o_seed o_kept o_keptKind o_keptFigure o_sort o_size o_element o_thrown (p1 &&& (((1 : Int32) <<< (p2 &&& 31)) ^^^ (-1 : Int32))) (o_s 2) N r7 h8) ⟨rfl, rfl⟩ ⟨Nat.le_of_ble_eq_true rfl, Nat.le_of_ble_eq_true rfl⟩ ⟨Nat.zero_le _, Nat.zero_le _⟩ hP rfl rfl rfl hG rfl hl.1 rfl (Nat.le_of_ble_eq_true rfl) dX10_doesSwing_36 rfl ?_
      refine lv_if_ne (tgt := 46) hx hb dX10_doesSwing_39 (by decide) (fun c9 => ?_) (fun c9 => ?_)
      · have hv := if_n c9 hv
        refine lv_iconst (v := (0 : Int32)) hx hb dX10_doesSwing_46 (by decide) ?_
        exact W.zret (v := (0 : Int32)) hx hb hr rfl (fun t h9 _ => ⟨rv_i hv, h9⟩) (fun q h => absurd h List.not_mem_nil) dX10_doesSwing_47 hlk
      · have hv := if_y c9 hv
        refine lv_iconst (v := (1 : Int32)) hx hb dX10_doesSwing_42 (by decide) ?_
        refine lv_goto (tgt := 47) hx hb dX10_doesSwing_43 (by decide) ?_
        exact W.zret (v := (1 : Int32)) hx hb hr rfl (fun t h9 _ => ⟨rv_i hv, h9⟩) (fun q h => absurd h List.not_mem_nil) dX10_doesSwing_47 hlk
theorem dX10_isOfHeard_0 : decode cX10_isOfHeard 0 = .ok (.iload_n 1, 1) := by decide +kernel
theorem dX10_isOfHeard_1 : decode cX10_isOfHeard 1 = .ok (.aload_n 0, 1) := by decide +kernel
theorem dX10_isOfHeard_2 : decode cX10_isOfHeard 2 = .ok (.getfield 9, 3) := by decide +kernel
theorem dX10_isOfHeard_5 : decode cX10_isOfHeard 5 = .ok (.invokestatic 92, 3) := by decide +kernel
theorem dX10_isOfHeard_8 : decode cX10_isOfHeard 8 = .ok (.iconst (-1), 1) := by decide +kernel
theorem dX10_isOfHeard_9 : decode cX10_isOfHeard 9 = .ok (.ixor, 1) := by decide +kernel
theorem dX10_isOfHeard_10 : decode cX10_isOfHeard 10 = .ok (.iand, 1) := by decide +kernel
theorem dX10_isOfHeard_11 : decode cX10_isOfHeard 11 = .ok (.ifCond .ne 7, 3) := by decide +kernel
theorem dX10_isOfHeard_14 : decode cX10_isOfHeard 14 = .ok (.iconst 1, 1) := by decide +kernel
theorem dX10_isOfHeard_15 : decode cX10_isOfHeard 15 = .ok (.goto 4, 3) := by decide +kernel
theorem dX10_isOfHeard_18 : decode cX10_isOfHeard 18 = .ok (.iconst 0, 1) := by decide +kernel
theorem dX10_isOfHeard_19 : decode cX10_isOfHeard 19 = .ok (.ireturn, 1) := by decide +kernel
def f_X10_isOfHeard (N : Nat) (o_s : Nat → Int32) (p1 : Int32) : Option (Int32) := ob (f_X10_heardIn N o_s) (fun r1 => if (p1 &&& (r1 ^^^ (-1 : Int32))) = 0 then some (1 : Int32) else some (0 : Int32))
set_option maxHeartbeats 4000000 in
set_option maxRecDepth 100000 in
theorem c_X10_isOfHeard (l : Launch) (E : EE) (o_h : Nat) (o_a0 : Nat) (o_a1 : Nat) (o_a2 : Nat) (o_a3 : Nat) (o_a8 : Nat) (o_a9 : Nat) (o_a11 : Nat) (o_a12 : Nat) (o_a13 : Nat) (o_a14 : Nat) (o_a15 : Nat) (o_a16 : Nat) (o_s : Nat → Int32) (o_m : Nat → Int32) (o_image : Nat → Int32) (o_was : Nat → Int32) (o_hasImage : Int32) (o_place : Int32) (o_rowAt : Int32) (o_rowEnd : Int32) (o_numbers : Nat → Int32) (o_most : Nat → Int32) (o_seed : Int32) (o_kept : Nat → Int32) (o_keptKind : Nat → Int32) (o_keptFigure : Nat → Int32) (o_sort : Nat → Int32) (o_size : Nat → Int32) (o_element : Nat → Int32) (o_thrown : Int32) (p1 : Int32) (N : Nat) (res : Int32) (hv : f_X10_isOfHeard N o_s p1 = some res) : Rd l E yX10_isOfHeard cX10_isOfHeard 2 (some .boolean) ({ frames := 3, cells := 0, slots := 0, locals := 64 }) [.ref o_h, .int p1] [oMo o_h o_a0 o_a1 o_a2 o_a3 o_hasImage o_place o_rowAt o_rowEnd o_a8 o_a9 o_seed o_a11 o_a12 o_a13 o_a14 o_a15 o_a16 o_thrown, ai E o_a0 42 o_s, ai E o_a1 42 o_m, ai E o_a2 42 o_image, ai E o_a3 42 o_was, ai E o_a8 3 o_numbers, ai E o_a9 8192 o_most, ai E o_a11 8 o_kept, ai E o_a12 8 o_keptKind, ai E o_a13 8 o_keptFigure, ai E o_a14 8 o_sort, ai E o_a15 8 o_size, ai E o_a16 800 o_element] (some (.int res)) := by
  refine Rd.intro RX10 (by decide) rfl (Nat.le_of_ble_eq_true rfl) ?_
  intro p e s m below meth c ls hC hr hlk hP hG hl
  obtain ⟨hx, hb, hml, hown, ht⟩ := id hC
  have hK := hG.1
  have hl : lv_has ls 2 [(0, .ref o_h), (1, .int p1)] := hl
  rw [f_X10_isOfHeard] at hv
  refine lv_iload_n hx hb dX10_isOfHeard_0 rfl (lv_at hl 1 rfl) ?_
  refine lv_aload_n hx hb dX10_isOfHeard_1 rfl (lv_at hl 0 rfl) ?_
  refine va_get (D := E.1) (ci := 4) (v := .ref o_a0) (C := RX10) (T := TX10) (N := 18) hx hb ht i_X10 hown hK hP 0 rfl rfl 0 (by decide) (ht _ kw_4_134) (fun _ h9 => h9) rfl dX10_isOfHeard_2 ?_
  obtain ⟨r1, h2, hv⟩ := ob_s hv
  refine rdS (rest := [.int p1]) (st1 := [.int r1, .int p1]) (w := [ai E o_a0 42 o_s]) hC q_X10_heardIn kw_5_73 (c_X10_heardIn l E o_a0 o_s N r1 h2) ⟨rfl, rfl⟩ ⟨Nat.le_of_ble_eq_true rfl, Nat.le_of_ble_eq_true rfl⟩ ⟨Nat.zero_le _, Nat.zero_le _⟩ (hP.sub (ws' := [ai E o_a0 42 o_s]) [1] rfl) hG rfl hl.1 rfl (Nat.le_of_ble_eq_true rfl) dX10_isOfHeard_5 rfl ?_
  refine lv_iconst (v := (-1 : Int32)) hx hb dX10_isOfHeard_8 (by decide) ?_
  refine lv_ixor hx hb dX10_isOfHeard_9 ?_
  refine lv_iand hx hb dX10_isOfHeard_10 ?_
  refine lv_if_ne (tgt := 18) hx hb dX10_isOfHeard_11 (by decide) (fun c3 => ?_) (fun c3 => ?_)
  · have hv := if_n c3 hv
    refine lv_iconst (v := (0 : Int32)) hx hb dX10_isOfHeard_18 (by decide) ?_
    exact W.zret (v := (0 : Int32)) hx hb hr rfl (fun t h9 _ => ⟨rv_i hv, h9⟩) (fun q h => absurd h List.not_mem_nil) dX10_isOfHeard_19 hlk
  · have hv := if_y c3 hv
    refine lv_iconst (v := (1 : Int32)) hx hb dX10_isOfHeard_14 (by decide) ?_
    refine lv_goto (tgt := 19) hx hb dX10_isOfHeard_15 (by decide) ?_
    exact W.zret (v := (1 : Int32)) hx hb hr rfl (fun t h9 _ => ⟨rv_i hv, h9⟩) (fun q h => absurd h List.not_mem_nil) dX10_isOfHeard_19 hlk
theorem dX10_orders_0 : decode cX10_orders 0 = .ok (.lconst 1, 1) := by decide +kernel
theorem dX10_orders_1 : decode cX10_orders 1 = .ok (.lstore_n 1, 1) := by decide +kernel
theorem dX10_orders_2 : decode cX10_orders 2 = .ok (.iconst 2, 1) := by decide +kernel
theorem dX10_orders_3 : decode cX10_orders 3 = .ok (.istore_n 3, 1) := by decide +kernel
theorem dX10_orders_4 : decode cX10_orders 4 = .ok (.iload_n 3, 1) := by decide +kernel
theorem dX10_orders_5 : decode cX10_orders 5 = .ok (.iload_n 0, 1) := by decide +kernel
theorem dX10_orders_6 : decode cX10_orders 6 = .ok (.if_icmp .gt 14, 3) := by decide +kernel
theorem dX10_orders_9 : decode cX10_orders 9 = .ok (.lload_n 1, 1) := by decide +kernel
theorem dX10_orders_10 : decode cX10_orders 10 = .ok (.iload_n 3, 1) := by decide +kernel
theorem dX10_orders_11 : decode cX10_orders 11 = .ok (.i2l, 1) := by decide +kernel
theorem dX10_orders_12 : decode cX10_orders 12 = .ok (.lmul, 1) := by decide +kernel
theorem dX10_orders_13 : decode cX10_orders 13 = .ok (.lstore_n 1, 1) := by decide +kernel
theorem dX10_orders_14 : decode cX10_orders 14 = .ok (.iinc 3 1, 3) := by decide +kernel
theorem dX10_orders_17 : decode cX10_orders 17 = .ok (.goto (-13), 3) := by decide +kernel
theorem dX10_orders_20 : decode cX10_orders 20 = .ok (.lload_n 1, 1) := by decide +kernel
theorem dX10_orders_21 : decode cX10_orders 21 = .ok (.lreturn, 1) := by decide +kernel
def L_X10_orders_4 (p0 : Int32) : Nat → Int32 → Int64 → Option (Int64)
  | 0, _, _ => none
  | n4 + 1, x1, x2 => if p0 < x1 then some x2 else L_X10_orders_4 p0 n4 (x1 + (1 : Int32)) (x2 * (x1.toInt64))
def f_X10_orders (N : Nat) (p0 : Int32) : Option (Int64) := L_X10_orders_4 p0 N (2 : Int32) (1 : Int64)
set_option maxHeartbeats 4000000 in
set_option maxRecDepth 100000 in
theorem c_X10_orders (l : Launch) (E : EE) (p0 : Int32) (N : Nat) (res : Int64) (hv : f_X10_orders N p0 = some res) : Rd l E yX10_orders cX10_orders 4 (some .long) ({ frames := 0, cells := 0, slots := 0, locals := 0 }) [.int p0] [] (some (.long res)) := by
  refine Rd.intro RX10 (by decide) rfl (Nat.le_of_ble_eq_true rfl) ?_
  intro p e s m below meth c ls hC hr hlk hP hG hl
  obtain ⟨hx, hb, hml, hown, ht⟩ := id hC
  have hK := hG.1
  have hl : lv_has ls 4 [(0, .int p0)] := hl
  rw [f_X10_orders] at hv
  refine lv_lconst (v := (1 : Int64)) hx hb dX10_orders_0 (by decide) ?_
  refine lv_lstore_n (lv' := [(1, .long (1 : Int64)), (0, .int p0)]) hx hb dX10_orders_1 rfl hl (by decide) rfl (fun ls hl => ?_)
  refine lv_iconst (v := (2 : Int32)) hx hb dX10_orders_2 (by decide) ?_
  refine lv_istore_n (lv' := [(3, .int (2 : Int32)), (1, .long (1 : Int64)), (0, .int p0)]) hx hb dX10_orders_3 rfl hl (by decide) rfl (fun ls hl => ?_)
  have hL4 : ∀ (n : Nat) (x1 : Int32) (x2 : Int64) (ls : Array Slot), lv_has ls 4 [(3, .int x1), (1, .long x2), (0, .int p0)] → L_X10_orders_4 p0 n x1 x2 = some res → W p l e ({ frames := 0, cells := 0, slots := 0, locals := 0 }) s m [.int p0].toArray below meth c s.heap [] 0 0 (MQ below (RdQ (some (.long res))) [.int p0].toArray s 0 0 (fun _ => False)) (F0 m 4 ls []) := by
    intro n
    induction n with
    | zero => intro x1 x2 ls hl hv; cases hv
    | succ n4 ih4 =>
      intro x1 x2 ls hl hv
      rw [L_X10_orders_4] at hv
      refine lv_iload_n hx hb dX10_orders_4 rfl (lv_at hl 0 rfl) ?_
      refine lv_iload_n hx hb dX10_orders_5 rfl (lv_at hl 2 rfl) ?_
      refine lv_icmp_gt (tgt := 20) hx hb dX10_orders_6 (by decide) (fun c3 => ?_) (fun c3 => ?_)
      · have hv := if_y c3 hv
        refine lv_lload_n hx hb dX10_orders_20 rfl (lv_at hl 1 rfl) ?_
        exact W.lret (v := x2) hx hb hr (fun t h9 _ => ⟨rv_l hv, h9⟩) (fun q h => absurd h List.not_mem_nil) dX10_orders_21 hlk
      · have hv := if_n c3 hv
        refine lv_lload_n hx hb dX10_orders_9 rfl (lv_at hl 1 rfl) ?_
        refine lv_iload_n hx hb dX10_orders_10 rfl (lv_at hl 0 rfl) ?_
        refine lv_i2l (v := (x1.toInt64)) hx hb dX10_orders_11 rfl ?_
        refine lv_lmul hx hb dX10_orders_12 ?_
        refine lv_lstore_n (lv' := [(1, .long (x2 * (x1.toInt64))), (3, .int x1), (0, .int p0)]) hx hb dX10_orders_13 rfl hl (by decide) rfl (fun ls hl => ?_)
        refine lv_iinc (v := (x1 + (1 : Int32))) (lv' := [(3, .int (x1 + (1 : Int32))), (1, .long (x2 * (x1.toInt64))), (0, .int p0)]) hx hb dX10_orders_14 hl (k := 1) rfl rfl (by decide) rfl (fun ls hl => ?_)
        refine lv_goto (tgt := 4) hx hb dX10_orders_17 (by decide) ?_
        exact ih4 (x1 + (1 : Int32)) (x2 * (x1.toInt64)) _ (lv_sub hl [0, 1, 2] rfl) hv
  exact hL4 N (2 : Int32) (1 : Int64) _ (lv_sub hl [0, 1, 2] rfl) hv
theorem dX10_gcd_0 : decode cX10_gcd 0 = .ok (.lload_n 0, 1) := by decide +kernel
theorem dX10_gcd_1 : decode cX10_gcd 1 = .ok (.lconst 0, 1) := by decide +kernel
theorem dX10_gcd_2 : decode cX10_gcd 2 = .ok (.lcmp, 1) := by decide +kernel
theorem dX10_gcd_3 : decode cX10_gcd 3 = .ok (.ifCond .ge 8, 3) := by decide +kernel
theorem dX10_gcd_6 : decode cX10_gcd 6 = .ok (.lload_n 0, 1) := by decide +kernel
theorem dX10_gcd_7 : decode cX10_gcd 7 = .ok (.lneg, 1) := by decide +kernel
theorem dX10_gcd_8 : decode cX10_gcd 8 = .ok (.goto 4, 3) := by decide +kernel
theorem dX10_gcd_11 : decode cX10_gcd 11 = .ok (.lload_n 0, 1) := by decide +kernel
theorem dX10_gcd_12 : decode cX10_gcd 12 = .ok (.lstore 4, 2) := by decide +kernel
theorem dX10_gcd_14 : decode cX10_gcd 14 = .ok (.lload_n 2, 1) := by decide +kernel
theorem dX10_gcd_15 : decode cX10_gcd 15 = .ok (.lstore 6, 2) := by decide +kernel
theorem dX10_gcd_17 : decode cX10_gcd 17 = .ok (.lload 6, 2) := by decide +kernel
theorem dX10_gcd_19 : decode cX10_gcd 19 = .ok (.lconst 0, 1) := by decide +kernel
theorem dX10_gcd_20 : decode cX10_gcd 20 = .ok (.lcmp, 1) := by decide +kernel
theorem dX10_gcd_21 : decode cX10_gcd 21 = .ok (.ifCond .eq 21, 3) := by decide +kernel
theorem dX10_gcd_24 : decode cX10_gcd 24 = .ok (.lload 4, 2) := by decide +kernel
theorem dX10_gcd_26 : decode cX10_gcd 26 = .ok (.lload 6, 2) := by decide +kernel
theorem dX10_gcd_28 : decode cX10_gcd 28 = .ok (.lrem, 1) := by decide +kernel
theorem dX10_gcd_29 : decode cX10_gcd 29 = .ok (.lstore 8, 2) := by decide +kernel
theorem dX10_gcd_31 : decode cX10_gcd 31 = .ok (.lload 6, 2) := by decide +kernel
theorem dX10_gcd_33 : decode cX10_gcd 33 = .ok (.lstore 4, 2) := by decide +kernel
theorem dX10_gcd_35 : decode cX10_gcd 35 = .ok (.lload 8, 2) := by decide +kernel
theorem dX10_gcd_37 : decode cX10_gcd 37 = .ok (.lstore 6, 2) := by decide +kernel
theorem dX10_gcd_39 : decode cX10_gcd 39 = .ok (.goto (-22), 3) := by decide +kernel
theorem dX10_gcd_42 : decode cX10_gcd 42 = .ok (.lload 4, 2) := by decide +kernel
theorem dX10_gcd_44 : decode cX10_gcd 44 = .ok (.lreturn, 1) := by decide +kernel
def L_X10_gcd_17  : Nat → Int64 → Int64 → Option (Int64)
  | 0, _, _ => none
  | n17 + 1, x2, x3 => if (lg_cmp x2 (0 : Int64)) = 0 then some x3 else gd (nzl x2) (L_X10_gcd_17 n17 (x3 - x3 / x2 * x2) x2)
def f_X10_gcd (N : Nat) (p0 : Int64) (p1 : Int64) : Option (Int64) := if 0 ≤ (lg_cmp p0 (0 : Int64)) then L_X10_gcd_17 N p1 p0 else L_X10_gcd_17 N p1 (-p0)
set_option maxHeartbeats 4000000 in
set_option maxRecDepth 100000 in
theorem c_X10_gcd (l : Launch) (E : EE) (p0 : Int64) (p1 : Int64) (N : Nat) (res : Int64) (hv : f_X10_gcd N p0 p1 = some res) : Rd l E yX10_gcd cX10_gcd 10 (some .long) ({ frames := 0, cells := 0, slots := 0, locals := 0 }) [.long p0, .long p1] [] (some (.long res)) := by
  refine Rd.intro RX10 (by decide) rfl (Nat.le_of_ble_eq_true rfl) ?_
  intro p e s m below meth c ls hC hr hlk hP hG hl
  obtain ⟨hx, hb, hml, hown, ht⟩ := id hC
  have hK := hG.1
  have hl : lv_has ls 10 [(0, .long p0), (2, .long p1)] := hl
  rw [f_X10_gcd] at hv
  refine lv_lload_n hx hb dX10_gcd_0 rfl (lv_at hl 0 rfl) ?_
  refine lv_lconst (v := (0 : Int64)) hx hb dX10_gcd_1 (by decide) ?_
  refine W.lcmp hx hb dX10_gcd_2 ?_
  refine lv_if_ge (tgt := 11) hx hb dX10_gcd_3 (by decide) (fun c1 => ?_) (fun c1 => ?_)
  · have hv := if_y c1 hv
    refine lv_lload_n hx hb dX10_gcd_11 rfl (lv_at hl 0 rfl) ?_
    refine lv_lstore (lv' := [(4, .long p0), (0, .long p0), (2, .long p1)]) hx hb dX10_gcd_12 hl (by decide) rfl (fun ls hl => ?_)
    refine lv_lload_n hx hb dX10_gcd_14 rfl (lv_at hl 2 rfl) ?_
    refine lv_lstore (lv' := [(6, .long p1), (4, .long p0), (0, .long p0), (2, .long p1)]) hx hb dX10_gcd_15 hl (by decide) rfl (fun ls hl => ?_)
    have hL17 : ∀ (n : Nat) (x2 : Int64) (x3 : Int64) (ls : Array Slot), lv_has ls 10 [(6, .long x2), (4, .long x3)] → L_X10_gcd_17 n x2 x3 = some res → W p l e ({ frames := 0, cells := 0, slots := 0, locals := 0 }) s m [.long p0, .long p1].toArray below meth c s.heap [] 0 0 (MQ below (RdQ (some (.long res))) [.long p0, .long p1].toArray s 0 0 (fun _ => False)) (F0 m 17 ls []) := by
      intro n
      induction n with
      | zero => intro x2 x3 ls hl hv; cases hv
      | succ n17 ih17 =>
        intro x2 x3 ls hl hv
        rw [L_X10_gcd_17] at hv
        refine lv_lload hx hb dX10_gcd_17 (lv_at hl 0 rfl) ?_
        refine lv_lconst (v := (0 : Int64)) hx hb dX10_gcd_19 (by decide) ?_
        refine W.lcmp hx hb dX10_gcd_20 ?_
        refine lv_if_eq (tgt := 42) hx hb dX10_gcd_21 (by decide) (fun c4 => ?_) (fun c4 => ?_)
        · have hv := if_y c4 hv
          refine lv_lload hx hb dX10_gcd_42 (lv_at hl 1 rfl) ?_
          exact W.lret (v := x3) hx hb hr (fun t h9 _ => ⟨rv_l hv, h9⟩) (fun q h => absurd h List.not_mem_nil) dX10_gcd_44 hlk
        · have hv := if_n c4 hv
          refine lv_lload hx hb dX10_gcd_24 (lv_at hl 1 rfl) ?_
          refine lv_lload hx hb dX10_gcd_26 (lv_at hl 0 rfl) ?_
          obtain ⟨g5, hv⟩ := gd_s hv
          refine lv_lrem hx hb dX10_gcd_28 (nzl_s g5) ?_
          refine lv_lstore (lv' := [(8, .long (x3 - x3 / x2 * x2)), (6, .long x2), (4, .long x3)]) hx hb dX10_gcd_29 hl (by decide) rfl (fun ls hl => ?_)
          refine lv_lload hx hb dX10_gcd_31 (lv_at hl 1 rfl) ?_
          refine lv_lstore (lv' := [(4, .long x2), (8, .long (x3 - x3 / x2 * x2)), (6, .long x2)]) hx hb dX10_gcd_33 hl (by decide) rfl (fun ls hl => ?_)
          refine lv_lload hx hb dX10_gcd_35 (lv_at hl 1 rfl) ?_
          refine lv_lstore (lv' := [(6, .long (x3 - x3 / x2 * x2)), (4, .long x2), (8, .long (x3 - x3 / x2 * x2))]) hx hb dX10_gcd_37 hl (by decide) rfl (fun ls hl => ?_)
          refine lv_goto (tgt := 17) hx hb dX10_gcd_39 (by decide) ?_
          exact ih17 (x3 - x3 / x2 * x2) x2 _ (lv_sub hl [0, 1] rfl) hv
    exact hL17 N p1 p0 _ (lv_sub hl [0, 1] rfl) hv
  · have hv := if_n c1 hv
    refine lv_lload_n hx hb dX10_gcd_6 rfl (lv_at hl 0 rfl) ?_
    refine lv_lneg hx hb dX10_gcd_7 ?_
    refine lv_goto (tgt := 12) hx hb dX10_gcd_8 (by decide) ?_
    refine lv_lstore (lv' := [(4, .long (-p0)), (0, .long p0), (2, .long p1)]) hx hb dX10_gcd_12 hl (by decide) rfl (fun ls hl => ?_)
    refine lv_lload_n hx hb dX10_gcd_14 rfl (lv_at hl 2 rfl) ?_
    refine lv_lstore (lv' := [(6, .long p1), (4, .long (-p0)), (0, .long p0), (2, .long p1)]) hx hb dX10_gcd_15 hl (by decide) rfl (fun ls hl => ?_)
    have hL17 : ∀ (n : Nat) (x6 : Int64) (x7 : Int64) (ls : Array Slot), lv_has ls 10 [(6, .long x6), (4, .long x7)] → L_X10_gcd_17 n x6 x7 = some res → W p l e ({ frames := 0, cells := 0, slots := 0, locals := 0 }) s m [.long p0, .long p1].toArray below meth c s.heap [] 0 0 (MQ below (RdQ (some (.long res))) [.long p0, .long p1].toArray s 0 0 (fun _ => False)) (F0 m 17 ls []) := by
      intro n
      induction n with
      | zero => intro x6 x7 ls hl hv; cases hv
      | succ n17 ih17 =>
        intro x6 x7 ls hl hv
        rw [L_X10_gcd_17] at hv
        refine lv_lload hx hb dX10_gcd_17 (lv_at hl 0 rfl) ?_
        refine lv_lconst (v := (0 : Int64)) hx hb dX10_gcd_19 (by decide) ?_
        refine W.lcmp hx hb dX10_gcd_20 ?_
        refine lv_if_eq (tgt := 42) hx hb dX10_gcd_21 (by decide) (fun c8 => ?_) (fun c8 => ?_)
        · have hv := if_y c8 hv
          refine lv_lload hx hb dX10_gcd_42 (lv_at hl 1 rfl) ?_
          exact W.lret (v := x7) hx hb hr (fun t h9 _ => ⟨rv_l hv, h9⟩) (fun q h => absurd h List.not_mem_nil) dX10_gcd_44 hlk
        · have hv := if_n c8 hv
          refine lv_lload hx hb dX10_gcd_24 (lv_at hl 1 rfl) ?_
          refine lv_lload hx hb dX10_gcd_26 (lv_at hl 0 rfl) ?_
          obtain ⟨g9, hv⟩ := gd_s hv
          refine lv_lrem hx hb dX10_gcd_28 (nzl_s g9) ?_
          refine lv_lstore (lv' := [(8, .long (x7 - x7 / x6 * x6)), (6, .long x6), (4, .long x7)]) hx hb dX10_gcd_29 hl (by decide) rfl (fun ls hl => ?_)
          refine lv_lload hx hb dX10_gcd_31 (lv_at hl 1 rfl) ?_
          refine lv_lstore (lv' := [(4, .long x6), (8, .long (x7 - x7 / x6 * x6)), (6, .long x6)]) hx hb dX10_gcd_33 hl (by decide) rfl (fun ls hl => ?_)
          refine lv_lload hx hb dX10_gcd_35 (lv_at hl 1 rfl) ?_
          refine lv_lstore (lv' := [(6, .long (x7 - x7 / x6 * x6)), (4, .long x6), (8, .long (x7 - x7 / x6 * x6))]) hx hb dX10_gcd_37 hl (by decide) rfl (fun ls hl => ?_)
          refine lv_goto (tgt := 17) hx hb dX10_gcd_39 (by decide) ?_
          exact ih17 (x7 - x7 / x6 * x6) x6 _ (lv_sub hl [0, 1] rfl) hv
    exact hL17 N p1 (-p0) _ (lv_sub hl [0, 1] rfl) hv
theorem dX10_partOf_0 : decode cX10_partOf 0 = .ok (.lload_n 0, 1) := by decide +kernel
theorem dX10_partOf_1 : decode cX10_partOf 1 = .ok (.lconst 0, 1) := by decide +kernel
theorem dX10_partOf_2 : decode cX10_partOf 2 = .ok (.lcmp, 1) := by decide +kernel
theorem dX10_partOf_3 : decode cX10_partOf 3 = .ok (.ifCond .ne 7, 3) := by decide +kernel
theorem dX10_partOf_6 : decode cX10_partOf 6 = .ok (.iload 4, 2) := by decide +kernel
theorem dX10_partOf_8 : decode cX10_partOf 8 = .ok (.i2l, 1) := by decide +kernel
theorem dX10_partOf_9 : decode cX10_partOf 9 = .ok (.lreturn, 1) := by decide +kernel
theorem dX10_partOf_10 : decode cX10_partOf 10 = .ok (.iload 4, 2) := by decide +kernel
theorem dX10_partOf_12 : decode cX10_partOf 12 = .ok (.ifCond .ne 7, 3) := by decide +kernel
theorem dX10_partOf_15 : decode cX10_partOf 15 = .ok (.lload_n 0, 1) := by decide +kernel
theorem dX10_partOf_16 : decode cX10_partOf 16 = .ok (.goto 4, 3) := by decide +kernel
theorem dX10_partOf_19 : decode cX10_partOf 19 = .ok (.lload_n 2, 1) := by decide +kernel
theorem dX10_partOf_20 : decode cX10_partOf 20 = .ok (.lload_n 0, 1) := by decide +kernel
theorem dX10_partOf_21 : decode cX10_partOf 21 = .ok (.lload_n 2, 1) := by decide +kernel
theorem dX10_partOf_22 : decode cX10_partOf 22 = .ok (.invokestatic 189, 3) := by decide +kernel
theorem dX10_partOf_25 : decode cX10_partOf 25 = .ok (.ldiv, 1) := by decide +kernel
theorem dX10_partOf_26 : decode cX10_partOf 26 = .ok (.lreturn, 1) := by decide +kernel
def f_X10_partOf (N : Nat) (p0 : Int64) (p1 : Int64) (p2 : Int32) : Option (Int64) := if (lg_cmp p0 (0 : Int64)) = 0 then some (p2.toInt64) else if p2 = 0 then ob (f_X10_gcd N p0 p1) (fun r6 => gd (nzl r6) (some (p0 / r6))) else ob (f_X10_gcd N p0 p1) (fun r3 => gd (nzl r3) (some (p1 / r3)))
set_option maxHeartbeats 4000000 in
set_option maxRecDepth 100000 in
theorem c_X10_partOf (l : Launch) (E : EE) (p0 : Int64) (p1 : Int64) (p2 : Int32) (N : Nat) (res : Int64) (hv : f_X10_partOf N p0 p1 p2 = some res) : Rd l E yX10_partOf cX10_partOf 5 (some .long) ({ frames := 1, cells := 0, slots := 0, locals := 29 }) [.long p0, .long p1, .int p2] [] (some (.long res)) := by
  refine Rd.intro RX10 (by decide) rfl (Nat.le_of_ble_eq_true rfl) ?_
  intro p e s m below meth c ls hC hr hlk hP hG hl
  obtain ⟨hx, hb, hml, hown, ht⟩ := id hC
  have hK := hG.1
  have hl : lv_has ls 5 [(0, .long p0), (2, .long p1), (4, .int p2)] := hl
  rw [f_X10_partOf] at hv
  refine lv_lload_n hx hb dX10_partOf_0 rfl (lv_at hl 0 rfl) ?_
  refine lv_lconst (v := (0 : Int64)) hx hb dX10_partOf_1 (by decide) ?_
  refine W.lcmp hx hb dX10_partOf_2 ?_
  refine lv_if_ne (tgt := 10) hx hb dX10_partOf_3 (by decide) (fun c1 => ?_) (fun c1 => ?_)
  · have hv := if_n c1 hv
    refine lv_iload hx hb dX10_partOf_10 (lv_at hl 2 rfl) ?_
    refine lv_if_ne (tgt := 19) hx hb dX10_partOf_12 (by decide) (fun c2 => ?_) (fun c2 => ?_)
    · have hv := if_n c2 hv
      refine lv_lload_n hx hb dX10_partOf_19 rfl (lv_at hl 1 rfl) ?_
      refine lv_lload_n hx hb dX10_partOf_20 rfl (lv_at hl 0 rfl) ?_
      refine lv_lload_n hx hb dX10_partOf_21 rfl (lv_at hl 1 rfl) ?_
      obtain ⟨r3, h4, hv⟩ := ob_s hv
      refine rdS (rest := [.long p1]) (st1 := [.long r3, .long p1]) (w := []) hC q_X10_gcd kw_5_166 (c_X10_gcd l E p0 p1 N r3 h4) ⟨rfl, rfl⟩ ⟨Nat.le_of_ble_eq_true rfl, Nat.le_of_ble_eq_true rfl⟩ ⟨Nat.zero_le _, Nat.zero_le _⟩ hP hG rfl hl.1 rfl (Nat.le_of_ble_eq_true rfl) dX10_partOf_22 rfl ?_
      obtain ⟨g5, hv⟩ := gd_s hv
      refine lv_ldiv hx hb dX10_partOf_25 (nzl_s g5) ?_
      exact W.lret (v := (p1 / r3)) hx hb hr (fun t h9 _ => ⟨rv_l hv, h9⟩) (fun q h => absurd h List.not_mem_nil) dX10_partOf_26 hlk
    · have hv := if_y c2 hv
      refine lv_lload_n hx hb dX10_partOf_15 rfl (lv_at hl 0 rfl) ?_
      refine lv_goto (tgt := 20) hx hb dX10_partOf_16 (by decide) ?_
      refine lv_lload_n hx hb dX10_partOf_20 rfl (lv_at hl 0 rfl) ?_
      refine lv_lload_n hx hb dX10_partOf_21 rfl (lv_at hl 1 rfl) ?_
      obtain ⟨r6, h7, hv⟩ := ob_s hv
      refine rdS (rest := [.long p0]) (st1 := [.long r6, .long p0]) (w := []) hC q_X10_gcd kw_5_166 (c_X10_gcd l E p0 p1 N r6 h7) ⟨rfl, rfl⟩ ⟨Nat.le_of_ble_eq_true rfl, Nat.le_of_ble_eq_true rfl⟩ ⟨Nat.zero_le _, Nat.zero_le _⟩ hP hG rfl hl.1 rfl (Nat.le_of_ble_eq_true rfl) dX10_partOf_22 rfl ?_
      obtain ⟨g8, hv⟩ := gd_s hv
      refine lv_ldiv hx hb dX10_partOf_25 (nzl_s g8) ?_
      exact W.lret (v := (p0 / r6)) hx hb hr (fun t h9 _ => ⟨rv_l hv, h9⟩) (fun q h => absurd h List.not_mem_nil) dX10_partOf_26 hlk
  · have hv := if_y c1 hv
    refine lv_iload hx hb dX10_partOf_6 (lv_at hl 2 rfl) ?_
    refine lv_i2l (v := (p2.toInt64)) hx hb dX10_partOf_8 rfl ?_
    exact W.lret (v := (p2.toInt64)) hx hb hr (fun t h9 _ => ⟨rv_l hv, h9⟩) (fun q h => absurd h List.not_mem_nil) dX10_partOf_9 hlk
theorem dX10_power_0 : decode cX10_power 0 = .ok (.aload_n 0, 1) := by decide +kernel
theorem dX10_power_1 : decode cX10_power 1 = .ok (.iload_n 1, 1) := by decide +kernel
theorem dX10_power_2 : decode cX10_power 2 = .ok (.invokevirtual 134, 3) := by decide +kernel
theorem dX10_power_5 : decode cX10_power 5 = .ok (.ifCond .eq 12, 3) := by decide +kernel
theorem dX10_power_8 : decode cX10_power 8 = .ok (.iload_n 2, 1) := by decide +kernel
theorem dX10_power_9 : decode cX10_power 9 = .ok (.iconst 0, 1) := by decide +kernel
theorem dX10_power_10 : decode cX10_power 10 = .ok (.iconst 1, 1) := by decide +kernel
theorem dX10_power_11 : decode cX10_power 11 = .ok (.invokestatic 46, 3) := by decide +kernel
theorem dX10_power_14 : decode cX10_power 14 = .ok (.ifCond .ne 7, 3) := by decide +kernel
theorem dX10_power_17 : decode cX10_power 17 = .ok (.ldc2_w 193, 3) := by decide +kernel
theorem dX10_power_20 : decode cX10_power 20 = .ok (.lreturn, 1) := by decide +kernel
theorem dX10_power_21 : decode cX10_power 21 = .ok (.aload_n 0, 1) := by decide +kernel
theorem dX10_power_22 : decode cX10_power 22 = .ok (.getfield 9, 3) := by decide +kernel
theorem dX10_power_25 : decode cX10_power 25 = .ok (.invokestatic 92, 3) := by decide +kernel
theorem dX10_power_28 : decode cX10_power 28 = .ok (.invokestatic 195, 3) := by decide +kernel
theorem dX10_power_31 : decode cX10_power 31 = .ok (.istore_n 3, 1) := by decide +kernel
theorem dX10_power_32 : decode cX10_power 32 = .ok (.lconst 0, 1) := by decide +kernel
theorem dX10_power_33 : decode cX10_power 33 = .ok (.lstore 4, 2) := by decide +kernel
theorem dX10_power_35 : decode cX10_power 35 = .ok (.iconst 0, 1) := by decide +kernel
theorem dX10_power_36 : decode cX10_power 36 = .ok (.istore 6, 2) := by decide +kernel
theorem dX10_power_38 : decode cX10_power 38 = .ok (.iload 6, 2) := by decide +kernel
theorem dX10_power_40 : decode cX10_power 40 = .ok (.iconst 1, 1) := by decide +kernel
theorem dX10_power_41 : decode cX10_power 41 = .ok (.aload_n 0, 1) := by decide +kernel
theorem dX10_power_42 : decode cX10_power 42 = .ok (.getfield 9, 3) := by decide +kernel
theorem dX10_power_45 : decode cX10_power 45 = .ok (.iconst 0, 1) := by decide +kernel
theorem dX10_power_46 : decode cX10_power 46 = .ok (.iaload, 1) := by decide +kernel
theorem dX10_power_47 : decode cX10_power 47 = .ok (.ishl, 1) := by decide +kernel
theorem dX10_power_48 : decode cX10_power 48 = .ok (.if_icmp .ge 54, 3) := by decide +kernel
theorem dX10_power_51 : decode cX10_power 51 = .ok (.aload_n 0, 1) := by decide +kernel
theorem dX10_power_52 : decode cX10_power 52 = .ok (.iload 6, 2) := by decide +kernel
theorem dX10_power_54 : decode cX10_power 54 = .ok (.invokevirtual 198, 3) := by decide +kernel
theorem dX10_power_57 : decode cX10_power 57 = .ok (.ifCond .eq 39, 3) := by decide +kernel
theorem dX10_power_60 : decode cX10_power 60 = .ok (.aload_n 0, 1) := by decide +kernel
theorem dX10_power_61 : decode cX10_power 61 = .ok (.iload 6, 2) := by decide +kernel
theorem dX10_power_63 : decode cX10_power 63 = .ok (.iload_n 1, 1) := by decide +kernel
theorem dX10_power_64 : decode cX10_power 64 = .ok (.invokevirtual 201, 3) := by decide +kernel
theorem dX10_power_67 : decode cX10_power 67 = .ok (.ifCond .eq 29, 3) := by decide +kernel
theorem dX10_power_70 : decode cX10_power 70 = .ok (.lload 4, 2) := by decide +kernel
theorem dX10_power_72 : decode cX10_power 72 = .ok (.iload 6, 2) := by decide +kernel
theorem dX10_power_74 : decode cX10_power 74 = .ok (.invokestatic 195, 3) := by decide +kernel
theorem dX10_power_77 : decode cX10_power 77 = .ok (.iconst 1, 1) := by decide +kernel
theorem dX10_power_78 : decode cX10_power 78 = .ok (.isub, 1) := by decide +kernel
theorem dX10_power_79 : decode cX10_power 79 = .ok (.invokestatic 204, 3) := by decide +kernel
theorem dX10_power_82 : decode cX10_power 82 = .ok (.iload_n 3, 1) := by decide +kernel
theorem dX10_power_83 : decode cX10_power 83 = .ok (.iload 6, 2) := by decide +kernel
theorem dX10_power_85 : decode cX10_power 85 = .ok (.invokestatic 195, 3) := by decide +kernel
theorem dX10_power_88 : decode cX10_power 88 = .ok (.isub, 1) := by decide +kernel
theorem dX10_power_89 : decode cX10_power 89 = .ok (.invokestatic 204, 3) := by decide +kernel
theorem dX10_power_92 : decode cX10_power 92 = .ok (.lmul, 1) := by decide +kernel
theorem dX10_power_93 : decode cX10_power 93 = .ok (.ladd, 1) := by decide +kernel
theorem dX10_power_94 : decode cX10_power 94 = .ok (.lstore 4, 2) := by decide +kernel
theorem dX10_power_96 : decode cX10_power 96 = .ok (.iinc 6 1, 3) := by decide +kernel
theorem dX10_power_99 : decode cX10_power 99 = .ok (.goto (-61), 3) := by decide +kernel
theorem dX10_power_102 : decode cX10_power 102 = .ok (.lload 4, 2) := by decide +kernel
theorem dX10_power_104 : decode cX10_power 104 = .ok (.iload_n 3, 1) := by decide +kernel
theorem dX10_power_105 : decode cX10_power 105 = .ok (.invokestatic 204, 3) := by decide +kernel
theorem dX10_power_108 : decode cX10_power 108 = .ok (.iload_n 2, 1) := by decide +kernel
theorem dX10_power_109 : decode cX10_power 109 = .ok (.invokestatic 208, 3) := by decide +kernel
theorem dX10_power_112 : decode cX10_power 112 = .ok (.lreturn, 1) := by decide +kernel
def L_X10_power_38 (N : Nat) (o_s : Nat → Int32) (p1 : Int32) (p2 : Int32) (r9 : Int32) : Nat → Int32 → Int64 → Option (Int64)
  | 0, _, _ => none
  | n38 + 1, x11, x12 => if ((1 : Int32) <<< ((o_s 0) &&& 31)) ≤ x11 then ob (f_X10_orders N r9) (fun r14 => ob (f_X10_partOf N x12 r14 p2) (fun r16 => some r16)) else ob (f_X10_isOfHeard N o_s x11) (fun r18 => if r18 = 0 then L_X10_power_38 N o_s p1 p2 r9 n38 (x11 + (1 : Int32)) x12 else ob (f_X10_doesSwing N o_s x11 p1) (fun r21 => if r21 = 0 then L_X10_power_38 N o_s p1 p2 r9 n38 (x11 + (1 : Int32)) x12 else ob (f_X10_bits N x11) (fun r24 => ob (f_X10_orders N (r24 - (1 : Int32))) (fun r26 => ob (f_X10_bits N x11) (fun r28 => ob (f_X10_orders N (r9 - r28)) (fun r30 => L_X10_power_38 N o_s p1 p2 r9 n38 (x11 + (1 : Int32)) (x12 + (r26 * r30))))))))
def f_X10_power (N : Nat) (o_s : Nat → Int32) (p1 : Int32) (p2 : Int32) : Option (Int64) := ob (f_X10_isSpeaker o_s p1) (fun r1 => if r1 = 0 then some (1000000001 : Int64) else ob (f_X10_isIn p2 (0 : Int32) (1 : Int32)) (fun r4 => if r4 = 0 then some (1000000001 : Int64) else ob (f_X10_heardIn N o_s) (fun r7 => ob (f_X10_bits N r7) (fun r9 => L_X10_power_38 N o_s p1 p2 r9 N (0 : Int32) (0 : Int64)))))
set_option maxHeartbeats 4000000 in
set_option maxRecDepth 100000 in
theorem c_X10_power (l : Launch) (E : EE) (o_h : Nat) (o_a0 : Nat) (o_a1 : Nat) (o_a2 : Nat) (o_a3 : Nat) (o_a8 : Nat) (o_a9 : Nat) (o_a11 : Nat) (o_a12 : Nat) (o_a13 : Nat) (o_a14 : Nat) (o_a15 : Nat) (o_a16 : Nat) (o_s : Nat → Int32) (o_m : Nat → Int32) (o_image : Nat → Int32) (o_was : Nat → Int32) (o_hasImage : Int32) (o_place : Int32) (o_rowAt : Int32) (o_rowEnd : Int32) (o_numbers : Nat → Int32) (o_most : Nat → Int32) (o_seed : Int32) (o_kept : Nat → Int32) (o_keptKind : Nat → Int32) (o_keptFigure : Nat → Int32) (o_sort : Nat → Int32) (o_size : Nat → Int32) (o_element : Nat → Int32) (o_thrown : Int32) (p1 : Int32) (p2 : Int32) (N : Nat) (res : Int64) (hv : f_X10_power N o_s p1 p2 = some res) : Rd l E yX10_power cX10_power 7 (some .long) ({ frames := 6, cells := 0, slots := 0, locals := 131 }) [.ref o_h, .int p1, .int p2] [oMo o_h o_a0 o_a1 o_a2 o_a3 o_hasImage o_place o_rowAt o_rowEnd o_a8 o_a9 o_seed o_a11 o_a12 o_a13 o_a14 o_a15 o_a16 o_thrown, ai E o_a0 42 o_s, ai E o_a1 42 o_m, ai E o_a2 42 o_image, ai E o_a3 42 o_was, ai E o_a8 3 o_numbers, ai E o_a9 8192 o_most, ai E o_a11 8 o_kept, ai E o_a12 8 o_keptKind, ai E o_a13 8 o_keptFigure, ai E o_a14 8 o_sort, ai E o_a15 8 o_size, ai E o_a16 800 o_element] (some (.long res)) := by
  refine Rd.intro RX10 (by decide) rfl (Nat.le_of_ble_eq_true rfl) ?_
  intro p e s m below meth c ls hC hr hlk hP hG hl
  obtain ⟨hx, hb, hml, hown, ht⟩ := id hC
  have hK := hG.1
  have hl : lv_has ls 7 [(0, .ref o_h), (1, .int p1), (2, .int p2)] := hl
  rw [f_X10_power] at hv
  refine lv_aload_n hx hb dX10_power_0 rfl (lv_at hl 0 rfl) ?_
  refine lv_iload_n hx hb dX10_power_1 rfl (lv_at hl 1 rfl) ?_
  obtain ⟨r1, h2, hv⟩ := ob_s hv
  refine rdV 4 0 (As := [.int p1]) (rest := []) (st1 := [.int r1]) (w := [oMo o_h o_a0 o_a1 o_a2 o_a3 o_hasImage o_place o_rowAt o_rowEnd o_a8 o_a9 o_seed o_a11 o_a12 o_a13 o_a14 o_a15 o_a16 o_thrown, ai E o_a0 42 o_s, ai E o_a1 42 o_m, ai E o_a2 42 o_image, ai E o_a3 42 o_was, ai E o_a8 3 o_numbers, ai E o_a9 8192 o_most, ai E o_a11 8 o_kept, ai E o_a12 8 o_keptKind, ai E o_a13 8 o_keptFigure, ai E o_a14 8 o_sort, ai E o_a15 8 o_size, ai E o_a16 800 o_element]) hC q_X10_isSpeaker kw_4_229 (c_X10_isSpeaker l E o_h o_a0 o_a1 o_a2 o_a3 o_a8 o_a9 o_a11 o_a12 o_a13 o_a14 o_a15 o_a16 o_s o_m o_image o_was o_hasImage o_place o_rowAt o_rowEnd o_numbers o_most o_seed o_kept o_keptKind o_keptFigure o_sort o_size o_element o_thrown p1 r1 h2) ⟨rfl, rfl⟩ ⟨Nat.le_of_ble_eq_true rfl, Nat.le_of_ble_eq_true rfl⟩ ⟨Nat.zero_le _, Nat.zero_le _⟩ hP rfl rfl rfl hG rfl hl.1 rfl (Nat.le_of_ble_eq_true rfl) dX10_power_2 rfl ?_
  refine lv_if_eq (tgt := 17) hx hb dX10_power_5 (by decide) (fun c3 => ?_) (fun c3 => ?_)
  · have hv := if_y c3 hv
    refine lv_ldc2 (v := (1000000001 : Int64)) hx hb hown (ht _ kw_5_148) dX10_power_17 ?_
    exact W.lret (v := (1000000001 : Int64)) hx hb hr (fun t h9 _ => ⟨rv_l hv, h9⟩) (fun q h => absurd h List.not_mem_nil) dX10_power_20 hlk
  · have hv := if_n c3 hv
    refine lv_iload_n hx hb dX10_power_8 rfl (lv_at hl 2 rfl) ?_
    refine lv_iconst (v := (0 : Int32)) hx hb dX10_power_9 (by decide) ?_
    refine lv_iconst (v := (1 : Int32)) hx hb dX10_power_10 (by decide) ?_
    obtain ⟨r4, h5, hv⟩ := ob_s hv
    refine rdS (rest := []) (st1 := [.int r4]) (w := []) hC q_X10_isIn kw_4_200 (c_X10_isIn l E p2 (0 : Int32) (1 : Int32) r4 h5) ⟨rfl, rfl⟩ ⟨Nat.le_of_ble_eq_true rfl, Nat.le_of_ble_eq_true rfl⟩ ⟨Nat.zero_le _, Nat.zero_le _⟩ (hP.sub (ws' := []) [] rfl) hG rfl hl.1 rfl (Nat.le_of_ble_eq_true rfl) dX10_power_11 rfl ?_
    refine lv_if_ne (tgt := 21) hx hb dX10_power_14 (by decide) (fun c6 => ?_) (fun c6 => ?_)
    · have hv := if_n c6 hv
      refine lv_aload_n hx hb dX10_power_21 rfl (lv_at hl 0 rfl) ?_
      refine va_get (D := E.1) (ci := 4) (v := .ref o_a0) (C := RX10) (T := TX10) (N := 18) hx hb ht i_X10 hown hK hP 0 rfl rfl 0 (by decide) (ht _ kw_4_134) (fun _ h9 => h9) rfl dX10_power_22 ?_
      obtain ⟨r7, h8, hv⟩ := ob_s hv
      refine rdS (rest := []) (st1 := [.int r7]) (w := [ai E o_a0 42 o_s]) hC q_X10_heardIn kw_5_73 (c_X10_heardIn l E o_a0 o_s N r7 h8) ⟨rfl, rfl⟩ ⟨Nat.le_of_ble_eq_true rfl, Nat.le_of_ble_eq_true rfl⟩ ⟨Nat.zero_le _, Nat.zero_le _⟩ (hP.sub (ws' := [ai E o_a0 42 o_s]) [1] rfl) hG rfl hl.1 rfl (Nat.le_of_ble_eq_true rfl) dX10_power_25 rfl ?_
      obtain ⟨r9, h10, hv⟩ := ob_s hv
      refine rdS (rest := []) (st1 := [.int r9]) (w := []) hC q_X10_bits kw_5_149 (c_X10_bits l E r7 N r9 h10) ⟨rfl, rfl⟩ ⟨Nat.le_of_ble_eq_true rfl, Nat.le_of_ble_eq_true rfl⟩ ⟨Nat.zero_le _, Nat.zero_le _⟩ (hP.sub (ws' := []) [] rfl) hG rfl hl.1 rfl (Nat.le_of_ble_eq_true rfl) dX10_power_28 rfl ?_
      refine lv_istore_n (lv' := [(3, .int r9), (0, .ref o_h), (1, .int p1), (2, .int p2)]) hx hb dX10_power_31 rfl hl (by decide) rfl (fun ls hl => ?_)
      refine lv_lconst (v := (0 : Int64)) hx hb dX10_power_32 (by decide) ?_
      refine lv_lstore (lv' := [(4, .long (0 : Int64)), (3, .int r9), (0, .ref o_h), (1, .int p1), (2, .int p2)]) hx hb dX10_power_33 hl (by decide) rfl (fun ls hl => ?_)
      refine lv_iconst (v := (0 : Int32)) hx hb dX10_power_35 (by decide) ?_
      refine lv_istore (lv' := [(6, .int (0 : Int32)), (4, .long (0 : Int64)), (3, .int r9), (0, .ref o_h), (1, .int p1), (2, .int p2)]) hx hb dX10_power_36 hl (by decide) rfl (fun ls hl => ?_)
      have hL38 : ∀ (n : Nat) (x11 : Int32) (x12 : Int64) (ls : Array Slot), lv_has ls 7 [(6, .int x11), (4, .long x12), (3, .int r9), (0, .ref o_h), (1, .int p1), (2, .int p2)] → L_X10_power_38 N o_s p1 p2 r9 n x11 x12 = some res → W p l e ({ frames := 6, cells := 0, slots := 0, locals := 131 }) s m [.ref o_h, .int p1, .int p2].toArray below meth c s.heap [] 0 0 (MQ below (RdQ (some (.long res))) [.ref o_h, .int p1, .int p2].toArray s 0 0 (fun _ => False)) (F0 m 38 ls []) := by
        intro n
        induction n with
        | zero => intro x11 x12 ls hl hv; cases hv
        | succ n38 ih38 =>
          intro x11 x12 ls hl hv
          rw [L_X10_power_38] at hv
          refine lv_iload hx hb dX10_power_38 (lv_at hl 0 rfl) ?_
          refine lv_iconst (v := (1 : Int32)) hx hb dX10_power_40 (by decide) ?_
          refine lv_aload_n hx hb dX10_power_41 rfl (lv_at hl 3 rfl) ?_
          refine va_get (D := E.1) (ci := 4) (v := .ref o_a0) (C := RX10) (T := TX10) (N := 18) hx hb ht i_X10 hown hK hP 0 rfl rfl 0 (by decide) (ht _ kw_4_134) (fun _ h9 => h9) rfl dX10_power_42 ?_
          refine lv_iconst (v := (0 : Int32)) hx hb dX10_power_45 (by decide) ?_
          refine va_iald hx hb hK hP 1 0 rfl rfl (ix_s (by decide)) dX10_power_46 ?_
          refine W.eq (g2 := F0 m 47 ls [.int (o_s 0), .int (1 : Int32), .int x11]) rfl ?_
          refine lv_ishl hx hb dX10_power_47 ?_
          refine lv_icmp_ge (tgt := 102) hx hb dX10_power_48 (by decide) (fun c13 => ?_) (fun c13 => ?_)
          · have hv := if_y c13 hv
            refine lv_lload hx hb dX10_power_102 (lv_at hl 1 rfl) ?_
            refine lv_iload_n hx hb dX10_power_104 rfl (lv_at hl 2 rfl) ?_
            obtain ⟨r14, h15, hv⟩ := ob_s hv
            refine rdS (rest := [.long x12]) (st1 := [.long r14, .long x12]) (w := []) hC q_X10_orders kw_5_160 (c_X10_orders l E r9 N r14 h15) ⟨rfl, rfl⟩ ⟨Nat.le_of_ble_eq_true rfl, Nat.le_of_ble_eq_true rfl⟩ ⟨Nat.zero_le _, Nat.zero_le _⟩ (hP.sub (ws' := []) [] rfl) hG rfl hl.1 rfl (Nat.le_of_ble_eq_true rfl) dX10_power_105 rfl ?_
            refine lv_iload_n hx hb dX10_power_108 rfl (lv_at hl 5 rfl) ?_
            obtain ⟨r16, h17, hv⟩ := ob_s hv
            refine rdS (rest := []) (st1 := [.long r16]) (w := []) hC q_X10_partOf kw_5_163 (c_X10_partOf l E x12 r14 p2 N r16 h17) ⟨rfl, rfl⟩ ⟨Nat.le_of_ble_eq_true rfl, Nat.le_of_ble_eq_true rfl⟩ ⟨Nat.zero_le _, Nat.zero_le _⟩ (hP.sub (ws' := []) [] rfl) hG rfl hl.1 rfl (Nat.le_of_ble_eq_true rfl) dX10_power_109 rfl ?_
            exact W.lret (v := r16) hx hb hr (fun t h9 _ => ⟨rv_l hv, h9⟩) (fun q h => absurd h List.not_mem_nil) dX10_power_112 hlk
          · have hv := if_n c13 hv
            refine lv_aload_n hx hb dX10_power_51 rfl (lv_at hl 3 rfl) ?_
            refine lv_iload hx hb dX10_power_52 (lv_at hl 0 rfl) ?_
            obtain ⟨r18, h19, hv⟩ := ob_s hv
            refine rdV 4 0 (As := [.int x11]) (rest := []) (st1 := [.int r18]) (w := [oMo o_h o_a0 o_a1 o_a2 o_a3 o_hasImage o_place o_rowAt o_rowEnd o_a8 o_a9 o_seed o_a11 o_a12 o_a13 o_a14 o_a15 o_a16 o_thrown, ai E o_a0 42 o_s, ai E o_a1 42 o_m, ai E o_a2 42 o_image, ai E o_a3 42 o_was, ai E o_a8 3 o_numbers, ai E o_a9 8192 o_most, ai E o_a11 8 o_kept, ai E o_a12 8 o_keptKind, ai E o_a13 8 o_keptFigure, ai E o_a14 8 o_sort, ai E o_a15 8 o_size, ai E o_a16 800 o_element]) hC q_X10_isOfHeard kw_5_152 (c_X10_isOfHeard l E o_h o_a0 o_a1 o_a2 o_a3 o_a8 o_a9 o_a11 o_a12 o_a13 o_a14 o_a15 o_a16 o_s o_m o_image o_was o_hasImage o_place o_rowAt o_rowEnd o_numbers o_most o_seed o_kept o_keptKind o_keptFigure o_sort o_size o_element o_thrown x11 N r18 h19) ⟨rfl, rfl⟩ ⟨Nat.le_of_ble_eq_true rfl, Nat.le_of_ble_eq_true rfl⟩ ⟨Nat.zero_le _, Nat.zero_le _⟩ hP rfl rfl rfl hG rfl hl.1 rfl (Nat.le_of_ble_eq_true rfl) dX10_power_54 rfl ?_
            refine lv_if_eq (tgt := 96) hx hb dX10_power_57 (by decide) (fun c20 => ?_) (fun c20 => ?_)
            · have hv := if_y c20 hv
              refine lv_iinc (v := (x11 + (1 : Int32))) (lv' := [(6, .int (x11 + (1 : Int32))), (4, .long x12), (3, .int r9), (0, .ref o_h), (1, .int p1), (2, .int p2)]) hx hb dX10_power_96 hl (k := 0) rfl rfl (by decide) rfl (fun ls hl => ?_)
              refine lv_goto (tgt := 38) hx hb dX10_power_99 (by decide) ?_
              exact ih38 (x11 + (1 : Int32)) x12 _ (lv_sub hl [0, 1, 2, 3, 4, 5] rfl) hv
            · have hv := if_n c20 hv
              refine lv_aload_n hx hb dX10_power_60 rfl (lv_at hl 3 rfl) ?_
              refine lv_iload hx hb dX10_power_61 (lv_at hl 0 rfl) ?_
              refine lv_iload_n hx hb dX10_power_63 rfl (lv_at hl 4 rfl) ?_
              obtain ⟨r21, h22, hv⟩ := ob_s hv
              refine rdV 4 0 (As := [.int x11, .int p1]) (rest := []) (st1 := [.int r21]) (w := [oMo o_h o_a0 o_a1 o_a2 o_a3 o_hasImage o_place o_rowAt o_rowEnd o_a8 o_a9 o_seed o_a11 o_a12 o_a13 o_a14 o_a15 o_a16 o_thrown, ai E o_a0 42 o_s, ai E o_a1 42 o_m, ai E o_a2 42 o_image, ai E o_a3 42 o_was, ai E o_a8 3 o_numbers, ai E o_a9 8192 o_most, ai E o_a11 8 o_kept, ai E o_a12 8 o_keptKind, ai E o_a13 8 o_keptFigure, ai E o_a14 8 o_sort, ai E o_a15 8 o_size, ai E o_a16 800 o_element]) hC q_X10_doesSwing kw_5_156 (c_X10_doesSwing l E o_h o_a0 o_a1 o_a2 o_a3 o_a8 o_a9 o_a11 o_a12 o_a13 o_a14 o_a15 o_a16 o_s o_m o_image o_was o_hasImage o_place o_rowAt o_rowEnd o_numbers o_most o_seed o_kept o_keptKind o_keptFigure o_sort o_size o_element o_thrown x11 p1 N r21 h22) ⟨rfl, rfl⟩ ⟨Nat.le_of_ble_eq_true rfl, Nat.le_of_ble_eq_true rfl⟩ ⟨Nat.zero_le _, Nat.zero_le _⟩ hP rfl rfl rfl hG rfl hl.1 rfl (Nat.le_of_ble_eq_true rfl) dX10_power_64 rfl ?_
              refine lv_if_eq (tgt := 96) hx hb dX10_power_67 (by decide) (fun c23 => ?_) (fun c23 => ?_)
              · have hv := if_y c23 hv
                refine lv_iinc (v := (x11 + (1 : Int32))) (lv' := [(6, .int (x11 + (1 : Int32))), (4, .long x12), (3, .int r9), (0, .ref o_h), (1, .int p1), (2, .int p2)]) hx hb dX10_power_96 hl (k := 0) rfl rfl (by decide) rfl (fun ls hl => ?_)
                refine lv_goto (tgt := 38) hx hb dX10_power_99 (by decide) ?_
                exact ih38 (x11 + (1 : Int32)) x12 _ (lv_sub hl [0, 1, 2, 3, 4, 5] rfl) hv
              · have hv := if_n c23 hv
                refine lv_lload hx hb dX10_power_70 (lv_at hl 1 rfl) ?_
                refine lv_iload hx hb dX10_power_72 (lv_at hl 0 rfl) ?_
                obtain ⟨r24, h25, hv⟩ := ob_s hv
                refine rdS (rest := [.long x12]) (st1 := [.int r24, .long x12]) (w := []) hC q_X10_bits kw_5_149 (c_X10_bits l E x11 N r24 h25) ⟨rfl, rfl⟩ ⟨Nat.le_of_ble_eq_true rfl, Nat.le_of_ble_eq_true rfl⟩ ⟨Nat.zero_le _, Nat.zero_le _⟩ (hP.sub (ws' := []) [] rfl) hG rfl hl.1 rfl (Nat.le_of_ble_eq_true rfl) dX10_power_74 rfl ?_
                refine lv_iconst (v := (1 : Int32)) hx hb dX10_power_77 (by decide) ?_
                refine lv_isub hx hb dX10_power_78 ?_
                obtain ⟨r26, h27, hv⟩ := ob_s hv
                refine rdS (rest := [.long x12]) (st1 := [.long r26, .long x12]) (w := []) hC q_X10_orders kw_5_160 (c_X10_orders l E (r24 - (1 : Int32)) N r26 h27) ⟨rfl, rfl⟩ ⟨Nat.le_of_ble_eq_true rfl, Nat.le_of_ble_eq_true rfl⟩ ⟨Nat.zero_le _, Nat.zero_le _⟩ (hP.sub (ws' := []) [] rfl) hG rfl hl.1 rfl (Nat.le_of_ble_eq_true rfl) dX10_power_79 rfl ?_
                refine lv_iload_n hx hb dX10_power_82 rfl (lv_at hl 2 rfl) ?_
                refine lv_iload hx hb dX10_power_83 (lv_at hl 0 rfl) ?_
                obtain ⟨r28, h29, hv⟩ := ob_s hv
                refine rdS (rest := [.int r9, .long r26, .long x12]) (st1 := [.int r28, .int r9, .long r26, .long x12]) (w := []) hC q_X10_bits kw_5_149 (c_X10_bits l E x11 N r28 h29) ⟨rfl, rfl⟩ ⟨Nat.le_of_ble_eq_true rfl, Nat.le_of_ble_eq_true rfl⟩ ⟨Nat.zero_le _, Nat.zero_le _⟩ (hP.sub (ws' := []) [] rfl) hG rfl hl.1 rfl (Nat.le_of_ble_eq_true rfl) dX10_power_85 rfl ?_
                refine lv_isub hx hb dX10_power_88 ?_
                obtain ⟨r30, h31, hv⟩ := ob_s hv
                refine rdS (rest := [.long r26, .long x12]) (st1 := [.long r30, .long r26, .long x12]) (w := []) hC q_X10_orders kw_5_160 (c_X10_orders l E (r9 - r28) N r30 h31) ⟨rfl, rfl⟩ ⟨Nat.le_of_ble_eq_true rfl, Nat.le_of_ble_eq_true rfl⟩ ⟨Nat.zero_le _, Nat.zero_le _⟩ (hP.sub (ws' := []) [] rfl) hG rfl hl.1 rfl (Nat.le_of_ble_eq_true rfl) dX10_power_89 rfl ?_
                refine lv_lmul hx hb dX10_power_92 ?_
                refine lv_ladd hx hb dX10_power_93 ?_
                refine lv_lstore (lv' := [(4, .long (x12 + (r26 * r30))), (6, .int x11), (3, .int r9), (0, .ref o_h), (1, .int p1), (2, .int p2)]) hx hb dX10_power_94 hl (by decide) rfl (fun ls hl => ?_)
                refine lv_iinc (v := (x11 + (1 : Int32))) (lv' := [(6, .int (x11 + (1 : Int32))), (4, .long (x12 + (r26 * r30))), (3, .int r9), (0, .ref o_h), (1, .int p1), (2, .int p2)]) hx hb dX10_power_96 hl (k := 1) rfl rfl (by decide) rfl (fun ls hl => ?_)
                refine lv_goto (tgt := 38) hx hb dX10_power_99 (by decide) ?_
                exact ih38 (x11 + (1 : Int32)) (x12 + (r26 * r30)) _ (lv_sub hl [0, 1, 2, 3, 4, 5] rfl) hv
      exact hL38 N (0 : Int32) (0 : Int64) _ (lv_sub hl [0, 1, 2, 3, 4, 5] rfl) hv
    · have hv := if_y c6 hv
      refine lv_ldc2 (v := (1000000001 : Int64)) hx hb hown (ht _ kw_5_148) dX10_power_17 ?_
      exact W.lret (v := (1000000001 : Int64)) hx hb hr (fun t h9 _ => ⟨rv_l hv, h9⟩) (fun q h => absurd h List.not_mem_nil) dX10_power_20 hlk
theorem dX10_smallest_0 : decode cX10_smallest 0 = .ok (.bipush (-4), 2) := by decide +kernel
theorem dX10_smallest_2 : decode cX10_smallest 2 = .ok (.istore_n 1, 1) := by decide +kernel
theorem dX10_smallest_3 : decode cX10_smallest 3 = .ok (.iconst 0, 1) := by decide +kernel
theorem dX10_smallest_4 : decode cX10_smallest 4 = .ok (.istore_n 2, 1) := by decide +kernel
theorem dX10_smallest_5 : decode cX10_smallest 5 = .ok (.iload_n 2, 1) := by decide +kernel
theorem dX10_smallest_6 : decode cX10_smallest 6 = .ok (.iconst 1, 1) := by decide +kernel
theorem dX10_smallest_7 : decode cX10_smallest 7 = .ok (.aload_n 0, 1) := by decide +kernel
theorem dX10_smallest_8 : decode cX10_smallest 8 = .ok (.getfield 9, 3) := by decide +kernel
theorem dX10_smallest_11 : decode cX10_smallest 11 = .ok (.iconst 0, 1) := by decide +kernel
theorem dX10_smallest_12 : decode cX10_smallest 12 = .ok (.iaload, 1) := by decide +kernel
theorem dX10_smallest_13 : decode cX10_smallest 13 = .ok (.ishl, 1) := by decide +kernel
theorem dX10_smallest_14 : decode cX10_smallest 14 = .ok (.if_icmp .ge 48, 3) := by decide +kernel
theorem dX10_smallest_17 : decode cX10_smallest 17 = .ok (.aload_n 0, 1) := by decide +kernel
theorem dX10_smallest_18 : decode cX10_smallest 18 = .ok (.iload_n 2, 1) := by decide +kernel
theorem dX10_smallest_19 : decode cX10_smallest 19 = .ok (.invokevirtual 198, 3) := by decide +kernel
theorem dX10_smallest_22 : decode cX10_smallest 22 = .ok (.ifCond .eq 34, 3) := by decide +kernel
theorem dX10_smallest_25 : decode cX10_smallest 25 = .ok (.aload_n 0, 1) := by decide +kernel
theorem dX10_smallest_26 : decode cX10_smallest 26 = .ok (.iload_n 2, 1) := by decide +kernel
theorem dX10_smallest_27 : decode cX10_smallest 27 = .ok (.aload_n 0, 1) := by decide +kernel
theorem dX10_smallest_28 : decode cX10_smallest 28 = .ok (.getfield 9, 3) := by decide +kernel
theorem dX10_smallest_31 : decode cX10_smallest 31 = .ok (.iconst 2, 1) := by decide +kernel
theorem dX10_smallest_32 : decode cX10_smallest 32 = .ok (.iaload, 1) := by decide +kernel
theorem dX10_smallest_33 : decode cX10_smallest 33 = .ok (.invokevirtual 186, 3) := by decide +kernel
theorem dX10_smallest_36 : decode cX10_smallest 36 = .ok (.ifCond .eq 20, 3) := by decide +kernel
theorem dX10_smallest_39 : decode cX10_smallest 39 = .ok (.iload_n 1, 1) := by decide +kernel
theorem dX10_smallest_40 : decode cX10_smallest 40 = .ok (.ifCond .lt 14, 3) := by decide +kernel
theorem dX10_smallest_43 : decode cX10_smallest 43 = .ok (.iload_n 2, 1) := by decide +kernel
theorem dX10_smallest_44 : decode cX10_smallest 44 = .ok (.invokestatic 195, 3) := by decide +kernel
theorem dX10_smallest_47 : decode cX10_smallest 47 = .ok (.iload_n 1, 1) := by decide +kernel
theorem dX10_smallest_48 : decode cX10_smallest 48 = .ok (.invokestatic 195, 3) := by decide +kernel
theorem dX10_smallest_51 : decode cX10_smallest 51 = .ok (.if_icmp .ge 5, 3) := by decide +kernel
theorem dX10_smallest_54 : decode cX10_smallest 54 = .ok (.iload_n 2, 1) := by decide +kernel
theorem dX10_smallest_55 : decode cX10_smallest 55 = .ok (.istore_n 1, 1) := by decide +kernel
theorem dX10_smallest_56 : decode cX10_smallest 56 = .ok (.iinc 2 1, 3) := by decide +kernel
theorem dX10_smallest_59 : decode cX10_smallest 59 = .ok (.goto (-54), 3) := by decide +kernel
theorem dX10_smallest_62 : decode cX10_smallest 62 = .ok (.iload_n 1, 1) := by decide +kernel
theorem dX10_smallest_63 : decode cX10_smallest 63 = .ok (.ireturn, 1) := by decide +kernel
def L_X10_smallest_5 (N : Nat) (o_s : Nat → Int32) : Nat → Int32 → Int32 → Option (Int32)
  | 0, _, _ => none
  | n5 + 1, x1, x2 => if ((1 : Int32) <<< ((o_s 0) &&& 31)) ≤ x1 then some x2 else ob (f_X10_isOfHeard N o_s x1) (fun r4 => if r4 = 0 then L_X10_smallest_5 N o_s n5 (x1 + (1 : Int32)) x2 else ob (f_X10_couldBy N o_s x1 (o_s 2)) (fun r7 => if r7 = 0 then L_X10_smallest_5 N o_s n5 (x1 + (1 : Int32)) x2 else if x2 < 0 then L_X10_smallest_5 N o_s n5 (x1 + (1 : Int32)) x1 else ob (f_X10_bits N x1) (fun r11 => ob (f_X10_bits N x2) (fun r13 => if r13 ≤ r11 then L_X10_smallest_5 N o_s n5 (x1 + (1 : Int32)) x2 else L_X10_smallest_5 N o_s n5 (x1 + (1 : Int32)) x1))))
def f_X10_smallest (N : Nat) (o_s : Nat → Int32) : Option (Int32) := L_X10_smallest_5 N o_s N (0 : Int32) (-4 : Int32)
set_option maxHeartbeats 4000000 in
set_option maxRecDepth 100000 in
theorem c_X10_smallest (l : Launch) (E : EE) (o_h : Nat) (o_a0 : Nat) (o_a1 : Nat) (o_a2 : Nat) (o_a3 : Nat) (o_a8 : Nat) (o_a9 : Nat) (o_a11 : Nat) (o_a12 : Nat) (o_a13 : Nat) (o_a14 : Nat) (o_a15 : Nat) (o_a16 : Nat) (o_s : Nat → Int32) (o_m : Nat → Int32) (o_image : Nat → Int32) (o_was : Nat → Int32) (o_hasImage : Int32) (o_place : Int32) (o_rowAt : Int32) (o_rowEnd : Int32) (o_numbers : Nat → Int32) (o_most : Nat → Int32) (o_seed : Int32) (o_kept : Nat → Int32) (o_keptKind : Nat → Int32) (o_keptFigure : Nat → Int32) (o_sort : Nat → Int32) (o_size : Nat → Int32) (o_element : Nat → Int32) (o_thrown : Int32) (N : Nat) (res : Int32) (hv : f_X10_smallest N o_s = some res) : Rd l E yX10_smallest cX10_smallest 3 (some .int) ({ frames := 5, cells := 0, slots := 0, locals := 109 }) [.ref o_h] [oMo o_h o_a0 o_a1 o_a2 o_a3 o_hasImage o_place o_rowAt o_rowEnd o_a8 o_a9 o_seed o_a11 o_a12 o_a13 o_a14 o_a15 o_a16 o_thrown, ai E o_a0 42 o_s, ai E o_a1 42 o_m, ai E o_a2 42 o_image, ai E o_a3 42 o_was, ai E o_a8 3 o_numbers, ai E o_a9 8192 o_most, ai E o_a11 8 o_kept, ai E o_a12 8 o_keptKind, ai E o_a13 8 o_keptFigure, ai E o_a14 8 o_sort, ai E o_a15 8 o_size, ai E o_a16 800 o_element] (some (.int res)) := by
  refine Rd.intro RX10 (by decide) rfl (Nat.le_of_ble_eq_true rfl) ?_
  intro p e s m below meth c ls hC hr hlk hP hG hl
  obtain ⟨hx, hb, hml, hown, ht⟩ := id hC
  have hK := hG.1
  have hl : lv_has ls 3 [(0, .ref o_h)] := hl
  rw [f_X10_smallest] at hv
  refine lv_bipush (v := (-4 : Int32)) hx hb dX10_smallest_0 (by decide) ?_
  refine lv_istore_n (lv' := [(1, .int (-4 : Int32)), (0, .ref o_h)]) hx hb dX10_smallest_2 rfl hl (by decide) rfl (fun ls hl => ?_)
  refine lv_iconst (v := (0 : Int32)) hx hb dX10_smallest_3 (by decide) ?_
  refine lv_istore_n (lv' := [(2, .int (0 : Int32)), (1, .int (-4 : Int32)), (0, .ref o_h)]) hx hb dX10_smallest_4 rfl hl (by decide) rfl (fun ls hl => ?_)
  have hL5 : ∀ (n : Nat) (x1 : Int32) (x2 : Int32) (ls : Array Slot), lv_has ls 3 [(2, .int x1), (1, .int x2), (0, .ref o_h)] → L_X10_smallest_5 N o_s n x1 x2 = some res → W p l e ({ frames := 5, cells := 0, slots := 0, locals := 109 }) s m [.ref o_h].toArray below meth c s.heap [] 0 0 (MQ below (RdQ (some (.int res))) [.ref o_h].toArray s 0 0 (fun _ => False)) (F0 m 5 ls []) := by
    intro n
    induction n with
    | zero => intro x1 x2 ls hl hv; cases hv
    | succ n5 ih5 =>
      intro x1 x2 ls hl hv
      rw [L_X10_smallest_5] at hv
      refine lv_iload_n hx hb dX10_smallest_5 rfl (lv_at hl 0 rfl) ?_
      refine lv_iconst (v := (1 : Int32)) hx hb dX10_smallest_6 (by decide) ?_
      refine lv_aload_n hx hb dX10_smallest_7 rfl (lv_at hl 2 rfl) ?_
      refine va_get (D := E.1) (ci := 4) (v := .ref o_a0) (C := RX10) (T := TX10) (N := 18) hx hb ht i_X10 hown hK hP 0 rfl rfl 0 (by decide) (ht _ kw_4_134) (fun _ h9 => h9) rfl dX10_smallest_8 ?_
      refine lv_iconst (v := (0 : Int32)) hx hb dX10_smallest_11 (by decide) ?_
      refine va_iald hx hb hK hP 1 0 rfl rfl (ix_s (by decide)) dX10_smallest_12 ?_
      refine W.eq (g2 := F0 m 13 ls [.int (o_s 0), .int (1 : Int32), .int x1]) rfl ?_
      refine lv_ishl hx hb dX10_smallest_13 ?_
      refine lv_icmp_ge (tgt := 62) hx hb dX10_smallest_14 (by decide) (fun c3 => ?_) (fun c3 => ?_)
      · have hv := if_y c3 hv
        refine lv_iload_n hx hb dX10_smallest_62 rfl (lv_at hl 1 rfl) ?_
        exact W.iret (v := x2) hx hb hr (fun t h9 _ => ⟨rv_i hv, h9⟩) (fun q h => absurd h List.not_mem_nil) dX10_smallest_63 hlk
      · have hv := if_n c3 hv
        refine lv_aload_n hx hb dX10_smallest_17 rfl (lv_at hl 2 rfl) ?_
        refine lv_iload_n hx hb dX10_smallest_18 rfl (lv_at hl 0 rfl) ?_
        obtain ⟨r4, h5, hv⟩ := ob_s hv
        refine rdV 4 0 (As := [.int x1]) (rest := []) (st1 := [.int r4]) (w := [oMo o_h o_a0 o_a1 o_a2 o_a3 o_hasImage o_place o_rowAt o_rowEnd o_a8 o_a9 o_seed o_a11 o_a12 o_a13 o_a14 o_a15 o_a16 o_thrown, ai E o_a0 42 o_s, ai E o_a1 42 o_m, ai E o_a2 42 o_image, ai E o_a3 42 o_was, ai E o_a8 3 o_numbers, ai E o_a9 8192 o_most, ai E o_a11 8 o_kept, ai E o_a12 8 o_keptKind, ai E o_a13 8 o_keptFigure, ai E o_a14 8 o_sort, ai E o_a15 8 o_size, ai E o_a16 800 o_element]) hC q_X10_isOfHeard kw_5_152 (c_X10_isOfHeard l E o_h o_a0 o_a1 o_a2 o_a3 o_a8 o_a9 o_a11 o_a12 o_a13 o_a14 o_a15 o_a16 o_s o_m o_image o_was o_hasImage o_place o_rowAt o_rowEnd o_numbers o_most o_seed o_kept o_keptKind o_keptFigure o_sort o_size o_element o_thrown x1 N r4 h5) ⟨rfl, rfl⟩ ⟨Nat.le_of_ble_eq_true rfl, Nat.le_of_ble_eq_true rfl⟩ ⟨Nat.zero_le _, Nat.zero_le _⟩ hP rfl rfl rfl hG rfl hl.1 rfl (Nat.le_of_ble_eq_true rfl) dX10_smallest_19 rfl ?_
        refine lv_if_eq (tgt := 56) hx hb dX10_smallest_22 (by decide) (fun c6 => ?_) (fun c6 => ?_)
        · have hv := if_y c6 hv
          refine lv_iinc (v := (x1 + (1 : Int32))) (lv' := [(2, .int (x1 + (1 : Int32))), (1, .int x2), (0, .ref o_h)]) hx hb dX10_smallest_56 hl (k := 0) rfl rfl (by decide) rfl (fun ls hl => ?_)
          refine lv_goto (tgt := 5) hx hb dX10_smallest_59 (by decide) ?_
          exact ih5 (x1 + (1 : Int32)) x2 _ (lv_sub hl [0, 1, 2] rfl) hv
        · have hv := if_n c6 hv
          refine lv_aload_n hx hb dX10_smallest_25 rfl (lv_at hl 2 rfl) ?_
          refine lv_iload_n hx hb dX10_smallest_26 rfl (lv_at hl 0 rfl) ?_
          refine lv_aload_n hx hb dX10_smallest_27 rfl (lv_at hl 2 rfl) ?_
          refine va_get (D := E.1) (ci := 4) (v := .ref o_a0) (C := RX10) (T := TX10) (N := 18) hx hb ht i_X10 hown hK hP 0 rfl rfl 0 (by decide) (ht _ kw_4_134) (fun _ h9 => h9) rfl dX10_smallest_28 ?_
          refine lv_iconst (v := (2 : Int32)) hx hb dX10_smallest_31 (by decide) ?_
          refine va_iald hx hb hK hP 1 0 rfl rfl (ix_s (by decide)) dX10_smallest_32 ?_
          refine W.eq (g2 := F0 m 33 ls [.int (o_s 2), .int x1, .ref o_h]) rfl ?_
          obtain ⟨r7, h8, hv⟩ := ob_s hv
          refine rdV 4 0 (As := [.int x1, .int (o_s 2)]) (rest := []) (st1 := [.int r7]) (w := [oMo o_h o_a0 o_a1 o_a2 o_a3 o_hasImage o_place o_rowAt o_rowEnd o_a8 o_a9 o_seed o_a11 o_a12 o_a13 o_a14 o_a15 o_a16 o_thrown, ai E o_a0 42 o_s, ai E o_a1 42 o_m, ai E o_a2 42 o_image, ai E o_a3 42 o_was, ai E o_a8 3 o_numbers, ai E o_a9 8192 o_most, ai E o_a11 8 o_kept, ai E o_a12 8 o_keptKind, ai E o_a13 8 o_keptFigure, ai E o_a14 8 o_sort, ai E o_a15 8 o_size, ai E o_a16 800 o_element]) hC q_X10_couldBy kw_5_140 (c_X10_couldBy l E o_h o_a0 o_a1 o_a2 o_a3 o_a8 o_a9 o_a11 o_a12 o_a13 o_a14 o_a15 o_a16 o_s o_m o_image o_was o_hasImage o_place o_rowAt o_rowEnd o_numbers o_most o_seed o_kept o_keptKind o_keptFigure o_sort o_size o_element o_thrown x1 (o_s 2) N r7 h8) ⟨rfl, rfl⟩ ⟨Nat.le_of_ble_eq_true rfl, Nat.le_of_ble_eq_true rfl⟩ ⟨Nat.zero_le _, Nat.zero_le _⟩ hP rfl rfl rfl hG rfl hl.1 rfl (Nat.le_of_ble_eq_true rfl) dX10_smallest_33 rfl ?_
          refine lv_if_eq (tgt := 56) hx hb dX10_smallest_36 (by decide) (fun c9 => ?_) (fun c9 => ?_)
          · have hv := if_y c9 hv
            refine lv_iinc (v := (x1 + (1 : Int32))) (lv' := [(2, .int (x1 + (1 : Int32))), (1, .int x2), (0, .ref o_h)]) hx hb dX10_smallest_56 hl (k := 0) rfl rfl (by decide) rfl (fun ls hl => ?_)
            refine lv_goto (tgt := 5) hx hb dX10_smallest_59 (by decide) ?_
            exact ih5 (x1 + (1 : Int32)) x2 _ (lv_sub hl [0, 1, 2] rfl) hv
          · have hv := if_n c9 hv
            refine lv_iload_n hx hb dX10_smallest_39 rfl (lv_at hl 1 rfl) ?_
            refine lv_if_lt (tgt := 54) hx hb dX10_smallest_40 (by decide) (fun c10 => ?_) (fun c10 => ?_)
            · have hv := if_y c10 hv
              refine lv_iload_n hx hb dX10_smallest_54 rfl (lv_at hl 0 rfl) ?_
              refine lv_istore_n (lv' := [(1, .int x1), (2, .int x1), (0, .ref o_h)]) hx hb dX10_smallest_55 rfl hl (by decide) rfl (fun ls hl => ?_)
              refine lv_iinc (v := (x1 + (1 : Int32))) (lv' := [(2, .int (x1 + (1 : Int32))), (1, .int x1), (0, .ref o_h)]) hx hb dX10_smallest_56 hl (k := 1) rfl rfl (by decide) rfl (fun ls hl => ?_)
              refine lv_goto (tgt := 5) hx hb dX10_smallest_59 (by decide) ?_
              exact ih5 (x1 + (1 : Int32)) x1 _ (lv_sub hl [0, 1, 2] rfl) hv
            · have hv := if_n c10 hv
              refine lv_iload_n hx hb dX10_smallest_43 rfl (lv_at hl 0 rfl) ?_
              obtain ⟨r11, h12, hv⟩ := ob_s hv
              refine rdS (rest := []) (st1 := [.int r11]) (w := []) hC q_X10_bits kw_5_149 (c_X10_bits l E x1 N r11 h12) ⟨rfl, rfl⟩ ⟨Nat.le_of_ble_eq_true rfl, Nat.le_of_ble_eq_true rfl⟩ ⟨Nat.zero_le _, Nat.zero_le _⟩ (hP.sub (ws' := []) [] rfl) hG rfl hl.1 rfl (Nat.le_of_ble_eq_true rfl) dX10_smallest_44 rfl ?_
              refine lv_iload_n hx hb dX10_smallest_47 rfl (lv_at hl 1 rfl) ?_
              obtain ⟨r13, h14, hv⟩ := ob_s hv
              refine rdS (rest := [.int r11]) (st1 := [.int r13, .int r11]) (w := []) hC q_X10_bits kw_5_149 (c_X10_bits l E x2 N r13 h14) ⟨rfl, rfl⟩ ⟨Nat.le_of_ble_eq_true rfl, Nat.le_of_ble_eq_true rfl⟩ ⟨Nat.zero_le _, Nat.zero_le _⟩ (hP.sub (ws' := []) [] rfl) hG rfl hl.1 rfl (Nat.le_of_ble_eq_true rfl) dX10_smallest_48 rfl ?_
              refine lv_icmp_ge (tgt := 56) hx hb dX10_smallest_51 (by decide) (fun c15 => ?_) (fun c15 => ?_)
              · have hv := if_y c15 hv
                refine lv_iinc (v := (x1 + (1 : Int32))) (lv' := [(2, .int (x1 + (1 : Int32))), (1, .int x2), (0, .ref o_h)]) hx hb dX10_smallest_56 hl (k := 0) rfl rfl (by decide) rfl (fun ls hl => ?_)
                refine lv_goto (tgt := 5) hx hb dX10_smallest_59 (by decide) ?_
                exact ih5 (x1 + (1 : Int32)) x2 _ (lv_sub hl [0, 1, 2] rfl) hv
              · have hv := if_n c15 hv
                refine lv_iload_n hx hb dX10_smallest_54 rfl (lv_at hl 0 rfl) ?_
                refine lv_istore_n (lv' := [(1, .int x1), (2, .int x1), (0, .ref o_h)]) hx hb dX10_smallest_55 rfl hl (by decide) rfl (fun ls hl => ?_)
                refine lv_iinc (v := (x1 + (1 : Int32))) (lv' := [(2, .int (x1 + (1 : Int32))), (1, .int x1), (0, .ref o_h)]) hx hb dX10_smallest_56 hl (k := 1) rfl rfl (by decide) rfl (fun ls hl => ?_)
                refine lv_goto (tgt := 5) hx hb dX10_smallest_59 (by decide) ?_
                exact ih5 (x1 + (1 : Int32)) x1 _ (lv_sub hl [0, 1, 2] rfl) hv
  exact hL5 N (0 : Int32) (-4 : Int32) _ (lv_sub hl [0, 1, 2] rfl) hv
theorem dX10_isLeast_0 : decode cX10_isLeast 0 = .ok (.aload_n 0, 1) := by decide +kernel
theorem dX10_isLeast_1 : decode cX10_isLeast 1 = .ok (.iload_n 1, 1) := by decide +kernel
theorem dX10_isLeast_2 : decode cX10_isLeast 2 = .ok (.invokevirtual 198, 3) := by decide +kernel
theorem dX10_isLeast_5 : decode cX10_isLeast 5 = .ok (.ifCond .eq 17, 3) := by decide +kernel
theorem dX10_isLeast_8 : decode cX10_isLeast 8 = .ok (.aload_n 0, 1) := by decide +kernel
theorem dX10_isLeast_9 : decode cX10_isLeast 9 = .ok (.iload_n 1, 1) := by decide +kernel
theorem dX10_isLeast_10 : decode cX10_isLeast 10 = .ok (.aload_n 0, 1) := by decide +kernel
theorem dX10_isLeast_11 : decode cX10_isLeast 11 = .ok (.getfield 9, 3) := by decide +kernel
theorem dX10_isLeast_14 : decode cX10_isLeast 14 = .ok (.iconst 2, 1) := by decide +kernel
theorem dX10_isLeast_15 : decode cX10_isLeast 15 = .ok (.iaload, 1) := by decide +kernel
theorem dX10_isLeast_16 : decode cX10_isLeast 16 = .ok (.invokevirtual 186, 3) := by decide +kernel
theorem dX10_isLeast_19 : decode cX10_isLeast 19 = .ok (.ifCond .ne 5, 3) := by decide +kernel
theorem dX10_isLeast_22 : decode cX10_isLeast 22 = .ok (.iconst 0, 1) := by decide +kernel
theorem dX10_isLeast_23 : decode cX10_isLeast 23 = .ok (.ireturn, 1) := by decide +kernel
theorem dX10_isLeast_24 : decode cX10_isLeast 24 = .ok (.iconst 0, 1) := by decide +kernel
theorem dX10_isLeast_25 : decode cX10_isLeast 25 = .ok (.istore_n 2, 1) := by decide +kernel
theorem dX10_isLeast_26 : decode cX10_isLeast 26 = .ok (.iload_n 2, 1) := by decide +kernel
theorem dX10_isLeast_27 : decode cX10_isLeast 27 = .ok (.aload_n 0, 1) := by decide +kernel
theorem dX10_isLeast_28 : decode cX10_isLeast 28 = .ok (.getfield 9, 3) := by decide +kernel
theorem dX10_isLeast_31 : decode cX10_isLeast 31 = .ok (.iconst 0, 1) := by decide +kernel
theorem dX10_isLeast_32 : decode cX10_isLeast 32 = .ok (.iaload, 1) := by decide +kernel
theorem dX10_isLeast_33 : decode cX10_isLeast 33 = .ok (.if_icmp .ge 28, 3) := by decide +kernel
theorem dX10_isLeast_36 : decode cX10_isLeast 36 = .ok (.iload_n 1, 1) := by decide +kernel
theorem dX10_isLeast_37 : decode cX10_isLeast 37 = .ok (.iload_n 2, 1) := by decide +kernel
theorem dX10_isLeast_38 : decode cX10_isLeast 38 = .ok (.invokestatic 62, 3) := by decide +kernel
theorem dX10_isLeast_41 : decode cX10_isLeast 41 = .ok (.ifCond .eq 14, 3) := by decide +kernel
theorem dX10_isLeast_44 : decode cX10_isLeast 44 = .ok (.aload_n 0, 1) := by decide +kernel
theorem dX10_isLeast_45 : decode cX10_isLeast 45 = .ok (.iload_n 1, 1) := by decide +kernel
theorem dX10_isLeast_46 : decode cX10_isLeast 46 = .ok (.iload_n 2, 1) := by decide +kernel
theorem dX10_isLeast_47 : decode cX10_isLeast 47 = .ok (.invokevirtual 201, 3) := by decide +kernel
theorem dX10_isLeast_50 : decode cX10_isLeast 50 = .ok (.ifCond .ne 5, 3) := by decide +kernel
theorem dX10_isLeast_53 : decode cX10_isLeast 53 = .ok (.iconst 0, 1) := by decide +kernel
theorem dX10_isLeast_54 : decode cX10_isLeast 54 = .ok (.ireturn, 1) := by decide +kernel
theorem dX10_isLeast_55 : decode cX10_isLeast 55 = .ok (.iinc 2 1, 3) := by decide +kernel
theorem dX10_isLeast_58 : decode cX10_isLeast 58 = .ok (.goto (-32), 3) := by decide +kernel
theorem dX10_isLeast_61 : decode cX10_isLeast 61 = .ok (.iconst 1, 1) := by decide +kernel
theorem dX10_isLeast_62 : decode cX10_isLeast 62 = .ok (.ireturn, 1) := by decide +kernel
def L_X10_isLeast_26 (N : Nat) (o_s : Nat → Int32) (p1 : Int32) : Nat → Int32 → Option (Int32)
  | 0, _ => none
  | n26 + 1, x7 => if (o_s 0) ≤ x7 then some (1 : Int32) else ob (f_X10_has p1 x7) (fun r9 => if r9 = 0 then L_X10_isLeast_26 N o_s p1 n26 (x7 + (1 : Int32)) else ob (f_X10_doesSwing N o_s p1 x7) (fun r12 => if r12 = 0 then some (0 : Int32) else L_X10_isLeast_26 N o_s p1 n26 (x7 + (1 : Int32))))
def f_X10_isLeast (N : Nat) (o_s : Nat → Int32) (p1 : Int32) : Option (Int32) := ob (f_X10_isOfHeard N o_s p1) (fun r1 => if r1 = 0 then some (0 : Int32) else ob (f_X10_couldBy N o_s p1 (o_s 2)) (fun r4 => if r4 = 0 then some (0 : Int32) else L_X10_isLeast_26 N o_s p1 N (0 : Int32)))
set_option maxHeartbeats 4000000 in
set_option maxRecDepth 100000 in
theorem c_X10_isLeast (l : Launch) (E : EE) (o_h : Nat) (o_a0 : Nat) (o_a1 : Nat) (o_a2 : Nat) (o_a3 : Nat) (o_a8 : Nat) (o_a9 : Nat) (o_a11 : Nat) (o_a12 : Nat) (o_a13 : Nat) (o_a14 : Nat) (o_a15 : Nat) (o_a16 : Nat) (o_s : Nat → Int32) (o_m : Nat → Int32) (o_image : Nat → Int32) (o_was : Nat → Int32) (o_hasImage : Int32) (o_place : Int32) (o_rowAt : Int32) (o_rowEnd : Int32) (o_numbers : Nat → Int32) (o_most : Nat → Int32) (o_seed : Int32) (o_kept : Nat → Int32) (o_keptKind : Nat → Int32) (o_keptFigure : Nat → Int32) (o_sort : Nat → Int32) (o_size : Nat → Int32) (o_element : Nat → Int32) (o_thrown : Int32) (p1 : Int32) (N : Nat) (res : Int32) (hv : f_X10_isLeast N o_s p1 = some res) : Rd l E yX10_isLeast cX10_isLeast 3 (some .boolean) ({ frames := 6, cells := 0, slots := 0, locals := 131 }) [.ref o_h, .int p1] [oMo o_h o_a0 o_a1 o_a2 o_a3 o_hasImage o_place o_rowAt o_rowEnd o_a8 o_a9 o_seed o_a11 o_a12 o_a13 o_a14 o_a15 o_a16 o_thrown, ai E o_a0 42 o_s, ai E o_a1 42 o_m, ai E o_a2 42 o_image, ai E o_a3 42 o_was, ai E o_a8 3 o_numbers, ai E o_a9 8192 o_most, ai E o_a11 8 o_kept, ai E o_a12 8 o_keptKind, ai E o_a13 8 o_keptFigure, ai E o_a14 8 o_sort, ai E o_a15 8 o_size, ai E o_a16 800 o_element] (some (.int res)) := by
  refine Rd.intro RX10 (by decide) rfl (Nat.le_of_ble_eq_true rfl) ?_
  intro p e s m below meth c ls hC hr hlk hP hG hl
  obtain ⟨hx, hb, hml, hown, ht⟩ := id hC
  have hK := hG.1
  have hl : lv_has ls 3 [(0, .ref o_h), (1, .int p1)] := hl
  rw [f_X10_isLeast] at hv
  refine lv_aload_n hx hb dX10_isLeast_0 rfl (lv_at hl 0 rfl) ?_
  refine lv_iload_n hx hb dX10_isLeast_1 rfl (lv_at hl 1 rfl) ?_
  obtain ⟨r1, h2, hv⟩ := ob_s hv
  refine rdV 4 0 (As := [.int p1]) (rest := []) (st1 := [.int r1]) (w := [oMo o_h o_a0 o_a1 o_a2 o_a3 o_hasImage o_place o_rowAt o_rowEnd o_a8 o_a9 o_seed o_a11 o_a12 o_a13 o_a14 o_a15 o_a16 o_thrown, ai E o_a0 42 o_s, ai E o_a1 42 o_m, ai E o_a2 42 o_image, ai E o_a3 42 o_was, ai E o_a8 3 o_numbers, ai E o_a9 8192 o_most, ai E o_a11 8 o_kept, ai E o_a12 8 o_keptKind, ai E o_a13 8 o_keptFigure, ai E o_a14 8 o_sort, ai E o_a15 8 o_size, ai E o_a16 800 o_element]) hC q_X10_isOfHeard kw_5_152 (c_X10_isOfHeard l E o_h o_a0 o_a1 o_a2 o_a3 o_a8 o_a9 o_a11 o_a12 o_a13 o_a14 o_a15 o_a16 o_s o_m o_image o_was o_hasImage o_place o_rowAt o_rowEnd o_numbers o_most o_seed o_kept o_keptKind o_keptFigure o_sort o_size o_element o_thrown p1 N r1 h2) ⟨rfl, rfl⟩ ⟨Nat.le_of_ble_eq_true rfl, Nat.le_of_ble_eq_true rfl⟩ ⟨Nat.zero_le _, Nat.zero_le _⟩ hP rfl rfl rfl hG rfl hl.1 rfl (Nat.le_of_ble_eq_true rfl) dX10_isLeast_2 rfl ?_
  refine lv_if_eq (tgt := 22) hx hb dX10_isLeast_5 (by decide) (fun c3 => ?_) (fun c3 => ?_)
  · have hv := if_y c3 hv
    refine lv_iconst (v := (0 : Int32)) hx hb dX10_isLeast_22 (by decide) ?_
    exact W.zret (v := (0 : Int32)) hx hb hr rfl (fun t h9 _ => ⟨rv_i hv, h9⟩) (fun q h => absurd h List.not_mem_nil) dX10_isLeast_23 hlk
  · have hv := if_n c3 hv
    refine lv_aload_n hx hb dX10_isLeast_8 rfl (lv_at hl 0 rfl) ?_
    refine lv_iload_n hx hb dX10_isLeast_9 rfl (lv_at hl 1 rfl) ?_
    refine lv_aload_n hx hb dX10_isLeast_10 rfl (lv_at hl 0 rfl) ?_
    refine va_get (D := E.1) (ci := 4) (v := .ref o_a0) (C := RX10) (T := TX10) (N := 18) hx hb ht i_X10 hown hK hP 0 rfl rfl 0 (by decide) (ht _ kw_4_134) (fun _ h9 => h9) rfl dX10_isLeast_11 ?_
    refine lv_iconst (v := (2 : Int32)) hx hb dX10_isLeast_14 (by decide) ?_
    refine va_iald hx hb hK hP 1 0 rfl rfl (ix_s (by decide)) dX10_isLeast_15 ?_
    refine W.eq (g2 := F0 m 16 ls [.int (o_s 2), .int p1, .ref o_h]) rfl ?_
    obtain ⟨r4, h5, hv⟩ := ob_s hv
    refine rdV 4 0 (As := [.int p1, .int (o_s 2)]) (rest := []) (st1 := [.int r4]) (w := [oMo o_h o_a0 o_a1 o_a2 o_a3 o_hasImage o_place o_rowAt o_rowEnd o_a8 o_a9 o_seed o_a11 o_a12 o_a13 o_a14 o_a15 o_a16 o_thrown, ai E o_a0 42 o_s, ai E o_a1 42 o_m, ai E o_a2 42 o_image, ai E o_a3 42 o_was, ai E o_a8 3 o_numbers, ai E o_a9 8192 o_most, ai E o_a11 8 o_kept, ai E o_a12 8 o_keptKind, ai E o_a13 8 o_keptFigure, ai E o_a14 8 o_sort, ai E o_a15 8 o_size, ai E o_a16 800 o_element]) hC q_X10_couldBy kw_5_140 (c_X10_couldBy l E o_h o_a0 o_a1 o_a2 o_a3 o_a8 o_a9 o_a11 o_a12 o_a13 o_a14 o_a15 o_a16 o_s o_m o_image o_was o_hasImage o_place o_rowAt o_rowEnd o_numbers o_most o_seed o_kept o_keptKind o_keptFigure o_sort o_size o_element o_thrown p1 (o_s 2) N r4 h5) ⟨rfl, rfl⟩ ⟨Nat.le_of_ble_eq_true rfl, Nat.le_of_ble_eq_true rfl⟩ ⟨Nat.zero_le _, Nat.zero_le _⟩ hP rfl rfl rfl hG rfl hl.1 rfl (Nat.le_of_ble_eq_true rfl) dX10_isLeast_16 rfl ?_
    refine lv_if_ne (tgt := 24) hx hb dX10_isLeast_19 (by decide) (fun c6 => ?_) (fun c6 => ?_)
    · have hv := if_n c6 hv
      refine lv_iconst (v := (0 : Int32)) hx hb dX10_isLeast_24 (by decide) ?_
      refine lv_istore_n (lv' := [(2, .int (0 : Int32)), (0, .ref o_h), (1, .int p1)]) hx hb dX10_isLeast_25 rfl hl (by decide) rfl (fun ls hl => ?_)
      have hL26 : ∀ (n : Nat) (x7 : Int32) (ls : Array Slot), lv_has ls 3 [(2, .int x7), (0, .ref o_h), (1, .int p1)] → L_X10_isLeast_26 N o_s p1 n x7 = some res → W p l e ({ frames := 6, cells := 0, slots := 0, locals := 131 }) s m [.ref o_h, .int p1].toArray below meth c s.heap [] 0 0 (MQ below (RdQ (some (.int res))) [.ref o_h, .int p1].toArray s 0 0 (fun _ => False)) (F0 m 26 ls []) := by
        intro n
        induction n with
        | zero => intro x7 ls hl hv; cases hv
        | succ n26 ih26 =>
          intro x7 ls hl hv
          rw [L_X10_isLeast_26] at hv
          refine lv_iload_n hx hb dX10_isLeast_26 rfl (lv_at hl 0 rfl) ?_
          refine lv_aload_n hx hb dX10_isLeast_27 rfl (lv_at hl 1 rfl) ?_
          refine va_get (D := E.1) (ci := 4) (v := .ref o_a0) (C := RX10) (T := TX10) (N := 18) hx hb ht i_X10 hown hK hP 0 rfl rfl 0 (by decide) (ht _ kw_4_134) (fun _ h9 => h9) rfl dX10_isLeast_28 ?_
          refine lv_iconst (v := (0 : Int32)) hx hb dX10_isLeast_31 (by decide) ?_
          refine va_iald hx hb hK hP 1 0 rfl rfl (ix_s (by decide)) dX10_isLeast_32 ?_
          refine W.eq (g2 := F0 m 33 ls [.int (o_s 0), .int x7]) rfl ?_
          refine lv_icmp_ge (tgt := 61) hx hb dX10_isLeast_33 (by decide) (fun c8 => ?_) (fun c8 => ?_)
          · have hv := if_y c8 hv
            refine lv_iconst (v := (1 : Int32)) hx hb dX10_isLeast_61 (by decide) ?_
            exact W.zret (v := (1 : Int32)) hx hb hr rfl (fun t h9 _ => ⟨rv_i hv, h9⟩) (fun q h => absurd h List.not_mem_nil) dX10_isLeast_62 hlk
          · have hv := if_n c8 hv
            refine lv_iload_n hx hb dX10_isLeast_36 rfl (lv_at hl 2 rfl) ?_
            refine lv_iload_n hx hb dX10_isLeast_37 rfl (lv_at hl 0 rfl) ?_
            obtain ⟨r9, h10, hv⟩ := ob_s hv
            refine rdS (rest := []) (st1 := [.int r9]) (w := []) hC q_X10_has kw_5_5 (c_X10_has l E p1 x7 r9 h10) ⟨rfl, rfl⟩ ⟨Nat.le_of_ble_eq_true rfl, Nat.le_of_ble_eq_true rfl⟩ ⟨Nat.zero_le _, Nat.zero_le _⟩ (hP.sub (ws' := []) [] rfl) hG rfl hl.1 rfl (Nat.le_of_ble_eq_true rfl) dX10_isLeast_38 rfl ?_
            refine lv_if_eq (tgt := 55) hx hb dX10_isLeast_41 (by decide) (fun c11 => ?_) (fun c11 => ?_)
            · have hv := if_y c11 hv
              refine lv_iinc (v := (x7 + (1 : Int32))) (lv' := [(2, .int (x7 + (1 : Int32))), (0, .ref o_h), (1, .int p1)]) hx hb dX10_isLeast_55 hl (k := 0) rfl rfl (by decide) rfl (fun ls hl => ?_)
              refine lv_goto (tgt := 26) hx hb dX10_isLeast_58 (by decide) ?_
              exact ih26 (x7 + (1 : Int32)) _ (lv_sub hl [0, 1, 2] rfl) hv
            · have hv := if_n c11 hv
              refine lv_aload_n hx hb dX10_isLeast_44 rfl (lv_at hl 1 rfl) ?_
              refine lv_iload_n hx hb dX10_isLeast_45 rfl (lv_at hl 2 rfl) ?_
              refine lv_iload_n hx hb dX10_isLeast_46 rfl (lv_at hl 0 rfl) ?_
              obtain ⟨r12, h13, hv⟩ := ob_s hv
              refine rdV 4 0 (As := [.int p1, .int x7]) (rest := []) (st1 := [.int r12]) (w := [oMo o_h o_a0 o_a1 o_a2 o_a3 o_hasImage o_place o_rowAt o_rowEnd o_a8 o_a9 o_seed o_a11 o_a12 o_a13 o_a14 o_a15 o_a16 o_thrown, ai E o_a0 42 o_s, ai E o_a1 42 o_m, ai E o_a2 42 o_image, ai E o_a3 42 o_was, ai E o_a8 3 o_numbers, ai E o_a9 8192 o_most, ai E o_a11 8 o_kept, ai E o_a12 8 o_keptKind, ai E o_a13 8 o_keptFigure, ai E o_a14 8 o_sort, ai E o_a15 8 o_size, ai E o_a16 800 o_element]) hC q_X10_doesSwing kw_5_156 (c_X10_doesSwing l E o_h o_a0 o_a1 o_a2 o_a3 o_a8 o_a9 o_a11 o_a12 o_a13 o_a14 o_a15 o_a16 o_s o_m o_image o_was o_hasImage o_place o_rowAt o_rowEnd o_numbers o_most o_seed o_kept o_keptKind o_keptFigure o_sort o_size o_element o_thrown p1 x7 N r12 h13) ⟨rfl, rfl⟩ ⟨Nat.le_of_ble_eq_true rfl, Nat.le_of_ble_eq_true rfl⟩ ⟨Nat.zero_le _, Nat.zero_le _⟩ hP rfl rfl rfl hG rfl hl.1 rfl (Nat.le_of_ble_eq_true rfl) dX10_isLeast_47 rfl ?_
              refine lv_if_ne (tgt := 55) hx hb dX10_isLeast_50 (by decide) (fun c14 => ?_) (fun c14 => ?_)
              · have hv := if_n c14 hv
                refine lv_iinc (v := (x7 + (1 : Int32))) (lv' := [(2, .int (x7 + (1 : Int32))), (0, .ref o_h), (1, .int p1)]) hx hb dX10_isLeast_55 hl (k := 0) rfl rfl (by decide) rfl (fun ls hl => ?_)
                refine lv_goto (tgt := 26) hx hb dX10_isLeast_58 (by decide) ?_
                exact ih26 (x7 + (1 : Int32)) _ (lv_sub hl [0, 1, 2] rfl) hv
              · have hv := if_y c14 hv
                refine lv_iconst (v := (0 : Int32)) hx hb dX10_isLeast_53 (by decide) ?_
                exact W.zret (v := (0 : Int32)) hx hb hr rfl (fun t h9 _ => ⟨rv_i hv, h9⟩) (fun q h => absurd h List.not_mem_nil) dX10_isLeast_54 hlk
      exact hL26 N (0 : Int32) _ (lv_sub hl [0, 1, 2] rfl) hv
    · have hv := if_y c6 hv
      refine lv_iconst (v := (0 : Int32)) hx hb dX10_isLeast_22 (by decide) ?_
      exact W.zret (v := (0 : Int32)) hx hb hr rfl (fun t h9 _ => ⟨rv_i hv, h9⟩) (fun q h => absurd h List.not_mem_nil) dX10_isLeast_23 hlk
theorem dX10_leastOnes_0 : decode cX10_leastOnes 0 = .ok (.iconst 0, 1) := by decide +kernel
theorem dX10_leastOnes_1 : decode cX10_leastOnes 1 = .ok (.istore_n 1, 1) := by decide +kernel
theorem dX10_leastOnes_2 : decode cX10_leastOnes 2 = .ok (.iconst 0, 1) := by decide +kernel
theorem dX10_leastOnes_3 : decode cX10_leastOnes 3 = .ok (.istore_n 2, 1) := by decide +kernel
theorem dX10_leastOnes_4 : decode cX10_leastOnes 4 = .ok (.iload_n 2, 1) := by decide +kernel
theorem dX10_leastOnes_5 : decode cX10_leastOnes 5 = .ok (.iconst 1, 1) := by decide +kernel
theorem dX10_leastOnes_6 : decode cX10_leastOnes 6 = .ok (.aload_n 0, 1) := by decide +kernel
theorem dX10_leastOnes_7 : decode cX10_leastOnes 7 = .ok (.getfield 9, 3) := by decide +kernel
theorem dX10_leastOnes_10 : decode cX10_leastOnes 10 = .ok (.iconst 0, 1) := by decide +kernel
theorem dX10_leastOnes_11 : decode cX10_leastOnes 11 = .ok (.iaload, 1) := by decide +kernel
theorem dX10_leastOnes_12 : decode cX10_leastOnes 12 = .ok (.ishl, 1) := by decide +kernel
theorem dX10_leastOnes_13 : decode cX10_leastOnes 13 = .ok (.if_icmp .ge 25, 3) := by decide +kernel
theorem dX10_leastOnes_16 : decode cX10_leastOnes 16 = .ok (.iload_n 1, 1) := by decide +kernel
theorem dX10_leastOnes_17 : decode cX10_leastOnes 17 = .ok (.aload_n 0, 1) := by decide +kernel
theorem dX10_leastOnes_18 : decode cX10_leastOnes 18 = .ok (.iload_n 2, 1) := by decide +kernel
theorem dX10_leastOnes_19 : decode cX10_leastOnes 19 = .ok (.invokevirtual 212, 3) := by decide +kernel
theorem dX10_leastOnes_22 : decode cX10_leastOnes 22 = .ok (.ifCond .eq 7, 3) := by decide +kernel
theorem dX10_leastOnes_25 : decode cX10_leastOnes 25 = .ok (.iconst 1, 1) := by decide +kernel
theorem dX10_leastOnes_26 : decode cX10_leastOnes 26 = .ok (.goto 4, 3) := by decide +kernel
theorem dX10_leastOnes_29 : decode cX10_leastOnes 29 = .ok (.iconst 0, 1) := by decide +kernel
theorem dX10_leastOnes_30 : decode cX10_leastOnes 30 = .ok (.iadd, 1) := by decide +kernel
theorem dX10_leastOnes_31 : decode cX10_leastOnes 31 = .ok (.istore_n 1, 1) := by decide +kernel
theorem dX10_leastOnes_32 : decode cX10_leastOnes 32 = .ok (.iinc 2 1, 3) := by decide +kernel
theorem dX10_leastOnes_35 : decode cX10_leastOnes 35 = .ok (.goto (-31), 3) := by decide +kernel
theorem dX10_leastOnes_38 : decode cX10_leastOnes 38 = .ok (.iload_n 1, 1) := by decide +kernel
theorem dX10_leastOnes_39 : decode cX10_leastOnes 39 = .ok (.ireturn, 1) := by decide +kernel
def L_X10_leastOnes_4 (N : Nat) (o_s : Nat → Int32) : Nat → Int32 → Int32 → Option (Int32)
  | 0, _, _ => none
  | n4 + 1, x1, x2 => if ((1 : Int32) <<< ((o_s 0) &&& 31)) ≤ x1 then some x2 else ob (f_X10_isLeast N o_s x1) (fun r4 => if r4 = 0 then L_X10_leastOnes_4 N o_s n4 (x1 + (1 : Int32)) (x2 + (0 : Int32)) else L_X10_leastOnes_4 N o_s n4 (x1 + (1 : Int32)) (x2 + (1 : Int32)))
def f_X10_leastOnes (N : Nat) (o_s : Nat → Int32) : Option (Int32) := L_X10_leastOnes_4 N o_s N (0 : Int32) (0 : Int32)
set_option maxHeartbeats 4000000 in
set_option maxRecDepth 100000 in
theorem c_X10_leastOnes (l : Launch) (E : EE) (o_h : Nat) (o_a0 : Nat) (o_a1 : Nat) (o_a2 : Nat) (o_a3 : Nat) (o_a8 : Nat) (o_a9 : Nat) (o_a11 : Nat) (o_a12 : Nat) (o_a13 : Nat) (o_a14 : Nat) (o_a15 : Nat) (o_a16 : Nat) (o_s : Nat → Int32) (o_m : Nat → Int32) (o_image : Nat → Int32) (o_was : Nat → Int32) (o_hasImage : Int32) (o_place : Int32) (o_rowAt : Int32) (o_rowEnd : Int32) (o_numbers : Nat → Int32) (o_most : Nat → Int32) (o_seed : Int32) (o_kept : Nat → Int32) (o_keptKind : Nat → Int32) (o_keptFigure : Nat → Int32) (o_sort : Nat → Int32) (o_size : Nat → Int32) (o_element : Nat → Int32) (o_thrown : Int32) (N : Nat) (res : Int32) (hv : f_X10_leastOnes N o_s = some res) : Rd l E yX10_leastOnes cX10_leastOnes 3 (some .int) ({ frames := 7, cells := 0, slots := 0, locals := 153 }) [.ref o_h] [oMo o_h o_a0 o_a1 o_a2 o_a3 o_hasImage o_place o_rowAt o_rowEnd o_a8 o_a9 o_seed o_a11 o_a12 o_a13 o_a14 o_a15 o_a16 o_thrown, ai E o_a0 42 o_s, ai E o_a1 42 o_m, ai E o_a2 42 o_image, ai E o_a3 42 o_was, ai E o_a8 3 o_numbers, ai E o_a9 8192 o_most, ai E o_a11 8 o_kept, ai E o_a12 8 o_keptKind, ai E o_a13 8 o_keptFigure, ai E o_a14 8 o_sort, ai E o_a15 8 o_size, ai E o_a16 800 o_element] (some (.int res)) := by
  refine Rd.intro RX10 (by decide) rfl (Nat.le_of_ble_eq_true rfl) ?_
  intro p e s m below meth c ls hC hr hlk hP hG hl
  obtain ⟨hx, hb, hml, hown, ht⟩ := id hC
  have hK := hG.1
  have hl : lv_has ls 3 [(0, .ref o_h)] := hl
  rw [f_X10_leastOnes] at hv
  refine lv_iconst (v := (0 : Int32)) hx hb dX10_leastOnes_0 (by decide) ?_
  refine lv_istore_n (lv' := [(1, .int (0 : Int32)), (0, .ref o_h)]) hx hb dX10_leastOnes_1 rfl hl (by decide) rfl (fun ls hl => ?_)
  refine lv_iconst (v := (0 : Int32)) hx hb dX10_leastOnes_2 (by decide) ?_
  refine lv_istore_n (lv' := [(2, .int (0 : Int32)), (1, .int (0 : Int32)), (0, .ref o_h)]) hx hb dX10_leastOnes_3 rfl hl (by decide) rfl (fun ls hl => ?_)
  have hL4 : ∀ (n : Nat) (x1 : Int32) (x2 : Int32) (ls : Array Slot), lv_has ls 3 [(2, .int x1), (1, .int x2), (0, .ref o_h)] → L_X10_leastOnes_4 N o_s n x1 x2 = some res → W p l e ({ frames := 7, cells := 0, slots := 0, locals := 153 }) s m [.ref o_h].toArray below meth c s.heap [] 0 0 (MQ below (RdQ (some (.int res))) [.ref o_h].toArray s 0 0 (fun _ => False)) (F0 m 4 ls []) := by
    intro n
    induction n with
    | zero => intro x1 x2 ls hl hv; cases hv
    | succ n4 ih4 =>
      intro x1 x2 ls hl hv
      rw [L_X10_leastOnes_4] at hv
      refine lv_iload_n hx hb dX10_leastOnes_4 rfl (lv_at hl 0 rfl) ?_
      refine lv_iconst (v := (1 : Int32)) hx hb dX10_leastOnes_5 (by decide) ?_
      refine lv_aload_n hx hb dX10_leastOnes_6 rfl (lv_at hl 2 rfl) ?_
      refine va_get (D := E.1) (ci := 4) (v := .ref o_a0) (C := RX10) (T := TX10) (N := 18) hx hb ht i_X10 hown hK hP 0 rfl rfl 0 (by decide) (ht _ kw_4_134) (fun _ h9 => h9) rfl dX10_leastOnes_7 ?_
      refine lv_iconst (v := (0 : Int32)) hx hb dX10_leastOnes_10 (by decide) ?_
      refine va_iald hx hb hK hP 1 0 rfl rfl (ix_s (by decide)) dX10_leastOnes_11 ?_
      refine W.eq (g2 := F0 m 12 ls [.int (o_s 0), .int (1 : Int32), .int x1]) rfl ?_
      refine lv_ishl hx hb dX10_leastOnes_12 ?_
      refine lv_icmp_ge (tgt := 38) hx hb dX10_leastOnes_13 (by decide) (fun c3 => ?_) (fun c3 => ?_)
      · have hv := if_y c3 hv
        refine lv_iload_n hx hb dX10_leastOnes_38 rfl (lv_at hl 1 rfl) ?_
        exact W.iret (v := x2) hx hb hr (fun t h9 _ => ⟨rv_i hv, h9⟩) (fun q h => absurd h List.not_mem_nil) dX10_leastOnes_39 hlk
      · have hv := if_n c3 hv
        refine lv_iload_n hx hb dX10_leastOnes_16 rfl (lv_at hl 1 rfl) ?_
        refine lv_aload_n hx hb dX10_leastOnes_17 rfl (lv_at hl 2 rfl) ?_
        refine lv_iload_n hx hb dX10_leastOnes_18 rfl (lv_at hl 0 rfl) ?_
        obtain ⟨r4, h5, hv⟩ := ob_s hv
        refine rdV 4 0 (As := [.int x1]) (rest := [.int x2]) (st1 := [.int r4, .int x2]) (w := [oMo o_h o_a0 o_a1 o_a2 o_a3 o_hasImage o_place o_rowAt o_rowEnd o_a8 o_a9 o_seed o_a11 o_a12 o_a13 o_a14 o_a15 o_a16 o_thrown, ai E o_a0 42 o_s, ai E o_a1 42 o_m, ai E o_a2 42 o_image, ai E o_a3 42 o_was, ai E o_a8 3 o_numbers, ai E o_a9 8192 o_most, ai E o_a11 8 o_kept, ai E o_a12 8 o_keptKind, ai E o_a13 8 o_keptFigure, ai E o_a14 8 o_sort, ai E o_a15 8 o_size, ai E o_a16 800 o_element]) hC q_X10_isLeast kw_5_181 (c_X10_isLeast l E o_h o_a0 o_a1 o_a2 o_a3 o_a8 o_a9 o_a11 o_a12 o_a13 o_a14 o_a15 o_a16 o_s o_m o_image o_was o_hasImage o_place o_rowAt o_rowEnd o_numbers o_most o_seed o_kept o_keptKind o_keptFigure o_sort o_size o_element o_thrown x1 N r4 h5) ⟨rfl, rfl⟩ ⟨Nat.le_of_ble_eq_true rfl, Nat.le_of_ble_eq_true rfl⟩ ⟨Nat.zero_le _, Nat.zero_le _⟩ hP rfl rfl rfl hG rfl hl.1 rfl (Nat.le_of_ble_eq_true rfl) dX10_leastOnes_19 rfl ?_
        refine lv_if_eq (tgt := 29) hx hb dX10_leastOnes_22 (by decide) (fun c6 => ?_) (fun c6 => ?_)
        · have hv := if_y c6 hv
          refine lv_iconst (v := (0 : Int32)) hx hb dX10_leastOnes_29 (by decide) ?_
          refine lv_iadd hx hb dX10_leastOnes_30 ?_
          refine lv_istore_n (lv' := [(1, .int (x2 + (0 : Int32))), (2, .int x1), (0, .ref o_h)]) hx hb dX10_leastOnes_31 rfl hl (by decide) rfl (fun ls hl => ?_)
          refine lv_iinc (v := (x1 + (1 : Int32))) (lv' := [(2, .int (x1 + (1 : Int32))), (1, .int (x2 + (0 : Int32))), (0, .ref o_h)]) hx hb dX10_leastOnes_32 hl (k := 1) rfl rfl (by decide) rfl (fun ls hl => ?_)
          refine lv_goto (tgt := 4) hx hb dX10_leastOnes_35 (by decide) ?_
          exact ih4 (x1 + (1 : Int32)) (x2 + (0 : Int32)) _ (lv_sub hl [0, 1, 2] rfl) hv
        · have hv := if_n c6 hv
          refine lv_iconst (v := (1 : Int32)) hx hb dX10_leastOnes_25 (by decide) ?_
          refine lv_goto (tgt := 30) hx hb dX10_leastOnes_26 (by decide) ?_
          refine lv_iadd hx hb dX10_leastOnes_30 ?_
          refine lv_istore_n (lv' := [(1, .int (x2 + (1 : Int32))), (2, .int x1), (0, .ref o_h)]) hx hb dX10_leastOnes_31 rfl hl (by decide) rfl (fun ls hl => ?_)
          refine lv_iinc (v := (x1 + (1 : Int32))) (lv' := [(2, .int (x1 + (1 : Int32))), (1, .int (x2 + (1 : Int32))), (0, .ref o_h)]) hx hb dX10_leastOnes_32 hl (k := 1) rfl rfl (by decide) rfl (fun ls hl => ?_)
          refine lv_goto (tgt := 4) hx hb dX10_leastOnes_35 (by decide) ?_
          exact ih4 (x1 + (1 : Int32)) (x2 + (1 : Int32)) _ (lv_sub hl [0, 1, 2] rfl) hv
  exact hL4 N (0 : Int32) (0 : Int32) _ (lv_sub hl [0, 1, 2] rfl) hv
theorem dX10_blocks_0 : decode cX10_blocks 0 = .ok (.aload_n 0, 1) := by decide +kernel
theorem dX10_blocks_1 : decode cX10_blocks 1 = .ok (.getfield 9, 3) := by decide +kernel
theorem dX10_blocks_4 : decode cX10_blocks 4 = .ok (.invokestatic 92, 3) := by decide +kernel
theorem dX10_blocks_7 : decode cX10_blocks 7 = .ok (.istore_n 1, 1) := by decide +kernel
theorem dX10_blocks_8 : decode cX10_blocks 8 = .ok (.iconst 0, 1) := by decide +kernel
theorem dX10_blocks_9 : decode cX10_blocks 9 = .ok (.istore_n 2, 1) := by decide +kernel
theorem dX10_blocks_10 : decode cX10_blocks 10 = .ok (.iconst 0, 1) := by decide +kernel
theorem dX10_blocks_11 : decode cX10_blocks 11 = .ok (.istore_n 3, 1) := by decide +kernel
theorem dX10_blocks_12 : decode cX10_blocks 12 = .ok (.iload_n 3, 1) := by decide +kernel
theorem dX10_blocks_13 : decode cX10_blocks 13 = .ok (.aload_n 0, 1) := by decide +kernel
theorem dX10_blocks_14 : decode cX10_blocks 14 = .ok (.getfield 9, 3) := by decide +kernel
theorem dX10_blocks_17 : decode cX10_blocks 17 = .ok (.iconst 0, 1) := by decide +kernel
theorem dX10_blocks_18 : decode cX10_blocks 18 = .ok (.iaload, 1) := by decide +kernel
theorem dX10_blocks_19 : decode cX10_blocks 19 = .ok (.if_icmp .ge 47, 3) := by decide +kernel
theorem dX10_blocks_22 : decode cX10_blocks 22 = .ok (.iload_n 2, 1) := by decide +kernel
theorem dX10_blocks_23 : decode cX10_blocks 23 = .ok (.iload_n 1, 1) := by decide +kernel
theorem dX10_blocks_24 : decode cX10_blocks 24 = .ok (.iload_n 3, 1) := by decide +kernel
theorem dX10_blocks_25 : decode cX10_blocks 25 = .ok (.invokestatic 62, 3) := by decide +kernel
theorem dX10_blocks_28 : decode cX10_blocks 28 = .ok (.ifCond .eq 29, 3) := by decide +kernel
theorem dX10_blocks_31 : decode cX10_blocks 31 = .ok (.aload_n 0, 1) := by decide +kernel
theorem dX10_blocks_32 : decode cX10_blocks 32 = .ok (.iload_n 1, 1) := by decide +kernel
theorem dX10_blocks_33 : decode cX10_blocks 33 = .ok (.iconst 1, 1) := by decide +kernel
theorem dX10_blocks_34 : decode cX10_blocks 34 = .ok (.iload_n 3, 1) := by decide +kernel
theorem dX10_blocks_35 : decode cX10_blocks 35 = .ok (.ishl, 1) := by decide +kernel
theorem dX10_blocks_36 : decode cX10_blocks 36 = .ok (.iconst (-1), 1) := by decide +kernel
theorem dX10_blocks_37 : decode cX10_blocks 37 = .ok (.ixor, 1) := by decide +kernel
theorem dX10_blocks_38 : decode cX10_blocks 38 = .ok (.iand, 1) := by decide +kernel
theorem dX10_blocks_39 : decode cX10_blocks 39 = .ok (.aload_n 0, 1) := by decide +kernel
theorem dX10_blocks_40 : decode cX10_blocks 40 = .ok (.getfield 9, 3) := by decide +kernel
theorem dX10_blocks_43 : decode cX10_blocks 43 = .ok (.iconst 2, 1) := by decide +kernel
theorem dX10_blocks_44 : decode cX10_blocks 44 = .ok (.iaload, 1) := by decide +kernel
theorem dX10_blocks_45 : decode cX10_blocks 45 = .ok (.invokevirtual 186, 3) := by decide +kernel
theorem dX10_blocks_48 : decode cX10_blocks 48 = .ok (.ifCond .ne 9, 3) := by decide +kernel
theorem dX10_blocks_51 : decode cX10_blocks 51 = .ok (.iconst 1, 1) := by decide +kernel
theorem dX10_blocks_52 : decode cX10_blocks 52 = .ok (.iload_n 3, 1) := by decide +kernel
theorem dX10_blocks_53 : decode cX10_blocks 53 = .ok (.ishl, 1) := by decide +kernel
theorem dX10_blocks_54 : decode cX10_blocks 54 = .ok (.goto 4, 3) := by decide +kernel
theorem dX10_blocks_57 : decode cX10_blocks 57 = .ok (.iconst 0, 1) := by decide +kernel
theorem dX10_blocks_58 : decode cX10_blocks 58 = .ok (.ior, 1) := by decide +kernel
theorem dX10_blocks_59 : decode cX10_blocks 59 = .ok (.istore_n 2, 1) := by decide +kernel
theorem dX10_blocks_60 : decode cX10_blocks 60 = .ok (.iinc 3 1, 3) := by decide +kernel
theorem dX10_blocks_63 : decode cX10_blocks 63 = .ok (.goto (-51), 3) := by decide +kernel
theorem dX10_blocks_66 : decode cX10_blocks 66 = .ok (.iload_n 2, 1) := by decide +kernel
theorem dX10_blocks_67 : decode cX10_blocks 67 = .ok (.ireturn, 1) := by decide +kernel
def L_X10_blocks_12 (N : Nat) (o_s : Nat → Int32) (r1 : Int32) : Nat → Int32 → Int32 → Option (Int32)
  | 0, _, _ => none
  | n12 + 1, x3, x4 => if (o_s 0) ≤ x3 then some x4 else ob (f_X10_has r1 x3) (fun r6 => if r6 = 0 then L_X10_blocks_12 N o_s r1 n12 (x3 + (1 : Int32)) (x4 ||| (0 : Int32)) else ob (f_X10_couldBy N o_s (r1 &&& (((1 : Int32) <<< (x3 &&& 31)) ^^^ (-1 : Int32))) (o_s 2)) (fun r9 => if r9 = 0 then nm (x4 ||| ((1 : Int32) <<< (x3 &&& 31))) (fun z12 => L_X10_blocks_12 N o_s r1 n12 (x3 + (1 : Int32)) z12) else L_X10_blocks_12 N o_s r1 n12 (x3 + (1 : Int32)) (x4 ||| (0 : Int32))))
def f_X10_blocks (N : Nat) (o_s : Nat → Int32) : Option (Int32) := ob (f_X10_heardIn N o_s) (fun r1 => L_X10_blocks_12 N o_s r1 N (0 : Int32) (0 : Int32))
set_option maxHeartbeats 4000000 in
set_option maxRecDepth 100000 in
theorem c_X10_blocks (l : Launch) (E : EE) (o_h : Nat) (o_a0 : Nat) (o_a1 : Nat) (o_a2 : Nat) (o_a3 : Nat) (o_a8 : Nat) (o_a9 : Nat) (o_a11 : Nat) (o_a12 : Nat) (o_a13 : Nat) (o_a14 : Nat) (o_a15 : Nat) (o_a16 : Nat) (o_s : Nat → Int32) (o_m : Nat → Int32) (o_image : Nat → Int32) (o_was : Nat → Int32) (o_hasImage : Int32) (o_place : Int32) (o_rowAt : Int32) (o_rowEnd : Int32) (o_numbers : Nat → Int32) (o_most : Nat → Int32) (o_seed : Int32) (o_kept : Nat → Int32) (o_keptKind : Nat → Int32) (o_keptFigure : Nat → Int32) (o_sort : Nat → Int32) (o_size : Nat → Int32) (o_element : Nat → Int32) (o_thrown : Int32) (N : Nat) (res : Int32) (hv : f_X10_blocks N o_s = some res) : Rd l E yX10_blocks cX10_blocks 4 (some .int) ({ frames := 5, cells := 0, slots := 0, locals := 109 }) [.ref o_h] [oMo o_h o_a0 o_a1 o_a2 o_a3 o_hasImage o_place o_rowAt o_rowEnd o_a8 o_a9 o_seed o_a11 o_a12 o_a13 o_a14 o_a15 o_a16 o_thrown, ai E o_a0 42 o_s, ai E o_a1 42 o_m, ai E o_a2 42 o_image, ai E o_a3 42 o_was, ai E o_a8 3 o_numbers, ai E o_a9 8192 o_most, ai E o_a11 8 o_kept, ai E o_a12 8 o_keptKind, ai E o_a13 8 o_keptFigure, ai E o_a14 8 o_sort, ai E o_a15 8 o_size, ai E o_a16 800 o_element] (some (.int res)) := by
  refine Rd.intro RX10 (by decide) rfl (Nat.le_of_ble_eq_true rfl) ?_
  intro p e s m below meth c ls hC hr hlk hP hG hl
  obtain ⟨hx, hb, hml, hown, ht⟩ := id hC
  have hK := hG.1
  have hl : lv_has ls 4 [(0, .ref o_h)] := hl
  rw [f_X10_blocks] at hv
  refine lv_aload_n hx hb dX10_blocks_0 rfl (lv_at hl 0 rfl) ?_
  refine va_get (D := E.1) (ci := 4) (v := .ref o_a0) (C := RX10) (T := TX10) (N := 18) hx hb ht i_X10 hown hK hP 0 rfl rfl 0 (by decide) (ht _ kw_4_134) (fun _ h9 => h9) rfl dX10_blocks_1 ?_
  obtain ⟨r1, h2, hv⟩ := ob_s hv
  refine rdS (rest := []) (st1 := [.int r1]) (w := [ai E o_a0 42 o_s]) hC q_X10_heardIn kw_5_73 (c_X10_heardIn l E o_a0 o_s N r1 h2) ⟨rfl, rfl⟩ ⟨Nat.le_of_ble_eq_true rfl, Nat.le_of_ble_eq_true rfl⟩ ⟨Nat.zero_le _, Nat.zero_le _⟩ (hP.sub (ws' := [ai E o_a0 42 o_s]) [1] rfl) hG rfl hl.1 rfl (Nat.le_of_ble_eq_true rfl) dX10_blocks_4 rfl ?_
  refine lv_istore_n (lv' := [(1, .int r1), (0, .ref o_h)]) hx hb dX10_blocks_7 rfl hl (by decide) rfl (fun ls hl => ?_)
  refine lv_iconst (v := (0 : Int32)) hx hb dX10_blocks_8 (by decide) ?_
  refine lv_istore_n (lv' := [(2, .int (0 : Int32)), (1, .int r1), (0, .ref o_h)]) hx hb dX10_blocks_9 rfl hl (by decide) rfl (fun ls hl => ?_)
  refine lv_iconst (v := (0 : Int32)) hx hb dX10_blocks_10 (by decide) ?_
  refine lv_istore_n (lv' := [(3, .int (0 : Int32)), (2, .int (0 : Int32)), (1, .int r1), (0, .ref o_h)]) hx hb dX10_blocks_11 rfl hl (by decide) rfl (fun ls hl => ?_)
  have hL12 : ∀ (n : Nat) (x3 : Int32) (x4 : Int32) (ls : Array Slot), lv_has ls 4 [(3, .int x3), (2, .int x4), (1, .int r1), (0, .ref o_h)] → L_X10_blocks_12 N o_s r1 n x3 x4 = some res → W p l e ({ frames := 5, cells := 0, slots := 0, locals := 109 }) s m [.ref o_h].toArray below meth c s.heap [] 0 0 (MQ below (RdQ (some (.int res))) [.ref o_h].toArray s 0 0 (fun _ => False)) (F0 m 12 ls []) := by
    intro n
    induction n with
    | zero => intro x3 x4 ls hl hv; cases hv
    | succ n12 ih12 =>
      intro x3 x4 ls hl hv
      rw [L_X10_blocks_12] at hv
      refine lv_iload_n hx hb dX10_blocks_12 rfl (lv_at hl 0 rfl) ?_
      refine lv_aload_n hx hb dX10_blocks_13 rfl (lv_at hl 3 rfl) ?_
      refine va_get (D := E.1) (ci := 4) (v := .ref o_a0) (C := RX10) (T := TX10) (N := 18) hx hb ht i_X10 hown hK hP 0 rfl rfl 0 (by decide) (ht _ kw_4_134) (fun _ h9 => h9) rfl dX10_blocks_14 ?_
      refine lv_iconst (v := (0 : Int32)) hx hb dX10_blocks_17 (by decide) ?_
      refine va_iald hx hb hK hP 1 0 rfl rfl (ix_s (by decide)) dX10_blocks_18 ?_
      refine W.eq (g2 := F0 m 19 ls [.int (o_s 0), .int x3]) rfl ?_
      refine lv_icmp_ge (tgt := 66) hx hb dX10_blocks_19 (by decide) (fun c5 => ?_) (fun c5 => ?_)
      · have hv := if_y c5 hv
        refine lv_iload_n hx hb dX10_blocks_66 rfl (lv_at hl 1 rfl) ?_
        exact W.iret (v := x4) hx hb hr (fun t h9 _ => ⟨rv_i hv, h9⟩) (fun q h => absurd h List.not_mem_nil) dX10_blocks_67 hlk
      · have hv := if_n c5 hv
        refine lv_iload_n hx hb dX10_blocks_22 rfl (lv_at hl 1 rfl) ?_
        refine lv_iload_n hx hb dX10_blocks_23 rfl (lv_at hl 2 rfl) ?_
        refine lv_iload_n hx hb dX10_blocks_24 rfl (lv_at hl 0 rfl) ?_
        obtain ⟨r6, h7, hv⟩ := ob_s hv
        refine rdS (rest := [.int x4]) (st1 := [.int r6, .int x4]) (w := []) hC q_X10_has kw_5_5 (c_X10_has l E r1 x3 r6 h7) ⟨rfl, rfl⟩ ⟨Nat.le_of_ble_eq_true rfl, Nat.le_of_ble_eq_true rfl⟩ ⟨Nat.zero_le _, Nat.zero_le _⟩ (hP.sub (ws' := []) [] rfl) hG rfl hl.1 rfl (Nat.le_of_ble_eq_true rfl) dX10_blocks_25 rfl ?_
        refine lv_if_eq (tgt := 57) hx hb dX10_blocks_28 (by decide) (fun c8 => ?_) (fun c8 => ?_)
        · have hv := if_y c8 hv
          refine lv_iconst (v := (0 : Int32)) hx hb dX10_blocks_57 (by decide) ?_
          refine lv_ior hx hb dX10_blocks_58 ?_
          refine lv_istore_n (lv' := [(2, .int (x4 ||| (0 : Int32))), (3, .int x3), (1, .int r1), (0, .ref o_h)]) hx hb dX10_blocks_59 rfl hl (by decide) rfl (fun ls hl => ?_)
          refine lv_iinc (v := (x3 + (1 : Int32))) (lv' := [(3, .int (x3 + (1 : Int32))), (2, .int (x4 ||| (0 : Int32))), (1, .int r1), (0, .ref o_h)]) hx hb dX10_blocks_60 hl (k := 1) rfl rfl (by decide) rfl (fun ls hl => ?_)
          refine lv_goto (tgt := 12) hx hb dX10_blocks_63 (by decide) ?_
          exact ih12 (x3 + (1 : Int32)) (x4 ||| (0 : Int32)) _ (lv_sub hl [0, 1, 2, 3] rfl) hv
        · have hv := if_n c8 hv
          refine lv_aload_n hx hb dX10_blocks_31 rfl (lv_at hl 3 rfl) ?_
          refine lv_iload_n hx hb dX10_blocks_32 rfl (lv_at hl 2 rfl) ?_
          refine lv_iconst (v := (1 : Int32)) hx hb dX10_blocks_33 (by decide) ?_
          refine lv_iload_n hx hb dX10_blocks_34 rfl (lv_at hl 0 rfl) ?_
          refine lv_ishl hx hb dX10_blocks_35 ?_
          refine lv_iconst (v := (-1 : Int32)) hx hb dX10_blocks_36 (by decide) ?_
          refine lv_ixor hx hb dX10_blocks_37 ?_
          refine lv_iand hx hb dX10_blocks_38 ?_
          refine lv_aload_n hx hb dX10_blocks_39 rfl (lv_at hl 3 rfl) ?_
          refine va_get (D := E.1) (ci := 4) (v := .ref o_a0) (C := RX10) (T := TX10) (N := 18) hx hb ht i_X10 hown hK hP 0 rfl rfl 0 (by decide) (ht _ kw_4_134) (fun _ h9 => h9) rfl dX10_blocks_40 ?_
          refine lv_iconst (v := (2 : Int32)) hx hb dX10_blocks_43 (by decide) ?_
          refine va_iald hx hb hK hP 1 0 rfl rfl (ix_s (by decide)) dX10_blocks_44 ?_
          refine W.eq (g2 := F0 m 45 ls [.int (o_s 2), .int (r1 &&& (((1 : Int32) <<< (x3 &&& 31)) ^^^ (-1 : Int32))), .ref o_h, .int x4]) rfl ?_
          obtain ⟨r9, h10, hv⟩ := ob_s hv
          refine rdV 4 0 (As := [.int (r1 &&& (((1 : Int32) <<< (x3 &&& 31)) ^^^ (-1 : Int32))), .int (o_s 2)]) (rest := [.int x4]) (st1 := [.int r9, .int x4]) (w := [oMo o_h o_a0 o_a1 o_a2 o_a3 o_hasImage o_place o_rowAt o_rowEnd o_a8 o_a9 o_seed o_a11 o_a12 o_a13 o_a14 o_a15 o_a16 o_thrown, ai E o_a0 42 o_s, ai E o_a1 42 o_m, ai E o_a2 42 o_image, ai E o_a3 42 o_was, ai E o_a8 3 o_numbers, ai E o_a9 8192 o_most, ai E o_a11 8 o_kept, ai E o_a12 8 o_keptKind, ai E o_a13 8 o_keptFigure, ai E o_a14 8 o_sort, ai E o_a15 8 o_size, ai E o_a16 800 o_element]) hC q_X10_couldBy kw_5_140 (c_X10_couldBy l E o_h o_a0 o_a1 o_a2 o_a3 o_a8 o_a9 o_a11 o_a12 o_a13 o_a14 o_a15 o_a16 o_s o_m o_image o_was o_hasImage o_place o_rowAt o_rowEnd o_numbers o_most o_seed o_kept o_keptKind o_keptFigure o_sort o_size o_element o_thrown (r1 &&& (((1 : Int32) <<< (x3 &&& 31)) ^^^ (-1 : Int32))) (o_s 2) N r9 h10) ⟨rfl, rfl⟩ ⟨Nat.le_of_ble_eq_true rfl, Nat.le_of_ble_eq_true rfl⟩ ⟨Nat.zero_le _, Nat.zero_le _⟩ hP rfl rfl rfl hG rfl hl.1 rfl (Nat.le_of_ble_eq_true rfl) dX10_blocks_45 rfl ?_
          refine lv_if_ne (tgt := 57) hx hb dX10_blocks_48 (by decide) (fun c11 => ?_) (fun c11 => ?_)
          · have hv := if_n c11 hv
            refine lv_iconst (v := (0 : Int32)) hx hb dX10_blocks_57 (by decide) ?_
            refine lv_ior hx hb dX10_blocks_58 ?_
            refine lv_istore_n (lv' := [(2, .int (x4 ||| (0 : Int32))), (3, .int x3), (1, .int r1), (0, .ref o_h)]) hx hb dX10_blocks_59 rfl hl (by decide) rfl (fun ls hl => ?_)
            refine lv_iinc (v := (x3 + (1 : Int32))) (lv' := [(3, .int (x3 + (1 : Int32))), (2, .int (x4 ||| (0 : Int32))), (1, .int r1), (0, .ref o_h)]) hx hb dX10_blocks_60 hl (k := 1) rfl rfl (by decide) rfl (fun ls hl => ?_)
            refine lv_goto (tgt := 12) hx hb dX10_blocks_63 (by decide) ?_
            exact ih12 (x3 + (1 : Int32)) (x4 ||| (0 : Int32)) _ (lv_sub hl [0, 1, 2, 3] rfl) hv
          · have hv := if_y c11 hv
            refine lv_iconst (v := (1 : Int32)) hx hb dX10_blocks_51 (by decide) ?_
            refine lv_iload_n hx hb dX10_blocks_52 rfl (lv_at hl 0 rfl) ?_
            refine lv_ishl hx hb dX10_blocks_53 ?_
            refine lv_goto (tgt := 58) hx hb dX10_blocks_54 (by decide) ?_
            refine lv_ior hx hb dX10_blocks_58 ?_
            refine lv_topi (fun z12 ez12 => ?_)
            have hv := nm_s ez12 hv
            refine lv_istore_n (lv' := [(2, .int z12), (3, .int x3), (1, .int r1), (0, .ref o_h)]) hx hb dX10_blocks_59 rfl hl (by decide) rfl (fun ls hl => ?_)
            refine lv_iinc (v := (x3 + (1 : Int32))) (lv' := [(3, .int (x3 + (1 : Int32))), (2, .int z12), (1, .int r1), (0, .ref o_h)]) hx hb dX10_blocks_60 hl (k := 1) rfl rfl (by decide) rfl (fun ls hl => ?_)
            refine lv_goto (tgt := 12) hx hb dX10_blocks_63 (by decide) ?_
            exact ih12 (x3 + (1 : Int32)) z12 _ (lv_sub hl [0, 1, 2, 3] rfl) hv
  exact hL12 N (0 : Int32) (0 : Int32) _ (lv_sub hl [0, 1, 2, 3] rfl) hv
theorem dX10_groups_0 : decode cX10_groups 0 = .ok (.iload_n 1, 1) := by decide +kernel
theorem dX10_groups_1 : decode cX10_groups 1 = .ok (.ifCond .ne 10, 3) := by decide +kernel
theorem dX10_groups_4 : decode cX10_groups 4 = .ok (.aload_n 0, 1) := by decide +kernel
theorem dX10_groups_5 : decode cX10_groups 5 = .ok (.invokevirtual 215, 3) := by decide +kernel
theorem dX10_groups_8 : decode cX10_groups 8 = .ok (.goto 28, 3) := by decide +kernel
theorem dX10_groups_11 : decode cX10_groups 11 = .ok (.iload_n 1, 1) := by decide +kernel
theorem dX10_groups_12 : decode cX10_groups 12 = .ok (.iconst 1, 1) := by decide +kernel
theorem dX10_groups_13 : decode cX10_groups 13 = .ok (.if_icmp .ne 10, 3) := by decide +kernel
theorem dX10_groups_16 : decode cX10_groups 16 = .ok (.aload_n 0, 1) := by decide +kernel
theorem dX10_groups_17 : decode cX10_groups 17 = .ok (.invokevirtual 218, 3) := by decide +kernel
theorem dX10_groups_20 : decode cX10_groups 20 = .ok (.goto 16, 3) := by decide +kernel
theorem dX10_groups_23 : decode cX10_groups 23 = .ok (.iload_n 1, 1) := by decide +kernel
theorem dX10_groups_24 : decode cX10_groups 24 = .ok (.iconst 2, 1) := by decide +kernel
theorem dX10_groups_25 : decode cX10_groups 25 = .ok (.if_icmp .ne 10, 3) := by decide +kernel
theorem dX10_groups_28 : decode cX10_groups 28 = .ok (.aload_n 0, 1) := by decide +kernel
theorem dX10_groups_29 : decode cX10_groups 29 = .ok (.invokevirtual 221, 3) := by decide +kernel
theorem dX10_groups_32 : decode cX10_groups 32 = .ok (.goto 4, 3) := by decide +kernel
theorem dX10_groups_35 : decode cX10_groups 35 = .ok (.iconst (-1), 1) := by decide +kernel
theorem dX10_groups_36 : decode cX10_groups 36 = .ok (.ireturn, 1) := by decide +kernel
def f_X10_groups (N : Nat) (o_s : Nat → Int32) (p1 : Int32) : Option (Int32) := if p1 = 0 then ob (f_X10_smallest N o_s) (fun r8 => some r8) else if p1 = (1 : Int32) then ob (f_X10_leastOnes N o_s) (fun r6 => some r6) else if p1 = (2 : Int32) then ob (f_X10_blocks N o_s) (fun r4 => some r4) else some (-1 : Int32)
set_option maxHeartbeats 4000000 in
set_option maxRecDepth 100000 in
theorem c_X10_groups (l : Launch) (E : EE) (o_h : Nat) (o_a0 : Nat) (o_a1 : Nat) (o_a2 : Nat) (o_a3 : Nat) (o_a8 : Nat) (o_a9 : Nat) (o_a11 : Nat) (o_a12 : Nat) (o_a13 : Nat) (o_a14 : Nat) (o_a15 : Nat) (o_a16 : Nat) (o_s : Nat → Int32) (o_m : Nat → Int32) (o_image : Nat → Int32) (o_was : Nat → Int32) (o_hasImage : Int32) (o_place : Int32) (o_rowAt : Int32) (o_rowEnd : Int32) (o_numbers : Nat → Int32) (o_most : Nat → Int32) (o_seed : Int32) (o_kept : Nat → Int32) (o_keptKind : Nat → Int32) (o_keptFigure : Nat → Int32) (o_sort : Nat → Int32) (o_size : Nat → Int32) (o_element : Nat → Int32) (o_thrown : Int32) (p1 : Int32) (N : Nat) (res : Int32) (hv : f_X10_groups N o_s p1 = some res) : Rd l E yX10_groups cX10_groups 2 (some .int) ({ frames := 8, cells := 0, slots := 0, locals := 175 }) [.ref o_h, .int p1] [oMo o_h o_a0 o_a1 o_a2 o_a3 o_hasImage o_place o_rowAt o_rowEnd o_a8 o_a9 o_seed o_a11 o_a12 o_a13 o_a14 o_a15 o_a16 o_thrown, ai E o_a0 42 o_s, ai E o_a1 42 o_m, ai E o_a2 42 o_image, ai E o_a3 42 o_was, ai E o_a8 3 o_numbers, ai E o_a9 8192 o_most, ai E o_a11 8 o_kept, ai E o_a12 8 o_keptKind, ai E o_a13 8 o_keptFigure, ai E o_a14 8 o_sort, ai E o_a15 8 o_size, ai E o_a16 800 o_element] (some (.int res)) := by
  refine Rd.intro RX10 (by decide) rfl (Nat.le_of_ble_eq_true rfl) ?_
  intro p e s m below meth c ls hC hr hlk hP hG hl
  obtain ⟨hx, hb, hml, hown, ht⟩ := id hC
  have hK := hG.1
  have hl : lv_has ls 2 [(0, .ref o_h), (1, .int p1)] := hl
  rw [f_X10_groups] at hv
  refine lv_iload_n hx hb dX10_groups_0 rfl (lv_at hl 1 rfl) ?_
  refine lv_if_ne (tgt := 11) hx hb dX10_groups_1 (by decide) (fun c1 => ?_) (fun c1 => ?_)
  · have hv := if_n c1 hv
    refine lv_iload_n hx hb dX10_groups_11 rfl (lv_at hl 1 rfl) ?_
    refine lv_iconst (v := (1 : Int32)) hx hb dX10_groups_12 (by decide) ?_
    refine lv_icmp_ne (tgt := 23) hx hb dX10_groups_13 (by decide) (fun c2 => ?_) (fun c2 => ?_)
    · have hv := if_n c2 hv
      refine lv_iload_n hx hb dX10_groups_23 rfl (lv_at hl 1 rfl) ?_
      refine lv_iconst (v := (2 : Int32)) hx hb dX10_groups_24 (by decide) ?_
      refine lv_icmp_ne (tgt := 35) hx hb dX10_groups_25 (by decide) (fun c3 => ?_) (fun c3 => ?_)
      · have hv := if_n c3 hv
        refine lv_iconst (v := (-1 : Int32)) hx hb dX10_groups_35 (by decide) ?_
        exact W.iret (v := (-1 : Int32)) hx hb hr (fun t h9 _ => ⟨rv_i hv, h9⟩) (fun q h => absurd h List.not_mem_nil) dX10_groups_36 hlk
      · have hv := if_y c3 hv
        refine lv_aload_n hx hb dX10_groups_28 rfl (lv_at hl 0 rfl) ?_
        obtain ⟨r4, h5, hv⟩ := ob_s hv
        refine rdV 4 0 (As := []) (rest := []) (st1 := [.int r4]) (w := [oMo o_h o_a0 o_a1 o_a2 o_a3 o_hasImage o_place o_rowAt o_rowEnd o_a8 o_a9 o_seed o_a11 o_a12 o_a13 o_a14 o_a15 o_a16 o_thrown, ai E o_a0 42 o_s, ai E o_a1 42 o_m, ai E o_a2 42 o_image, ai E o_a3 42 o_was, ai E o_a8 3 o_numbers, ai E o_a9 8192 o_most, ai E o_a11 8 o_kept, ai E o_a12 8 o_keptKind, ai E o_a13 8 o_keptFigure, ai E o_a14 8 o_sort, ai E o_a15 8 o_size, ai E o_a16 800 o_element]) hC q_X10_blocks kw_5_185 (c_X10_blocks l E o_h o_a0 o_a1 o_a2 o_a3 o_a8 o_a9 o_a11 o_a12 o_a13 o_a14 o_a15 o_a16 o_s o_m o_image o_was o_hasImage o_place o_rowAt o_rowEnd o_numbers o_most o_seed o_kept o_keptKind o_keptFigure o_sort o_size o_element o_thrown N r4 h5) ⟨rfl, rfl⟩ ⟨Nat.le_of_ble_eq_true rfl, Nat.le_of_ble_eq_true rfl⟩ ⟨Nat.zero_le _, Nat.zero_le _⟩ hP rfl rfl rfl hG rfl hl.1 rfl (Nat.le_of_ble_eq_true rfl) dX10_groups_29 rfl ?_
        refine lv_goto (tgt := 36) hx hb dX10_groups_32 (by decide) ?_
        exact W.iret (v := r4) hx hb hr (fun t h9 _ => ⟨rv_i hv, h9⟩) (fun q h => absurd h List.not_mem_nil) dX10_groups_36 hlk
    · have hv := if_y c2 hv
      refine lv_aload_n hx hb dX10_groups_16 rfl (lv_at hl 0 rfl) ?_
      obtain ⟨r6, h7, hv⟩ := ob_s hv
      refine rdV 4 0 (As := []) (rest := []) (st1 := [.int r6]) (w := [oMo o_h o_a0 o_a1 o_a2 o_a3 o_hasImage o_place o_rowAt o_rowEnd o_a8 o_a9 o_seed o_a11 o_a12 o_a13 o_a14 o_a15 o_a16 o_thrown, ai E o_a0 42 o_s, ai E o_a1 42 o_m, ai E o_a2 42 o_image, ai E o_a3 42 o_was, ai E o_a8 3 o_numbers, ai E o_a9 8192 o_most, ai E o_a11 8 o_kept, ai E o_a12 8 o_keptKind, ai E o_a13 8 o_keptFigure, ai E o_a14 8 o_sort, ai E o_a15 8 o_size, ai E o_a16 800 o_element]) hC q_X10_leastOnes kw_5_177 (c_X10_leastOnes l E o_h o_a0 o_a1 o_a2 o_a3 o_a8 o_a9 o_a11 o_a12 o_a13 o_a14 o_a15 o_a16 o_s o_m o_image o_was o_hasImage o_place o_rowAt o_rowEnd o_numbers o_most o_seed o_kept o_keptKind o_keptFigure o_sort o_size o_element o_thrown N r6 h7) ⟨rfl, rfl⟩ ⟨Nat.le_of_ble_eq_true rfl, Nat.le_of_ble_eq_true rfl⟩ ⟨Nat.zero_le _, Nat.zero_le _⟩ hP rfl rfl rfl hG rfl hl.1 rfl (Nat.le_of_ble_eq_true rfl) dX10_groups_17 rfl ?_
      refine lv_goto (tgt := 36) hx hb dX10_groups_20 (by decide) ?_
      exact W.iret (v := r6) hx hb hr (fun t h9 _ => ⟨rv_i hv, h9⟩) (fun q h => absurd h List.not_mem_nil) dX10_groups_36 hlk
  · have hv := if_y c1 hv
    refine lv_aload_n hx hb dX10_groups_4 rfl (lv_at hl 0 rfl) ?_
    obtain ⟨r8, h9, hv⟩ := ob_s hv
    refine rdV 4 0 (As := []) (rest := []) (st1 := [.int r8]) (w := [oMo o_h o_a0 o_a1 o_a2 o_a3 o_hasImage o_place o_rowAt o_rowEnd o_a8 o_a9 o_seed o_a11 o_a12 o_a13 o_a14 o_a15 o_a16 o_thrown, ai E o_a0 42 o_s, ai E o_a1 42 o_m, ai E o_a2 42 o_image, ai E o_a3 42 o_was, ai E o_a8 3 o_numbers, ai E o_a9 8192 o_most, ai E o_a11 8 o_kept, ai E o_a12 8 o_keptKind, ai E o_a13 8 o_keptFigure, ai E o_a14 8 o_sort, ai E o_a15 8 o_size, ai E o_a16 800 o_element]) hC q_X10_smallest kw_5_173 (c_X10_smallest l E o_h o_a0 o_a1 o_a2 o_a3 o_a8 o_a9 o_a11 o_a12 o_a13 o_a14 o_a15 o_a16 o_s o_m o_image o_was o_hasImage o_place o_rowAt o_rowEnd o_numbers o_most o_seed o_kept o_keptKind o_keptFigure o_sort o_size o_element o_thrown N r8 h9) ⟨rfl, rfl⟩ ⟨Nat.le_of_ble_eq_true rfl, Nat.le_of_ble_eq_true rfl⟩ ⟨Nat.zero_le _, Nat.zero_le _⟩ hP rfl rfl rfl hG rfl hl.1 rfl (Nat.le_of_ble_eq_true rfl) dX10_groups_5 rfl ?_
    refine lv_goto (tgt := 36) hx hb dX10_groups_8 (by decide) ?_
    exact W.iret (v := r8) hx hb hr (fun t h9 _ => ⟨rv_i hv, h9⟩) (fun q h => absurd h List.not_mem_nil) dX10_groups_36 hlk
theorem dX10_swings_0 : decode cX10_swings 0 = .ok (.aload_n 0, 1) := by decide +kernel
theorem dX10_swings_1 : decode cX10_swings 1 = .ok (.iload_n 1, 1) := by decide +kernel
theorem dX10_swings_2 : decode cX10_swings 2 = .ok (.invokevirtual 134, 3) := by decide +kernel
theorem dX10_swings_5 : decode cX10_swings 5 = .ok (.ifCond .ne 5, 3) := by decide +kernel
theorem dX10_swings_8 : decode cX10_swings 8 = .ok (.iconst (-1), 1) := by decide +kernel
theorem dX10_swings_9 : decode cX10_swings 9 = .ok (.ireturn, 1) := by decide +kernel
theorem dX10_swings_10 : decode cX10_swings 10 = .ok (.iconst 0, 1) := by decide +kernel
theorem dX10_swings_11 : decode cX10_swings 11 = .ok (.istore_n 2, 1) := by decide +kernel
theorem dX10_swings_12 : decode cX10_swings 12 = .ok (.iconst 0, 1) := by decide +kernel
theorem dX10_swings_13 : decode cX10_swings 13 = .ok (.istore_n 3, 1) := by decide +kernel
theorem dX10_swings_14 : decode cX10_swings 14 = .ok (.iload_n 3, 1) := by decide +kernel
theorem dX10_swings_15 : decode cX10_swings 15 = .ok (.iconst 1, 1) := by decide +kernel
theorem dX10_swings_16 : decode cX10_swings 16 = .ok (.aload_n 0, 1) := by decide +kernel
theorem dX10_swings_17 : decode cX10_swings 17 = .ok (.getfield 9, 3) := by decide +kernel
theorem dX10_swings_20 : decode cX10_swings 20 = .ok (.iconst 0, 1) := by decide +kernel
theorem dX10_swings_21 : decode cX10_swings 21 = .ok (.iaload, 1) := by decide +kernel
theorem dX10_swings_22 : decode cX10_swings 22 = .ok (.ishl, 1) := by decide +kernel
theorem dX10_swings_23 : decode cX10_swings 23 = .ok (.if_icmp .ge 34, 3) := by decide +kernel
theorem dX10_swings_26 : decode cX10_swings 26 = .ok (.iload_n 2, 1) := by decide +kernel
theorem dX10_swings_27 : decode cX10_swings 27 = .ok (.aload_n 0, 1) := by decide +kernel
theorem dX10_swings_28 : decode cX10_swings 28 = .ok (.iload_n 3, 1) := by decide +kernel
theorem dX10_swings_29 : decode cX10_swings 29 = .ok (.invokevirtual 198, 3) := by decide +kernel
theorem dX10_swings_32 : decode cX10_swings 32 = .ok (.ifCond .eq 16, 3) := by decide +kernel
theorem dX10_swings_35 : decode cX10_swings 35 = .ok (.aload_n 0, 1) := by decide +kernel
theorem dX10_swings_36 : decode cX10_swings 36 = .ok (.iload_n 3, 1) := by decide +kernel
theorem dX10_swings_37 : decode cX10_swings 37 = .ok (.iload_n 1, 1) := by decide +kernel
theorem dX10_swings_38 : decode cX10_swings 38 = .ok (.invokevirtual 201, 3) := by decide +kernel
theorem dX10_swings_41 : decode cX10_swings 41 = .ok (.ifCond .eq 7, 3) := by decide +kernel
theorem dX10_swings_44 : decode cX10_swings 44 = .ok (.iconst 1, 1) := by decide +kernel
theorem dX10_swings_45 : decode cX10_swings 45 = .ok (.goto 4, 3) := by decide +kernel
theorem dX10_swings_48 : decode cX10_swings 48 = .ok (.iconst 0, 1) := by decide +kernel
theorem dX10_swings_49 : decode cX10_swings 49 = .ok (.iadd, 1) := by decide +kernel
theorem dX10_swings_50 : decode cX10_swings 50 = .ok (.istore_n 2, 1) := by decide +kernel
theorem dX10_swings_51 : decode cX10_swings 51 = .ok (.iinc 3 1, 3) := by decide +kernel
theorem dX10_swings_54 : decode cX10_swings 54 = .ok (.goto (-40), 3) := by decide +kernel
theorem dX10_swings_57 : decode cX10_swings 57 = .ok (.iload_n 2, 1) := by decide +kernel
theorem dX10_swings_58 : decode cX10_swings 58 = .ok (.ireturn, 1) := by decide +kernel
def L_X10_swings_14 (N : Nat) (o_s : Nat → Int32) (p1 : Int32) : Nat → Int32 → Int32 → Option (Int32)
  | 0, _, _ => none
  | n14 + 1, x4, x5 => if ((1 : Int32) <<< ((o_s 0) &&& 31)) ≤ x4 then some x5 else ob (f_X10_isOfHeard N o_s x4) (fun r7 => if r7 = 0 then L_X10_swings_14 N o_s p1 n14 (x4 + (1 : Int32)) (x5 + (0 : Int32)) else ob (f_X10_doesSwing N o_s x4 p1) (fun r10 => if r10 = 0 then L_X10_swings_14 N o_s p1 n14 (x4 + (1 : Int32)) (x5 + (0 : Int32)) else L_X10_swings_14 N o_s p1 n14 (x4 + (1 : Int32)) (x5 + (1 : Int32))))
def f_X10_swings (N : Nat) (o_s : Nat → Int32) (p1 : Int32) : Option (Int32) := ob (f_X10_isSpeaker o_s p1) (fun r1 => if r1 = 0 then some (-1 : Int32) else L_X10_swings_14 N o_s p1 N (0 : Int32) (0 : Int32))
set_option maxHeartbeats 4000000 in
set_option maxRecDepth 100000 in
theorem c_X10_swings (l : Launch) (E : EE) (o_h : Nat) (o_a0 : Nat) (o_a1 : Nat) (o_a2 : Nat) (o_a3 : Nat) (o_a8 : Nat) (o_a9 : Nat) (o_a11 : Nat) (o_a12 : Nat) (o_a13 : Nat) (o_a14 : Nat) (o_a15 : Nat) (o_a16 : Nat) (o_s : Nat → Int32) (o_m : Nat → Int32) (o_image : Nat → Int32) (o_was : Nat → Int32) (o_hasImage : Int32) (o_place : Int32) (o_rowAt : Int32) (o_rowEnd : Int32) (o_numbers : Nat → Int32) (o_most : Nat → Int32) (o_seed : Int32) (o_kept : Nat → Int32) (o_keptKind : Nat → Int32) (o_keptFigure : Nat → Int32) (o_sort : Nat → Int32) (o_size : Nat → Int32) (o_element : Nat → Int32) (o_thrown : Int32) (p1 : Int32) (N : Nat) (res : Int32) (hv : f_X10_swings N o_s p1 = some res) : Rd l E yX10_swings cX10_swings 4 (some .int) ({ frames := 6, cells := 0, slots := 0, locals := 131 }) [.ref o_h, .int p1] [oMo o_h o_a0 o_a1 o_a2 o_a3 o_hasImage o_place o_rowAt o_rowEnd o_a8 o_a9 o_seed o_a11 o_a12 o_a13 o_a14 o_a15 o_a16 o_thrown, ai E o_a0 42 o_s, ai E o_a1 42 o_m, ai E o_a2 42 o_image, ai E o_a3 42 o_was, ai E o_a8 3 o_numbers, ai E o_a9 8192 o_most, ai E o_a11 8 o_kept, ai E o_a12 8 o_keptKind, ai E o_a13 8 o_keptFigure, ai E o_a14 8 o_sort, ai E o_a15 8 o_size, ai E o_a16 800 o_element] (some (.int res)) := by
  refine Rd.intro RX10 (by decide) rfl (Nat.le_of_ble_eq_true rfl) ?_
  intro p e s m below meth c ls hC hr hlk hP hG hl
  obtain ⟨hx, hb, hml, hown, ht⟩ := id hC
  have hK := hG.1
  have hl : lv_has ls 4 [(0, .ref o_h), (1, .int p1)] := hl
  rw [f_X10_swings] at hv
  refine lv_aload_n hx hb dX10_swings_0 rfl (lv_at hl 0 rfl) ?_
  refine lv_iload_n hx hb dX10_swings_1 rfl (lv_at hl 1 rfl) ?_
  obtain ⟨r1, h2, hv⟩ := ob_s hv
  refine rdV 4 0 (As := [.int p1]) (rest := []) (st1 := [.int r1]) (w := [oMo o_h o_a0 o_a1 o_a2 o_a3 o_hasImage o_place o_rowAt o_rowEnd o_a8 o_a9 o_seed o_a11 o_a12 o_a13 o_a14 o_a15 o_a16 o_thrown, ai E o_a0 42 o_s, ai E o_a1 42 o_m, ai E o_a2 42 o_image, ai E o_a3 42 o_was, ai E o_a8 3 o_numbers, ai E o_a9 8192 o_most, ai E o_a11 8 o_kept, ai E o_a12 8 o_keptKind, ai E o_a13 8 o_keptFigure, ai E o_a14 8 o_sort, ai E o_a15 8 o_size, ai E o_a16 800 o_element]) hC q_X10_isSpeaker kw_4_229 (c_X10_isSpeaker l E o_h o_a0 o_a1 o_a2 o_a3 o_a8 o_a9 o_a11 o_a12 o_a13 o_a14 o_a15 o_a16 o_s o_m o_image o_was o_hasImage o_place o_rowAt o_rowEnd o_numbers o_most o_seed o_kept o_keptKind o_keptFigure o_sort o_size o_element o_thrown p1 r1 h2) ⟨rfl, rfl⟩ ⟨Nat.le_of_ble_eq_true rfl, Nat.le_of_ble_eq_true rfl⟩ ⟨Nat.zero_le _, Nat.zero_le _⟩ hP rfl rfl rfl hG rfl hl.1 rfl (Nat.le_of_ble_eq_true rfl) dX10_swings_2 rfl ?_
  refine lv_if_ne (tgt := 10) hx hb dX10_swings_5 (by decide) (fun c3 => ?_) (fun c3 => ?_)
  · have hv := if_n c3 hv
    refine lv_iconst (v := (0 : Int32)) hx hb dX10_swings_10 (by decide) ?_
    refine lv_istore_n (lv' := [(2, .int (0 : Int32)), (0, .ref o_h), (1, .int p1)]) hx hb dX10_swings_11 rfl hl (by decide) rfl (fun ls hl => ?_)
    refine lv_iconst (v := (0 : Int32)) hx hb dX10_swings_12 (by decide) ?_
    refine lv_istore_n (lv' := [(3, .int (0 : Int32)), (2, .int (0 : Int32)), (0, .ref o_h), (1, .int p1)]) hx hb dX10_swings_13 rfl hl (by decide) rfl (fun ls hl => ?_)
    have hL14 : ∀ (n : Nat) (x4 : Int32) (x5 : Int32) (ls : Array Slot), lv_has ls 4 [(3, .int x4), (2, .int x5), (0, .ref o_h), (1, .int p1)] → L_X10_swings_14 N o_s p1 n x4 x5 = some res → W p l e ({ frames := 6, cells := 0, slots := 0, locals := 131 }) s m [.ref o_h, .int p1].toArray below meth c s.heap [] 0 0 (MQ below (RdQ (some (.int res))) [.ref o_h, .int p1].toArray s 0 0 (fun _ => False)) (F0 m 14 ls []) := by
      intro n
      induction n with
      | zero => intro x4 x5 ls hl hv; cases hv
      | succ n14 ih14 =>
        intro x4 x5 ls hl hv
        rw [L_X10_swings_14] at hv
        refine lv_iload_n hx hb dX10_swings_14 rfl (lv_at hl 0 rfl) ?_
        refine lv_iconst (v := (1 : Int32)) hx hb dX10_swings_15 (by decide) ?_
        refine lv_aload_n hx hb dX10_swings_16 rfl (lv_at hl 2 rfl) ?_
        refine va_get (D := E.1) (ci := 4) (v := .ref o_a0) (C := RX10) (T := TX10) (N := 18) hx hb ht i_X10 hown hK hP 0 rfl rfl 0 (by decide) (ht _ kw_4_134) (fun _ h9 => h9) rfl dX10_swings_17 ?_
        refine lv_iconst (v := (0 : Int32)) hx hb dX10_swings_20 (by decide) ?_
        refine va_iald hx hb hK hP 1 0 rfl rfl (ix_s (by decide)) dX10_swings_21 ?_
        refine W.eq (g2 := F0 m 22 ls [.int (o_s 0), .int (1 : Int32), .int x4]) rfl ?_
        refine lv_ishl hx hb dX10_swings_22 ?_
        refine lv_icmp_ge (tgt := 57) hx hb dX10_swings_23 (by decide) (fun c6 => ?_) (fun c6 => ?_)
        · have hv := if_y c6 hv
          refine lv_iload_n hx hb dX10_swings_57 rfl (lv_at hl 1 rfl) ?_
          exact W.iret (v := x5) hx hb hr (fun t h9 _ => ⟨rv_i hv, h9⟩) (fun q h => absurd h List.not_mem_nil) dX10_swings_58 hlk
        · have hv := if_n c6 hv
          refine lv_iload_n hx hb dX10_swings_26 rfl (lv_at hl 1 rfl) ?_
          refine lv_aload_n hx hb dX10_swings_27 rfl (lv_at hl 2 rfl) ?_
          refine lv_iload_n hx hb dX10_swings_28 rfl (lv_at hl 0 rfl) ?_
          obtain ⟨r7, h8, hv⟩ := ob_s hv
          refine rdV 4 0 (As := [.int x4]) (rest := [.int x5]) (st1 := [.int r7, .int x5]) (w := [oMo o_h o_a0 o_a1 o_a2 o_a3 o_hasImage o_place o_rowAt o_rowEnd o_a8 o_a9 o_seed o_a11 o_a12 o_a13 o_a14 o_a15 o_a16 o_thrown, ai E o_a0 42 o_s, ai E o_a1 42 o_m, ai E o_a2 42 o_image, ai E o_a3 42 o_was, ai E o_a8 3 o_numbers, ai E o_a9 8192 o_most, ai E o_a11 8 o_kept, ai E o_a12 8 o_keptKind, ai E o_a13 8 o_keptFigure, ai E o_a14 8 o_sort, ai E o_a15 8 o_size, ai E o_a16 800 o_element]) hC q_X10_isOfHeard kw_5_152 (c_X10_isOfHeard l E o_h o_a0 o_a1 o_a2 o_a3 o_a8 o_a9 o_a11 o_a12 o_a13 o_a14 o_a15 o_a16 o_s o_m o_image o_was o_hasImage o_place o_rowAt o_rowEnd o_numbers o_most o_seed o_kept o_keptKind o_keptFigure o_sort o_size o_element o_thrown x4 N r7 h8) ⟨rfl, rfl⟩ ⟨Nat.le_of_ble_eq_true rfl, Nat.le_of_ble_eq_true rfl⟩ ⟨Nat.zero_le _, Nat.zero_le _⟩ hP rfl rfl rfl hG rfl hl.1 rfl (Nat.le_of_ble_eq_true rfl) dX10_swings_29 rfl ?_
          refine lv_if_eq (tgt := 48) hx hb dX10_swings_32 (by decide) (fun c9 => ?_) (fun c9 => ?_)
          · have hv := if_y c9 hv
            refine lv_iconst (v := (0 : Int32)) hx hb dX10_swings_48 (by decide) ?_
            refine lv_iadd hx hb dX10_swings_49 ?_
            refine lv_istore_n (lv' := [(2, .int (x5 + (0 : Int32))), (3, .int x4), (0, .ref o_h), (1, .int p1)]) hx hb dX10_swings_50 rfl hl (by decide) rfl (fun ls hl => ?_)
            refine lv_iinc (v := (x4 + (1 : Int32))) (lv' := [(3, .int (x4 + (1 : Int32))), (2, .int (x5 + (0 : Int32))), (0, .ref o_h), (1, .int p1)]) hx hb dX10_swings_51 hl (k := 1) rfl rfl (by decide) rfl (fun ls hl => ?_)
            refine lv_goto (tgt := 14) hx hb dX10_swings_54 (by decide) ?_
            exact ih14 (x4 + (1 : Int32)) (x5 + (0 : Int32)) _ (lv_sub hl [0, 1, 2, 3] rfl) hv
          · have hv := if_n c9 hv
            refine lv_aload_n hx hb dX10_swings_35 rfl (lv_at hl 2 rfl) ?_
            refine lv_iload_n hx hb dX10_swings_36 rfl (lv_at hl 0 rfl) ?_
            refine lv_iload_n hx hb dX10_swings_37 rfl (lv_at hl 3 rfl) ?_
            obtain ⟨r10, h11, hv⟩ := ob_s hv
            refine rdV 4 0 (As := [.int x4, .int p1]) (rest := [.int x5]) (st1 := [.int r10, .int x5]) (w := [oMo o_h o_a0 o_a1 o_a2 o_a3 o_hasImage o_place o_rowAt o_rowEnd o_a8 o_a9 o_seed o_a11 o_a12 o_a13 o_a14 o_a15 o_a16 o_thrown, ai E o_a0 42 o_s, ai E o_a1 42 o_m, ai E o_a2 42 o_image, ai E o_a3 42 o_was, ai E o_a8 3 o_numbers, ai E o_a9 8192 o_most, ai E o_a11 8 o_kept, ai E o_a12 8 o_keptKind, ai E o_a13 8 o_keptFigure, ai E o_a14 8 o_sort, ai E o_a15 8 o_size, ai E o_a16 800 o_element]) hC q_X10_doesSwing kw_5_156 (c_X10_doesSwing l E o_h o_a0 o_a1 o_a2 o_a3 o_a8 o_a9 o_a11 o_a12 o_a13 o_a14 o_a15 o_a16 o_s o_m o_image o_was o_hasImage o_place o_rowAt o_rowEnd o_numbers o_most o_seed o_kept o_keptKind o_keptFigure o_sort o_size o_element o_thrown x4 p1 N r10 h11) ⟨rfl, rfl⟩ ⟨Nat.le_of_ble_eq_true rfl, Nat.le_of_ble_eq_true rfl⟩ ⟨Nat.zero_le _, Nat.zero_le _⟩ hP rfl rfl rfl hG rfl hl.1 rfl (Nat.le_of_ble_eq_true rfl) dX10_swings_38 rfl ?_
            refine lv_if_eq (tgt := 48) hx hb dX10_swings_41 (by decide) (fun c12 => ?_) (fun c12 => ?_)
            · have hv := if_y c12 hv
              refine lv_iconst (v := (0 : Int32)) hx hb dX10_swings_48 (by decide) ?_
              refine lv_iadd hx hb dX10_swings_49 ?_
              refine lv_istore_n (lv' := [(2, .int (x5 + (0 : Int32))), (3, .int x4), (0, .ref o_h), (1, .int p1)]) hx hb dX10_swings_50 rfl hl (by decide) rfl (fun ls hl => ?_)
              refine lv_iinc (v := (x4 + (1 : Int32))) (lv' := [(3, .int (x4 + (1 : Int32))), (2, .int (x5 + (0 : Int32))), (0, .ref o_h), (1, .int p1)]) hx hb dX10_swings_51 hl (k := 1) rfl rfl (by decide) rfl (fun ls hl => ?_)
              refine lv_goto (tgt := 14) hx hb dX10_swings_54 (by decide) ?_
              exact ih14 (x4 + (1 : Int32)) (x5 + (0 : Int32)) _ (lv_sub hl [0, 1, 2, 3] rfl) hv
            · have hv := if_n c12 hv
              refine lv_iconst (v := (1 : Int32)) hx hb dX10_swings_44 (by decide) ?_
              refine lv_goto (tgt := 49) hx hb dX10_swings_45 (by decide) ?_
              refine lv_iadd hx hb dX10_swings_49 ?_
              refine lv_istore_n (lv' := [(2, .int (x5 + (1 : Int32))), (3, .int x4), (0, .ref o_h), (1, .int p1)]) hx hb dX10_swings_50 rfl hl (by decide) rfl (fun ls hl => ?_)
              refine lv_iinc (v := (x4 + (1 : Int32))) (lv' := [(3, .int (x4 + (1 : Int32))), (2, .int (x5 + (1 : Int32))), (0, .ref o_h), (1, .int p1)]) hx hb dX10_swings_51 hl (k := 1) rfl rfl (by decide) rfl (fun ls hl => ?_)
              refine lv_goto (tgt := 14) hx hb dX10_swings_54 (by decide) ?_
              exact ih14 (x4 + (1 : Int32)) (x5 + (1 : Int32)) _ (lv_sub hl [0, 1, 2, 3] rfl) hv
    exact hL14 N (0 : Int32) (0 : Int32) _ (lv_sub hl [0, 1, 2, 3] rfl) hv
  · have hv := if_y c3 hv
    refine lv_iconst (v := (-1 : Int32)) hx hb dX10_swings_8 (by decide) ?_
    exact W.iret (v := (-1 : Int32)) hx hb hr (fun t h9 _ => ⟨rv_i hv, h9⟩) (fun q h => absurd h List.not_mem_nil) dX10_swings_9 hlk
