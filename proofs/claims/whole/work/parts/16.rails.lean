theorem dX5_mostBehind_0 : decode cX5_mostBehind 0 = .ok (.iload_n 1, 1) := by decide +kernel
theorem dX5_mostBehind_1 : decode cX5_mostBehind 1 = .ok (.invokestatic 38, 3) := by decide +kernel
theorem dX5_mostBehind_4 : decode cX5_mostBehind 4 = .ok (.istore_n 2, 1) := by decide +kernel
theorem dX5_mostBehind_5 : decode cX5_mostBehind 5 = .ok (.iconst 0, 1) := by decide +kernel
theorem dX5_mostBehind_6 : decode cX5_mostBehind 6 = .ok (.istore_n 3, 1) := by decide +kernel
theorem dX5_mostBehind_7 : decode cX5_mostBehind 7 = .ok (.iload_n 2, 1) := by decide +kernel
theorem dX5_mostBehind_8 : decode cX5_mostBehind 8 = .ok (.aload_n 0, 1) := by decide +kernel
theorem dX5_mostBehind_9 : decode cX5_mostBehind 9 = .ok (.getfield 26, 3) := by decide +kernel
theorem dX5_mostBehind_12 : decode cX5_mostBehind 12 = .ok (.if_icmp .lt 5, 3) := by decide +kernel
theorem dX5_mostBehind_15 : decode cX5_mostBehind 15 = .ok (.iload_n 3, 1) := by decide +kernel
theorem dX5_mostBehind_16 : decode cX5_mostBehind 16 = .ok (.ireturn, 1) := by decide +kernel
theorem dX5_mostBehind_17 : decode cX5_mostBehind 17 = .ok (.iconst 0, 1) := by decide +kernel
theorem dX5_mostBehind_18 : decode cX5_mostBehind 18 = .ok (.istore 4, 2) := by decide +kernel
theorem dX5_mostBehind_20 : decode cX5_mostBehind 20 = .ok (.iload 4, 2) := by decide +kernel
theorem dX5_mostBehind_22 : decode cX5_mostBehind 22 = .ok (.bipush 10, 2) := by decide +kernel
theorem dX5_mostBehind_24 : decode cX5_mostBehind 24 = .ok (.if_icmp .ge 44, 3) := by decide +kernel
theorem dX5_mostBehind_27 : decode cX5_mostBehind 27 = .ok (.iload_n 1, 1) := by decide +kernel
theorem dX5_mostBehind_28 : decode cX5_mostBehind 28 = .ok (.iload 4, 2) := by decide +kernel
theorem dX5_mostBehind_30 : decode cX5_mostBehind 30 = .ok (.invokestatic 43, 3) := by decide +kernel
theorem dX5_mostBehind_33 : decode cX5_mostBehind 33 = .ok (.ifCond .ne 29, 3) := by decide +kernel
theorem dX5_mostBehind_36 : decode cX5_mostBehind 36 = .ok (.iload_n 3, 1) := by decide +kernel
theorem dX5_mostBehind_37 : decode cX5_mostBehind 37 = .ok (.aload_n 0, 1) := by decide +kernel
theorem dX5_mostBehind_38 : decode cX5_mostBehind 38 = .ok (.getfield 17, 3) := by decide +kernel
theorem dX5_mostBehind_41 : decode cX5_mostBehind 41 = .ok (.iload_n 2, 1) := by decide +kernel
theorem dX5_mostBehind_42 : decode cX5_mostBehind 42 = .ok (.aaload, 1) := by decide +kernel
theorem dX5_mostBehind_43 : decode cX5_mostBehind 43 = .ok (.iload 4, 2) := by decide +kernel
theorem dX5_mostBehind_45 : decode cX5_mostBehind 45 = .ok (.iaload, 1) := by decide +kernel
theorem dX5_mostBehind_46 : decode cX5_mostBehind 46 = .ok (.aload_n 0, 1) := by decide +kernel
theorem dX5_mostBehind_47 : decode cX5_mostBehind 47 = .ok (.getfield 9, 3) := by decide +kernel
theorem dX5_mostBehind_50 : decode cX5_mostBehind 50 = .ok (.iload_n 1, 1) := by decide +kernel
theorem dX5_mostBehind_51 : decode cX5_mostBehind 51 = .ok (.iconst 1, 1) := by decide +kernel
theorem dX5_mostBehind_52 : decode cX5_mostBehind 52 = .ok (.iload 4, 2) := by decide +kernel
theorem dX5_mostBehind_54 : decode cX5_mostBehind 54 = .ok (.ishl, 1) := by decide +kernel
theorem dX5_mostBehind_55 : decode cX5_mostBehind 55 = .ok (.ior, 1) := by decide +kernel
theorem dX5_mostBehind_56 : decode cX5_mostBehind 56 = .ok (.iaload, 1) := by decide +kernel
theorem dX5_mostBehind_57 : decode cX5_mostBehind 57 = .ok (.iadd, 1) := by decide +kernel
theorem dX5_mostBehind_58 : decode cX5_mostBehind 58 = .ok (.invokestatic 47, 3) := by decide +kernel
theorem dX5_mostBehind_61 : decode cX5_mostBehind 61 = .ok (.istore_n 3, 1) := by decide +kernel
theorem dX5_mostBehind_62 : decode cX5_mostBehind 62 = .ok (.iinc 4 1, 3) := by decide +kernel
theorem dX5_mostBehind_65 : decode cX5_mostBehind 65 = .ok (.goto (-45), 3) := by decide +kernel
theorem dX5_mostBehind_68 : decode cX5_mostBehind 68 = .ok (.iload_n 3, 1) := by decide +kernel
theorem dX5_mostBehind_69 : decode cX5_mostBehind 69 = .ok (.ireturn, 1) := by decide +kernel
def L_X5_mostBehind_20 (v_rest : Nat → Int32) (v_M : Nat → Nat → Int32) (p1 : Int32) (r1 : Int32) : Nat → Int32 → Int32 → Option (Int32)
  | 0, _, _ => none
  | n20 + 1, x4, x5 => if (10 : Int32) ≤ x4 then some x5 else ob (f_X9_isIn p1 x4) (fun r7 => if r7 = 0 then gd (ix r1 7) (gd (ix x4 10) (gd (ix (p1 ||| ((1 : Int32) <<< (x4 &&& 31))) 1024) (nm (if x5 < ((v_M r1.toNatClampNeg x4.toNatClampNeg) + (v_rest (p1 ||| ((1 : Int32) <<< (x4 &&& 31))).toNatClampNeg)) then ((v_M r1.toNatClampNeg x4.toNatClampNeg) + (v_rest (p1 ||| ((1 : Int32) <<< (x4 &&& 31))).toNatClampNeg)) else x5) (fun z13 => L_X5_mostBehind_20 v_rest v_M p1 r1 n20 (x4 + (1 : Int32)) z13)))) else L_X5_mostBehind_20 v_rest v_M p1 r1 n20 (x4 + (1 : Int32)) x5)
def f_X5_mostBehind (N : Nat) (v_people : Int32) (v_rest : Nat → Int32) (v_M : Nat → Nat → Int32) (p1 : Int32) : Option (Int32) := ob (f_J6_bitCount_0f7a4 p1) (fun r1 => if r1 < v_people then L_X5_mostBehind_20 v_rest v_M p1 r1 N (0 : Int32) (0 : Int32) else some (0 : Int32))
set_option maxHeartbeats 4000000 in
set_option maxRecDepth 100000 in
theorem c_X5_mostBehind (l : Launch) (E : EE) (v_h : Nat) (v_a0 : Nat) (v_a1 : Nat) (v_rw : Nat → Nat) (v_people : Int32) (v_rest : Nat → Int32) (v_g : Nat → Option Nat) (v_M : Nat → Nat → Int32) (p1 : Int32) (N : Nat) (res : Int32) (hrw_v : ∀ i : Nat, i < 7 → v_g i = some (v_rw i)) (hv : f_X5_mostBehind N v_people v_rest v_M p1 = some res) : Rd l E yX5_mostBehind cX5_mostBehind 5 (some .int) ({ frames := 1, cells := 0, slots := 0, locals := 21 }) [.ref v_h, .int p1] [oRa v_h v_a0 v_a1 v_people, ai E v_a0 1024 v_rest, aG E v_a1 v_g, ai E (v_rw 0) 10 (v_M 0), ai E (v_rw 1) 10 (v_M 1), ai E (v_rw 2) 10 (v_M 2), ai E (v_rw 3) 10 (v_M 3), ai E (v_rw 4) 10 (v_M 4), ai E (v_rw 5) 10 (v_M 5), ai E (v_rw 6) 10 (v_M 6)] (some (.int res)) := by
  refine Rd.intro RX5 (by decide) rfl (Nat.le_of_ble_eq_true rfl) ?_
  intro p e s m below meth c ls hC hr hlk hP hG hl
  obtain ⟨hx, hb, hml, hown, ht⟩ := id hC
  have hK := hG.1
  have hl : lv_has ls 5 [(0, .ref v_h), (1, .int p1)] := hl
  rw [f_X5_mostBehind] at hv
  refine lv_iload_n hx hb dX5_mostBehind_0 rfl (lv_at hl 1 rfl) ?_
  obtain ⟨r1, h2, hv⟩ := ob_s hv
  refine rdS (rest := []) (st1 := [.int r1]) (w := []) hC q_J6_bitCount_0f7a4 kw_3_63 (c_J6_bitCount_0f7a4 l E p1 r1 h2) ⟨rfl, rfl⟩ ⟨Nat.le_of_ble_eq_true rfl, Nat.le_of_ble_eq_true rfl⟩ ⟨Nat.zero_le _, Nat.zero_le _⟩ (hP.sub (ws' := []) [] rfl) hG rfl hl.1 rfl (Nat.le_of_ble_eq_true rfl) dX5_mostBehind_1 rfl ?_
  refine lv_istore_n (lv' := [(2, .int r1), (0, .ref v_h), (1, .int p1)]) hx hb dX5_mostBehind_4 rfl hl (by decide) rfl (fun ls hl => ?_)
  refine lv_iconst (v := (0 : Int32)) hx hb dX5_mostBehind_5 (by decide) ?_
  refine lv_istore_n (lv' := [(3, .int (0 : Int32)), (2, .int r1), (0, .ref v_h), (1, .int p1)]) hx hb dX5_mostBehind_6 rfl hl (by decide) rfl (fun ls hl => ?_)
  refine lv_iload_n hx hb dX5_mostBehind_7 rfl (lv_at hl 1 rfl) ?_
  refine lv_aload_n hx hb dX5_mostBehind_8 rfl (lv_at hl 2 rfl) ?_
  refine va_get (D := E.1) (ci := 0) (v := .int v_people) (C := RX5) (T := TX5) (N := 3) hx hb ht i_X5 hown hK hP 0 rfl rfl 2 (by decide) (ht _ kw_1_96) (fun _ h9 => h9) rfl dX5_mostBehind_9 ?_
  refine lv_icmp_lt (tgt := 17) hx hb dX5_mostBehind_12 (by decide) (fun c3 => ?_) (fun c3 => ?_)
  · have hv := if_y c3 hv
    refine lv_iconst (v := (0 : Int32)) hx hb dX5_mostBehind_17 (by decide) ?_
    refine lv_istore (lv' := [(4, .int (0 : Int32)), (3, .int (0 : Int32)), (2, .int r1), (0, .ref v_h), (1, .int p1)]) hx hb dX5_mostBehind_18 hl (by decide) rfl (fun ls hl => ?_)
    have hL20 : ∀ (n : Nat) (x4 : Int32) (x5 : Int32) (ls : Array Slot), lv_has ls 5 [(4, .int x4), (3, .int x5), (2, .int r1), (0, .ref v_h), (1, .int p1)] → L_X5_mostBehind_20 v_rest v_M p1 r1 n x4 x5 = some res → W p l e ({ frames := 1, cells := 0, slots := 0, locals := 21 }) s m [.ref v_h, .int p1].toArray below meth c s.heap [] 0 0 (MQ below (RdQ (some (.int res))) [.ref v_h, .int p1].toArray s 0 0 (fun _ => False)) (F0 m 20 ls []) := by
      intro n
      induction n with
      | zero => intro x4 x5 ls hl hv; cases hv
      | succ n20 ih20 =>
        intro x4 x5 ls hl hv
        rw [L_X5_mostBehind_20] at hv
        refine lv_iload hx hb dX5_mostBehind_20 (lv_at hl 0 rfl) ?_
        refine lv_bipush (v := (10 : Int32)) hx hb dX5_mostBehind_22 (by decide) ?_
        refine lv_icmp_ge (tgt := 68) hx hb dX5_mostBehind_24 (by decide) (fun c6 => ?_) (fun c6 => ?_)
        · have hv := if_y c6 hv
          refine lv_iload_n hx hb dX5_mostBehind_68 rfl (lv_at hl 1 rfl) ?_
          exact W.iret (v := x5) hx hb hr (fun t h9 _ => ⟨rv_i hv, h9⟩) (fun q h => absurd h List.not_mem_nil) dX5_mostBehind_69 hlk
        · have hv := if_n c6 hv
          refine lv_iload_n hx hb dX5_mostBehind_27 rfl (lv_at hl 4 rfl) ?_
          refine lv_iload hx hb dX5_mostBehind_28 (lv_at hl 0 rfl) ?_
          obtain ⟨r7, h8, hv⟩ := ob_s hv
          refine rdSN (rest := []) (st1 := [.int r7]) (w := []) hC q_X9_isIn (List.mem_of_getElem? (i := 7) rfl) (c_X9_isIn l E p1 x4 r7 h8) ⟨rfl, rfl⟩ ⟨Nat.le_of_ble_eq_true rfl, Nat.le_of_ble_eq_true rfl⟩ ⟨Nat.zero_le _, Nat.zero_le _⟩ (hP.sub (ws' := []) [] rfl) hG rfl hl.1 rfl (Nat.le_of_ble_eq_true rfl) dX5_mostBehind_30 rfl ?_
          refine lv_if_ne (tgt := 62) hx hb dX5_mostBehind_33 (by decide) (fun c9 => ?_) (fun c9 => ?_)
          · have hv := if_n c9 hv
            refine lv_iinc (v := (x4 + (1 : Int32))) (lv' := [(4, .int (x4 + (1 : Int32))), (3, .int x5), (2, .int r1), (0, .ref v_h), (1, .int p1)]) hx hb dX5_mostBehind_62 hl (k := 0) rfl rfl (by decide) rfl (fun ls hl => ?_)
            refine lv_goto (tgt := 20) hx hb dX5_mostBehind_65 (by decide) ?_
            exact ih20 (x4 + (1 : Int32)) x5 _ (lv_sub hl [0, 1, 2, 3, 4] rfl) hv
          · have hv := if_y c9 hv
            refine lv_iload_n hx hb dX5_mostBehind_36 rfl (lv_at hl 1 rfl) ?_
            refine lv_aload_n hx hb dX5_mostBehind_37 rfl (lv_at hl 3 rfl) ?_
            refine va_get (D := E.1) (ci := 0) (v := .ref v_a1) (C := RX5) (T := TX5) (N := 3) hx hb ht i_X5 hown hK hP 0 rfl rfl 1 (by decide) (ht _ kw_1_95) (fun _ h9 => h9) rfl dX5_mostBehind_38 ?_
            refine lv_iload_n hx hb dX5_mostBehind_41 rfl (lv_at hl 2 rfl) ?_
            obtain ⟨g10, hv⟩ := gd_s hv
            have lg10 := ix_lt g10
            refine va_aldT (ty := .array .int) rfl hx hb hK hP 2 2 rfl rfl (ix_s g10) dX5_mostBehind_42 ?_
            refine W.eq (g2 := F0 m 43 ls [.ref (v_rw r1.toNatClampNeg), .int x5]) (by rw [hrw_v _ lg10]; rfl) ?_
            refine lv_iload hx hb dX5_mostBehind_43 (lv_at hl 0 rfl) ?_
            obtain ⟨g11, hv⟩ := gd_s hv
            have rw_g11 : ∀ i : Nat, i < 7 → ([oRa v_h v_a0 v_a1 v_people, ai E v_a0 1024 v_rest, aG E v_a1 v_g, ai E (v_rw 0) 10 (v_M 0), ai E (v_rw 1) 10 (v_M 1), ai E (v_rw 2) 10 (v_M 2), ai E (v_rw 3) 10 (v_M 3), ai E (v_rw 4) 10 (v_M 4), ai E (v_rw 5) 10 (v_M 5), ai E (v_rw 6) 10 (v_M 6)] : va_W)[3 + i]? = some (v_rw i, .inl (E.2.1, 10, .inl (v_M i))) := fun i h => match i, h with | 0, _ => rfl | 1, _ => rfl | 2, _ => rfl | 3, _ => rfl | 4, _ => rfl | 5, _ => rfl | 6, _ => rfl | i + 7, h => absurd h (by omega)
            refine va_iald hx hb hK hP (3 + r1.toNatClampNeg) 0 (rw_g11 _ lg10) rfl (ix_s g11) dX5_mostBehind_45 ?_
            refine lv_aload_n hx hb dX5_mostBehind_46 rfl (lv_at hl 3 rfl) ?_
            refine va_get (D := E.1) (ci := 0) (v := .ref v_a0) (C := RX5) (T := TX5) (N := 3) hx hb ht i_X5 hown hK hP 0 rfl rfl 0 (by decide) (ht _ kw_1_94) (fun _ h9 => h9) rfl dX5_mostBehind_47 ?_
            refine lv_iload_n hx hb dX5_mostBehind_50 rfl (lv_at hl 4 rfl) ?_
            refine lv_iconst (v := (1 : Int32)) hx hb dX5_mostBehind_51 (by decide) ?_
            refine lv_iload hx hb dX5_mostBehind_52 (lv_at hl 0 rfl) ?_
            refine lv_ishl hx hb dX5_mostBehind_54 ?_
            refine lv_ior hx hb dX5_mostBehind_55 ?_
            obtain ⟨g12, hv⟩ := gd_s hv
            refine va_iald hx hb hK hP 1 0 rfl rfl (ix_s g12) dX5_mostBehind_56 ?_
            refine lv_iadd hx hb dX5_mostBehind_57 ?_
            refine va_mmax hx hb (by rw [hml]; exact hl.1.symm) hown (ht _ kw_3_65) (ht _ kw_2_44) (ht _ kw_1_8) (ht _ kw_2_45) (Nat.le_of_ble_eq_true rfl) (Nat.le_of_ble_eq_true rfl) (Nat.zero_le _) (Nat.zero_le _) dX5_mostBehind_58 ?_
            refine lv_topi (fun z13 ez13 => ?_)
            have hv := nm_s ez13 hv
            refine lv_istore_n (lv' := [(3, .int z13), (4, .int x4), (2, .int r1), (0, .ref v_h), (1, .int p1)]) hx hb dX5_mostBehind_61 rfl hl (by decide) rfl (fun ls hl => ?_)
            refine lv_iinc (v := (x4 + (1 : Int32))) (lv' := [(4, .int (x4 + (1 : Int32))), (3, .int z13), (2, .int r1), (0, .ref v_h), (1, .int p1)]) hx hb dX5_mostBehind_62 hl (k := 1) rfl rfl (by decide) rfl (fun ls hl => ?_)
            refine lv_goto (tgt := 20) hx hb dX5_mostBehind_65 (by decide) ?_
            exact ih20 (x4 + (1 : Int32)) z13 _ (lv_sub hl [0, 1, 2, 3, 4] rfl) hv
    exact hL20 N (0 : Int32) (0 : Int32) _ (lv_sub hl [0, 1, 2, 3, 4] rfl) hv
  · have hv := if_n c3 hv
    refine lv_iload_n hx hb dX5_mostBehind_15 rfl (lv_at hl 0 rfl) ?_
    exact W.iret (v := (0 : Int32)) hx hb hr (fun t h9 _ => ⟨rv_i hv, h9⟩) (fun q h => absurd h List.not_mem_nil) dX5_mostBehind_16 hlk
theorem dX5_weigh_0 : decode cX5_weigh 0 = .ok (.aload_n 0, 1) := by decide +kernel
theorem dX5_weigh_1 : decode cX5_weigh 1 = .ok (.aload_n 1, 1) := by decide +kernel
theorem dX5_weigh_2 : decode cX5_weigh 2 = .ok (.getfield 20, 3) := by decide +kernel
theorem dX5_weigh_5 : decode cX5_weigh 5 = .ok (.putfield 26, 3) := by decide +kernel
theorem dX5_weigh_8 : decode cX5_weigh 8 = .ok (.iconst 0, 1) := by decide +kernel
theorem dX5_weigh_9 : decode cX5_weigh 9 = .ok (.istore_n 2, 1) := by decide +kernel
theorem dX5_weigh_10 : decode cX5_weigh 10 = .ok (.iload_n 2, 1) := by decide +kernel
theorem dX5_weigh_11 : decode cX5_weigh 11 = .ok (.aload_n 0, 1) := by decide +kernel
theorem dX5_weigh_12 : decode cX5_weigh 12 = .ok (.getfield 26, 3) := by decide +kernel
theorem dX5_weigh_15 : decode cX5_weigh 15 = .ok (.if_icmp .ge 42, 3) := by decide +kernel
theorem dX5_weigh_18 : decode cX5_weigh 18 = .ok (.iconst 0, 1) := by decide +kernel
theorem dX5_weigh_19 : decode cX5_weigh 19 = .ok (.istore_n 3, 1) := by decide +kernel
theorem dX5_weigh_20 : decode cX5_weigh 20 = .ok (.iload_n 3, 1) := by decide +kernel
theorem dX5_weigh_21 : decode cX5_weigh 21 = .ok (.bipush 10, 2) := by decide +kernel
theorem dX5_weigh_23 : decode cX5_weigh 23 = .ok (.if_icmp .ge 28, 3) := by decide +kernel
theorem dX5_weigh_26 : decode cX5_weigh 26 = .ok (.aload_n 0, 1) := by decide +kernel
theorem dX5_weigh_27 : decode cX5_weigh 27 = .ok (.getfield 17, 3) := by decide +kernel
theorem dX5_weigh_30 : decode cX5_weigh 30 = .ok (.iload_n 2, 1) := by decide +kernel
theorem dX5_weigh_31 : decode cX5_weigh 31 = .ok (.aaload, 1) := by decide +kernel
theorem dX5_weigh_32 : decode cX5_weigh 32 = .ok (.iload_n 3, 1) := by decide +kernel
theorem dX5_weigh_33 : decode cX5_weigh 33 = .ok (.aload_n 1, 1) := by decide +kernel
theorem dX5_weigh_34 : decode cX5_weigh 34 = .ok (.iload_n 2, 1) := by decide +kernel
theorem dX5_weigh_35 : decode cX5_weigh 35 = .ok (.aload_n 1, 1) := by decide +kernel
theorem dX5_weigh_36 : decode cX5_weigh 36 = .ok (.getfield 27, 3) := by decide +kernel
theorem dX5_weigh_39 : decode cX5_weigh 39 = .ok (.iload_n 3, 1) := by decide +kernel
theorem dX5_weigh_40 : decode cX5_weigh 40 = .ok (.iaload, 1) := by decide +kernel
theorem dX5_weigh_41 : decode cX5_weigh 41 = .ok (.invokevirtual 30, 3) := by decide +kernel
theorem dX5_weigh_44 : decode cX5_weigh 44 = .ok (.iastore, 1) := by decide +kernel
theorem dX5_weigh_45 : decode cX5_weigh 45 = .ok (.iinc 3 1, 3) := by decide +kernel
theorem dX5_weigh_48 : decode cX5_weigh 48 = .ok (.goto (-28), 3) := by decide +kernel
theorem dX5_weigh_51 : decode cX5_weigh 51 = .ok (.iinc 2 1, 3) := by decide +kernel
theorem dX5_weigh_54 : decode cX5_weigh 54 = .ok (.goto (-44), 3) := by decide +kernel
theorem dX5_weigh_57 : decode cX5_weigh 57 = .ok (.aload_n 0, 1) := by decide +kernel
theorem dX5_weigh_58 : decode cX5_weigh 58 = .ok (.getfield 9, 3) := by decide +kernel
theorem dX5_weigh_61 : decode cX5_weigh 61 = .ok (.arraylength, 1) := by decide +kernel
theorem dX5_weigh_62 : decode cX5_weigh 62 = .ok (.iconst 1, 1) := by decide +kernel
theorem dX5_weigh_63 : decode cX5_weigh 63 = .ok (.isub, 1) := by decide +kernel
theorem dX5_weigh_64 : decode cX5_weigh 64 = .ok (.istore_n 2, 1) := by decide +kernel
theorem dX5_weigh_65 : decode cX5_weigh 65 = .ok (.iload_n 2, 1) := by decide +kernel
theorem dX5_weigh_66 : decode cX5_weigh 66 = .ok (.ifCond .lt 20, 3) := by decide +kernel
theorem dX5_weigh_69 : decode cX5_weigh 69 = .ok (.aload_n 0, 1) := by decide +kernel
theorem dX5_weigh_70 : decode cX5_weigh 70 = .ok (.getfield 9, 3) := by decide +kernel
theorem dX5_weigh_73 : decode cX5_weigh 73 = .ok (.iload_n 2, 1) := by decide +kernel
theorem dX5_weigh_74 : decode cX5_weigh 74 = .ok (.aload_n 0, 1) := by decide +kernel
theorem dX5_weigh_75 : decode cX5_weigh 75 = .ok (.iload_n 2, 1) := by decide +kernel
theorem dX5_weigh_76 : decode cX5_weigh 76 = .ok (.invokevirtual 34, 3) := by decide +kernel
theorem dX5_weigh_79 : decode cX5_weigh 79 = .ok (.iastore, 1) := by decide +kernel
theorem dX5_weigh_80 : decode cX5_weigh 80 = .ok (.iinc 2 (-1), 3) := by decide +kernel
theorem dX5_weigh_83 : decode cX5_weigh 83 = .ok (.goto (-18), 3) := by decide +kernel
theorem dX5_weigh_86 : decode cX5_weigh 86 = .ok (.return_, 1) := by decide +kernel
def L_X5_weigh_65 (N : Nat) (a_people : Int32) (y2 : Nat → Nat → Int32) : Nat → Int32 → (Nat → Int32) → Option (Int32 × (Nat → Int32) × (Nat → Nat → Int32))
  | 0, _, _ => none
  | n65 + 1, x4, y5 => if x4 < 0 then some (a_people, y5, y2) else ob (f_X5_mostBehind N a_people y5 y2 x4) (fun r7 => gd (ix x4 1024) (nm (upd y5 x4.toNatClampNeg r7) (fun f10 => L_X5_weigh_65 N a_people y2 n65 (x4 + (-1 : Int32)) f10)))
def L_X5_weigh_20 (a_height : Nat → Int32) (a_kind : Nat → Int32) (a_figure : Nat → Int32) (x1 : Int32) (k_20 : Int32 → (Nat → Nat → Int32) → Option (Int32 × (Nat → Int32) × (Nat → Nat → Int32))) : Nat → Int32 → (Nat → Nat → Int32) → Option (Int32 × (Nat → Int32) × (Nat → Nat → Int32))
  | 0, _, _ => none
  | n20 + 1, x11, y12 => if (10 : Int32) ≤ x11 then k_20 x11 y12 else gd (ix x1 7) (gd (ix x11 10) (ob (f_X8_weightAt a_kind a_figure x1 (a_height x11.toNatClampNeg)) (fun r16 => gd (ix x11 10) (nm (va_up y12 x1.toNatClampNeg (upd (y12 x1.toNatClampNeg) x11.toNatClampNeg r16)) (fun m19 => L_X5_weigh_20 a_height a_kind a_figure x1 k_20 n20 (x11 + (1 : Int32)) m19)))))
def L_X5_weigh_10 (N : Nat) (v_rest : Nat → Int32) (a_height : Nat → Int32) (a_kind : Nat → Int32) (a_figure : Nat → Int32) (a_people : Int32) : Nat → Int32 → (Nat → Nat → Int32) → Option (Int32 × (Nat → Int32) × (Nat → Nat → Int32))
  | 0, _, _ => none
  | n10 + 1, x1, y2 => if a_people ≤ x1 then L_X5_weigh_65 N a_people y2 N ((1024 : Int32) - (1 : Int32)) v_rest else L_X5_weigh_20 a_height a_kind a_figure x1 (fun x20 y21 => L_X5_weigh_10 N v_rest a_height a_kind a_figure a_people n10 (x1 + (1 : Int32)) y21) N (0 : Int32) y2
def f_X5_weigh (N : Nat) (v_rest : Nat → Int32) (v_M : Nat → Nat → Int32) (a_height : Nat → Int32) (a_kind : Nat → Int32) (a_figure : Nat → Int32) (a_people : Int32) : Option (Int32 × (Nat → Int32) × (Nat → Nat → Int32)) := L_X5_weigh_10 N v_rest a_height a_kind a_figure a_people N (0 : Int32) v_M
set_option maxHeartbeats 4000000 in
set_option maxRecDepth 100000 in
theorem c_X5_weigh (l : Launch) (E : EE) (v_h : Nat) (v_a0 : Nat) (v_a1 : Nat) (v_rw : Nat → Nat) (a_h : Nat) (a_a0 : Nat) (a_a1 : Nat) (a_a2 : Nat) (a_a3 : Nat) (a_a4 : Nat) (a_a5 : Nat) (v_people : Int32) (v_rest : Nat → Int32) (v_g : Nat → Option Nat) (v_M : Nat → Nat → Int32) (a_height : Nat → Int32) (a_kind : Nat → Int32) (a_figure : Nat → Int32) (a_rail : Nat → Int32) (a_mood : Nat → Int32) (a_sight : Nat → Int32) (a_moving : Int32) (a_shut : Int32) (a_people : Int32) (a_needed : Int32) (a_day : Int32) (N : Nat) (w_v_people : Int32) (w_v_rest : Nat → Int32) (w_v_M : Nat → Nat → Int32) (hrw_v : ∀ i : Nat, i < 7 → v_g i = some (v_rw i)) (hv : f_X5_weigh N v_rest v_M a_height a_kind a_figure a_people = some (w_v_people, w_v_rest, w_v_M)) : Wr l E yX5_weigh cX5_weigh 4 none ({ frames := 2, cells := 0, slots := 0, locals := 45 }) [.ref v_h, .ref a_h] [oRa v_h v_a0 v_a1 v_people, ai E v_a0 1024 v_rest, aG E v_a1 v_g, ai E (v_rw 0) 10 (v_M 0), ai E (v_rw 1) 10 (v_M 1), ai E (v_rw 2) 10 (v_M 2), ai E (v_rw 3) 10 (v_M 3), ai E (v_rw 4) 10 (v_M 4), ai E (v_rw 5) 10 (v_M 5), ai E (v_rw 6) 10 (v_M 6), oSt a_h a_a0 a_a1 a_a2 a_a3 a_a4 a_a5 a_moving a_shut a_people a_needed a_day, ai E a_a0 10 a_height, ai E a_a1 7 a_kind, ai E a_a2 7 a_figure, ai E a_a3 7 a_rail, ai E a_a4 7 a_mood, ai E a_a5 7 a_sight] [oRa v_h v_a0 v_a1 w_v_people, ai E v_a0 1024 w_v_rest, aG E v_a1 v_g, ai E (v_rw 0) 10 (w_v_M 0), ai E (v_rw 1) 10 (w_v_M 1), ai E (v_rw 2) 10 (w_v_M 2), ai E (v_rw 3) 10 (w_v_M 3), ai E (v_rw 4) 10 (w_v_M 4), ai E (v_rw 5) 10 (w_v_M 5), ai E (v_rw 6) 10 (w_v_M 6), oSt a_h a_a0 a_a1 a_a2 a_a3 a_a4 a_a5 a_moving a_shut a_people a_needed a_day, ai E a_a0 10 a_height, ai E a_a1 7 a_kind, ai E a_a2 7 a_figure, ai E a_a3 7 a_rail, ai E a_a4 7 a_mood, ai E a_a5 7 a_sight] none := by
  refine Wr.intro RX5 (by decide) rfl (Nat.le_of_ble_eq_true rfl) ?_
  intro p e s m below meth c ls A hC hr hlk hmn hP hD hS hA hG hl
  obtain ⟨hx, hb, hml, hown, ht⟩ := id hC
  have hK := hG.1
  have hl : lv_has ls 4 [(0, .ref v_h), (1, .ref a_h)] := hl
  rw [f_X5_weigh] at hv
  refine lv_aload_n hx hb dX5_weigh_0 rfl (lv_at hl 0 rfl) ?_
  refine lv_aload_n hx hb dX5_weigh_1 rfl (lv_at hl 1 rfl) ?_
  refine va_get (D := E.1) (ci := 2) (v := .int a_people) (C := RX8) (T := TX8) (N := 11) hx hb ht i_X8 hown hK hP 10 rfl rfl 8 (by decide) (ht _ kw_1_52) (fun _ h9 => h9) rfl dX5_weigh_2 ?_
  refine va_put (D := E.1) (ci := 0) (v := .int a_people) (ty := .int) (C := RX5) (T := TX5) (N := 3) hx hb ht i_X5 tyX5 tyX5_ok nmX5 hown hK hP hD hS 0 rfl rfl 2 (by decide) (ht _ kw_1_96) (fun _ h9 => h9) rfl (by decide +kernel) rfl rfl (Nat.le_of_ble_eq_true rfl) dX5_weigh_5 (fun H locs hP hD hS => ?_)
  have hP : va_P E.1 vwCl [oRa v_h v_a0 v_a1 a_people, ai E v_a0 1024 v_rest, aG E v_a1 v_g, ai E (v_rw 0) 10 (v_M 0), ai E (v_rw 1) 10 (v_M 1), ai E (v_rw 2) 10 (v_M 2), ai E (v_rw 3) 10 (v_M 3), ai E (v_rw 4) 10 (v_M 4), ai E (v_rw 5) 10 (v_M 5), ai E (v_rw 6) 10 (v_M 6), oSt a_h a_a0 a_a1 a_a2 a_a3 a_a4 a_a5 a_moving a_shut a_people a_needed a_day, ai E a_a0 10 a_height, ai E a_a1 7 a_kind, ai E a_a2 7 a_figure, ai E a_a3 7 a_rail, ai E a_a4 7 a_mood, ai E a_a5 7 a_sight] H := hP
  have hD : va_D A [oRa v_h v_a0 v_a1 a_people, ai E v_a0 1024 v_rest, aG E v_a1 v_g, ai E (v_rw 0) 10 (v_M 0), ai E (v_rw 1) 10 (v_M 1), ai E (v_rw 2) 10 (v_M 2), ai E (v_rw 3) 10 (v_M 3), ai E (v_rw 4) 10 (v_M 4), ai E (v_rw 5) 10 (v_M 5), ai E (v_rw 6) 10 (v_M 6), oSt a_h a_a0 a_a1 a_a2 a_a3 a_a4 a_a5 a_moving a_shut a_people a_needed a_day, ai E a_a0 10 a_height, ai E a_a1 7 a_kind, ai E a_a2 7 a_figure, ai E a_a3 7 a_rail, ai E a_a4 7 a_mood, ai E a_a5 7 a_sight] := hD
  refine lv_iconst (v := (0 : Int32)) hx hb dX5_weigh_8 (by decide) ?_
  refine lv_istore_n (lv' := [(2, .int (0 : Int32)), (0, .ref v_h), (1, .ref a_h)]) hx hb dX5_weigh_9 rfl hl (by decide) rfl (fun ls hl => ?_)
  have hL10 : ∀ (n : Nat) (x1 : Int32) (y2 : Nat → Nat → Int32) (H : Heap) (locs : List Loc) (ls : Array Slot), va_P E.1 vwCl [oRa v_h v_a0 v_a1 a_people, ai E v_a0 1024 v_rest, aG E v_a1 v_g, ai E (v_rw 0) 10 (y2 0), ai E (v_rw 1) 10 (y2 1), ai E (v_rw 2) 10 (y2 2), ai E (v_rw 3) 10 (y2 3), ai E (v_rw 4) 10 (y2 4), ai E (v_rw 5) 10 (y2 5), ai E (v_rw 6) 10 (y2 6), oSt a_h a_a0 a_a1 a_a2 a_a3 a_a4 a_a5 a_moving a_shut a_people a_needed a_day, ai E a_a0 10 a_height, ai E a_a1 7 a_kind, ai E a_a2 7 a_figure, ai E a_a3 7 a_rail, ai E a_a4 7 a_mood, ai E a_a5 7 a_sight] H → va_D A [oRa v_h v_a0 v_a1 a_people, ai E v_a0 1024 v_rest, aG E v_a1 v_g, ai E (v_rw 0) 10 (y2 0), ai E (v_rw 1) 10 (y2 1), ai E (v_rw 2) 10 (y2 2), ai E (v_rw 3) 10 (y2 3), ai E (v_rw 4) 10 (y2 4), ai E (v_rw 5) 10 (y2 5), ai E (v_rw 6) 10 (y2 6), oSt a_h a_a0 a_a1 a_a2 a_a3 a_a4 a_a5 a_moving a_shut a_people a_needed a_day, ai E a_a0 10 a_height, ai E a_a1 7 a_kind, ai E a_a2 7 a_figure, ai E a_a3 7 a_rail, ai E a_a4 7 a_mood, ai E a_a5 7 a_sight] → va_S A s.heap H locs → lv_has ls 4 [(2, .int x1), (0, .ref v_h), (1, .ref a_h)] → L_X5_weigh_10 N v_rest a_height a_kind a_figure a_people n x1 y2 = some (w_v_people, w_v_rest, w_v_M) → W p l e ({ frames := 2, cells := 0, slots := 0, locals := 45 }) s m [.ref v_h, .ref a_h].toArray below meth c H locs 0 0 (MQ below (fun _ st oc t => oc = .returned none ∧ va_P E.1 vwCl [oRa v_h v_a0 v_a1 w_v_people, ai E v_a0 1024 w_v_rest, aG E v_a1 v_g, ai E (v_rw 0) 10 (w_v_M 0), ai E (v_rw 1) 10 (w_v_M 1), ai E (v_rw 2) 10 (w_v_M 2), ai E (v_rw 3) 10 (w_v_M 3), ai E (v_rw 4) 10 (w_v_M 4), ai E (v_rw 5) 10 (w_v_M 5), ai E (v_rw 6) 10 (w_v_M 6), oSt a_h a_a0 a_a1 a_a2 a_a3 a_a4 a_a5 a_moving a_shut a_people a_needed a_day, ai E a_a0 10 a_height, ai E a_a1 7 a_kind, ai E a_a2 7 a_figure, ai E a_a3 7 a_rail, ai E a_a4 7 a_mood, ai E a_a5 7 a_sight] t.heap ∧ va_F A st t) [.ref v_h, .ref a_h].toArray s 0 0 A) (F0 m 10 ls []) := by
    intro n
    induction n with
    | zero => intro x1 y2 H locs ls hP hD hS hl hv; cases hv
    | succ n10 ih10 =>
      intro x1 y2 H locs ls hP hD hS hl hv
      rw [L_X5_weigh_10] at hv
      refine lv_iload_n hx hb dX5_weigh_10 rfl (lv_at hl 0 rfl) ?_
      refine lv_aload_n hx hb dX5_weigh_11 rfl (lv_at hl 1 rfl) ?_
      refine va_get (D := E.1) (ci := 0) (v := .int a_people) (C := RX5) (T := TX5) (N := 3) hx hb ht i_X5 hown hK hP 0 rfl rfl 2 (by decide) (ht _ kw_1_96) (fun _ h9 => h9) rfl dX5_weigh_12 ?_
      refine lv_icmp_ge (tgt := 57) hx hb dX5_weigh_15 (by decide) (fun c3 => ?_) (fun c3 => ?_)
      · have hv := if_y c3 hv
        refine lv_aload_n hx hb dX5_weigh_57 rfl (lv_at hl 1 rfl) ?_
        refine va_get (D := E.1) (ci := 0) (v := .ref v_a0) (C := RX5) (T := TX5) (N := 3) hx hb ht i_X5 hown hK hP 0 rfl rfl 0 (by decide) (ht _ kw_1_94) (fun _ h9 => h9) rfl dX5_weigh_58 ?_
        refine va_alen (v := (1024 : Int32)) hx hb hK hP 1 0 rfl rfl (show Int32.ofNat 1024 = (1024 : Int32) by decide) dX5_weigh_61 ?_
        refine lv_iconst (v := (1 : Int32)) hx hb dX5_weigh_62 (by decide) ?_
        refine lv_isub hx hb dX5_weigh_63 ?_
        refine lv_istore_n (lv' := [(2, .int ((1024 : Int32) - (1 : Int32))), (0, .ref v_h), (1, .ref a_h)]) hx hb dX5_weigh_64 rfl hl (by decide) rfl (fun ls hl => ?_)
        have hL65 : ∀ (n : Nat) (x4 : Int32) (y5 : Nat → Int32) (H : Heap) (locs : List Loc) (ls : Array Slot), va_P E.1 vwCl [oRa v_h v_a0 v_a1 a_people, ai E v_a0 1024 y5, aG E v_a1 v_g, ai E (v_rw 0) 10 (y2 0), ai E (v_rw 1) 10 (y2 1), ai E (v_rw 2) 10 (y2 2), ai E (v_rw 3) 10 (y2 3), ai E (v_rw 4) 10 (y2 4), ai E (v_rw 5) 10 (y2 5), ai E (v_rw 6) 10 (y2 6), oSt a_h a_a0 a_a1 a_a2 a_a3 a_a4 a_a5 a_moving a_shut a_people a_needed a_day, ai E a_a0 10 a_height, ai E a_a1 7 a_kind, ai E a_a2 7 a_figure, ai E a_a3 7 a_rail, ai E a_a4 7 a_mood, ai E a_a5 7 a_sight] H → va_D A [oRa v_h v_a0 v_a1 a_people, ai E v_a0 1024 y5, aG E v_a1 v_g, ai E (v_rw 0) 10 (y2 0), ai E (v_rw 1) 10 (y2 1), ai E (v_rw 2) 10 (y2 2), ai E (v_rw 3) 10 (y2 3), ai E (v_rw 4) 10 (y2 4), ai E (v_rw 5) 10 (y2 5), ai E (v_rw 6) 10 (y2 6), oSt a_h a_a0 a_a1 a_a2 a_a3 a_a4 a_a5 a_moving a_shut a_people a_needed a_day, ai E a_a0 10 a_height, ai E a_a1 7 a_kind, ai E a_a2 7 a_figure, ai E a_a3 7 a_rail, ai E a_a4 7 a_mood, ai E a_a5 7 a_sight] → va_S A s.heap H locs → lv_has ls 4 [(2, .int x4), (0, .ref v_h)] → L_X5_weigh_65 N a_people y2 n x4 y5 = some (w_v_people, w_v_rest, w_v_M) → W p l e ({ frames := 2, cells := 0, slots := 0, locals := 45 }) s m [.ref v_h, .ref a_h].toArray below meth c H locs 0 0 (MQ below (fun _ st oc t => oc = .returned none ∧ va_P E.1 vwCl [oRa v_h v_a0 v_a1 w_v_people, ai E v_a0 1024 w_v_rest, aG E v_a1 v_g, ai E (v_rw 0) 10 (w_v_M 0), ai E (v_rw 1) 10 (w_v_M 1), ai E (v_rw 2) 10 (w_v_M 2), ai E (v_rw 3) 10 (w_v_M 3), ai E (v_rw 4) 10 (w_v_M 4), ai E (v_rw 5) 10 (w_v_M 5), ai E (v_rw 6) 10 (w_v_M 6), oSt a_h a_a0 a_a1 a_a2 a_a3 a_a4 a_a5 a_moving a_shut a_people a_needed a_day, ai E a_a0 10 a_height, ai E a_a1 7 a_kind, ai E a_a2 7 a_figure, ai E a_a3 7 a_rail, ai E a_a4 7 a_mood, ai E a_a5 7 a_sight] t.heap ∧ va_F A st t) [.ref v_h, .ref a_h].toArray s 0 0 A) (F0 m 65 ls []) := by
          intro n
          induction n with
          | zero => intro x4 y5 H locs ls hP hD hS hl hv; cases hv
          | succ n65 ih65 =>
            intro x4 y5 H locs ls hP hD hS hl hv
            rw [L_X5_weigh_65] at hv
            refine lv_iload_n hx hb dX5_weigh_65 rfl (lv_at hl 0 rfl) ?_
            refine lv_if_lt (tgt := 86) hx hb dX5_weigh_66 (by decide) (fun c6 => ?_) (fun c6 => ?_)
            · have hv := if_y c6 hv
              cases hv
              exact W.vret hx hb hr (fun t h9 _ => ⟨rfl, by rw [h9]; exact hP, hS.F h9⟩) hS.2.2 dX5_weigh_86 hlk
            · have hv := if_n c6 hv
              refine lv_aload_n hx hb dX5_weigh_69 rfl (lv_at hl 1 rfl) ?_
              refine va_get (D := E.1) (ci := 0) (v := .ref v_a0) (C := RX5) (T := TX5) (N := 3) hx hb ht i_X5 hown hK hP 0 rfl rfl 0 (by decide) (ht _ kw_1_94) (fun _ h9 => h9) rfl dX5_weigh_70 ?_
              refine lv_iload_n hx hb dX5_weigh_73 rfl (lv_at hl 0 rfl) ?_
              refine lv_aload_n hx hb dX5_weigh_74 rfl (lv_at hl 1 rfl) ?_
              refine lv_iload_n hx hb dX5_weigh_75 rfl (lv_at hl 0 rfl) ?_
              obtain ⟨r7, h8, hv⟩ := ob_s hv
              refine rdV 0 0 (As := [.int x4]) (rest := [.int x4, .ref v_a0]) (st1 := [.int r7, .int x4, .ref v_a0]) (w := [oRa v_h v_a0 v_a1 a_people, ai E v_a0 1024 y5, aG E v_a1 v_g, ai E (v_rw 0) 10 (y2 0), ai E (v_rw 1) 10 (y2 1), ai E (v_rw 2) 10 (y2 2), ai E (v_rw 3) 10 (y2 3), ai E (v_rw 4) 10 (y2 4), ai E (v_rw 5) 10 (y2 5), ai E (v_rw 6) 10 (y2 6)]) hC q_X5_mostBehind kw_3_59 (c_X5_mostBehind l E v_h v_a0 v_a1 v_rw a_people y5 v_g y2 x4 N r7 hrw_v h8) ⟨rfl, rfl⟩ ⟨Nat.le_of_ble_eq_true rfl, Nat.le_of_ble_eq_true rfl⟩ ⟨Nat.zero_le _, Nat.zero_le _⟩ (hP.sub (ws' := [oRa v_h v_a0 v_a1 a_people, ai E v_a0 1024 y5, aG E v_a1 v_g, ai E (v_rw 0) 10 (y2 0), ai E (v_rw 1) 10 (y2 1), ai E (v_rw 2) 10 (y2 2), ai E (v_rw 3) 10 (y2 3), ai E (v_rw 4) 10 (y2 4), ai E (v_rw 5) 10 (y2 5), ai E (v_rw 6) 10 (y2 6)]) [0, 1, 2, 3, 4, 5, 6, 7, 8, 9] rfl) rfl rfl rfl hG rfl hl.1 rfl (Nat.le_of_ble_eq_true rfl) dX5_weigh_76 rfl ?_
              obtain ⟨g9, hv⟩ := gd_s hv
              refine va_iast hx hb hK hP hD hS 1 0 rfl rfl (ix_s g9) dX5_weigh_79 (fun H locs hP hD hS => ?_)
              have hP : va_P E.1 vwCl [oRa v_h v_a0 v_a1 a_people, ai E v_a0 1024 (upd y5 x4.toNatClampNeg r7), aG E v_a1 v_g, ai E (v_rw 0) 10 (y2 0), ai E (v_rw 1) 10 (y2 1), ai E (v_rw 2) 10 (y2 2), ai E (v_rw 3) 10 (y2 3), ai E (v_rw 4) 10 (y2 4), ai E (v_rw 5) 10 (y2 5), ai E (v_rw 6) 10 (y2 6), oSt a_h a_a0 a_a1 a_a2 a_a3 a_a4 a_a5 a_moving a_shut a_people a_needed a_day, ai E a_a0 10 a_height, ai E a_a1 7 a_kind, ai E a_a2 7 a_figure, ai E a_a3 7 a_rail, ai E a_a4 7 a_mood, ai E a_a5 7 a_sight] H := hP
              have hD : va_D A [oRa v_h v_a0 v_a1 a_people, ai E v_a0 1024 (upd y5 x4.toNatClampNeg r7), aG E v_a1 v_g, ai E (v_rw 0) 10 (y2 0), ai E (v_rw 1) 10 (y2 1), ai E (v_rw 2) 10 (y2 2), ai E (v_rw 3) 10 (y2 3), ai E (v_rw 4) 10 (y2 4), ai E (v_rw 5) 10 (y2 5), ai E (v_rw 6) 10 (y2 6), oSt a_h a_a0 a_a1 a_a2 a_a3 a_a4 a_a5 a_moving a_shut a_people a_needed a_day, ai E a_a0 10 a_height, ai E a_a1 7 a_kind, ai E a_a2 7 a_figure, ai E a_a3 7 a_rail, ai E a_a4 7 a_mood, ai E a_a5 7 a_sight] := hD
              obtain ⟨f10, ef10⟩ : ∃ z, z = (upd y5 x4.toNatClampNeg r7) := ⟨_, rfl⟩
              rw [← ef10] at hP hD
              have hv := nm_s ef10 hv
              refine lv_iinc (v := (x4 + (-1 : Int32))) (lv' := [(2, .int (x4 + (-1 : Int32))), (0, .ref v_h)]) hx hb dX5_weigh_80 hl (k := 0) rfl rfl (by decide) rfl (fun ls hl => ?_)
              refine lv_goto (tgt := 65) hx hb dX5_weigh_83 (by decide) ?_
              exact ih65 (x4 + (-1 : Int32)) f10 _ _ _ hP hD hS (lv_sub hl [0, 1] rfl) hv
        exact hL65 N ((1024 : Int32) - (1 : Int32)) v_rest _ _ _ hP hD hS (lv_sub hl [0, 1] rfl) hv
      · have hv := if_n c3 hv
        refine lv_iconst (v := (0 : Int32)) hx hb dX5_weigh_18 (by decide) ?_
        refine lv_istore_n (lv' := [(3, .int (0 : Int32)), (2, .int x1), (0, .ref v_h), (1, .ref a_h)]) hx hb dX5_weigh_19 rfl hl (by decide) rfl (fun ls hl => ?_)
        have hL20 : ∀ (k_20 : Int32 → (Nat → Nat → Int32) → Option (Int32 × (Nat → Int32) × (Nat → Nat → Int32))), (∀ (x11 : Int32) (y12 : Nat → Nat → Int32) (H : Heap) (locs : List Loc) (ls : Array Slot), va_P E.1 vwCl [oRa v_h v_a0 v_a1 a_people, ai E v_a0 1024 v_rest, aG E v_a1 v_g, ai E (v_rw 0) 10 (y12 0), ai E (v_rw 1) 10 (y12 1), ai E (v_rw 2) 10 (y12 2), ai E (v_rw 3) 10 (y12 3), ai E (v_rw 4) 10 (y12 4), ai E (v_rw 5) 10 (y12 5), ai E (v_rw 6) 10 (y12 6), oSt a_h a_a0 a_a1 a_a2 a_a3 a_a4 a_a5 a_moving a_shut a_people a_needed a_day, ai E a_a0 10 a_height, ai E a_a1 7 a_kind, ai E a_a2 7 a_figure, ai E a_a3 7 a_rail, ai E a_a4 7 a_mood, ai E a_a5 7 a_sight] H → va_D A [oRa v_h v_a0 v_a1 a_people, ai E v_a0 1024 v_rest, aG E v_a1 v_g, ai E (v_rw 0) 10 (y12 0), ai E (v_rw 1) 10 (y12 1), ai E (v_rw 2) 10 (y12 2), ai E (v_rw 3) 10 (y12 3), ai E (v_rw 4) 10 (y12 4), ai E (v_rw 5) 10 (y12 5), ai E (v_rw 6) 10 (y12 6), oSt a_h a_a0 a_a1 a_a2 a_a3 a_a4 a_a5 a_moving a_shut a_people a_needed a_day, ai E a_a0 10 a_height, ai E a_a1 7 a_kind, ai E a_a2 7 a_figure, ai E a_a3 7 a_rail, ai E a_a4 7 a_mood, ai E a_a5 7 a_sight] → va_S A s.heap H locs → lv_has ls 4 [(3, .int x11), (2, .int x1), (0, .ref v_h), (1, .ref a_h)] → k_20 x11 y12 = some (w_v_people, w_v_rest, w_v_M) → W p l e ({ frames := 2, cells := 0, slots := 0, locals := 45 }) s m [.ref v_h, .ref a_h].toArray below meth c H locs 0 0 (MQ below (fun _ st oc t => oc = .returned none ∧ va_P E.1 vwCl [oRa v_h v_a0 v_a1 w_v_people, ai E v_a0 1024 w_v_rest, aG E v_a1 v_g, ai E (v_rw 0) 10 (w_v_M 0), ai E (v_rw 1) 10 (w_v_M 1), ai E (v_rw 2) 10 (w_v_M 2), ai E (v_rw 3) 10 (w_v_M 3), ai E (v_rw 4) 10 (w_v_M 4), ai E (v_rw 5) 10 (w_v_M 5), ai E (v_rw 6) 10 (w_v_M 6), oSt a_h a_a0 a_a1 a_a2 a_a3 a_a4 a_a5 a_moving a_shut a_people a_needed a_day, ai E a_a0 10 a_height, ai E a_a1 7 a_kind, ai E a_a2 7 a_figure, ai E a_a3 7 a_rail, ai E a_a4 7 a_mood, ai E a_a5 7 a_sight] t.heap ∧ va_F A st t) [.ref v_h, .ref a_h].toArray s 0 0 A) (F0 m 51 ls [])) → ∀ (n : Nat) (x11 : Int32) (y12 : Nat → Nat → Int32) (H : Heap) (locs : List Loc) (ls : Array Slot), va_P E.1 vwCl [oRa v_h v_a0 v_a1 a_people, ai E v_a0 1024 v_rest, aG E v_a1 v_g, ai E (v_rw 0) 10 (y12 0), ai E (v_rw 1) 10 (y12 1), ai E (v_rw 2) 10 (y12 2), ai E (v_rw 3) 10 (y12 3), ai E (v_rw 4) 10 (y12 4), ai E (v_rw 5) 10 (y12 5), ai E (v_rw 6) 10 (y12 6), oSt a_h a_a0 a_a1 a_a2 a_a3 a_a4 a_a5 a_moving a_shut a_people a_needed a_day, ai E a_a0 10 a_height, ai E a_a1 7 a_kind, ai E a_a2 7 a_figure, ai E a_a3 7 a_rail, ai E a_a4 7 a_mood, ai E a_a5 7 a_sight] H → va_D A [oRa v_h v_a0 v_a1 a_people, ai E v_a0 1024 v_rest, aG E v_a1 v_g, ai E (v_rw 0) 10 (y12 0), ai E (v_rw 1) 10 (y12 1), ai E (v_rw 2) 10 (y12 2), ai E (v_rw 3) 10 (y12 3), ai E (v_rw 4) 10 (y12 4), ai E (v_rw 5) 10 (y12 5), ai E (v_rw 6) 10 (y12 6), oSt a_h a_a0 a_a1 a_a2 a_a3 a_a4 a_a5 a_moving a_shut a_people a_needed a_day, ai E a_a0 10 a_height, ai E a_a1 7 a_kind, ai E a_a2 7 a_figure, ai E a_a3 7 a_rail, ai E a_a4 7 a_mood, ai E a_a5 7 a_sight] → va_S A s.heap H locs → lv_has ls 4 [(3, .int x11), (2, .int x1), (0, .ref v_h), (1, .ref a_h)] → L_X5_weigh_20 a_height a_kind a_figure x1 k_20 n x11 y12 = some (w_v_people, w_v_rest, w_v_M) → W p l e ({ frames := 2, cells := 0, slots := 0, locals := 45 }) s m [.ref v_h, .ref a_h].toArray below meth c H locs 0 0 (MQ below (fun _ st oc t => oc = .returned none ∧ va_P E.1 vwCl [oRa v_h v_a0 v_a1 w_v_people, ai E v_a0 1024 w_v_rest, aG E v_a1 v_g, ai E (v_rw 0) 10 (w_v_M 0), ai E (v_rw 1) 10 (w_v_M 1), ai E (v_rw 2) 10 (w_v_M 2), ai E (v_rw 3) 10 (w_v_M 3), ai E (v_rw 4) 10 (w_v_M 4), ai E (v_rw 5) 10 (w_v_M 5), ai E (v_rw 6) 10 (w_v_M 6), oSt a_h a_a0 a_a1 a_a2 a_a3 a_a4 a_a5 a_moving a_shut a_people a_needed a_day, ai E a_a0 10 a_height, ai E a_a1 7 a_kind, ai E a_a2 7 a_figure, ai E a_a3 7 a_rail, ai E a_a4 7 a_mood, ai E a_a5 7 a_sight] t.heap ∧ va_F A st t) [.ref v_h, .ref a_h].toArray s 0 0 A) (F0 m 20 ls []) := by
          intro k_20 hk_20 n
          induction n with
          | zero => intro x11 y12 H locs ls hP hD hS hl hv; cases hv
          | succ n20 ih20 =>
            intro x11 y12 H locs ls hP hD hS hl hv
            rw [L_X5_weigh_20] at hv
            refine lv_iload_n hx hb dX5_weigh_20 rfl (lv_at hl 0 rfl) ?_
            refine lv_bipush (v := (10 : Int32)) hx hb dX5_weigh_21 (by decide) ?_
            refine lv_icmp_ge (tgt := 51) hx hb dX5_weigh_23 (by decide) (fun c13 => ?_) (fun c13 => ?_)
            · have hv := if_y c13 hv
              exact hk_20 x11 y12 _ _ _ hP hD hS (lv_sub hl [0, 1, 2, 3] rfl) hv
            · have hv := if_n c13 hv
              refine lv_aload_n hx hb dX5_weigh_26 rfl (lv_at hl 2 rfl) ?_
              refine va_get (D := E.1) (ci := 0) (v := .ref v_a1) (C := RX5) (T := TX5) (N := 3) hx hb ht i_X5 hown hK hP 0 rfl rfl 1 (by decide) (ht _ kw_1_95) (fun _ h9 => h9) rfl dX5_weigh_27 ?_
              refine lv_iload_n hx hb dX5_weigh_30 rfl (lv_at hl 1 rfl) ?_
              obtain ⟨g14, hv⟩ := gd_s hv
              have lg14 := ix_lt g14
              refine va_aldT (ty := .array .int) rfl hx hb hK hP 2 2 rfl rfl (ix_s g14) dX5_weigh_31 ?_
              refine W.eq (g2 := F0 m 32 ls [.ref (v_rw x1.toNatClampNeg)]) (by rw [hrw_v _ lg14]; rfl) ?_
              refine lv_iload_n hx hb dX5_weigh_32 rfl (lv_at hl 0 rfl) ?_
              refine lv_aload_n hx hb dX5_weigh_33 rfl (lv_at hl 3 rfl) ?_
              refine lv_iload_n hx hb dX5_weigh_34 rfl (lv_at hl 1 rfl) ?_
              refine lv_aload_n hx hb dX5_weigh_35 rfl (lv_at hl 3 rfl) ?_
              refine va_get (D := E.1) (ci := 2) (v := .ref a_a0) (C := RX8) (T := TX8) (N := 11) hx hb ht i_X8 hown hK hP 10 rfl rfl 0 (by decide) (ht _ kw_1_36) (fun _ h9 => h9) rfl dX5_weigh_36 ?_
              refine lv_iload_n hx hb dX5_weigh_39 rfl (lv_at hl 0 rfl) ?_
              obtain ⟨g15, hv⟩ := gd_s hv
              refine va_iald hx hb hK hP 11 0 rfl rfl (ix_s g15) dX5_weigh_40 ?_
              obtain ⟨r16, h17, hv⟩ := ob_s hv
              refine rdV 2 0 (As := [.int x1, .int (a_height x11.toNatClampNeg)]) (rest := [.int x11, .ref (v_rw x1.toNatClampNeg)]) (st1 := [.int r16, .int x11, .ref (v_rw x1.toNatClampNeg)]) (w := [oSt a_h a_a0 a_a1 a_a2 a_a3 a_a4 a_a5 a_moving a_shut a_people a_needed a_day, ai E a_a0 10 a_height, ai E a_a1 7 a_kind, ai E a_a2 7 a_figure, ai E a_a3 7 a_rail, ai E a_a4 7 a_mood, ai E a_a5 7 a_sight]) hC q_X8_weightAt kw_3_58 (c_X8_weightAt l E a_h a_a0 a_a1 a_a2 a_a3 a_a4 a_a5 a_height a_kind a_figure a_rail a_mood a_sight a_moving a_shut a_people a_needed a_day x1 (a_height x11.toNatClampNeg) r16 h17) ⟨rfl, rfl⟩ ⟨Nat.le_of_ble_eq_true rfl, Nat.le_of_ble_eq_true rfl⟩ ⟨Nat.zero_le _, Nat.zero_le _⟩ (hP.sub (ws' := [oSt a_h a_a0 a_a1 a_a2 a_a3 a_a4 a_a5 a_moving a_shut a_people a_needed a_day, ai E a_a0 10 a_height, ai E a_a1 7 a_kind, ai E a_a2 7 a_figure, ai E a_a3 7 a_rail, ai E a_a4 7 a_mood, ai E a_a5 7 a_sight]) [10, 11, 12, 13, 14, 15, 16] rfl) rfl rfl rfl hG rfl hl.1 rfl (Nat.le_of_ble_eq_true rfl) dX5_weigh_41 rfl ?_
              obtain ⟨g18, hv⟩ := gd_s hv
              have rw_g18 : ∀ i : Nat, i < 7 → ([oRa v_h v_a0 v_a1 a_people, ai E v_a0 1024 v_rest, aG E v_a1 v_g, ai E (v_rw 0) 10 (y12 0), ai E (v_rw 1) 10 (y12 1), ai E (v_rw 2) 10 (y12 2), ai E (v_rw 3) 10 (y12 3), ai E (v_rw 4) 10 (y12 4), ai E (v_rw 5) 10 (y12 5), ai E (v_rw 6) 10 (y12 6), oSt a_h a_a0 a_a1 a_a2 a_a3 a_a4 a_a5 a_moving a_shut a_people a_needed a_day, ai E a_a0 10 a_height, ai E a_a1 7 a_kind, ai E a_a2 7 a_figure, ai E a_a3 7 a_rail, ai E a_a4 7 a_mood, ai E a_a5 7 a_sight] : va_W)[3 + i]? = some (v_rw i, .inl (E.2.1, 10, .inl (y12 i))) := fun i h => match i, h with | 0, _ => rfl | 1, _ => rfl | 2, _ => rfl | 3, _ => rfl | 4, _ => rfl | 5, _ => rfl | 6, _ => rfl | i + 7, h => absurd h (by omega)
              have rs_g18 : ∀ i : Nat, i < 7 → ∀ z : Nat → Int32, ([oRa v_h v_a0 v_a1 a_people, ai E v_a0 1024 v_rest, aG E v_a1 v_g, ai E (v_rw 0) 10 (y12 0), ai E (v_rw 1) 10 (y12 1), ai E (v_rw 2) 10 (y12 2), ai E (v_rw 3) 10 (y12 3), ai E (v_rw 4) 10 (y12 4), ai E (v_rw 5) 10 (y12 5), ai E (v_rw 6) 10 (y12 6), oSt a_h a_a0 a_a1 a_a2 a_a3 a_a4 a_a5 a_moving a_shut a_people a_needed a_day, ai E a_a0 10 a_height, ai E a_a1 7 a_kind, ai E a_a2 7 a_figure, ai E a_a3 7 a_rail, ai E a_a4 7 a_mood, ai E a_a5 7 a_sight] : va_W).set (3 + i) (v_rw i, .inl (E.2.1, 10, .inl z)) = [oRa v_h v_a0 v_a1 a_people, ai E v_a0 1024 v_rest, aG E v_a1 v_g, ai E (v_rw 0) 10 ((va_up y12 i z) 0), ai E (v_rw 1) 10 ((va_up y12 i z) 1), ai E (v_rw 2) 10 ((va_up y12 i z) 2), ai E (v_rw 3) 10 ((va_up y12 i z) 3), ai E (v_rw 4) 10 ((va_up y12 i z) 4), ai E (v_rw 5) 10 ((va_up y12 i z) 5), ai E (v_rw 6) 10 ((va_up y12 i z) 6), oSt a_h a_a0 a_a1 a_a2 a_a3 a_a4 a_a5 a_moving a_shut a_people a_needed a_day, ai E a_a0 10 a_height, ai E a_a1 7 a_kind, ai E a_a2 7 a_figure, ai E a_a3 7 a_rail, ai E a_a4 7 a_mood, ai E a_a5 7 a_sight] := fun i h z => match i, h, z with | 0, _, _ => rfl | 1, _, _ => rfl | 2, _, _ => rfl | 3, _, _ => rfl | 4, _, _ => rfl | 5, _, _ => rfl | 6, _, _ => rfl | i + 7, h, _ => absurd h (by omega)
              refine va_iast hx hb hK hP hD hS (3 + x1.toNatClampNeg) 0 (rw_g18 _ lg14) rfl (ix_s g18) dX5_weigh_44 (fun H locs hP hD hS => ?_)
              rw [rs_g18 _ lg14] at hP hD
              obtain ⟨m19, em19⟩ : ∃ z, z = (va_up y12 x1.toNatClampNeg (upd (y12 x1.toNatClampNeg) x11.toNatClampNeg r16)) := ⟨_, rfl⟩
              rw [← em19] at hP hD
              have hv := nm_s em19 hv
              refine lv_iinc (v := (x11 + (1 : Int32))) (lv' := [(3, .int (x11 + (1 : Int32))), (2, .int x1), (0, .ref v_h), (1, .ref a_h)]) hx hb dX5_weigh_45 hl (k := 0) rfl rfl (by decide) rfl (fun ls hl => ?_)
              refine lv_goto (tgt := 20) hx hb dX5_weigh_48 (by decide) ?_
              exact ih20 (x11 + (1 : Int32)) m19 _ _ _ hP hD hS (lv_sub hl [0, 1, 2, 3] rfl) hv
        refine hL20 _ (fun x20 y21 H locs ls hP hD hS hl hv => ?_) N (0 : Int32) y2 _ _ _ hP hD hS (lv_sub hl [0, 1, 2, 3] rfl) hv
        refine lv_iinc (v := (x1 + (1 : Int32))) (lv' := [(2, .int (x1 + (1 : Int32))), (3, .int x20), (0, .ref v_h), (1, .ref a_h)]) hx hb dX5_weigh_51 hl (k := 1) rfl rfl (by decide) rfl (fun ls hl => ?_)
        refine lv_goto (tgt := 10) hx hb dX5_weigh_54 (by decide) ?_
        exact ih10 (x1 + (1 : Int32)) y21 _ _ _ hP hD hS (lv_sub hl [0, 2, 3] rfl) hv
  exact hL10 N (0 : Int32) v_M _ _ _ hP hD hS (lv_sub hl [0, 1, 2] rfl) hv
theorem dX5_mostWeight_0 : decode cX5_mostWeight 0 = .ok (.aload_n 0, 1) := by decide +kernel
theorem dX5_mostWeight_1 : decode cX5_mostWeight 1 = .ok (.getfield 9, 3) := by decide +kernel
theorem dX5_mostWeight_4 : decode cX5_mostWeight 4 = .ok (.iconst 0, 1) := by decide +kernel
theorem dX5_mostWeight_5 : decode cX5_mostWeight 5 = .ok (.iaload, 1) := by decide +kernel
theorem dX5_mostWeight_6 : decode cX5_mostWeight 6 = .ok (.ireturn, 1) := by decide +kernel
def f_X5_mostWeight (v_rest : Nat → Int32) : Option (Int32) := some (v_rest 0)
set_option maxHeartbeats 4000000 in
set_option maxRecDepth 100000 in
theorem c_X5_mostWeight (l : Launch) (E : EE) (v_h : Nat) (v_a0 : Nat) (v_a1 : Nat) (v_rw : Nat → Nat) (v_people : Int32) (v_rest : Nat → Int32) (v_g : Nat → Option Nat) (v_M : Nat → Nat → Int32) (res : Int32) (hrw_v : ∀ i : Nat, i < 7 → v_g i = some (v_rw i)) (hv : f_X5_mostWeight v_rest = some res) : Rd l E yX5_mostWeight cX5_mostWeight 1 (some .int) ({ frames := 0, cells := 0, slots := 0, locals := 0 }) [.ref v_h] [oRa v_h v_a0 v_a1 v_people, ai E v_a0 1024 v_rest, aG E v_a1 v_g, ai E (v_rw 0) 10 (v_M 0), ai E (v_rw 1) 10 (v_M 1), ai E (v_rw 2) 10 (v_M 2), ai E (v_rw 3) 10 (v_M 3), ai E (v_rw 4) 10 (v_M 4), ai E (v_rw 5) 10 (v_M 5), ai E (v_rw 6) 10 (v_M 6)] (some (.int res)) := by
  refine Rd.intro RX5 (by decide) rfl (Nat.le_of_ble_eq_true rfl) ?_
  intro p e s m below meth c ls hC hr hlk hP hG hl
  obtain ⟨hx, hb, hml, hown, ht⟩ := id hC
  have hK := hG.1
  have hl : lv_has ls 1 [(0, .ref v_h)] := hl
  rw [f_X5_mostWeight] at hv
  refine lv_aload_n hx hb dX5_mostWeight_0 rfl (lv_at hl 0 rfl) ?_
  refine va_get (D := E.1) (ci := 0) (v := .ref v_a0) (C := RX5) (T := TX5) (N := 3) hx hb ht i_X5 hown hK hP 0 rfl rfl 0 (by decide) (ht _ kw_1_94) (fun _ h9 => h9) rfl dX5_mostWeight_1 ?_
  refine lv_iconst (v := (0 : Int32)) hx hb dX5_mostWeight_4 (by decide) ?_
  refine va_iald hx hb hK hP 1 0 rfl rfl (ix_s (by decide)) dX5_mostWeight_5 ?_
  refine W.eq (g2 := F0 m 6 ls [.int (v_rest 0)]) rfl ?_
  exact W.iret (v := (v_rest 0)) hx hb hr (fun t h9 _ => ⟨rv_i hv, h9⟩) (fun q h => absurd h List.not_mem_nil) dX5_mostWeight_6 hlk
theorem dX5_firstBestRail_0 : decode cX5_firstBestRail 0 = .ok (.iconst 0, 1) := by decide +kernel
theorem dX5_firstBestRail_1 : decode cX5_firstBestRail 1 = .ok (.istore_n 3, 1) := by decide +kernel
theorem dX5_firstBestRail_2 : decode cX5_firstBestRail 2 = .ok (.iload_n 3, 1) := by decide +kernel
theorem dX5_firstBestRail_3 : decode cX5_firstBestRail 3 = .ok (.bipush 10, 2) := by decide +kernel
theorem dX5_firstBestRail_5 : decode cX5_firstBestRail 5 = .ok (.if_icmp .ge 47, 3) := by decide +kernel
theorem dX5_firstBestRail_8 : decode cX5_firstBestRail 8 = .ok (.iload_n 2, 1) := by decide +kernel
theorem dX5_firstBestRail_9 : decode cX5_firstBestRail 9 = .ok (.iload_n 3, 1) := by decide +kernel
theorem dX5_firstBestRail_10 : decode cX5_firstBestRail 10 = .ok (.invokestatic 43, 3) := by decide +kernel
theorem dX5_firstBestRail_13 : decode cX5_firstBestRail 13 = .ok (.ifCond .ne 33, 3) := by decide +kernel
theorem dX5_firstBestRail_16 : decode cX5_firstBestRail 16 = .ok (.aload_n 0, 1) := by decide +kernel
theorem dX5_firstBestRail_17 : decode cX5_firstBestRail 17 = .ok (.getfield 17, 3) := by decide +kernel
theorem dX5_firstBestRail_20 : decode cX5_firstBestRail 20 = .ok (.iload_n 1, 1) := by decide +kernel
theorem dX5_firstBestRail_21 : decode cX5_firstBestRail 21 = .ok (.aaload, 1) := by decide +kernel
theorem dX5_firstBestRail_22 : decode cX5_firstBestRail 22 = .ok (.iload_n 3, 1) := by decide +kernel
theorem dX5_firstBestRail_23 : decode cX5_firstBestRail 23 = .ok (.iaload, 1) := by decide +kernel
theorem dX5_firstBestRail_24 : decode cX5_firstBestRail 24 = .ok (.aload_n 0, 1) := by decide +kernel
theorem dX5_firstBestRail_25 : decode cX5_firstBestRail 25 = .ok (.getfield 9, 3) := by decide +kernel
theorem dX5_firstBestRail_28 : decode cX5_firstBestRail 28 = .ok (.iload_n 2, 1) := by decide +kernel
theorem dX5_firstBestRail_29 : decode cX5_firstBestRail 29 = .ok (.iconst 1, 1) := by decide +kernel
theorem dX5_firstBestRail_30 : decode cX5_firstBestRail 30 = .ok (.iload_n 3, 1) := by decide +kernel
theorem dX5_firstBestRail_31 : decode cX5_firstBestRail 31 = .ok (.ishl, 1) := by decide +kernel
theorem dX5_firstBestRail_32 : decode cX5_firstBestRail 32 = .ok (.ior, 1) := by decide +kernel
theorem dX5_firstBestRail_33 : decode cX5_firstBestRail 33 = .ok (.iaload, 1) := by decide +kernel
theorem dX5_firstBestRail_34 : decode cX5_firstBestRail 34 = .ok (.iadd, 1) := by decide +kernel
theorem dX5_firstBestRail_35 : decode cX5_firstBestRail 35 = .ok (.aload_n 0, 1) := by decide +kernel
theorem dX5_firstBestRail_36 : decode cX5_firstBestRail 36 = .ok (.getfield 9, 3) := by decide +kernel
theorem dX5_firstBestRail_39 : decode cX5_firstBestRail 39 = .ok (.iload_n 2, 1) := by decide +kernel
theorem dX5_firstBestRail_40 : decode cX5_firstBestRail 40 = .ok (.iaload, 1) := by decide +kernel
theorem dX5_firstBestRail_41 : decode cX5_firstBestRail 41 = .ok (.if_icmp .ne 5, 3) := by decide +kernel
theorem dX5_firstBestRail_44 : decode cX5_firstBestRail 44 = .ok (.iload_n 3, 1) := by decide +kernel
theorem dX5_firstBestRail_45 : decode cX5_firstBestRail 45 = .ok (.ireturn, 1) := by decide +kernel
theorem dX5_firstBestRail_46 : decode cX5_firstBestRail 46 = .ok (.iinc 3 1, 3) := by decide +kernel
theorem dX5_firstBestRail_49 : decode cX5_firstBestRail 49 = .ok (.goto (-47), 3) := by decide +kernel
theorem dX5_firstBestRail_52 : decode cX5_firstBestRail 52 = .ok (.iconst 0, 1) := by decide +kernel
theorem dX5_firstBestRail_53 : decode cX5_firstBestRail 53 = .ok (.ireturn, 1) := by decide +kernel
def L_X5_firstBestRail_2 (v_rest : Nat → Int32) (v_M : Nat → Nat → Int32) (p1 : Int32) (p2 : Int32) : Nat → Int32 → Option (Int32)
  | 0, _ => none
  | n2 + 1, x1 => if (10 : Int32) ≤ x1 then some (0 : Int32) else ob (f_X9_isIn p2 x1) (fun r3 => if r3 = 0 then gd (ix p1 7) (gd (ix x1 10) (gd (ix (p2 ||| ((1 : Int32) <<< (x1 &&& 31))) 1024) (gd (ix p2 1024) (if ((v_M p1.toNatClampNeg x1.toNatClampNeg) + (v_rest (p2 ||| ((1 : Int32) <<< (x1 &&& 31))).toNatClampNeg)) = (v_rest p2.toNatClampNeg) then some x1 else L_X5_firstBestRail_2 v_rest v_M p1 p2 n2 (x1 + (1 : Int32)))))) else L_X5_firstBestRail_2 v_rest v_M p1 p2 n2 (x1 + (1 : Int32)))
def f_X5_firstBestRail (N : Nat) (v_rest : Nat → Int32) (v_M : Nat → Nat → Int32) (p1 : Int32) (p2 : Int32) : Option (Int32) := L_X5_firstBestRail_2 v_rest v_M p1 p2 N (0 : Int32)
set_option maxHeartbeats 4000000 in
set_option maxRecDepth 100000 in
theorem c_X5_firstBestRail (l : Launch) (E : EE) (v_h : Nat) (v_a0 : Nat) (v_a1 : Nat) (v_rw : Nat → Nat) (v_people : Int32) (v_rest : Nat → Int32) (v_g : Nat → Option Nat) (v_M : Nat → Nat → Int32) (p1 : Int32) (p2 : Int32) (N : Nat) (res : Int32) (hrw_v : ∀ i : Nat, i < 7 → v_g i = some (v_rw i)) (hv : f_X5_firstBestRail N v_rest v_M p1 p2 = some res) : Rd l E yX5_firstBestRail cX5_firstBestRail 4 (some .int) ({ frames := 1, cells := 0, slots := 0, locals := 21 }) [.ref v_h, .int p1, .int p2] [oRa v_h v_a0 v_a1 v_people, ai E v_a0 1024 v_rest, aG E v_a1 v_g, ai E (v_rw 0) 10 (v_M 0), ai E (v_rw 1) 10 (v_M 1), ai E (v_rw 2) 10 (v_M 2), ai E (v_rw 3) 10 (v_M 3), ai E (v_rw 4) 10 (v_M 4), ai E (v_rw 5) 10 (v_M 5), ai E (v_rw 6) 10 (v_M 6)] (some (.int res)) := by
  refine Rd.intro RX5 (by decide) rfl (Nat.le_of_ble_eq_true rfl) ?_
  intro p e s m below meth c ls hC hr hlk hP hG hl
  obtain ⟨hx, hb, hml, hown, ht⟩ := id hC
  have hK := hG.1
  have hl : lv_has ls 4 [(0, .ref v_h), (1, .int p1), (2, .int p2)] := hl
  rw [f_X5_firstBestRail] at hv
  refine lv_iconst (v := (0 : Int32)) hx hb dX5_firstBestRail_0 (by decide) ?_
  refine lv_istore_n (lv' := [(3, .int (0 : Int32)), (0, .ref v_h), (1, .int p1), (2, .int p2)]) hx hb dX5_firstBestRail_1 rfl hl (by decide) rfl (fun ls hl => ?_)
  have hL2 : ∀ (n : Nat) (x1 : Int32) (ls : Array Slot), lv_has ls 4 [(3, .int x1), (0, .ref v_h), (1, .int p1), (2, .int p2)] → L_X5_firstBestRail_2 v_rest v_M p1 p2 n x1 = some res → W p l e ({ frames := 1, cells := 0, slots := 0, locals := 21 }) s m [.ref v_h, .int p1, .int p2].toArray below meth c s.heap [] 0 0 (MQ below (RdQ (some (.int res))) [.ref v_h, .int p1, .int p2].toArray s 0 0 (fun _ => False)) (F0 m 2 ls []) := by
    intro n
    induction n with
    | zero => intro x1 ls hl hv; cases hv
    | succ n2 ih2 =>
      intro x1 ls hl hv
      rw [L_X5_firstBestRail_2] at hv
      refine lv_iload_n hx hb dX5_firstBestRail_2 rfl (lv_at hl 0 rfl) ?_
      refine lv_bipush (v := (10 : Int32)) hx hb dX5_firstBestRail_3 (by decide) ?_
      refine lv_icmp_ge (tgt := 52) hx hb dX5_firstBestRail_5 (by decide) (fun c2 => ?_) (fun c2 => ?_)
      · have hv := if_y c2 hv
        refine lv_iconst (v := (0 : Int32)) hx hb dX5_firstBestRail_52 (by decide) ?_
        exact W.iret (v := (0 : Int32)) hx hb hr (fun t h9 _ => ⟨rv_i hv, h9⟩) (fun q h => absurd h List.not_mem_nil) dX5_firstBestRail_53 hlk
      · have hv := if_n c2 hv
        refine lv_iload_n hx hb dX5_firstBestRail_8 rfl (lv_at hl 3 rfl) ?_
        refine lv_iload_n hx hb dX5_firstBestRail_9 rfl (lv_at hl 0 rfl) ?_
        obtain ⟨r3, h4, hv⟩ := ob_s hv
        refine rdSN (rest := []) (st1 := [.int r3]) (w := []) hC q_X9_isIn (List.mem_of_getElem? (i := 7) rfl) (c_X9_isIn l E p2 x1 r3 h4) ⟨rfl, rfl⟩ ⟨Nat.le_of_ble_eq_true rfl, Nat.le_of_ble_eq_true rfl⟩ ⟨Nat.zero_le _, Nat.zero_le _⟩ (hP.sub (ws' := []) [] rfl) hG rfl hl.1 rfl (Nat.le_of_ble_eq_true rfl) dX5_firstBestRail_10 rfl ?_
        refine lv_if_ne (tgt := 46) hx hb dX5_firstBestRail_13 (by decide) (fun c5 => ?_) (fun c5 => ?_)
        · have hv := if_n c5 hv
          refine lv_iinc (v := (x1 + (1 : Int32))) (lv' := [(3, .int (x1 + (1 : Int32))), (0, .ref v_h), (1, .int p1), (2, .int p2)]) hx hb dX5_firstBestRail_46 hl (k := 0) rfl rfl (by decide) rfl (fun ls hl => ?_)
          refine lv_goto (tgt := 2) hx hb dX5_firstBestRail_49 (by decide) ?_
          exact ih2 (x1 + (1 : Int32)) _ (lv_sub hl [0, 1, 2, 3] rfl) hv
        · have hv := if_y c5 hv
          refine lv_aload_n hx hb dX5_firstBestRail_16 rfl (lv_at hl 1 rfl) ?_
          refine va_get (D := E.1) (ci := 0) (v := .ref v_a1) (C := RX5) (T := TX5) (N := 3) hx hb ht i_X5 hown hK hP 0 rfl rfl 1 (by decide) (ht _ kw_1_95) (fun _ h9 => h9) rfl dX5_firstBestRail_17 ?_
          refine lv_iload_n hx hb dX5_firstBestRail_20 rfl (lv_at hl 2 rfl) ?_
          obtain ⟨g6, hv⟩ := gd_s hv
          have lg6 := ix_lt g6
          refine va_aldT (ty := .array .int) rfl hx hb hK hP 2 2 rfl rfl (ix_s g6) dX5_firstBestRail_21 ?_
          refine W.eq (g2 := F0 m 22 ls [.ref (v_rw p1.toNatClampNeg)]) (by rw [hrw_v _ lg6]; rfl) ?_
          refine lv_iload_n hx hb dX5_firstBestRail_22 rfl (lv_at hl 0 rfl) ?_
          obtain ⟨g7, hv⟩ := gd_s hv
          have rw_g7 : ∀ i : Nat, i < 7 → ([oRa v_h v_a0 v_a1 v_people, ai E v_a0 1024 v_rest, aG E v_a1 v_g, ai E (v_rw 0) 10 (v_M 0), ai E (v_rw 1) 10 (v_M 1), ai E (v_rw 2) 10 (v_M 2), ai E (v_rw 3) 10 (v_M 3), ai E (v_rw 4) 10 (v_M 4), ai E (v_rw 5) 10 (v_M 5), ai E (v_rw 6) 10 (v_M 6)] : va_W)[3 + i]? = some (v_rw i, .inl (E.2.1, 10, .inl (v_M i))) := fun i h => match i, h with | 0, _ => rfl | 1, _ => rfl | 2, _ => rfl | 3, _ => rfl | 4, _ => rfl | 5, _ => rfl | 6, _ => rfl | i + 7, h => absurd h (by omega)
          refine va_iald hx hb hK hP (3 + p1.toNatClampNeg) 0 (rw_g7 _ lg6) rfl (ix_s g7) dX5_firstBestRail_23 ?_
          refine lv_aload_n hx hb dX5_firstBestRail_24 rfl (lv_at hl 1 rfl) ?_
          refine va_get (D := E.1) (ci := 0) (v := .ref v_a0) (C := RX5) (T := TX5) (N := 3) hx hb ht i_X5 hown hK hP 0 rfl rfl 0 (by decide) (ht _ kw_1_94) (fun _ h9 => h9) rfl dX5_firstBestRail_25 ?_
          refine lv_iload_n hx hb dX5_firstBestRail_28 rfl (lv_at hl 3 rfl) ?_
          refine lv_iconst (v := (1 : Int32)) hx hb dX5_firstBestRail_29 (by decide) ?_
          refine lv_iload_n hx hb dX5_firstBestRail_30 rfl (lv_at hl 0 rfl) ?_
          refine lv_ishl hx hb dX5_firstBestRail_31 ?_
          refine lv_ior hx hb dX5_firstBestRail_32 ?_
          obtain ⟨g8, hv⟩ := gd_s hv
          refine va_iald hx hb hK hP 1 0 rfl rfl (ix_s g8) dX5_firstBestRail_33 ?_
          refine lv_iadd hx hb dX5_firstBestRail_34 ?_
          refine lv_aload_n hx hb dX5_firstBestRail_35 rfl (lv_at hl 1 rfl) ?_
          refine va_get (D := E.1) (ci := 0) (v := .ref v_a0) (C := RX5) (T := TX5) (N := 3) hx hb ht i_X5 hown hK hP 0 rfl rfl 0 (by decide) (ht _ kw_1_94) (fun _ h9 => h9) rfl dX5_firstBestRail_36 ?_
          refine lv_iload_n hx hb dX5_firstBestRail_39 rfl (lv_at hl 3 rfl) ?_
          obtain ⟨g9, hv⟩ := gd_s hv
          refine va_iald hx hb hK hP 1 0 rfl rfl (ix_s g9) dX5_firstBestRail_40 ?_
          refine lv_icmp_ne (tgt := 46) hx hb dX5_firstBestRail_41 (by decide) (fun c10 => ?_) (fun c10 => ?_)
          · have hv := if_n c10 hv
            refine lv_iinc (v := (x1 + (1 : Int32))) (lv' := [(3, .int (x1 + (1 : Int32))), (0, .ref v_h), (1, .int p1), (2, .int p2)]) hx hb dX5_firstBestRail_46 hl (k := 0) rfl rfl (by decide) rfl (fun ls hl => ?_)
            refine lv_goto (tgt := 2) hx hb dX5_firstBestRail_49 (by decide) ?_
            exact ih2 (x1 + (1 : Int32)) _ (lv_sub hl [0, 1, 2, 3] rfl) hv
          · have hv := if_y c10 hv
            refine lv_iload_n hx hb dX5_firstBestRail_44 rfl (lv_at hl 0 rfl) ?_
            exact W.iret (v := x1) hx hb hr (fun t h9 _ => ⟨rv_i hv, h9⟩) (fun q h => absurd h List.not_mem_nil) dX5_firstBestRail_45 hlk
  exact hL2 N (0 : Int32) _ (lv_sub hl [0, 1, 2, 3] rfl) hv
theorem dX5_railOf_0 : decode cX5_railOf 0 = .ok (.iconst 0, 1) := by decide +kernel
theorem dX5_railOf_1 : decode cX5_railOf 1 = .ok (.istore_n 2, 1) := by decide +kernel
theorem dX5_railOf_2 : decode cX5_railOf 2 = .ok (.bipush (-4), 2) := by decide +kernel
theorem dX5_railOf_4 : decode cX5_railOf 4 = .ok (.istore_n 3, 1) := by decide +kernel
theorem dX5_railOf_5 : decode cX5_railOf 5 = .ok (.iconst 0, 1) := by decide +kernel
theorem dX5_railOf_6 : decode cX5_railOf 6 = .ok (.istore 4, 2) := by decide +kernel
theorem dX5_railOf_8 : decode cX5_railOf 8 = .ok (.iload 4, 2) := by decide +kernel
theorem dX5_railOf_10 : decode cX5_railOf 10 = .ok (.iload_n 1, 1) := by decide +kernel
theorem dX5_railOf_11 : decode cX5_railOf 11 = .ok (.if_icmp .gt 32, 3) := by decide +kernel
theorem dX5_railOf_14 : decode cX5_railOf 14 = .ok (.iload 4, 2) := by decide +kernel
theorem dX5_railOf_16 : decode cX5_railOf 16 = .ok (.aload_n 0, 1) := by decide +kernel
theorem dX5_railOf_17 : decode cX5_railOf 17 = .ok (.getfield 26, 3) := by decide +kernel
theorem dX5_railOf_20 : decode cX5_railOf 20 = .ok (.if_icmp .ge 23, 3) := by decide +kernel
theorem dX5_railOf_23 : decode cX5_railOf 23 = .ok (.aload_n 0, 1) := by decide +kernel
theorem dX5_railOf_24 : decode cX5_railOf 24 = .ok (.iload 4, 2) := by decide +kernel
theorem dX5_railOf_26 : decode cX5_railOf 26 = .ok (.iload_n 2, 1) := by decide +kernel
theorem dX5_railOf_27 : decode cX5_railOf 27 = .ok (.invokevirtual 52, 3) := by decide +kernel
theorem dX5_railOf_30 : decode cX5_railOf 30 = .ok (.istore_n 3, 1) := by decide +kernel
theorem dX5_railOf_31 : decode cX5_railOf 31 = .ok (.iload_n 2, 1) := by decide +kernel
theorem dX5_railOf_32 : decode cX5_railOf 32 = .ok (.iconst 1, 1) := by decide +kernel
theorem dX5_railOf_33 : decode cX5_railOf 33 = .ok (.iload_n 3, 1) := by decide +kernel
theorem dX5_railOf_34 : decode cX5_railOf 34 = .ok (.ishl, 1) := by decide +kernel
theorem dX5_railOf_35 : decode cX5_railOf 35 = .ok (.ior, 1) := by decide +kernel
theorem dX5_railOf_36 : decode cX5_railOf 36 = .ok (.istore_n 2, 1) := by decide +kernel
theorem dX5_railOf_37 : decode cX5_railOf 37 = .ok (.iinc 4 1, 3) := by decide +kernel
theorem dX5_railOf_40 : decode cX5_railOf 40 = .ok (.goto (-32), 3) := by decide +kernel
theorem dX5_railOf_43 : decode cX5_railOf 43 = .ok (.iload_n 3, 1) := by decide +kernel
theorem dX5_railOf_44 : decode cX5_railOf 44 = .ok (.ireturn, 1) := by decide +kernel
def L_X5_railOf_8 (N : Nat) (v_people : Int32) (v_rest : Nat → Int32) (v_M : Nat → Nat → Int32) (p1 : Int32) : Nat → Int32 → Int32 → Int32 → Option (Int32)
  | 0, _, _, _ => none
  | n8 + 1, x1, x2, x3 => if p1 < x1 then some x2 else if v_people ≤ x1 then some x2 else ob (f_X5_firstBestRail N v_rest v_M x1 x3) (fun r6 => nm (x3 ||| ((1 : Int32) <<< (r6 &&& 31))) (fun z8 => L_X5_railOf_8 N v_people v_rest v_M p1 n8 (x1 + (1 : Int32)) r6 z8))
def f_X5_railOf (N : Nat) (v_people : Int32) (v_rest : Nat → Int32) (v_M : Nat → Nat → Int32) (p1 : Int32) : Option (Int32) := L_X5_railOf_8 N v_people v_rest v_M p1 N (0 : Int32) (-4 : Int32) (0 : Int32)
set_option maxHeartbeats 4000000 in
set_option maxRecDepth 100000 in
theorem c_X5_railOf (l : Launch) (E : EE) (v_h : Nat) (v_a0 : Nat) (v_a1 : Nat) (v_rw : Nat → Nat) (v_people : Int32) (v_rest : Nat → Int32) (v_g : Nat → Option Nat) (v_M : Nat → Nat → Int32) (p1 : Int32) (N : Nat) (res : Int32) (hrw_v : ∀ i : Nat, i < 7 → v_g i = some (v_rw i)) (hv : f_X5_railOf N v_people v_rest v_M p1 = some res) : Rd l E yX5_railOf cX5_railOf 5 (some .int) ({ frames := 2, cells := 0, slots := 0, locals := 44 }) [.ref v_h, .int p1] [oRa v_h v_a0 v_a1 v_people, ai E v_a0 1024 v_rest, aG E v_a1 v_g, ai E (v_rw 0) 10 (v_M 0), ai E (v_rw 1) 10 (v_M 1), ai E (v_rw 2) 10 (v_M 2), ai E (v_rw 3) 10 (v_M 3), ai E (v_rw 4) 10 (v_M 4), ai E (v_rw 5) 10 (v_M 5), ai E (v_rw 6) 10 (v_M 6)] (some (.int res)) := by
  refine Rd.intro RX5 (by decide) rfl (Nat.le_of_ble_eq_true rfl) ?_
  intro p e s m below meth c ls hC hr hlk hP hG hl
  obtain ⟨hx, hb, hml, hown, ht⟩ := id hC
  have hK := hG.1
  have hl : lv_has ls 5 [(0, .ref v_h), (1, .int p1)] := hl
  rw [f_X5_railOf] at hv
  refine lv_iconst (v := (0 : Int32)) hx hb dX5_railOf_0 (by decide) ?_
  refine lv_istore_n (lv' := [(2, .int (0 : Int32)), (0, .ref v_h), (1, .int p1)]) hx hb dX5_railOf_1 rfl hl (by decide) rfl (fun ls hl => ?_)
  refine lv_bipush (v := (-4 : Int32)) hx hb dX5_railOf_2 (by decide) ?_
  refine lv_istore_n (lv' := [(3, .int (-4 : Int32)), (2, .int (0 : Int32)), (0, .ref v_h), (1, .int p1)]) hx hb dX5_railOf_4 rfl hl (by decide) rfl (fun ls hl => ?_)
  refine lv_iconst (v := (0 : Int32)) hx hb dX5_railOf_5 (by decide) ?_
  refine lv_istore (lv' := [(4, .int (0 : Int32)), (3, .int (-4 : Int32)), (2, .int (0 : Int32)), (0, .ref v_h), (1, .int p1)]) hx hb dX5_railOf_6 hl (by decide) rfl (fun ls hl => ?_)
  have hL8 : ∀ (n : Nat) (x1 : Int32) (x2 : Int32) (x3 : Int32) (ls : Array Slot), lv_has ls 5 [(4, .int x1), (3, .int x2), (2, .int x3), (0, .ref v_h), (1, .int p1)] → L_X5_railOf_8 N v_people v_rest v_M p1 n x1 x2 x3 = some res → W p l e ({ frames := 2, cells := 0, slots := 0, locals := 44 }) s m [.ref v_h, .int p1].toArray below meth c s.heap [] 0 0 (MQ below (RdQ (some (.int res))) [.ref v_h, .int p1].toArray s 0 0 (fun _ => False)) (F0 m 8 ls []) := by
    intro n
    induction n with
    | zero => intro x1 x2 x3 ls hl hv; cases hv
    | succ n8 ih8 =>
      intro x1 x2 x3 ls hl hv
      rw [L_X5_railOf_8] at hv
      refine lv_iload hx hb dX5_railOf_8 (lv_at hl 0 rfl) ?_
      refine lv_iload_n hx hb dX5_railOf_10 rfl (lv_at hl 4 rfl) ?_
      refine lv_icmp_gt (tgt := 43) hx hb dX5_railOf_11 (by decide) (fun c4 => ?_) (fun c4 => ?_)
      · have hv := if_y c4 hv
        refine lv_iload_n hx hb dX5_railOf_43 rfl (lv_at hl 1 rfl) ?_
        exact W.iret (v := x2) hx hb hr (fun t h9 _ => ⟨rv_i hv, h9⟩) (fun q h => absurd h List.not_mem_nil) dX5_railOf_44 hlk
      · have hv := if_n c4 hv
        refine lv_iload hx hb dX5_railOf_14 (lv_at hl 0 rfl) ?_
        refine lv_aload_n hx hb dX5_railOf_16 rfl (lv_at hl 3 rfl) ?_
        refine va_get (D := E.1) (ci := 0) (v := .int v_people) (C := RX5) (T := TX5) (N := 3) hx hb ht i_X5 hown hK hP 0 rfl rfl 2 (by decide) (ht _ kw_1_96) (fun _ h9 => h9) rfl dX5_railOf_17 ?_
        refine lv_icmp_ge (tgt := 43) hx hb dX5_railOf_20 (by decide) (fun c5 => ?_) (fun c5 => ?_)
        · have hv := if_y c5 hv
          refine lv_iload_n hx hb dX5_railOf_43 rfl (lv_at hl 1 rfl) ?_
          exact W.iret (v := x2) hx hb hr (fun t h9 _ => ⟨rv_i hv, h9⟩) (fun q h => absurd h List.not_mem_nil) dX5_railOf_44 hlk
        · have hv := if_n c5 hv
          refine lv_aload_n hx hb dX5_railOf_23 rfl (lv_at hl 3 rfl) ?_
          refine lv_iload hx hb dX5_railOf_24 (lv_at hl 0 rfl) ?_
          refine lv_iload_n hx hb dX5_railOf_26 rfl (lv_at hl 2 rfl) ?_
          obtain ⟨r6, h7, hv⟩ := ob_s hv
          refine rdV 0 0 (As := [.int x1, .int x3]) (rest := []) (st1 := [.int r6]) (w := [oRa v_h v_a0 v_a1 v_people, ai E v_a0 1024 v_rest, aG E v_a1 v_g, ai E (v_rw 0) 10 (v_M 0), ai E (v_rw 1) 10 (v_M 1), ai E (v_rw 2) 10 (v_M 2), ai E (v_rw 3) 10 (v_M 3), ai E (v_rw 4) 10 (v_M 4), ai E (v_rw 5) 10 (v_M 5), ai E (v_rw 6) 10 (v_M 6)]) hC q_X5_firstBestRail kw_3_74 (c_X5_firstBestRail l E v_h v_a0 v_a1 v_rw v_people v_rest v_g v_M x1 x3 N r6 hrw_v h7) ⟨rfl, rfl⟩ ⟨Nat.le_of_ble_eq_true rfl, Nat.le_of_ble_eq_true rfl⟩ ⟨Nat.zero_le _, Nat.zero_le _⟩ hP rfl rfl rfl hG rfl hl.1 rfl (Nat.le_of_ble_eq_true rfl) dX5_railOf_27 rfl ?_
          refine lv_istore_n (lv' := [(3, .int r6), (4, .int x1), (2, .int x3), (0, .ref v_h), (1, .int p1)]) hx hb dX5_railOf_30 rfl hl (by decide) rfl (fun ls hl => ?_)
          refine lv_iload_n hx hb dX5_railOf_31 rfl (lv_at hl 2 rfl) ?_
          refine lv_iconst (v := (1 : Int32)) hx hb dX5_railOf_32 (by decide) ?_
          refine lv_iload_n hx hb dX5_railOf_33 rfl (lv_at hl 0 rfl) ?_
          refine lv_ishl hx hb dX5_railOf_34 ?_
          refine lv_ior hx hb dX5_railOf_35 ?_
          refine lv_topi (fun z8 ez8 => ?_)
          have hv := nm_s ez8 hv
          refine lv_istore_n (lv' := [(2, .int z8), (3, .int r6), (4, .int x1), (0, .ref v_h), (1, .int p1)]) hx hb dX5_railOf_36 rfl hl (by decide) rfl (fun ls hl => ?_)
          refine lv_iinc (v := (x1 + (1 : Int32))) (lv' := [(4, .int (x1 + (1 : Int32))), (2, .int z8), (3, .int r6), (0, .ref v_h), (1, .int p1)]) hx hb dX5_railOf_37 hl (k := 2) rfl rfl (by decide) rfl (fun ls hl => ?_)
          refine lv_goto (tgt := 8) hx hb dX5_railOf_40 (by decide) ?_
          exact ih8 (x1 + (1 : Int32)) r6 z8 _ (lv_sub hl [0, 2, 1, 3, 4] rfl) hv
  exact hL8 N (0 : Int32) (-4 : Int32) (0 : Int32) _ (lv_sub hl [0, 1, 2, 3, 4] rfl) hv
