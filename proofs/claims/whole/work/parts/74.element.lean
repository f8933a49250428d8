section FXT2
variable {p : Program} {l : Launch} {e : Env} {R : Room} {s : State} {m : MethodId} {args : Array Value} {below : List Frame} {meth : Method} {c : Code} {locs : List Loc} {cells slots : Nat}
theorem fx_throwW {cc : ByteArray} {nL pc ik is ic : Nat} {own cls text : String} {ls : Array Slot} {v : Option Value} (hC : CallFix p m c cc nL s args TG own) (hX : TX l (fun _ => False) s s.heap) (hlk : meth.locks = false) (htab : ∀ x ∈ c.exceptionTable.toList, False)
    (hR : R.frames = 6 ∧ R.cells = 1 ∧ R.slots = 6 ∧ R.locals = 82) (hcls : Bundle.fit cls = true) (hk : Cond.classLink own ik cls ∈ lw_tbl) (hi : Cond.initialized cls ∈ lw_tbl) (hg : ∀ w ∈ (vx_atS own ic cls nxL).filter goodWord, w ∈ lw_tbl) (hb : ∀ w ∈ (vx_atS own ic cls nxL).filter (fun w => !goodWord w), w ∈ bdL) (ho : (Cond.classLink own ik cls :: Cond.initialized cls :: vx_atS own ic cls nxL).all vx_ot = true)
    (hst : (own, is, text) ∈ stL) (hs : ls.size = nL)
    (d0 : decode cc pc = .ok (.new ik, 3)) (d3 : decode cc (pc + 3) = .ok (.dup, 1)) (d4 : decode cc (pc + 4) = .ok (.ldc_w is, 3)) (d7 : decode cc (pc + 7) = .ok (.invokespecial ic, 3)) (d10 : decode cc (pc + 10) = .ok (.athrow, 1)) :
    W p l e R s m args below meth c s.heap [] 0 0 (vx_MQ below (FxQ (some cls) v) (FxX (some cls)) args s 1 6 (fun q => s.heap.size ≤ q)) (F0 m pc ls []) := by
  obtain ⟨hx, hbb, hml, hown, ht⟩ := hC
  obtain ⟨sa, hstr⟩ := hX.2.2.2.1 _ hst
  have gk : ∀ w, goodWord w = true → w ∈ lw_tbl → w.before args s = true := fun w g h => ht w (tg h g)
  refine vx_throwSW (sa := sa) (names := nxL) (A := fun _ => False) hx hbb hX.1 hown hcls (by decide) (gk _ rfl hk) (gk _ rfl hi) hstr (vx_hat (fun w hw => gk w (List.mem_filter.mp hw).2 (hg w hw)) hb (hX.bd args)) (fun w hw => List.all_eq_true.mp ho w hw) hX.2.2.2.2.2.1 hX.2.2.2.2.2.2 va_S.rf (hs.trans hml.symm) d0 d3 d4 d7 d10 (fun x hx => (htab x hx).elim)
    (by rw [hR.1]; decide) (by rw [hR.2.2.2]; decide) (by rw [hR.2.1]; decide) (by rw [hR.2.2.1]; decide) hlk (fun t _ h1 h2 => ⟨rfl, h1, fun q hq _ => h2 q hq⟩) (fun _ h => nomatch h) (Nat.le_refl _) (Nat.le_refl _)
end FXT2
theorem dX9_element_0 : decode cX9_element 0 = .ok (.iload_n 1, 1) := by decide +kernel
theorem dX9_element_1 : decode cX9_element 1 = .ok (.invokestatic 283, 3) := by decide +kernel
theorem dX9_element_4 : decode cX9_element 4 = .ok (.ifCond .ne 14, 3) := by decide +kernel
theorem dX9_element_7 : decode cX9_element 7 = .ok (.new 302, 3) := by decide +kernel
theorem dX9_element_10 : decode cX9_element 10 = .ok (.dup, 1) := by decide +kernel
theorem dX9_element_11 : decode cX9_element 11 = .ok (.ldc_w 304, 3) := by decide +kernel
theorem dX9_element_14 : decode cX9_element 14 = .ok (.invokespecial 306, 3) := by decide +kernel
theorem dX9_element_17 : decode cX9_element 17 = .ok (.athrow, 1) := by decide +kernel
theorem dX9_element_18 : decode cX9_element 18 = .ok (.aload_n 0, 1) := by decide +kernel
theorem dX9_element_19 : decode cX9_element 19 = .ok (.getfield 35, 3) := by decide +kernel
theorem dX9_element_22 : decode cX9_element 22 = .ok (.iload_n 1, 1) := by decide +kernel
theorem dX9_element_23 : decode cX9_element 23 = .ok (.aaload, 1) := by decide +kernel
theorem dX9_element_24 : decode cX9_element 24 = .ok (.getfield 286, 3) := by decide +kernel
theorem dX9_element_27 : decode cX9_element 27 = .ok (.iconst 2, 1) := by decide +kernel
theorem dX9_element_28 : decode cX9_element 28 = .ok (.if_icmp .eq 14, 3) := by decide +kernel
theorem dX9_element_31 : decode cX9_element 31 = .ok (.new 309, 3) := by decide +kernel
theorem dX9_element_34 : decode cX9_element 34 = .ok (.dup, 1) := by decide +kernel
theorem dX9_element_35 : decode cX9_element 35 = .ok (.ldc_w 311, 3) := by decide +kernel
theorem dX9_element_38 : decode cX9_element 38 = .ok (.invokespecial 313, 3) := by decide +kernel
theorem dX9_element_41 : decode cX9_element 41 = .ok (.athrow, 1) := by decide +kernel
theorem dX9_element_42 : decode cX9_element 42 = .ok (.aload_n 0, 1) := by decide +kernel
theorem dX9_element_43 : decode cX9_element 43 = .ok (.getfield 35, 3) := by decide +kernel
theorem dX9_element_46 : decode cX9_element 46 = .ok (.iload_n 1, 1) := by decide +kernel
theorem dX9_element_47 : decode cX9_element 47 = .ok (.aaload, 1) := by decide +kernel
theorem dX9_element_48 : decode cX9_element 48 = .ok (.iload_n 2, 1) := by decide +kernel
theorem dX9_element_49 : decode cX9_element 49 = .ok (.invokevirtual 296, 3) := by decide +kernel
theorem dX9_element_52 : decode cX9_element 52 = .ok (.ifCond .ne 14, 3) := by decide +kernel
theorem dX9_element_55 : decode cX9_element 55 = .ok (.new 309, 3) := by decide +kernel
theorem dX9_element_58 : decode cX9_element 58 = .ok (.dup, 1) := by decide +kernel
theorem dX9_element_59 : decode cX9_element 59 = .ok (.ldc_w 314, 3) := by decide +kernel
theorem dX9_element_62 : decode cX9_element 62 = .ok (.invokespecial 313, 3) := by decide +kernel
theorem dX9_element_65 : decode cX9_element 65 = .ok (.athrow, 1) := by decide +kernel
theorem dX9_element_66 : decode cX9_element 66 = .ok (.aload_n 0, 1) := by decide +kernel
theorem dX9_element_67 : decode cX9_element 67 = .ok (.getfield 35, 3) := by decide +kernel
theorem dX9_element_70 : decode cX9_element 70 = .ok (.iload_n 1, 1) := by decide +kernel
theorem dX9_element_71 : decode cX9_element 71 = .ok (.aaload, 1) := by decide +kernel
theorem dX9_element_72 : decode cX9_element 72 = .ok (.iload_n 2, 1) := by decide +kernel
theorem dX9_element_73 : decode cX9_element 73 = .ok (.invokevirtual 262, 3) := by decide +kernel
theorem dX9_element_76 : decode cX9_element 76 = .ok (.i2l, 1) := by decide +kernel
theorem dX9_element_77 : decode cX9_element 77 = .ok (.lreturn, 1) := by decide +kernel
theorem dL_element_0 : decode cL_element 0 = .ok (.aload_n 3, 1) := by decide +kernel
theorem dL_element_1 : decode cL_element 1 = .ok (.iconst 0, 1) := by decide +kernel
theorem dL_element_2 : decode cL_element 2 = .ok (.aload_n 0, 1) := by decide +kernel
theorem dL_element_3 : decode cL_element 3 = .ok (.iload_n 1, 1) := by decide +kernel
theorem dL_element_4 : decode cL_element 4 = .ok (.iload_n 2, 1) := by decide +kernel
theorem dL_element_5 : decode cL_element 5 = .ok (.invokevirtual 7, 3) := by decide +kernel
theorem dL_element_8 : decode cL_element 8 = .ok (.lastore, 1) := by decide +kernel
theorem dL_element_9 : decode cL_element 9 = .ok (.goto 11, 3) := by decide +kernel
theorem dL_element_12 : decode cL_element 12 = .ok (.astore 4, 2) := by decide +kernel
theorem dL_element_14 : decode cL_element 14 = .ok (.iconst 1, 1) := by decide +kernel
theorem dL_element_15 : decode cL_element 15 = .ok (.ireturn, 1) := by decide +kernel
theorem dL_element_16 : decode cL_element 16 = .ok (.astore 4, 2) := by decide +kernel
theorem dL_element_18 : decode cL_element 18 = .ok (.iconst 2, 1) := by decide +kernel
theorem dL_element_19 : decode cL_element 19 = .ok (.ireturn, 1) := by decide +kernel
theorem dL_element_20 : decode cL_element 20 = .ok (.iconst 0, 1) := by decide +kernel
theorem dL_element_21 : decode cL_element 21 = .ok (.ireturn, 1) := by decide +kernel
def f_X9_element (q_elements : Nat → Int32) (q_holds : Int32) (q_size : Int32) (p1 : Int32) (p2 : Int32) : Option (Option String × Int64) := ob (f_X9_isShelf p1) (fun r1 => if r1 = 0 then some (some xIAE, 0) else gd (ix p1 8) (if q_holds = (2 : Int32) then ob (f_X7_hasPlace q_size p2) (fun r5 => if r5 = 0 then some (some xISE, 0) else ob (f_X7_at q_elements q_size p2) (fun r6 => nm r6.toInt64 (fun z => some (none, z)))) else some (some xISE, 0)))
set_option maxHeartbeats 4000000 in
set_option maxRecDepth 100000 in
theorem c_X9_element (l : Launch) (E : EE) (b_h : Nat) (now_h : Nat) (mind_h : Nat) (kept_h : Nat) (rails_h : Nat) (sa_h : Nat) (q_h : Nat) (q_a0 : Nat) (b_img : Int32) (sh : Nat → Option Nat) (q_elements : Nat → Int32) (q_holds : Int32) (q_kind : Int32) (q_figure : Int32) (q_sort : Int32) (q_size : Int32) (p1 : Int32) (p2 : Int32) (F : Option String) (z : Int64) (hsh_p1 : ix p1 8 = true → sh p1.toNatClampNeg = some q_h) (hv : f_X9_element q_elements q_holds q_size p1 p2 = some (F, z)) : Fx l E yX9_element cX9_element 3 (some .long) ({ frames := 6, cells := 1, slots := 6, locals := 82 }) 1 6 [.ref b_h, .int p1, .int p2] [oBp b_h now_h mind_h kept_h b_img rails_h sa_h, aS E sa_h sh, oSh q_h q_a0 q_holds q_kind q_figure q_sort q_size, ai E q_a0 100 q_elements] F (some (.long z)) := by
  refine Fx.intro RX9 (by decide) rfl (Nat.le_of_ble_eq_true rfl) ?_
  intro p e s m below meth c ls hC hr hlk htab hP hG hX hl
  obtain ⟨hx, hb, hml, hown, ht⟩ := id hC
  have hK := hG.1
  have hl : lv_has ls 3 [(0, .ref b_h), (1, .int p1), (2, .int p2)] := hl
  rw [f_X9_element] at hv
  refine lv_iload_n hx hb dX9_element_0 rfl (lv_at hl 1 rfl) ?_
  obtain ⟨r1, h2, hv⟩ := ob_s hv
  refine rdS (rest := []) (st1 := [.int r1]) (w := []) hC q_X9_isShelf kw_1_165 (c_X9_isShelf l E p1 r1 h2) ⟨rfl, rfl⟩ ⟨Nat.le_of_ble_eq_true rfl, Nat.le_of_ble_eq_true rfl⟩ ⟨Nat.zero_le _, Nat.zero_le _⟩ (hP.sub (ws' := []) [] rfl) hG rfl hl.1 rfl (Nat.le_of_ble_eq_true rfl) dX9_element_1 rfl ?_
  refine lv_if_ne (tgt := 18) hx hb dX9_element_4 (by decide) (fun c3 => ?_) (fun c3 => ?_)
  · have hv := if_n c3 hv
    obtain ⟨g4, hv⟩ := gd_s hv
    refine lv_aload_n hx hb dX9_element_18 rfl (lv_at hl 0 rfl) ?_
    refine va_get (D := E.1) (ci := 3) (v := .ref sa_h) (C := RX9) (T := TX9) (N := 6) hx hb ht i_X9 hown hK hP 0 rfl rfl 5 (by decide) (ht _ kw_1_143) (fun _ h9 => h9) rfl dX9_element_19 ?_
    refine lv_iload_n hx hb dX9_element_22 rfl (lv_at hl 1 rfl) ?_
    refine va_aldq (C := "BalconiesParliament$Shelf") hx hb hK hP 1 1 rfl rfl (ix_s g4) dX9_element_23 ?_
    refine W.eq (g2 := F0 m 24 ls [.ref q_h]) (by rw [hsh_p1 g4]; rfl) ?_
    refine va_get (D := E.1) (ci := 1) (v := .int q_holds) (C := RX7) (T := TX7) (N := 6) hx hb ht i_X7 hown hK hP 2 rfl rfl 1 (by decide) (ht _ kw_1_114) (fun _ h9 => h9) rfl dX9_element_24 ?_
    refine lv_iconst (v := (2 : Int32)) hx hb dX9_element_27 (by decide) ?_
    refine lv_icmp_eq (tgt := 42) hx hb dX9_element_28 (by decide) (fun c5 => ?_) (fun c5 => ?_)
    · have hv := if_y c5 hv
      refine lv_aload_n hx hb dX9_element_42 rfl (lv_at hl 0 rfl) ?_
      refine va_get (D := E.1) (ci := 3) (v := .ref sa_h) (C := RX9) (T := TX9) (N := 6) hx hb ht i_X9 hown hK hP 0 rfl rfl 5 (by decide) (ht _ kw_1_143) (fun _ h9 => h9) rfl dX9_element_43 ?_
      refine lv_iload_n hx hb dX9_element_46 rfl (lv_at hl 1 rfl) ?_
      refine va_aldq (C := "BalconiesParliament$Shelf") hx hb hK hP 1 1 rfl rfl (ix_s g4) dX9_element_47 ?_
      refine W.eq (g2 := F0 m 48 ls [.ref q_h]) (by rw [hsh_p1 g4]; rfl) ?_
      refine lv_iload_n hx hb dX9_element_48 rfl (lv_at hl 2 rfl) ?_
      obtain ⟨r5, h6, hv⟩ := ob_s hv
      refine rdV 1 0 (As := [.int p2]) (rest := []) (st1 := [.int r5]) (w := [oSh q_h q_a0 q_holds q_kind q_figure q_sort q_size, ai E q_a0 100 q_elements]) hC q_X7_hasPlace kw_3_216 (c_X7_hasPlace l E q_h q_a0 q_elements q_holds q_kind q_figure q_sort q_size p2 r5 h6) ⟨rfl, rfl⟩ ⟨Nat.le_of_ble_eq_true rfl, Nat.le_of_ble_eq_true rfl⟩ ⟨Nat.zero_le _, Nat.zero_le _⟩ (hP.sub [2, 3] rfl) rfl rfl rfl hG rfl hl.1 rfl (Nat.le_of_ble_eq_true rfl) dX9_element_49 rfl ?_
      refine lv_if_ne (tgt := 66) hx hb dX9_element_52 (by decide) (fun c7 => ?_) (fun c7 => ?_)
      · have hv := if_n c7 hv
        refine lv_aload_n hx hb dX9_element_66 rfl (lv_at hl 0 rfl) ?_
        refine va_get (D := E.1) (ci := 3) (v := .ref sa_h) (C := RX9) (T := TX9) (N := 6) hx hb ht i_X9 hown hK hP 0 rfl rfl 5 (by decide) (ht _ kw_1_143) (fun _ h9 => h9) rfl dX9_element_67 ?_
        refine lv_iload_n hx hb dX9_element_70 rfl (lv_at hl 1 rfl) ?_
        refine va_aldq (C := "BalconiesParliament$Shelf") hx hb hK hP 1 1 rfl rfl (ix_s g4) dX9_element_71 ?_
        refine W.eq (g2 := F0 m 72 ls [.ref q_h]) (by rw [hsh_p1 g4]; rfl) ?_
        refine lv_iload_n hx hb dX9_element_72 rfl (lv_at hl 2 rfl) ?_
        obtain ⟨r6, h8, hv⟩ := ob_s hv
        refine rdV 1 0 (As := [.int p2]) (rest := []) (st1 := [.int r6]) (w := [oSh q_h q_a0 q_holds q_kind q_figure q_sort q_size, ai E q_a0 100 q_elements]) hC q_X7_at kw_3_129 (c_X7_at l E q_h q_a0 q_elements q_holds q_kind q_figure q_sort q_size p2 r6 h8) ⟨rfl, rfl⟩ ⟨Nat.le_of_ble_eq_true rfl, Nat.le_of_ble_eq_true rfl⟩ ⟨Nat.zero_le _, Nat.zero_le _⟩ (hP.sub [2, 3] rfl) rfl rfl rfl hG rfl hl.1 rfl (Nat.le_of_ble_eq_true rfl) dX9_element_73 rfl ?_
        have hv : some ((none : Option String), r6.toInt64) = some (F, z) := hv
        cases hv
        refine lv_i2l (v := r6.toInt64) hx hb dX9_element_76 rfl ?_
        exact vx_ret (w_widen (k := 1) (n := 6) (Nat.zero_le _) (Nat.zero_le _) (W.lret (Qc := FxQ none (some (.long r6.toInt64))) (v := r6.toInt64) hx hb hr (fun t h9 _ => ⟨rfl, rfl, h9⟩) (fun q h => absurd h List.not_mem_nil) dX9_element_77 hlk))
      · have hv := if_y c7 hv
        cases hv
        exact fx_throwW (text := "no such place") hC hX hlk htab ⟨rfl, rfl, rfl, rfl⟩ (by decide) xw_k309 xw_iISE at_g313 at_b313 at_o313 (by decide) hl.1 dX9_element_55 dX9_element_58 dX9_element_59 dX9_element_62 dX9_element_65
    · have hv := if_n c5 hv
      cases hv
      exact fx_throwW (text := "no row") hC hX hlk htab ⟨rfl, rfl, rfl, rfl⟩ (by decide) xw_k309 xw_iISE at_g313 at_b313 at_o313 (by decide) hl.1 dX9_element_31 dX9_element_34 dX9_element_35 dX9_element_38 dX9_element_41
  · have hv := if_y c3 hv
    cases hv
    exact fx_throwW (text := "no such shelf") hC hX hlk htab ⟨rfl, rfl, rfl, rfl⟩ (by decide) xw_k302 xw_iIAE at_g306 at_b306 at_o306 (by decide) hl.1 dX9_element_7 dX9_element_10 dX9_element_11 dX9_element_14 dX9_element_17
