theorem xw_l13 : Cond.classLink RL 13 xIAE ∈ TG := tg (by decide +kernel) rfl
theorem xw_l15 : Cond.classLink RL 15 xISE ∈ TG := tg (by decide +kernel) rfl
theorem xw_l7 : Cond.methodLink RL 7 yX9_element ∈ TG := tg (by decide +kernel) rfl
theorem q_X9_element : CalV yX9_element cX9_element 3 (some .long) 2 := ⟨tg (by decide +kernel) rfl, tg (by decide +kernel) rfl, tg (by decide +kernel) rfl, kw_1_1, by decide +kernel, by decide +kernel, by decide +kernel⟩
theorem elF_c {el : Nat → Int32} {h sz p1 p2 : Int32} {F : Option String} {z : Int64} (hv : f_X9_element el h sz p1 p2 = some (F, z)) : F = none ∨ F = some xIAE ∨ F = some xISE := by
  rw [f_X9_element] at hv
  obtain ⟨r1, -, hv⟩ := ob_s hv
  by_cases c1 : r1 = 0
  · have hv := if_y c1 hv
    cases hv
    exact Or.inr (Or.inl rfl)
  · have hv := if_n c1 hv
    obtain ⟨-, hv⟩ := gd_s hv
    by_cases c2 : h = 2
    · have hv := if_y c2 hv
      obtain ⟨r5, -, hv⟩ := ob_s hv
      by_cases c3 : r5 = 0
      · have hv := if_y c3 hv
        cases hv
        exact Or.inr (Or.inr rfl)
      · have hv := if_n c3 hv
        obtain ⟨r6, -, hv⟩ := ob_s hv
        have hv : some ((none : Option String), r6.toInt64) = some (F, z) := hv
        cases hv
        exact Or.inl rfl
    · have hv := if_n c2 hv
      cases hv
      exact Or.inr (Or.inr rfl)
abbrev hhEl : List (Nat × Nat × Nat × Nat) := [(0, 9, 12, 13), (0, 9, 16, 15)]
abbrev oLo (cL : ClassId) (a : Nat) (f : Nat → Int64) : Nat × va_E := (a, .inl (cL, 1, .inr (.inl f)))
/-- what the law's own reader of elements answers, and what stands in its row then -/
def elA (F : Option String) : Int32 := match F with | none => 0 | some t => if t = xIAE then 1 else 2
def elO (F : Option String) (og : Nat → Int64) (z : Int64) : Nat → Int64 := match F with | none => vp_updL og (0 : Int32).toNatClampNeg z | some _ => og
set_option maxHeartbeats 4000000 in
set_option maxRecDepth 100000 in
theorem c_L_element (l : Launch) (E : EE) (cL : ClassId) (b_h : Nat) (now_h : Nat) (mind_h : Nat) (kept_h : Nat) (rails_h : Nat) (sa_h : Nat) (q_h : Nat) (q_a0 : Nat) (b_img : Int32) (sh : Nat → Option Nat) (q_elements : Nat → Int32) (q_holds : Int32) (q_kind : Int32) (q_figure : Int32) (q_sort : Int32) (q_size : Int32) (o : Nat) (og : Nat → Int64) (p1 : Int32) (p2 : Int32) (F : Option String) (z : Int64) (hsh_p1 : ix p1 8 = true → sh p1.toNatClampNeg = some q_h) (hv : f_X9_element q_elements q_holds q_size p1 p2 = some (F, z)) (sz : Nat) :
    vx_Met l yL_element (WSH yL_element cL_element 5 (some .int) hhEl) ({ frames := 7, cells := 1, slots := 6, locals := 104 }) (va_Pc [.ref b_h, .int p1, .int p2, .ref o] (fun U => U.heap.size = sz ∧ va_P E.1 vwCl [oBp b_h now_h mind_h kept_h b_img rails_h sa_h, aS E sa_h sh, oSh q_h q_a0 q_holds q_kind q_figure q_sort q_size, ai E q_a0 100 q_elements, oLo cL o og] U.heap ∧ va_D (fun _ => True) [oBp b_h now_h mind_h kept_h b_img rails_h sa_h, aS E sa_h sh, oSh q_h q_a0 q_holds q_kind q_figure q_sort q_size, ai E q_a0 100 q_elements, oLo cL o og] ∧ (GG E U ∧ va_K E.1 vwCl [(cL, .long)] U) ∧ TX l (fun _ => False) U U.heap))
      (WrQ E [oBp b_h now_h mind_h kept_h b_img rails_h sa_h, aS E sa_h sh, oSh q_h q_a0 q_holds q_kind q_figure q_sort q_size, ai E q_a0 100 q_elements, oLo cL o og] [oBp b_h now_h mind_h kept_h b_img rails_h sa_h, aS E sa_h sh, oSh q_h q_a0 q_holds q_kind q_figure q_sort q_size, ai E q_a0 100 q_elements, oLo cL o (elO F og z)] sz (some (.int (elA F)))) (fun _ _ _ => False) 1 6 (va_A [oBp b_h now_h mind_h kept_h b_img rails_h sa_h, aS E sa_h sh, oSh q_h q_a0 q_holds q_kind q_figure q_sort q_size, ai E q_a0 100 q_elements, oLo cL o og] sz) := by
  refine vx_ofWH (cc := cL_element) (maxL := 5) (ret := some .int) (hh := hhEl) (by decide) rfl ?_
  intro p e s m args below meth c s₁ B hml hv2
  obtain ⟨rfl, rfl, hP, hD0, ⟨hG, hKL⟩, hX⟩ := hv2
  have hts := atoms_spec (ws := WSH yL_element cL_element 5 (some .int) hhEl) B.pre
  have hown : s.vm.findClass RL = some m.cls := findClass_of_methodNamed B.named
  have htab : c.exceptionTable.toList = tableOf hhEl := vx_table (x := yL_element) B (hts _ List.mem_cons_self)
  have ht : ∀ w ∈ TG, w.before ([.ref b_h, .int p1, .int p2, .ref o] : List Value).toArray s = true := fun w hw => hts w (List.mem_cons_of_mem _ hw)
  have hx := B.exec
  have hb := B.bytes
  have hr := B.returns
  have hlk := B.notSynchronized
  have hC : CallFix p m c cL_element 5 s ([.ref b_h, .int p1, .int p2, .ref o] : List Value).toArray TG RL := ⟨hx, hb, hml, hown, ht⟩
  have hl := lv_entry ([.ref b_h, .int p1, .int p2, .ref o]) (n := 5) (Nat.le_of_ble_eq_true rfl)
  rw [lg_entry_eq]
  generalize (lg_sl ([.ref b_h, .int p1, .int p2, .ref o]) ++ List.replicate (5 - (lg_sl ([.ref b_h, .int p1, .int p2, .ref o])).length) Slot.unset).toArray = ls at hl ⊢
  have hl : lv_has ls 5 [(0, .ref b_h), (1, .int p1), (2, .int p2), (3, .ref o)] := hl
  have hD := hD0.self (sz := s.heap.size)
  obtain ⟨A, hAe⟩ : ∃ A, A = va_A [oBp b_h now_h mind_h kept_h b_img rails_h sa_h, aS E sa_h sh, oSh q_h q_a0 q_holds q_kind q_figure q_sort q_size, ai E q_a0 100 q_elements, oLo cL o og] s.heap.size := ⟨_, rfl⟩
  have hA : ∀ q, s.heap.size ≤ q → A q := fun q h => by rw [hAe]; exact Or.inr h
  rw [← hAe] at hD ⊢
  have hS : va_S A s.heap s.heap [] := va_S.rf
  have hret : ∀ (z9 : Int32) (H1 : Heap) (locs1 : List Loc) (k n : Nat) (pc : Nat) (ls1 : Array Slot), k ≤ 1 → n ≤ 6 → z9 = elA F → va_P E.1 vwCl [oBp b_h now_h mind_h kept_h b_img rails_h sa_h, aS E sa_h sh, oSh q_h q_a0 q_holds q_kind q_figure q_sort q_size, ai E q_a0 100 q_elements, oLo cL o (elO F og z)] H1 → va_S A s.heap H1 locs1 → decode cL_element pc = .ok (.ireturn, 1) → W p l e ({ frames := 7, cells := 1, slots := 6, locals := 104 }) s m ([.ref b_h, .int p1, .int p2, .ref o] : List Value).toArray below meth c H1 locs1 k n (vx_MQ below (WrQ E [oBp b_h now_h mind_h kept_h b_img rails_h sa_h, aS E sa_h sh, oSh q_h q_a0 q_holds q_kind q_figure q_sort q_size, ai E q_a0 100 q_elements, oLo cL o og] [oBp b_h now_h mind_h kept_h b_img rails_h sa_h, aS E sa_h sh, oSh q_h q_a0 q_holds q_kind q_figure q_sort q_size, ai E q_a0 100 q_elements, oLo cL o (elO F og z)] s.heap.size (some (.int (elA F)))) (fun _ _ _ => False) ([.ref b_h, .int p1, .int p2, .ref o] : List Value).toArray s 1 6 A) (F0 m pc ls1 [.int z9]) := by
    intro z9 H1 locs1 k n pc ls1 h1 h2 hz hP1 hS1 hd
    subst hz
    exact vx_ret (w_widen h1 h2 (W.iret (Qc := WrQ E [oBp b_h now_h mind_h kept_h b_img rails_h sa_h, aS E sa_h sh, oSh q_h q_a0 q_holds q_kind q_figure q_sort q_size, ai E q_a0 100 q_elements, oLo cL o og] [oBp b_h now_h mind_h kept_h b_img rails_h sa_h, aS E sa_h sh, oSh q_h q_a0 q_holds q_kind q_figure q_sort q_size, ai E q_a0 100 q_elements, oLo cL o (elO F og z)] s.heap.size (some (.int (elA F)))) (v := elA F) hx hb hr (fun t h9 _ => ⟨rfl, by rw [h9]; exact hP1, by rw [← hAe]; exact hS1.F h9⟩) hS1.2.2 hd hlk))
  refine lv_aload_n hx hb dL_element_0 rfl (lv_at hl 3 rfl) ?_
  refine lv_iconst (v := (0 : Int32)) hx hb dL_element_1 (by decide) ?_
  refine lv_aload_n hx hb dL_element_2 rfl (lv_at hl 0 rfl) ?_
  refine lv_iload_n hx hb dL_element_3 rfl (lv_at hl 1 rfl) ?_
  refine lv_iload_n hx hb dL_element_4 rfl (lv_at hl 2 rfl) ?_
  refine fxV 3 0 (As := [.int p1, .int p2]) (rest := [.int (0 : Int32), .ref o]) (w := [oBp b_h now_h mind_h kept_h b_img rails_h sa_h, aS E sa_h sh, oSh q_h q_a0 q_holds q_kind q_figure q_sort q_size, ai E q_a0 100 q_elements]) hC q_X9_element xw_l7 (c_X9_element l E b_h now_h mind_h kept_h rails_h sa_h q_h q_a0 b_img sh q_elements q_holds q_kind q_figure q_sort q_size p1 p2 F z hsh_p1 hv) ⟨rfl, rfl⟩ ⟨Nat.le_of_ble_eq_true rfl, Nat.le_of_ble_eq_true rfl⟩ ⟨Nat.le_refl _, Nat.le_refl _⟩ (hP.sub [0, 1, 2, 3] rfl) rfl rfl rfl hG hX rfl hl.1 rfl (Nat.le_of_ble_eq_true rfl) dL_element_5 hS hA (fun E9 ce q9 H1 locs1 hF hk hz hS1 hce hcv hcl => ?_) (fun locs1 hF hS1 => ?_)
  · have hP1 := va_P_kept hP hk
    rcases elF_c hv with h | h | h
    · rw [h] at hF; cases hF
    · rw [h] at hF; cases hF
      subst h
      refine vx_catch (own := RL) (name := xIAE) (E := xIAE) (ce := ce) hown [] ⟨0, 9, 12, 13⟩ [⟨0, 9, 16, 15⟩] htab (fun _ hz => nomatch hz) (by decide) (by decide) (ht _ xw_l13) (va_Nw.use rfl (hX.2.2.1 xIAE (by decide))) hce hcv hcl ?_
      refine lv_astore (lv' := [(4, .ref q9), (0, .ref b_h), (1, .int p1), (2, .int p2), (3, .ref o)]) hx hb dL_element_12 hl (by decide) rfl (fun ls hl => ?_)
      refine lv_iconst (v := (1 : Int32)) hx hb dL_element_14 (by decide) ?_
      exact hret _ _ _ _ _ 15 _ (Nat.le_refl _) (Nat.le_refl _) rfl hP1 hS1 dL_element_15
    · rw [h] at hF; cases hF
      subst h
      refine vx_catch (own := RL) (name := xISE) (E := xISE) (ce := ce) hown [⟨0, 9, 12, 13⟩] ⟨0, 9, 16, 15⟩ [] htab (fun z hz => Or.inr ?_) (by decide) (by decide) (ht _ xw_l15) (va_Nw.use rfl (hX.2.2.1 xISE (by decide))) hce hcv hcl ?_
      · cases List.mem_singleton.mp hz
        exact ⟨by decide, xIAE, ht _ xw_l13, hX.2.2.2.2.1 (xISE, xIAE) (by decide)⟩
      refine lv_astore (lv' := [(4, .ref q9), (0, .ref b_h), (1, .int p1), (2, .int p2), (3, .ref o)]) hx hb dL_element_16 hl (by decide) rfl (fun ls hl => ?_)
      refine lv_iconst (v := (2 : Int32)) hx hb dL_element_18 (by decide) ?_
      exact hret _ _ _ _ _ 19 _ (Nat.le_refl _) (Nat.le_refl _) (by decide) hP1 hS1 dL_element_19
  · subst hF
    refine va_last (D := E.1) (cl := vwCl) (f := og) hx hb hKL hP hD hS1 4 0 rfl rfl (ix_s rfl) dL_element_8 (fun H1 locs2 hP hD hS => ?_)
    refine lv_goto (tgt := 20) hx hb dL_element_9 (by decide) ?_
    refine lv_iconst (v := (0 : Int32)) hx hb dL_element_20 (by decide) ?_
    exact hret _ _ _ _ _ 21 _ (Nat.le_refl _) (Nat.le_refl _) rfl hP hS dL_element_21
