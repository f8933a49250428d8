/-! calls of a method that returns with the heap as it was, or throws -/
section FXC
variable {p : Program} {l : Launch} {e : Env} {R : Room} {s : State} {m : MethodId} {args : Array Value} {below : List Frame} {meth : Method} {c : Code} {H : Heap} {locs : List Loc} {cells slots : Nat} {Q : State → Prop}
variable {cc bytes : ByteArray} {nL maxL index n pc mc ms : Nat} {own : String} {y : MethodName} {ret : Option FieldType} {rm : Room} {E : EE} {w : va_W} {F : Option String} {v : Option Value} {ls : Array Slot} {As rest st0 : List Value} {b : Nat} {A : Nat → Prop} {H0 : Heap}
theorem fx_go {a : Array Value} (hr : vx_Run p l e R s m args below meth c H locs cells slots mc ms (F0 m pc ls st0) rest (FxQ F v a) (FxX F) (fun q => H.size ≤ q)) (hS : va_S A H0 H locs) (hA : ∀ q, H0.size ≤ q → A q)
    (kx : ∀ (E9 : String) (ce : Cell) (q9 : Addr) (H1 : Heap) (locs1 : List Loc), F = some E9 → (∀ q : Nat, q < H.size → H1[q]? = H[q]?) → H.size ≤ H1.size → va_S A H0 H1 locs1 → H1[q9]? = some ce → ce.vm = .none → s.vm.findClass E9 = some ce.cls → vx_W p l e R s m args below meth c H1 locs1 (cells + mc) (slots + ms) Q (F0 m pc ls rest) q9)
    (kk : ∀ locs1 : List Loc, F = none → va_S A H0 H locs1 → W p l e R s m args below meth c H locs1 (cells + mc) (slots + ms) Q (F0 m (pc + 3) ls (v.toList ++ rest))) : W p l e R s m args below meth c H locs cells slots Q (F0 m pc ls st0) := by
  intro T hT X
  have hloc : ∀ L : List Loc, (∀ z ∈ L, H.size ≤ z.base) → ∀ z ∈ locs ++ L, A z.base := fun L hL z hz => by
    rcases List.mem_append.mp hz with h | h
    · exact hS.2.2 z h
    · exact hA _ (Nat.le_trans hS.1 (hL z h))
  rcases hr T hT X with ⟨v', st₀, t, T', L, h0, X', hL, e1, e2, ⟨hv, hF, hh⟩, st⟩ | ⟨q, st₀, t, T', L, E9, ce, h0, X', hL, e1, e2, ⟨hF, hz, hk⟩, hce, hcv, hcl, st⟩
  · have hv' : v' = v := by injection hv
    subst hv'
    obtain ⟨t2, a1, b1⟩ := kk (locs ++ L) hF ⟨hS.1, hS.2.1, hloc L hL⟩ T' (by rw [e1, hh, h0]) X'
    exact ⟨t2, st t2 a1, b1⟩
  · rw [h0] at hz hk
    have hk' : ∀ q : Nat, q < H.size → T'.heap[q]? = H[q]? := fun q hq => by rw [e1]; exact hk q hq (by omega)
    obtain ⟨t2, a1, b1⟩ := kx E9 ce q T'.heap (locs ++ L) hF hk' (by rw [e1]; exact hz)
      ⟨Nat.le_trans hS.1 (by rw [e1]; exact hz), fun q h1 h2 => by rw [hk' q (Nat.lt_of_lt_of_le h1 hS.1)]; exact hS.2.1 q h1 h2, hloc L hL⟩ (by rw [e1]; exact hce) hcv hcl T' rfl X'
    exact ⟨t2, st.trans a1, b1⟩
theorem fxS (hC : CallFix p m c cc nL s args TG own) (q : CalS y bytes maxL ret n) (kl : Cond.methodLink own index y ∈ TG) (hM : Fx l E y bytes maxL ret rm mc ms As w F v) (hrm : rm.cells = mc ∧ rm.slots = ms) (hR : rm.frames + 1 ≤ R.frames ∧ 8 + (maxL + 11) + rm.locals ≤ R.locals) (hc : cells + mc ≤ R.cells ∧ slots + ms ≤ R.slots)
    (hP : va_P E.1 vwCl w H) (hG : GG E s) (hX : TX l (fun _ => False) s H) (hn : As.length = n) (hs : ls.size = nL) (hst0 : st0 = As.reverse ++ rest) (hw : (rest.map fun v => v.category).sum ≤ 8) (hdg : decode cc pc = .ok (.invokestatic index, 3)) (hS : va_S A H0 H locs) (hA : ∀ q, H0.size ≤ q → A q)
    (kx : ∀ (E9 : String) (ce : Cell) (q9 : Addr) (H1 : Heap) (locs1 : List Loc), F = some E9 → (∀ q : Nat, q < H.size → H1[q]? = H[q]?) → H.size ≤ H1.size → va_S A H0 H1 locs1 → H1[q9]? = some ce → ce.vm = .none → s.vm.findClass E9 = some ce.cls → vx_W p l e R s m args below meth c H1 locs1 (cells + mc) (slots + ms) Q (F0 m pc ls rest) q9)
    (kk : ∀ locs1 : List Loc, F = none → va_S A H0 H locs1 → W p l e R s m args below meth c H locs1 (cells + mc) (slots + ms) Q (F0 m (pc + 3) ls (v.toList ++ rest))) : W p l e R s m args below meth c H locs cells slots Q (F0 m pc ls st0) := by
  subst hst0
  obtain ⟨q1, q2, q3, q4⟩ := q
  have ht := hC.2.2.2.2
  exact fx_go (vx_runS (g := F0 m pc ls (As.reverse ++ rest)) hC (hM H.size) ⟨callB_of n ht (ws_good q1) rfl hrm.1 hrm.2 (ht _ q3) (ht _ kl) q4 hR, ht _ q2⟩ ⟨fun a U g mk q => ⟨q.1, q.2.1, q.2.2.1, q.2.2.2.1.call, q.2.2.2.2.call⟩, fun U hU hW => ⟨rfl, by rw [hU], by rw [hU]; exact hP, hG.warm hW, by rw [hU]; exact hX.warm hW⟩⟩ rfl hn hs rfl (lv_room hw) hdg hc) hS hA kx kk
theorem fxV (ci k0 : Nat) {fs : List Value} {qc : vw_C} (hC : CallFix p m c cc nL s args TG own) (q : CalV y bytes maxL ret n) (kl : Cond.methodLink own index y ∈ TG) (hM : Fx l E y bytes maxL ret rm mc ms (.ref b :: As) w F v) (hrm : rm.cells = mc ∧ rm.slots = ms) (hR : rm.frames + 1 ≤ R.frames ∧ 8 + (maxL + 11) + rm.locals ≤ R.locals) (hc : cells + mc ≤ R.cells ∧ slots + ms ≤ R.slots)
    (hP : va_P E.1 vwCl w H) (hcl : vwCl[ci]? = some qc) (hqc : qc.1 = y.cls) (he : w[k0]? = some (b, .inr (ci, fs))) (hG : GG E s) (hX : TX l (fun _ => False) s H) (hn : As.length = n) (hs : ls.size = nL) (hst0 : st0 = As.reverse ++ .ref b :: rest) (hw : (rest.map fun v => v.category).sum ≤ 8) (hdg : decode cc pc = .ok (.invokevirtual index, 3)) (hS : va_S A H0 H locs) (hA : ∀ q, H0.size ≤ q → A q)
    (kx : ∀ (E9 : String) (ce : Cell) (q9 : Addr) (H1 : Heap) (locs1 : List Loc), F = some E9 → (∀ q : Nat, q < H.size → H1[q]? = H[q]?) → H.size ≤ H1.size → va_S A H0 H1 locs1 → H1[q9]? = some ce → ce.vm = .none → s.vm.findClass E9 = some ce.cls → vx_W p l e R s m args below meth c H1 locs1 (cells + mc) (slots + ms) Q (F0 m pc ls rest) q9)
    (kk : ∀ locs1 : List Loc, F = none → va_S A H0 H locs1 → W p l e R s m args below meth c H locs1 (cells + mc) (slots + ms) Q (F0 m (pc + 3) ls (v.toList ++ rest))) : W p l e R s m args below meth c H locs cells slots Q (F0 m pc ls st0) := by
  subst hst0
  obtain ⟨q1, q2, q3, q4, q5⟩ := q
  have ht := hC.2.2.2.2
  exact fx_go (vx_runV (C := y.cls) (g := F0 m pc ls (As.reverse ++ .ref b :: rest)) hC (hM H.size) ⟨callB_of n ht (ws_good q1) rfl hrm.1 hrm.2 (ht _ q4) (ht _ kl) q5 hR, ht _ q2, ht _ q3⟩ ⟨fun a U g mk q => ⟨q.1, q.2.1, q.2.2.1, q.2.2.2.1.call, q.2.2.2.2.call⟩, by rw [← hqc]; exact va_recv hG.1 hP hcl he, fun U hU hW => ⟨rfl, by rw [hU], by rw [hU]; exact hP, hG.warm hW, by rw [hU]; exact hX.warm hW⟩⟩ rfl hn hs rfl (lv_room hw) hdg hc) hS hA kx kk
end FXC
theorem va_P_kept {D : va_G} {cl : List vw_C} {ws : va_W} {H H1 : Heap} (hP : va_P D cl ws H) (hk : ∀ q : Nat, q < H.size → H1[q]? = H[q]?) : va_P D cl ws H1 := hP.kept fun k q hq => hk q.1 (hP k q hq).lt
/-! contracts of methods with handlers: they return, cells come -/
abbrev WSH (y : MethodName) (c : ByteArray) (n : Nat) (r : Option FieldType) (hh : List (Nat × Nat × Nat × Nat)) : List Cond := .codeWith y c n r hh :: TG
def Gx (l : Launch) (E : EE) (y : MethodName) (cc : ByteArray) (n : Nat) (r : Option FieldType) (hh : List (Nat × Nat × Nat × Nat)) (rm : Room) (mc ms : Nat) (av : List Value) (w w' : va_W) (v : Option Value) : Prop :=
  ∀ sz : Nat, vx_Met l y (WSH y cc n r hh) rm (va_Pc av (fun U => U.heap.size = sz ∧ va_P E.1 vwCl w U.heap ∧ va_D (fun _ => True) w ∧ GG E U ∧ TX l (fun _ => False) U U.heap)) (WrQ E w w' sz v) (fun _ _ _ => False) mc ms (va_A w sz)
theorem Gx.intro {l : Launch} {E : EE} {y : MethodName} {cc : ByteArray} {n : Nat} {r : Option FieldType} {hh : List (Nat × Nat × Nat × Nat)} {rm : Room} {mc ms : Nat} {av : List Value} {w w' : va_W} {v : Option Value} (own : String) (hy : plainName y.cls = true) (ho : y.cls = own) (hlen : (lg_sl av).length ≤ n)
    (body : ∀ (p : Program) (e : Env) (s : State) (m : MethodId) (below : List Frame) (meth : Method) (c : Code) (ls : Array Slot) (A : Nat → Prop), CallFix p m c cc n s av.toArray TG own → meth.sig.returnType = r → meth.locks = false → c.exceptionTable.toList = tableOf hh → va_P E.1 vwCl w s.heap → va_D A w → va_S A s.heap s.heap [] → (∀ q : Nat, s.heap.size ≤ q → A q) → GG E s → TX l (fun _ => False) s s.heap → lv_has ls n (lv_args 0 av) →
      W p l e rm s m av.toArray below meth c s.heap [] 0 0 (vx_MQ below (fun _ st oc t => oc = .returned v ∧ va_P E.1 vwCl w' t.heap ∧ va_F A st t) (fun _ _ _ => False) av.toArray s mc ms A) (F0 m 0 ls [])) : Gx l E y cc n r hh rm mc ms av w w' v := by
  intro sz
  refine vx_ofWH (cc := cc) (maxL := n) (ret := r) (hh := hh) hy rfl ?_
  intro p e s m args below meth c s₁ B hml hv
  obtain ⟨rfl, rfl, hP, hD, hG, hX⟩ := hv
  have hts := atoms_spec (ws := WSH y cc n r hh) B.pre
  have hown : s.vm.findClass own = some m.cls := by rw [← ho]; exact findClass_of_methodNamed B.named
  have htab : c.exceptionTable.toList = tableOf hh := vx_table (x := y) B (hts _ List.mem_cons_self)
  rw [lg_entry_eq]
  exact body p e s m below meth c _ (va_A w s.heap.size) ⟨B.exec, B.bytes, hml, hown, fun w hw => hts w (List.mem_cons_of_mem _ hw)⟩ B.returns B.notSynchronized htab hP hD.self va_S.rf (fun q h => Or.inr h) hG hX (lv_entry av hlen)
theorem dX9_toss_0 : decode cX9_toss 0 = .ok (.aload_n 0, 1) := by decide +kernel
theorem dX9_toss_1 : decode cX9_toss 1 = .ok (.iload_n 1, 1) := by decide +kernel
theorem dX9_toss_2 : decode cX9_toss 2 = .ok (.iconst 1, 1) := by decide +kernel
theorem dX9_toss_3 : decode cX9_toss 3 = .ok (.invokevirtual 40, 3) := by decide +kernel
theorem dX9_toss_6 : decode cX9_toss 6 = .ok (.istore_n 2, 1) := by decide +kernel
theorem dX9_toss_7 : decode cX9_toss 7 = .ok (.iload_n 2, 1) := by decide +kernel
theorem dX9_toss_8 : decode cX9_toss 8 = .ok (.ifCond .eq 5, 3) := by decide +kernel
theorem dX9_toss_11 : decode cX9_toss 11 = .ok (.iload_n 2, 1) := by decide +kernel
theorem dX9_toss_12 : decode cX9_toss 12 = .ok (.ireturn, 1) := by decide +kernel
theorem dX9_toss_13 : decode cX9_toss 13 = .ok (.aload_n 0, 1) := by decide +kernel
theorem dX9_toss_14 : decode cX9_toss 14 = .ok (.getfield 35, 3) := by decide +kernel
theorem dX9_toss_17 : decode cX9_toss 17 = .ok (.iload_n 1, 1) := by decide +kernel
theorem dX9_toss_18 : decode cX9_toss 18 = .ok (.aaload, 1) := by decide +kernel
theorem dX9_toss_19 : decode cX9_toss 19 = .ok (.getfield 107, 3) := by decide +kernel
theorem dX9_toss_22 : decode cX9_toss 22 = .ok (.istore_n 3, 1) := by decide +kernel
theorem dX9_toss_23 : decode cX9_toss 23 = .ok (.aload_n 0, 1) := by decide +kernel
theorem dX9_toss_24 : decode cX9_toss 24 = .ok (.getfield 35, 3) := by decide +kernel
theorem dX9_toss_27 : decode cX9_toss 27 = .ok (.iload_n 1, 1) := by decide +kernel
theorem dX9_toss_28 : decode cX9_toss 28 = .ok (.aaload, 1) := by decide +kernel
theorem dX9_toss_29 : decode cX9_toss 29 = .ok (.getfield 109, 3) := by decide +kernel
theorem dX9_toss_32 : decode cX9_toss 32 = .ok (.istore 4, 2) := by decide +kernel
theorem dX9_toss_34 : decode cX9_toss 34 = .ok (.iload_n 3, 1) := by decide +kernel
theorem dX9_toss_35 : decode cX9_toss 35 = .ok (.iload 4, 2) := by decide +kernel
theorem dX9_toss_37 : decode cX9_toss 37 = .ok (.invokestatic 332, 3) := by decide +kernel
theorem dX9_toss_40 : decode cX9_toss 40 = .ok (.goto 29, 3) := by decide +kernel
theorem dX9_toss_43 : decode cX9_toss 43 = .ok (.astore 5, 2) := by decide +kernel
theorem dX9_toss_45 : decode cX9_toss 45 = .ok (.sipush 200, 3) := by decide +kernel
theorem dX9_toss_48 : decode cX9_toss 48 = .ok (.iload_n 3, 1) := by decide +kernel
theorem dX9_toss_49 : decode cX9_toss 49 = .ok (.iload 4, 2) := by decide +kernel
theorem dX9_toss_51 : decode cX9_toss 51 = .ok (.invokestatic 329, 3) := by decide +kernel
theorem dX9_toss_54 : decode cX9_toss 54 = .ok (.iadd, 1) := by decide +kernel
theorem dX9_toss_55 : decode cX9_toss 55 = .ok (.ireturn, 1) := by decide +kernel
theorem dX9_toss_56 : decode cX9_toss 56 = .ok (.astore 5, 2) := by decide +kernel
theorem dX9_toss_58 : decode cX9_toss 58 = .ok (.bipush 100, 2) := by decide +kernel
theorem dX9_toss_60 : decode cX9_toss 60 = .ok (.iload 4, 2) := by decide +kernel
theorem dX9_toss_62 : decode cX9_toss 62 = .ok (.iadd, 1) := by decide +kernel
theorem dX9_toss_63 : decode cX9_toss 63 = .ok (.ireturn, 1) := by decide +kernel
theorem dX9_toss_64 : decode cX9_toss 64 = .ok (.astore 5, 2) := by decide +kernel
theorem dX9_toss_66 : decode cX9_toss 66 = .ok (.iload 4, 2) := by decide +kernel
theorem dX9_toss_68 : decode cX9_toss 68 = .ok (.ireturn, 1) := by decide +kernel
theorem dX9_toss_69 : decode cX9_toss 69 = .ok (.bipush (-15), 2) := by decide +kernel
theorem dX9_toss_71 : decode cX9_toss 71 = .ok (.ireturn, 1) := by decide +kernel
theorem xw_fl : Cond.methodLink RX9 332 yX3_fail ∈ TG := tg (by decide +kernel) rfl
theorem q_X3_fail : CalS yX3_fail cX3_fail 2 none 2 := ⟨tg (by decide +kernel) rfl, tg (by decide +kernel) rfl, q_X3_priceOf.2.2.1, by decide +kernel, by decide +kernel, by decide +kernel⟩
theorem failE_c (k f : Int32) : failE k f = none ∨ failE k f = some xISE ∨ failE k f = some xUOE ∨ failE k f = some xIAE := by
  by_cases h0 : f = 0
  · exact Or.inl (failE0 h0)
  · by_cases h2 : k = 2
    · exact Or.inl (failE2 h2)
    · by_cases h5 : k = 5
      · exact Or.inl (failE5 h5)
      · by_cases h6 : k = 6
        · exact Or.inr (Or.inl (failE6 h0 h2 h5 h6))
        · by_cases h1 : k = 1
          · exact Or.inr (Or.inr (Or.inl (failE1 h0 h2 h5 h6 h1)))
          · exact Or.inr (Or.inr (Or.inr (failE3 h0 h2 h5 h6 h1)))
def tossV (k f : Int32) : Option Int32 := if failE k f = none then some (-15 : Int32) else if failE k f = some xISE then ob (f_X3_priceOf k f) (fun r => some ((200 : Int32) + r)) else if failE k f = some xUOE then some ((100 : Int32) + f) else some f
def f_X9_toss (q_holds : Int32) (q_kind : Int32) (q_figure : Int32) (p1 : Int32) : Option (Int32) := ob (f_X9_refusalOf q_holds p1 (1 : Int32)) (fun r1 => if r1 = 0 then gd (ix p1 8) (tossV q_kind q_figure) else some r1)
abbrev hhToss : List (Nat × Nat × Nat × Nat) := [(34, 40, 43, 309), (34, 40, 56, 335), (34, 40, 64, 302)]
set_option maxHeartbeats 4000000 in
set_option maxRecDepth 100000 in
theorem c_X9_toss (l : Launch) (E : EE) (b_h : Nat) (now_h : Nat) (mind_h : Nat) (kept_h : Nat) (rails_h : Nat) (sa_h : Nat) (q_h : Nat) (q_a0 : Nat) (b_img : Int32) (sh : Nat → Option Nat) (q_elements : Nat → Int32) (q_holds : Int32) (q_kind : Int32) (q_figure : Int32) (q_sort : Int32) (q_size : Int32) (p1 : Int32) (res : Int32) (hsh_p1 : ix p1 8 = true → sh p1.toNatClampNeg = some q_h) (hv : f_X9_toss q_holds q_kind q_figure p1 = some res) : Gx l E yX9_toss cX9_toss 6 (some .int) hhToss ({ frames := 7, cells := 1, slots := 6, locals := 103 }) 1 6 [.ref b_h, .int p1] [oBp b_h now_h mind_h kept_h b_img rails_h sa_h, aS E sa_h sh, oSh q_h q_a0 q_holds q_kind q_figure q_sort q_size, ai E q_a0 100 q_elements] [oBp b_h now_h mind_h kept_h b_img rails_h sa_h, aS E sa_h sh, oSh q_h q_a0 q_holds q_kind q_figure q_sort q_size, ai E q_a0 100 q_elements] (some (.int res)) := by
  refine Gx.intro RX9 (by decide) rfl (Nat.le_of_ble_eq_true rfl) ?_
  intro p e s m below meth c ls A hC hr hlk htab hP hD hS hA hG hX hl
  obtain ⟨hx, hb, hml, hown, ht⟩ := id hC
  have hK := hG.1
  have hl : lv_has ls 6 [(0, .ref b_h), (1, .int p1)] := hl
  have hret : ∀ (z : Int32) (H1 : Heap) (locs1 : List Loc) (k n : Nat) (pc : Nat) (ls1 : Array Slot), k ≤ 1 → n ≤ 6 → z = res → va_P E.1 vwCl [oBp b_h now_h mind_h kept_h b_img rails_h sa_h, aS E sa_h sh, oSh q_h q_a0 q_holds q_kind q_figure q_sort q_size, ai E q_a0 100 q_elements] H1 → va_S A s.heap H1 locs1 → decode cX9_toss pc = .ok (.ireturn, 1) → W p l e ({ frames := 7, cells := 1, slots := 6, locals := 103 }) s m ([.ref b_h, .int p1] : List Value).toArray below meth c H1 locs1 k n (vx_MQ below (fun _ st oc t => oc = .returned (some (.int res)) ∧ va_P E.1 vwCl [oBp b_h now_h mind_h kept_h b_img rails_h sa_h, aS E sa_h sh, oSh q_h q_a0 q_holds q_kind q_figure q_sort q_size, ai E q_a0 100 q_elements] t.heap ∧ va_F A st t) (fun _ _ _ => False) ([.ref b_h, .int p1] : List Value).toArray s 1 6 A) (F0 m pc ls1 [.int z]) := by
    intro z H1 locs1 k n pc ls1 h1 h2 hz hP1 hS1 hd
    subst hz
    exact vx_ret (w_widen h1 h2 (W.iret (Qc := fun _ st oc t => oc = .returned (some (.int z)) ∧ va_P E.1 vwCl [oBp b_h now_h mind_h kept_h b_img rails_h sa_h, aS E sa_h sh, oSh q_h q_a0 q_holds q_kind q_figure q_sort q_size, ai E q_a0 100 q_elements] t.heap ∧ va_F A st t) (v := z) hx hb hr (fun t h9 _ => ⟨rfl, by rw [h9]; exact hP1, hS1.F h9⟩) hS1.2.2 hd hlk))
  rw [f_X9_toss] at hv
  refine lv_aload_n hx hb dX9_toss_0 rfl (lv_at hl 0 rfl) ?_
  refine lv_iload_n hx hb dX9_toss_1 rfl (lv_at hl 1 rfl) ?_
  refine lv_iconst (v := (1 : Int32)) hx hb dX9_toss_2 (by decide) ?_
  obtain ⟨r1, h2, hv⟩ := ob_s hv
  refine rdV 3 0 (As := [.int p1, .int (1 : Int32)]) (rest := []) (st1 := [.int r1]) (w := [oBp b_h now_h mind_h kept_h b_img rails_h sa_h, aS E sa_h sh, oSh q_h q_a0 q_holds q_kind q_figure q_sort q_size, ai E q_a0 100 q_elements]) hC q_X9_refusalOf kw_1_161 (c_X9_refusalOf l E b_h now_h mind_h kept_h rails_h sa_h q_h q_a0 b_img sh q_elements q_holds q_kind q_figure q_sort q_size p1 (1 : Int32) r1 hsh_p1 h2) ⟨rfl, rfl⟩ ⟨Nat.le_of_ble_eq_true rfl, Nat.le_of_ble_eq_true rfl⟩ ⟨Nat.zero_le _, Nat.zero_le _⟩ hP rfl rfl rfl hG rfl hl.1 rfl (Nat.le_of_ble_eq_true rfl) dX9_toss_3 rfl ?_
  refine lv_istore_n (lv' := [(2, .int r1), (0, .ref b_h), (1, .int p1)]) hx hb dX9_toss_6 rfl hl (by decide) rfl (fun ls hl => ?_)
  refine lv_iload_n hx hb dX9_toss_7 rfl (lv_at hl 0 rfl) ?_
  refine lv_if_eq (tgt := 13) hx hb dX9_toss_8 (by decide) (fun c3 => ?_) (fun c3 => ?_)
  · have hv := if_y c3 hv
    obtain ⟨g4, hv⟩ := gd_s hv
    refine lv_aload_n hx hb dX9_toss_13 rfl (lv_at hl 1 rfl) ?_
    refine va_get (D := E.1) (ci := 3) (v := .ref sa_h) (C := RX9) (T := TX9) (N := 6) hx hb ht i_X9 hown hK hP 0 rfl rfl 5 (by decide) (ht _ kw_1_143) (fun _ h9 => h9) rfl dX9_toss_14 ?_
    refine lv_iload_n hx hb dX9_toss_17 rfl (lv_at hl 2 rfl) ?_
    refine va_aldq (C := "BalconiesParliament$Shelf") hx hb hK hP 1 1 rfl rfl (ix_s g4) dX9_toss_18 ?_
    refine W.eq (g2 := F0 m 19 ls [.ref q_h]) (by rw [hsh_p1 g4]; rfl) ?_
    refine va_get (D := E.1) (ci := 1) (v := .int q_kind) (C := RX7) (T := TX7) (N := 6) hx hb ht i_X7 hown hK hP 2 rfl rfl 2 (by decide) (ht _ kw_1_116) (fun _ h9 => h9) rfl dX9_toss_19 ?_
    refine lv_istore_n (lv' := [(3, .int q_kind), (2, .int r1), (0, .ref b_h), (1, .int p1)]) hx hb dX9_toss_22 rfl hl (by decide) rfl (fun ls hl => ?_)
    refine lv_aload_n hx hb dX9_toss_23 rfl (lv_at hl 2 rfl) ?_
    refine va_get (D := E.1) (ci := 3) (v := .ref sa_h) (C := RX9) (T := TX9) (N := 6) hx hb ht i_X9 hown hK hP 0 rfl rfl 5 (by decide) (ht _ kw_1_143) (fun _ h9 => h9) rfl dX9_toss_24 ?_
    refine lv_iload_n hx hb dX9_toss_27 rfl (lv_at hl 3 rfl) ?_
    refine va_aldq (C := "BalconiesParliament$Shelf") hx hb hK hP 1 1 rfl rfl (ix_s g4) dX9_toss_28 ?_
    refine W.eq (g2 := F0 m 29 ls [.ref q_h]) (by rw [hsh_p1 g4]; rfl) ?_
    refine va_get (D := E.1) (ci := 1) (v := .int q_figure) (C := RX7) (T := TX7) (N := 6) hx hb ht i_X7 hown hK hP 2 rfl rfl 3 (by decide) (ht _ kw_1_118) (fun _ h9 => h9) rfl dX9_toss_29 ?_
    refine lv_istore (lv' := [(4, .int q_figure), (3, .int q_kind), (2, .int r1), (0, .ref b_h), (1, .int p1)]) hx hb dX9_toss_32 hl (by decide) rfl (fun ls hl => ?_)
    refine lv_iload_n hx hb dX9_toss_34 rfl (lv_at hl 1 rfl) ?_
    refine lv_iload hx hb dX9_toss_35 (lv_at hl 0 rfl) ?_
    refine fxS (rest := []) hC q_X3_fail xw_fl (c_X3_fail l E q_kind q_figure) ⟨rfl, rfl⟩ ⟨Nat.le_of_ble_eq_true rfl, Nat.le_of_ble_eq_true rfl⟩ ⟨Nat.le_refl _, Nat.le_refl _⟩ (hP.sub (ws' := []) [] rfl) hG hX rfl hl.1 rfl (Nat.le_of_ble_eq_true rfl) dX9_toss_37 hS hA (fun E9 ce q9 H1 locs1 hF hk hz hS1 hce hcv hcl => ?_) (fun locs1 hF hS1 => ?_)
    · have hP1 := va_P_kept hP hk
      rcases failE_c q_kind q_figure with h | h | h | h
      · rw [h] at hF; cases hF
      · rw [h] at hF; cases hF
        unfold tossV at hv
        rw [if_neg (by rw [h]; exact Option.some_ne_none _), if_pos h] at hv
        refine vx_catch (own := RX9) (name := xISE) (E := xISE) (ce := ce) hown [] ⟨34, 40, 43, 309⟩ [⟨34, 40, 56, 335⟩, ⟨34, 40, 64, 302⟩] htab (fun _ hz => nomatch hz) (by decide) (by decide) (ht _ (tg xw_k309 rfl)) (va_Nw.use rfl (hX.2.2.1 xISE (by decide))) hce hcv hcl ?_
        refine lv_astore (lv' := [(5, .ref q9), (4, .int q_figure), (3, .int q_kind), (2, .int r1), (0, .ref b_h), (1, .int p1)]) hx hb dX9_toss_43 hl (by decide) rfl (fun ls hl => ?_)
        refine lv_sipush (v := (200 : Int32)) hx hb dX9_toss_45 (by decide) ?_
        refine lv_iload_n hx hb dX9_toss_48 rfl (lv_at hl 2 rfl) ?_
        refine lv_iload hx hb dX9_toss_49 (lv_at hl 1 rfl) ?_
        obtain ⟨r6, h7, hv⟩ := ob_s hv
        refine rdS (rest := [.int (200 : Int32)]) (st1 := [.int r6, .int (200 : Int32)]) (w := []) hC q_X3_priceOf kw_3_238 (c_X3_priceOf l E q_kind q_figure r6 h7) ⟨rfl, rfl⟩ ⟨Nat.le_of_ble_eq_true rfl, Nat.le_of_ble_eq_true rfl⟩ ⟨Nat.le_refl _, Nat.le_refl _⟩ (hP1.sub (ws' := []) [] rfl) hG rfl hl.1 rfl (Nat.le_of_ble_eq_true rfl) dX9_toss_51 rfl ?_
        refine lv_iadd hx hb dX9_toss_54 ?_
        exact hret _ _ _ _ _ 55 _ (Nat.le_refl _) (Nat.le_refl _) (Option.some.inj hv) hP1 hS1 dX9_toss_55
      · rw [h] at hF; cases hF
        unfold tossV at hv
        rw [if_neg (by rw [h]; exact Option.some_ne_none _), if_neg (by rw [h]; decide), if_pos h] at hv
        refine vx_catch (own := RX9) (name := xUOE) (E := xUOE) (ce := ce) hown [⟨34, 40, 43, 309⟩] ⟨34, 40, 56, 335⟩ [⟨34, 40, 64, 302⟩] htab (fun z hz => Or.inr ?_) (by decide) (by decide) (ht _ (tg xw_k335 rfl)) (va_Nw.use rfl (hX.2.2.1 xUOE (by decide))) hce hcv hcl ?_
        · cases List.mem_singleton.mp hz
          exact ⟨by decide, xISE, ht _ (tg xw_k309 rfl), hX.2.2.2.2.1 (xUOE, xISE) (by decide)⟩
        refine lv_astore (lv' := [(5, .ref q9), (4, .int q_figure), (3, .int q_kind), (2, .int r1), (0, .ref b_h), (1, .int p1)]) hx hb dX9_toss_56 hl (by decide) rfl (fun ls hl => ?_)
        refine lv_bipush (v := (100 : Int32)) hx hb dX9_toss_58 (by decide) ?_
        refine lv_iload hx hb dX9_toss_60 (lv_at hl 1 rfl) ?_
        refine lv_iadd hx hb dX9_toss_62 ?_
        exact hret _ _ _ _ _ 63 _ (Nat.le_refl _) (Nat.le_refl _) (Option.some.inj hv) hP1 hS1 dX9_toss_63
      · rw [h] at hF; cases hF
        unfold tossV at hv
        rw [if_neg (by rw [h]; exact Option.some_ne_none _), if_neg (by rw [h]; decide), if_neg (by rw [h]; decide)] at hv
        refine vx_catch (own := RX9) (name := xIAE) (E := xIAE) (ce := ce) hown [⟨34, 40, 43, 309⟩, ⟨34, 40, 56, 335⟩] ⟨34, 40, 64, 302⟩ [] htab (fun z hz => Or.inr ?_) (by decide) (by decide) (ht _ (tg xw_k302 rfl)) (va_Nw.use rfl (hX.2.2.1 xIAE (by decide))) hce hcv hcl ?_
        · rcases List.mem_cons.mp hz with rfl | hz
          · exact ⟨by decide, xISE, ht _ (tg xw_k309 rfl), hX.2.2.2.2.1 (xIAE, xISE) (by decide)⟩
          · cases List.mem_singleton.mp hz
            exact ⟨by decide, xUOE, ht _ (tg xw_k335 rfl), hX.2.2.2.2.1 (xIAE, xUOE) (by decide)⟩
        refine lv_astore (lv' := [(5, .ref q9), (4, .int q_figure), (3, .int q_kind), (2, .int r1), (0, .ref b_h), (1, .int p1)]) hx hb dX9_toss_64 hl (by decide) rfl (fun ls hl => ?_)
        refine lv_iload hx hb dX9_toss_66 (lv_at hl 1 rfl) ?_
        exact hret _ _ _ _ _ 68 _ (Nat.le_refl _) (Nat.le_refl _) (Option.some.inj hv) hP1 hS1 dX9_toss_68
    · unfold tossV at hv
      rw [if_pos hF] at hv
      refine lv_goto (tgt := 69) hx hb dX9_toss_40 (by decide) ?_
      refine lv_bipush (v := (-15 : Int32)) hx hb dX9_toss_69 (by decide) ?_
      exact hret _ _ _ _ _ 71 _ (Nat.le_refl _) (Nat.le_refl _) (Option.some.inj hv) hP hS1 dX9_toss_71
  · have hv := if_n c3 hv
    refine lv_iload_n hx hb dX9_toss_11 rfl (lv_at hl 0 rfl) ?_
    exact hret _ _ _ _ _ 12 _ (Nat.zero_le _) (Nat.zero_le _) (Option.some.inj hv) hP hS dX9_toss_12
