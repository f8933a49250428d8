/-- what a throw needs beside the good words -/
def TX (l : Launch) (A : Nat → Prop) (U : State) (H : Heap) : Prop :=
  l.stackTraces = false ∧ (∀ c ∈ dcL, va_Nw (.declares (Bundle.initS c)) U) ∧ (∀ c ∈ csL, va_Nw (.castable c c) U) ∧ (∀ q ∈ stL, ∃ a, vk_R q.1 q.2.1 q.2.2 a U) ∧ (∀ q ∈ ncL, va_Nc q.1 q.2 U) ∧
  vx_Zq Bundle.tN "UNASSIGNED_STACK" Bundle.steD A U H ∧ vx_Zq Bundle.tN "SUPPRESSED_SENTINEL" Bundle.listD A U H
theorem TX.warm {l : Launch} {A : Nat → Prop} {s U : State} {H : Heap} (hW : s.WarmedH U.vm) (h : TX l A s H) : TX l A U H :=
  ⟨h.1, fun c hc => (h.2.1 c hc).warmD hW, fun c hc => (h.2.2.1 c hc).warmC hW, fun q hq => (h.2.2.2.1 q hq).elim fun a ha => ⟨a, ha.warm hW⟩, fun q hq => (h.2.2.2.2.1 q hq).moved hW.alike, h.2.2.2.2.2.1.moved hW.alike, h.2.2.2.2.2.2.moved hW.alike⟩
theorem TX.call {l : Launch} {A : Nat → Prop} {U : State} {H : Heap} {g : JFrame} {mk : MethodId} {a : Array Value} (h : TX l A U H) : TX l A (U.calling g mk a) H :=
  ⟨h.1, fun c hc => va_Nw.same rfl rfl (h.2.1 c hc), fun c hc => va_Nw.same rfl rfl (h.2.2.1 c hc), fun q hq => (h.2.2.2.1 q hq).elim fun b hb => ⟨b, vk_R.same rfl hb⟩, fun q hq => va_Nc.moved (u := U) (U := U.calling g mk a) (Vm.Alike.refl U.vm) (h.2.2.2.2.1 q hq), vx_Zq.moved (u := U) (U := U.calling g mk a) (Vm.Alike.refl U.vm) h.2.2.2.2.2.1, vx_Zq.moved (u := U) (U := U.calling g mk a) (Vm.Alike.refl U.vm) h.2.2.2.2.2.2⟩
theorem TX.kept {l : Launch} {A : Nat → Prop} {U : State} {H H1 : Heap} (h : TX l A U H) (hq : ∀ a : Nat, a < H.size → ¬ A a → H1[a]? = H[a]?) : TX l A U H1 := ⟨h.1, h.2.1, h.2.2.1, h.2.2.2.1, h.2.2.2.2.1, h.2.2.2.2.2.1.kept hq, h.2.2.2.2.2.2.kept hq⟩
theorem TX.narrow {l : Launch} {A B : Nat → Prop} {U : State} {H : Heap} (h : TX l A U H) (hAB : ∀ q, B q → A q) : TX l B U H := ⟨h.1, h.2.1, h.2.2.1, h.2.2.2.1, h.2.2.2.2.1, h.2.2.2.2.2.1.narrow hAB, h.2.2.2.2.2.2.narrow hAB⟩
theorem TX.bd {l : Launch} {A : Nat → Prop} {s : State} {H : Heap} (h : TX l A s H) (args : Array Value) : ∀ w ∈ bdL, w.before args s = true := by
  intro w hw
  rcases List.mem_append.mp hw with hw | hw
  · obtain ⟨c, hc, rfl⟩ := List.mem_map.mp hw
    exact va_Nw.use rfl (h.2.1 c hc)
  · obtain ⟨c, hc, rfl⟩ := List.mem_map.mp hw
    exact va_Nw.use rfl (h.2.2.1 c hc)
/-! contracts: returns with the heap as it was, or throws F -/
def FxQ (F : Option String) (v : Option Value) : Array Value → State → Outcome → State → Prop := fun _ st oc t => oc = .returned v ∧ F = none ∧ t.heap = st.heap
def FxX (F : Option String) : String → State → State → Prop := fun E st t => F = some E ∧ va_F (fun q => st.heap.size ≤ q) st t
def Fx (l : Launch) (E : EE) (y : MethodName) (cc : ByteArray) (n : Nat) (r : Option FieldType) (rm : Room) (mc ms : Nat) (av : List Value) (w : va_W) (F : Option String) (v : Option Value) : Prop :=
  ∀ sz : Nat, vx_Met l y (WS y cc n r) rm (va_Pc av (fun U => U.heap.size = sz ∧ va_P E.1 vwCl w U.heap ∧ GG E U ∧ TX l (fun _ => False) U U.heap)) (FxQ F v) (FxX F) mc ms (fun q => sz ≤ q)
theorem Fx.intro {l : Launch} {E : EE} {y : MethodName} {cc : ByteArray} {n : Nat} {r : Option FieldType} {rm : Room} {mc ms : Nat} {av : List Value} {w : va_W} {F : Option String} {v : Option Value} (own : String) (hy : plainName y.cls = true) (ho : y.cls = own) (hlen : (lg_sl av).length ≤ n)
    (body : ∀ (p : Program) (e : Env) (s : State) (m : MethodId) (below : List Frame) (meth : Method) (c : Code) (ls : Array Slot), CallFix p m c cc n s av.toArray TG own → meth.sig.returnType = r → meth.locks = false → (∀ x ∈ c.exceptionTable.toList, False) → va_P E.1 vwCl w s.heap → GG E s → TX l (fun _ => False) s s.heap → lv_has ls n (lv_args 0 av) →
      W p l e rm s m av.toArray below meth c s.heap [] 0 0 (vx_MQ below (FxQ F v) (FxX F) av.toArray s mc ms (fun q => s.heap.size ≤ q)) (F0 m 0 ls [])) : Fx l E y cc n r rm mc ms av w F v := by
  intro sz
  refine vx_ofW (cc := cc) (maxL := n) (ret := r) hy rfl ?_
  intro p e s m args below meth c s₁ B hml htab hv
  obtain ⟨rfl, rfl, hP, hG, hX⟩ := hv
  have hts := atoms_spec (ws := WS y cc n r) B.pre
  have hown : s.vm.findClass own = some m.cls := by rw [← ho]; exact findClass_of_methodNamed B.named
  rw [lg_entry_eq]
  exact body p e s m below meth c _ ⟨B.exec, B.bytes, hml, hown, fun w hw => hts w (List.mem_cons_of_mem _ hw)⟩ B.returns B.notSynchronized htab hP hG hX (lv_entry av hlen)
theorem w_widen {p : Program} {l : Launch} {e : Env} {R : Room} {s : State} {m : MethodId} {args : Array Value} {below : List Frame} {meth : Method} {c : Code} {H : Heap} {locs : List Loc} {cells slots : Nat} {Q : State → Prop} {g : JFrame} {k n : Nat} (h1 : cells ≤ k) (h2 : slots ≤ n) (kk : W p l e R s m args below meth c H locs k n Q g) : W p l e R s m args below meth c H locs cells slots Q g := fun T hT X => kk T hT (stand_widen X h1 h2)
section FXT
variable {p : Program} {l : Launch} {e : Env} {R : Room} {s : State} {m : MethodId} {args : Array Value} {below : List Frame} {meth : Method} {c : Code} {locs : List Loc} {cells slots : Nat}
theorem fx_throw {cc : ByteArray} {nL pc ik is ic : Nat} {own cls text : String} {ls : Array Slot} {v : Option Value} (hC : CallFix p m c cc nL s args TG own) (hX : TX l (fun _ => False) s s.heap) (hlk : meth.locks = false) (htab : ∀ x ∈ c.exceptionTable.toList, False)
    (hR : R.frames = 6 ∧ R.cells = 1 ∧ R.slots = 6 ∧ R.locals = 82) (hcls : Bundle.fit cls = true) (hk : Cond.classLink own ik cls ∈ lw_tbl) (hi : Cond.initialized cls ∈ lw_tbl) (hg : ∀ w ∈ (vx_atS own ic cls nxL).filter goodWord, w ∈ lw_tbl) (hb : ∀ w ∈ (vx_atS own ic cls nxL).filter (fun w => !goodWord w), w ∈ bdL) (ho : (Cond.classLink own ik cls :: Cond.initialized cls :: vx_atS own ic cls nxL).all vx_ot = true)
    (hst : (own, is, text) ∈ stL) (hs : ls.size = nL)
    (d0 : decode cc pc = .ok (.new ik, 3)) (d3 : decode cc (pc + 3) = .ok (.dup, 1)) (d4 : decode cc (pc + 4) = .ok (.ldc is, 2)) (d6 : decode cc (pc + 6) = .ok (.invokespecial ic, 3)) (d9 : decode cc (pc + 9) = .ok (.athrow, 1)) :
    W p l e R s m args below meth c s.heap [] 0 0 (vx_MQ below (FxQ (some cls) v) (FxX (some cls)) args s 1 6 (fun q => s.heap.size ≤ q)) (F0 m pc ls []) := by
  obtain ⟨hx, hbb, hml, hown, ht⟩ := hC
  obtain ⟨sa, hstr⟩ := hX.2.2.2.1 _ hst
  have gk : ∀ w, goodWord w = true → w ∈ lw_tbl → w.before args s = true := fun w g h => ht w (tg h g)
  refine vx_throwS (sa := sa) (names := nxL) (A := fun _ => False) hx hbb hX.1 hown hcls (by decide) (gk _ rfl hk) (gk _ rfl hi) hstr (vx_hat (fun w hw => gk w (List.mem_filter.mp hw).2 (hg w hw)) hb (hX.bd args)) (fun w hw => List.all_eq_true.mp ho w hw) hX.2.2.2.2.2.1 hX.2.2.2.2.2.2 va_S.rf (hs.trans hml.symm) d0 d3 d4 d6 d9 (fun x hx => (htab x hx).elim)
    (by rw [hR.1]; decide) (by rw [hR.2.2.2]; decide) (by rw [hR.2.1]; decide) (by rw [hR.2.2.1]; decide) hlk (fun t _ h1 h2 => ⟨rfl, h1, fun q hq _ => h2 q hq⟩) (fun _ h => nomatch h) (Nat.le_refl _) (Nat.le_refl _)
end FXT
theorem dX3_fail_0 : decode cX3_fail 0 = .ok (.iload_n 1, 1) := by decide +kernel
theorem dX3_fail_1 : decode cX3_fail 1 = .ok (.ifCond .eq 13, 3) := by decide +kernel
theorem dX3_fail_4 : decode cX3_fail 4 = .ok (.iload_n 0, 1) := by decide +kernel
theorem dX3_fail_5 : decode cX3_fail 5 = .ok (.iconst 2, 1) := by decide +kernel
theorem dX3_fail_6 : decode cX3_fail 6 = .ok (.if_icmp .eq 8, 3) := by decide +kernel
theorem dX3_fail_9 : decode cX3_fail 9 = .ok (.iload_n 0, 1) := by decide +kernel
theorem dX3_fail_10 : decode cX3_fail 10 = .ok (.iconst 5, 1) := by decide +kernel
theorem dX3_fail_11 : decode cX3_fail 11 = .ok (.if_icmp .ne 4, 3) := by decide +kernel
theorem dX3_fail_14 : decode cX3_fail 14 = .ok (.return_, 1) := by decide +kernel
theorem dX3_fail_15 : decode cX3_fail 15 = .ok (.iload_n 0, 1) := by decide +kernel
theorem dX3_fail_16 : decode cX3_fail 16 = .ok (.bipush 6, 2) := by decide +kernel
theorem dX3_fail_18 : decode cX3_fail 18 = .ok (.if_icmp .ne 13, 3) := by decide +kernel
theorem dX3_fail_21 : decode cX3_fail 21 = .ok (.new 13, 3) := by decide +kernel
theorem dX3_fail_24 : decode cX3_fail 24 = .ok (.dup, 1) := by decide +kernel
theorem dX3_fail_25 : decode cX3_fail 25 = .ok (.ldc 15, 2) := by decide +kernel
theorem dX3_fail_27 : decode cX3_fail 27 = .ok (.invokespecial 17, 3) := by decide +kernel
theorem dX3_fail_30 : decode cX3_fail 30 = .ok (.athrow, 1) := by decide +kernel
theorem dX3_fail_31 : decode cX3_fail 31 = .ok (.iload_n 0, 1) := by decide +kernel
theorem dX3_fail_32 : decode cX3_fail 32 = .ok (.iconst 1, 1) := by decide +kernel
theorem dX3_fail_33 : decode cX3_fail 33 = .ok (.if_icmp .ne 13, 3) := by decide +kernel
theorem dX3_fail_36 : decode cX3_fail 36 = .ok (.new 20, 3) := by decide +kernel
theorem dX3_fail_39 : decode cX3_fail 39 = .ok (.dup, 1) := by decide +kernel
theorem dX3_fail_40 : decode cX3_fail 40 = .ok (.ldc 22, 2) := by decide +kernel
theorem dX3_fail_42 : decode cX3_fail 42 = .ok (.invokespecial 24, 3) := by decide +kernel
theorem dX3_fail_45 : decode cX3_fail 45 = .ok (.athrow, 1) := by decide +kernel
theorem dX3_fail_46 : decode cX3_fail 46 = .ok (.new 25, 3) := by decide +kernel
theorem dX3_fail_49 : decode cX3_fail 49 = .ok (.dup, 1) := by decide +kernel
theorem dX3_fail_50 : decode cX3_fail 50 = .ok (.ldc 27, 2) := by decide +kernel
theorem dX3_fail_52 : decode cX3_fail 52 = .ok (.invokespecial 29, 3) := by decide +kernel
theorem dX3_fail_55 : decode cX3_fail 55 = .ok (.athrow, 1) := by decide +kernel
def failE (k f : Int32) : Option String := if f = 0 then none else if k = 2 then none else if k = 5 then (if k = 6 then none else none) else if k = 6 then some xISE else if k = 1 then some xUOE else some xIAE
theorem failE0 {k f : Int32} (h : f = 0) : failE k f = none := if_pos h
theorem failE2 {k f : Int32} (h : k = 2) : failE k f = none := by unfold failE; rw [if_pos h]; exact ite_self _
theorem failE5 {k f : Int32} (h : k = 5) : failE k f = none := by
  unfold failE
  rw [if_pos h, ite_self, ite_self, ite_self]
theorem failE6 {k f : Int32} (h0 : ¬ f = 0) (h2 : ¬ k = 2) (h5 : ¬ k = 5) (h6 : k = 6) : failE k f = some xISE := by unfold failE; rw [if_neg h0, if_neg h2, if_neg h5, if_pos h6]
theorem failE1 {k f : Int32} (h0 : ¬ f = 0) (h2 : ¬ k = 2) (h5 : ¬ k = 5) (h6 : ¬ k = 6) (h1 : k = 1) : failE k f = some xUOE := by unfold failE; rw [if_neg h0, if_neg h2, if_neg h5, if_neg h6, if_pos h1]
theorem failE3 {k f : Int32} (h0 : ¬ f = 0) (h2 : ¬ k = 2) (h5 : ¬ k = 5) (h6 : ¬ k = 6) (h1 : ¬ k = 1) : failE k f = some xIAE := by unfold failE; rw [if_neg h0, if_neg h2, if_neg h5, if_neg h6, if_neg h1]
theorem c_X3_fail (l : Launch) (E : EE) (k f : Int32) : Fx l E yX3_fail cX3_fail 2 none ({ frames := 6, cells := 1, slots := 6, locals := 82 }) 1 6 [.int k, .int f] [] (failE k f) none := by
  refine Fx.intro RX3 (by decide) rfl (Nat.le_of_ble_eq_true rfl) ?_
  intro p e s m below meth c ls hC hr hlk htab hP hG hX hl
  obtain ⟨hx, hb, hml, hown, ht⟩ := id hC
  have hl : lv_has ls 2 [(0, .int k), (1, .int f)] := hl
  have hret : failE k f = none → W p l e ({ frames := 6, cells := 1, slots := 6, locals := 82 }) s m ([.int k, .int f] : List Value).toArray below meth c s.heap [] 0 0 (vx_MQ below (FxQ (failE k f) none) (FxX (failE k f)) ([.int k, .int f] : List Value).toArray s 1 6 (fun q => s.heap.size ≤ q)) (F0 m 14 ls []) := fun hn =>
    vx_ret (w_widen (k := 1) (n := 6) (Nat.zero_le _) (Nat.zero_le _) (W.vret (Qc := FxQ (failE k f) none) hx hb hr (fun t h9 _ => ⟨rfl, hn, h9⟩) (fun q h => absurd h List.not_mem_nil) dX3_fail_14 hlk))
  refine lv_iload_n hx hb dX3_fail_0 rfl (lv_at hl 1 rfl) ?_
  refine lv_if_eq (tgt := 14) hx hb dX3_fail_1 (by decide) (fun h0 => hret (failE0 h0)) (fun h0 => ?_)
  refine lv_iload_n hx hb dX3_fail_4 rfl (lv_at hl 0 rfl) ?_
  refine lv_iconst (v := (2 : Int32)) hx hb dX3_fail_5 (by decide) ?_
  refine lv_icmp_eq (tgt := 14) hx hb dX3_fail_6 (by decide) (fun h2 => hret (failE2 h2)) (fun h2 => ?_)
  refine lv_iload_n hx hb dX3_fail_9 rfl (lv_at hl 0 rfl) ?_
  refine lv_iconst (v := (5 : Int32)) hx hb dX3_fail_10 (by decide) ?_
  refine lv_icmp_ne (tgt := 15) hx hb dX3_fail_11 (by decide) (fun h5 => ?_) (fun h5 => hret (failE5 h5))
  refine lv_iload_n hx hb dX3_fail_15 rfl (lv_at hl 0 rfl) ?_
  refine lv_bipush (v := (6 : Int32)) hx hb dX3_fail_16 (by decide) ?_
  refine lv_icmp_ne (tgt := 31) hx hb dX3_fail_18 (by decide) (fun h6 => ?_) (fun h6 => ?_)
  · refine lv_iload_n hx hb dX3_fail_31 rfl (lv_at hl 0 rfl) ?_
    refine lv_iconst (v := (1 : Int32)) hx hb dX3_fail_32 (by decide) ?_
    refine lv_icmp_ne (tgt := 46) hx hb dX3_fail_33 (by decide) (fun h1 => ?_) (fun h1 => ?_)
    · rw [failE3 h0 h2 h5 h6 h1]
      exact fx_throw (text := "a speaker fails") hC hX hlk htab ⟨rfl, rfl, rfl, rfl⟩ (by decide) xw_k25 xw_iIAE at_g29 at_b29 at_o29 (by decide) hl.1 dX3_fail_46 dX3_fail_49 dX3_fail_50 dX3_fail_52 dX3_fail_55
    · rw [failE1 h0 h2 h5 h6 h1]
      exact fx_throw (text := "a widow fails") hC hX hlk htab ⟨rfl, rfl, rfl, rfl⟩ (by decide) xw_k20 xw_iUOE at_g24 at_b24 at_o24 (by decide) hl.1 dX3_fail_36 dX3_fail_39 dX3_fail_40 dX3_fail_42 dX3_fail_45
  · rw [failE6 h0 h2 h5 h6]
    exact fx_throw (text := "an owner fails") hC hX hlk htab ⟨rfl, rfl, rfl, rfl⟩ (by decide) xw_k13 xw_iISE at_g17 at_b17 at_o17 (by decide) hl.1 dX3_fail_21 dX3_fail_24 dX3_fail_25 dX3_fail_27 dX3_fail_30
