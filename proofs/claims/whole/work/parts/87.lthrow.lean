theorem xw_tossL : Cond.methodLink RL 209 yX9_toss ∈ TG := kw_4_4
theorem xw_elL : Cond.methodLink RL 191 yL_element ∈ TG := kw_4_114
/-- a callee with handlers, its own words -/
def CalVH (y : MethodName) (c : ByteArray) (n : Nat) (r : Option FieldType) (hh : List (Nat × Nat × Nat × Nat)) (k : Nat) : Prop := Cond.codeWith y c n r hh ∈ TG ∧ Cond.instanceMethod y ∈ TG ∧ Cond.selects y.cls y y ∈ TG ∧ Cond.initialized y.cls ∈ TG ∧ (y.cls ≠ "java/lang/invoke/MethodHandle" ∧ y.cls ≠ "java/lang/invoke/VarHandle" ∧ (parseMethodDescriptor y.desc).map (fun d => d.parameters.length) = some k)
def CalSH (y : MethodName) (c : ByteArray) (n : Nat) (r : Option FieldType) (hh : List (Nat × Nat × Nat × Nat)) (k : Nat) : Prop := Cond.codeWith y c n r hh ∈ TG ∧ Cond.static y ∈ TG ∧ Cond.initialized y.cls ∈ TG ∧ (y.cls ≠ "java/lang/invoke/MethodHandle" ∧ y.cls ≠ "java/lang/invoke/VarHandle" ∧ (parseMethodDescriptor y.desc).map (fun d => d.parameters.length) = some k)
theorem xq_toss : CalVH yX9_toss cX9_toss 6 (some .int) hhToss 1 := ⟨tg (by decide +kernel) rfl, tg (by decide +kernel) rfl, tg (by decide +kernel) rfl, kw_1_1, by decide +kernel, by decide +kernel, by decide +kernel⟩
theorem xq_elL : CalSH yL_element cL_element 5 (some .int) hhEl 4 := ⟨tg (by decide +kernel) rfl, tg (by decide +kernel) rfl, tg (by decide +kernel) rfl, by decide +kernel, by decide +kernel, by decide +kernel⟩
theorem wsh_good {y : MethodName} {c : ByteArray} {n : Nat} {r : Option FieldType} {hh : List (Nat × Nat × Nat × Nat)} (h : Cond.codeWith y c n r hh ∈ TG) : GoodIn TG (WSH y c n r hh) := by
  intro w hw
  rcases List.mem_cons.mp hw with rfl | hw
  · exact ⟨h, tg_good h⟩
  · exact ⟨hw, tg_good hw⟩
theorem elA_0 {F : Option String} (hc : F = none ∨ F = some xIAE ∨ F = some xISE) (h : ¬ ¬ elA F = 0) : F = none := by
  rcases hc with rfl | rfl | rfl
  · rfl
  · exact absurd (by decide) h
  · exact absurd (by decide) h
section GXC
variable {p : Program} {l : Launch} {e : Env} {R : Room} {s : State} {m : MethodId} {args : Array Value} {below : List Frame} {meth : Method} {c : Code} {H : Heap} {locs : List Loc} {cells slots : Nat} {Q : State → Prop}
variable {cc bytes : ByteArray} {nL maxL index n pc mc ms : Nat} {own : String} {y : MethodName} {ret : Option FieldType} {hh : List (Nat × Nat × Nat × Nat)} {rm : Room} {E : EE} {w w' : va_W} {v : Option Value} {ls : Array Slot} {As rest st0 st1 : List Value} {b : Nat}
theorem gx_go {a : Array Value} {A : Nat → Prop} {H0 : Heap} {ws ws' : va_W} (hr : vx_Run p l e R s m args below meth c H locs cells slots mc ms (F0 m pc ls st0) rest (WrQ E w w' H.size v a) (fun _ _ _ => False) (va_A w H.size)) (hst : v.toList ++ rest = st1)
    (hP : va_P E.1 vwCl ws H) (hD : va_D A ws) (hS : va_S A H0 H locs) (hA : ∀ q, H0.size ≤ q → A q) (isC isR : List Nat) (hC : isC.map (fun i => ws[i]?) = w.map some) (hC' : isC.map (fun i => ws'[i]?) = w'.map some) (hlen : ws'.map Prod.fst = ws.map Prod.fst) (hR : isR.map (fun i => ws'[i]?) = isR.map (fun i => ws[i]?)) (hcov : (List.range ws'.length).all (fun i => isC.contains i || (isR.contains i && !isC.contains i)) = true)
    (kk : ∀ (H1 : Heap) (locs1 : List Loc), va_P E.1 vwCl ws' H1 → va_D A ws' → va_S A H0 H1 locs1 → W p l e R s m args below meth c H1 locs1 (cells + mc) (slots + ms) Q (F0 m (pc + 3) ls st1)) : W p l e R s m args below meth c H locs cells slots Q (F0 m pc ls st0) := by
  intro T hT X
  rcases hr T hT X with ⟨v', st₀, t, T', L, h0, X', hL, e1, e2, ⟨hv, hP1, hz, hk⟩, st⟩ | ⟨q, st₀, t, T', L, E9, ce, h0, X', hL, e1, e2, hF, -⟩
  · have hv' : v' = v := by injection hv
    subst hv'
    subst hst
    have hF := va_free hD hS hA isC hC
    rw [h0] at hz hk
    obtain ⟨t2, a1, b1⟩ := kk T'.heap (locs ++ L) (by rw [e1]; exact join_same hP hD isC isR hC hC' hlen hR hcov hk hP1) (hD.same hlen)
      ⟨Nat.le_trans hS.1 (by rw [e1]; exact hz), fun q h1 h2 => by rw [e1, hk q (Nat.lt_of_lt_of_le h1 hS.1) (fun z => h2 (hF q z))]; exact hS.2.1 q h1 h2, fun q hq => by
        rcases List.mem_append.mp hq with h | h
        · exact hS.2.2 q h
        · exact hF _ (hL q h)⟩ T' rfl X'
    exact ⟨t2, st t2 a1, b1⟩
  · exact hF.elim
theorem gxV {ws ws' : va_W} (isC isR : List Nat) (ci k0 : Nat) {fs : List Value} {qc : vw_C} (hC0 : CallFix p m c cc nL s args TG own) (q : CalVH y bytes maxL ret hh n) (kl : Cond.methodLink own index y ∈ TG) (hM : Gx l E y bytes maxL ret hh rm mc ms (.ref b :: As) w w' v) (hrm : rm.cells = mc ∧ rm.slots = ms) (hRm : rm.frames + 1 ≤ R.frames ∧ 8 + (maxL + 11) + rm.locals ≤ R.locals) (hc : cells + mc ≤ R.cells ∧ slots + ms ≤ R.slots)
    (hP : va_P E.1 vwCl ws H) (hD : va_D (fun q => s.heap.size ≤ q) ws) (hS : va_S (fun q => s.heap.size ≤ q) s.heap H locs) (hA : ∀ q : Nat, s.heap.size ≤ q → (fun q : Nat => s.heap.size ≤ q) q) (hcl : vwCl[ci]? = some qc) (hqc : qc.1 = y.cls) (he : w[k0]? = some (b, .inr (ci, fs))) (hG : GG E s) (hX : TX l (fun q => s.heap.size ≤ q) s s.heap) (hJ : Jn isC isR ws ws' w w')
    (hn : As.length = n) (hs : ls.size = nL) (hst0 : st0 = As.reverse ++ .ref b :: rest) (hw : (rest.map fun v => v.category).sum ≤ 8) (hdg : decode cc pc = .ok (.invokevirtual index, 3)) (hst : v.toList ++ rest = st1)
    (kk : ∀ (H1 : Heap) (locs1 : List Loc), va_P E.1 vwCl ws' H1 → va_D (fun q => s.heap.size ≤ q) ws' → va_S (fun q => s.heap.size ≤ q) s.heap H1 locs1 → W p l e R s m args below meth c H1 locs1 (cells + mc) (slots + ms) Q (F0 m (pc + 3) ls st1)) : W p l e R s m args below meth c H locs cells slots Q (F0 m pc ls st0) := by
  subst hst0
  obtain ⟨q1, q2, q3, q4, q5, q6, q7⟩ := q
  obtain ⟨hnd, hC, hC', hlen, hR, hcov⟩ := hJ
  have ht := hC0.2.2.2.2
  have hPc := cut_P hP isC hC
  have hDc : va_D (fun _ => True) w := (hD.sub isC hnd hC).weaken (fun _ _ _ _ => trivial)
  have hXH : TX l (fun _ => False) s H := (hX.kept hS.2.1).narrow (fun _ h => h.elim)
  refine gx_go (vx_runVX (C := y.cls) (g := F0 m pc ls (As.reverse ++ .ref b :: rest)) hC0 (hM H.size) ⟨⟨hrm.1, hrm.2, hRm.1, hRm.2, pay_in ht (wsh_good q1), List.mem_cons_self⟩, ht _ q1, ht _ q4, ⟨q5, q6⟩, fun sig h => ?_, ht _ kl, ht _ q2, ht _ q3⟩ ⟨fun a U g mk q => ⟨q.1, q.2.1, q.2.2.1, q.2.2.2.1, q.2.2.2.2.1.call, q.2.2.2.2.2.call⟩, by rw [← hqc]; exact va_recv hG.1 hPc hcl he, fun U hU hW => ⟨rfl, by rw [hU], by rw [hU]; exact hPc, hDc, hG.warm hW, by rw [hU]; exact hXH.warm hW⟩⟩ rfl hn hs rfl (lv_room hw) hdg hc) hst hP hD hS hA isC isR hC hC' hlen hR hcov kk
  have h2 := q7
  rw [h] at h2
  exact (Option.some.inj h2).symm
theorem lxS {cL : ClassId} {ws ws' : va_W} (isC isR : List Nat) (hC0 : CallFix p m c cc nL s args TG own) (q : CalSH y bytes maxL ret hh n) (kl : Cond.methodLink own index y ∈ TG)
    (hM : ∀ sz : Nat, vx_Met l y (WSH y bytes maxL ret hh) rm (va_Pc As (fun U => U.heap.size = sz ∧ va_P E.1 vwCl w U.heap ∧ va_D (fun _ => True) w ∧ (GG E U ∧ va_K E.1 vwCl [(cL, .long)] U) ∧ TX l (fun _ => False) U U.heap)) (WrQ E w w' sz v) (fun _ _ _ => False) mc ms (va_A w sz)) (hrm : rm.cells = mc ∧ rm.slots = ms) (hRm : rm.frames + 1 ≤ R.frames ∧ 8 + (maxL + 11) + rm.locals ≤ R.locals) (hc : cells + mc ≤ R.cells ∧ slots + ms ≤ R.slots)
    (hP : va_P E.1 vwCl ws H) (hD : va_D (fun q => s.heap.size ≤ q) ws) (hS : va_S (fun q => s.heap.size ≤ q) s.heap H locs) (hA : ∀ q : Nat, s.heap.size ≤ q → (fun q : Nat => s.heap.size ≤ q) q) (hG : GG E s ∧ va_K E.1 vwCl [(cL, .long)] s) (hX : TX l (fun q => s.heap.size ≤ q) s s.heap) (hJ : Jn isC isR ws ws' w w')
    (hn : As.length = n) (hs : ls.size = nL) (hst0 : st0 = As.reverse ++ rest) (hw : (rest.map fun v => v.category).sum ≤ 8) (hdg : decode cc pc = .ok (.invokestatic index, 3)) (hst : v.toList ++ rest = st1)
    (kk : ∀ (H1 : Heap) (locs1 : List Loc), va_P E.1 vwCl ws' H1 → va_D (fun q => s.heap.size ≤ q) ws' → va_S (fun q => s.heap.size ≤ q) s.heap H1 locs1 → W p l e R s m args below meth c H1 locs1 (cells + mc) (slots + ms) Q (F0 m (pc + 3) ls st1)) : W p l e R s m args below meth c H locs cells slots Q (F0 m pc ls st0) := by
  subst hst0
  obtain ⟨q1, q2, q4, q5, q6, q7⟩ := q
  obtain ⟨hnd, hC, hC', hlen, hR, hcov⟩ := hJ
  have ht := hC0.2.2.2.2
  have hPc := cut_P hP isC hC
  have hDc : va_D (fun _ => True) w := (hD.sub isC hnd hC).weaken (fun _ _ _ _ => trivial)
  have hXH : TX l (fun _ => False) s H := (hX.kept hS.2.1).narrow (fun _ h => h.elim)
  refine gx_go (vx_runSX (g := F0 m pc ls (As.reverse ++ rest)) hC0 (hM H.size) ⟨⟨hrm.1, hrm.2, hRm.1, hRm.2, pay_in ht (wsh_good q1), List.mem_cons_self⟩, ht _ q1, ht _ q4, ⟨q5, q6⟩, fun sig h => ?_, ht _ kl, ht _ q2⟩ ⟨fun a U g mk q => ⟨q.1, q.2.1, q.2.2.1, q.2.2.2.1, ⟨q.2.2.2.2.1.1.call, va_K.moved (u := U) (U := U.calling g mk a) (Vm.Alike.refl U.vm) q.2.2.2.2.1.2⟩, q.2.2.2.2.2.call⟩, fun U hU hW => ⟨rfl, by rw [hU], by rw [hU]; exact hPc, hDc, ⟨hG.1.warm hW, va_K.moved hW.alike hG.2⟩, by rw [hU]; exact hXH.warm hW⟩⟩ rfl hn hs rfl (lv_room hw) hdg hc) hst hP hD hS hA isC isR hC hC' hlen hR hcov kk
  have h2 := q7
  rw [h] at h2
  exact (Option.some.inj h2).symm
end GXC
