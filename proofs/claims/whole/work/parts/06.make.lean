/-! constructors: cells come -/
def CtQ (E : EE) (w : va_W) (sz : Nat) (B : va_W → Prop) : Array Value → State → Outcome → State → Prop := fun _ st oc t => oc = .returned none ∧ (∃ w', B w' ∧ va_P E.1 vwCl w' t.heap ∧ va_D (va_A w sz) w') ∧ va_F (va_A w sz) st t
def Ct (l : Launch) (E : EE) (y : MethodName) (cc : ByteArray) (n : Nat) (rm : Room) (mc ms : Nat) (h : Nat) (w : va_W) (B : va_W → Prop) : Prop :=
  ∀ sz : Nat, Met l y (WS y cc n none) rm (va_Pc [.ref h] (fun U => U.heap.size = sz ∧ va_P E.1 vwCl w U.heap ∧ va_D (fun _ => True) w ∧ GG E U)) (CtQ E w sz B) mc ms (va_A w sz)
theorem Ct.intro {l : Launch} {E : EE} {y : MethodName} {cc : ByteArray} {n : Nat} {rm : Room} {mc ms h : Nat} {w : va_W} {B : va_W → Prop} (own : String) (hy : plainName y.cls = true) (ho : y.cls = own) (hn : 1 ≤ n)
    (body : ∀ (p : Program) (e : Env) (s : State) (m : MethodId) (below : List Frame) (meth : Method) (c : Code) (ls : Array Slot) (A : Nat → Prop), CallFix p m c cc n s [Value.ref h].toArray TG own → meth.sig.returnType = none → meth.locks = false → meth.name = y.name → va_P E.1 vwCl w s.heap → va_D A w → va_S A s.heap s.heap [] → (∀ q : Nat, s.heap.size ≤ q → A q) → GG E s → lv_has ls n [(0, .ref h)] →
      W p l e rm s m [Value.ref h].toArray below meth c s.heap [] 0 0 (MQ below (fun _ st oc t => oc = .returned none ∧ (∃ w', B w' ∧ va_P E.1 vwCl w' t.heap ∧ va_D A w') ∧ va_F A st t) [Value.ref h].toArray s mc ms A) (F0 m 0 ls [])) : Ct l E y cc n rm mc ms h w B := by
  intro sz
  refine Met.ofW (cc := cc) (maxL := n) (ret := none) hy rfl ?_
  intro p e s m args below meth c s₁ B' hml hv
  obtain ⟨rfl, rfl, hP, hD, hG⟩ := hv
  have hts := atoms_spec (ws := WS y cc n none) B'.pre
  have hown : s.vm.findClass own = some m.cls := by rw [← ho]; exact findClass_of_methodNamed B'.named
  rw [lg_entry_eq]
  exact body p e s m below meth c _ (va_A w s.heap.size) ⟨B'.exec, B'.bytes, hml, hown, fun w hw => hts w (List.mem_cons_of_mem _ hw)⟩ B'.returns B'.notSynchronized (name_of_methodNamed B'.named B'.method).1 hP hD.self va_S.rf (fun q h => Or.inr h) hG (lv_entry [.ref h] hn)
def CalI (y : MethodName) (c : ByteArray) (n : Nat) : Prop := Cond.code y c n none ∈ TG ∧ Cond.instanceMethod y ∈ TG ∧ Cond.initialized y.cls ∈ TG ∧ y.name = "<init>" ∧ (y.cls ≠ "java/lang/invoke/MethodHandle" ∧ y.cls ≠ "java/lang/invoke/VarHandle" ∧ (parseMethodDescriptor y.desc).map (fun d => d.parameters.length) = some 0)
section CTC
variable {p : Program} {l : Launch} {e : Env} {R : Room} {s : State} {m : MethodId} {args : Array Value} {below : List Frame} {meth : Method} {c : Code} {H : Heap} {locs : List Loc} {cells slots : Nat} {Q : State → Prop}
variable {cc bytes : ByteArray} {nL maxL index pc mc ms : Nat} {own host : String} {y : MethodName} {rm : Room} {E : EE} {w : va_W} {ls : Array Slot} {rest : List Value} {b : Nat} {A : Nat → Prop} {H0 : Heap} {ws wr : va_W} {B : va_W → Prop}
theorem ct_go {a : Array Value} {st0 : List Value} (hr : va_Run p l e R s m args below meth c H locs cells slots mc ms (F0 m pc ls st0) rest (CtQ E w H.size B a) (va_A w H.size))
    (hP : va_P E.1 vwCl ws H) (hD : va_D A ws) (hS : va_S A H0 H locs) (hA : ∀ q, H0.size ≤ q → A q) (isC isR : List Nat) (hC : isC.map (fun i => ws[i]?) = w.map some) (hR : isR.map (fun i => ws[i]?) = wr.map some) (hn : va_nd isR = true) (hdis : ∀ i ∈ isR, i ∉ isC)
    (kk : ∀ (w' : va_W) (H1 : Heap) (locs1 : List Loc), B w' → va_P E.1 vwCl (wr ++ w') H1 → va_D A (wr ++ w') → va_S A H0 H1 locs1 → W p l e R s m args below meth c H1 locs1 (cells + mc) (slots + ms) Q (F0 m (pc + 3) ls rest)) : W p l e R s m args below meth c H locs cells slots Q (F0 m pc ls st0) := by
  intro T hT X
  obtain ⟨v', st₀, t, T', L, h0, X', hL, e1, e2, ⟨hv, ⟨w', hB, hP1, hD1⟩, hz, hk⟩, st⟩ := hr T hT X
  have hv' : v' = none := by injection hv
  subst hv'
  have hF := va_free hD hS hA isC hC
  rw [h0] at hz hk
  obtain ⟨j1, j2⟩ := va_join hP hD isC isR hC hR hn hdis hk hF hP1 hD1
  obtain ⟨t2, a1, b1⟩ := kk w' T'.heap (locs ++ L) hB (by rw [e1]; exact j1) j2
    ⟨Nat.le_trans hS.1 (by rw [e1]; exact hz), fun q h1 h2 => by rw [e1, hk q (Nat.lt_of_lt_of_le h1 hS.1) (fun z => h2 (hF q z))]; exact hS.2.1 q h1 h2, fun q hq => by
      rcases List.mem_append.mp hq with h | h
      · exact hS.2.2 q h
      · exact hF _ (hL q h)⟩ T' rfl X'
  exact ⟨t2, st t2 a1, b1⟩
theorem ctI (isC isR : List Nat) (hC0 : CallFix p m c cc nL s args TG own) (q : CalI y bytes maxL) (kl : Cond.methodLink own index y ∈ TG) (hM : Ct l E y bytes maxL rm mc ms b w B) (hrm : rm.cells = mc ∧ rm.slots = ms) (hRm : rm.frames + 1 ≤ R.frames ∧ 8 + (maxL + 11) + rm.locals ≤ R.locals) (hc : cells + mc ≤ R.cells ∧ slots + ms ≤ R.slots)
    (hP : va_P E.1 vwCl ws H) (hD : va_D A ws) (hS : va_S A H0 H locs) (hA : ∀ q, H0.size ≤ q → A q) (hG : GG E s) (hnd : va_nd isC = true) (hC : isC.map (fun i => ws[i]?) = w.map some) (hR : isR.map (fun i => ws[i]?) = wr.map some) (hn : va_nd isR = true) (hdis : ∀ i ∈ isR, i ∉ isC)
    (hs : ls.size = nL) (hw : (rest.map fun v => v.category).sum ≤ 8) (hdg : decode cc pc = .ok (.invokespecial index, 3))
    (kk : ∀ (w' : va_W) (H1 : Heap) (locs1 : List Loc), B w' → va_P E.1 vwCl (wr ++ w') H1 → va_D A (wr ++ w') → va_S A H0 H1 locs1 → W p l e R s m args below meth c H1 locs1 (cells + mc) (slots + ms) Q (F0 m (pc + 3) ls rest)) : W p l e R s m args below meth c H locs cells slots Q (F0 m pc ls (.ref b :: rest)) := by
  obtain ⟨q1, q2, q3, q4, q5⟩ := q
  have ht := hC0.2.2.2.2
  have hPc : va_P E.1 vwCl w H := by
    intro k z hz
    have h1 : (isC.map (fun i => ws[i]?))[k]? = some (some z) := by rw [hC, List.getElem?_map, hz]; rfl
    rw [List.getElem?_map] at h1
    cases hi : isC[k]? with
    | none => rw [hi] at h1; cases h1
    | some i => rw [hi] at h1; exact hP i z (Option.some.inj h1)
  have hDc : va_D (fun _ => True) w := (hD.sub isC hnd hC).weaken (fun _ _ _ _ => trivial)
  exact ct_go (va_runI (As := []) (g := F0 m pc ls (.ref b :: rest)) hC0 (hM H.size) (cwI 0 ht (ws_good q1) rfl hrm.1 hrm.2 (ht _ q3) (ht _ kl) (ht _ q2) q4 q5 hRm) ⟨fun a U g mk q => ⟨q.1, q.2.1, q.2.2.1, q.2.2.2.1, q.2.2.2.2.call⟩, fun U hU hW => ⟨rfl, by rw [hU], by rw [hU]; exact hPc, hDc, hG.warm hW⟩⟩ rfl rfl hs rfl (lv_room hw) hdg hc) hP hD hS hA isC isR hC hR hn hdis kk
theorem ctIN (isC isR : List Nat) (hC0 : CallFix p m c cc nL s args TG own) (q : CalI y bytes maxL) (kl : (own, index, y, host) ∈ nwL) (hM : Ct l E y bytes maxL rm mc ms b w B) (hrm : rm.cells = mc ∧ rm.slots = ms) (hRm : rm.frames + 1 ≤ R.frames ∧ 8 + (maxL + 11) + rm.locals ≤ R.locals) (hc : cells + mc ≤ R.cells ∧ slots + ms ≤ R.slots)
    (hP : va_P E.1 vwCl ws H) (hD : va_D A ws) (hS : va_S A H0 H locs) (hA : ∀ q, H0.size ≤ q → A q) (hG : GG E s) (hnd : va_nd isC = true) (hC : isC.map (fun i => ws[i]?) = w.map some) (hR : isR.map (fun i => ws[i]?) = wr.map some) (hn : va_nd isR = true) (hdis : ∀ i ∈ isR, i ∉ isC)
    (hs : ls.size = nL) (hw : (rest.map fun v => v.category).sum ≤ 8) (hdg : decode cc pc = .ok (.invokespecial index, 3))
    (kk : ∀ (w' : va_W) (H1 : Heap) (locs1 : List Loc), B w' → va_P E.1 vwCl (wr ++ w') H1 → va_D A (wr ++ w') → va_S A H0 H1 locs1 → W p l e R s m args below meth c H1 locs1 (cells + mc) (slots + ms) Q (F0 m (pc + 3) ls rest)) : W p l e R s m args below meth c H locs cells slots Q (F0 m pc ls (.ref b :: rest)) := by
  obtain ⟨q1, q2, q3, q4, q5⟩ := q
  have ht := hC0.2.2.2.2
  have hPc : va_P E.1 vwCl w H := by
    intro k z hz
    have h1 : (isC.map (fun i => ws[i]?))[k]? = some (some z) := by rw [hC, List.getElem?_map, hz]; rfl
    rw [List.getElem?_map] at h1
    cases hi : isC[k]? with
    | none => rw [hi] at h1; cases h1
    | some i => rw [hi] at h1; exact hP i z (Option.some.inj h1)
  have hDc : va_D (fun _ => True) w := (hD.sub isC hnd hC).weaken (fun _ _ _ _ => trivial)
  exact ct_go (va_runIN (host := host) (As := []) (g := F0 m pc ls (.ref b :: rest)) hC0 (hM H.size) ⟨va_cnB 0 ht (ws_good q1) rfl hrm.1 hrm.2 (hG.2.1 _ kl) (ht _ q3) q5 hRm, q4, ht _ q2⟩ ⟨fun a U g mk q => ⟨q.1, q.2.1, q.2.2.1, q.2.2.2.1, q.2.2.2.2.call⟩, fun U hU hW => ⟨rfl, by rw [hU], by rw [hU]; exact hPc, hDc, hG.warm hW⟩⟩ rfl rfl hs rfl (lv_room hw) hdg hc) hP hD hS hA isC isR hC hR hn hdis kk
/-! new arrays, at the classes of the world -/
theorem mk_newa (hx : p.tables.exec = Jvm.exec) (hb : c.code = cc) (harr : (Cond.arrayClass .int).before args s = true) (hG : GG E s) (hP : va_P E.1 vwCl ws H) (hD : va_D A ws) (hS : va_S A H0 H locs) (hA : ∀ q, H0.size ≤ q → A q) {n : Int32} (N' : Nat) (hn : ¬ n < 0) (hN : n.toNatClampNeg = N') (hbytes : N' * 4 ≤ 536870912) (hcells : cells + 1 ≤ R.cells) (hslots : slots + N' ≤ R.slots) (hdg : decode cc pc = .ok (.newarray .int, 2))
    (kk : ∀ (q : Nat) (H1 : Heap), va_P E.1 vwCl (ws ++ [ai E q N' (fun _ => 0)]) H1 → va_D A (ws ++ [ai E q N' (fun _ => 0)]) → va_S A H0 H1 locs → W p l e R s m args below meth c H1 locs (cells + 1) (slots + N') Q (F0 m (pc + 2) ls (.ref q :: rest))) : W p l e R s m args below meth c H locs cells slots Q (F0 m pc ls (.int n :: rest)) := by
  refine va_newa (atype := .int) (ty := .int) (N' := N') (a0 := (N', .inl (fun _ => 0))) hx hb harr rfl hG.1 hP hD hS hA (fun cA => vp_cell_i ..) hn hN hbytes hcells hslots hdg (fun q cA H1 hK1 hP1 hD1 hS1 => ?_)
  have e1 := (hG.1.2 0 _ rfl).2
  have e2 := (hK1.2 3 _ rfl).2
  have ec : cA = E.2.1 := Option.some.inj (e2.symm.trans e1)
  subst ec
  exact kk q H1 hP1 hD1 hS1
theorem mk_newS (hx : p.tables.exec = Jvm.exec) (hb : c.code = cc) (hown : s.vm.findClass own = some m.cls) (hcl : (Cond.classLink own index "BalconiesParliament$Shelf").before args s = true) (hG : GG E s) (hP : va_P E.1 vwCl ws H) (hD : va_D A ws) (hS : va_S A H0 H locs) (hA : ∀ q, H0.size ≤ q → A q) {n : Int32} (hn : ¬ n < 0) (hN : n.toNatClampNeg = 8) (hcells : cells + 1 ≤ R.cells) (hslots : slots + 8 ≤ R.slots) (hdg : decode cc pc = .ok (.anewarray index, 3))
    (kk : ∀ (q : Nat) (H1 : Heap), va_P E.1 vwCl (ws ++ [aS E q (fun _ => none)]) H1 → va_D A (ws ++ [aS E q (fun _ => none)]) → va_S A H0 H1 locs → W p l e R s m args below meth c H1 locs (cells + 1) (slots + 8) Q (F0 m (pc + 3) ls (.ref q :: rest))) : W p l e R s m args below meth c H locs cells slots Q (F0 m pc ls (.int n :: rest)) := by
  refine va_newq (N' := 8) hx hb hown hcl hG.2.2.1 hG.1 hP hD hS hA hn hN (Nat.le_of_ble_eq_true rfl) hcells hslots hdg (fun q cA H1 hK1 hP1 hD1 hS1 => ?_)
  have e1 := (hG.1.2 1 _ rfl).2
  have e2 := (hK1.2 3 _ rfl).2
  obtain ⟨-, -, -, -, -, e1⟩ := e1
  obtain ⟨-, -, -, -, -, e2⟩ := e2
  have ec : cA = E.2.2.1 := Option.some.inj (e2.symm.trans e1)
  subst ec
  exact kk q H1 hP1 hD1 hS1
theorem pl_rows (r : Nat → Nat) (f : Nat → va_E) (z : va_E) : va_pl ([] ++ (List.range 7).map r) (vr_up f ((List.range 7).map r) z) = [(r 0, z), (r 1, z), (r 2, z), (r 3, z), (r 4, z), (r 5, z), (r 6, z)] := by
  simp [va_pl, vr_up, List.range, List.range.loop]
theorem mk_mna (hx : p.tables.exec = Jvm.exec) (hb : c.code = cc) (hown : s.vm.findClass own = some m.cls) (hcl : (Cond.classLink own index ("[" ++ (FieldType.array .int).toString)).before args s = true) (harr : (Cond.arrayClass .int).before args s = true) (hG : GG E s) (hP : va_P E.1 vwCl ws H) (hD : va_D A ws) (hS : va_S A H0 H locs) (hA : ∀ q, H0.size ≤ q → A q) {n k : Int32} (hn : ¬ n < 0) (hk : ¬ k < 0) (hN : n.toNatClampNeg = 7) (hM : k.toNatClampNeg = 10) (hcells : cells + (1 + 7) ≤ R.cells) (hslots : slots + (7 + 7 * 10) ≤ R.slots) (hdg : decode cc pc = .ok (.multianewarray index 2, 4))
    (kk : ∀ (q : Nat) (r : Nat → Nat) (H1 : Heap), va_P E.1 vwCl (ws ++ [aG E q (fun i => if i < 7 then some (r i) else none), ai E (r 0) 10 (fun _ => 0), ai E (r 1) 10 (fun _ => 0), ai E (r 2) 10 (fun _ => 0), ai E (r 3) 10 (fun _ => 0), ai E (r 4) 10 (fun _ => 0), ai E (r 5) 10 (fun _ => 0), ai E (r 6) 10 (fun _ => 0)]) H1 → va_D A (ws ++ [aG E q (fun i => if i < 7 then some (r i) else none), ai E (r 0) 10 (fun _ => 0), ai E (r 1) 10 (fun _ => 0), ai E (r 2) 10 (fun _ => 0), ai E (r 3) 10 (fun _ => 0), ai E (r 4) 10 (fun _ => 0), ai E (r 5) 10 (fun _ => 0), ai E (r 6) 10 (fun _ => 0)]) → va_S A H0 H1 locs →
      W p l e R s m args below meth c H1 locs (cells + 1 + 7) (slots + 7 + 7 * 10) Q (F0 m (pc + 4) ls (.ref q :: rest))) : W p l e R s m args below meth c H locs cells slots Q (F0 m pc ls (.int k :: .int n :: rest)) := by
  have e1 : s.vm.findClass (FieldType.array .int).toString = some E.2.1 := (hG.1.2 0 _ rfl).2
  refine va_mna (ty := .int) (cy := E.2.1) (X := ws) (L := []) (f := fun _ => .inr (0, [])) (N' := 7) (K' := 10) (z := (10, .inl (fun _ => 0))) hx hb hown hcl hG.2.2.2 harr e1 hG.1 (by simpa [va_pl] using hP) (by simpa [va_pl] using hD) hS hA hn hk hN hM (Nat.le_of_ble_eq_true rfl) (Nat.le_of_ble_eq_true rfl) (Nat.le_of_ble_eq_true rfl) rfl rfl hcells hslots ?_ hdg (fun q r cA H1 _ _ hK1 hP1 hD1 hS1 => ?_)
  · intro c
    show ({ cls := c, slots := Array.replicate 10 (.int 0), vm := .none } : Cell) = _
    rw [vp_cell_i, arrV_new]
  · have e2 := (hG.1.2 2 _ rfl).2
    have e3 := (hK1.2 3 _ rfl).2
    have ec : cA = E.2.2.2 := Option.some.inj (e3.symm.trans e2)
    subst ec
    rw [pl_rows, List.append_assoc] at hP1 hD1
    exact kk q r H1 hP1 hD1 hS1
end CTC
theorem arrV_ext {c : ClassId} {n : Nat} {f g : Nat → Int32} (h : ∀ i, i < n → f i = g i) : vp_cell c (n, .inl f) = vp_cell c (n, .inl g) := by
  rw [vp_cell_i, vp_cell_i]
  unfold arrV
  congr 1
  apply Array.ext
  · simp
  · intro i h1 h2
    have hi : i < n := by simpa using h1
    simp [h i hi]
theorem va_P_ext {D : va_G} {cl : List vw_C} {ws ws' : va_W} {H : Heap} {a n : Nat} {cA : ClassId} {f g : Nat → Int32} (k : Nat) (hP : va_P D cl ws H) (h : ws[k]? = some (a, .inl (cA, n, .inl f))) (he : ∀ i, i < n → f i = g i) (h' : ws.set k (a, .inl (cA, n, .inl g)) = ws') : va_P D cl ws' H := by
  subst h'
  have hl := (List.getElem?_eq_some_iff.mp h).1
  intro j q hj
  by_cases hjk : j = k
  · subst hjk
    rw [List.getElem?_set_self hl] at hj
    cases hj
    have := hP j _ h
    show H[a]? = some (vp_cell cA (n, .inl g))
    rw [← arrV_ext he]
    exact this
  · rw [List.getElem?_set_ne (Ne.symm hjk)] at hj
    exact hP j q hj
/-- what new rows hold -/
def z0 : Nat → Int32 := fun _ => 0
def hgt0 : Nat → Int32 := fun b => if b < 10 then nI (b / 2) else 0
def mod0 : Nat → Int32 := fun i => if i = 2 then 10 else if 4 ≤ i ∧ i < 14 then nI ((i - 4) / 2) else 0
