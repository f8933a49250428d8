/-! the words that every method may use: all good ones of the tables -/
def TG : List Cond := lw_tbl.filter goodWord
theorem tg {w : Cond} (h : w ∈ lw_tbl) (g : goodWord w = true) : w ∈ TG := List.mem_filter.mpr ⟨h, g⟩
theorem tg_good {w : Cond} (h : w ∈ TG) : (w.onTables && w.keeps) = true ∨ ∃ ty, w = .arrayClass ty := good_of_word (List.mem_filter.mp h).2
theorem tb_0 {w : Cond} (h : w ∈ k2_sels lw_privs) : w ∈ lw_tbl := List.mem_append_left _ h
theorem tb_1 {w : Cond} (h : w ∈ tables_1_1) : w ∈ lw_tbl := List.mem_append_right _ (List.mem_append_left _ h)
theorem tb_2 {w : Cond} (h : w ∈ tables_1_2) : w ∈ lw_tbl := List.mem_append_right _ (List.mem_append_right _ (List.mem_append_left _ h))
theorem tb_3 {w : Cond} (h : w ∈ tables_1_3) : w ∈ lw_tbl := List.mem_append_right _ (List.mem_append_right _ (List.mem_append_right _ (List.mem_append_left _ h)))
theorem tb_4 {w : Cond} (h : w ∈ tables_1_4) : w ∈ lw_tbl := List.mem_append_right _ (List.mem_append_right _ (List.mem_append_right _ (List.mem_append_right _ (List.mem_append_left _ h))))
theorem tb_5 {w : Cond} (h : w ∈ tables_1_5) : w ∈ lw_tbl := List.mem_append_right _ (List.mem_append_right _ (List.mem_append_right _ (List.mem_append_right _ (List.mem_append_right _ (List.mem_append_left _ h)))))
theorem tb_6 {w : Cond} (h : w ∈ tables_1_6) : w ∈ lw_tbl := List.mem_append_right _ (List.mem_append_right _ (List.mem_append_right _ (List.mem_append_right _ (List.mem_append_right _ (List.mem_append_right _ h)))))
abbrev WS (y : MethodName) (c : ByteArray) (n : Nat) (r : Option FieldType) : List Cond := .code y c n r :: TG
/-- the world's constants: classes, the class of int arrays, of shelves' arrays, of arrays of int arrays -/
abbrev EE : Type := va_G × ClassId × ClassId × ClassId
def nwL : List (String × Nat × MethodName × String) := [(RX9, 28, yX5_init, RX9), (RX9, 39, yX7_init, RX9), (RX6, 32, yX9_isWithin, RX9), (RX6, 57, yX9_isBalcony, RX9), (RX8, 53, yX9_isIn, RX9), (RX8, 131, yX9_oneIf, RX9), (RX2, 28, yX9_isIn, RX9), (RX5, 43, yX9_isIn, RX9), (RX4, 25, yX9_isWithin, RX9)]
/-- what the tables say of an array of arrays (NAMES.whole names it, the kit's text here has it not) -/
def va_AOA (ty : FieldType) (U : State) : Prop := (Cond.arrayOver (.array ty)).before #[] U = true
theorem va_AOA.use {ty : FieldType} {A : Array Value} {U : State} (h : va_AOA ty U) : (Cond.arrayOver (.array ty)).before A U = true := h
theorem va_AOA.moved {ty : FieldType} {u U : State} (hvm : u.vm.Alike U.vm) (h : va_AOA ty u) : va_AOA ty U := by
  have h2 : (Cond.arrayOver (.array ty)).before #[] (u.setVm U.vm) = true := by rw [Cond.arrayOver_setVmC hvm]; exact h
  exact h2
def NW (U : State) : Prop := ∀ q ∈ nwL, va_Nw (.methodLinkNest q.1 q.2.1 q.2.2.1 q.2.2.2) U
def GG (E : EE) (U : State) : Prop := va_K E.1 vwCl [(E.2.1, .int), (E.2.2.1, .object "BalconiesParliament$Shelf"), (E.2.2.2, .array .int)] U ∧ NW U ∧ va_AO "BalconiesParliament$Shelf" U ∧ va_AOA .int U
theorem GG.warm {E : EE} {s U : State} (hW : s.WarmedH U.vm) (h : GG E s) : GG E U := ⟨va_K.moved hW.alike h.1, fun q hq => va_Nw.warmM hW (h.2.1 q hq), h.2.2.1.moved hW.alike, h.2.2.2.moved hW.alike⟩
theorem GG.call {E : EE} {U : State} {g : JFrame} {mk : MethodId} {a : Array Value} (h : GG E U) : GG E (U.calling g mk a) := ⟨va_K.moved (u := U) (U := U.calling g mk a) (Vm.Alike.refl U.vm) h.1, fun q hq => va_Nw.same rfl rfl (h.2.1 q hq), va_AO.moved (u := U) (U := U.calling g mk a) (Vm.Alike.refl U.vm) h.2.2.1, va_AOA.moved (u := U) (U := U.calling g mk a) (Vm.Alike.refl U.vm) h.2.2.2⟩
/-! contracts: a reader (the heap stays as it is), a writer (the same cells, new contents) -/
def RdQ (v : Option Value) : Array Value → State → Outcome → State → Prop := fun _ st oc t => oc = .returned v ∧ t.heap = st.heap
def Rd (l : Launch) (E : EE) (y : MethodName) (cc : ByteArray) (n : Nat) (r : Option FieldType) (rm : Room) (av : List Value) (w : va_W) (v : Option Value) : Prop :=
  Met l y (WS y cc n r) rm (va_Pc av (fun U => va_P E.1 vwCl w U.heap ∧ GG E U)) (RdQ v) 0 0 (fun _ => False)
def WrQ (E : EE) (w w' : va_W) (sz : Nat) (v : Option Value) : Array Value → State → Outcome → State → Prop := fun _ st oc t => oc = .returned v ∧ va_P E.1 vwCl w' t.heap ∧ va_F (va_A w sz) st t
def Wr (l : Launch) (E : EE) (y : MethodName) (cc : ByteArray) (n : Nat) (r : Option FieldType) (rm : Room) (av : List Value) (w w' : va_W) (v : Option Value) : Prop :=
  ∀ sz : Nat, Met l y (WS y cc n r) rm (va_Pc av (fun U => U.heap.size = sz ∧ va_P E.1 vwCl w U.heap ∧ va_D (fun _ => True) w ∧ GG E U)) (WrQ E w w' sz v) 0 0 (va_A w sz)
theorem Rd.intro {l : Launch} {E : EE} {y : MethodName} {cc : ByteArray} {n : Nat} {r : Option FieldType} {rm : Room} {av : List Value} {w : va_W} {v : Option Value} (own : String) (hy : plainName y.cls = true) (ho : y.cls = own) (hlen : (lg_sl av).length ≤ n)
    (body : ∀ (p : Program) (e : Env) (s : State) (m : MethodId) (below : List Frame) (meth : Method) (c : Code) (ls : Array Slot), CallFix p m c cc n s av.toArray TG own → meth.sig.returnType = r → meth.locks = false → va_P E.1 vwCl w s.heap → GG E s → lv_has ls n (lv_args 0 av) →
      W p l e rm s m av.toArray below meth c s.heap [] 0 0 (MQ below (RdQ v) av.toArray s 0 0 (fun _ => False)) (F0 m 0 ls [])) : Rd l E y cc n r rm av w v := by
  refine Met.ofW (cc := cc) (maxL := n) (ret := r) hy rfl ?_
  intro p e s m args below meth c s₁ B hml hv
  obtain ⟨rfl, hP, hG⟩ := hv
  have hts := atoms_spec (ws := WS y cc n r) B.pre
  have hown : s.vm.findClass own = some m.cls := by rw [← ho]; exact findClass_of_methodNamed B.named
  rw [lg_entry_eq]
  exact body p e s m below meth c _ ⟨B.exec, B.bytes, hml, hown, fun w hw => hts w (List.mem_cons_of_mem _ hw)⟩ B.returns B.notSynchronized hP hG (lv_entry av hlen)
theorem Wr.intro {l : Launch} {E : EE} {y : MethodName} {cc : ByteArray} {n : Nat} {r : Option FieldType} {rm : Room} {av : List Value} {w w' : va_W} {v : Option Value} (own : String) (hy : plainName y.cls = true) (ho : y.cls = own) (hlen : (lg_sl av).length ≤ n)
    (body : ∀ (p : Program) (e : Env) (s : State) (m : MethodId) (below : List Frame) (meth : Method) (c : Code) (ls : Array Slot) (A : Nat → Prop), CallFix p m c cc n s av.toArray TG own → meth.sig.returnType = r → meth.locks = false → meth.name = y.name → va_P E.1 vwCl w s.heap → va_D A w → va_S A s.heap s.heap [] → (∀ q : Nat, s.heap.size ≤ q → A q) → GG E s → lv_has ls n (lv_args 0 av) →
      W p l e rm s m av.toArray below meth c s.heap [] 0 0 (MQ below (fun _ st oc t => oc = .returned v ∧ va_P E.1 vwCl w' t.heap ∧ va_F A st t) av.toArray s 0 0 A) (F0 m 0 ls [])) : Wr l E y cc n r rm av w w' v := by
  intro sz
  refine Met.ofW (cc := cc) (maxL := n) (ret := r) hy rfl ?_
  intro p e s m args below meth c s₁ B hml hv
  obtain ⟨rfl, rfl, hP, hD, hG⟩ := hv
  have hts := atoms_spec (ws := WS y cc n r) B.pre
  have hown : s.vm.findClass own = some m.cls := by rw [← ho]; exact findClass_of_methodNamed B.named
  rw [lg_entry_eq]
  exact body p e s m below meth c _ (va_A w s.heap.size) ⟨B.exec, B.bytes, hml, hown, fun w hw => hts w (List.mem_cons_of_mem _ hw)⟩ B.returns B.notSynchronized (name_of_methodNamed B.named B.method).1 hP hD.self va_S.rf (fun q h => Or.inr h) hG (lv_entry av hlen)
/-! a callee's own words, once -/
def CalS (y : MethodName) (c : ByteArray) (n : Nat) (r : Option FieldType) (k : Nat) : Prop := Cond.code y c n r ∈ TG ∧ Cond.static y ∈ TG ∧ Cond.initialized y.cls ∈ TG ∧ (y.cls ≠ "java/lang/invoke/MethodHandle" ∧ y.cls ≠ "java/lang/invoke/VarHandle" ∧ (parseMethodDescriptor y.desc).map (fun d => d.parameters.length) = some k)
def CalV (y : MethodName) (c : ByteArray) (n : Nat) (r : Option FieldType) (k : Nat) : Prop := Cond.code y c n r ∈ TG ∧ Cond.instanceMethod y ∈ TG ∧ Cond.selects y.cls y y ∈ TG ∧ Cond.initialized y.cls ∈ TG ∧ (y.cls ≠ "java/lang/invoke/MethodHandle" ∧ y.cls ≠ "java/lang/invoke/VarHandle" ∧ (parseMethodDescriptor y.desc).map (fun d => d.parameters.length) = some k)
theorem ws_good {y : MethodName} {c : ByteArray} {n : Nat} {r : Option FieldType} (h : Cond.code y c n r ∈ TG) : GoodIn TG (WS y c n r) := by
  intro w hw
  rcases List.mem_cons.mp hw with rfl | hw
  · exact ⟨h, tg_good h⟩
  · exact ⟨hw, tg_good hw⟩
/-! guards and binds of the pure functions -/
def gd {α : Type} (b : Bool) (k : Option α) : Option α := if b = true then k else none
theorem gd_s {α : Type} {b : Bool} {k : Option α} {r : α} (h : gd b k = some r) : b = true ∧ k = some r := by
  unfold gd at h
  by_cases hb : b = true
  · rw [if_pos hb] at h
    exact ⟨hb, h⟩
  · rw [if_neg hb] at h
    cases h
theorem gd_t {α : Type} {b : Bool} {k : Option α} (h : b = true) : gd b k = k := if_pos h
def ob {α β : Type} (x : Option α) (k : α → Option β) : Option β := x.bind k
theorem ob_s {α β : Type} {x : Option α} {k : α → Option β} {r : β} (h : ob x k = some r) : ∃ a, x = some a ∧ k a = some r := by
  cases x with
  | none => cases h
  | some a => exact ⟨a, rfl, h⟩
theorem ob_t {α β : Type} {x : Option α} {k : α → Option β} {a : α} (h : x = some a) : ob x k = k a := by rw [h]; rfl
theorem if_y {α : Type} {c : Prop} [Decidable c] {A B r : α} (h : c) (hv : (if c then A else B) = r) : A = r := by rwa [if_pos h] at hv
theorem if_n {α : Type} {c : Prop} [Decidable c] {A B r : α} (h : ¬ c) (hv : (if c then A else B) = r) : B = r := by rwa [if_neg h] at hv
/-- an index inside -/
def ix (i : Int32) (n : Nat) : Bool := decide (¬ (i < 0 ∨ n ≤ i.toNatClampNeg))
theorem ix_s {i : Int32} {n : Nat} (h : ix i n = true) : vp_in i n := of_decide_eq_true (p := ¬ (i < 0 ∨ n ≤ i.toNatClampNeg)) h
theorem ix_t {i : Int32} {n : Nat} (h : vp_in i n) : ix i n = true := decide_eq_true (p := ¬ (i < 0 ∨ n ≤ i.toNatClampNeg)) h
/-- a truth value -/
def bz (x : Int32) : Bool := decide (x = 0 ∨ x = 1)
theorem bz_s {x : Int32} (h : bz x = true) : narrow .boolean (.int x) = .int x := by
  rcases of_decide_eq_true h with rfl | rfl <;> rfl
def nz (x : Int32) : Bool := decide (¬ x = 0)
theorem nz_s {x : Int32} (h : nz x = true) : ¬ x = 0 := of_decide_eq_true h
def nzl (x : Int64) : Bool := decide (¬ x = 0)
theorem nzl_s {x : Int64} (h : nzl x = true) : ¬ x = 0 := of_decide_eq_true h
theorem rv_i {x r : Int32} (h : some x = some r) : (Outcome.returned (some (Value.int x))) = .returned (some (.int r)) := by cases h; rfl
theorem rv_l {x r : Int64} (h : some x = some r) : (Outcome.returned (some (Value.long x))) = .returned (some (.long r)) := by cases h; rfl
/-! calls -/
section BC
variable {p : Program} {l : Launch} {e : Env} {R : Room} {s : State} {m : MethodId} {args : Array Value} {below : List Frame} {meth : Method} {c : Code} {H : Heap} {locs : List Loc} {cells slots : Nat} {Q : State → Prop}
variable {cc bytes : ByteArray} {nL maxL index n pc : Nat} {own host : String} {y : MethodName} {ret : Option FieldType} {rm : Room} {E : EE} {w w' : va_W} {v : Option Value} {ls : Array Slot} {As rest st0 st1 : List Value} {b : Nat}
theorem rd_go {a : Array Value} (hr : va_Run p l e R s m args below meth c H locs cells slots 0 0 (F0 m pc ls st0) rest (RdQ v a) (fun _ => False)) (hst : v.toList ++ rest = st1)
    (kk : W p l e R s m args below meth c H locs cells slots Q (F0 m (pc + 3) ls st1)) : W p l e R s m args below meth c H locs cells slots Q (F0 m pc ls st0) := by
  intro T hT X
  obtain ⟨v', st₀, t, T', L, h0, X', hL, e1, e2, ⟨hv, hh⟩, st⟩ := hr T hT X
  have hL0 : L = [] := by
    cases L with
    | nil => rfl
    | cons q L => exact (hL q List.mem_cons_self).elim
  subst hL0
  rw [List.append_nil] at X'
  have hv' : v' = v := by injection hv
  subst hv'
  subst hst
  obtain ⟨t2, a1, b1⟩ := kk T' (by rw [e1, hh, h0]) X'
  exact ⟨t2, st t2 a1, b1⟩
theorem rdS (hC : CallFix p m c cc nL s args TG own) (q : CalS y bytes maxL ret n) (kl : Cond.methodLink own index y ∈ TG) (hM : Rd l E y bytes maxL ret rm As w v) (hrm : rm.cells = 0 ∧ rm.slots = 0) (hR : rm.frames + 1 ≤ R.frames ∧ 8 + (maxL + 11) + rm.locals ≤ R.locals) (hc : cells + 0 ≤ R.cells ∧ slots + 0 ≤ R.slots)
    (hP : va_P E.1 vwCl w H) (hG : GG E s) (hn : As.length = n) (hs : ls.size = nL) (hst0 : st0 = As.reverse ++ rest) (hw : (rest.map fun v => v.category).sum ≤ 8) (hdg : decode cc pc = .ok (.invokestatic index, 3)) (hst : v.toList ++ rest = st1)
    (kk : W p l e R s m args below meth c H locs cells slots Q (F0 m (pc + 3) ls st1)) : W p l e R s m args below meth c H locs cells slots Q (F0 m pc ls st0) := by
  subst hst0
  obtain ⟨q1, q2, q3, q4⟩ := q
  have ht := hC.2.2.2.2
  refine rd_go (va_runS (g := F0 m pc ls (As.reverse ++ rest)) hC hM ⟨callB_of n ht (ws_good q1) rfl hrm.1 hrm.2 (ht _ q3) (ht _ kl) q4 hR, ht _ q2⟩ ⟨fun a U g mk q => ⟨q.1, q.2.1, q.2.2.call⟩, fun U hU hW => ⟨rfl, by rw [hU]; exact hP, hG.warm hW⟩⟩ rfl hn hs rfl (lv_room hw) hdg hc) hst kk
theorem rdSN (hC : CallFix p m c cc nL s args TG own) (q : CalS y bytes maxL ret n) (kl : (own, index, y, host) ∈ nwL) (hM : Rd l E y bytes maxL ret rm As w v) (hrm : rm.cells = 0 ∧ rm.slots = 0) (hR : rm.frames + 1 ≤ R.frames ∧ 8 + (maxL + 11) + rm.locals ≤ R.locals) (hc : cells + 0 ≤ R.cells ∧ slots + 0 ≤ R.slots)
    (hP : va_P E.1 vwCl w H) (hG : GG E s) (hn : As.length = n) (hs : ls.size = nL) (hst0 : st0 = As.reverse ++ rest) (hw : (rest.map fun v => v.category).sum ≤ 8) (hdg : decode cc pc = .ok (.invokestatic index, 3)) (hst : v.toList ++ rest = st1)
    (kk : W p l e R s m args below meth c H locs cells slots Q (F0 m (pc + 3) ls st1)) : W p l e R s m args below meth c H locs cells slots Q (F0 m pc ls st0) := by
  subst hst0
  obtain ⟨q1, q2, q3, q4⟩ := q
  have ht := hC.2.2.2.2
  refine rd_go (va_runSN (host := host) (g := F0 m pc ls (As.reverse ++ rest)) hC hM ⟨va_cnB n ht (ws_good q1) rfl hrm.1 hrm.2 (hG.2.1 _ kl) (ht _ q3) q4 hR, ht _ q2, trivial⟩ ⟨fun a U g mk q => ⟨q.1, q.2.1, q.2.2.call⟩, fun U hU hW => ⟨rfl, by rw [hU]; exact hP, hG.warm hW⟩⟩ rfl hn hs rfl (lv_room hw) hdg hc) hst kk
theorem rdV (ci k0 : Nat) {fs : List Value} {qc : vw_C} (hC : CallFix p m c cc nL s args TG own) (q : CalV y bytes maxL ret n) (kl : Cond.methodLink own index y ∈ TG) (hM : Rd l E y bytes maxL ret rm (.ref b :: As) w v) (hrm : rm.cells = 0 ∧ rm.slots = 0) (hR : rm.frames + 1 ≤ R.frames ∧ 8 + (maxL + 11) + rm.locals ≤ R.locals) (hc : cells + 0 ≤ R.cells ∧ slots + 0 ≤ R.slots)
    (hP : va_P E.1 vwCl w H) (hcl : vwCl[ci]? = some qc) (hqc : qc.1 = y.cls) (he : w[k0]? = some (b, .inr (ci, fs))) (hG : GG E s) (hn : As.length = n) (hs : ls.size = nL) (hst0 : st0 = As.reverse ++ .ref b :: rest) (hw : (rest.map fun v => v.category).sum ≤ 8) (hdg : decode cc pc = .ok (.invokevirtual index, 3)) (hst : v.toList ++ rest = st1)
    (kk : W p l e R s m args below meth c H locs cells slots Q (F0 m (pc + 3) ls st1)) : W p l e R s m args below meth c H locs cells slots Q (F0 m pc ls st0) := by
  subst hst0
  obtain ⟨q1, q2, q3, q4, q5⟩ := q
  have ht := hC.2.2.2.2
  refine rd_go (va_runV (C := y.cls) (g := F0 m pc ls (As.reverse ++ .ref b :: rest)) hC hM ⟨callB_of n ht (ws_good q1) rfl hrm.1 hrm.2 (ht _ q4) (ht _ kl) q5 hR, ht _ q2, ht _ q3⟩ ⟨fun a U g mk q => ⟨q.1, q.2.1, q.2.2.call⟩, by rw [← hqc]; exact va_recv hG.1 hP hcl he, fun U hU hW => ⟨rfl, by rw [hU]; exact hP, hG.warm hW⟩⟩ rfl hn hs rfl (lv_room hw) hdg hc) hst kk
theorem va_D.same {A : Nat → Prop} {ws ws' : va_W} (hD : va_D A ws) (h : ws'.map Prod.fst = ws.map Prod.fst) : va_D A ws' := by
  have key : ∀ (k : Nat) (q : Nat × va_E), ws'[k]? = some q → ∃ q0, ws[k]? = some q0 ∧ q0.1 = q.1 := by
    intro k q hk
    have h1 : (ws'.map Prod.fst)[k]? = some q.1 := by rw [List.getElem?_map, hk]; rfl
    rw [h, List.getElem?_map] at h1
    cases hq : ws[k]? with
    | none => rw [hq] at h1; cases h1
    | some q0 => rw [hq] at h1; exact ⟨q0, rfl, Option.some.inj h1⟩
  refine ⟨fun i j x y hi hj hxy => ?_, fun k q hk => ?_⟩
  · obtain ⟨x0, h1, h2⟩ := key i x hi
    obtain ⟨y0, h3, h4⟩ := key j y hj
    exact hD.1 i j x0 y0 h1 h3 (h2.trans (hxy.trans h4.symm))
  · obtain ⟨q0, h1, h2⟩ := key k q hk
    rw [← h2]
    exact hD.2 k q0 h1
/-- behind a writer: its cells have their new contents, the others stay -/
theorem join_same {A0 : Nat → Prop} {D : va_G} {cl : List vw_C} {ws wc w1 ws' : va_W} {H H1 : Heap} (hP : va_P D cl ws H) (hD : va_D A0 ws) (isC isR : List Nat) (hC : isC.map (fun i => ws[i]?) = wc.map some) (hC' : isC.map (fun i => ws'[i]?) = w1.map some) (hlen : ws'.map Prod.fst = ws.map Prod.fst) (hR : isR.map (fun i => ws'[i]?) = isR.map (fun i => ws[i]?)) (hcov : (List.range ws'.length).all (fun i => isC.contains i || (isR.contains i && !isC.contains i)) = true)
    (hk : ∀ q : Nat, q < H.size → ¬ va_A wc H.size q → H1[q]? = H[q]?) (hP1 : va_P D cl w1 H1) : va_P D cl ws' H1 := by
  intro k q hq
  have hkl : k < ws'.length := (List.getElem?_eq_some_iff.mp hq).1
  have hc := List.all_eq_true.mp hcov k (List.mem_range.mpr hkl)
  by_cases hin : k ∈ isC
  · obtain ⟨j, hj⟩ := List.getElem?_of_mem hin
    have h1 : (isC.map (fun i => ws'[i]?))[j]? = some (some q) := by rw [List.getElem?_map, hj]; exact congrArg some hq
    rw [hC', List.getElem?_map] at h1
    cases hw : w1[j]? with
    | none => rw [hw] at h1; cases h1
    | some z =>
      rw [hw] at h1
      have : z = q := by injection h1 with h1; injection h1
      subst this
      exact hP1 j z hw
  · have hinR : k ∈ isR := by
      have h2 : isC.contains k = false := by simpa using hin
      rw [h2] at hc
      simpa using hc
    obtain ⟨j, hj⟩ := List.getElem?_of_mem hinR
    have h1 : (isR.map (fun i => ws'[i]?))[j]? = some (some q) := by rw [List.getElem?_map, hj]; exact congrArg some hq
    rw [hR, List.getElem?_map, hj] at h1
    have hq0 : ws[k]? = some q := by injection h1
    have hl := (hP k q hq0).lt
    refine (hP k q hq0).kept (hk q.1 hl (fun hA => ?_))
    rcases hA with ⟨k2, e, h⟩ | h
    · have h3 : (isC.map (fun i => ws[i]?))[k2]? = some (some (q.1, e)) := by rw [hC, List.getElem?_map, h]; rfl
      rw [List.getElem?_map] at h3
      cases hi : isC[k2]? with
      | none => rw [hi] at h3; cases h3
      | some i =>
        rw [hi] at h3
        have h4 : ws[i]? = some (q.1, e) := Option.some.inj h3
        have := hD.1 k i q (q.1, e) hq0 h4 rfl
        subst this
        exact hin (List.mem_of_getElem? hi)
    · omega
theorem wr_go {a : Array Value} {A : Nat → Prop} {H0 : Heap} {ws ws' : va_W} (hr : va_Run p l e R s m args below meth c H locs cells slots 0 0 (F0 m pc ls st0) rest (WrQ E w w' H.size v a) (va_A w H.size)) (hst : v.toList ++ rest = st1)
    (hP : va_P E.1 vwCl ws H) (hD : va_D A ws) (hS : va_S A H0 H locs) (hA : ∀ q, H0.size ≤ q → A q) (isC isR : List Nat) (hC : isC.map (fun i => ws[i]?) = w.map some) (hC' : isC.map (fun i => ws'[i]?) = w'.map some) (hlen : ws'.map Prod.fst = ws.map Prod.fst) (hR : isR.map (fun i => ws'[i]?) = isR.map (fun i => ws[i]?)) (hcov : (List.range ws'.length).all (fun i => isC.contains i || (isR.contains i && !isC.contains i)) = true)
    (kk : ∀ (H1 : Heap) (locs1 : List Loc), va_P E.1 vwCl ws' H1 → va_D A ws' → va_S A H0 H1 locs1 → W p l e R s m args below meth c H1 locs1 cells slots Q (F0 m (pc + 3) ls st1)) : W p l e R s m args below meth c H locs cells slots Q (F0 m pc ls st0) := by
  intro T hT X
  obtain ⟨v', st₀, t, T', L, h0, X', hL, e1, e2, ⟨hv, hP1, hz, hk⟩, st⟩ := hr T hT X
  have hv' : v' = v := by injection hv
  subst hv'
  subst hst
  have hF := va_free hD hS hA isC hC
  rw [h0] at hz hk
  obtain ⟨t2, a1, b1⟩ := kk T'.heap (locs ++ L) (by rw [e1]; exact join_same hP hD isC isR hC hC' hlen hR hcov hk hP1) (hD.same hlen)
    ⟨Nat.le_trans hS.1 (by rw [e1]; exact hz), fun q h1 h2 => by rw [e1, hk q (Nat.lt_of_lt_of_le h1 hS.1) (fun z => h2 (hF q z))]; exact hS.2.1 q h1 h2, fun q hq => by
      rcases List.mem_append.mp hq with h | h
      · exact hS.2.2 q h
      · exact hF _ (hL q h)⟩ T' rfl X'
  exact ⟨t2, st t2 a1, b1⟩
theorem wrS {A : Nat → Prop} {H0 : Heap} {ws ws' wr : va_W} {as : List Nat} (isC isR : List Nat) (hC0 : CallFix p m c cc nL s args TG own) (q : CalS y bytes maxL ret n) (kl : Cond.methodLink own index y ∈ TG) (hM : Wr l E y bytes maxL ret rm As w w' v) (hrm : rm.cells = 0 ∧ rm.slots = 0) (hRm : rm.frames + 1 ≤ R.frames ∧ 8 + (maxL + 11) + rm.locals ≤ R.locals) (hc : cells + 0 ≤ R.cells ∧ slots + 0 ≤ R.slots)
    (hP : va_P E.1 vwCl ws H) (hD : va_D A ws) (hS : va_S A H0 H locs) (hA : ∀ q, H0.size ≤ q → A q) (hG : GG E s) (hnd : va_nd isC = true) (hC : isC.map (fun i => ws[i]?) = w.map some) (hC' : isC.map (fun i => ws'[i]?) = w'.map some) (ha1 : ws'.map Prod.fst = as) (ha2 : ws.map Prod.fst = as) (hR1 : isR.map (fun i => ws'[i]?) = wr.map some) (hR2 : isR.map (fun i => ws[i]?) = wr.map some) (hcov : (List.range ws'.length).all (fun i => isC.contains i || (isR.contains i && !isC.contains i)) = true)
    (hn : As.length = n) (hs : ls.size = nL) (hst0 : st0 = As.reverse ++ rest) (hw : (rest.map fun v => v.category).sum ≤ 8) (hdg : decode cc pc = .ok (.invokestatic index, 3)) (hst : v.toList ++ rest = st1)
    (kk : ∀ (H1 : Heap) (locs1 : List Loc), va_P E.1 vwCl ws' H1 → va_D A ws' → va_S A H0 H1 locs1 → W p l e R s m args below meth c H1 locs1 cells slots Q (F0 m (pc + 3) ls st1)) : W p l e R s m args below meth c H locs cells slots Q (F0 m pc ls st0) := by
  subst hst0
  obtain ⟨q1, q2, q3, q4⟩ := q
  have ht := hC0.2.2.2.2
  have hPc : va_P E.1 vwCl w H := by
    intro k z hz
    have h1 : (isC.map (fun i => ws[i]?))[k]? = some (some z) := by rw [hC, List.getElem?_map, hz]; rfl
    rw [List.getElem?_map] at h1
    cases hi : isC[k]? with
    | none => rw [hi] at h1; cases h1
    | some i => rw [hi] at h1; exact hP i z (Option.some.inj h1)
  have hDc : va_D (fun _ => True) w := (hD.sub isC hnd hC).weaken (fun _ _ _ _ => trivial)
  refine wr_go (va_runS (g := F0 m pc ls (As.reverse ++ rest)) hC0 (hM H.size) ⟨callB_of n ht (ws_good q1) rfl hrm.1 hrm.2 (ht _ q3) (ht _ kl) q4 hRm, ht _ q2⟩ ⟨fun a U g mk q => ⟨q.1, q.2.1, q.2.2.1, q.2.2.2.1, q.2.2.2.2.call⟩, fun U hU hW => ⟨rfl, by rw [hU], by rw [hU]; exact hPc, hDc, hG.warm hW⟩⟩ rfl hn hs rfl (lv_room hw) hdg hc) hst hP hD hS hA isC isR hC hC' (ha1.trans ha2.symm) (hR1.trans hR2.symm) hcov kk
theorem wrV {A : Nat → Prop} {H0 : Heap} {ws ws' wr : va_W} {as : List Nat} (isC isR : List Nat) (ci k0 : Nat) {fs : List Value} {qc : vw_C} (hC0 : CallFix p m c cc nL s args TG own) (q : CalV y bytes maxL ret n) (kl : Cond.methodLink own index y ∈ TG) (hM : Wr l E y bytes maxL ret rm (.ref b :: As) w w' v) (hrm : rm.cells = 0 ∧ rm.slots = 0) (hRm : rm.frames + 1 ≤ R.frames ∧ 8 + (maxL + 11) + rm.locals ≤ R.locals) (hc : cells + 0 ≤ R.cells ∧ slots + 0 ≤ R.slots)
    (hP : va_P E.1 vwCl ws H) (hD : va_D A ws) (hS : va_S A H0 H locs) (hA : ∀ q, H0.size ≤ q → A q) (hcl : vwCl[ci]? = some qc) (hqc : qc.1 = y.cls) (he : w[k0]? = some (b, .inr (ci, fs))) (hG : GG E s) (hnd : va_nd isC = true) (hC : isC.map (fun i => ws[i]?) = w.map some) (hC' : isC.map (fun i => ws'[i]?) = w'.map some) (ha1 : ws'.map Prod.fst = as) (ha2 : ws.map Prod.fst = as) (hR1 : isR.map (fun i => ws'[i]?) = wr.map some) (hR2 : isR.map (fun i => ws[i]?) = wr.map some) (hcov : (List.range ws'.length).all (fun i => isC.contains i || (isR.contains i && !isC.contains i)) = true)
    (hn : As.length = n) (hs : ls.size = nL) (hst0 : st0 = As.reverse ++ .ref b :: rest) (hw : (rest.map fun v => v.category).sum ≤ 8) (hdg : decode cc pc = .ok (.invokevirtual index, 3)) (hst : v.toList ++ rest = st1)
    (kk : ∀ (H1 : Heap) (locs1 : List Loc), va_P E.1 vwCl ws' H1 → va_D A ws' → va_S A H0 H1 locs1 → W p l e R s m args below meth c H1 locs1 cells slots Q (F0 m (pc + 3) ls st1)) : W p l e R s m args below meth c H locs cells slots Q (F0 m pc ls st0) := by
  subst hst0
  obtain ⟨q1, q2, q3, q4, q5⟩ := q
  have ht := hC0.2.2.2.2
  have hPc : va_P E.1 vwCl w H := by
    intro k z hz
    have h1 : (isC.map (fun i => ws[i]?))[k]? = some (some z) := by rw [hC, List.getElem?_map, hz]; rfl
    rw [List.getElem?_map] at h1
    cases hi : isC[k]? with
    | none => rw [hi] at h1; cases h1
    | some i => rw [hi] at h1; exact hP i z (Option.some.inj h1)
  have hDc : va_D (fun _ => True) w := (hD.sub isC hnd hC).weaken (fun _ _ _ _ => trivial)
  refine wr_go (va_runV (C := y.cls) (g := F0 m pc ls (As.reverse ++ .ref b :: rest)) hC0 (hM H.size) ⟨callB_of n ht (ws_good q1) rfl hrm.1 hrm.2 (ht _ q4) (ht _ kl) q5 hRm, ht _ q2, ht _ q3⟩ ⟨fun a U g mk q => ⟨q.1, q.2.1, q.2.2.1, q.2.2.2.1, q.2.2.2.2.call⟩, by rw [← hqc]; exact va_recv hG.1 hPc hcl he, fun U hU hW => ⟨rfl, by rw [hU], by rw [hU]; exact hPc, hDc, hG.warm hW⟩⟩ rfl hn hs rfl (lv_room hw) hdg hc) hst hP hD hS hA isC isR hC hC' (ha1.trans ha2.symm) (hR1.trans hR2.symm) hcov kk
end BC
/-! cells -/
abbrev ai (E : EE) (a n : Nat) (f : Nat → Int32) : Nat × va_E := (a, .inl (E.2.1, n, .inl f))
/-! names for computed things in the pure functions -/
def nm {α β : Type} (e : α) (k : α → β) : β := k e
theorem nm_s {α β : Type} {x e : α} {k : α → β} {r : β} (h : x = e) (hv : nm e k = r) : k x = r := by subst h; exact hv
/-- places of a copy -/
def cg (i j n : Int32) (n0 n1 : Nat) : Bool := decide (¬ i < 0 ∧ ¬ j < 0 ∧ ¬ n < 0 ∧ i.toNatClampNeg + n.toNatClampNeg ≤ n0 ∧ j.toNatClampNeg + n.toNatClampNeg ≤ n1)
theorem cg_s {i j n : Int32} {n0 n1 : Nat} (h : cg i j n n0 n1 = true) : ¬ i < 0 ∧ ¬ j < 0 ∧ ¬ n < 0 ∧ i.toNatClampNeg + n.toNatClampNeg ≤ n0 ∧ j.toNatClampNeg + n.toNatClampNeg ≤ n1 := of_decide_eq_true h
section LSW2
variable {p : Program} {l : Launch} {e : Env} {R : Room} {s : State} {m : MethodId} {args : Array Value} {below : List Frame} {meth : Method} {c : Code} {H : Heap} {locs : List Loc} {cells slots : Nat} {Q : State → Prop}
variable {cc : ByteArray} {pc : Nat} {ls : Array Slot} {rest : List Value}
theorem lv_tableD (hexec : p.tables.exec = Jvm.exec) (hb : c.code = cc) {dflt lo hi : Int} {offs : Array Int} {len : Nat} {x : Int32} {tgt : Nat} (hdg : decode cc pc = .ok (.tableswitch dflt lo hi offs, len)) (h : ∀ i : Nat, i < offs.size → offs[i]? = some dflt ∨ ¬ x.toInt = lo + (i : Int)) (hn : hi = lo + (offs.size : Int) - 1) (ht : (pc : Int) + dflt = (tgt : Int))
    (k : W p l e R s m args below meth c H locs cells slots Q (F0 m tgt ls rest)) : W p l e R s m args below meth c H locs cells slots Q (F0 m pc ls (.int x :: rest)) := by
  by_cases h1 : x.toInt < lo
  · exact lv_tableOut hexec hb hdg (Or.inl h1) ht k
  · by_cases h2 : hi < x.toInt
    · exact lv_tableOut hexec hb hdg (Or.inr h2) ht k
    · have hlt : (x.toInt - lo).toNat < offs.size := by omega
      rcases h _ hlt with g | g
      · exact lv_tableIn hexec hb hdg h1 h2 g ht k
      · exact absurd (show x.toInt = lo + (((x.toInt - lo).toNat : Nat) : Int) by omega) g
end LSW2
theorem arrV_full {c : ClassId} {n : Nat} {f g : Nat → Int32} : vp_cell c (n, .inl (va_cpy f g 0 0 n)) = vp_cell c (n, .inl f) := by
  rw [vp_cell_i, vp_cell_i]
  unfold arrV
  congr 1
  apply Array.ext
  · simp
  · intro i h1 h2
    have hi : i < n := by simpa using h1
    simp [va_cpy, hi]
/-- a whole copy: the target holds what the source holds -/
theorem va_P_full {D : va_G} {cl : List vw_C} {ws ws' : va_W} {H : Heap} {a n : Nat} {cA : ClassId} {f g : Nat → Int32} (k : Nat) (hP : va_P D cl ws H) (h : ws[k]? = some (a, .inl (cA, n, .inl (va_cpy f g 0 0 n)))) (h' : ws.set k (a, .inl (cA, n, .inl f)) = ws') : va_P D cl ws' H := by
  subst h'
  have hl := (List.getElem?_eq_some_iff.mp h).1
  intro j q hj
  by_cases hjk : j = k
  · subst hjk
    rw [List.getElem?_set_self hl] at hj
    cases hj
    have := hP j _ h
    show H[a]? = some (vp_cell cA (n, .inl f))
    rw [← arrV_full (g := g)]
    exact this
  · rw [List.getElem?_set_ne (Ne.symm hjk)] at hj
    exact hP j q hj
theorem va_D_set {A : Nat → Prop} {ws ws' : va_W} {a : Nat} {e0 e : va_E} (k : Nat) (hD : va_D A ws) (h : ws[k]? = some (a, e0)) (h' : ws.set k (a, e) = ws') : va_D A ws' := h' ▸ hD.set h
/-! cells -/
abbrev oSt (h a0 a1 a2 a3 a4 a5 : Nat) (x6 x7 x8 x9 x10 : Int32) : Nat × va_E := (h, .inr (2, [.ref a0, .ref a1, .ref a2, .ref a3, .ref a4, .ref a5, .int x6, .int x7, .int x8, .int x9, .int x10]))
abbrev oSh (h a0 : Nat) (x1 x2 x3 x4 x5 : Int32) : Nat × va_E := (h, .inr (1, [.ref a0, .int x1, .int x2, .int x3, .int x4, .int x5]))
abbrev oBp (h now mind kept : Nat) (img : Int32) (rails sa : Nat) : Nat × va_E := (h, .inr (3, [.ref now, .ref mind, .ref kept, .int img, .ref rails, .ref sa]))
abbrev oMo (h a0 a1 a2 a3 : Nat) (x4 x5 x6 x7 : Int32) (a8 a9 : Nat) (x10 : Int32) (a11 a12 a13 a14 a15 a16 : Nat) (x17 : Int32) : Nat × va_E := (h, .inr (4, [.ref a0, .ref a1, .ref a2, .ref a3, .int x4, .int x5, .int x6, .int x7, .ref a8, .ref a9, .int x10, .ref a11, .ref a12, .ref a13, .ref a14, .ref a15, .ref a16, .int x17]))
abbrev oRa (h a0 a1 : Nat) (x2 : Int32) : Nat × va_E := (h, .inr (0, [.ref a0, .ref a1, .int x2]))
abbrev aS (E : EE) (a : Nat) (f : Nat → Option Nat) : Nat × va_E := (a, .inl (E.2.2.1, 8, .inr (.inr (.inr (.inr f)))))
theorem i_X5 : ∀ w ∈ u_ws RX5 TX5 3, w ∈ TG := fun w h => tg ((by decide +kernel : ∀ w ∈ u_ws RX5 TX5 3, w ∈ lw_tbl) w h) ((by decide +kernel : ∀ w ∈ u_ws RX5 TX5 3, goodWord w = true) w h)
theorem i_X7 : ∀ w ∈ u_ws RX7 TX7 6, w ∈ TG := fun w h => tg ((by decide +kernel : ∀ w ∈ u_ws RX7 TX7 6, w ∈ lw_tbl) w h) ((by decide +kernel : ∀ w ∈ u_ws RX7 TX7 6, goodWord w = true) w h)
theorem i_X8 : ∀ w ∈ u_ws RX8 TX8 11, w ∈ TG := fun w h => tg ((by decide +kernel : ∀ w ∈ u_ws RX8 TX8 11, w ∈ lw_tbl) w h) ((by decide +kernel : ∀ w ∈ u_ws RX8 TX8 11, goodWord w = true) w h)
theorem i_X9 : ∀ w ∈ u_ws RX9 TX9 6, w ∈ TG := fun w h => tg ((by decide +kernel : ∀ w ∈ u_ws RX9 TX9 6, w ∈ lw_tbl) w h) ((by decide +kernel : ∀ w ∈ u_ws RX9 TX9 6, goodWord w = true) w h)
theorem i_X10 : ∀ w ∈ u_ws RX10 TX10 18, w ∈ TG := fun w h => tg ((by decide +kernel : ∀ w ∈ u_ws RX10 TX10 18, w ∈ lw_tbl) w h) ((by decide +kernel : ∀ w ∈ u_ws RX10 TX10 18, goodWord w = true) w h)
