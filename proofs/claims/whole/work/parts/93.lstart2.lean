theorem st_dc : ∀ c ∈ dcL, Cond.declares (Bundle.initS c) ∈ lw_tbl := by decide +kernel
theorem st_cs : ∀ c ∈ csL, Cond.castable c c ∈ lw_tbl := by decide +kernel
theorem st_st : ∀ q ∈ stL, Cond.stringRef q.1 q.2.1 q.2.2 ∈ lw_tbl := by decide +kernel
theorem st_nc : ∀ q ∈ ncL, Cond.not (Cond.castable q.1 q.2) ∈ flatC (Jvm.Cond.and given_1 narrow_1) := by decide +kernel
theorem st_str {s : State} {args : Array Value} {own tx : String} {k : Nat} (h : (Cond.stringRef own k tx).before args s = true) : ∃ a, vk_R own k tx a s := by
  have hcur : ∃ cur, s.vm.findClass own = some cur := by
    have h1 := h
    simp only [Cond.before, Cond.holds, Cond.value] at h1
    cases hc : s.vm.findClass own with
    | none => simp [hc] at h1
    | some cur => exact ⟨cur, rfl⟩
  obtain ⟨cur, hcur⟩ := hcur
  have h0 : (Cond.stringRef own k tx).before #[] s = true := by
    simp only [Cond.before, Cond.holds, Cond.value] at h ⊢
    exact h
  obtain ⟨-, -, -, a, -, -, -, -, -, he⟩ := Cond.stringRef_spec (args := #[]) (first := s) (o := none) (idx := []) hcur (show (Cond.stringRef own k tx).holds #[] s none s [] = true from h0)
  exact ⟨a, h0, he⟩
theorem st_l1 : Cond.laysStatic Bundle.tN "UNASSIGNED_STACK" Bundle.steD ∈ lw_tbl := by decide +kernel
theorem st_l2 : Cond.laysStatic Bundle.tN "SUPPRESSED_SENTINEL" Bundle.listD ∈ lw_tbl := by decide +kernel
theorem st_it : Cond.initialized Bundle.tN ∈ lw_tbl := by decide +kernel
theorem st_r1 : Cond.isRef (.static Bundle.tN "UNASSIGNED_STACK" Bundle.steD) ∈ flatC (Jvm.Cond.and given_1 narrow_1) := by decide +kernel
theorem st_r2 : Cond.isRef (.static Bundle.tN "SUPPRESSED_SENTINEL" Bundle.listD) ∈ flatC (Jvm.Cond.and given_1 narrow_1) := by decide +kernel
theorem st_fl : flags0.contains noTraceFlag = true := by decide +kernel
theorem st_TX {l : Launch} {s : State} {args : Array Value} (hflags : l.flags = flags0) (hts : ∀ w ∈ lw_tbl, w.before args s = true) (hgv : (Jvm.Cond.and given_1 narrow_1).before args s = true) : TX l (fun q => s.heap.size ≤ q) s s.heap := by
  have hf := flat_of_before _ hgv
  refine ⟨?_, fun c hc => va_Nw.of rfl (hts _ (st_dc c hc)), fun c hc => va_Nw.of rfl (hts _ (st_cs c hc)), fun q hq => st_str (hts _ (st_st q hq)), fun q hq => va_Nc.of (hf _ (st_nc q hq)), ?_, ?_⟩
  · show (!l.flags.contains noTraceFlag) = false
    rw [hflags, st_fl]
    rfl
  · exact vx_Zqof (hts _ st_l1) (hts _ st_it) (hf _ st_r1) (fun a h => Nat.not_le.mpr h)
  · exact vx_Zqof (hts _ st_l2) (hts _ st_it) (hf _ st_r2) (fun a h => Nat.not_le.mpr h)
/-! the law's first cells -/
theorem st_k8 : Cond.classLink R_law 8 RX9 ∈ lw_tbl := by decide +kernel
theorem st_k18 : Cond.classLink R_law 18 RX10 ∈ lw_tbl := by decide +kernel
theorem st_i9 : Cond.initialized RX9 ∈ lw_tbl := by decide +kernel
theorem st_i10 : Cond.initialized RX10 ∈ lw_tbl := by decide +kernel
theorem st_m17 : Cond.methodLink RL 17 yX9_init ∈ TG := tg (tb_1 (List.mem_of_getElem? (i := 23) rfl)) rfl
theorem st_m20 : Cond.methodLink RL 20 yX10_init ∈ TG := tg (tb_4 (List.mem_of_getElem? (i := 130) rfl)) rfl
theorem st_c9 : Cond.code yX9_init cX9_init 2 none ∈ TG := tg (tb_1 (List.mem_of_getElem? (i := 25) rfl)) rfl
theorem st_c10 : Cond.code yX10_init cX10_init 2 none ∈ TG := tg (tb_4 (List.mem_of_getElem? (i := 132) rfl)) rfl
theorem st_n9 : Cond.instanceMethod yX9_init ∈ TG := tg (tb_1 (List.mem_of_getElem? (i := 24) rfl)) rfl
theorem st_n10 : Cond.instanceMethod yX10_init ∈ TG := tg (tb_4 (List.mem_of_getElem? (i := 131) rfl)) rfl
theorem q_X9_init : CalI yX9_init cX9_init 2 := ⟨st_c9, st_n9, tg st_i9 rfl, rfl, by decide +kernel, by decide +kernel, by decide +kernel⟩
theorem q_X10_init : CalI yX10_init cX10_init 2 := ⟨st_c10, st_n10, tg st_i10 rfl, rfl, by decide +kernel, by decide +kernel, by decide +kernel⟩
def adL (l : List Nat) (j : Nat) : Nat := l.getD j 0
theorem mk_newaL {p : Program} {l : Launch} {e : Env} {R : Room} {s : State} {m : MethodId} {args : Array Value} {below : List Frame} {meth : Method} {c : Code} {H : Heap} {locs : List Loc} {cells slots : Nat} {Q : State → Prop} {cc : ByteArray} {pc : Nat} {E : EE} {cL : ClassId} {ls : Array Slot} {rest : List Value} {A : Nat → Prop} {H0 : Heap} {ws : va_W} (hx : p.tables.exec = Jvm.exec) (hb : c.code = cc) (harr : (Cond.arrayClass .long).before args s = true) (hK : va_K E.1 vwCl [(cL, .long)] s) (hP : va_P E.1 vwCl ws H) (hD : va_D A ws) (hS : va_S A H0 H locs) (hA : ∀ q, H0.size ≤ q → A q) (hcells : cells + 1 ≤ R.cells) (hslots : slots + 1 ≤ R.slots) (hdg : decode cc pc = .ok (.newarray .long, 2))
    (kk : ∀ (q : Nat) (H1 : Heap), va_P E.1 vwCl (ws ++ [oLo cL q (fun _ => 0)]) H1 → va_D A (ws ++ [oLo cL q (fun _ => 0)]) → va_S A H0 H1 locs → W p l e R s m args below meth c H1 locs (cells + 1) (slots + 1) Q (F0 m (pc + 2) ls (.ref q :: rest))) : W p l e R s m args below meth c H locs cells slots Q (F0 m pc ls (.int 1 :: rest)) := by
  refine va_newa (atype := .long) (ty := .long) (N' := 1) (a0 := (1, .inr (.inl (fun _ => 0)))) hx hb harr rfl hK hP hD hS hA (fun cA => vp_cell_l ..) (by decide) rfl (by decide) hcells hslots hdg (fun q cA H1 hK1 hP1 hD1 hS1 => ?_)
  have e1 := (hK.2 0 _ rfl).2
  have e2 := (hK1.2 1 _ rfl).2
  have ec : cA = cL := Option.some.inj (e2.symm.trans e1)
  subst ec
  exact kk q H1 hP1 hD1 hS1
theorem st_St : St hgt0 z0 z0 z0 z0 0 0 10 0 mod0 := by
  refine ⟨⟨rfl, rfl, rfl, rfl, fun b hb => ?_, fun p hp => absurd hp (Nat.not_lt_zero _)⟩, by decide, fun b hb => ⟨b / 2, by omega, if_pos hb⟩, fun p hp => absurd hp (Nat.not_lt_zero _), fun p hp => absurd hp (Nat.not_lt_zero _), fun p hp => absurd hp (Nat.not_lt_zero _), ⟨10, by decide, by decide, rfl⟩, ⟨0, by decide, rfl⟩, fun p hp => absurd hp (Nat.not_lt_zero _)⟩
  unfold mod0 hgt0
  rw [if_neg (by omega), if_pos (by omega), if_pos hb, Nat.add_sub_cancel_left]
theorem st_Shl (d : Nat) : Shl d z0 0 0 0 0 0 z0 z0 z0 z0 z0 z0 := ⟨rfl, rfl, rfl, ⟨0, by decide, rfl⟩, Or.inl rfl, Or.inl rfl, fun h => absurd h (by decide), fun _ _ => rfl, fun _ _ _ => rfl⟩
theorem st_LI : LI (fun j => j) hgt0 z0 z0 z0 z0 0 0 10 0 hgt0 z0 z0 z0 z0 0 0 10 0 0 (fun _ => z0) (fun _ => 0) (fun _ => 0) (fun _ => 0) (fun _ => 0) (fun _ => 0) mod0 z0 0 z0 z0 z0 z0 z0 z0 :=
  ⟨st_St, fun d _ => st_Shl d, rfl, Or.inl rfl, fun h => absurd h (by decide)⟩
