/-! what the law's start gives: classes, array classes, what a throw needs -/
theorem nw_in : ∀ q ∈ nwL, Cond.methodLinkNest q.1 q.2.1 q.2.2.1 q.2.2.2 ∈ lw_tbl := by decide +kernel
theorem ao_in : Cond.arrayOver (.object "BalconiesParliament$Shelf") ∈ lw_tbl := by decide +kernel
theorem aa_in : Cond.arrayOver (.array .int) ∈ lw_tbl := by decide +kernel
theorem ai_in : Cond.arrayClass .int ∈ lw_tbl := by decide +kernel
theorem al_in : Cond.arrayClass .long ∈ lw_tbl := by decide +kernel
theorem in_X5 : Cond.instantiable RX5 3 ∈ TG := tg (by decide +kernel) rfl
theorem in_X7 : Cond.instantiable RX7 6 ∈ TG := tg (by decide +kernel) rfl
theorem in_X8 : Cond.instantiable RX8 11 ∈ TG := tg (by decide +kernel) rfl
theorem in_X9 : Cond.instantiable RX9 6 ∈ TG := tg (by decide +kernel) rfl
theorem in_X10 : Cond.instantiable RX10 18 ∈ TG := tg (by decide +kernel) rfl
theorem st_E {s : State} {args : Array Value} (hts : ∀ w ∈ lw_tbl, w.before args s = true) : ∃ (E : EE) (cL : ClassId), GG E s ∧ va_K E.1 vwCl [(cL, .long)] s := by
  have hTG : ∀ w ∈ TG, w.before args s = true := fun w hw => hts w (List.mem_filter.mp hw).1
  obtain ⟨c0, i0, k0⟩ := u_known (C := RX5) (T := TX5) (N := 3) (n := 3) hTG i_X5 (hTG _ in_X5)
  obtain ⟨c1, i1, k1⟩ := u_known (C := RX7) (T := TX7) (N := 6) (n := 6) hTG i_X7 (hTG _ in_X7)
  obtain ⟨c2, i2, k2⟩ := u_known (C := RX8) (T := TX8) (N := 11) (n := 11) hTG i_X8 (hTG _ in_X8)
  obtain ⟨c3, i3, k3⟩ := u_known (C := RX9) (T := TX9) (N := 6) (n := 6) hTG i_X9 (hTG _ in_X9)
  obtain ⟨c4, i4, k4⟩ := u_known (C := RX10) (T := TX10) (N := 18) (n := 18) hTG i_X10 (hTG _ in_X10)
  obtain ⟨dC, dI, hKc⟩ : ∃ (dC : Nat → ClassId) (dI : Nat → Nat → Nat), ∀ (k : Nat) (q : vw_C), vwCl[k]? = some q → u_Kn s q.1 q.2.1 q.2.2 (dC k) (dI k) := by
    refine ⟨fun k => match k with | 0 => c0 | 1 => c1 | 2 => c2 | 3 => c3 | _ => c4, fun k => match k with | 0 => i0 | 1 => i1 | 2 => i2 | 3 => i3 | _ => i4, ?_⟩
    intro k q hq
    match k, hq with
    | 0, hq => cases hq; exact k0
    | 1, hq => cases hq; exact k1
    | 2, hq => cases hq; exact k2
    | 3, hq => cases hq; exact k3
    | 4, hq => cases hq; exact k4
    | k + 5, hq => simp [vwCl] at hq
  obtain ⟨a0, n0, p0, x1, x2, x3⟩ := Cond.arrayClass_spec (show (Cond.arrayClass .int).holds args s none s [] = true from hts _ ai_in)
  obtain ⟨a1, n1, p1, y1, y2, y3⟩ := Cond.arrayClass_spec (show (Cond.arrayClass .long).holds args s none s [] = true from hts _ al_in)
  obtain ⟨p2, a2, n2, z1, z2, z3, z4, z5⟩ := Cond.arrayOver_spec (show (Cond.arrayOver (.object "BalconiesParliament$Shelf")).holds args s none s [] = true from hts _ ao_in)
  obtain ⟨p3, a3, n3, w1, w2, w3, w4⟩ := Cond.arrayOver_specA (show (Cond.arrayOver (.array .int)).holds args s none s [] = true from hts _ aa_in)
  refine ⟨((dC, dI), a0, a2, a3), a1, ⟨⟨hKc, fun k q hk => ?_⟩, fun q hq => va_Nw.of rfl (hts _ (nw_in q hq)), va_AO.of (hts _ ao_in), ?_⟩, hKc, fun k q hk => ?_⟩
  · match k, hk with
    | 0, hk => cases hk; exact ⟨fun n z => ⟨(fun k h => by cases h), n0, x2, p0, x3⟩, x1⟩
    | 1, hk => cases hk; exact ⟨fun n z => ⟨(fun k h => by cases h), n2, z3, p2, z4⟩, n2, p2, z3, z4, z1, z5⟩
    | 2, hk => cases hk; exact ⟨fun n z => ⟨(fun k h => by cases h), n3, w2, p3, w3⟩, w4⟩
    | k + 3, hk => simp at hk
  · exact hts _ aa_in
  · match k, hk with
    | 0, hk => cases hk; exact ⟨fun n z => ⟨(fun k h => by cases h), n1, y2, p1, y3⟩, y1⟩
    | k + 1, hk => simp at hk
