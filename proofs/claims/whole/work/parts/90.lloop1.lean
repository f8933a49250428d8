theorem sw_0 (d : Nat) : sw d 0 = d := if_pos rfl
theorem sw_d {d : Nat} : sw d d = 0 := by
  unfold sw
  by_cases h : d = 0
  · rw [if_pos h]; exact h
  · rw [if_neg h, if_pos rfl]
theorem sw_n {d j : Nat} (h1 : j ≠ 0) (h2 : j ≠ d) : sw d j = j := by unfold sw; rw [if_neg h1, if_neg h2]
theorem sw_sw (d j : Nat) : sw d (sw d j) = j := by
  by_cases h1 : j = 0
  · subst h1; rw [sw_0, sw_d]
  · by_cases h2 : j = d
    · subst h2; rw [sw_d, sw_0]
    · rw [sw_n h1 h2, sw_n h1 h2]
theorem sw_lt {d j : Nat} (h8 : d < 8) (hj : j < 8) : sw d j < 8 := by
  unfold sw
  split
  · exact h8
  · split
    · decide
    · exact hj
theorem sw_inj {d i j : Nat} (h : sw d i = sw d j) : i = j := by
  have := congrArg (sw d) h
  rw [sw_sw, sw_sw] at this
  exact this
theorem rotNA {p : Program} {l : Launch} {e : Env} {s : State} {m : MethodId} {below : List Frame} {meth : Method} {c : Code} {b : Nat} {E : EE} {cL : ClassId} {ad qa qe : Nat → Nat} {sh rg : Nat → Option Nat} {rwf : Nat → Nat} {σ : Nat → Nat} {x4 : Int32} {cells slots pc d : Nat} (h0 : 0 ≤ d) (h8 : d < 8) (kk : Nx p l e s m below meth c b E cL ad qa qe sh rg rwf σ x4 cells slots pc) : Nx p l e s m below meth c b E cL ad (fun j => qa (sw d j)) (fun j => qe (sw d j)) sh rg rwf (fun j => σ (sw d j)) x4 cells slots pc := by
  intro h k f r m y mv st P ne dy mh mk mf mr mm ms mo mt mp mn md gh gk gf gr gm gs go gt gp gn gd img rp Y V el ho ki fi so si S M I B hi pl ra re nu mx sd K KK KF SO SI EL th og hI H locs ls hP hD hS hl
  obtain ⟨hP1, hD1⟩ := rotB h0 h8 hP hD
  have hI2 : ∀ j, j < 8 → Shl (σ j) (el (sw d j)) (ho (sw d j)) (ki (sw d j)) (fi (sw d j)) (so (sw d j)) (si (sw d j)) K KK KF SO SI EL := fun j hj => by
    have := hI.2.1 (sw d j) (sw_lt h8 hj)
    simp only [sw_sw] at this
    exact this
  exact kk h k f r m y mv st P ne dy mh mk mf mr mm ms mo mt mp mn md gh gk gf gr gm gs go gt gp gn gd img rp Y V (fun j => el (sw d j)) (fun j => ho (sw d j)) (fun j => ki (sw d j)) (fun j => fi (sw d j)) (fun j => so (sw d j)) (fun j => si (sw d j)) S M I B hi pl ra re nu mx sd K KK KF SO SI EL th og ⟨hI.1, hI2, hI.2.2⟩ H locs ls hP1 hD1 hS hl
theorem rotNB {p : Program} {l : Launch} {e : Env} {s : State} {m : MethodId} {below : List Frame} {meth : Method} {c : Code} {b : Nat} {E : EE} {cL : ClassId} {ad qa qe : Nat → Nat} {sh rg : Nat → Option Nat} {rwf : Nat → Nat} {σ : Nat → Nat} {x4 : Int32} {cells slots pc d : Nat} (h0 : 0 ≤ d) (h8 : d < 8) (kk : Nx p l e s m below meth c b E cL ad (fun j => qa (sw d j)) (fun j => qe (sw d j)) sh rg rwf (fun j => σ (sw d j)) x4 cells slots pc) : Nx p l e s m below meth c b E cL ad qa qe sh rg rwf σ x4 cells slots pc := by
  intro h k f r m y mv st P ne dy mh mk mf mr mm ms mo mt mp mn md gh gk gf gr gm gs go gt gp gn gd img rp Y V el ho ki fi so si S M I B hi pl ra re nu mx sd K KK KF SO SI EL th og hI H locs ls hP hD hS hl
  obtain ⟨hP1, hD1⟩ := rotA h0 h8 hP hD
  exact kk h k f r m y mv st P ne dy mh mk mf mr mm ms mo mt mp mn md gh gk gf gr gm gs go gt gp gn gd img rp Y V (fun j => el (sw d j)) (fun j => ho (sw d j)) (fun j => ki (sw d j)) (fun j => fi (sw d j)) (fun j => so (sw d j)) (fun j => si (sw d j)) S M I B hi pl ra re nu mx sd K KK KF SO SI EL th og ⟨hI.1, fun j hj => hI.2.1 (sw d j) (sw_lt h8 hj), hI.2.2⟩ H locs ls hP1 hD1 hS hl
theorem sx_0 (d : Nat) : sx d 1 = d := if_pos rfl
theorem sx_d {d : Nat} : sx d d = 1 := by
  unfold sx
  by_cases h : d = 1
  · rw [if_pos h]; exact h
  · rw [if_neg h, if_pos rfl]
theorem sx_n {d j : Nat} (h1 : j ≠ 1) (h2 : j ≠ d) : sx d j = j := by unfold sx; rw [if_neg h1, if_neg h2]
theorem sx_sx (d j : Nat) : sx d (sx d j) = j := by
  by_cases h1 : j = 1
  · subst h1; rw [sx_0, sx_d]
  · by_cases h2 : j = d
    · subst h2; rw [sx_d, sx_0]
    · rw [sx_n h1 h2, sx_n h1 h2]
theorem sx_lt {d j : Nat} (h8 : d < 8) (hj : j < 8) : sx d j < 8 := by
  unfold sx
  split
  · exact h8
  · split
    · decide
    · exact hj
theorem sx_inj {d i j : Nat} (h : sx d i = sx d j) : i = j := by
  have := congrArg (sx d) h
  rw [sx_sx, sx_sx] at this
  exact this
theorem roxNA {p : Program} {l : Launch} {e : Env} {s : State} {m : MethodId} {below : List Frame} {meth : Method} {c : Code} {b : Nat} {E : EE} {cL : ClassId} {ad qa qe : Nat → Nat} {sh rg : Nat → Option Nat} {rwf : Nat → Nat} {σ : Nat → Nat} {x4 : Int32} {cells slots pc d : Nat} (h0 : 1 ≤ d) (h8 : d < 8) (kk : Nx p l e s m below meth c b E cL ad qa qe sh rg rwf σ x4 cells slots pc) : Nx p l e s m below meth c b E cL ad (fun j => qa (sx d j)) (fun j => qe (sx d j)) sh rg rwf (fun j => σ (sx d j)) x4 cells slots pc := by
  intro h k f r m y mv st P ne dy mh mk mf mr mm ms mo mt mp mn md gh gk gf gr gm gs go gt gp gn gd img rp Y V el ho ki fi so si S M I B hi pl ra re nu mx sd K KK KF SO SI EL th og hI H locs ls hP hD hS hl
  obtain ⟨hP1, hD1⟩ := roxB h0 h8 hP hD
  have hI2 : ∀ j, j < 8 → Shl (σ j) (el (sx d j)) (ho (sx d j)) (ki (sx d j)) (fi (sx d j)) (so (sx d j)) (si (sx d j)) K KK KF SO SI EL := fun j hj => by
    have := hI.2.1 (sx d j) (sx_lt h8 hj)
    simp only [sx_sx] at this
    exact this
  exact kk h k f r m y mv st P ne dy mh mk mf mr mm ms mo mt mp mn md gh gk gf gr gm gs go gt gp gn gd img rp Y V (fun j => el (sx d j)) (fun j => ho (sx d j)) (fun j => ki (sx d j)) (fun j => fi (sx d j)) (fun j => so (sx d j)) (fun j => si (sx d j)) S M I B hi pl ra re nu mx sd K KK KF SO SI EL th og ⟨hI.1, hI2, hI.2.2⟩ H locs ls hP1 hD1 hS hl
theorem roxNB {p : Program} {l : Launch} {e : Env} {s : State} {m : MethodId} {below : List Frame} {meth : Method} {c : Code} {b : Nat} {E : EE} {cL : ClassId} {ad qa qe : Nat → Nat} {sh rg : Nat → Option Nat} {rwf : Nat → Nat} {σ : Nat → Nat} {x4 : Int32} {cells slots pc d : Nat} (h0 : 1 ≤ d) (h8 : d < 8) (kk : Nx p l e s m below meth c b E cL ad (fun j => qa (sx d j)) (fun j => qe (sx d j)) sh rg rwf (fun j => σ (sx d j)) x4 cells slots pc) : Nx p l e s m below meth c b E cL ad qa qe sh rg rwf σ x4 cells slots pc := by
  intro h k f r m y mv st P ne dy mh mk mf mr mm ms mo mt mp mn md gh gk gf gr gm gs go gt gp gn gd img rp Y V el ho ki fi so si S M I B hi pl ra re nu mx sd K KK KF SO SI EL th og hI H locs ls hP hD hS hl
  obtain ⟨hP1, hD1⟩ := roxA h0 h8 hP hD
  exact kk h k f r m y mv st P ne dy mh mk mf mr mm ms mo mt mp mn md gh gk gf gr gm gs go gt gp gn gd img rp Y V (fun j => el (sx d j)) (fun j => ho (sx d j)) (fun j => ki (sx d j)) (fun j => fi (sx d j)) (fun j => so (sx d j)) (fun j => si (sx d j)) S M I B hi pl ra re nu mx sd K KK KF SO SI EL th og ⟨hI.1, fun j hj => hI.2.1 (sx d j) (sx_lt h8 hj), hI.2.2⟩ H locs ls hP1 hD1 hS hl
theorem by_shelf {p : Program} {l : Launch} {e : Env} {s : State} {m : MethodId} {below : List Frame} {meth : Method} {c : Code} {b : Nat} {E : EE} {cL : ClassId} {ad qa qe : Nat → Nat} {sh rg : Nat → Option Nat} {rwf : Nat → Nat} (hsh : ∀ d, d < 8 → sh d = some (qa d)) {v x4 : Int32} {cells slots cells' slots' pc pc' : Nat}
    (op : ∀ (qa' qe' σ : Nat → Nat), ((v = nI (σ 0) ∧ σ 0 < 8) ∨ wiB v 0 7 = false) → sh (σ 0) = some (qa' 0) → (∀ j, 0 < j → j < 8 → σ j ≠ σ 0 ∧ σ j < 8) → Nx p l e s m below meth c b E cL ad qa' qe' sh rg rwf σ x4 cells' slots' pc' → Nx p l e s m below meth c b E cL ad qa' qe' sh rg rwf σ x4 cells slots pc)
    (kk : Nx p l e s m below meth c b E cL ad qa qe sh rg rwf (fun j => j) x4 cells' slots' pc') : Nx p l e s m below meth c b E cL ad qa qe sh rg rwf (fun j => j) x4 cells slots pc := by
  cases cw : wiB v 0 7 with
  | false => exact op qa qe (fun j => j) (Or.inr cw) (hsh 0 (by decide)) (fun j h1 h2 => ⟨fun z => absurd z (by omega), h2⟩) kk
  | true =>
    obtain ⟨d, hd, ev⟩ := shelf_of cw
    refine rotNB (Nat.zero_le d) hd (op _ _ _ (Or.inl ⟨ev, hd⟩) (hsh d hd) (fun j h1 h2 => ⟨fun z => ?_, sw_lt hd h2⟩) (rotNA (Nat.zero_le d) hd kk))
    exact absurd (sw_inj z) (by omega)
theorem by_two {p : Program} {l : Launch} {e : Env} {s : State} {m : MethodId} {below : List Frame} {meth : Method} {c : Code} {b : Nat} {E : EE} {cL : ClassId} {ad qa qe : Nat → Nat} {sh rg : Nat → Option Nat} {rwf : Nat → Nat} (hsh : ∀ d, d < 8 → sh d = some (qa d)) {v v3 x4 : Int32} {cells slots cells' slots' pc pc' : Nat}
    (op : ∀ (qa' qe' σ : Nat → Nat), ((v = nI (σ 0) ∧ σ 0 < 8) ∨ wiB v 0 7 = false) → sh (σ 0) = some (qa' 0) → ((v3 = nI (σ 1) ∧ σ 1 < 8) ∨ wiB v3 0 7 = false) → sh (σ 1) = some (qa' 1) → (∀ j, j ≠ 1 → j < 8 → σ j ≠ σ 1 ∧ σ j < 8) → Nx p l e s m below meth c b E cL ad qa' qe' sh rg rwf σ x4 cells' slots' pc' → Nx p l e s m below meth c b E cL ad qa' qe' sh rg rwf σ x4 cells slots pc)
    (ops : ∀ (qa' qe' σ : Nat → Nat), ((v = nI (σ 0) ∧ σ 0 < 8) ∨ wiB v 0 7 = false) → sh (σ 0) = some (qa' 0) → (v3 = nI (σ 0) ∧ σ 0 < 8) → (∀ j, 0 < j → j < 8 → σ j ≠ σ 0 ∧ σ j < 8) → Nx p l e s m below meth c b E cL ad qa' qe' sh rg rwf σ x4 cells' slots' pc' → Nx p l e s m below meth c b E cL ad qa' qe' sh rg rwf σ x4 cells slots pc)
    (kk : Nx p l e s m below meth c b E cL ad qa qe sh rg rwf (fun j => j) x4 cells' slots' pc') : Nx p l e s m below meth c b E cL ad qa qe sh rg rwf (fun j => j) x4 cells slots pc := by
  cases cw : wiB v 0 7 with
  | false =>
    cases cu : wiB v3 0 7 with
    | false => exact op qa qe (fun j => j) (Or.inr cw) (hsh 0 (by decide)) (Or.inr cu) (hsh 1 (by decide)) (fun j h1 h2 => ⟨h1, h2⟩) kk
    | true =>
      obtain ⟨d, hd, ev⟩ := shelf_of cu
      by_cases d0 : d = 0
      · subst d0
        refine rotNB (d := 1) (by decide) (by decide) (op _ _ _ (Or.inr cw) (hsh 1 (by decide)) (Or.inl ⟨ev, by decide⟩) (hsh 0 (by decide)) (fun j h1 h2 => ⟨fun z => h1 (sw_inj z), sw_lt (by decide) h2⟩) (rotNA (d := 1) (by decide) (by decide) kk))
      · refine roxNB (show 1 ≤ d by omega) hd (op _ _ _ (Or.inr cw) (hsh (sx d 0) (sx_lt hd (by decide))) (Or.inl ⟨ev, hd⟩) (hsh d hd) (fun j h1 h2 => ⟨fun z => h1 (sx_inj z), sx_lt hd h2⟩) (roxNA (show 1 ≤ d by omega) hd kk))
  | true =>
    obtain ⟨d, hd, ev⟩ := shelf_of cw
    cases cu : wiB v3 0 7 with
    | false => exact rotNB (Nat.zero_le d) hd (op _ _ _ (Or.inl ⟨ev, hd⟩) (hsh d hd) (Or.inr cu) (hsh (sw d 1) (sw_lt hd (by decide))) (fun j h1 h2 => ⟨fun z => h1 (sw_inj z), sw_lt hd h2⟩) (rotNA (Nat.zero_le d) hd kk))
    | true =>
      obtain ⟨d3, hd3, ev3⟩ := shelf_of cu
      by_cases dd : d3 = d
      · subst dd
        refine rotNB (Nat.zero_le d3) hd3 (ops _ _ _ (Or.inl ⟨ev, hd3⟩) (hsh d3 hd3) ⟨ev3, hd3⟩ (fun j h1 h2 => ⟨fun z => ?_, sw_lt hd3 h2⟩) (rotNA (Nat.zero_le d3) hd3 kk))
        exact absurd (sw_inj z) (by omega)
      · have e1 : sw d d3 ≠ 0 := fun z => dd (sw_inj (z.trans sw_d.symm))
        have e2 : sw d d3 < 8 := sw_lt hd hd3
        have s0 : sx (sw d d3) 0 = 0 := sx_n (by decide) (fun z => e1 z.symm)
        have s1 : sw d (sx (sw d d3) 0) = d := by rw [s0, sw_0]
        have s2 : sw d (sx (sw d d3) 1) = d3 := by rw [sx_0, sw_sw]
        refine rotNB (Nat.zero_le d) hd (roxNB (d := sw d d3) (by omega) e2 (op _ _ _ (Or.inl ⟨?_, ?_⟩) (hsh _ (sw_lt hd (sx_lt e2 (by decide)))) (Or.inl ⟨?_, ?_⟩) (hsh _ (sw_lt hd (sx_lt e2 (by decide)))) (fun j h1 h2 => ⟨fun z => h1 (sx_inj (sw_inj z)), sw_lt hd (sx_lt e2 h2)⟩) (roxNA (d := sw d d3) (by omega) e2 (rotNA (Nat.zero_le d) hd kk))))
        · show v = nI (sw d (sx (sw d d3) 0))
          rw [s1]; exact ev
        · show sw d (sx (sw d d3) 0) < 8
          rw [s1]; exact hd
        · show v3 = nI (sw d (sx (sw d d3) 1))
          rw [s2]; exact ev3
        · show sw d (sx (sw d d3) 1) < 8
          rw [s2]; exact hd3
