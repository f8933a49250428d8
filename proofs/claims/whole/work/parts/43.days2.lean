/-! THE PURE LAYER: a day, days on -/
def dStep (h k f r : Nat → Int32) (shut : Int32) (P p : Nat) (a : Int32 × (Nat → Int32)) : Int32 × (Nat → Int32) := if nmS h k f r shut P p a.2 = a.2 p then a else (1, upd a.2 p (nmS h k f r shut P p a.2))
theorem dStep_2 (h k f r : Nat → Int32) (shut : Int32) (P : Nat) : ∀ (d j : Nat) (a : Int32 × (Nat → Int32)), (fup (dStep h k f r shut P) j d a).2 = fup (fun p m => upd m p (nmS h k f r shut P p m)) j d a.2
  | 0, _, _ => rfl
  | d + 1, j, a => by
    show (fup (dStep h k f r shut P) (j + 1) d (dStep h k f r shut P j a)).2 = fup _ (j + 1) d (upd a.2 j (nmS h k f r shut P j a.2))
    rw [dStep_2 h k f r shut P d (j + 1)]
    unfold dStep
    by_cases e : nmS h k f r shut P j a.2 = a.2 j
    · rw [if_pos e, e, upd_same]
    · rw [if_neg e]
/-- the mark is 1 once one has changed; as long as it is 0 nothing has -/
theorem dStep_1 (h k f r : Nat → Int32) (shut : Int32) (P : Nat) : ∀ (d j : Nat) (a : Int32 × (Nat → Int32)), (a.1 = 0 ∨ a.1 = 1) → ((fup (dStep h k f r shut P) j d a).1 = 1 ∨ ((fup (dStep h k f r shut P) j d a).1 = 0 ∧ a.1 = 0 ∧ (fup (dStep h k f r shut P) j d a).2 = a.2))
  | 0, _, a, ha => by
    rcases ha with ha | ha
    · exact Or.inr ⟨ha, ha, rfl⟩
    · exact Or.inl ha
  | d + 1, j, a, ha => by
    show (fup (dStep h k f r shut P) (j + 1) d (dStep h k f r shut P j a)).1 = 1 ∨ ((fup (dStep h k f r shut P) (j + 1) d (dStep h k f r shut P j a)).1 = 0 ∧ a.1 = 0 ∧ (fup (dStep h k f r shut P) (j + 1) d (dStep h k f r shut P j a)).2 = a.2)
    by_cases e : nmS h k f r shut P j a.2 = a.2 j
    · have e2 : dStep h k f r shut P j a = a := by unfold dStep; rw [if_pos e]
      rw [e2]
      exact dStep_1 h k f r shut P d (j + 1) a ha
    · have e2 : dStep h k f r shut P j a = (1, upd a.2 j (nmS h k f r shut P j a.2)) := by unfold dStep; rw [if_neg e]
      rw [e2]
      rcases dStep_1 h k f r shut P d (j + 1) (1, upd a.2 j (nmS h k f r shut P j a.2)) (Or.inr rfl) with q | ⟨-, q, -⟩
      · exact Or.inl q
      · exact absurd (show (1 : Int32) = 0 from q) (by decide)
/-- a day of the class: b tells whether moods still change -/
theorem X8_nextDay_sp (h k f r m y : Nat → Int32) (shut day : Int32) {P N : Nat} (b : Bool) (hP : P ≤ 7) (hy : ∀ p, p < P → y p = bS (viS h r shut p) P) (hN : 8 ≤ N) (hb : b = false → dyS h k f r shut P m = m) :
    ∃ b' : Bool, f_X8_nextDay N k f m y (t01 b) (nI P) day = some (t01 b', t01 b', day + 1, dyS h k f r shut P m) ∧ (b' = false → dyS h k f r shut P m = m) := by
  rw [f_X8_nextDay]
  simp only [nm]
  rw [t01_if]
  cases b with
  | false =>
    refine ⟨false, ?_, hb⟩
    rw [hb rfl]
    rfl
  | true =>
    have e := lupI (P := P) (fun n i (a : Int32 × (Nat → Int32)) => L_X8_nextDay_26 N k f y (nI P) (day + 1) n i a.1 a.2) (dStep h k f r shut P) (fun a => some (a.1, a.1, day + 1, a.2)) (fun a => a.1 = 0 ∨ a.1 = 1) (fun n a ha => ?_) (fun n p a hp ha => ?_) P 0 N (0, m) (Or.inl rfl) (by omega) (by omega)
    · rw [if_pos rfl]
      have d2 := dStep_2 h k f r shut P P 0 (0, m)
      rcases dStep_1 h k f r shut P P 0 (0, m) (Or.inl rfl) with q | ⟨q, -, q2⟩
      · refine ⟨true, ?_, fun z => by cases z⟩
        refine Eq.trans e ?_
        rw [q, d2]
        rfl
      · refine ⟨false, ?_, fun _ => ?_⟩
        · refine Eq.trans e ?_
          rw [q, d2]
          rfl
        · exact d2.symm.trans q2
    · simp only [L_X8_nextDay_26]
      rw [if_pos (nI_le (Nat.le_refl P) (by omega)), gd_t (bz_t ha)]
    · refine ⟨?_, ?_⟩
      · show L_X8_nextDay_26 N k f y (nI P) (day + 1) (n + 1) (nI p) a.1 a.2 = L_X8_nextDay_26 N k f y (nI P) (day + 1) n (nI p + 1) (dStep h k f r shut P p a).1 (dStep h k f r shut P p a).2
        rw [L_X8_nextDay_26, if_neg (nI_nge hp hP), ob_t (X8_moodBehindLook_sp h k f r a.2 y shut hP hp hy hN), gd_t (ix7 (by omega)), gd_t (ix7 (by omega)), nI_cl (by omega)]
        unfold dStep
        by_cases e9 : nmS h k f r shut P p a.2 = a.2 p
        · rw [if_pos e9, if_pos e9]
        · rw [if_neg e9, if_neg e9]
          rfl
      · unfold dStep
        by_cases e9 : nmS h k f r shut P p a.2 = a.2 p
        · rw [if_pos e9]; exact ha
        · rw [if_neg e9]; exact Or.inr rfl
def itS (h k f r : Nat → Int32) (shut : Int32) (P : Nat) : Nat → (Nat → Int32) → (Nat → Int32)
  | 0, m => m
  | n + 1, m => itS h k f r shut P n (dyS h k f r shut P m)
/-- days of the class -/
theorem X8_live_lp (h k f r y : Nat → Int32) (shut : Int32) {P N n : Nat} (hP : P ≤ 7) (hn : n < 1000) (hy : ∀ p, p < P → y p = bS (viS h r shut p) P) (hN : 8 ≤ N) :
    ∀ (d j q : Nat) (b : Bool) (m : Nat → Int32) (day : Int32), j + d = n → d < q → (b = false → dyS h k f r shut P m = m) → ∃ b' : Bool, L_X8_live_6 N k f (nI P) (nI n) y q (nI j) (t01 b) day m = some (t01 b', day + nI d, itS h k f r shut P d m, y)
  | 0, j, 0, _, _, _, _, h, _ => absurd h (by omega)
  | 0, j, q + 1, b, m, day, hj, _, _ => by
    have : j = n := by omega
    subst this
    refine ⟨b, ?_⟩
    rw [L_X8_live_6, if_pos (nI_le (Nat.le_refl j) (by omega)), nI_0, Int32.add_zero]
    rfl
  | d + 1, j, 0, _, _, _, _, h, _ => absurd h (by omega)
  | d + 1, j, q + 1, b, m, day, hj, hq, hb => by
    obtain ⟨b1, e1, hb1⟩ := X8_nextDay_sp h k f r m y shut day b hP hy hN hb
    obtain ⟨b2, e2⟩ := X8_live_lp h k f r y shut hP hn hy hN d (j + 1) q b1 (dyS h k f r shut P m) (day + 1) (by omega) (by omega) (fun z => by rw [hb1 z]; exact hb1 z)
    refine ⟨b2, ?_⟩
    rw [L_X8_live_6, if_neg (nI_ge (by omega) (by omega)), ob_t e1]
    show L_X8_live_6 N k f (nI P) (nI n) y q (nI j + 1) (t01 b1) (day + 1) (dyS h k f r shut P m) = _
    rw [nI_1, e2, nI_succ, Int32.add_assoc, Int32.add_comm 1 (nI d)]
    rfl
theorem X8_live_sp (h k f r m y : Nat → Int32) (shut day : Int32) {P N n : Nat} (hP : P ≤ 7) (hr : OkR r P) (hn : n < 1000) (hN : 1001 ≤ N) : ∃ (b : Bool) (y' : Nat → Int32), f_X8_live N h k f r m y shut (nI P) day (nI n) = some (t01 b, day + nI n, itS h k f r shut P n m, y') := by
  obtain ⟨y', e, hy⟩ := X8_startDays_sp h r y shut hP hr (show 8 ≤ N by omega)
  obtain ⟨b, e2⟩ := X8_live_lp h k f r y' shut hP hn hy (show 8 ≤ N by omega) n 0 N true m day (by omega) (by omega) (fun z => by cases z)
  refine ⟨b, y', ?_⟩
  rw [f_X8_live, ob_t e]
  exact e2
/-! the reference's look -/
theorem cl_eq : ∀ j, j < 6 → ∀ z : Int32, (if z ≤ nI j then (if -nI j ≤ z then z else -nI j) else nI j) = cl (nI j) z := by
  intro j hj z
  have hn : (-nI j).toInt = -(j : Int) := sb_negT (by omega)
  have hp : (nI j).toInt = (j : Int) := nI_toInt (by omega)
  unfold cl
  simp only [Int32.le_iff_toInt_le, Int32.lt_iff_toInt_lt, hn, hp]
  by_cases h1 : z.toInt < (j : Int)
  · rw [if_pos h1, if_pos (by omega)]
    by_cases h2 : -(j : Int) < z.toInt
    · rw [if_pos (by omega), if_pos h2]
    · rw [if_neg h2]
      by_cases h3 : -(j : Int) ≤ z.toInt
      · rw [if_pos h3]
        exact Int32.toInt_inj.mp (by rw [hn]; omega)
      · rw [if_neg h3]
  · rw [if_neg h1, hp]
    by_cases h2 : z.toInt ≤ (j : Int)
    · have ez : z = nI j := Int32.toInt_inj.mp (by rw [hp]; omega)
      rw [if_pos h2, if_pos (by omega)]
      by_cases h3 : -(j : Int) < (j : Int)
      · rw [if_pos h3]; exact ez
      · rw [if_neg h3]
        exact Int32.toInt_inj.mp (by rw [hn]; omega)
    · rw [if_neg h2]
      by_cases h3 : -(j : Int) < (j : Int)
      · rw [if_pos h3]
      · rw [if_neg h3]
        exact Int32.toInt_inj.mp (by rw [hn, hp]; omega)
theorem sw_rng {k f : Nat → Int32} {P p : Nat} (hf : OkF f P) (hp : p < P) : ∃ j, j < 6 ∧ swS (k p) (f p) = nI j := by
  obtain ⟨i, hi, ei⟩ := hf p hp
  unfold swS
  rw [ei]
  split
  · exact ⟨0, by omega, rfl⟩
  · split
    · exact ⟨2, by omega, rfl⟩
    · split
      · refine ⟨2 + i / 3, by omega, ?_⟩
        have e := pk_div (a := i) (d := 3) (by omega) (by omega) (by omega)
        show nI 2 + nI i / nI 3 = _
        rw [e, nI_add]
      · split
        · exact ⟨3, by omega, rfl⟩
        · split
          · exact ⟨0, by omega, rfl⟩
          · exact ⟨1, by omega, rfl⟩
section SM3
variable {h k f r m : Nat → Int32} {P : Nat} {shut needed day : Int32} {S : Nat → Int32}
/-- one mood changes -/
theorem Sm.mood (hS : Sm h k f r m P shut needed day S) (hP : P ≤ 7) {p : Nat} (hp : p < P) (x : Int32) : Sm h k f r (upd m p x) P shut needed day (upd S (14 + 4 * p + 3) x) := by
  obtain ⟨h0, h1, h2, h3, h4, h5⟩ := hS
  refine ⟨by rw [upd_ne _ _ (by omega)]; exact h0, by rw [upd_ne _ _ (by omega)]; exact h1, by rw [upd_ne _ _ (by omega)]; exact h2, by rw [upd_ne _ _ (by omega)]; exact h3, fun b hb => by rw [upd_ne _ _ (by omega)]; exact h4 b hb, fun q hq => ?_⟩
  obtain ⟨a0, a1, a2, a3⟩ := h5 q hq
  refine ⟨by rw [upd_ne _ _ (by omega)]; exact a0, by rw [upd_ne _ _ (by omega)]; exact a1, by rw [upd_ne _ _ (by omega)]; exact a2, ?_⟩
  by_cases e : q = p
  · subst e
    rw [upd_at, upd_at]
  · rw [upd_ne _ _ (by omega), upd_ne _ _ e]
    exact a3
theorem X10_looks_sp (hS : Sm h k f r m P shut needed day S) (hP : P ≤ 7) (hh : OkH h) (hr : OkR r P) (hf : OkF f P) {p N : Nat} (hp : p < P) (hN : 8 ≤ N) : ∃ S', f_X10_looks N S (nI p) = some S' ∧ Sm h k f r (upd m p (nmS h k f r shut P p m)) P shut needed day S' := by
  have hc : cntS (viS h r shut p) P ≤ P := by have := cnt_le (viS h r shut p) P 0 0; unfold cntS; omega
  have e := lup (P := P) (fun n i (a : Int32 × Nat) => L_X10_looks_7 S (nI p) n i a.1 (nI a.2)) (fun o a => if viS h r shut p o then (a.1 + m o, a.2 + 1) else a) (fun a => L_X10_looks_7 S (nI p) 1 (nI P) a.1 (nI a.2)) (fun n a => ?_) (fun n o a ho => ?_) P 0 N (0, 0) (by omega) (by omega)
  · have ef : ∀ (d j : Nat) (a : Int32 × Nat), fup (fun o (a : Int32 × Nat) => if viS h r shut p o then (a.1 + m o, a.2 + 1) else a) j d a = (fup (fun o a => if viS h r shut p o then a + m o else a) j d a.1, fup (fun o a => if viS h r shut p o then a + 1 else a) j d a.2) := by
      intro d
      induction d with
      | zero => intro j a; rfl
      | succ d ih =>
        intro j a
        show fup _ (j + 1) d (if viS h r shut p j then (a.1 + m j, a.2 + 1) else a) = (fup _ (j + 1) d (if viS h r shut p j then a.1 + m j else a.1), fup _ (j + 1) d (if viS h r shut p j then a.2 + 1 else a.2))
        rw [ih]
        cases viS h r shut p j <;> rfl
    rw [ef] at e
    have e : f_X10_looks N S (nI p) = L_X10_looks_7 S (nI p) 1 (nI P) (smS (viS h r shut p) m P) (nI (cntS (viS h r shut p) P)) := e
    obtain ⟨s0, s1, s2, s3⟩ := hS.2.2.2.2.2 p hp
    rw [L_X10_looks_7, hS.1, if_pos (nI_le (Nat.le_refl P) (by omega))] at e
    unfold nmS
    by_cases h0 : cntS (viS h r shut p) P = 0
    · rw [h0, if_pos nI_0] at e
      rw [if_pos h0, upd_same]
      exact ⟨S, e, hS⟩
    · obtain ⟨j, hj, ej⟩ := sw_rng (k := k) hf hp
      rw [if_neg (nI_ne0 (by omega) (by omega)), gd_t (nz_t (nI_ne0 (by omega) (by omega))), ob_t (of3 p), gd_t (ix42 (by omega)), nI_cl (by omega), s3] at e
      simp only [nm] at e
      rw [ob_t (of0 p), gd_t (ix42 (by omega)), ob_t (of1 p), gd_t (ix42 (by omega)), nI_cl (by omega), nI_cl (by omega), s0, s1, ob_t (swm_sp _ _), ob_t (of3 p), gd_t (ix42 (by omega)), gd_t (ix42 (by omega)), gd_t (ix42 (by omega)), gd_t (ix42 (by omega)), nI_cl (by omega), s3, ej] at e
      rw [if_neg h0, ej, ← cl_eq j hj]
      refine ⟨upd S (14 + 4 * p + 3) (m p + (if smS (viS h r shut p) m P / nI (cntS (viS h r shut p) P) - m p ≤ nI j then (if -nI j ≤ smS (viS h r shut p) m P / nI (cntS (viS h r shut p) P) - m p then smS (viS h r shut p) m P / nI (cntS (viS h r shut p) P) - m p else -nI j) else nI j)), ?_, hS.mood hP hp _⟩
      rw [e]
      by_cases q1 : smS (viS h r shut p) m P / nI (cntS (viS h r shut p) P) - m p ≤ nI j
      · by_cases q2 : -nI j ≤ smS (viS h r shut p) m P / nI (cntS (viS h r shut p) P) - m p
        · simp [q1, q2]
        · simp [q1, q2]
      · simp [q1]
  · show L_X10_looks_7 S (nI p) (n + 1) (nI P) a.1 (nI a.2) = L_X10_looks_7 S (nI p) 1 (nI P) a.1 (nI a.2)
    rw [L_X10_looks_7, L_X10_looks_7, hS.1, if_pos (nI_le (Nat.le_refl P) (by omega)), if_pos (nI_le (Nat.le_refl P) (by omega))]
  · show L_X10_looks_7 S (nI p) (n + 1) (nI o) a.1 (nI a.2) = _
    rw [L_X10_looks_7, hS.1, if_neg (nI_nge ho hP), ob_t (X10_isHeard_sp hS hP ho), t01_if, ob_t (X10_doesSee_sp hS hP hh hr hp ho), t01_if, ob_t (of3 o), gd_t (ix42 (by omega)), nI_cl (by omega), (hS.2.2.2.2.2 o ho).2.2.2]
    unfold viS
    cases hi : inn shut (r o) <;> cases hs : seS h r p o <;> simp [nI_1]
theorem X10_day_lp (hP : P ≤ 7) (hh : OkH h) (hr : OkR r P) (hf : OkF f P) {N : Nat} (hN : 8 ≤ N) : ∀ (d j q : Nat) (m S : Nat → Int32), Sm h k f r m P shut needed day S → j + d = P → d < q → ∃ S', L_X10_day_9 N q (nI j) S = some S' ∧ Sm h k f r (fup (fun p m => upd m p (nmS h k f r shut P p m)) j d m) P shut needed day S'
  | 0, j, 0, _, _, _, _, h => absurd h (by omega)
  | 0, j, q + 1, m, S, hS, hj, _ => by
    have : j = P := by omega
    subst this
    refine ⟨S, ?_, hS⟩
    rw [L_X10_day_9, hS.1, if_pos (nI_le (Nat.le_refl j) (by omega))]
  | d + 1, j, 0, _, _, _, _, h => absurd h (by omega)
  | d + 1, j, q + 1, m, S, hS, hj, hq => by
    obtain ⟨S1, e1, hS1⟩ := X10_looks_sp hS hP hh hr hf (p := j) (by omega) hN
    obtain ⟨S2, e2, hS2⟩ := X10_day_lp hP hh hr hf hN d (j + 1) q _ S1 hS1 (by omega) (by omega)
    refine ⟨S2, ?_, hS2⟩
    rw [L_X10_day_9, hS.1, if_neg (nI_nge (by omega) hP), ob_t e1, nI_1]
    exact e2
theorem Sm.dayIs (hS : Sm h k f r m P shut needed day S) (x : Int32) : Sm h k f r m P shut needed x (upd S 1 x) := by
  obtain ⟨h0, h1, h2, h3, h4, h5⟩ := hS
  refine ⟨by rw [upd_ne _ _ (by omega)]; exact h0, upd_at _ _ _, by rw [upd_ne _ _ (by omega)]; exact h2, by rw [upd_ne _ _ (by omega)]; exact h3, fun b hb => by rw [upd_ne _ _ (by omega)]; exact h4 b hb, fun q hq => ?_⟩
  obtain ⟨a0, a1, a2, a3⟩ := h5 q hq
  exact ⟨by rw [upd_ne _ _ (by omega)]; exact a0, by rw [upd_ne _ _ (by omega)]; exact a1, by rw [upd_ne _ _ (by omega)]; exact a2, by rw [upd_ne _ _ (by omega)]; exact a3⟩
theorem X10_day_sp (hS : Sm h k f r m P shut needed day S) (hP : P ≤ 7) (hh : OkH h) (hr : OkR r P) (hf : OkF f P) {N : Nat} (hN : 8 ≤ N) : ∃ S', f_X10_day N S = some S' ∧ Sm h k f r (dyS h k f r shut P m) P shut needed (day + 1) S' := by
  obtain ⟨S', e, hS'⟩ := X10_day_lp hP hh hr hf hN P 0 N m _ (hS.dayIs (day + 1)) (by omega) (by omega)
  refine ⟨S', ?_, hS'⟩
  rw [f_X10_day, hS.2.1]
  exact e
theorem X10_daysOn_lp (hP : P ≤ 7) (hh : OkH h) (hr : OkR r P) (hf : OkF f P) {N n : Nat} (hN : 8 ≤ N) (hn : n < 1000) : ∀ (d j q : Nat) (m S : Nat → Int32) (day : Int32), Sm h k f r m P shut needed day S → j + d = n → d < q → ∃ S', L_X10_daysOn_2 N (nI n) q (nI j) S = some S' ∧ Sm h k f r (itS h k f r shut P d m) P shut needed (day + nI d) S'
  | 0, j, 0, _, _, _, _, _, h => absurd h (by omega)
  | 0, j, q + 1, m, S, day, hS, hj, _ => by
    have : j = n := by omega
    subst this
    refine ⟨S, ?_, by rw [nI_0, Int32.add_zero]; exact hS⟩
    rw [L_X10_daysOn_2, if_pos (nI_le (Nat.le_refl j) (by omega))]
  | d + 1, j, 0, _, _, _, _, _, h => absurd h (by omega)
  | d + 1, j, q + 1, m, S, day, hS, hj, hq => by
    obtain ⟨S1, e1, hS1⟩ := X10_day_sp hS hP hh hr hf hN
    obtain ⟨S2, e2, hS2⟩ := X10_daysOn_lp hP hh hr hf hN hn d (j + 1) q _ S1 (day + 1) hS1 (by omega) (by omega)
    refine ⟨S2, ?_, ?_⟩
    · rw [L_X10_daysOn_2, if_neg (nI_ge (by omega) (by omega)), ob_t e1, nI_1]
      exact e2
    · rw [nI_succ, Int32.add_comm (nI d) 1, ← Int32.add_assoc]
      exact hS2
theorem X10_daysOn_sp (hS : Sm h k f r m P shut needed day S) (hP : P ≤ 7) (hh : OkH h) (hr : OkR r P) (hf : OkF f P) {N n : Nat} (hN : 1001 ≤ N) (hn : n < 1000) : ∃ S', f_X10_daysOn N S (nI n) = some S' ∧ Sm h k f r (itS h k f r shut P n m) P shut needed (day + nI n) S' := by
  rw [f_X10_daysOn]
  exact X10_daysOn_lp hP hh hr hf (by omega) hn n 0 N m S day hS (by omega) (by omega)
end SM3
