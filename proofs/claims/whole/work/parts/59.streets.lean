/-! THE PURE LAYER: the face, streets by seeds -/
def dz (z : Int32) : Int32 := z * (1103515245 : Int32) + 12345
def db (z : Int32) (n : Int32) : Int32 := (z &&& 2147483647) / 65536 - (z &&& 2147483647) / 65536 / n * n
theorem db_in (z : Int32) : ∃ j : Nat, j < 10 ∧ db z 10 = nI j := by
  refine ⟨(z.toBitVec.toNat % 2 ^ 31) / 65536 % 10, by omega, ?_⟩
  have hb : z.toBitVec.toNat % 2 ^ 31 < 2 ^ 31 := Nat.mod_lt _ (by decide)
  unfold db
  rw [pk_and z (m := 2147483647) 31 (by decide), show (65536 : Int32) = nI 65536 from rfl, pk_div hb (by decide) (by decide)]
  exact pk_rem (d := 10) (by omega) (by decide) (by decide)
theorem below_t (z n : Int32) (h1 : (1 : Int32) ≤ n) (h2 : nz n = true) : f_X0_below z n = some (db z n) := by
  unfold f_X0_below db
  rw [if_pos h1, gd_t h2]
theorem drawn_t (z n : Int32) (h2 : nz n = true) : f_X10_drawn z n = some (db (dz z) n, dz z) := by
  unfold f_X10_drawn db dz
  simp only [nm]
  rw [gd_t h2]
def Dr (D B C : Int32 → Int32) : Prop := (∀ z, ∃ j : Nat, j < 10 ∧ B z = nI j) ∧ (∀ z, f_X0_next z = some (D z)) ∧ (∀ z, f_X0_below z 10 = some (B z)) ∧ (∀ z, f_X0_below z 19 = some (C z)) ∧ (∀ z, f_X10_drawn z 10 = some (B (D z), D z)) ∧ (∀ z, f_X10_drawn z 19 = some (C (D z), D z))
theorem draws : ∃ D B C : Int32 → Int32, Dr D B C := ⟨dz, fun z => db z 10, fun z => db z 19, db_in, fun z => by unfold f_X0_next dz; rfl, fun z => below_t z 10 (by decide) (by decide), fun z => below_t z 19 (by decide) (by decide), fun z => drawn_t z 10 (by decide), fun z => drawn_t z 19 (by decide)⟩
def scF (D B C : Int32 → Int32) (p : Nat) (a : Int32 × (Nat → Int32) × (Nat → Int32)) : Int32 × (Nat → Int32) × (Nat → Int32) := (D (D a.1), upd a.2.1 p (B (D a.1)), upd a.2.2 p (C (D (D a.1)) - 9))
theorem nm_k {α β : Type} (e : α) (k : α → β) : nm e k = k e := rfl
section STR
variable {D B C : Int32 → Int32}
theorem sc_ok (hD : Dr D B C) {P : Nat} : ∀ (d j : Nat) (a : Int32 × (Nat → Int32) × (Nat → Int32)), OkR a.2.1 P → OkR (fup (scF D B C) j d a).2.1 P
  | 0, _, _, h => h
  | d + 1, j, a, h => by
    obtain ⟨b, hb, eb⟩ := hD.1 (D a.1)
    refine sc_ok hD d (j + 1) (scF D B C j a) ?_
    show OkR (upd a.2.1 j (B (D a.1))) P
    rw [eb]
    exact h.upd hb
theorem X8_scatter_lp (hD : Dr D B C) {P : Nat} (hP : P ≤ 7) : ∀ (d j q : Nat) (z : Int32) (r m : Nat → Int32), j + d = P → d < q → L_X8_scatter_4 (nI P) q (nI j) z r m = some (fup (scF D B C) j d (z, r, m))
  | 0, j, 0, _, _, _, _, y => absurd y (by omega)
  | 0, j, q + 1, z, r, m, hj, _ => by
    have : j = P := by omega
    subst this
    rw [L_X8_scatter_4, if_pos (nI_le (Nat.le_refl j) (by omega))]
    rfl
  | d + 1, j, 0, _, _, _, _, y => absurd y (by omega)
  | d + 1, j, q + 1, z, r, m, hj, hq => by
    have ih := X8_scatter_lp hD hP d (j + 1) q (D (D z)) (upd r j (B (D z))) (upd m j (C (D (D z)) - 9)) (by omega) (by omega)
    have e : fup (scF D B C) j (d + 1) (z, r, m) = fup (scF D B C) (j + 1) d (D (D z), upd r j (B (D z)), upd m j (C (D (D z)) - 9)) := rfl
    rw [e, ← ih, L_X8_scatter_4, if_neg (nI_nge (show j < P by omega) hP), ob_t (hD.2.1 _), ob_t (hD.2.2.1 _), gd_t (ix7 (by omega)), nI_cl (by omega), nm_k, ob_t (hD.2.1 _), ob_t (hD.2.2.2.1 _), gd_t (ix7 (by omega)), nm_k, nI_1]
theorem X8_scatter_sp (hD : Dr D B C) (r m : Nat → Int32) (z : Int32) {P N : Nat} (hP : P ≤ 7) (hN : 8 ≤ N) : f_X8_scatter N r m (nI P) z = some (fup (scF D B C) 0 P (z, r, m)) := by
  rw [f_X8_scatter]
  exact X8_scatter_lp hD hP P 0 N z r m (by omega) (by omega)
variable {h k f r m : Nat → Int32} {P : Nat} {shut needed day : Int32} {S : Nat → Int32}
theorem X10_scatter_lp (hD : Dr D B C) (hP : P ≤ 7) {S : Nat → Int32} (hS : S 0 = nI P) : ∀ (d j q : Nat) (z : Int32) (r m M : Nat → Int32), Sm h k f r m P shut needed day M → j + d = P → d < q → ∃ M', (∀ kk, L_X10_streets_52 S kk q (nI j) z M = kk (nI P) (fup (scF D B C) j d (z, r, m)).1 M') ∧ Sm h k f (fup (scF D B C) j d (z, r, m)).2.1 (fup (scF D B C) j d (z, r, m)).2.2 P shut needed day M'
  | 0, j, 0, _, _, _, _, _, _, y => absurd y (by omega)
  | 0, j, q + 1, z, r, m, M, hs, hj, _ => by
    have : j = P := by omega
    subst this
    refine ⟨M, fun kk => ?_, hs⟩
    rw [L_X10_streets_52, hS, if_pos (nI_le (Nat.le_refl j) (by omega))]
    rfl
  | d + 1, j, 0, _, _, _, _, _, _, y => absurd y (by omega)
  | d + 1, j, q + 1, z, r, m, M, hs, hj, hq => by
    have h1 := (hs.rail hP (show j < P by omega) (B (D z))).mood hP (show j < P by omega) (C (D (D z)) - 9)
    obtain ⟨M', e1, e2⟩ := X10_scatter_lp hD hP hS d (j + 1) q (D (D z)) _ _ _ h1 (by omega) (by omega)
    refine ⟨M', fun kk => ?_, e2⟩
    rw [L_X10_streets_52, hS, if_neg (nI_nge (by omega) hP), ob_t (of2 j), ob_t (hD.2.2.2.2.1 z)]
    simp only []
    rw [gd_t (ix42 (by omega)), nI_cl (by omega)]
    simp only [nm]
    rw [ob_t (of3 j), ob_t (hD.2.2.2.2.2 _)]
    simp only []
    rw [gd_t (ix42 (by omega)), nI_cl (by omega), nI_1]
    exact e1 kk
/-- one street -/
def s1F (D B C : Int32 → Int32) (r m : Nat → Int32) (P : Nat) (z : Int32) : Int32 × (Nat → Int32) × (Nat → Int32) := fup (scF D B C) 0 P (z, r, m)
def s1c (h k f : Nat → Int32) (shut needed : Int32) (P : Nat) (y : Int32 × (Nat → Int32) × (Nat → Int32)) : Bool := caS h k f y.2.1 (itS h k f y.2.1 shut P 5 y.2.2) P shut needed
def s1w (h k f : Nat → Int32) (shut : Int32) (P : Nat) (y : Int32 × (Nat → Int32) × (Nat → Int32)) : Int32 := waS h k f y.2.1 P (hdS y.2.1 shut P &&& foS (itS h k f y.2.1 shut P 5 y.2.2) P)
def stF (D B C : Int32 → Int32) (h k f r m : Nat → Int32) (shut needed : Int32) (P : Nat) (a : Int32 × Int32 × Int32) : Int32 × Int32 × Int32 := ((s1F D B C r m P a.1).1, a.2.1 + t01 (s1c h k f shut needed P (s1F D B C r m P a.1)), a.2.2 + s1w h k f shut P (s1F D B C r m P a.1))
def stN (D B C : Int32 → Int32) (h k f r m : Nat → Int32) (shut needed : Int32) (P : Nat) : Nat → Int32 × Int32 × Int32 → Int32 × Int32 × Int32
  | 0, a => a
  | d + 1, a => stN D B C h k f r m shut needed P d (stF D B C h k f r m shut needed P a)
theorem X9_streets_lp (hD : Dr D B C) (h k f r m : Nat → Int32) (shut needed day x : Int32) {P N n : Nat} (hP : P ≤ 7) (hr : OkR r P) (hn : n < 1000) (hN : 1001 ≤ N) : ∀ (d j q : Nat) (z ca wt g1 g2 g3 g4 g5 : Int32) (v1 v2 v3 v4 v5 v6 : Nat → Int32), j + d = n → d < q → ∃ w : MG, L_X9_streets_33 N h k f r m shut (nI P) needed day (nI n) x q (nI j) wt ca z g1 g2 g3 g4 g5 v1 v2 v3 v4 v5 v6 = some (if x = 0 then (stN D B C h k f r m shut needed P d (z, ca, wt)).2.1 else (stN D B C h k f r m shut needed P d (z, ca, wt)).2.2, w)
  | 0, j, 0, _, _, _, _, _, _, _, _, _, _, _, _, _, _, _, y => absurd y (by omega)
  | 0, j, q + 1, z, ca, wt, g1, g2, g3, g4, g5, v1, v2, v3, v4, v5, v6, hj, _ => by
    have : j = n := by omega
    subst this
    rw [L_X9_streets_33, if_pos (nI_le (Nat.le_refl j) (by omega))]
    by_cases y : x = 0
    · rw [if_pos y, if_pos y]
      exact ⟨_, rfl⟩
    · rw [if_neg y, if_neg y]
      exact ⟨_, rfl⟩
  | d + 1, j, 0, _, _, _, _, _, _, _, _, _, _, _, _, _, _, _, y => absurd y (by omega)
  | d + 1, j, q + 1, z, ca, wt, g1, g2, g3, g4, g5, v1, v2, v3, v4, v5, v6, hj, hq => by
    have hr2 : OkR (s1F D B C r m P z).2.1 P := sc_ok hD P 0 (z, r, m) hr
    have es : f_X8_scatter N r m (nI P) z = some (s1F D B C r m P z) := X8_scatter_sp hD r m z hP (by omega)
    have ey : stN D B C h k f r m shut needed P (d + 1) (z, ca, wt) = stN D B C h k f r m shut needed P d ((s1F D B C r m P z).1, ca + t01 (s1c h k f shut needed P (s1F D B C r m P z)), wt + s1w h k f shut P (s1F D B C r m P z)) := rfl
    rw [ey]
    generalize hy : s1F D B C r m P z = y at *
    obtain ⟨z', r', m'⟩ := y
    obtain ⟨b, y', e1⟩ := X8_live_sp h k f r' m' v6 shut day hP hr2 (n := 5) (by omega) hN
    have e1 : f_X8_live N h k f r' m' v6 shut (nI P) day 5 = _ := e1
    rw [L_X9_streets_33, if_neg (nI_ge (by omega) (by omega)), f_X8_become, ob_t (a := (shut, nI P, needed, day, h, k, f, r, m)) rfl]
    simp only []
    rw [ob_t es]
    simp only []
    rw [ob_t e1]
    simp only []
    rw [ob_t (X8_isCarried_sp h k f r' _ shut needed hP hr2 (by omega)), ob_t (oneIf_sp _), ob_t (X8_heardOnes_sp r' shut hP (by omega)), ob_t (X8_weightFor_sp h k f r' _ _ hP hr2 (by omega)), nI_1]
    exact X9_streets_lp hD h k f r m shut needed day x hP hr hn hN d (j + 1) q z' _ _ _ _ _ _ _ _ _ _ _ _ _ (by omega) (by omega)
theorem X10_streets_lp (hD : Dr D B C) (hs : Sm h k f r m P shut needed day S) (hP : P ≤ 7) (hh : OkH h) (hr : OkR r P) (hf : OkF f P) {N n v : Nat} (hv0 : v = 0 ∨ v = 1) (hn : n < 1000) (hN : 1001 ≤ N) : ∀ (d j q : Nat) (z ca wt : Int32) (M : Nat → Int32), j + d = n → d < q → ∃ w, L_X10_streets_32 N S (nI n) (nI v) q (nI j) (if v = 0 then ca else wt) z M = some (if v = 0 then (stN D B C h k f r m shut needed P d (z, ca, wt)).2.1 else (stN D B C h k f r m shut needed P d (z, ca, wt)).2.2, w)
  | 0, j, 0, _, _, _, _, _, y => absurd y (by omega)
  | 0, j, q + 1, z, ca, wt, M, hj, _ => by
    have : j = n := by omega
    subst this
    rw [L_X10_streets_32, if_pos (nI_le (Nat.le_refl j) (by omega))]
    exact ⟨_, rfl⟩
  | d + 1, j, 0, _, _, _, _, _, y => absurd y (by omega)
  | d + 1, j, q + 1, z, ca, wt, M, hj, hq => by
    have hr2 : OkR (s1F D B C r m P z).2.1 P := sc_ok hD P 0 (z, r, m) hr
    obtain ⟨t, e2, ht⟩ := copies_sp S M (show 43 ≤ N by omega)
    obtain ⟨M1, e3, hM1⟩ := X10_scatter_lp hD hP hs.1 P 0 N z r m t (hs.ext hP ht) (by omega) (by omega)
    have e3 : ∀ kk, L_X10_streets_52 S kk N 0 z t = kk (nI P) (s1F D B C r m P z).1 M1 := e3
    have hM1 : Sm h k f (s1F D B C r m P z).2.1 (s1F D B C r m P z).2.2 P shut needed day M1 := hM1
    have ey : stN D B C h k f r m shut needed P (d + 1) (z, ca, wt) = stN D B C h k f r m shut needed P d ((s1F D B C r m P z).1, ca + t01 (s1c h k f shut needed P (s1F D B C r m P z)), wt + s1w h k f shut P (s1F D B C r m P z)) := rfl
    rw [ey]
    generalize hy : s1F D B C r m P z = y at *
    obtain ⟨z', r', m'⟩ := y
    obtain ⟨M2, e4, hM2⟩ := X10_daysOn_sp hM1 hP hh hr2 hf hN (n := 5) (by omega)
    have e4 : f_X10_daysOn N M1 5 = some M2 := e4
    rw [L_X10_streets_32, if_neg (nI_ge (by omega) (by omega)), ob_t e2, e3, ob_t e4, nI_1]
    have ih := X10_streets_lp hD hs hP hh hr hf hv0 hn hN d (j + 1) q z' (ca + t01 (s1c h k f shut needed P (z', r', m'))) (wt + s1w h k f shut P (z', r', m')) M2 (by omega) (by omega)
    rcases hv0 with rfl | rfl
    · rw [if_neg (show ¬ nI 0 = 1 by decide), ob_t (X10_doesCarry_sp hM2 hP hr2 (by omega)), t01_if]
      rw [if_pos rfl] at ih
      rw [if_pos rfl]
      have c0 : caS h k f r' (itS h k f r' shut P 5 m') P shut needed = s1c h k f shut needed P (z', r', m') := rfl
      rw [c0]
      cases c : s1c h k f shut needed P (z', r', m') with
      | false => rw [c] at ih; exact ih
      | true => rw [c] at ih; exact ih
    · rw [if_pos (show nI 1 = 1 by decide), ob_t (X10_forIn_sp hM2 hP hr2 (by omega))]
      exact ih
theorem ag_streets (hS : St h k f r m P shut needed day S) (mh mk mf mr mm ms : Nat → Int32) (mo mt mp mn md : Int32) (M : Nat → Int32) (sd0 p1 p2 p3 : Int32) {N : Nat} (hN : 1001 ≤ N) : ∃ (res : Int32) (w : MG) (w2 : Int32 × (Nat → Int32)), f_X9_streets N h k f r m shut (nI P) needed day mh mk mf mr mm ms mo mt mp mn md p1 p2 p3 = some (res, w) ∧ f_X10_streets N S M sd0 p1 p2 p3 = some (res, w2) := by
  obtain ⟨hs, hP, hh, hr, hf, hk, h2, h3⟩ := id hS
  obtain ⟨D, B, C, hD⟩ := draws
  rw [f_X9_streets, f_X10_streets, ob_t (isWithin_sp _ _ _), ob_t (isInM_sp _ _ _), t01_if, t01_if, ob_t (isWithin_sp _ _ _), ob_t (isInM_sp _ _ _), t01_if, t01_if]
  cases c1 : wiB p1 1 20 with
  | false => exact ⟨-1, _, _, rfl, rfl⟩
  | true =>
    cases c3 : wiB p3 0 1 with
    | false => exact ⟨-1, _, _, rfl, rfl⟩
    | true =>
      obtain ⟨n, -, hn, rfl⟩ := wiB_of (a := 1) (b := 20) (by omega) (by omega) c1
      obtain ⟨v, -, hx, rfl⟩ := wiB_of (a := 0) (b := 1) (by omega) (by omega) c3
      have hv0 : v = 0 ∨ v = 1 := by omega
      obtain ⟨w, e1⟩ := X9_streets_lp hD h k f r m shut needed day (nI v) hP hr (n := n) (by omega) hN n 0 N p2 0 0 mo mt mp mn md mh mk mf mr mm ms (by omega) (by omega)
      obtain ⟨w2, e2⟩ := X10_streets_lp hD hs hP hh hr hf hv0 (n := n) (by omega) hN n 0 N p2 0 0 M (by omega) (by omega)
      refine ⟨_, w, w2, e1, ?_⟩
      rcases hv0 with rfl | rfl
      · exact e2
      · exact e2
end STR
