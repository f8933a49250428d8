/-! THE PURE LAYER: the face, what is tried out in mind: win, two, streets -/
def thS (g : Nat) (x : Int32) (P : Nat) (m : Nat → Int32) : Nat → Int32 := fup (fun p m => if inn (nI g) (nI p) then upd m p x else m) 0 P m
theorem X8_think_sp (m : Nat → Int32) (g : Nat) (x : Int32) {P N : Nat} (hP : P ≤ 7) (hN : 8 ≤ N) : f_X8_think N m (nI P) (nI g) x = some (thS g x P m) := by
  rw [f_X8_think]
  refine lup (P := P) (fun n i a => L_X8_think_2 (nI P) (nI g) x n i a) (fun p m => if inn (nI g) (nI p) then upd m p x else m) some (fun n a => ?_) (fun n p a hp => ?_) P 0 N m (by omega) (by omega)
  · simp only [L_X8_think_2]
    rw [if_pos (nI_le (Nat.le_refl P) (by omega))]
  · rw [L_X8_think_2, if_neg (nI_nge hp hP), ob_t (isIn_sp _ _), t01_if, gd_t (ix7 (by omega)), nI_cl (by omega)]
    cases inn (nI g) (nI p) <;> rfl
def wiC (h k f r m : Nat → Int32) (shut needed : Int32) (P : Nat) (x : Int32) (want : Bool) (g : Nat) : Bool := caS h k f r (thS g x P m) P shut needed == want
def wiF (h k f r m : Nat → Int32) (shut needed : Int32) (P : Nat) (x : Int32) (want : Bool) (hv g : Nat) (a : Option Nat) : Option Nat := if sub g hv && fwB g a && wiC h k f r m shut needed P x want g then some g else a
theorem wi_P {h k f r m : Nat → Int32} {shut needed : Int32} {P : Nat} {x : Int32} {want : Bool} {hv g : Nat} (hg : g < 128) : ∀ a, loP 128 a → loP 128 (wiF h k f r m shut needed P x want hv g a) := by
  intro a ha
  unfold wiF
  split
  · exact hg
  · exact ha
theorem t01_eq (a b : Bool) : (t01 a = t01 b) = ((a == b) = true) := by cases a <;> cases b <;> simp [t01]
theorem X9_few_lp (h k f r m : Nat → Int32) (shut needed day x : Int32) (want : Bool) {P N hv : Nat} (hP : P ≤ 7) (hr : OkR r P) (hhv : hv < 128) (hN : 1001 ≤ N) : ∀ (d j q : Nat) (a : Option Nat) (g1 g2 g3 g4 : Int32) (v1 v2 v3 v4 v5 : Nat → Int32), loP 128 a → j + d = hv + 1 → d < q → ∃ w : MH, L_X9_fewestOfMood_15 N h k f r m shut (nI P) needed day x (t01 want) (nI hv) q (nI j) (loI a) g1 g2 g3 g4 v1 v2 v3 v4 v5 = some (loI (fup (wiF h k f r m shut needed P x want hv) j d a), w)
  | 0, j, 0, _, _, _, _, _, _, _, _, _, _, _, _, z => absurd z (by omega)
  | 0, j, q + 1, a, g1, g2, g3, g4, v1, v2, v3, v4, v5, _, hj, _ => by
    have : j = hv + 1 := by omega
    subst this
    rw [L_X9_fewestOfMood_15, if_pos (nI_lt (Nat.lt_succ_self hv) (by omega))]
    exact ⟨_, rfl⟩
  | d + 1, j, 0, _, _, _, _, _, _, _, _, _, _, _, _, z => absurd z (by omega)
  | d + 1, j, q + 1, a, g1, g2, g3, g4, v1, v2, v3, v4, v5, ha, hj, hq => by
    have h1 := wi_P (h := h) (k := k) (f := f) (r := r) (m := m) (shut := shut) (needed := needed) (P := P) (x := x) (want := want) (hv := hv) (g := j) (by omega) a ha
    rw [L_X9_fewestOfMood_15, if_neg (nI_nlt (by omega) (by omega)), sub_if, ob_t (isFewer_sp (by omega) a ha), t01_if, nI_1]
    show ∃ w : MH, _ = some (loI (fup (wiF h k f r m shut needed P x want hv) (j + 1) d (wiF h k f r m shut needed P x want hv j a)), w)
    cases z : sub j hv with
    | false =>
      rw [show wiF h k f r m shut needed P x want hv j a = a by simp [wiF, z]]
      exact X9_few_lp h k f r m shut needed day x want hP hr hhv hN d (j + 1) q _ _ _ _ _ _ _ _ _ _ ha (by omega) (by omega)
    | true =>
      cases y : fwB j a with
      | false =>
        rw [show wiF h k f r m shut needed P x want hv j a = a by simp [wiF, y]]
        exact X9_few_lp h k f r m shut needed day x want hP hr hhv hN d (j + 1) q _ _ _ _ _ _ _ _ _ _ ha (by omega) (by omega)
      | true =>
        simp only [if_true]
        rw [f_X8_become, ob_t (a := (shut, nI P, needed, day, h, k, f, r, m)) rfl]
        simp only []
        rw [ob_t (X8_think_sp m j x hP (by omega)), ob_t (X8_isCarried_sp h k f r _ shut needed hP hr (by omega))]
        simp only [t01_eq]
        show ∃ w : MH, (if wiC h k f r m shut needed P x want j = true then _ else _) = _
        cases c : wiC h k f r m shut needed P x want j with
        | false =>
          rw [show wiF h k f r m shut needed P x want hv j a = a by simp [wiF, c]]
          exact X9_few_lp h k f r m shut needed day x want hP hr hhv hN d (j + 1) q _ _ _ _ _ _ _ _ _ _ ha (by omega) (by omega)
        | true =>
          rw [show wiF h k f r m shut needed P x want hv j a = some j by simp [wiF, z, y, c]]
          exact X9_few_lp h k f r m shut needed day x want hP hr hhv hN d (j + 1) q (some j) _ _ _ _ _ _ _ _ _ (show j < 128 by omega) (by omega) (by omega)
section MI2
variable {h k f r m : Nat → Int32} {P : Nat} {shut needed day : Int32} {S : Nat → Int32}
theorem X10_with_lp (hP : P ≤ 7) (hr : OkR r P) (g : Nat) (x : Int32) {N : Nat} (hN : 8 ≤ N) : ∀ (d j q : Nat) (m M : Nat → Int32), Sm h k f r m P shut needed day M → j + d = P → d < q → ∃ M', L_X10_doesCarryWith_13 N (nI g) x q (nI j) M = some (t01 (caS h k f r (fup (fun p m => if inn (nI g) (nI p) then upd m p x else m) j d m) P shut needed), M')
  | 0, j, 0, _, _, _, _, z => absurd z (by omega)
  | 0, j, q + 1, m, M, hs, hj, _ => by
    have : j = P := by omega
    subst this
    rw [L_X10_doesCarryWith_13, hs.1, if_pos (nI_le (Nat.le_refl j) (by omega)), ob_t (X10_doesCarry_sp hs hP hr hN), gd_t (bz01 _)]
    exact ⟨_, rfl⟩
  | d + 1, j, 0, _, _, _, _, z => absurd z (by omega)
  | d + 1, j, q + 1, m, M, hs, hj, hq => by
    rw [L_X10_doesCarryWith_13, hs.1, if_neg (nI_nge (by omega) hP), ob_t (has_sp _ _), t01_if, ob_t (of3 j), gd_t (ix42 (by omega)), nI_cl (by omega), nI_1]
    simp only [nm, fup]
    cases c : inn (nI g) (nI j) with
    | false => exact X10_with_lp hP hr g x hN d (j + 1) q m M hs (by omega) (by omega)
    | true => exact X10_with_lp hP hr g x hN d (j + 1) q _ _ (hs.mood hP (show j < P by omega) x) (by omega) (by omega)
theorem X10_with_sp (hs : Sm h k f r m P shut needed day S) (hP : P ≤ 7) (hr : OkR r P) (M : Nat → Int32) (g : Nat) (x : Int32) {N : Nat} (hN : 1001 ≤ N) : ∃ M', f_X10_doesCarryWith N S M (nI g) x = some (t01 (caS h k f r (thS g x P m) P shut needed), M') := by
  obtain ⟨t, e2, ht⟩ := copies_sp S M (show 43 ≤ N by omega)
  obtain ⟨M', e3⟩ := X10_with_lp hP hr g x (show 8 ≤ N by omega) P 0 N m t (hs.ext hP ht) (by omega) (by omega)
  exact ⟨M', by rw [f_X10_doesCarryWith, ob_t e2]; exact e3⟩
def wx (v : Nat) : Int32 := if v = 0 then 9 else -9
def ww (v : Nat) : Bool := v == 0
theorem X10_win_lp (hs : Sm h k f r m P shut needed day S) (hP : P ≤ 7) (hr : OkR r P) {hv v N : Nat} (hv0 : v = 0 ∨ v = 1) (hhv : hv < 2 ^ P) (e : hdS r shut P = nI hv) (hN : 1001 ≤ N) : ∀ (d j q : Nat) (a : Option Nat) (M : Nat → Int32), loP 128 a → j + d = 2 ^ P → d < q → ∃ M', L_X10_win_16 N S (nI v) q (nI j) (loI a) M = some (loI (fup (wiF h k f r m shut needed P (wx v) (ww v) hv) j d a), M')
  | 0, j, 0, _, _, _, _, z => absurd z (by omega)
  | 0, j, q + 1, a, M, _, hj, _ => by
    have hQ := pow2_le hP
    rw [L_X10_win_16, hs.1, pow2 P hP, if_pos (nI_le (show 2 ^ P ≤ j by omega) (by omega))]
    exact ⟨_, rfl⟩
  | d + 1, j, 0, _, _, _, _, z => absurd z (by omega)
  | d + 1, j, q + 1, a, M, ha, hj, hq => by
    have hQ := pow2_le hP
    have h1 := wi_P (h := h) (k := k) (f := f) (r := r) (m := m) (shut := shut) (needed := needed) (P := P) (x := wx v) (want := ww v) (hv := hv) (g := j) (by omega) a ha
    obtain ⟨M1, e1⟩ := X10_with_sp hs hP hr M j (wx v) hN
    have ih := fun M' => X10_win_lp hs hP hr hv0 hhv e hN d (j + 1) q (wiF h k f r m shut needed P (wx v) (ww v) hv j a) M' h1 (by omega) (by omega)
    rw [L_X10_win_16, hs.1, pow2 P hP, if_neg (nI_ge (show j < 2 ^ P by omega) (by omega)), ob_t (ofHeard_g hs hP e (by omega)), t01_if, nI_1]
    show ∃ M', _ = some (loI (fup (wiF h k f r m shut needed P (wx v) (ww v) hv) (j + 1) d (wiF h k f r m shut needed P (wx v) (ww v) hv j a)), M')
    cases z : sub j hv with
    | false =>
      rw [show wiF h k f r m shut needed P (wx v) (ww v) hv j a = a by simp [wiF, z]] at ih ⊢
      exact ih M
    | true =>
      simp only [if_true]
      have tr : fwB j a = true → ∃ M', (if nI v = 0 then ob (f_X10_doesCarryWith N S M (nI j) 9) (fun (r19, y20) => if nI v = 0 then if r19 = (1 : Int32) then L_X10_win_16 N S (nI v) q (nI (j + 1)) (nI j) y20 else L_X10_win_16 N S (nI v) q (nI (j + 1)) (loI a) y20 else if r19 = (0 : Int32) then L_X10_win_16 N S (nI v) q (nI (j + 1)) (nI j) y20 else L_X10_win_16 N S (nI v) q (nI (j + 1)) (loI a) y20) else ob (f_X10_doesCarryWith N S M (nI j) (-9)) (fun (r13, y14) => if nI v = 0 then if r13 = (1 : Int32) then L_X10_win_16 N S (nI v) q (nI (j + 1)) (nI j) y14 else L_X10_win_16 N S (nI v) q (nI (j + 1)) (loI a) y14 else if r13 = (0 : Int32) then L_X10_win_16 N S (nI v) q (nI (j + 1)) (nI j) y14 else L_X10_win_16 N S (nI v) q (nI (j + 1)) (loI a) y14)) = some (loI (fup (wiF h k f r m shut needed P (wx v) (ww v) hv) (j + 1) d (wiF h k f r m shut needed P (wx v) (ww v) hv j a)), M') := by
        intro y
        rcases hv0 with rfl | rfl
        · have e1 : f_X10_doesCarryWith N S M (nI j) 9 = some (t01 (caS h k f r (thS j 9 P m) P shut needed), M1) := e1
          rw [if_pos nI_0, ob_t e1]
          simp only [if_pos nI_0, t01_if1]
          cases c : caS h k f r (thS j 9 P m) P shut needed with
          | false =>
            rw [show wiF h k f r m shut needed P (wx 0) (ww 0) hv j a = a by simp [wiF, wiC, wx, ww, c]] at ih ⊢
            exact ih M1
          | true =>
            rw [show wiF h k f r m shut needed P (wx 0) (ww 0) hv j a = some j by simp [wiF, wiC, wx, ww, c, z, y]] at ih ⊢
            exact ih M1
        · have e1 : f_X10_doesCarryWith N S M (nI j) (-9) = some (t01 (caS h k f r (thS j (-9) P m) P shut needed), M1) := e1
          have n1 : ¬ nI 1 = 0 := by decide
          rw [if_neg n1, ob_t e1]
          simp only [if_neg n1, t01_if]
          cases c : caS h k f r (thS j (-9) P m) P shut needed with
          | false =>
            rw [show wiF h k f r m shut needed P (wx 1) (ww 1) hv j a = some j by simp [wiF, wiC, wx, ww, c, z, y]] at ih ⊢
            exact ih M1
          | true =>
            rw [show wiF h k f r m shut needed P (wx 1) (ww 1) hv j a = a by simp [wiF, wiC, wx, ww, c]] at ih ⊢
            exact ih M1
      cases a with
      | none =>
        rw [if_pos (show loI none < 0 by decide)]
        exact tr rfl
      | some w =>
        have hw : w < 128 := ha
        have p1 := (pc_in j (by omega)).1
        have p2 := (pc_in w hw).1
        rw [if_neg (show ¬ loI (some w) < 0 from nI_pos (by omega)), show loI (some w) = nI w from rfl, ob_t (bits_sp (by omega) (by omega)), ob_t (bits_sp (by omega) (by omega))]
        simp only [nI_leI (show pcN w < 2 ^ 31 by omega) (show pcN j < 2 ^ 31 by omega)]
        by_cases y : pcN w ≤ pcN j
        · rw [if_pos y]
          rw [show wiF h k f r m shut needed P (wx v) (ww v) hv j (some w) = some w by simp [wiF, fwB, show ¬ pcN j < pcN w by omega]] at ih ⊢
          exact ih M
        · rw [if_neg y]
          exact tr (by simp [fwB]; omega)
theorem ag_win (hS : St h k f r m P shut needed day S) (mh mk mf mr mm : Nat → Int32) (mt mp mn md : Int32) (M : Nat → Int32) (p1 : Int32) {N : Nat} (hN : 1001 ≤ N) : ∃ (res : Int32) (w : MH) (M' : Nat → Int32), f_X9_win N h k f r m shut (nI P) needed day mh mk mf mr mm mt mp mn md p1 = some (res, w) ∧ f_X10_win N S M p1 = some (res, M') := by
  obtain ⟨hs, hP, hh, hr, hf, hk, h2, h3⟩ := id hS
  have hQ := pow2_le hP
  obtain ⟨hv, hhv, e⟩ := hd_nat r shut hP
  rw [f_X9_win, f_X10_win, ob_t (isWithin_sp _ _ _), ob_t (isInM_sp _ _ _), t01_if, t01_if]
  cases c2 : wiB p1 0 1 with
  | false => exact ⟨-1, _, M, rfl, rfl⟩
  | true =>
    obtain ⟨v, -, hx, rfl⟩ := wiB_of (a := 0) (b := 1) (by omega) (by omega) c2
    have hv0 : v = 0 ∨ v = 1 := by omega
    obtain ⟨M', e5⟩ := X10_win_lp hs hP hr hv0 hhv e hN (2 ^ P) 0 N none M trivial (by omega) (by omega)
    rw [grp_cut (wiF h k f r m shut needed P (wx v) (ww v) hv) hhv (fun j a h1 h2 => by
      have : sub j hv = false := by
        cases z : sub j hv with
        | false => rfl
        | true => exact absurd (sub_facts j (by omega) hv (by omega) z).1 (by omega)
      simp [wiF, this])] at e5
    obtain ⟨w, e6⟩ := X9_few_lp h k f r m shut needed day (wx v) (ww v) hP hr (show hv < 128 by omega) hN (hv + 1) 0 N none mt mp mn md mh mk mf mr mm trivial (by omega) (by omega)
    have e7 : f_X9_fewestOfMood N h k f r m shut (nI P) needed day mh mk mf mr mm mt mp mn md (wx v) (t01 (ww v)) = some (loI (fup (wiF h k f r m shut needed P (wx v) (ww v) hv) 0 (hv + 1) none), w) := by
      rw [f_X9_fewestOfMood, ob_t (X8_heardOnes_sp r shut hP (by omega)), e]
      exact e6
    refine ⟨_, w, M', ?_, e5⟩
    rcases hv0 with rfl | rfl
    · have e8 : f_X9_fewestOfMood N h k f r m shut (nI P) needed day mh mk mf mr mm mt mp mn md 9 1 = _ := e7
      simp only [if_true]
      rw [if_pos nI_0, if_neg (by decide), ob_t e8]
    · have e8 : f_X9_fewestOfMood N h k f r m shut (nI P) needed day mh mk mf mr mm mt mp mn md (-9) 0 = _ := e7
      simp only [if_true]
      rw [if_neg (show ¬ nI 1 = 0 by decide), ob_t e8]
end MI2
