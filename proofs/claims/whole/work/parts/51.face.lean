/-! THE PURE LAYER: the face, further calls -/
theorem and1_t (x : Int32) : x &&& 1 = t01 (decide (¬ x &&& 1 = 0)) := by
  rcases and1 x with h | h <;> rw [h] <;> rfl
section FACE2
variable {h k f r m : Nat → Int32} {P : Nat} {shut needed day : Int32} {S : Nat → Int32}
theorem Sm.rail (hS : Sm h k f r m P shut needed day S) (hP : P ≤ 7) {p : Nat} (hp : p < P) (x : Int32) : Sm h k f (upd r p x) m P shut needed day (upd S (14 + 4 * p + 2) x) := by
  obtain ⟨h0, h1, h2, h3, h4, h5⟩ := hS
  refine ⟨by rw [upd_ne _ _ (by omega)]; exact h0, by rw [upd_ne _ _ (by omega)]; exact h1, by rw [upd_ne _ _ (by omega)]; exact h2, by rw [upd_ne _ _ (by omega)]; exact h3, fun b hb => by rw [upd_ne _ _ (by omega)]; exact h4 b hb, fun q hq => ?_⟩
  obtain ⟨a0, a1, a2, a3⟩ := h5 q hq
  refine ⟨by rw [upd_ne _ _ (by omega)]; exact a0, by rw [upd_ne _ _ (by omega)]; exact a1, ?_, by rw [upd_ne _ _ (by omega)]; exact a3⟩
  by_cases e : q = p
  · subst e
    rw [upd_at, upd_at]
  · rw [upd_ne _ _ (by omega), upd_ne _ _ e]
    exact a2
theorem Sm.shutIs (hS : Sm h k f r m P shut needed day S) (x : Int32) : Sm h k f r m P x needed day (upd S 3 x) := by
  obtain ⟨h0, h1, h2, h3, h4, h5⟩ := hS
  refine ⟨by rw [upd_ne _ _ (by omega)]; exact h0, by rw [upd_ne _ _ (by omega)]; exact h1, by rw [upd_ne _ _ (by omega)]; exact h2, upd_at _ _ _, fun b hb => by rw [upd_ne _ _ (by omega)]; exact h4 b hb, fun q hq => ?_⟩
  obtain ⟨a0, a1, a2, a3⟩ := h5 q hq
  exact ⟨by rw [upd_ne _ _ (by omega)]; exact a0, by rw [upd_ne _ _ (by omega)]; exact a1, by rw [upd_ne _ _ (by omega)]; exact a2, by rw [upd_ne _ _ (by omega)]; exact a3⟩
theorem ag_goes (hS : St h k f r m P shut needed day S) (p1 p2 : Int32) : ∃ (res : Int32) (r' S' : Nat → Int32), f_X9_goes r (nI P) p1 p2 = some (res, r') ∧ f_X10_goes S p1 p2 = some (res, S') ∧ St h k f r' m P shut needed day S' := by
  obtain ⟨hs, hP, hh, hr, hf, hk, h2, h3⟩ := id hS
  rw [f_X9_goes, f_X10_goes, ob_t (isThere_sp _ _), ob_t (isSpeaker_sp hs hP _), t01_if, t01_if, ob_t (isBalcony_sp _), ob_t (isRail_sp _), t01_if, t01_if]
  cases c1 : thB P p1 with
  | false => exact ⟨-1, r, S, rfl, rfl, hS⟩
  | true =>
    cases c2 : wiB p2 0 9 with
    | false => exact ⟨-1, r, S, rfl, rfl, hS⟩
    | true =>
      obtain ⟨p, hp, rfl⟩ := thB_of hP c1
      obtain ⟨b, -, hb, rfl⟩ := wiB_of (a := 0) (b := 9) (by omega) (by omega) c2
      refine ⟨r p, upd r p (nI b), upd S (14 + 4 * p + 2) (nI b), ?_, ?_, hs.rail hP hp _, hP, hh, ?_, hf, hk, h2, h3⟩
      · simp only [if_true]
        rw [gd_t (ix7 (by omega)), gd_t (ix7 (by omega)), nI_cl (by omega)]
        rfl
      · simp only [if_true]
        rw [ob_t (of2 p), gd_t (ix42 (by omega)), ob_t (of2 p), gd_t (ix42 (by omega)), nI_cl (by omega), (hs.2.2.2.2.2 p hp).2.2.1]
        rfl
      · intro q hq
        by_cases e : q = p
        · subst e
          exact ⟨b, by omega, upd_at _ _ _⟩
        · rw [upd_ne _ _ e]
          exact hr q hq
theorem ag_shuts (hS : St h k f r m P shut needed day S) (p1 : Int32) : ∃ (res s' : Int32) (S' : Nat → Int32), f_X9_shuts shut p1 = some (res, s') ∧ f_X10_shuts S p1 = some (res, S') ∧ St h k f r m P s' needed day S' := by
  obtain ⟨hs, hP, hh, hr, hf, hk, h2, h3⟩ := id hS
  rw [f_X9_shuts, f_X10_shuts, ob_t (isBalcony_sp _), ob_t (isRail_sp _), t01_if, t01_if]
  cases c1 : wiB p1 0 9 with
  | false => exact ⟨-1, shut, S, rfl, rfl, hS⟩
  | true =>
    refine ⟨t01 (inn (shut ^^^ ((1 : Int32) <<< (p1 &&& 31))) p1), shut ^^^ ((1 : Int32) <<< (p1 &&& 31)), upd S 3 (shut ^^^ ((1 : Int32) <<< (p1 &&& 31))), ?_, ?_, hs.shutIs _, hP, hh, hr, hf, hk, h2, h3⟩
    · have e1 : f_X8_turnShutter shut p1 = some (shut ^^^ ((1 : Int32) <<< (p1 &&& 31))) := rfl
      have e2 : ∀ x : Int32, f_X8_isShut x p1 = some (t01 (inn x p1)) := fun x => by rw [f_X8_isShut, ob_t (isIn_sp _ _), gd_t (bz01 _)]
      simp only [if_true]
      rw [ob_t e1, ob_t (e2 _), ob_t (oneIf_sp _)]
    · simp only [if_true, nm]
      rw [hs.2.2.2.1, upd_at, and1_t]
      rfl
/-! days in mind -/
theorem takes_sp (hS : Sm h k f r m P shut needed day S) (hP : P ≤ 7) (hh : OkH h) (hr : OkR r P) (hf : OkF f P) (M : Nat → Int32) {N n : Nat} (hN : 1001 ≤ N) (hn : n < 1000) : ∃ M', f_X10_takes N S M (nI n) = some M' ∧ Sm h k f r (itS h k f r shut P n m) P shut needed (day + nI n) M' := by
  obtain ⟨t, e1, ht⟩ := copies_sp S M (show 43 ≤ N by omega)
  obtain ⟨M', e2, hM⟩ := X10_daysOn_sp (hS.ext hP ht) hP hh hr hf hN hn
  exact ⟨M', by rw [f_X10_takes, ob_t e1, ob_t e2], hM⟩
theorem ag_moodThen (hS : St h k f r m P shut needed day S) (mh mk mf mr mm ms : Nat → Int32) (mo mt mp mn md : Int32) (M : Nat → Int32) (p1 p2 : Int32) {N : Nat} (hN : 1001 ≤ N) : ∃ (res : Int32) (w : Int32 × Int32 × Int32 × Int32 × Int32 × (Nat → Int32) × (Nat → Int32) × (Nat → Int32) × (Nat → Int32) × (Nat → Int32) × (Nat → Int32)) (M' : Nat → Int32), f_X9_moodThen N h k f r m shut (nI P) needed day mh mk mf mr mm ms mo mt mp mn md p1 p2 = some (res, w) ∧ f_X10_moodThen N S M p1 p2 = some (res, M') := by
  obtain ⟨hs, hP, hh, hr, hf, hk, h2, h3⟩ := id hS
  rw [f_X9_moodThen, f_X10_moodThen, ob_t (isThere_sp _ _), ob_t (isSpeaker_sp hs hP _), t01_if, t01_if, ob_t (isSpan_sp _), ob_t (isLate_sp _), t01_if, t01_if]
  cases c1 : thB P p1 with
  | false => exact ⟨_, _, M, rfl, rfl⟩
  | true =>
    cases c2 : wiB p2 0 60 with
    | false => exact ⟨_, _, M, rfl, rfl⟩
    | true =>
      obtain ⟨p, hp, rfl⟩ := thB_of hP c1
      obtain ⟨n, -, hn, rfl⟩ := wiB_of (a := 0) (b := 60) (by omega) (by omega) c2
      obtain ⟨b, y', e1⟩ := X8_live_sp h k f r m ms shut day hP hr (n := n) (by omega) hN
      obtain ⟨M', e2, hM⟩ := takes_sp hs hP hh hr hf M hN (n := n) (by omega)
      refine ⟨itS h k f r shut P n m p, (t01 b, shut, nI P, needed, day + nI n, h, k, f, r, itS h k f r shut P n m, y'), M', ?_, ?_⟩
      · simp only [if_true]
        rw [f_X8_become, ob_t (a := (shut, nI P, needed, day, h, k, f, r, m)) rfl]
        simp only []
        rw [ob_t e1]
        simp only []
        rw [gd_t (ix7 (by omega)), nI_cl (by omega)]
        rfl
      · simp only [if_true]
        rw [ob_t e2, ob_t (of3 p), gd_t (ix42 (by omega)), nI_cl (by omega), (hM.2.2.2.2.2 p hp).2.2.2]
        rfl
theorem ag_holds (hS : St h k f r m P shut needed day S) (mh mk mf mr mm ms : Nat → Int32) (mo mt mp mn md : Int32) (M : Nat → Int32) (p1 : Int32) {N : Nat} (hN : 1001 ≤ N) : ∃ (res : Int32) (w : Int32 × Int32 × Int32 × Int32 × Int32 × (Nat → Int32) × (Nat → Int32) × (Nat → Int32) × (Nat → Int32) × (Nat → Int32) × (Nat → Int32)) (M' : Nat → Int32), f_X9_holds N h k f r m shut (nI P) needed day mh mk mf mr mm ms mo mt mp mn md p1 = some (res, w) ∧ f_X10_holds N S M p1 = some (res, M') := by
  obtain ⟨hs, hP, hh, hr, hf, hk, h2, h3⟩ := id hS
  rw [f_X9_holds, f_X10_holds, ob_t (isSpan_sp _), ob_t (isLate_sp _), t01_if, t01_if]
  cases c2 : wiB p1 0 60 with
  | false => exact ⟨_, _, M, rfl, rfl⟩
  | true =>
    obtain ⟨n, -, hn, rfl⟩ := wiB_of (a := 0) (b := 60) (by omega) (by omega) c2
    obtain ⟨b, y', e1⟩ := X8_carriedDays_sp h k f r m ms shut needed day hP hr (n := n) (by omega) hN
    obtain ⟨t, e2, ht⟩ := copies_sp S M (show 43 ≤ N by omega)
    obtain ⟨M', e3, hM⟩ := X10_holdsIn_sp (hs.ext hP ht) hP hh hr hf hN (n := n) (by omega)
    refine ⟨hoS h k f r shut needed P n m 0, (t01 b, shut, nI P, needed, day + nI n, h, k, f, r, itS h k f r shut P n m, y'), M', ?_, ?_⟩
    · simp only [if_true]
      rw [f_X8_become, ob_t (a := (shut, nI P, needed, day, h, k, f, r, m)) rfl]
      simp only []
      rw [ob_t e1]
    · simp only [if_true]
      rw [f_X10_holdsNow, ob_t e2, ob_t e3]
      rfl
end FACE2
