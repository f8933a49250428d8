/-! THE PURE LAYER: the face. What class and reference hold at the same time -/
def St (h k f r m : Nat → Int32) (P : Nat) (shut needed day : Int32) (S : Nat → Int32) : Prop := Sm h k f r m P shut needed day S ∧ P ≤ 7 ∧ OkH h ∧ OkR r P ∧ OkF f P ∧ (∀ p, p < P → ∃ j : Nat, j < 8 ∧ k p = nI j) ∧ (∃ j : Nat, 1 ≤ j ∧ j ≤ 99 ∧ needed = nI j) ∧ (∃ j : Nat, j ≤ 999 ∧ day = nI j) ∧ OkM m P
def wiB (v a b : Int32) : Bool := decide (¬ v < a) && decide (¬ b < v)
theorem isWithin_sp (v a b : Int32) : f_X9_isWithin v a b = some (t01 (wiB v a b)) := by
  unfold f_X9_isWithin wiB t01
  by_cases h1 : v < a
  · simp [h1]
  · by_cases h2 : b < v <;> simp [h1, h2]
theorem isInM_sp (v a b : Int32) : f_X10_isIn v a b = some (t01 (wiB v a b)) := isWithin_sp v a b
theorem bz01 (b : Bool) : bz (t01 b) = true := by cases b <;> rfl
theorem isBalcony_sp (v : Int32) : f_X9_isBalcony v = some (t01 (wiB v 0 9)) := by rw [f_X9_isBalcony, ob_t (isWithin_sp _ _ _), gd_t (bz01 _)]
theorem isRail_sp (v : Int32) : f_X10_isRail v = some (t01 (wiB v 0 9)) := by rw [f_X10_isRail, ob_t (isInM_sp _ _ _), gd_t (bz01 _)]
theorem isSpan_sp (v : Int32) : f_X9_isSpan v = some (t01 (wiB v 0 60)) := by rw [f_X9_isSpan, ob_t (isWithin_sp _ _ _), gd_t (bz01 _)]
theorem isLate_sp (v : Int32) : f_X10_isLate v = some (t01 (wiB v 0 60)) := by rw [f_X10_isLate, ob_t (isInM_sp _ _ _), gd_t (bz01 _)]
theorem isShelf_sp (v : Int32) : f_X9_isShelf v = some (t01 (wiB v 0 7)) := by rw [f_X9_isShelf, ob_t (isWithin_sp _ _ _), gd_t (bz01 _)]
theorem isShelfM_sp (v : Int32) : f_X10_isShelf v = some (t01 (wiB v 0 7)) := by rw [f_X10_isShelf, ob_t (isInM_sp _ _ _), gd_t (bz01 _)]
/-- a number from a to b -/
theorem wiB_of {v : Int32} {a b : Nat} (ha : a ≤ b) (hb : b < 2 ^ 31) (h : wiB v (nI a) (nI b) = true) : ∃ j : Nat, a ≤ j ∧ j ≤ b ∧ v = nI j := by
  unfold wiB at h
  simp only [Bool.and_eq_true, decide_eq_true_eq] at h
  obtain ⟨h1, h2⟩ := h
  have e2 : (nI b).toInt = (b : Int) := nI_toInt hb
  have e1 : (nI a).toInt = (a : Int) := nI_toInt (by omega)
  simp only [Int32.lt_iff_toInt_lt, e1, e2] at h1 h2
  refine ⟨v.toInt.toNat, by omega, by omega, Int32.toInt_inj.mp ?_⟩
  rw [nI_toInt (by omega)]
  omega
theorem wiB_int {v : Int32} (h : wiB v (-9) 9 = true) : -9 ≤ v.toInt ∧ v.toInt ≤ 9 := by
  unfold wiB at h
  simp only [Bool.and_eq_true, decide_eq_true_eq, Int32.lt_iff_toInt_lt, show (-9 : Int32).toInt = -9 by decide, show (9 : Int32).toInt = 9 by decide] at h
  omega
/-- one who is there -/
def thB (P : Nat) (v : Int32) : Bool := decide (¬ v < 0) && decide (¬ nI P ≤ v)
theorem isThere_sp (P : Nat) (v : Int32) : f_X8_isThere (nI P) v = some (t01 (thB P v)) := by
  unfold f_X8_isThere thB t01
  by_cases h1 : v < 0
  · simp [h1]
  · by_cases h2 : nI P ≤ v <;> simp [h1, h2]
theorem thB_of {P : Nat} {v : Int32} (hP : P ≤ 7) (h : thB P v = true) : ∃ j : Nat, j < P ∧ v = nI j := by
  unfold thB at h
  simp only [Bool.and_eq_true, decide_eq_true_eq] at h
  obtain ⟨j, hj, e⟩ := nI_of h.1
  refine ⟨j, ?_, e⟩
  rw [e] at h
  rcases Nat.lt_or_ge j P with q | q
  · exact q
  · exact absurd (nI_le q hj) h.2
section FACE
variable {h k f r m : Nat → Int32} {P : Nat} {shut needed day : Int32} {S : Nat → Int32}
theorem isSpeaker_sp (hS : Sm h k f r m P shut needed day S) (hP : P ≤ 7) (v : Int32) : f_X10_isSpeaker S v = some (t01 (thB P v)) := by
  rw [f_X10_isSpeaker, ob_t (isInM_sp _ _ _), gd_t (bz01 _), hS.1]
  have e : wiB v 0 (nI P - 1) = thB P v := by
    unfold wiB thB
    have e1 : (nI P).toInt = (P : Int) := nI_toInt (by omega)
    have e2 : (nI P - 1).toInt = (P : Int) - 1 := by
      have := pk_sub_toInt (a := P) (b := 1) (by omega) (by omega)
      exact this
    congr 1
    rw [decide_eq_decide, Int32.lt_iff_toInt_lt, Int32.le_iff_toInt_le, e1, e2]
    omega
  rw [e]
/-! builds -/
theorem Sm.height (hS : Sm h k f r m P shut needed day S) {b : Nat} (hb : b < 10) (x : Int32) : Sm (upd h b x) k f r m P shut needed day (upd S (4 + b) x) := by
  obtain ⟨h0, h1, h2, h3, h4, h5⟩ := hS
  refine ⟨by rw [upd_ne _ _ (by omega)]; exact h0, by rw [upd_ne _ _ (by omega)]; exact h1, by rw [upd_ne _ _ (by omega)]; exact h2, by rw [upd_ne _ _ (by omega)]; exact h3, fun c hc => ?_, fun q hq => ?_⟩
  · by_cases e : c = b
    · subst e
      rw [upd_at, upd_at]
    · rw [upd_ne _ _ (by omega), upd_ne _ _ e]
      exact h4 c hc
  · obtain ⟨a0, a1, a2, a3⟩ := h5 q hq
    exact ⟨by rw [upd_ne _ _ (by omega)]; exact a0, by rw [upd_ne _ _ (by omega)]; exact a1, by rw [upd_ne _ _ (by omega)]; exact a2, by rw [upd_ne _ _ (by omega)]; exact a3⟩
theorem ag_builds (hS : St h k f r m P shut needed day S) (p1 p2 : Int32) : ∃ (res : Int32) (h' S' : Nat → Int32), f_X9_builds h p1 p2 = some (res, h') ∧ f_X10_builds S p1 p2 = some (res, S') ∧ St h' k f r m P shut needed day S' := by
  obtain ⟨hs, hP, hh, hr, hf, hk, h2, h3⟩ := id hS
  rw [f_X9_builds, f_X10_builds, ob_t (isBalcony_sp _), ob_t (isRail_sp _), t01_if, t01_if, ob_t (isWithin_sp _ _ _), ob_t (isInM_sp _ _ _), t01_if, t01_if]
  cases c1 : wiB p1 0 9 with
  | false => exact ⟨-1, h, S, rfl, rfl, hS⟩
  | true =>
    cases c2 : wiB p2 0 7 with
    | false => exact ⟨-1, h, S, rfl, rfl, hS⟩
    | true =>
      obtain ⟨b, -, hb, rfl⟩ := wiB_of (a := 0) (b := 9) (by omega) (by omega) c1
      obtain ⟨x, -, hx, rfl⟩ := wiB_of (a := 0) (b := 7) (by omega) (by omega) c2
      have e4 : (4 : Int32) + nI b = nI (4 + b) := nI_add 4 b
      refine ⟨h b, upd h b (nI x), upd S (4 + b) (nI x), ?_, ?_, hs.height (by omega) _, hP, ?_, hr, hf, hk, h2, h3⟩
      · simp only [if_true]
        rw [gd_t (ix10 (by omega)), gd_t (ix10 (by omega)), nI_cl (by omega)]
        rfl
      · simp only [if_true, nm]
        rw [e4, gd_t (ix42 (by omega)), gd_t (ix42 (by omega)), nI_cl (by omega), hs.2.2.2.2.1 b (by omega)]
      · intro c hc
        by_cases e : c = b
        · subst e
          exact ⟨x, by omega, upd_at _ _ _⟩
        · rw [upd_ne _ _ e]
          exact hh c hc
/-! quota -/
theorem ag_quota (hS : St h k f r m P shut needed day S) (p1 : Int32) : ∃ (res n' : Int32) (S' : Nat → Int32), f_X9_quota needed p1 = some (res, n') ∧ f_X10_quota S p1 = some (res, S') ∧ St h k f r m P shut n' day S' := by
  obtain ⟨hs, hP, hh, hr, hf, hk, h2, h3⟩ := id hS
  rw [f_X9_quota, f_X10_quota, ob_t (isWithin_sp _ _ _), ob_t (isInM_sp _ _ _), t01_if, t01_if]
  cases c1 : wiB p1 1 99 with
  | false => exact ⟨-1, needed, S, rfl, rfl, hS⟩
  | true =>
    obtain ⟨x, hx1, hx, rfl⟩ := wiB_of (a := 1) (b := 99) (by omega) (by omega) c1
    refine ⟨needed, nI x, upd S 2 (nI x), rfl, ?_, ?_, hP, hh, hr, hf, hk, ⟨x, hx1, hx, rfl⟩, h3⟩
    · simp only [if_true, nm]
      rw [hs.2.2.1]
    · obtain ⟨g0, g1, g2, g3, g4, g5⟩ := hs
      refine ⟨by rw [upd_ne _ _ (by omega)]; exact g0, by rw [upd_ne _ _ (by omega)]; exact g1, upd_at _ _ _, by rw [upd_ne _ _ (by omega)]; exact g3, fun b hb => by rw [upd_ne _ _ (by omega)]; exact g4 b hb, fun q hq => ?_⟩
      obtain ⟨a0, a1, a2, a3⟩ := g5 q hq
      exact ⟨by rw [upd_ne _ _ (by omega)]; exact a0, by rw [upd_ne _ _ (by omega)]; exact a1, by rw [upd_ne _ _ (by omega)]; exact a2, by rw [upd_ne _ _ (by omega)]; exact a3⟩
/-! thinks -/
theorem ag_thinks (hS : St h k f r m P shut needed day S) (p1 p2 : Int32) : ∃ (res : Int32) (m' S' : Nat → Int32), f_X9_thinks m (nI P) p1 p2 = some (res, m') ∧ f_X10_thinks S p1 p2 = some (res, S') ∧ St h k f r m' P shut needed day S' := by
  obtain ⟨hs, hP, hh, hr, hf, hk, h2, h3⟩ := id hS
  rw [f_X9_thinks, f_X10_thinks, ob_t (isThere_sp _ _), ob_t (isSpeaker_sp hs hP _), t01_if, t01_if, ob_t (isWithin_sp _ _ _), ob_t (isInM_sp _ _ _), t01_if, t01_if]
  cases c1 : thB P p1 with
  | false => exact ⟨1000000001, m, S, rfl, rfl, hS⟩
  | true =>
    cases c2 : wiB p2 (-9) 9 with
    | false => exact ⟨1000000001, m, S, rfl, rfl, hS⟩
    | true =>
      obtain ⟨p, hp, rfl⟩ := thB_of hP c1
      refine ⟨m p, upd m p p2, upd S (14 + 4 * p + 3) p2, ?_, ?_, hs.mood hP hp _, hP, hh, hr, hf, hk, h2, h3.1, h3.2.upd (wiB_int c2).1 (wiB_int c2).2⟩
      · simp only [if_true]
        rw [gd_t (ix7 (by omega)), gd_t (ix7 (by omega)), nI_cl (by omega)]
        rfl
      · simp only [if_true]
        rw [ob_t (of3 p), gd_t (ix42 (by omega)), ob_t (of3 p), gd_t (ix42 (by omega)), nI_cl (by omega), (hs.2.2.2.2.2 p hp).2.2.2]
        rfl
/-! days -/
theorem ag_days (hS : St h k f r m P shut needed day S) (y : Nat → Int32) (mv p1 : Int32) {N : Nat} (hN : 1001 ≤ N) : ∃ (res mv' d' : Int32) (m' y' S' : Nat → Int32), f_X9_days N h k f r m y mv shut (nI P) needed day p1 = some (res, mv', d', m', y') ∧ f_X10_days N S p1 = some (res, S') ∧ St h k f r m' P shut needed d' S' := by
  obtain ⟨hs, hP, hh, hr, hf, hk, h2, ⟨j, hj, rfl⟩, hm⟩ := id hS
  rw [f_X9_days, f_X10_days, ob_t (isWithin_sp _ _ _), ob_t (isInM_sp _ _ _), t01_if, t01_if]
  cases c1 : wiB p1 1 60 with
  | false => exact ⟨-1, mv, nI j, m, y, S, rfl, rfl, hS⟩
  | true =>
    obtain ⟨n, hn1, hn, rfl⟩ := wiB_of (a := 1) (b := 60) (by omega) (by omega) c1
    simp only [if_true]
    rw [hs.2.1, nI_add]
    unfold f_X8_hasDaysLeft
    rw [nI_add]
    rcases Nat.lt_or_ge 999 (j + n) with q | q
    · rw [if_pos (show (999 : Int32) < nI (j + n) from nI_lt (a := 999) q (by omega)), if_neg (show ¬ nI (j + n) ≤ (999 : Int32) from nI_ge (a := 999) q (by omega))]
      exact ⟨-3, mv, nI j, m, y, S, rfl, rfl, hS⟩
    · rw [if_neg (show ¬ (999 : Int32) < nI (j + n) from nI_nlt (a := 999) q (by omega)), if_pos (show nI (j + n) ≤ (999 : Int32) from nI_le (b := 999) q (by omega))]
      obtain ⟨b, y', e1⟩ := X8_live_sp h k f r m y shut (nI j) hP hr (n := n) (by omega) hN
      obtain ⟨S', e2, hS'⟩ := X10_daysOn_sp hs hP hh hr hf hN (n := n) (by omega)
      rw [nI_add] at e1 hS'
      refine ⟨t01 (caS h k f r (itS h k f r shut P n m) P shut needed), t01 b, nI (j + n), itS h k f r shut P n m, y', S', ?_, ?_, hS', hP, hh, hr, hf, hk, h2, ⟨j + n, q, rfl⟩, it_in hP hf n m hm⟩
      · rw [ob_t (x := some (1 : Int32)) (a := 1) rfl, if_neg (by decide), ob_t e1]
        show ob (f_X8_isCarried N h k f r (itS h k f r shut P n m) shut (nI P) needed) _ = _
        rw [ob_t (X8_isCarried_sp h k f r _ shut needed hP hr (by omega)), ob_t (oneIf_sp _)]
      · rw [ob_t e2, ob_t (X10_doesCarry_sp hS' hP hr (by omega)), t01_if]
        cases caS h k f r (itS h k f r shut P n m) P shut needed <;> rfl
end FACE
