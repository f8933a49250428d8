/-! THE PURE LAYER: the text of a quarter: statements done; quarter -/
section DON
variable {h k f r m : Nat → Int32} {P : Nat} {shut needed day : Int32} {S : Nat → Int32} {z d0 : Nat} {el EL : Nat → Int32}
theorem dig_el (hB : OkB el) (hz : z ≤ 100) {i : Nat} (g : dgN (cdS z el i) = true) : i < z ∧ el i = nI (cdS z el i) ∧ nI (cdS z el i) - 48 = nI (cdS z el i - 48) ∧ cdS z el i - 48 < 10 := by
  obtain ⟨v1, v2, v3⟩ := dig_v g
  have hi : i < z := cd_in (n := cdS z el i) rfl (by omega)
  have hb := byte_c (cdS z el i) ((cd_lt z el i).2 hi).1
  exact ⟨hi, (cd_b hB hz hi).trans (hb.2.2.2 (by omega)), pk_sub (b := 48) v1, by omega⟩
theorem let_el (hB : OkB el) (hz : z ≤ 100) {i n : Nat} (e : cdS z el i = n) (hn : n < 128) : el i = nI n := by
  have hi : i < z := cd_in e (by omega)
  have hb := byte_c (cdS z el i) ((cd_lt z el i).2 hi).1
  rw [cd_b hB hz hi, hb.2.2.2 (by omega), e]
theorem Done (hB : OkB el) (hz : z ≤ 100) (hS : St h k f r m P shut needed day S) {p : Nat} (hp : stF0 z el p = none) {Y : Nat → Int32} (hY : Nums z el p Y) (ms : Nat → Int32) (mv : Int32) {N : Nat} (hN : 1001 ≤ N) : ∃ (b : Bool) (P' : Nat) (mv' shut' needed' day' : Int32) (h' k' f' r' m' ms' S' : Nat → Int32), f_X6_tryStatement N el (nI z) h k f r m ms mv shut (nI P) needed day (nI p) = some (t01 b, mv', shut', nI P', needed', day', h', k', f', r', m', ms') ∧ f_X10_isDone N S Y (hI (cdS z el p)) = some (t01 b, S') ∧ (b = true → St h' k' f' r' m' P' shut' needed' day' S') := by
  obtain ⟨hs, hP, hh, hr, hf, hk, ⟨nq, hnq1, hnq2, en⟩, ⟨nd, hnd, ed⟩, hm⟩ := id hS
  obtain ⟨k1, k2, k3, k4⟩ := stF_none hp
  have g1 := k4 0 (by omega)
  rw [Nat.add_zero] at g1
  obtain ⟨i1, x1, s1, l1⟩ := dig_el hB hz g1
  obtain ⟨y1, y2, y3, y4⟩ := hY
  unfold nxS at k2
  have b1 : bz 1 = true := by decide
  have b0 : bz 0 = true := by decide
  have n10 : ¬ (1 : Int32) = 0 := by decide
  rw [f_X6_tryStatement, nI_1, ob_t (at_sp el hz i1), show nI p + 2 = nI (p + 2) from nI_add p 2, ob_t (at_sp el hz (show p + 2 < z by omega)), nm_k, ob_t (at_sp el hz k3), f_X10_isDone]
  have thd : ∀ x : Nat, x < 10 → thB P (nI x) = decide (x < P) := fun x hx => by
    unfold thB
    rw [decide_eq_true (show ¬ nI x < 0 from nI_pos (by omega)), Bool.true_and]
    by_cases c : x < P
    · rw [decide_eq_true c, decide_eq_true (nI_nge c hP)]
    · rw [decide_eq_false c, decide_eq_false (fun q => q (nI_le (by omega) (by omega)))]
  have w9 : ∀ x : Nat, x < 10 → wiB (nI x) 0 9 = true := fun x hx => by rw [wi9 (by omega), decide_eq_true (show x < 10 from hx)]
  have mood : ∀ v : Int32, -9 ≤ v.toInt → v.toInt ≤ 9 → ∀ x, x < 10 → ∃ (b : Bool) (m' S' : Nat → Int32), f_X6_tryMood m (nI P) (nI x) v = some (t01 b, m') ∧ (x < P → f_X10_isSpeaker S (nI x) = some 1 ∧ b = true ∧ m' = upd m x v) ∧ (¬ x < P → f_X10_isSpeaker S (nI x) = some 0 ∧ b = false) := fun v h1 h2 x hx => by
    by_cases c : x < P
    · refine ⟨true, upd m x v, S, ?_, fun _ => ⟨by rw [isSpeaker_sp hs hP, thd x hx, decide_eq_true c]; rfl, rfl, rfl⟩, fun q => absurd c q⟩
      rw [f_X6_tryMood, ob_t (isThere_sp _ _), thd x hx, decide_eq_true c, t01_if, if_pos rfl, gd_t (ix7 (by omega)), nm_k, nm_k, nI_cl (by omega)]
      rfl
    · refine ⟨false, m, S, ?_, fun q => absurd q c, fun _ => ⟨by rw [isSpeaker_sp hs hP, thd x hx, decide_eq_false c]; rfl, rfl⟩⟩
      rw [f_X6_tryMood, ob_t (isThere_sp _ _), thd x hx, decide_eq_false c, t01_if, if_neg (by decide), nm_k]
      rfl
  have hd : dB (cdS z el p) ≤ 3 ∧ (cdS z el p = 97 ∨ cdS z el p = 98 ∨ cdS z el p = 100 ∨ cdS z el p = 102 ∨ cdS z el p = 111 ∨ cdS z el p = 113 ∨ cdS z el p = 115) := by
    refine ⟨(byte_m _ (cd_lt z el p).1).2.2, ?_⟩
    unfold dB at k1
    by_cases e1 : cdS z el p = 97
    · exact Or.inl e1
    by_cases e2 : cdS z el p = 98
    · exact Or.inr (Or.inl e2)
    by_cases e3 : cdS z el p = 100
    · exact Or.inr (Or.inr (Or.inl e3))
    by_cases e4 : cdS z el p = 102
    · exact Or.inr (Or.inr (Or.inr (Or.inl e4)))
    by_cases e5 : cdS z el p = 111
    · exact Or.inr (Or.inr (Or.inr (Or.inr (Or.inl e5))))
    by_cases e6 : cdS z el p = 113
    · exact Or.inr (Or.inr (Or.inr (Or.inr (Or.inr (Or.inl e6)))))
    by_cases e7 : cdS z el p = 115
    · exact Or.inr (Or.inr (Or.inr (Or.inr (Or.inr (Or.inr e7)))))
    rw [if_neg e1, if_neg e2, if_neg e3, if_neg e4, if_neg e5, if_neg e6, if_neg e7] at k1
    exact absurd k1 (by decide)
  rcases hd.2 with e | e | e | e | e | e | e
  · -- a
    have g2 : dgN (cdS z el (p + 2)) = true := k4 1 (by rw [e]; decide)
    obtain ⟨i2, x2, s2, l2⟩ := dig_el hB hz g2
    obtain ⟨v0, v1⟩ := y1 (Or.inl e)
    have hv1 : (-nI (cdS z el (p + 2) - 48)).toInt = -((cdS z el (p + 2) - 48 : Nat) : Int) := sb_negT (by omega)
    obtain ⟨b, m', S', e1, e2, e3⟩ := mood (-nI (cdS z el (p + 2) - 48)) (by rw [hv1]; omega) (by rw [hv1]; omega) (cdS z el (p + 1) - 48) l1
    rw [let_el hB hz e (by decide), e, if_pos (show nI 97 = 97 by decide), if_pos (show hI 97 = 97 by decide), x1, x2, s1, s2, ob_t e1, v0, v1]
    simp only []
    rw [gd_t (bz01 b)]
    by_cases c : cdS z el (p + 1) - 48 < P
    · obtain ⟨f1, rfl, rfl⟩ := e2 c
      rw [ob_t f1, if_neg n10, ob_t (of3 _), if_neg (show ¬ hI 97 = 102 by decide), gd_t (ix42 (by omega)), nm_k, nm_k, nI_cl (by omega)]
      exact ⟨true, P, _, _, _, _, _, _, _, _, _, _, _, rfl, rfl, fun _ => ⟨hs.mood hP c _, hP, hh, hr, hf, hk, ⟨nq, hnq1, hnq2, en⟩, ⟨nd, hnd, ed⟩, hm.upd (by rw [hv1]; omega) (by rw [hv1]; omega)⟩⟩
    · obtain ⟨f1, rfl⟩ := e3 c
      rw [ob_t f1, if_pos rfl, nm_k]
      exact ⟨false, P, _, _, _, _, _, _, _, _, _, _, _, rfl, rfl, fun q => by cases q⟩
  · -- b
    have g2 : dgN (cdS z el (p + 2)) = true := k4 1 (by rw [e]; decide)
    obtain ⟨i2, x2, s2, l2⟩ := dig_el hB hz g2
    obtain ⟨v0, v1⟩ := y1 (Or.inr (Or.inl e))
    rw [let_el hB hz e (by decide), e, if_neg (show ¬ nI 98 = 97 by decide), if_pos (show nI 98 = 98 by decide), if_neg (show ¬ hI 98 = 97 by decide), if_pos (show hI 98 = 98 by decide), x1, x2, s1, s2, v0, v1, f_X6_tryHeight, ob_t (isBalcony_sp _), w9 _ l1, t01_if, if_pos rfl, ob_t (isWithin_sp _ _ _), t01_if, show (4 : Int32) + nI (cdS z el (p + 1) - 48) = nI (4 + (cdS z el (p + 1) - 48)) from nI_add 4 _, gd_t (ix42 (by omega)), nI_cl (show 4 + (cdS z el (p + 1) - 48) < 1000 by omega), gd_t (ix10 l1)]
    simp only [nm_k]
    by_cases c : cdS z el (p + 2) - 48 ≤ 7
    · have c1 : wiB (nI (cdS z el (p + 2) - 48)) 0 7 = true := by
        unfold wiB
        rw [decide_eq_true (show ¬ nI (cdS z el (p + 2) - 48) < 0 from nI_pos (by omega)), decide_eq_true (show ¬ (7 : Int32) < nI (cdS z el (p + 2) - 48) from nI_nlt (a := 7) c (by omega))]
        rfl
      rw [c1, if_pos rfl, if_pos (show nI (cdS z el (p + 2) - 48) ≤ (7 : Int32) from nI_le (b := 7) c (by omega))]
      show ∃ (b : Bool) (P' : Nat) (mv' shut' needed' day' : Int32) (h' k' f' r' m' ms' S' : Nat → Int32), ob (some ((1 : Int32), upd h (nI (cdS z el (p + 1) - 48)).toNatClampNeg (nI (cdS z el (p + 2) - 48)))) _ = _ ∧ _
      rw [ob_t (a := ((1 : Int32), upd h (nI (cdS z el (p + 1) - 48)).toNatClampNeg (nI (cdS z el (p + 2) - 48)))) rfl]
      simp only []
      rw [gd_t b1, nI_cl (by omega)]
      refine ⟨true, P, _, _, _, _, _, _, _, _, _, _, _, rfl, rfl, fun _ => ⟨hs.height l1 _, hP, ?_, hr, hf, hk, ⟨nq, hnq1, hnq2, en⟩, ⟨nd, hnd, ed⟩, hm⟩⟩
      intro q hq
      by_cases e9 : q = cdS z el (p + 1) - 48
      · subst e9
        exact ⟨cdS z el (p + 2) - 48, by omega, upd_at _ _ _⟩
      · rw [upd_ne _ _ e9]
        exact hh q hq
    · have c1 : wiB (nI (cdS z el (p + 2) - 48)) 0 7 = false := by
        unfold wiB
        rw [decide_eq_false (show ¬ ¬ (7 : Int32) < nI (cdS z el (p + 2) - 48) from fun q => q (nI_lt (a := 7) (show 7 < cdS z el (p + 2) - 48 by omega) (by omega))), Bool.and_false]
      rw [c1, if_neg (by decide), if_neg (show ¬ nI (cdS z el (p + 2) - 48) ≤ (7 : Int32) from nI_ge (b := cdS z el (p + 2) - 48) (a := 7) (by omega) (by omega)), ob_t (a := ((0 : Int32), h)) rfl]
      simp only []
      rw [gd_t b0]
      exact ⟨false, P, _, _, _, _, _, _, _, _, _, _, _, rfl, rfl, fun q => by cases q⟩
  · -- d
    have g2 : dgN (cdS z el (p + 2)) = true := k4 1 (by rw [e]; decide)
    obtain ⟨i2, x2, s2, l2⟩ := dig_el hB hz g2
    have v0 := y4 (Or.inl e)
    have ev : (10 : Int32) * nI (cdS z el (p + 1) - 48) + nI (cdS z el (p + 2) - 48) = nI (10 * (cdS z el (p + 1) - 48) + (cdS z el (p + 2) - 48)) := by
      rw [show (10 : Int32) = nI 10 from rfl, pk_mul, nI_add]
    rw [let_el hB hz e (by decide), e, if_neg (show ¬ nI 100 = 97 by decide), if_neg (show ¬ nI 100 = 98 by decide), if_neg (show ¬ nI 100 = 102 by decide), if_neg (show ¬ nI 100 = 111 by decide), if_neg (show ¬ nI 100 = 113 by decide), if_neg (show ¬ nI 100 = 115 by decide), if_neg (show ¬ hI 100 = 97 by decide), if_neg (show ¬ hI 100 = 98 by decide), if_neg (show ¬ hI 100 = 102 by decide), if_neg (show ¬ hI 100 = 111 by decide), if_neg (show ¬ hI 100 = 113 by decide), if_neg (show ¬ hI 100 = 115 by decide), x1, x2, s1, s2, ev, v0, f_X6_tryDays, ob_t (isWithin_sp _ _ _), ob_t (isInM_sp _ _ _), t01_if, t01_if]
    generalize hn : 10 * (cdS z el (p + 1) - 48) + (cdS z el (p + 2) - 48) = n
    cases c : wiB (nI n) 1 60 with
    | false =>
      simp only [Bool.false_eq_true, if_false, nm_k]
      rw [ob_t (a := ((0 : Int32), mv, day, m, ms)) rfl]
      simp only []
      rw [gd_t b0]
      exact ⟨false, P, _, _, _, _, _, _, _, _, _, _, _, rfl, rfl, fun q => by cases q⟩
    | true =>
      simp only [if_true]
      unfold f_X8_hasDaysLeft
      rw [hs.2.1, ed, nI_add]
      rcases Nat.lt_or_ge 999 (nd + n) with q | q
      · rw [if_pos (show (999 : Int32) < nI (nd + n) from nI_lt (a := 999) q (by omega)), if_neg (show ¬ nI (nd + n) ≤ (999 : Int32) from nI_ge (a := 999) q (by omega)), ob_t (a := (0 : Int32)) rfl, if_pos rfl, nm_k, nm_k, ob_t (a := ((0 : Int32), mv, nI nd, m, ms)) rfl]
        simp only []
        rw [gd_t b0]
        exact ⟨false, P, _, _, _, _, _, _, _, _, _, _, _, rfl, rfl, fun q => by cases q⟩
      · obtain ⟨b, y', e1⟩ := X8_live_sp h k f r m ms shut (nI nd) hP hr (n := n) (by omega) hN
        have hs' := hs
        rw [ed] at hs'
        obtain ⟨S', e2, hS'⟩ := X10_daysOn_sp hs' hP hh hr hf hN (n := n) (by omega)
        rw [nI_add] at e1 hS'
        rw [if_neg (show ¬ (999 : Int32) < nI (nd + n) from nI_nlt (a := 999) q (by omega)), if_pos (show nI (nd + n) ≤ (999 : Int32) from nI_le (b := 999) q (by omega)), ob_t (a := (1 : Int32)) rfl, if_neg n10, ob_t e1]
        simp only [nm_k]
        rw [ob_t (a := ((1 : Int32), t01 b, nI (nd + n), itS h k f r shut P n m, y')) rfl]
        simp only []
        rw [gd_t b1, ob_t e2]
        exact ⟨true, P, _, _, _, _, _, _, _, _, _, _, S', rfl, rfl, fun _ => ⟨hS', hP, hh, hr, hf, hk, ⟨nq, hnq1, hnq2, en⟩, ⟨nd + n, q, rfl⟩, it_in hP hf n m hm⟩⟩
  · -- f
    have g2 : dgN (cdS z el (p + 2)) = true := k4 1 (by rw [e]; decide)
    obtain ⟨i2, x2, s2, l2⟩ := dig_el hB hz g2
    obtain ⟨v0, v1⟩ := y1 (Or.inr (Or.inr (Or.inl e)))
    have hv1 : (nI (cdS z el (p + 2) - 48)).toInt = ((cdS z el (p + 2) - 48 : Nat) : Int) := nI_toInt (by omega)
    obtain ⟨b, m', S', e1, e2, e3⟩ := mood (nI (cdS z el (p + 2) - 48)) (by rw [hv1]; omega) (by rw [hv1]; omega) (cdS z el (p + 1) - 48) l1
    rw [let_el hB hz e (by decide), e, if_neg (show ¬ nI 102 = 97 by decide), if_neg (show ¬ nI 102 = 98 by decide), if_pos (show nI 102 = 102 by decide), if_neg (show ¬ hI 102 = 97 by decide), if_neg (show ¬ hI 102 = 98 by decide), if_pos (show hI 102 = 102 by decide), x1, x2, s1, s2, ob_t e1, v0, v1]
    simp only []
    rw [gd_t (bz01 b)]
    by_cases c : cdS z el (p + 1) - 48 < P
    · obtain ⟨f1, rfl, rfl⟩ := e2 c
      rw [ob_t f1, if_neg n10, ob_t (of3 _), if_pos (show hI 102 = 102 by decide), gd_t (ix42 (by omega)), nm_k, nm_k, nI_cl (by omega)]
      exact ⟨true, P, _, _, _, _, _, _, _, _, _, _, _, rfl, rfl, fun _ => ⟨hs.mood hP c _, hP, hh, hr, hf, hk, ⟨nq, hnq1, hnq2, en⟩, ⟨nd, hnd, ed⟩, hm.upd (by rw [hv1]; omega) (by rw [hv1]; omega)⟩⟩
    · obtain ⟨f1, rfl⟩ := e3 c
      rw [ob_t f1, if_pos rfl, nm_k]
      exact ⟨false, P, _, _, _, _, _, _, _, _, _, _, _, rfl, rfl, fun q => by cases q⟩
  · -- o
    have v0 := y3 e
    have et : f_X8_turnShutter shut (nI (cdS z el (p + 1) - 48)) = some (shut ^^^ ((1 : Int32) <<< (nI (cdS z el (p + 1) - 48) &&& 31))) := rfl
    rw [let_el hB hz e (by decide), e, if_neg (show ¬ nI 111 = 97 by decide), if_neg (show ¬ nI 111 = 98 by decide), if_neg (show ¬ nI 111 = 102 by decide), if_pos (show nI 111 = 111 by decide), if_neg (show ¬ hI 111 = 97 by decide), if_neg (show ¬ hI 111 = 98 by decide), if_neg (show ¬ hI 111 = 102 by decide), if_pos (show hI 111 = 111 by decide), x1, s1, v0, f_X6_tryShutter, ob_t (isBalcony_sp _), w9 _ l1, t01_if, if_pos rfl, ob_t et, nm_k, ob_t (a := ((1 : Int32), shut ^^^ ((1 : Int32) <<< (nI (cdS z el (p + 1) - 48) &&& 31)))) rfl, nm_k, nm_k, hs.2.2.2.1]
    simp only []
    rw [gd_t b1]
    exact ⟨true, P, _, _, _, _, _, _, _, _, _, _, _, rfl, rfl, fun _ => ⟨hs.shutIs _, hP, hh, hr, hf, hk, ⟨nq, hnq1, hnq2, en⟩, ⟨nd, hnd, ed⟩, hm⟩⟩
  · -- q
    have g2 : dgN (cdS z el (p + 2)) = true := k4 1 (by rw [e]; decide)
    obtain ⟨i2, x2, s2, l2⟩ := dig_el hB hz g2
    have v0 := y4 (Or.inr e)
    have ev : (10 : Int32) * nI (cdS z el (p + 1) - 48) + nI (cdS z el (p + 2) - 48) = nI (10 * (cdS z el (p + 1) - 48) + (cdS z el (p + 2) - 48)) := by
      rw [show (10 : Int32) = nI 10 from rfl, pk_mul, nI_add]
    rw [let_el hB hz e (by decide), e, if_neg (show ¬ nI 113 = 97 by decide), if_neg (show ¬ nI 113 = 98 by decide), if_neg (show ¬ nI 113 = 102 by decide), if_neg (show ¬ nI 113 = 111 by decide), if_pos (show nI 113 = 113 by decide), if_neg (show ¬ hI 113 = 97 by decide), if_neg (show ¬ hI 113 = 98 by decide), if_neg (show ¬ hI 113 = 102 by decide), if_neg (show ¬ hI 113 = 111 by decide), if_pos (show hI 113 = 113 by decide), x1, x2, s1, s2, ev, v0, f_X6_tryQuota, ob_t (isWithin_sp _ _ _), t01_if]
    have hn9 : 10 * (cdS z el (p + 1) - 48) + (cdS z el (p + 2) - 48) ≤ 99 := by
      have : cdS z el (p + 2) - 48 < 10 := l2
      omega
    generalize hn : 10 * (cdS z el (p + 1) - 48) + (cdS z el (p + 2) - 48) = n at hn9
    by_cases c : n = 0
    · subst c
      have c1 : wiB (nI 0) 1 99 = false := by decide
      rw [c1, if_neg (by decide), if_pos nI_0, nm_k, ob_t (a := ((0 : Int32), needed)) rfl, nm_k]
      simp only []
      rw [gd_t b0]
      exact ⟨false, P, _, _, _, _, _, _, _, _, _, _, _, rfl, rfl, fun q => by cases q⟩
    · have c1 : wiB (nI n) 1 99 = true := by
        unfold wiB
        rw [decide_eq_true (show ¬ nI n < (1 : Int32) from nI_nlt (b := 1) (by omega) (by omega)), decide_eq_true (show ¬ (99 : Int32) < nI n from nI_nlt (a := 99) (by omega) (by omega))]
        rfl
      rw [c1, if_pos rfl, if_neg (nI_ne0 (by omega) (by omega)), nm_k, ob_t (a := ((1 : Int32), nI n)) rfl, nm_k, nm_k]
      simp only []
      rw [gd_t b1]
      exact ⟨true, P, _, _, _, _, _, _, _, _, _, _, _, rfl, rfl, fun _ => ⟨hs.quotaIs _, hP, hh, hr, hf, hk, ⟨n, by omega, hn9, rfl⟩, ⟨nd, hnd, ed⟩, hm⟩⟩
  · -- s
    have g2 : dgN (cdS z el (p + 2)) = true := k4 1 (by rw [e]; decide)
    obtain ⟨i2, x2, s2, l2⟩ := dig_el hB hz g2
    have g3 : dgN (cdS z el (p + 3)) = true := k4 2 (by rw [e]; decide)
    obtain ⟨i3, x3, s3, l3⟩ := dig_el hB hz g3
    obtain ⟨v0, v1⟩ := y1 (Or.inr (Or.inr (Or.inr e)))
    have v2 := y2 e
    rw [let_el hB hz e (by decide), e, if_neg (show ¬ nI 115 = 97 by decide), if_neg (show ¬ nI 115 = 98 by decide), if_neg (show ¬ nI 115 = 102 by decide), if_neg (show ¬ nI 115 = 111 by decide), if_neg (show ¬ nI 115 = 113 by decide), if_pos (show nI 115 = 115 by decide), if_neg (show ¬ hI 115 = 97 by decide), if_neg (show ¬ hI 115 = 98 by decide), if_neg (show ¬ hI 115 = 102 by decide), if_neg (show ¬ hI 115 = 111 by decide), if_neg (show ¬ hI 115 = 113 by decide), if_pos (show hI 115 = 115 by decide), show nI p + 3 = nI (p + 3) from nI_add p 3, ob_t (at_sp el hz i3), x1, x2, x3, s1, s2, s3, v0, v1, v2, f_X6_tryToAdmit, ob_t (isWithin_sp _ _ _), ob_t (isBalcony_sp _), w9 _ l3, t01_if, t01_if, if_pos (show true = true from rfl)]
    by_cases c : cdS z el (p + 1) - 48 < 8
    · have c1 : wiB (nI (cdS z el (p + 1) - 48)) 0 7 = true := wi07 c
      rw [c1, if_pos (show true = true from rfl), if_neg (show ¬ (8 : Int32) ≤ nI (cdS z el (p + 1) - 48) from nI_ge (b := 8) c (by omega)), hs.1]
      by_cases z7 : P = 7
      · subst z7
        have e1 : f_X8_hasRoom (nI 7) = some 0 := rfl
        rw [ob_t e1, if_pos rfl, if_pos (show nI 7 = 7 from rfl), nm_k, ob_t (a := ((0 : Int32), nI 7, k, f, r, m)) rfl, nm_k]
        simp only []
        rw [gd_t b0]
        exact ⟨false, 7, _, _, _, _, _, _, _, _, _, _, _, rfl, rfl, fun q => by cases q⟩
      · have e1 : f_X8_hasRoom (nI P) = some 1 := by rw [f_X8_hasRoom, if_neg (show ¬ (7 : Int32) ≤ nI P from nI_ge (b := 7) (by omega) (by omega))]
        obtain ⟨S', e2, hS'⟩ := hS.adm (show P < 7 by omega) (a := nI (cdS z el (p + 1) - 48)) (b := nI (cdS z el (p + 2) - 48)) (c := nI (cdS z el (p + 3) - 48)) ⟨_, c, rfl⟩ ⟨_, l2, rfl⟩ ⟨_, l3, rfl⟩
        rw [ob_t e1, if_neg n10, if_neg (show ¬ nI P = 7 from fun y => z7 ((nI_eq (b := 7) (by omega) (by omega)).mp y)), ob_t e2, nm_k, ob_t (admit_sp k f r m (show P < 7 by omega) _ _ _)]
        simp only [nm_k]
        rw [ob_t (a := ((1 : Int32), nI (P + 1), upd k P (nI (cdS z el (p + 1) - 48)), upd f P (nI (cdS z el (p + 2) - 48)), upd r P (nI (cdS z el (p + 3) - 48)), upd m P 0)) rfl]
        simp only []
        rw [gd_t b1]
        exact ⟨true, P + 1, _, _, _, _, _, _, _, _, _, _, S', rfl, rfl, fun _ => hS'⟩
    · have c1 : wiB (nI (cdS z el (p + 1) - 48)) 0 7 = false := by
        unfold wiB
        rw [decide_eq_false (show ¬ ¬ (7 : Int32) < nI (cdS z el (p + 1) - 48) from fun q => q (nI_lt (a := 7) (by omega) (by omega))), Bool.and_false]
      rw [c1, if_neg (by decide), if_pos (show (8 : Int32) ≤ nI (cdS z el (p + 1) - 48) from nI_le (a := 8) (by omega) (by omega)), nm_k, ob_t (a := ((0 : Int32), nI P, k, f, r, m)) rfl, nm_k]
      simp only []
      rw [gd_t b0]
      exact ⟨false, P, _, _, _, _, _, _, _, _, _, _, _, rfl, rfl, fun q => by cases q⟩
end DON
