/-! THE PURE LAYER: the face, carries, speaker, count, when, bestRail, lines -/
theorem w_rng : ∀ a, a < 8 → ∀ b, b < 10 → ∀ c, c < 8 → (¬ wtS (nI a) (nI b) (nI c) < 0) ∧ wtS (nI a) (nI b) (nI c) ≤ 23 := by decide +kernel
def OkK (k : Nat → Int32) (P : Nat) : Prop := ∀ p, p < P → ∃ j : Nat, j < 8 ∧ k p = nI j
theorem w1_rng {h k f r : Nat → Int32} {P p : Nat} (hh : OkH h) (hr : OkR r P) (hf : OkF f P) (hk : OkK k P) (hp : p < P) : ∃ j : Nat, j ≤ 23 ∧ w1 h k f r p = nI j := by
  obtain ⟨a, ha, ea⟩ := hk p hp
  obtain ⟨b, hb, eb⟩ := hf p hp
  obtain ⟨i, hi, ei⟩ := hr p hp
  obtain ⟨c, hc, ec⟩ := hh i hi
  obtain ⟨q1, q2⟩ := w_rng a ha b hb c hc
  unfold w1
  rw [ea, eb, ei, nI_cl (by omega), ec]
  exact nI_of2 (M := 23) (n := 23) (by decide) q1 q2
theorem wa_fold {h k f r : Nat → Int32} {P : Nat} (hh : OkH h) (hr : OkR r P) (hf : OkF f P) (hk : OkK k P) (g : Int32) : ∀ (d j n : Nat), n ≤ 23 * j → j + d ≤ P → ∃ n' : Nat, n' ≤ 23 * P ∧ fup (fun p a => if inn g (nI p) then a + w1 h k f r p else a) j d (nI n) = nI n'
  | 0, j, n, hn, hj => ⟨n, by omega, rfl⟩
  | d + 1, j, n, hn, hj => by
    obtain ⟨x, hx, ex⟩ := w1_rng hh hr hf hk (show j < P by omega)
    cases hc : inn g (nI j) with
    | false =>
      simp only [fup, hc, Bool.false_eq_true, reduceIte]
      exact wa_fold hh hr hf hk g d (j + 1) n (by omega) (by omega)
    | true =>
      simp only [fup, hc, reduceIte]
      rw [ex, nI_add]
      exact wa_fold hh hr hf hk g d (j + 1) (n + x) (by omega) (by omega)
theorem wa_rng {h k f r : Nat → Int32} {P : Nat} (hP : P ≤ 7) (hh : OkH h) (hr : OkR r P) (hf : OkF f P) (hk : OkK k P) (g : Int32) : ∃ n : Nat, n ≤ 161 ∧ waS h k f r P g = nI n := by
  obtain ⟨n, hn, e⟩ := wa_fold hh hr hf hk g P 0 0 (by omega) (by omega)
  exact ⟨n, by omega, e⟩
def agS (m : Nat → Int32) (P : Nat) : Int32 := bS (fun p => decide (¬ 0 ≤ m p)) P
theorem X8_onesAgainst_sp (m : Nat → Int32) {P N : Nat} (hP : P ≤ 7) (hN : 8 ≤ N) : f_X8_onesAgainst N m (nI P) = some (agS m P) := by
  rw [f_X8_onesAgainst]
  refine lup (P := P) (fun n i a => L_X8_onesAgainst_4 m (nI P) n i a) (sB (fun p => decide (¬ 0 ≤ m p))) some ?_ ?_ P 0 N 0 (by omega) (by omega)
  · intro n a
    simp only [L_X8_onesAgainst_4]
    rw [if_pos (nI_le (Nat.le_refl P) (by omega))]
  · intro n k a hk
    rw [L_X8_onesAgainst_4, if_neg (nI_nge hk hP), gd_t (ix7 (by omega)), nI_cl (by omega)]
    unfold sB
    by_cases hm : 0 ≤ m k
    · simp [hm]
    · simp [hm, nm, bt1]
theorem neg1 {x : Int32} (h1 : -9 ≤ x.toInt) (h2 : x.toInt ≤ 9) : ((-1 : Int32) * x ≤ 0) = (0 ≤ x) := by
  rw [Int32.le_iff_toInt_le, Int32.le_iff_toInt_le, Int32.toInt_mul, show (-1 : Int32).toInt = -1 by decide, show (0 : Int32).toInt = 0 by decide, Int.bmod_eq_of_le (by omega) (by omega)]
  exact propext (by omega)
section FACE5
variable {h k f r m : Nat → Int32} {P : Nat} {shut needed day : Int32} {S : Nat → Int32}
theorem X10_against_sp (hS : Sm h k f r m P shut needed day S) (hP : P ≤ 7) (hm : OkM m P) {N : Nat} (hN : 8 ≤ N) : f_X10_moodSet N S (-1) = some (agS m P) := by
  rw [f_X10_moodSet]
  refine lup (P := P) (fun n i a => L_X10_moodSet_4 S (-1) n i a) (sB (fun p => decide (¬ 0 ≤ m p))) some ?_ ?_ P 0 N 0 (by omega) (by omega)
  · intro n a
    simp only [L_X10_moodSet_4]
    rw [hS.1, if_pos (nI_le (Nat.le_refl P) (by omega))]
  · intro n j a hj
    rw [L_X10_moodSet_4, hS.1, if_neg (nI_nge hj hP), ob_t (of3 j), gd_t (ix42 (by omega)), nI_cl (by omega), (hS.2.2.2.2.2 j hj).2.2.2]
    simp only [neg1 (hm j hj).1 (hm j hj).2]
    unfold sB
    by_cases hm : 0 ≤ m j
    · simp [hm]
    · simp [hm, nm, bt1]
theorem ag_count (hS : St h k f r m P shut needed day S) (p1 : Int32) {N : Nat} (hN : 1001 ≤ N) : ∃ res : Int32, f_X9_count N r m shut (nI P) needed day p1 = some res ∧ f_X10_count N S p1 = some res := by
  obtain ⟨hs, hP, hh, hr, hf, hk, h2, h3, hm⟩ := id hS
  rw [f_X9_count, f_X10_count, ob_t (X8_heardOnes_sp r shut hP (by omega)), ob_t (X8_onesFor_sp m hP (by omega)), ob_t (X8_onesAgainst_sp m hP (by omega)), ob_t (X10_heardIn_sp hs hP (by omega)), ob_t (X10_moodSet_sp hs hP (by omega)), ob_t (X10_against_sp hs hP hm (by omega)), hs.2.2.2.1]
  by_cases c0 : p1 = 0
  · subst c0
    exact ⟨nI P, rfl, by rw [← hs.1]; rfl⟩
  by_cases c1 : p1 = 1
  · subst c1
    exact ⟨day, rfl, by rw [← hs.2.1]; rfl⟩
  by_cases c2 : p1 = 2
  · subst c2
    exact ⟨needed, rfl, by rw [← hs.2.2.1]; rfl⟩
  rw [if_neg c0, if_neg c1, if_neg c2, if_neg c0, if_neg c1, if_neg c2]
  simp only [some_if]
  exact ⟨_, rfl, rfl⟩
theorem ag_carries (hS : St h k f r m P shut needed day S) (p1 : Int32) {N : Nat} (hN : 1001 ≤ N) : ∃ res : Int32, f_X9_carries N h k f r m shut (nI P) needed p1 = some res ∧ f_X10_carries N S p1 = some res := by
  obtain ⟨hs, hP, hh, hr, hf, hk, ⟨q, hq1, hq2, rfl⟩, h3, hm⟩ := id hS
  obtain ⟨w, hw, ew⟩ := wa_rng hP hh hr hf hk (hdS r shut P &&& foS m P)
  rw [f_X9_carries, f_X10_carries, ob_t (X8_heardOnes_sp r shut hP (by omega)), ob_t (X8_isCarried_sp h k f r m shut (nI q) hP hr (by omega)), ob_t (oneIf_sp _), ob_t (X8_weightFor_sp h k f r m _ hP hr (by omega)), ob_t (X8_weightFor_sp h k f r m _ hP hr (by omega)), ob_t (X8_whyNot_sp h k f r m (nI q) _ hP hr (by omega)), ob_t (X10_doesCarry_sp hs hP hr (by omega)), ob_t (X10_heardIn_sp hs hP (by omega)), ob_t (X10_whyBy_sp hs hP hr _ (by omega)), ob_t (X10_forIn_sp hs hP hr (by omega)), ob_t (X10_forIn_sp hs hP hr (by omega)), ob_t (X10_forIn_sp hs hP hr (by omega)), t01_if, hs.2.2.1, ew]
  by_cases c0 : p1 = 0
  · rw [if_pos c0, if_pos c0]
    refine ⟨_, rfl, ?_⟩
    cases caS h k f r m P shut (nI q) <;> rfl
  by_cases c1 : p1 = 1
  · rw [if_neg c0, if_pos c1, if_neg c0, if_pos c1]
    exact ⟨_, rfl, rfl⟩
  by_cases c2 : p1 = 2
  · rw [if_neg c0, if_neg c1, if_pos c2, if_neg c0, if_neg c1, if_pos c2]
    refine ⟨_, rfl, ?_⟩
    rcases Nat.lt_or_ge w q with z | z
    · rw [if_neg (nI_ge z (by omega)), pk_sub (by omega), if_pos (show (0 : Int32) < nI (q - w) from nI_lt (a := 0) (by omega) (by omega))]
    · rw [if_pos (nI_le z (by omega)), if_neg (by rw [Int32.lt_iff_toInt_lt, pk_sub_toInt (by omega) (by omega), show (0 : Int32).toInt = 0 by decide]; omega)]
  rw [if_neg c0, if_neg c1, if_neg c2, if_neg c0, if_neg c1, if_neg c2]
  simp only [some_if]
  exact ⟨_, rfl, rfl⟩
theorem ag_speaker (hS : St h k f r m P shut needed day S) (p1 p2 : Int32) : ∃ res : Int32, f_X9_speaker h k f r m shut (nI P) p1 p2 = some res ∧ f_X10_speaker S p1 p2 = some res := by
  obtain ⟨hs, hP, hh, hr, hf, hk, h2, h3⟩ := id hS
  rw [f_X9_speaker, f_X10_speaker, ob_t (isThere_sp _ _), ob_t (isSpeaker_sp hs hP _), t01_if, t01_if, ob_t (isInM_sp _ _ _), t01_if]
  cases c1 : thB P p1 with
  | false => exact ⟨-1, rfl, rfl⟩
  | true =>
    obtain ⟨p, hp, rfl⟩ := thB_of hP c1
    obtain ⟨s0, s1, s2, s3⟩ := hs.2.2.2.2.2 p hp
    simp only [if_true]
    rw [gd_t (ix7 (by omega)), gd_t (ix7 (by omega)), gd_t (ix7 (by omega)), gd_t (ix7 (by omega)), gd_t (ix7 (by omega)), gd_t (ix7 (by omega)), nI_cl (by omega), ob_t (X8_weightOf_sp h k f r hP hr hp), ob_t (X8_isHeard_sp r shut (by omega)), ob_t (oneIf_sp _), ob_t (sw_sp _ _), ob_t (of3 p), gd_t (ix42 (by omega)), nI_cl (by omega), ob_t (X10_weight_sp hs hP hr hp), ob_t (X10_isHeard_sp hs hP hp), t01_if, ob_t (of0 p), gd_t (ix42 (by omega)), ob_t (of1 p), gd_t (ix42 (by omega)), nI_cl (by omega), nI_cl (by omega), ob_t (swm_sp _ _), s0, s1, s3]
    cases c2 : wiB p2 0 6 with
    | false =>
      have n0 : ¬ p2 = 0 := fun e => by rw [e] at c2; cases c2
      have n1 : ¬ p2 = 1 := fun e => by rw [e] at c2; cases c2
      have n2 : ¬ p2 = 2 := fun e => by rw [e] at c2; cases c2
      have n3 : ¬ p2 = 3 := fun e => by rw [e] at c2; cases c2
      have n4 : ¬ p2 = 4 := fun e => by rw [e] at c2; cases c2
      have n5 : ¬ p2 = 5 := fun e => by rw [e] at c2; cases c2
      have n6 : ¬ p2 = 6 := fun e => by rw [e] at c2; cases c2
      rw [if_neg n0, if_neg n1, if_neg n2, if_neg n3, if_neg n4, if_neg n5, if_neg n6]
      exact ⟨-1, rfl, rfl⟩
    | true =>
      obtain ⟨x, -, hx, rfl⟩ := wiB_of (a := 0) (b := 6) (by omega) (by omega) c2
      rw [ob_t (of_sp p x)]
      have hx2 : x = 0 ∨ x = 1 ∨ x = 2 ∨ x = 3 ∨ x = 4 ∨ x = 5 ∨ x = 6 := by omega
      rcases hx2 with rfl | rfl | rfl | rfl | rfl | rfl | rfl
      · refine ⟨k p, rfl, ?_⟩
        rw [gd_t (ix42 (by omega)), nI_cl (by omega)]
        exact congrArg some s0
      · refine ⟨f p, rfl, ?_⟩
        rw [gd_t (ix42 (by omega)), nI_cl (by omega)]
        exact congrArg some s1
      · refine ⟨r p, rfl, ?_⟩
        rw [gd_t (ix42 (by omega)), nI_cl (by omega)]
        exact congrArg some s2
      · exact ⟨_, rfl, rfl⟩
      · exact ⟨_, rfl, rfl⟩
      · refine ⟨t01 (!inn shut (r p)), rfl, ?_⟩
        cases inn shut (r p) <;> rfl
      · exact ⟨_, rfl, rfl⟩
/-! when -/
theorem we_fix (h k f r : Nat → Int32) (shut needed : Int32) (P : Nat) (m : Nat → Int32) (hd : dyS h k f r shut P m = m) (hc : caS h k f r m P shut needed = false) : ∀ (d j : Nat), weS h k f r shut needed P d j m = -4
  | 0, _ => rfl
  | d + 1, j => by
    simp only [weS, hc, Bool.false_eq_true, reduceIte]
    rw [hd]
    exact we_fix h k f r shut needed P m hd hc d (j + 1)
theorem X9_when_lp (h k f r y : Nat → Int32) (shut needed : Int32) {P N : Nat} (hP : P ≤ 7) (hr : OkR r P) (hy : ∀ p, p < P → y p = bS (viS h r shut p) P) (hN : 8 ≤ N) :
    ∀ (d j q : Nat) (b : Bool) (m : Nat → Int32) (day : Int32), j + d = 61 → d < q → (b = false → dyS h k f r shut P m = m ∧ caS h k f r m P shut needed = false) → ∃ w, L_X9_when_22 N shut (nI P) needed h k f r y q (nI j) (t01 b) (t01 b) day m = some (weS h k f r shut needed P d j m, w)
  | 0, j, 0, _, _, _, _, h, _ => absurd h (by omega)
  | 0, j, q + 1, b, m, day, hj, _, _ => by
    have : j = 61 := by omega
    subst this
    rw [L_X9_when_22, if_pos (show (60 : Int32) < nI 61 by decide)]
    exact ⟨_, rfl⟩
  | d + 1, j, 0, _, _, _, _, h, _ => absurd h (by omega)
  | d + 1, j, q + 1, b, m, day, hj, hq, hb => by
    rw [L_X9_when_22, if_neg (show ¬ (60 : Int32) < nI j from nI_nlt (b := j) (a := 60) (by omega) (by omega)), t01_if]
    cases b with
    | false =>
      obtain ⟨e1, e2⟩ := hb rfl
      rw [we_fix h k f r shut needed P m e1 e2]
      exact ⟨_, rfl⟩
    | true =>
      simp only [if_true]
      rw [ob_t (X8_isCarried_sp h k f r m shut needed hP hr hN), t01_if]
      cases hc : caS h k f r m P shut needed with
      | true =>
        simp only [weS, hc, if_true]
        exact ⟨_, rfl⟩
      | false =>
        obtain ⟨b1, e1, hb1⟩ := X8_nextDay_sp h k f r m y shut day true hP hy hN (fun z => by cases z)
        obtain ⟨w, e2⟩ := X9_when_lp h k f r y shut needed hP hr hy hN d (j + 1) q b1 (dyS h k f r shut P m) (day + 1) (by omega) (by omega) (fun z => by rw [hb1 z]; exact ⟨hb1 z, hc⟩)
        refine ⟨w, ?_⟩
        simp only [weS, hc, Bool.false_eq_true, reduceIte]
        rw [ob_t e1, nI_1]
        exact e2
theorem X10_when_lp (hP : P ≤ 7) (hh : OkH h) (hr : OkR r P) (hf : OkF f P) {N : Nat} (hN : 8 ≤ N) : ∀ (d j q : Nat) (m S : Nat → Int32) (day : Int32), Sm h k f r m P shut needed day S → j + d = 61 → d < q → ∃ S', L_X10_when_13 N q (nI j) S = some (weS h k f r shut needed P d j m, S')
  | 0, j, 0, _, _, _, _, _, h => absurd h (by omega)
  | 0, j, q + 1, m, S, day, hS, hj, _ => by
    have : j = 61 := by omega
    subst this
    rw [L_X10_when_13, if_pos (show (60 : Int32) < nI 61 by decide)]
    exact ⟨_, rfl⟩
  | d + 1, j, 0, _, _, _, _, _, h => absurd h (by omega)
  | d + 1, j, q + 1, m, S, day, hS, hj, hq => by
    rw [L_X10_when_13, if_neg (show ¬ (60 : Int32) < nI j from nI_nlt (b := j) (a := 60) (by omega) (by omega)), ob_t (X10_doesCarry_sp hS hP hr hN), t01_if]
    cases hc : caS h k f r m P shut needed with
    | true =>
      simp only [weS, hc, if_true]
      exact ⟨_, rfl⟩
    | false =>
      obtain ⟨S1, e1, hS1⟩ := X10_day_sp hS hP hh hr hf hN
      obtain ⟨S2, e2⟩ := X10_when_lp hP hh hr hf hN d (j + 1) q _ S1 (day + 1) hS1 (by omega) (by omega)
      refine ⟨S2, ?_⟩
      simp only [weS, hc, Bool.false_eq_true, reduceIte]
      rw [ob_t e1, nI_1]
      exact e2
theorem ag_when (hS : St h k f r m P shut needed day S) (ms M : Nat → Int32) {N : Nat} (hN : 1001 ≤ N) : ∃ (res : Int32) (w : Int32 × Int32 × Int32 × Int32 × Int32 × (Nat → Int32) × (Nat → Int32) × (Nat → Int32) × (Nat → Int32) × (Nat → Int32) × (Nat → Int32)) (M' : Nat → Int32), f_X9_when N h k f r m shut (nI P) needed day ms = some (res, w) ∧ f_X10_when N S M = some (res, M') := by
  obtain ⟨hs, hP, hh, hr, hf, hk, h2, h3⟩ := id hS
  obtain ⟨y', e, hy⟩ := X8_startDays_sp h r ms shut hP hr (show 8 ≤ N by omega)
  obtain ⟨w, e2⟩ := X9_when_lp h k f r y' shut needed hP hr hy (show 8 ≤ N by omega) 61 0 N true m day (by omega) (by omega) (fun z => by cases z)
  obtain ⟨t, e3, ht⟩ := copies_sp S M (show 43 ≤ N by omega)
  obtain ⟨M', e4⟩ := X10_when_lp hP hh hr hf (show 8 ≤ N by omega) 61 0 N m t day (hs.ext hP ht) (by omega) (by omega)
  refine ⟨weS h k f r shut needed P 61 0 m, w, M', ?_, ?_⟩
  · rw [f_X9_when, f_X8_become, ob_t (a := (shut, nI P, needed, day, h, k, f, r, m)) rfl]
    simp only []
    rw [ob_t e]
    exact e2
  · rw [f_X10_when, ob_t e3]
    exact e4
/-! the best rail -/
def brS (h k f : Nat → Int32) (p b : Nat) (a : Nat) : Nat := if wtS (k p) (f p) (h b) ≤ wtS (k p) (f p) (h a) then a else b
theorem ag_bestRail (hS : St h k f r m P shut needed day S) (p1 : Int32) {N : Nat} (hN : 1001 ≤ N) : ∃ res : Int32, f_X9_bestRail N h k f (nI P) p1 = some res ∧ f_X10_bestRail N S p1 = some res := by
  obtain ⟨hs, hP, hh, hr, hf, hk, h2, h3⟩ := id hS
  rw [f_X9_bestRail, f_X10_bestRail, ob_t (isThere_sp _ _), ob_t (isSpeaker_sp hs hP _), t01_if, t01_if]
  cases c1 : thB P p1 with
  | false => exact ⟨-1, rfl, rfl⟩
  | true =>
    obtain ⟨p, hp, rfl⟩ := thB_of hP c1
    have hle : ∀ (d j a : Nat), a < 10 → j + d ≤ 10 → fup (brS h k f p) j d a < 10 := by
      intro d
      induction d with
      | zero => intro j a ha _; exact ha
      | succ d ih =>
        intro j a ha hj
        refine ih (j + 1) _ ?_ (by omega)
        unfold brS
        split
        · exact ha
        · omega
    refine ⟨nI (fup (brS h k f p) 1 9 0), ?_, ?_⟩
    · simp only [if_true]
      refine lupI (P := 10) (fun n i (a : Nat) => L_X9_bestRail_17 h k f (nI p) n i (nI a)) (brS h k f p) (fun a => some (nI a)) (fun a => a < 10) (fun n a ha => ?_) (fun n b a hb ha => ?_) 9 1 N 0 (by omega) (by omega) (by omega)
      · simp only [L_X9_bestRail_17]
        rw [if_pos (show (10 : Int32) ≤ nI 10 by decide)]
      · refine ⟨?_, by unfold brS; split <;> omega⟩
        rw [L_X9_bestRail_17, if_neg (show ¬ (10 : Int32) ≤ nI b from nI_ge (b := 10) hb (by omega)), gd_t (ix10 hb), nI_cl (by omega), ob_t (X8_weightAt_sp k f (by omega) _), gd_t (ix10 ha), nI_cl (by omega), ob_t (X8_weightAt_sp k f (by omega) _)]
        unfold brS
        by_cases z : wtS (k p) (f p) (h b) ≤ wtS (k p) (f p) (h a) <;> simp [z]
    · simp only [if_true]
      have e0 : fup (brS h k f p) 1 9 0 = fup (brS h k f p) 0 10 0 := by
        show _ = fup (brS h k f p) 1 9 (brS h k f p 0 0)
        rw [show brS h k f p 0 0 = 0 by unfold brS; split <;> rfl]
      rw [e0]
      refine lupI (P := 10) (fun n i (a : Nat) => L_X10_bestRail_14 S (nI p) n i (nI a)) (brS h k f p) (fun a => some (nI a)) (fun a => a < 10) (fun n a ha => ?_) (fun n b a hb ha => ?_) 10 0 N 0 (by omega) (by omega) (by omega)
      · simp only [L_X10_bestRail_14]
        rw [if_pos (show (10 : Int32) ≤ nI 10 by decide)]
      · refine ⟨?_, by unfold brS; split <;> omega⟩
        have e4 : ∀ x : Nat, (4 : Int32) + nI x = nI (4 + x) := fun x => nI_add 4 x
        rw [L_X10_bestRail_14, if_neg (show ¬ (10 : Int32) ≤ nI b from nI_ge (b := 10) hb (by omega)), e4, e4, gd_t (ix42 (by omega)), nI_cl (by omega), hs.2.2.2.2.1 b hb, ob_t (X10_weightAt_sp hs hP hp _), gd_t (ix42 (by omega)), nI_cl (by omega), hs.2.2.2.2.1 a ha, ob_t (X10_weightAt_sp hs hP hp _)]
        unfold brS
        by_cases z : wtS (k p) (f p) (h b) ≤ wtS (k p) (f p) (h a) <;> simp [z]
/-! lines -/
def l2S (h r : Nat → Int32) (P a : Nat) (x : Int32) : Int32 := fup (fun b x => if seS h r a b then x + 1 else x) (a + 1) (P - (a + 1)) x
theorem X8_two_in (h r : Nat → Int32) {P a N : Nat} (hP : P ≤ 7) (hr : OkR r P) (ha : a < P) (hN : 8 ≤ N) (kk : Int32 → Int32 → Option Int32) (x : Int32) : L_X8_twosInSight_16 h r (nI P) (nI a) kk N (nI (a + 1)) x = kk (nI P) (l2S h r P a x) := by
  refine lup (P := P) (fun n i x => L_X8_twosInSight_16 h r (nI P) (nI a) kk n i x) (fun b x => if seS h r a b then x + 1 else x) (fun x => kk (nI P) x) (fun n x => ?_) (fun n b x hb => ?_) (P - (a + 1)) (a + 1) N x (by omega) (by omega)
  · simp only [L_X8_twosInSight_16]
    rw [if_pos (nI_le (Nat.le_refl P) (by omega))]
  · rw [L_X8_twosInSight_16, if_neg (nI_nge hb hP), ob_t (X8_isInSight_sp h r hP hr ha hb), t01_if]
    cases seS h r a b <;> rfl
theorem X8_twosInSight_sp (h r : Nat → Int32) {P N : Nat} (hP : P ≤ 7) (hr : OkR r P) (hN : 8 ≤ N) : f_X8_twosInSight N h r (nI P) = some (fup (fun a x => l2S h r P a x) 0 P 0) := by
  rw [f_X8_twosInSight]
  refine lup (P := P) (fun n i x => L_X8_twosInSight_4 N h r (nI P) n i x) (fun a x => l2S h r P a x) some (fun n x => ?_) (fun n a x ha => ?_) P 0 N 0 (by omega) (by omega)
  · simp only [L_X8_twosInSight_4]
    rw [if_pos (nI_le (Nat.le_refl P) (by omega))]
  · rw [L_X8_twosInSight_4, if_neg (nI_nge ha hP), nI_1, X8_two_in h r hP hr ha hN]
def loS (h k f r : Nat → Int32) (shut : Int32) (p : Nat) (a : Option Nat) : Option Nat := if inn shut (r p) then a else match a with
  | none => some p
  | some q => if w1 h k f r p ≤ w1 h k f r q then some q else some p
def loI : Option Nat → Int32
  | none => -4
  | some q => nI q
def loW (h k f r : Nat → Int32) : Option Nat → Int32
  | none => -1
  | some q => w1 h k f r q
def loP (P : Nat) : Option Nat → Prop
  | none => True
  | some q => q < P
theorem loS_P {h k f r : Nat → Int32} {shut : Int32} {P p : Nat} (hp : p < P) : ∀ a, loP P a → loP P (loS h k f r shut p a) := by
  intro a ha
  unfold loS
  split
  · exact ha
  · cases a with
    | none => exact hp
    | some q =>
      show loP P (if _ then some q else some p)
      split
      · exact ha
      · exact hp
theorem X8_loudest_sp {h k f r : Nat → Int32} (shut : Int32) {P N : Nat} (hP : P ≤ 7) (hh : OkH h) (hr : OkR r P) (hf : OkF f P) (hk : OkK k P) (hN : 8 ≤ N) : f_X8_loudest N h k f r shut (nI P) = some (loI (fup (loS h k f r shut) 0 P none)) := by
  rw [f_X8_loudest]
  refine lupI (P := P) (fun n i a => L_X8_loudest_7 h k f r shut (nI P) n i (loW h k f r a) (loI a)) (loS h k f r shut) (fun a => some (loI a)) (loP P) (fun n a _ => ?_) (fun n p a hp ha => ⟨?_, loS_P hp a ha⟩) P 0 N none trivial (by omega) (by omega)
  · simp only [L_X8_loudest_7]
    rw [if_pos (nI_le (Nat.le_refl P) (by omega))]
  · rw [L_X8_loudest_7, if_neg (nI_nge hp hP), ob_t (X8_isHeard_sp r shut (by omega)), t01_if, ob_t (X8_weightOf_sp h k f r hP hr hp), ob_t (X8_weightOf_sp h k f r hP hr hp)]
    cases hi : inn shut (r p) with
    | true => simp [loS, hi]
    | false =>
      cases a with
      | none =>
        obtain ⟨x, hx, ex⟩ := w1_rng hh hr hf hk hp
        have hn : ¬ w1 h k f r p ≤ (-1 : Int32) := by
          rw [ex, Int32.le_iff_toInt_le, nI_toInt (by omega), show (-1 : Int32).toInt = -1 by decide]
          omega
        simp [loS, hi, hn, loW, loI]
      | some q =>
        by_cases z : w1 h k f r p ≤ w1 h k f r q <;> simp [loS, hi, z, loW, loI]
theorem X10_lines_in (hs : Sm h k f r m P shut needed day S) (hP : P ≤ 7) (hh : OkH h) (hr : OkR r P) {a N : Nat} (ha : a < P) (hN : 8 ≤ N) (kk : Int32 → Int32 → Option Int32) (x : Int32) : L_X10_lines_36 S (nI a) kk N (nI (a + 1)) x = kk (nI P) (l2S h r P a x) := by
  refine lup (P := P) (fun n i x => L_X10_lines_36 S (nI a) kk n i x) (fun b x => if seS h r a b then x + 1 else x) (fun x => kk (nI P) x) (fun n x => ?_) (fun n b x hb => ?_) (P - (a + 1)) (a + 1) N x (by omega) (by omega)
  · simp only [L_X10_lines_36]
    rw [hs.1, if_pos (nI_le (Nat.le_refl P) (by omega))]
  · rw [L_X10_lines_36, hs.1, if_neg (nI_nge hb hP), ob_t (X10_doesSee_sp hs hP hh hr ha hb), t01_if, Int32.add_zero]
    cases seS h r a b <;> rfl
theorem fup_pair {α β : Type} (s1 : Nat → α → α) (s2 : Nat → β → β) : ∀ (d j : Nat) (a : α) (b : β), fup (fun i (x : α × β) => (s1 i x.1, s2 i x.2)) j d (a, b) = (fup s1 j d a, fup s2 j d b)
  | 0, _, _, _ => rfl
  | d + 1, j, a, b => fup_pair s1 s2 d (j + 1) (s1 j a) (s2 j b)
theorem ag_lines (hS : St h k f r m P shut needed day S) (p1 : Int32) {N : Nat} (hN : 1001 ≤ N) : ∃ res : Int32, f_X9_lines N h k f r shut (nI P) p1 = some res ∧ f_X10_lines N S p1 = some res := by
  obtain ⟨hs, hP, hh, hr, hf, hk, h2, h3⟩ := id hS
  rw [f_X9_lines, f_X10_lines, ob_t (X8_twosInSight_sp h r hP hr (by omega)), ob_t (X8_loudest_sp shut hP hh hr hf hk (by omega)), ob_t (isInM_sp _ _ _), t01_if]
  have e := lupI (P := P) (fun n i (a : Option Nat × Int32) => L_X10_lines_19 N S p1 n i (loI a.1) a.2) (fun i a => (loS h k f r shut i a.1, l2S h r P i a.2)) (fun a => if p1 = 0 then some a.2 else some (loI a.1)) (fun a => loP P a.1) (fun n a _ => ?_) (fun n p a hp ha => ⟨?_, loS_P hp a.1 ha⟩) P 0 N (none, 0) trivial (by omega) (by omega)
  · rw [fup_pair (loS h k f r shut) (fun i x => l2S h r P i x)] at e
    cases c2 : wiB p1 0 1 with
    | false =>
      have n0 : ¬ p1 = 0 := fun e => by rw [e] at c2; cases c2
      have n1 : ¬ p1 = 1 := fun e => by rw [e] at c2; cases c2
      rw [if_neg n0, if_neg n1]
      exact ⟨-1, rfl, rfl⟩
    | true =>
      obtain ⟨x, -, hx, rfl⟩ := wiB_of (a := 0) (b := 1) (by omega) (by omega) c2
      have hx2 : x = 0 ∨ x = 1 := by omega
      rcases hx2 with rfl | rfl
      · exact ⟨_, rfl, e⟩
      · exact ⟨_, rfl, e⟩
  · simp only [L_X10_lines_19]
    rw [hs.1, if_pos (nI_le (Nat.le_refl P) (by omega))]
  · show L_X10_lines_19 N S p1 (n + 1) (nI p) (loI a.1) a.2 = L_X10_lines_19 N S p1 n (nI p + 1) (loI (loS h k f r shut p a.1)) (l2S h r P p a.2)
    rw [L_X10_lines_19, hs.1, if_neg (nI_nge hp hP), nI_1, X10_lines_in hs hP hh hr hp (by omega), ob_t (X10_isHeard_sp hs hP hp), t01_if]
    obtain ⟨a1, a2⟩ := a
    cases hi : inn shut (r p) with
    | true => simp [loS, hi]
    | false =>
      cases a1 with
      | none => simp [loS, hi, loI]
      | some q =>
        have hq : q < P := ha
        have h0 : ¬ nI q < 0 := nI_pos (by omega)
        simp only [loI, if_neg h0]
        rw [ob_t (X10_weight_sp hs hP hr hp), ob_t (X10_weight_sp hs hP hr hq)]
        by_cases z : w1 h k f r p ≤ w1 h k f r q <;> simp [loS, hi, z, loI, h0]
end FACE5
