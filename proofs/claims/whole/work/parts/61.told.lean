/-! THE PURE LAYER: what a row tells: forged, judge, whatIs -/
def lsS (so : Int32) : Int32 := if so = 0 then -128 else if so = 1 then -32768 else -2147483648
theorem ls_c (so : Int32) : f_X7_leastOfSort so = some (lsS so) := by unfold f_X7_leastOfSort lsS; simp only [some_if]
theorem ls_m (so : Int32) : f_X10_leastOf so = some (lsS so) := by unfold f_X10_leastOf lsS; simp only [some_if]
def skB (so : Int32) (el : Nat → Int32) (i : Nat) : Bool := decide (el i = lsS so)
theorem skip_sp (el : Nat → Int32) (so : Int32) {z i : Nat} (hz : z ≤ 100) (hi : i < z) : f_X7_isSkipped el so (nI z) (nI i) = some (t01 (skB so el i)) := by
  rw [f_X7_isSkipped, ob_t (at_sp el hz hi), ob_t (ls_c so)]
  unfold skB t01
  by_cases e : el i = lsS so <;> simp [e]
/-! forged -/
def frS (h el : Nat → Int32) : Nat → Nat → Int32
  | 0, _ => -4
  | d + 1, j => if j < 10 then (if el j = h j then frS h el d (j + 1) else nI j) else nI j
theorem wi9 {j : Nat} (hj : j < 1000) : wiB (nI j) 0 9 = decide (j < 10) := by
  unfold wiB
  rw [decide_eq_true (show ¬ nI j < 0 from nI_pos (by omega)), Bool.true_and]
  by_cases y : j < 10
  · rw [decide_eq_true y, decide_eq_true (show ¬ (9 : Int32) < nI j from nI_nlt (b := j) (a := 9) (by omega) (by omega))]
  · rw [decide_eq_false y, decide_eq_false (show ¬ ¬ (9 : Int32) < nI j from fun q => q (nI_lt (a := 9) (by omega) (by omega)))]
theorem X9_forged_lp (h el : Nat → Int32) {z : Nat} (hz : z ≤ 100) : ∀ (d j q : Nat), j + d = z → d < q → L_X9_forged_23 h el (nI z) q (nI j) = some (frS h el d j)
  | 0, j, 0, _, y => absurd y (by omega)
  | 0, j, q + 1, hj, _ => by
    have : j = z := by omega
    subst this
    rw [L_X9_forged_23, if_pos (nI_le (Nat.le_refl j) (by omega))]
    rfl
  | d + 1, j, 0, _, y => absurd y (by omega)
  | d + 1, j, q + 1, hj, hq => by
    rw [L_X9_forged_23, if_neg (nI_ge (by omega) (by omega)), ob_t (isBalcony_sp _), wi9 (by omega), t01_if, ob_t (at_sp el hz (by omega)), nI_cl (by omega), nI_1]
    unfold frS
    by_cases y : j < 10
    · rw [if_pos (decide_eq_true y), if_pos y, gd_t (ix10 y)]
      by_cases e : el j = h j
      · rw [if_pos e, if_pos e]
        exact X9_forged_lp h el hz d (j + 1) q (by omega) (by omega)
      · rw [if_neg e, if_neg e]
    · rw [if_neg (fun q => y (of_decide_eq_true q)), if_neg y]
section TLD
variable {h k f r m : Nat → Int32} {P : Nat} {shut needed day : Int32} {S : Nat → Int32}
theorem X10_forged_lp (hS : Sm h k f r m P shut needed day S) {el SI EL : Nat → Int32} {z d0 : Nat} (hd0 : d0 < 8) (hz : z ≤ 100) (hSI : SI d0 = nI z) (hEL : ∀ i, i < 100 → EL (100 * d0 + i) = el i) : ∀ (d j q : Nat), j + d = z → d < q → L_X10_forged_15 S SI EL (nI d0) q (nI j) = some (frS h el d j)
  | 0, j, 0, _, y => absurd y (by omega)
  | 0, j, q + 1, hj, _ => by
    have : j = z := by omega
    subst this
    rw [L_X10_forged_15, gd_t (ix8 hd0), nI_cl (by omega), hSI, if_pos (nI_le (Nat.le_refl j) (by omega))]
    rfl
  | d + 1, j, 0, _, y => absurd y (by omega)
  | d + 1, j, q + 1, hj, hq => by
    have e4 : (4 : Int32) + nI j = nI (4 + j) := nI_add 4 j
    rw [L_X10_forged_15, gd_t (ix8 hd0), nI_cl (by omega), hSI, if_neg (nI_ge (by omega) (by omega)), ob_t (isRail_sp _), wi9 (by omega), t01_if, e100, gd_t (ix800 (by omega)), nI_cl (by omega), hEL j (by omega), e4, nI_1]
    unfold frS
    by_cases y : j < 10
    · rw [if_pos (decide_eq_true y), if_pos y, gd_t (ix42 (by omega)), nI_cl (by omega), hS.2.2.2.2.1 j y]
      by_cases e : el j = h j
      · rw [if_pos e, if_pos e]
        exact X10_forged_lp hS hd0 hz hSI hEL d (j + 1) q (by omega) (by omega)
      · rw [if_neg e, if_neg e]
    · rw [if_neg (fun q => y (of_decide_eq_true q)), if_neg y]
theorem ag_forged (hS : St h k f r m P shut needed day S) {el : Nat → Int32} {ho ki fi so si : Int32} {K KK KF SO SI EL : Nat → Int32} (p1 : Int32) (hq : ShP p1 el ho ki fi so si K KK KF SO SI EL) {N : Nat} (hN : 1001 ≤ N) : ∃ res : Int32, f_X9_forged N h el ho si p1 = some res ∧ f_X10_forged N S K SO SI EL p1 = some res := by
  rw [f_X9_forged, f_X10_forged]
  cases c : wiB p1 0 7 with
  | false => rw [ob_t (refusal_no c _ _), ob_t (wrongRow_no c _ _ _)]; exact ⟨-1, rfl, rfl⟩
  | true =>
    obtain ⟨d, hd, rfl⟩ := shelf_of c
    obtain ⟨a1, a2, a3, ⟨z, hz, rfl⟩, a5, a6, a7, a8, a9⟩ := hq d hd rfl
    rw [ob_t (refusal_sp hd _ _), ob_t (wrongRow_sp hd K SO), a1]
    by_cases y : rf ho 2 = 0
    · rw [if_pos y, if_pos y, gd_t (ix8 hd)]
      exact ⟨_, X9_forged_lp h el hz z 0 N (by omega) (by omega), X10_forged_lp hS.1 hd hz a3 a8 z 0 N (by omega) (by omega)⟩
    · rw [if_neg y, if_neg y]
      exact ⟨_, rfl, rfl⟩
/-! judge -/
def juS (h k f r : Nat → Int32) (shut needed : Int32) (P : Nat) (so : Int32) (el : Nat → Int32) : Nat → Nat → (Nat → Int32) → Int32
  | 0, _, _ => -4
  | d + 1, j, m => if skB so el j || decide (el j = t01 (caS h k f r m P shut needed)) then juS h k f r shut needed P so el d (j + 1) (dyS h k f r shut P m) else nI j
theorem X9_judge_lp (h k f r y el : Nat → Int32) (shut needed so : Int32) {P N z : Nat} (hP : P ≤ 7) (hr : OkR r P) (hz : z ≤ 100) (hy : ∀ p, p < P → y p = bS (viS h r shut p) P) (hN : 8 ≤ N) :
    ∀ (d j q : Nat) (b : Bool) (m : Nat → Int32) (day : Int32), 1 ≤ j → j + d = z → d < q → (b = false → dyS h k f r shut P m = m) → ∃ w : MG, L_X9_judge_41 N el so (nI z) shut (nI P) needed h k f r y q (nI j) (t01 b) day m = some (juS h k f r shut needed P so el d j (dyS h k f r shut P m), w)
  | 0, j, 0, _, _, _, _, _, h, _ => absurd h (by omega)
  | 0, j, q + 1, b, m, day, _, hj, _, _ => by
    have : j = z := by omega
    subst this
    rw [L_X9_judge_41, if_pos (nI_le (Nat.le_refl j) (by omega))]
    exact ⟨_, rfl⟩
  | d + 1, j, 0, _, _, _, _, _, h, _ => absurd h (by omega)
  | d + 1, j, q + 1, b, m, day, h1, hj, hq, hb => by
    obtain ⟨b1, e1, hb1⟩ := X8_nextDay_sp h k f r m y shut day b hP hy hN hb
    have ih := X9_judge_lp h k f r y el shut needed so hP hr hz hy hN d (j + 1) q b1 (dyS h k f r shut P m) (day + 1) (by omega) (by omega) (by omega) (fun z => by rw [hb1 z]; exact hb1 z)
    rw [L_X9_judge_41, if_neg (nI_ge (by omega) (by omega)), if_neg (show ¬ nI j ≤ 0 from nI_nle (by omega) (by omega)), ob_t e1]
    simp only []
    rw [ob_t (skip_sp el so hz (show j < z by omega)), t01_if, ob_t (at_sp el hz (by omega)), ob_t (X8_isCarried_sp h k f r _ shut needed hP hr hN), ob_t (oneIf_sp _), nI_1]
    unfold juS
    cases s : skB so el j with
    | true => exact ih
    | false =>
      by_cases e : el j = t01 (caS h k f r (dyS h k f r shut P m) P shut needed)
      · rw [if_neg (by decide), if_pos e, if_pos (by rw [decide_eq_true e]; rfl)]
        exact ih
      · rw [if_neg (by decide), if_neg e, if_neg (by rw [decide_eq_false e]; decide)]
        exact ⟨_, rfl⟩
theorem X10_judge_lp (hP : P ≤ 7) (hh : OkH h) (hr : OkR r P) (hf : OkF f P) {el SO SI EL : Nat → Int32} {so : Int32} {z d0 N : Nat} (hd0 : d0 < 8) (hz : z ≤ 100) (hSO : SO d0 = so) (hSI : SI d0 = nI z) (hEL : ∀ i, i < 100 → EL (100 * d0 + i) = el i) (hN : 8 ≤ N) : ∀ (d j q : Nat) (m S : Nat → Int32) (day : Int32), Sm h k f r m P shut needed day S → j + d = z → d < q → ∃ S', L_X10_judge_26 N SO SI EL (nI d0) q (nI j) S = some (juS h k f r shut needed P so el d j m, S')
  | 0, j, 0, _, _, _, _, _, h => absurd h (by omega)
  | 0, j, q + 1, m, S, day, hS, hj, _ => by
    have : j = z := by omega
    subst this
    rw [L_X10_judge_26, gd_t (ix8 hd0), nI_cl (by omega), hSI, if_pos (nI_le (Nat.le_refl j) (by omega))]
    exact ⟨_, rfl⟩
  | d + 1, j, 0, _, _, _, _, _, h => absurd h (by omega)
  | d + 1, j, q + 1, m, S, day, hS, hj, hq => by
    obtain ⟨S1, e1, hS1⟩ := X10_day_sp hS hP hh hr hf hN
    have ih := X10_judge_lp hP hh hr hf hd0 hz hSO hSI hEL hN d (j + 1) q _ S1 (day + 1) hS1 (by omega) (by omega)
    rw [L_X10_judge_26, gd_t (ix8 hd0), nI_cl (by omega), hSI, if_neg (nI_ge (by omega) (by omega)), e100, gd_t (ix800 (by omega)), nm_k, gd_t (ix8 hd0), nI_cl (by omega), hEL j (by omega), hSO, ob_t (ls_m so), ob_t e1, ob_t (X10_doesCarry_sp hS hP hr hN), t01_if, nI_1]
    unfold juS skB
    by_cases s : el j = lsS so
    · rw [if_pos s, if_pos (by rw [decide_eq_true s]; rfl)]
      exact ih
    · rw [if_neg s, decide_eq_false s]
      cases c : caS h k f r m P shut needed with
      | true =>
        by_cases e : el j = 1
        · rw [if_pos rfl, if_pos e, if_pos (show (false || decide (el j = t01 true)) = true by rw [show t01 true = 1 from rfl, decide_eq_true e]; rfl)]
          exact ih
        · rw [if_pos rfl, if_neg e, if_neg (show ¬ (false || decide (el j = t01 true)) = true by rw [show t01 true = 1 from rfl, decide_eq_false e]; decide)]
          exact ⟨_, rfl⟩
      | false =>
        by_cases e : el j = 0
        · rw [if_neg (by decide), if_pos e, if_pos (show (false || decide (el j = t01 false)) = true by rw [show t01 false = 0 from rfl, decide_eq_true e]; rfl)]
          exact ih
        · rw [if_neg (by decide), if_neg e, if_neg (show ¬ (false || decide (el j = t01 false)) = true by rw [show t01 false = 0 from rfl, decide_eq_false e]; decide)]
          exact ⟨_, rfl⟩
theorem ag_judge (hS : St h k f r m P shut needed day S) (mh mk mf mr mm ms : Nat → Int32) (mo mt mp mn md : Int32) (M : Nat → Int32) {el : Nat → Int32} {ho ki fi so si : Int32} {K KK KF SO SI EL : Nat → Int32} (p1 : Int32) (hq : ShP p1 el ho ki fi so si K KK KF SO SI EL) {N : Nat} (hN : 1001 ≤ N) : ∃ (res : Int32) (w : MG) (M' : Nat → Int32), f_X9_judge N h k f r m shut (nI P) needed day mh mk mf mr mm ms mo mt mp mn md el ho so si p1 = some (res, w) ∧ f_X10_judge N S M K SO SI EL p1 = some (res, M') := by
  obtain ⟨hs, hP, hh, hr, hf, hk, h2, h3⟩ := id hS
  rw [f_X9_judge, f_X10_judge]
  cases c : wiB p1 0 7 with
  | false => rw [ob_t (refusal_no c _ _), ob_t (wrongRow_no c _ _ _)]; exact ⟨-1, _, M, rfl, rfl⟩
  | true =>
    obtain ⟨d, hd, rfl⟩ := shelf_of c
    obtain ⟨a1, a2, a3, ⟨z, hz, rfl⟩, a5, a6, a7, a8, a9⟩ := hq d hd rfl
    rw [ob_t (refusal_sp hd _ _), ob_t (wrongRow_sp hd K SO), a1]
    by_cases y : rf ho 2 = 0
    · obtain ⟨t, e2, ht⟩ := copies_sp S M (show 43 ≤ N by omega)
      obtain ⟨M', e3⟩ := X10_judge_lp hP hh hr hf hd hz a2 a3 a8 (show 8 ≤ N by omega) z 0 N m t day (hs.ext hP ht) (by omega) (by omega)
      obtain ⟨y', e4, hy⟩ := X8_startDays_sp h r ms shut hP hr (show 8 ≤ N by omega)
      rw [if_pos y, if_pos y, gd_t (ix8 hd), f_X8_become, ob_t (a := (shut, nI P, needed, day, h, k, f, r, m)) rfl, ob_t e2]
      simp only []
      rw [ob_t e4]
      simp only []
      obtain ⟨N', rfl⟩ : ∃ N', N = N' + 1 := ⟨N - 1, by omega⟩
      have key : ∃ w : MG, L_X9_judge_41 (N' + 1) el so (nI z) shut (nI P) needed h k f r y' (N' + 1) (nI 0) (t01 true) day m = some (juS h k f r shut needed P so el z 0 m, w) := by
        rw [L_X9_judge_41]
        cases z with
        | zero =>
          rw [if_pos (nI_le (Nat.le_refl 0) (by omega))]
          exact ⟨_, rfl⟩
        | succ z =>
          have ih := X9_judge_lp h k f r y' el shut needed so hP hr hz hy (show 8 ≤ N' + 1 by omega) z 1 N' true m day (by omega) (by omega) (by omega) (fun z => by cases z)
          rw [if_neg (nI_ge (by omega) (by omega)), if_pos (show nI 0 ≤ 0 by decide), ob_t (skip_sp el so hz (show 0 < z + 1 by omega)), t01_if, ob_t (at_sp el hz (by omega)), ob_t (X8_isCarried_sp h k f r _ shut needed hP hr (by omega)), ob_t (oneIf_sp _), nI_1]
          unfold juS
          cases s : skB so el 0 with
          | true => exact ih
          | false =>
            by_cases e : el 0 = t01 (caS h k f r m P shut needed)
            · rw [if_neg (by decide), if_pos e, if_pos (by rw [decide_eq_true e]; rfl)]
              exact ih
            · rw [if_neg (by decide), if_neg e, if_neg (by rw [decide_eq_false e]; decide)]
              exact ⟨_, rfl⟩
      obtain ⟨w, e5⟩ := key
      exact ⟨_, w, M', e5, e3⟩
    · rw [if_neg y, if_neg y]
      exact ⟨_, _, M, rfl, rfl⟩
/-! what one is -/
def feS (h k f r : Nat → Int32) (shut : Int32) (P p : Nat) (so : Int32) (el : Nat → Int32) : Nat → Nat → (Nat → Int32) → Bool
  | 0, _, _ => true
  | d + 1, j, m => (skB so el j || decide (el j = m p)) && feS h k f r shut P p so el d (j + 1) (dyS h k f r shut P m)
theorem X9_feels_lp (h k f r y el : Nat → Int32) (shut so : Int32) {P N z p : Nat} (hP : P ≤ 7) (hp : p < P) (hz : z ≤ 100) (hy : ∀ p, p < P → y p = bS (viS h r shut p) P) (hN : 8 ≤ N) :
    ∀ (d j q : Nat) (b : Bool) (m : Nat → Int32) (day : Int32), 1 ≤ j → j + d = z → d < q → (b = false → dyS h k f r shut P m = m) → ∃ w : Int32 × Int32 × (Nat → Int32) × (Nat → Int32), L_X9_feelsAsTold_9 N k f (nI P) el so (nI z) (nI p) y q (nI j) (t01 b) day m = some (t01 (feS h k f r shut P p so el d j (dyS h k f r shut P m)), w)
  | 0, j, 0, _, _, _, _, _, h, _ => absurd h (by omega)
  | 0, j, q + 1, b, m, day, _, hj, _, _ => by
    have : j = z := by omega
    subst this
    rw [L_X9_feelsAsTold_9, if_pos (nI_le (Nat.le_refl j) (by omega))]
    exact ⟨_, rfl⟩
  | d + 1, j, 0, _, _, _, _, _, h, _ => absurd h (by omega)
  | d + 1, j, q + 1, b, m, day, h1, hj, hq, hb => by
    obtain ⟨b1, e1, hb1⟩ := X8_nextDay_sp h k f r m y shut day b hP hy hN hb
    have ih := X9_feels_lp h k f r y el shut so hP hp hz hy hN d (j + 1) q b1 (dyS h k f r shut P m) (day + 1) (by omega) (by omega) (by omega) (fun z => by rw [hb1 z]; exact hb1 z)
    rw [L_X9_feelsAsTold_9, if_neg (nI_ge (by omega) (by omega)), if_neg (show ¬ nI j ≤ 0 from nI_nle (by omega) (by omega)), ob_t e1]
    simp only []
    rw [ob_t (skip_sp el so hz (show j < z by omega)), t01_if, ob_t (at_sp el hz (by omega)), gd_t (ix7 (by omega)), nI_cl (by omega), nI_1]
    unfold feS
    cases s : skB so el j with
    | true => exact ih
    | false =>
      by_cases e : el j = dyS h k f r shut P m p
      · rw [if_neg (by decide), if_pos e, show (false || decide (el j = dyS h k f r shut P m p)) = true by rw [decide_eq_true e]; rfl]
        exact ih
      · rw [if_neg (by decide), if_neg e, show (false || decide (el j = dyS h k f r shut P m p)) = false by rw [decide_eq_false e]; rfl]
        exact ⟨_, rfl⟩
theorem X9_feels_sp (h k f r m ms el : Nat → Int32) (shut so day : Int32) {P N z p : Nat} (hP : P ≤ 7) (hr : OkR r P) (hp : p < P) (hz : z ≤ 100) (hN : 1001 ≤ N) : ∃ w : Int32 × Int32 × (Nat → Int32) × (Nat → Int32), f_X9_feelsAsTold N h k f r m ms shut (nI P) day el so (nI z) (nI p) = some (t01 (feS h k f r shut P p so el z 0 m), w) := by
  obtain ⟨y', e4, hy⟩ := X8_startDays_sp h r ms shut hP hr (show 8 ≤ N by omega)
  rw [f_X9_feelsAsTold, ob_t e4]
  simp only []
  obtain ⟨N', rfl⟩ : ∃ N', N = N' + 1 := ⟨N - 1, by omega⟩
  show ∃ w, L_X9_feelsAsTold_9 (N' + 1) k f (nI P) el so (nI z) (nI p) y' (N' + 1) (nI 0) (t01 true) day m = _
  rw [L_X9_feelsAsTold_9]
  cases z with
  | zero =>
    rw [if_pos (nI_le (Nat.le_refl 0) (by omega))]
    exact ⟨_, rfl⟩
  | succ z =>
    have ih := X9_feels_lp h k f r y' el shut so hP hp hz hy (show 8 ≤ N' + 1 by omega) z 1 N' true m day (by omega) (by omega) (by omega) (fun z => by cases z)
    rw [if_neg (nI_ge (by omega) (by omega)), if_pos (show nI 0 ≤ 0 by decide), ob_t (skip_sp el so hz (show 0 < z + 1 by omega)), t01_if, ob_t (at_sp el hz (by omega)), gd_t (ix7 (by omega)), nI_cl (by omega), nI_1]
    unfold feS
    cases s : skB so el 0 with
    | true => exact ih
    | false =>
      by_cases e : el 0 = m p
      · rw [if_neg (by decide), if_pos e, show (false || decide (el 0 = m p)) = true by rw [decide_eq_true e]; rfl]
        exact ih
      · rw [if_neg (by decide), if_neg e, show (false || decide (el 0 = m p)) = false by rw [decide_eq_false e]; rfl]
        exact ⟨_, rfl⟩
theorem t01_and1 (b : Bool) : t01 b &&& 1 = t01 b := by cases b <;> rfl
theorem t01_and0 (b : Bool) : t01 b &&& 0 = t01 false := by cases b <;> rfl
theorem X10_what_lp (hP : P ≤ 7) (hh : OkH h) (hr : OkR r P) (hf : OkF f P) {el SO SI EL : Nat → Int32} {so : Int32} {z d0 N p : Nat} (hp : p < P) (hd0 : d0 < 8) (hz : z ≤ 100) (hSO : SO d0 = so) (hSI : SI d0 = nI z) (hEL : ∀ i, i < 100 → EL (100 * d0 + i) = el i) (hN : 8 ≤ N) : ∀ (d j q : Nat) (b : Bool) (m S : Nat → Int32) (day : Int32), Sm h k f r m P shut needed day S → j + d = z → d < q → ∃ S', ∀ kk, L_X10_whatIs_86 N SO SI EL (nI d0) (nI p) kk q (nI j) (t01 b) S = kk (nI z) (t01 (b && feS h k f r shut P p so el d j m)) S'
  | 0, j, 0, _, _, _, _, _, _, h => absurd h (by omega)
  | 0, j, q + 1, b, m, S, day, hS, hj, _ => by
    have : j = z := by omega
    subst this
    refine ⟨S, fun kk => ?_⟩
    rw [L_X10_whatIs_86, gd_t (ix8 hd0), nI_cl (by omega), hSI, if_pos (nI_le (Nat.le_refl j) (by omega))]
    show _ = kk (nI j) (t01 (b && true)) S
    rw [Bool.and_true]
  | d + 1, j, 0, _, _, _, _, _, _, h => absurd h (by omega)
  | d + 1, j, q + 1, b, m, S, day, hS, hj, hq => by
    obtain ⟨S1, e1, hS1⟩ := X10_day_sp hS hP hh hr hf hN
    obtain ⟨S2, ih⟩ := X10_what_lp hP hh hr hf hp hd0 hz hSO hSI hEL hN d (j + 1) q (b && (skB so el j || decide (el j = m p))) _ S1 (day + 1) hS1 (by omega) (by omega)
    refine ⟨S2, fun kk => ?_⟩
    have ih := ih kk
    rw [Bool.and_assoc] at ih
    show _ = kk (nI z) (t01 (b && ((skB so el j || decide (el j = m p)) && feS h k f r shut P p so el d (j + 1) (dyS h k f r shut P m)))) S2
    rw [← ih, L_X10_whatIs_86, gd_t (ix8 hd0), nI_cl (by omega), hSI, if_neg (nI_ge (by omega) (by omega)), e100, gd_t (ix800 (by omega)), nm_k, gd_t (ix8 hd0), nI_cl (by omega), hEL j (by omega), hSO, ob_t (ls_m so), ob_t e1, ob_t (of3 p), gd_t (ix42 (by omega)), nI_cl (by omega), (hS.2.2.2.2.2 p hp).2.2.2, ob_t e1, nI_1, t01_and1, t01_and0]
    unfold skB
    by_cases s : el j = lsS so
    · rw [if_pos s, decide_eq_true s, Bool.true_or, Bool.and_true]
    · rw [if_neg s, decide_eq_false s, Bool.false_or]
      by_cases e : el j = m p
      · rw [if_pos e, decide_eq_true e, Bool.and_true]
      · rw [if_neg e, decide_eq_false e, Bool.and_false]
theorem Sm.kindIs (hS : Sm h k f r m P shut needed day S) (hP : P ≤ 7) {p : Nat} (hp : p < P) (x : Int32) : Sm h (upd k p x) f r m P shut needed day (upd S (14 + 4 * p) x) := by
  obtain ⟨h0, h1, h2, h3, h4, h5⟩ := hS
  refine ⟨by rw [upd_ne _ _ (by omega)]; exact h0, by rw [upd_ne _ _ (by omega)]; exact h1, by rw [upd_ne _ _ (by omega)]; exact h2, by rw [upd_ne _ _ (by omega)]; exact h3, fun b hb => by rw [upd_ne _ _ (by omega)]; exact h4 b hb, fun q hq => ?_⟩
  obtain ⟨a0, a1, a2, a3⟩ := h5 q hq
  refine ⟨?_, by rw [upd_ne _ _ (by omega)]; exact a1, by rw [upd_ne _ _ (by omega)]; exact a2, by rw [upd_ne _ _ (by omega)]; exact a3⟩
  by_cases e : q = p
  · subst e
    rw [upd_at, upd_at]
  · rw [upd_ne _ _ (by omega), upd_ne _ _ e]
    exact a0
theorem Sm.figIs (hS : Sm h k f r m P shut needed day S) (hP : P ≤ 7) {p : Nat} (hp : p < P) (x : Int32) : Sm h k (upd f p x) r m P shut needed day (upd S (14 + 4 * p + 1) x) := by
  obtain ⟨h0, h1, h2, h3, h4, h5⟩ := hS
  refine ⟨by rw [upd_ne _ _ (by omega)]; exact h0, by rw [upd_ne _ _ (by omega)]; exact h1, by rw [upd_ne _ _ (by omega)]; exact h2, by rw [upd_ne _ _ (by omega)]; exact h3, fun b hb => by rw [upd_ne _ _ (by omega)]; exact h4 b hb, fun q hq => ?_⟩
  obtain ⟨a0, a1, a2, a3⟩ := h5 q hq
  refine ⟨by rw [upd_ne _ _ (by omega)]; exact a0, ?_, by rw [upd_ne _ _ (by omega)]; exact a2, by rw [upd_ne _ _ (by omega)]; exact a3⟩
  by_cases e : q = p
  · subst e
    rw [upd_at, upd_at]
  · rw [upd_ne _ _ (by omega), upd_ne _ _ e]
    exact a1
theorem OkF.upd {f : Nat → Int32} {P p b : Nat} (hf : OkF f P) (hb : b < 10) : OkF (upd f p (nI b)) P := by
  intro q hq
  by_cases e : q = p
  · subst e
    exact ⟨b, hb, upd_at _ _ _⟩
  · rw [upd_ne _ _ e]
    exact hf q hq
def wkC (h k f r m : Nat → Int32) (shut : Int32) (P p : Nat) (so : Int32) (el : Nat → Int32) (z i : Nat) : Bool := feS h (upd k p (nI i)) f r shut P p so el z 0 m
def wfC (h k f r m : Nat → Int32) (shut : Int32) (P p : Nat) (so : Int32) (el : Nat → Int32) (z i : Nat) : Bool := feS h k (upd f p (nI i)) r shut P p so el z 0 m
theorem X9_wk_lp (h k f r m el : Nat → Int32) (shut needed day so : Int32) {P N z p d0 : Nat} (hP : P ≤ 7) (hr : OkR r P) (hp : p < P) (hd0 : d0 < 8) (hz : z ≤ 100) (hN : 1001 ≤ N) : ∀ (d j q : Nat) (a g1 g2 g3 g4 g5 : Int32) (v1 v2 v3 v4 v5 v6 : Nat → Int32), j + d = 8 → d < q → ∃ w : MG, L_X9_whatIs_57_2 N h k f r m shut (nI P) needed day el so (nI z) (nI d0) (nI p) 0 q (nI j) a g1 g2 g3 g4 g5 v1 v2 v3 v4 v5 v6 = some (fup (sB (wkC h k f r m shut P p so el z)) j d a, w)
  | 0, j, 0, _, _, _, _, _, _, _, _, _, _, _, _, _, y => absurd y (by omega)
  | 0, j, q + 1, a, g1, g2, g3, g4, g5, v1, v2, v3, v4, v5, v6, hj, _ => by
    have : j = 8 := by omega
    subst this
    rw [L_X9_whatIs_57_2, if_pos (show (8 : Int32) ≤ nI 8 by decide)]
    exact ⟨_, rfl⟩
  | d + 1, j, 0, _, _, _, _, _, _, _, _, _, _, _, _, _, y => absurd y (by omega)
  | d + 1, j, q + 1, a, g1, g2, g3, g4, g5, v1, v2, v3, v4, v5, v6, hj, hq => by
    obtain ⟨⟨w1, w2, w3, w4⟩, e1⟩ := X9_feels_sp h (upd k p (nI j)) f r m v6 el shut so day hP hr hp hz hN
    rw [L_X9_whatIs_57_2, if_neg (show ¬ (8 : Int32) ≤ nI j from nI_ge (b := 8) (by omega) (by omega)), f_X8_become, ob_t (a := (shut, nI P, needed, day, h, k, f, r, m)) rfl]
    simp only [if_true]
    rw [gd_t (ix7 (by omega)), nm_k, gd_t (ix8 hd0), nI_cl (by omega), ob_t e1]
    simp only []
    rw [t01_if, nm_k, nI_1]
    show ∃ w : MG, _ = some (fup (sB (wkC h k f r m shut P p so el z)) (j + 1) d (sB (wkC h k f r m shut P p so el z) j a), w)
    have c0 : feS h (upd k p (nI j)) f r shut P p so el z 0 m = wkC h k f r m shut P p so el z j := rfl
    rw [c0]
    cases c : wkC h k f r m shut P p so el z j with
    | false =>
      rw [show sB (wkC h k f r m shut P p so el z) j a = a by simp [sB, c]]
      exact X9_wk_lp h k f r m el shut needed day so hP hr hp hd0 hz hN d (j + 1) q _ _ _ _ _ _ _ _ _ _ _ _ (by omega) (by omega)
    | true =>
      rw [show sB (wkC h k f r m shut P p so el z) j a = a ||| bt1 j by simp [sB, c]]
      exact X9_wk_lp h k f r m el shut needed day so hP hr hp hd0 hz hN d (j + 1) q _ _ _ _ _ _ _ _ _ _ _ _ (by omega) (by omega)
theorem X9_wf_lp (h k f r m el : Nat → Int32) (shut needed day so : Int32) {P N z p d0 : Nat} (hP : P ≤ 7) (hr : OkR r P) (hp : p < P) (hd0 : d0 < 8) (hz : z ≤ 100) (hN : 1001 ≤ N) : ∀ (d j q : Nat) (a g1 g2 g3 g4 g5 : Int32) (v1 v2 v3 v4 v5 v6 : Nat → Int32), j + d = 10 → d < q → ∃ w : MG, L_X9_whatIs_57 N h k f r m shut (nI P) needed day el so (nI z) (nI d0) (nI p) (nI 1) q (nI j) a g1 g2 g3 g4 g5 v1 v2 v3 v4 v5 v6 = some (fup (sB (wfC h k f r m shut P p so el z)) j d a, w)
  | 0, j, 0, _, _, _, _, _, _, _, _, _, _, _, _, _, y => absurd y (by omega)
  | 0, j, q + 1, a, g1, g2, g3, g4, g5, v1, v2, v3, v4, v5, v6, hj, _ => by
    have : j = 10 := by omega
    subst this
    rw [L_X9_whatIs_57, if_pos (show (10 : Int32) ≤ nI 10 by decide)]
    exact ⟨_, rfl⟩
  | d + 1, j, 0, _, _, _, _, _, _, _, _, _, _, _, _, _, y => absurd y (by omega)
  | d + 1, j, q + 1, a, g1, g2, g3, g4, g5, v1, v2, v3, v4, v5, v6, hj, hq => by
    obtain ⟨⟨w1, w2, w3, w4⟩, e1⟩ := X9_feels_sp h k (upd f p (nI j)) r m v6 el shut so day hP hr hp hz hN
    rw [L_X9_whatIs_57, if_neg (show ¬ (10 : Int32) ≤ nI j from nI_ge (b := 10) (by omega) (by omega)), f_X8_become, ob_t (a := (shut, nI P, needed, day, h, k, f, r, m)) rfl]
    simp only []
    rw [if_neg (show ¬ nI 1 = 0 by decide), gd_t (ix7 (by omega)), nm_k, gd_t (ix8 hd0), nI_cl (by omega), ob_t e1]
    simp only []
    rw [t01_if, nm_k, nI_1]
    show ∃ w : MG, _ = some (fup (sB (wfC h k f r m shut P p so el z)) (j + 1) d (sB (wfC h k f r m shut P p so el z) j a), w)
    have c0 : feS h k (upd f p (nI j)) r shut P p so el z 0 m = wfC h k f r m shut P p so el z j := rfl
    rw [c0]
    cases c : wfC h k f r m shut P p so el z j with
    | false =>
      rw [show sB (wfC h k f r m shut P p so el z) j a = a by simp [sB, c]]
      exact X9_wf_lp h k f r m el shut needed day so hP hr hp hd0 hz hN d (j + 1) q _ _ _ _ _ _ _ _ _ _ _ _ (by omega) (by omega)
    | true =>
      rw [show sB (wfC h k f r m shut P p so el z) j a = a ||| bt1 j by simp [sB, c]]
      exact X9_wf_lp h k f r m el shut needed day so hP hr hp hd0 hz hN d (j + 1) q _ _ _ _ _ _ _ _ _ _ _ _ (by omega) (by omega)
theorem X10_wk_lp (hs : Sm h k f r m P shut needed day S) (hP : P ≤ 7) (hh : OkH h) (hr : OkR r P) (hf : OkF f P) {el SO SI EL : Nat → Int32} {so : Int32} {z d0 N p : Nat} (hp : p < P) (hd0 : d0 < 8) (hz : z ≤ 100) (hSO : SO d0 = so) (hSI : SI d0 = nI z) (hEL : ∀ i, i < 100 → EL (100 * d0 + i) = el i) (hN : 1001 ≤ N) : ∀ (d j q : Nat) (a : Int32) (M : Nat → Int32), j + d = 8 → d < q → ∃ M', L_X10_whatIs_41 N S SO SI EL (nI d0) (nI p) 0 q (nI j) a M = some (fup (sB (wkC h k f r m shut P p so el z)) j d a, M')
  | 0, j, 0, _, _, _, y => absurd y (by omega)
  | 0, j, q + 1, a, M, hj, _ => by
    have : j = 8 := by omega
    subst this
    rw [L_X10_whatIs_41, if_pos rfl, if_pos (show (8 : Int32) ≤ nI 8 by decide)]
    exact ⟨_, rfl⟩
  | d + 1, j, 0, _, _, _, y => absurd y (by omega)
  | d + 1, j, q + 1, a, M, hj, hq => by
    obtain ⟨t, e2, ht⟩ := copies_sp S M (show 43 ≤ N by omega)
    obtain ⟨M1, e3⟩ := X10_what_lp hP hh hr hf hp hd0 hz hSO hSI hEL (show 8 ≤ N by omega) z 0 N true m _ day ((hs.ext hP ht).kindIs hP hp (nI j)) (by omega) (by omega)
    have e3 : ∀ kk, L_X10_whatIs_86 N SO SI EL (nI d0) (nI p) kk N 0 1 (upd t (14 + 4 * p) (nI j)) = kk (nI z) (t01 (true && wkC h k f r m shut P p so el z j)) M1 := e3
    rw [L_X10_whatIs_41, if_pos rfl, if_neg (show ¬ (8 : Int32) ≤ nI j from nI_ge (b := 8) (by omega) (by omega)), ob_t e2, ob_t (of0 p), gd_t (ix42 (by omega)), nm_k, nI_cl (by omega), e3, Bool.true_and, t01_if, nm_k, nI_1, Int32.or_zero]
    show ∃ M', _ = some (fup (sB (wkC h k f r m shut P p so el z)) (j + 1) d (sB (wkC h k f r m shut P p so el z) j a), M')
    cases c : wkC h k f r m shut P p so el z j with
    | false =>
      rw [show sB (wkC h k f r m shut P p so el z) j a = a by simp [sB, c]]
      exact X10_wk_lp hs hP hh hr hf hp hd0 hz hSO hSI hEL hN d (j + 1) q _ _ (by omega) (by omega)
    | true =>
      rw [show sB (wkC h k f r m shut P p so el z) j a = a ||| bt1 j by simp [sB, c]]
      exact X10_wk_lp hs hP hh hr hf hp hd0 hz hSO hSI hEL hN d (j + 1) q _ _ (by omega) (by omega)
theorem X10_wf_lp (hs : Sm h k f r m P shut needed day S) (hP : P ≤ 7) (hh : OkH h) (hr : OkR r P) (hf : OkF f P) {el SO SI EL : Nat → Int32} {so : Int32} {z d0 N p : Nat} (hp : p < P) (hd0 : d0 < 8) (hz : z ≤ 100) (hSO : SO d0 = so) (hSI : SI d0 = nI z) (hEL : ∀ i, i < 100 → EL (100 * d0 + i) = el i) (hN : 1001 ≤ N) : ∀ (d j q : Nat) (a : Int32) (M : Nat → Int32), j + d = 10 → d < q → ∃ M', L_X10_whatIs_41 N S SO SI EL (nI d0) (nI p) (nI 1) q (nI j) a M = some (fup (sB (wfC h k f r m shut P p so el z)) j d a, M')
  | 0, j, 0, _, _, _, y => absurd y (by omega)
  | 0, j, q + 1, a, M, hj, _ => by
    have : j = 10 := by omega
    subst this
    rw [L_X10_whatIs_41, if_neg (show ¬ nI 1 = 0 by decide), if_pos (show (10 : Int32) ≤ nI 10 by decide)]
    exact ⟨_, rfl⟩
  | d + 1, j, 0, _, _, _, y => absurd y (by omega)
  | d + 1, j, q + 1, a, M, hj, hq => by
    obtain ⟨t, e2, ht⟩ := copies_sp S M (show 43 ≤ N by omega)
    obtain ⟨M1, e3⟩ := X10_what_lp hP hh hr (hf.upd (show j < 10 by omega)) hp hd0 hz hSO hSI hEL (show 8 ≤ N by omega) z 0 N true m _ day ((hs.ext hP ht).figIs hP hp (nI j)) (by omega) (by omega)
    have e3 : ∀ kk, L_X10_whatIs_86 N SO SI EL (nI d0) (nI p) kk N 0 1 (upd t (14 + 4 * p + 1) (nI j)) = kk (nI z) (t01 (true && wfC h k f r m shut P p so el z j)) M1 := e3
    rw [L_X10_whatIs_41, if_neg (show ¬ nI 1 = 0 by decide), if_neg (show ¬ (10 : Int32) ≤ nI j from nI_ge (b := 10) (by omega) (by omega)), ob_t e2, ob_t (of_sp p 1), gd_t (ix42 (by omega)), nm_k, nI_cl (by omega), e3, Bool.true_and, t01_if, nm_k, nI_1, Int32.or_zero]
    show ∃ M', _ = some (fup (sB (wfC h k f r m shut P p so el z)) (j + 1) d (sB (wfC h k f r m shut P p so el z) j a), M')
    cases c : wfC h k f r m shut P p so el z j with
    | false =>
      rw [show sB (wfC h k f r m shut P p so el z) j a = a by simp [sB, c]]
      exact X10_wf_lp hs hP hh hr hf hp hd0 hz hSO hSI hEL hN d (j + 1) q _ _ (by omega) (by omega)
    | true =>
      rw [show sB (wfC h k f r m shut P p so el z) j a = a ||| bt1 j by simp [sB, c]]
      exact X10_wf_lp hs hP hh hr hf hp hd0 hz hSO hSI hEL hN d (j + 1) q _ _ (by omega) (by omega)
theorem ag_whatIs (hS : St h k f r m P shut needed day S) (mh mk mf mr mm ms : Nat → Int32) (mo mt mp mn md : Int32) (M : Nat → Int32) {el : Nat → Int32} {ho ki fi so si : Int32} {K KK KF SO SI EL : Nat → Int32} (p1 p2 p3 : Int32) (hq : ShP p1 el ho ki fi so si K KK KF SO SI EL) {N : Nat} (hN : 1001 ≤ N) : ∃ (res : Int32) (w : MG) (M' : Nat → Int32), f_X9_whatIs N h k f r m shut (nI P) needed day mh mk mf mr mm ms mo mt mp mn md el ho so si p1 p2 p3 = some (res, w) ∧ f_X10_whatIs N S M K SO SI EL p1 p2 p3 = some (res, M') := by
  obtain ⟨hs, hP, hh, hr, hf, hk, h2, h3⟩ := id hS
  rw [f_X9_whatIs, f_X10_whatIs, ob_t (isThere_sp _ _), ob_t (isSpeaker_sp hs hP _), t01_if, t01_if, ob_t (isWithin_sp _ _ _), ob_t (isInM_sp _ _ _), t01_if, t01_if]
  cases c1 : thB P p2 with
  | false => exact ⟨-1, _, M, rfl, rfl⟩
  | true =>
    cases c2 : wiB p3 0 1 with
    | false => exact ⟨-1, _, M, rfl, rfl⟩
    | true =>
      simp only [if_true]
      obtain ⟨p, hp, rfl⟩ := thB_of hP c1
      obtain ⟨x, -, hx, rfl⟩ := wiB_of (a := 0) (b := 1) (by omega) (by omega) c2
      cases c : wiB p1 0 7 with
      | false => rw [ob_t (refusal_no c _ _), ob_t (wrongRow_no c _ _ _)]; exact ⟨-1, _, M, rfl, rfl⟩
      | true =>
        obtain ⟨d, hd, rfl⟩ := shelf_of c
        obtain ⟨a1, a2, a3, ⟨z, hz, rfl⟩, a5, a6, a7, a8, a9⟩ := hq d hd rfl
        rw [ob_t (refusal_sp hd _ _), ob_t (wrongRow_sp hd K SO), a1]
        by_cases y : rf ho 2 = 0
        · rw [if_pos y, if_pos y]
          have hx2 : x = 0 ∨ x = 1 := by omega
          rcases hx2 with rfl | rfl
          · obtain ⟨w, e1⟩ := X9_wk_lp h k f r m el shut needed day so hP hr hp hd hz hN 8 0 N 0 mo mt mp mn md mh mk mf mr mm ms (by omega) (by omega)
            obtain ⟨M', e2⟩ := X10_wk_lp hs hP hh hr hf hp hd hz a2 a3 a8 hN 8 0 N 0 M (by omega) (by omega)
            rw [if_pos nI_0]
            exact ⟨_, w, M', e1, e2⟩
          · obtain ⟨w, e1⟩ := X9_wf_lp h k f r m el shut needed day so hP hr hp hd hz hN 10 0 N 0 mo mt mp mn md mh mk mf mr mm ms (by omega) (by omega)
            obtain ⟨M', e2⟩ := X10_wf_lp hs hP hh hr hf hp hd hz a2 a3 a8 hN 10 0 N 0 M (by omega) (by omega)
            rw [if_neg (show ¬ nI 1 = 0 by decide)]
            exact ⟨_, w, M', e1, e2⟩
        · rw [if_neg y, if_neg y]
          exact ⟨_, _, M, rfl, rfl⟩
end TLD
