/-! THE PURE LAYER: quarter -/
theorem m1000 {x : Nat} (hx : x < 1000) : ¬ ((-1000 : Int32) - nI x) = 0 ∧ (-1000 : Int32) - nI x < 0 := by
  have e : ((-1000 : Int32) - nI x).toInt = -1000 - (x : Int) := by
    have h1 : (-1000 : Int32).toInt = -1000 := by decide
    rw [i_sub (by rw [h1, nI_toInt (by omega)]; omega) (by rw [h1, nI_toInt (by omega)]; omega), h1, nI_toInt (by omega)]
  refine ⟨fun q => ?_, ?_⟩
  · rw [q, show (0 : Int32).toInt = 0 by decide] at e
    omega
  · rw [Int32.lt_iff_toInt_lt, e, show (0 : Int32).toInt = 0 by decide]
    omega
theorem m2000 {x : Nat} (hx : x < 1000) : ¬ ((-2000 : Int32) - nI x) = 0 ∧ (-2000 : Int32) - nI x < 0 := by
  have e : ((-2000 : Int32) - nI x).toInt = -2000 - (x : Int) := by
    have h1 : (-2000 : Int32).toInt = -2000 := by decide
    rw [i_sub (by rw [h1, nI_toInt (by omega)]; omega) (by rw [h1, nI_toInt (by omega)]; omega), h1, nI_toInt (by omega)]
  refine ⟨fun q => ?_, ?_⟩
  · rw [q, show (0 : Int32).toInt = 0 by decide] at e
    omega
  · rw [Int32.lt_iff_toInt_lt, e, show (0 : Int32).toInt = 0 by decide]
    omega
theorem dgF_le {z : Nat} {el : Nat → Int32} : ∀ (k p x : Nat), dgF z el k p = some x → x ≤ p + k
  | 0, p, x, h => by
    unfold dgF at h
    by_cases e : cdS z el p = 59
    · rw [if_pos e] at h; cases h
    · rw [if_neg e] at h
      have := Option.some.inj h
      omega
  | k + 1, p, x, h => by
    unfold dgF at h
    cases e : dgN (cdS z el p) with
    | false =>
      rw [e, if_neg (by decide)] at h
      have := Option.some.inj h
      omega
    | true =>
      rw [e, if_pos rfl] at h
      have := dgF_le k (p + 1) x h
      omega
theorem stF_le {z : Nat} {el : Nat → Int32} {p x : Nat} (h : stF0 z el p = some x) : x ≤ p + 4 := by
  unfold stF0 at h
  by_cases e : dB (cdS z el p) = 0
  · rw [if_pos e] at h
    have := Option.some.inj h
    omega
  · rw [if_neg e] at h
    have := dgF_le _ _ _ h
    have := (byte_m (cdS z el p) (cd_lt z el p).1).2.2
    omega
theorem ph_le {z : Nat} {el : Nat → Int32} : ∀ (n p x : Nat), p ≤ z → phS z el n p = some x → x ≤ z + 4
  | 0, _, _, _, h => by cases h
  | n + 1, p, x, hp, h => by
    unfold phS at h
    cases e : stF0 z el p with
    | some y =>
      rw [e] at h
      have := Option.some.inj h
      have := stF_le e
      omega
    | none =>
      rw [e] at h
      have h : (if nxS z el p < z then phS z el n (nxS z el p) else none) = some x := h
      by_cases c : nxS z el p < z
      · rw [if_pos c] at h
        exact ph_le n _ x (by omega) h
      · rw [if_neg c] at h
        cases h
theorem ph_next {z : Nat} {el : Nat → Int32} {n p : Nat} (h : phS z el (n + 1) p = none) : stF0 z el p = none ∧ (nxS z el p < z → phS z el n (nxS z el p) = none) := by
  unfold phS at h
  cases e : stF0 z el p with
  | some y => rw [e] at h; cases h
  | none =>
    rw [e] at h
    have h : (if nxS z el p < z then phS z el n (nxS z el p) else none) = none := h
    exact ⟨rfl, fun c => by rw [if_pos c] at h; exact h⟩
section QUA
variable {h k f r m : Nat → Int32} {P : Nat} {shut needed day : Int32} {S : Nat → Int32} {z d0 : Nat} {el EL : Nat → Int32}
theorem ph1 (hz : z ≤ 100) (hd0 : d0 < 8) (hEL : ∀ i, i < 100 → EL (100 * d0 + i) = el i) (S W : Nat → Int32) {N : Nat} (hN : 1001 ≤ N) : ∀ (n p q c : Nat) (Y : Nat → Int32), (p < z ∨ z = 0) → p ≤ z → z - p < n → z - p < q → ∃ (c' : Nat) (Y' W' : Nat → Int32), (∀ i, i < 42 → W' i = S i) ∧ L_X10_quarter_41 N S W EL (nI (100 * d0)) (nI z) q 0 (nI c) (nI p) Y = L_X10_quarter_93 N EL (nI (100 * d0)) (nI z) (nI c') W' N (match phS z el n p with | some x => -1000 - nI x | none => 0) 0 S Y' ∧ (phS z el n p = none → c' + 1 = c + nsS z el n p)
  | 0, _, _, _, _, _, _, y, _ => absurd y (by omega)
  | n + 1, p, 0, _, _, _, _, _, y => absurd y (by omega)
  | n + 1, p, q + 1, c, Y, hp, hp2, hn, hq => by
    obtain ⟨t, et, ht⟩ := copies_sp S W (show 43 ≤ N by omega)
    obtain ⟨Y1, e1, -⟩ := rs_sp hz hd0 hEL (show 11 ≤ N by omega) (show p < 800 by omega) Y
    rw [L_X10_quarter_41, ob_t e1]
    simp only []
    rw [ob_t et]
    unfold phS nsS
    cases hs : stF0 z el p with
    | some x =>
      have hx := stF_le hs
      refine ⟨c, Y1, t, ht, ?_, fun y => by cases y⟩
      show (if (0 : Int32) = 0 then (if ((-1000 : Int32) - nI x) = 0 then _ else _) else _) = _
      rw [if_pos rfl, if_neg (m1000 (show x < 1000 by omega)).1]
      rfl
    | none =>
      obtain ⟨k1, k2, k3, k4⟩ := stF_none hs
      show ∃ (c' : Nat) (Y' W' : Nat → Int32), _ ∧ (if (1 : Int32) = 0 then _ else (if True then (if nI (nxS z el p) < nI z then _ else _) else _)) = _ ∧ _
      rw [if_neg (show ¬ (1 : Int32) = 0 by decide), if_true]
      by_cases y : nxS z el p < z
      · rw [if_pos (nI_lt y (by omega)), nI_1]
        simp only [if_pos y]
        obtain ⟨c', Y', W', a1, a2, a3⟩ := ph1 hz hd0 hEL S W hN n (nxS z el p) q (c + 1) Y1 (Or.inl y) k2 (by unfold nxS at *; omega) (by unfold nxS at *; omega)
        exact ⟨c', Y', W', a1, a2, fun w => by have := a3 w; omega⟩
      · rw [if_neg (nI_nlt (by omega) (by omega)), ob_t et]
        simp only [if_neg y]
        exact ⟨c, Y1, t, ht, rfl, fun _ => rfl⟩
theorem ph2 (hB : OkB el) (hz : z ≤ 100) (hd0 : d0 < 8) (hEL : ∀ i, i < 100 → EL (100 * d0 + i) = el i) (W : Nat → Int32) (x8 : Int32) {N : Nat} (hN : 1001 ≤ N) : ∀ (n p q q2 cnt : Nat) (Y h k f r m ms S : Nat → Int32) (P : Nat) (mv shut needed day : Int32), p ≤ z → (p < z → phS z el n p = none) → z - p < n → z - p < q → z - p + 1 < q2 → St h k f r m P shut needed day S →
    ∃ (res res' pl mv' shut' needed' day' : Int32) (P' : Nat) (h' k' f' r' m' ms' S' Y' : Nat → Int32), L_X6_play_21 N el (nI z) q (nI p) (nI cnt) mv shut (nI P) needed day h k f r m ms = some (res, mv', shut', nI P', needed', day', h', k', f', r', m', ms') ∧ L_X10_quarter_93 N EL (nI (100 * d0)) (nI z) x8 W q2 0 (nI p) S Y = some (res', pl, nI (100 * d0), nI z, S', W, Y') ∧
    ((∃ x : Nat, x < 1000 ∧ res = -2000 - nI x ∧ res' = -2000 - nI x ∧ ∀ i, i < 42 → S' i = W i) ∨ (res = nI (cnt + (if p < z then nsS z el n p else 0)) ∧ res' = x8 + 1 ∧ St h' k' f' r' m' P' shut' needed' day' S'))
  | 0, _, _, _, _, _, _, _, _, _, _, _, _, _, _, _, _, _, _, _, y, _, _, _ => absurd y (by omega)
  | n + 1, p, 0, _, _, _, _, _, _, _, _, _, _, _, _, _, _, _, _, _, _, y, _, _ => absurd y (by omega)
  | n + 1, p, q + 1, 0, _, _, _, _, _, _, _, _, _, _, _, _, _, _, _, _, _, _, y, _ => absurd y (by omega)
  | n + 1, p, q + 1, q2 + 1, cnt, Y, h, k, f, r, m, ms, S, P, mv, shut, needed, day, hp, hph, hn, hq, hq2, hS => by
    by_cases c : p < z
    · obtain ⟨hs, hnx⟩ := ph_next (hph c)
      obtain ⟨k1, k2, k3, k4⟩ := stF_none hs
      obtain ⟨Y1, e1, hY⟩ := rs_sp hz hd0 hEL (show 11 ≤ N by omega) (show p < 800 by omega) Y
      have hY := hY hs
      obtain ⟨b, P1, mv1, shut1, needed1, day1, h1, kk1, f1, r1, m1, ms1, S1, d1, d2, d3⟩ := Done hB hz hS hs hY ms mv hN
      obtain ⟨c1, c2⟩ := (cd_lt z el p).2 c
      rw [hs] at e1
      have e1 : f_X10_readsStatement N (nI p) (nI (100 * d0)) (nI z) Y EL = some (1, nI (nxS z el p), Y1) := e1
      rw [L_X6_play_21, if_neg (nI_ge c (by omega)), ob_t d1, L_X10_quarter_93, if_pos rfl, if_neg (nI_ge c (by omega)), ob_t (here_sp hz hd0 hEL (show p < 1000 by omega)), ob_t e1]
      simp only []
      rw [ob_t d2]
      simp only [t01_if]
      cases b with
      | false =>
        obtain ⟨t, et, ht⟩ := copies_sp W S1 (show 43 ≤ N by omega)
        simp only [Bool.false_eq_true, if_false]
        rw [nm_k, ob_t et]
        obtain ⟨q3, rfl⟩ : ∃ q3, q2 = q3 + 1 := ⟨q2 - 1, by omega⟩
        have n0 := (m2000 (show p < 1000 by omega)).1
        rw [L_X10_quarter_93, if_neg n0, if_neg n0]
        exact ⟨_, _, _, _, _, _, _, P1, _, _, _, _, _, _, t, _, rfl, rfl, Or.inl ⟨p, by omega, rfl, rfl, ht⟩⟩
      | true =>
        simp only [if_true]
        rw [ob_t (at_sp el hz c), cd_b hB hz c, ob_t (byte_c (cdS z el p) c1).1, show nI (dB (cdS z el p)) + 2 = nI (dB (cdS z el p) + 2) from nI_add _ 2, nI_add, show p + (dB (cdS z el p) + 2) = nxS z el p by unfold nxS; omega, nI_1]
        have ih := ph2 hB hz hd0 hEL W x8 hN n (nxS z el p) q q2 (cnt + 1) Y1 h1 kk1 f1 r1 m1 ms1 S1 P1 mv1 shut1 needed1 day1 k2 hnx (by unfold nxS at *; omega) (by unfold nxS at *; omega) (by unfold nxS at *; omega) (d3 rfl)
        obtain ⟨res, res', pl, mv', shut', needed', day', P', h', k', f', r', m', ms', S', Y', a1, a2, a3⟩ := ih
        refine ⟨res, res', pl, mv', shut', needed', day', P', h', k', f', r', m', ms', S', Y', a1, a2, ?_⟩
        rcases a3 with a3 | ⟨a3, a4, a5⟩
        · exact Or.inl a3
        · refine Or.inr ⟨?_, a4, a5⟩
          rw [a3, if_pos c]
          have e9 : nsS z el (n + 1) p = 1 + (if nxS z el p < z then nsS z el n (nxS z el p) else 0) := rfl
          rw [e9]
          exact congrArg nI (by omega)
    · have : p = z := by omega
      subst this
      rw [L_X6_play_21, if_pos (nI_le (Nat.le_refl p) (by omega)), L_X10_quarter_93, if_pos rfl, if_pos (nI_le (Nat.le_refl p) (by omega)), if_pos rfl, nm_k]
      exact ⟨_, _, _, _, _, _, _, P, _, _, _, _, _, _, S, _, rfl, rfl, Or.inr ⟨by rw [if_neg (by omega), Nat.add_zero], rfl, hS⟩⟩
theorem wrongRow0 {d : Nat} (hd : d < 8) (K SO : Nat → Int32) : f_X10_wrongRow K SO (nI d) 0 = some (if rf (K d) 2 = 0 then (if SO d = 0 then 0 else -12) else rf (K d) 2) := by
  rw [f_X10_wrongRow, ob_t (isShelfM_sp _), wi07 hd, t01_if, if_pos rfl, gd_t (ix8 hd), gd_t (ix8 hd), gd_t (ix8 hd), nI_cl (by omega), if_neg (show ¬ (0 : Int32) < 0 by decide)]
  unfold rf
  by_cases a : K d = 0
  · rw [if_pos a, if_pos a, if_neg (by decide)]
  · rw [if_neg a, if_neg a]
    by_cases b : K d = 2
    · rw [if_pos b, if_pos b, if_pos rfl]
      by_cases c : SO d = 0
      · rw [if_pos c, if_pos c]
      · rw [if_neg c, if_neg c]
    · rw [if_neg b, if_neg b, if_neg (by decide)]
theorem ag_quarter (hS : St h k f r m P shut needed day S) (mh mk mf mr mm ms : Nat → Int32) (mo mt mp mn md : Int32) (W : Nat → Int32) (pl ra re : Int32) (Y : Nat → Int32) {ho ki fi so si : Int32} {K KK KF SO SI : Nat → Int32} (p1 : Int32) (hq : ShP p1 el ho ki fi so si K KK KF SO SI EL) {N : Nat} (hN : 1001 ≤ N) :
    ∃ (res : Int32) (P' : Nat) (shut' needed' day' : Int32) (h' k' f' r' m' S' : Nat → Int32) (w : MG) (pl' ra' re' : Int32) (W' Y' : Nat → Int32), f_X9_quarter N h k f r m shut (nI P) needed day mh mk mf mr mm ms mo mt mp mn md el ho so si p1 = some (res, shut', nI P', needed', day', h', k', f', r', m', w) ∧ f_X10_quarter N S W pl ra re Y K SO SI EL p1 = some (res, pl', ra', re', S', W', Y') ∧ St h' k' f' r' m' P' shut' needed' day' S' := by
  have no : ∀ res : Int32, ∃ (res' : Int32) (P' : Nat) (shut' needed' day' : Int32) (h' k' f' r' m' S' : Nat → Int32) (w : MG) (pl' ra' re' : Int32) (W' Y' : Nat → Int32), some (res, shut, nI P, needed, day, h, k, f, r, m, mo, mt, mp, mn, md, mh, mk, mf, mr, mm, ms) = some (res', shut', nI P', needed', day', h', k', f', r', m', w) ∧ some (res, pl, ra, re, S, W, Y) = some (res', pl', ra', re', S', W', Y') ∧ St h' k' f' r' m' P' shut' needed' day' S' := fun res => ⟨res, P, shut, needed, day, h, k, f, r, m, S, (mo, mt, mp, mn, md, mh, mk, mf, mr, mm, ms), pl, ra, re, W, Y, rfl, rfl, hS⟩
  rw [f_X9_quarter, f_X10_quarter]
  cases c : wiB p1 0 7 with
  | false => rw [ob_t (refusal_no c _ _), ob_t (wrongRow_no c _ _ _)]; exact no (-1)
  | true =>
    obtain ⟨d, hd, rfl⟩ := shelf_of c
    obtain ⟨a1, a2, a3, ⟨z, hz, rfl⟩, a5, a6, a7, a8, a9⟩ := hq d hd rfl
    rw [ob_t (refusal_sp hd _ _), ob_t (wrongRow0 hd K SO), a1, a2]
    by_cases y : rf ho 2 = 0
    · rw [if_pos y, if_pos y, gd_t (ix8 hd)]
      by_cases y0 : so = 0
      · have hB : OkB el := a9 y0
        rw [if_pos y0, if_pos y0, if_pos rfl, nm_k, gd_t (ix8 hd), nm_k, nI_cl (by omega), a3, show (100 : Int32) * nI d = nI (100 * d) from pk_mul 100 d, f_X8_become, ob_t (a := (shut, nI P, needed, day, h, k, f, r, m)) rfl]
        simp only []
        rw [gd_t (ix8 hd)]
        have eu := X6_unfit_lp hB hz (z + 1) 0 N (by omega) (by omega) (by omega) (by omega)
        obtain ⟨c', Y1, W', w1, w2, w3⟩ := ph1 hz hd a8 S W hN (z + 1) 0 N 0 Y (by omega) (by omega) (by omega) (by omega)
        have w2 : L_X10_quarter_41 N S W EL (nI (100 * d)) (nI z) N 0 0 0 Y = _ := w2
        rw [w2]
        cases hph : phS z el (z + 1) 0 with
        | some x =>
          have hx := ph_le (z + 1) 0 x (by omega) hph
          rw [hph] at eu
          have eu : f_X6_placeOfUnfitByte N el (nI z) = some (nI x) := eu
          have nm1 : ¬ nI x = (-1 : Int32) := fun e => by
            have := congrArg Int32.toInt e
            rw [nI_toInt (by omega), show (-1 : Int32).toInt = -1 by decide] at this
            omega
          obtain ⟨n0, n1⟩ := m1000 (show x < 1000 by omega)
          have ep : f_X6_play N el (nI z) h k f r m ms mo shut (nI P) needed day = some (-1000 - nI x, mo, shut, nI P, needed, day, h, k, f, r, m, ms) := by
            rw [f_X6_play, ob_t eu, if_neg nm1, nm_k]
          rw [ob_t ep]
          simp only []
          rw [if_pos n1]
          obtain ⟨N', rfl⟩ : ∃ N', N = N' + 1 := ⟨N - 1, by omega⟩
          rw [L_X10_quarter_93, if_neg n0, if_neg n0]
          exact ⟨_, P, shut, needed, day, h, k, f, r, m, S, (mo, shut, nI P, needed, day, h, k, f, r, m, ms), _, _, _, _, _, rfl, rfl, hS⟩
        | none =>
          rw [hph] at eu
          have eu : f_X6_placeOfUnfitByte N el (nI z) = some (-1) := eu
          have h1 := w3 hph
          obtain ⟨res, res', pl', mv', shut', needed', day', P', h', k', f', r', m', ms', S', Y', b1, b2, b3⟩ := ph2 hB hz hd a8 W' (nI c') hN (z + 1) 0 N N 0 Y1 h k f r m ms S P mo shut needed day (by omega) (fun _ => hph) (by omega) (by omega) (by omega) hS
          have b2 : L_X10_quarter_93 N EL (nI (100 * d)) (nI z) (nI c') W' N 0 0 S Y1 = _ := b2
          have ep : f_X6_play N el (nI z) h k f r m ms mo shut (nI P) needed day = some (res, mv', shut', nI P', needed', day', h', k', f', r', m', ms') := by
            rw [f_X6_play, ob_t eu, if_pos rfl]
            exact b1
          rw [ob_t ep]
          simp only []
          rw [b2]
          rcases b3 with ⟨x, hx, rfl, rfl, b4⟩ | ⟨rfl, rfl, b4⟩
          · obtain ⟨n0, n1⟩ := m2000 hx
            rw [if_pos n1]
            exact ⟨_, P, shut, needed, day, h, k, f, r, m, S', (mv', shut', nI P', needed', day', h', k', f', r', m', ms'), _, _, _, _, _, rfl, rfl, hS.ext (fun i hi => (b4 i hi).trans (w1 i hi))⟩
          · have hz0 : 0 < z := by
              rcases Nat.eq_zero_or_pos z with q | q
              · subst q
                have := (ph_next hph).1
                have := (stF_none this).2.2.1
                omega
              · exact q
            rw [if_pos hz0] at *
            have hns : nsS z el (z + 1) 0 ≤ 1000 := by
              have key : ∀ n p, nsS z el n p ≤ n := by
                intro n
                induction n with
                | zero => intro p; exact Nat.le_refl _
                | succ n ih =>
                  intro p
                  unfold nsS
                  have := ih (nxS z el p)
                  split <;> omega
              have := key (z + 1) 0
              omega
            rw [if_neg (show ¬ nI (0 + nsS z el (z + 1) 0) < 0 from nI_pos (by omega)), f_X8_become, ob_t (a := (shut', nI P', needed', day', h', k', f', r', m')) rfl]
            simp only []
            refine ⟨_, P', shut', needed', day', h', k', f', r', m', S', (mv', shut', nI P', needed', day', h', k', f', r', m', ms'), pl', nI (100 * d), nI z, W', Y', rfl, ?_, b4⟩
            rw [nI_1, h1]
      · rw [if_neg y0, if_neg y0, if_neg (by decide), nm_k]
        exact no (-12)
    · rw [if_neg y, if_neg y, if_neg y]
      exact no _
end QUA
