/-! THE PURE LAYER: the text of a quarter: reading -/
def dB (n : Nat) : Nat := if n = 97 then 2 else if n = 98 then 2 else if n = 100 then 2 else if n = 102 then 2 else if n = 111 then 1 else if n = 113 then 2 else if n = 115 then 3 else 0
def dgN (n : Nat) : Bool := decide (48 ≤ n) && decide (n ≤ 57)
def hI (n : Nat) : Int32 := if n = 256 then -1 else nI n
theorem byte_c : ∀ n, n < 256 → f_X6_digitsBehind (sb_b n) = some (nI (dB n)) ∧ f_X9_isWithin (sb_b n) 48 57 = some (t01 (dgN n)) ∧ (sb_b n = 59 ↔ n = 59) ∧ (n < 128 → sb_b n = nI n) := by decide +kernel
theorem byte_m : ∀ n, n < 257 → f_X10_isIn (hI n) 48 57 = some (t01 (dgN n)) ∧ (hI n = 59 ↔ n = 59) ∧ dB n ≤ 3 := by decide +kernel
def cdS (z : Nat) (el : Nat → Int32) (i : Nat) : Nat := if i < z then (el i &&& 255).toNatClampNeg else 256
def OkB (el : Nat → Int32) : Prop := ∀ i, i < 100 → (el i).toInt8.toInt32 = el i
theorem cd_lt (z : Nat) (el : Nat → Int32) (i : Nat) : cdS z el i < 257 ∧ (i < z → cdS z el i < 256 ∧ el i &&& 255 = nI (cdS z el i)) := by
  obtain ⟨j, hj, e⟩ := pk_andE (el i) (m := 255) 8 (by decide)
  have e2 : (el i &&& 255).toNatClampNeg = j := by rw [e, nI_cl (by omega)]
  unfold cdS
  constructor
  · split
    · rw [e2]; omega
    · omega
  · intro h
    rw [if_pos h, e2]
    exact ⟨hj, e⟩
theorem cd_b {z : Nat} {el : Nat → Int32} (hB : OkB el) (hz : z ≤ 100) {i : Nat} (hi : i < z) : el i = sb_b (cdS z el i) := by
  obtain ⟨h1, h2⟩ := (cd_lt z el i).2 hi
  exact (sc_eq (hB i (by omega)) h1).mpr h2
theorem cd_out {z : Nat} {el : Nat → Int32} {i : Nat} (hi : ¬ i < z) : cdS z el i = 256 := if_neg hi
theorem cd_in {z : Nat} {el : Nat → Int32} {i n : Nat} (h : cdS z el i = n) (hn : n ≠ 256) : i < z := by
  rcases Nat.lt_or_ge i z with q | q
  · exact q
  · rw [cd_out (by omega)] at h
    exact absurd h.symm hn
/-- where digits and the sign behind fail first -/
def dgF (z : Nat) (el : Nat → Int32) : Nat → Nat → Option Nat
  | 0, p => if cdS z el p = 59 then none else some p
  | k + 1, p => if dgN (cdS z el p) then dgF z el k (p + 1) else some p
def stF0 (z : Nat) (el : Nat → Int32) (p : Nat) : Option Nat := if dB (cdS z el p) = 0 then some p else dgF z el (dB (cdS z el p)) (p + 1)
def nxS (z : Nat) (el : Nat → Int32) (p : Nat) : Nat := p + dB (cdS z el p) + 2
def phS (z : Nat) (el : Nat → Int32) : Nat → Nat → Option Nat
  | 0, _ => none
  | n + 1, p => match stF0 z el p with
    | some q => some q
    | none => if nxS z el p < z then phS z el n (nxS z el p) else none
def nsS (z : Nat) (el : Nat → Int32) : Nat → Nat → Nat
  | 0, _ => 0
  | n + 1, p => 1 + (if nxS z el p < z then nsS z el n (nxS z el p) else 0)
theorem dgF_none {z : Nat} {el : Nat → Int32} : ∀ (k p : Nat), dgF z el k p = none → p + k < z ∧ cdS z el (p + k) = 59 ∧ ∀ i, i < k → dgN (cdS z el (p + i)) = true
  | 0, p, h => by
    unfold dgF at h
    by_cases e : cdS z el p = 59
    · exact ⟨cd_in e (by decide), e, fun i hi => absurd hi (by omega)⟩
    · rw [if_neg e] at h
      cases h
  | k + 1, p, h => by
    unfold dgF at h
    cases e : dgN (cdS z el p) with
    | false => rw [e, if_neg (by decide)] at h; cases h
    | true =>
      rw [e, if_pos rfl] at h
      obtain ⟨h1, h2, h3⟩ := dgF_none k (p + 1) h
      refine ⟨by omega, by rw [show p + (k + 1) = p + 1 + k by omega]; exact h2, fun i hi => ?_⟩
      cases i with
      | zero => exact e
      | succ i =>
        have := h3 i (by omega)
        rw [show p + (i + 1) = p + 1 + i by omega]
        exact this
theorem stF_none {z : Nat} {el : Nat → Int32} {p : Nat} (h : stF0 z el p = none) : 1 ≤ dB (cdS z el p) ∧ nxS z el p ≤ z ∧ p < z ∧ ∀ i, i < dB (cdS z el p) → dgN (cdS z el (p + 1 + i)) = true := by
  unfold stF0 at h
  by_cases e : dB (cdS z el p) = 0
  · rw [if_pos e] at h
    cases h
  · rw [if_neg e] at h
    obtain ⟨h1, h2, h3⟩ := dgF_none _ _ h
    unfold nxS
    exact ⟨by omega, by omega, by omega, h3⟩
/-! class: the first pass -/
theorem X6_dig_lp {z : Nat} {el : Nat → Int32} (hB : OkB el) (hz : z ≤ 100) : ∀ (k i q : Nat), i ≤ z → z - i < q → k ≤ 3 → (∃ x, dgF z el k i = some x ∧ L_X6_placeOfUnfitByte_4 el (nI z) q (nI i) (nI k) = some (nI x)) ∨ (dgF z el k i = none ∧ ∃ q', i + k + 1 ≤ z ∧ z - (i + k + 1) < q' ∧ L_X6_placeOfUnfitByte_4 el (nI z) q (nI i) (nI k) = L_X6_placeOfUnfitByte_4 el (nI z) q' (nI (i + k + 1)) (-1))
  | _, _, 0, _, h, _ => absurd h (by omega)
  | k, i, q + 1, hi, hq, hk => by
    have nm1 : ¬ nI k = (-1 : Int32) := fun e => by
      have := congrArg Int32.toInt e
      rw [nI_toInt (by omega), show (-1 : Int32).toInt = -1 by decide] at this
      omega
    by_cases hz2 : z ≤ i
    · left
      have : i = z := by omega
      subst this
      have ec : cdS i el i = 256 := cd_out (by omega)
      refine ⟨i, ?_, ?_⟩
      · cases k with
        | zero => unfold dgF; rw [ec]; rfl
        | succ k => unfold dgF; rw [ec]; rfl
      · rw [L_X6_placeOfUnfitByte_4, if_pos (nI_le (Nat.le_refl i) (by omega)), if_neg nm1]
        simp only [ite_self]
    · have hlt : i < z := by omega
      obtain ⟨b1, b2, b3, b4⟩ := byte_c (cdS z el i) ((cd_lt z el i).2 hlt).1
      rw [L_X6_placeOfUnfitByte_4, if_neg (nI_ge hlt (by omega)), ob_t (at_sp el hz hlt), if_neg nm1, cd_b hB hz hlt, ob_t b2, t01_if, nI_1]
      cases k with
      | zero =>
        rw [if_pos (show nI 0 ≤ 0 by decide)]
        unfold dgF
        by_cases e : cdS z el i = 59
        · rw [if_pos e, if_pos (b3.mpr e)]
          exact Or.inr ⟨rfl, q, by omega, by omega, rfl⟩
        · rw [if_neg e, if_neg (fun y => e (b3.mp y))]
          exact Or.inl ⟨i, rfl, rfl⟩
      | succ k =>
        rw [if_neg (nI_nle (by omega) (by omega)), pk_m1]
        unfold dgF
        cases e : dgN (cdS z el i) with
        | false => exact Or.inl ⟨i, rfl, rfl⟩
        | true =>
          simp only [if_true]
          have ih := X6_dig_lp hB hz k (i + 1) q (by omega) (by omega) (by omega)
          rw [show i + 1 + k + 1 = i + (k + 1) + 1 by omega] at ih
          exact ih
theorem X6_unfit_lp {z : Nat} {el : Nat → Int32} (hB : OkB el) (hz : z ≤ 100) : ∀ (n p q : Nat), (p < z ∨ z = 0) → p ≤ z → z - p < n → z - p < q → L_X6_placeOfUnfitByte_4 el (nI z) q (nI p) (-1) = some (match phS z el n p with | some x => nI x | none => -1)
  | 0, _, _, _, _, h, _ => absurd h (by omega)
  | n + 1, p, 0, _, _, _, h => absurd h (by omega)
  | n + 1, p, q + 1, hp, hp2, hn, hq => by
    by_cases hz2 : z ≤ p
    · have : z = 0 := by omega
      subst this
      have : p = 0 := by omega
      subst this
      rw [L_X6_placeOfUnfitByte_4, if_pos (nI_le (Nat.le_refl 0) (by omega)), if_pos (show nI 0 ≤ 0 by decide)]
      rfl
    · have hlt : p < z := by omega
      obtain ⟨c1, c2⟩ := (cd_lt z el p).2 hlt
      obtain ⟨b1, b2, b3, b4⟩ := byte_c (cdS z el p) c1
      obtain ⟨-, -, m3⟩ := byte_m (cdS z el p) (by omega)
      rw [L_X6_placeOfUnfitByte_4, if_neg (nI_ge hlt (by omega)), ob_t (at_sp el hz hlt), if_pos rfl, cd_b hB hz hlt, ob_t b1, nI_1]
      unfold phS stF0
      by_cases e : dB (cdS z el p) = 0
      · rw [if_pos e, if_neg (show ¬ (1 : Int32) ≤ nI (dB (cdS z el p)) from nI_ge (b := 1) (by omega) (by omega))]
      · rw [if_neg e, if_pos (show (1 : Int32) ≤ nI (dB (cdS z el p)) from nI_le (a := 1) (by omega) (by omega))]
        rcases X6_dig_lp hB hz (dB (cdS z el p)) (p + 1) q (by omega) (by omega) m3 with ⟨x, e1, e2⟩ | ⟨e1, q', h1, h2, e2⟩
        · rw [e1, e2]
        · rw [e1, e2, show p + 1 + dB (cdS z el p) + 1 = nxS z el p by unfold nxS; omega]
          have hx : nxS z el p ≤ z := by unfold nxS; omega
          by_cases y : nxS z el p < z
          · simp only [if_pos y]
            exact X6_unfit_lp hB hz n (nxS z el p) q' (Or.inl y) hx (by unfold nxS at *; omega) (by unfold nxS at *; omega)
          · simp only [if_neg y]
            obtain ⟨q2, rfl⟩ : ∃ q2, q' = q2 + 1 := ⟨q' - 1, by omega⟩
            rw [L_X6_placeOfUnfitByte_4, if_pos (nI_le (by omega) (by omega)), if_neg (nI_nle (by omega) (by omega)), if_pos rfl]
/-! reference: reading -/
theorem here_sp {z d0 : Nat} {el EL : Nat → Int32} (hz : z ≤ 100) (hd0 : d0 < 8) (hEL : ∀ i, i < 100 → EL (100 * d0 + i) = el i) {p : Nat} (hp : p < 1000) : f_X10_here (nI p) (nI (100 * d0)) (nI z) EL = some (hI (cdS z el p)) := by
  rw [f_X10_here]
  by_cases c : p < z
  · obtain ⟨c1, c2⟩ := (cd_lt z el p).2 c
    rw [if_neg (nI_ge c (by omega)), nI_add, gd_t (ix800 (by omega)), nI_cl (by omega), hEL p (by omega), c2]
    unfold hI
    rw [if_neg (by omega)]
  · rw [if_pos (nI_le (by omega) (by omega)), cd_out c]
    rfl
section RDG
variable {z d0 : Nat} {el EL : Nat → Int32}
theorem rn1_no (hz : z ≤ 100) (hd0 : d0 < 8) (hEL : ∀ i, i < 100 → EL (100 * d0 + i) = el i) {N p kx : Nat} (hN : 11 ≤ N) (hp : p < 900) (hk : kx < 3) (Y : Nat → Int32) {n : Nat} (hn : 1 ≤ n ∧ n ≤ 2) (g : dgN (cdS z el p) = false) : ∃ Y', f_X10_readsNumber N (nI p) (nI (100 * d0)) (nI z) Y EL (nI kx) (nI n) = some (0, nI p, Y') := by
  obtain ⟨N', rfl⟩ : ∃ N', N = N' + 1 := ⟨N - 1, by omega⟩
  obtain ⟨m1, m2, m3⟩ := byte_m (cdS z el p) (cd_lt z el p).1
  rw [f_X10_readsNumber, gd_t (ix_n (n := 3) hk (by omega)), nm_k, L_X10_readsNumber_9, if_neg (show ¬ nI n ≤ (0 : Int32) from nI_nle (by omega) (by omega)), ob_t (here_sp hz hd0 hEL (by omega)), ob_t m1, g, t01_if, if_neg (by decide), nm_k]
  exact ⟨_, rfl⟩
theorem dig_v {c : Nat} (g : dgN c = true) : 48 ≤ c ∧ c ≤ 57 ∧ hI c = nI c := by
  unfold dgN at g
  simp only [Bool.and_eq_true, decide_eq_true_eq] at g
  refine ⟨g.1, g.2, ?_⟩
  unfold hI
  rw [if_neg (by omega)]
theorem rn1_yes (hz : z ≤ 100) (hd0 : d0 < 8) (hEL : ∀ i, i < 100 → EL (100 * d0 + i) = el i) {N p kx : Nat} (hN : 11 ≤ N) (hp : p < 900) (hk : kx < 3) (Y : Nat → Int32) (g : dgN (cdS z el p) = true) : ∃ Y', f_X10_readsNumber N (nI p) (nI (100 * d0)) (nI z) Y EL (nI kx) (nI 1) = some (1, nI (p + 1), Y') ∧ Y' kx = nI (cdS z el p - 48) ∧ ∀ j, j ≠ kx → Y' j = Y j := by
  obtain ⟨N', rfl⟩ : ∃ N', N = N' + 1 + 1 := ⟨N - 2, by omega⟩
  obtain ⟨m1, m2, m3⟩ := byte_m (cdS z el p) (cd_lt z el p).1
  obtain ⟨v1, v2, v3⟩ := dig_v g
  refine ⟨upd (upd Y kx 0) kx (nI (cdS z el p - 48)), ?_, upd_at _ _ _, fun j hj => by rw [upd_ne _ _ hj, upd_ne _ _ hj]⟩
  rw [f_X10_readsNumber, gd_t (ix_n (n := 3) hk (by omega)), nm_k, L_X10_readsNumber_9, if_neg (show ¬ nI 1 ≤ (0 : Int32) by decide), ob_t (here_sp hz hd0 hEL (by omega)), ob_t m1, g, t01_if, if_pos rfl, gd_t (ix_n (n := 3) hk (by omega)), ob_t (here_sp hz hd0 hEL (by omega)), gd_t (ix_n (n := 3) hk (by omega)), nm_k, nm_k, nI_1, L_X10_readsNumber_9, if_pos (show nI 1 ≤ (0 : Int32) + 1 by decide), nm_k, nI_cl (by omega), upd_at, v3, show (10 : Int32) * 0 = nI 0 from rfl, nI_add, Nat.zero_add, show nI (cdS z el p) - 48 = nI (cdS z el p - 48) from pk_sub (b := 48) v1]
theorem rn2_yes (hz : z ≤ 100) (hd0 : d0 < 8) (hEL : ∀ i, i < 100 → EL (100 * d0 + i) = el i) {N p kx : Nat} (hN : 11 ≤ N) (hp : p < 900) (hk : kx < 3) (Y : Nat → Int32) (g : dgN (cdS z el p) = true) : (dgN (cdS z el (p + 1)) = true → ∃ Y', f_X10_readsNumber N (nI p) (nI (100 * d0)) (nI z) Y EL (nI kx) (nI 2) = some (1, nI (p + 2), Y') ∧ Y' kx = nI (10 * (cdS z el p - 48) + (cdS z el (p + 1) - 48))) ∧ (dgN (cdS z el (p + 1)) = false → ∃ Y', f_X10_readsNumber N (nI p) (nI (100 * d0)) (nI z) Y EL (nI kx) (nI 2) = some (0, nI (p + 1), Y')) := by
  obtain ⟨N', rfl⟩ : ∃ N', N = N' + 1 + 1 + 1 := ⟨N - 3, by omega⟩
  obtain ⟨m1, m2, m3⟩ := byte_m (cdS z el p) (cd_lt z el p).1
  obtain ⟨m4, m5, m6⟩ := byte_m (cdS z el (p + 1)) (cd_lt z el (p + 1)).1
  obtain ⟨v1, v2, v3⟩ := dig_v g
  have ev : ((10 : Int32) * 0 + nI (cdS z el p)) - 48 = nI (cdS z el p - 48) := by
    rw [show (10 : Int32) * 0 = nI 0 from rfl, nI_add, Nat.zero_add]
    exact pk_sub (b := 48) v1
  constructor
  · intro g2
    obtain ⟨v4, v5, v6⟩ := dig_v g2
    refine ⟨upd (upd (upd Y kx 0) kx (nI (cdS z el p - 48))) kx (nI (10 * (cdS z el p - 48) + (cdS z el (p + 1) - 48))), ?_, upd_at _ _ _⟩
    rw [f_X10_readsNumber, gd_t (ix_n (n := 3) hk (by omega)), nm_k, L_X10_readsNumber_9, if_neg (show ¬ nI 2 ≤ (0 : Int32) by decide), ob_t (here_sp hz hd0 hEL (by omega)), ob_t m1, g, t01_if, if_pos rfl, gd_t (ix_n (n := 3) hk (by omega)), ob_t (here_sp hz hd0 hEL (by omega)), gd_t (ix_n (n := 3) hk (by omega)), nm_k, nm_k, nI_1, nI_cl (by omega), upd_at, v3, ev, L_X10_readsNumber_9, if_neg (show ¬ nI 2 ≤ (0 : Int32) + 1 by decide), ob_t (here_sp hz hd0 hEL (by omega)), ob_t m4, g2, t01_if, if_pos rfl, gd_t (ix_n (n := 3) hk (by omega)), ob_t (here_sp hz hd0 hEL (by omega)), gd_t (ix_n (n := 3) hk (by omega)), nm_k, nm_k, nI_1, nI_cl (by omega), upd_at, v6, L_X10_readsNumber_9, if_pos (show nI 2 ≤ (0 : Int32) + 1 + 1 by decide), nm_k, show (10 : Int32) = nI 10 from rfl, pk_mul, nI_add, show nI (10 * (cdS z el p - 48) + cdS z el (p + 1)) - 48 = nI (10 * (cdS z el p - 48) + cdS z el (p + 1) - 48) from pk_sub (b := 48) (by omega), show 10 * (cdS z el p - 48) + cdS z el (p + 1) - 48 = 10 * (cdS z el p - 48) + (cdS z el (p + 1) - 48) by omega]
  · intro g2
    rw [f_X10_readsNumber, gd_t (ix_n (n := 3) hk (by omega)), nm_k, L_X10_readsNumber_9, if_neg (show ¬ nI 2 ≤ (0 : Int32) by decide), ob_t (here_sp hz hd0 hEL (by omega)), ob_t m1, g, t01_if, if_pos rfl, gd_t (ix_n (n := 3) hk (by omega)), ob_t (here_sp hz hd0 hEL (by omega)), gd_t (ix_n (n := 3) hk (by omega)), nm_k, nm_k, nI_1, L_X10_readsNumber_9, if_neg (show ¬ nI 2 ≤ (0 : Int32) + 1 by decide), ob_t (here_sp hz hd0 hEL (by omega)), ob_t m4, g2, t01_if, if_neg (by decide), nm_k]
    exact ⟨_, rfl⟩
end RDG
