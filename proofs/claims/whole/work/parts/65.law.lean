/-! THE PURE LAYER: the law -/
def lcr (r el : Nat → Int32) (P : Nat) (hd : Int32) (t : Nat) : Bool := osS r P (el (2 * t) &&& hd) 0 && osS r P (el (2 * t) &&& hd) 1
def lwt (h k f r el : Nat → Int32) (P : Nat) (hd : Int32) (t : Nat) : Nat := (waS h k f r P (el (2 * t) &&& hd)).toNatClampNeg
def lok (c : Nat → Bool) (w : Nat → Nat) (el : Nat → Int32) (v t : Nat) : Bool := (c t && decide (v ≤ w t)) == decide (el (2 * t + 1) = 1)
def lqF (c : Nat → Bool) (w : Nat → Nat) (el : Nat → Int32) (t a : Nat) : Nat := if el (2 * t + 1) = 0 then (if c t then (if a < w t + 1 then w t + 1 else a) else a) else a
def gqF (c : Nat → Bool) (w : Nat → Nat) (el : Nat → Int32) (t a : Nat) : Nat := if el (2 * t + 1) = 1 then (if c t then (if w t < a then w t else a) else (if 0 < a then 0 else a)) else a
def allB (c : Nat → Bool) : Nat → Nat → Bool
  | 0, _ => true
  | d + 1, j => c j && allB c d (j + 1)
theorem law_iff {c : Nat → Bool} {w : Nat → Nat} {el : Nat → Int32} {v : Nat} (hv : 1 ≤ v) : ∀ (d j a b : Nat), (∀ t, j ≤ t → t < j + d → el (2 * t + 1) = 0 ∨ el (2 * t + 1) = 1) → ((fup (lqF c w el) j d a ≤ v ∧ v ≤ fup (gqF c w el) j d b) ↔ (a ≤ v ∧ v ≤ b ∧ allB (lok c w el v) d j = true))
  | 0, j, a, b, _ => ⟨fun h => ⟨h.1, h.2, rfl⟩, fun h => ⟨h.1, h.2.1⟩⟩
  | d + 1, j, a, b, ht => by
    have ih := law_iff (c := c) (w := w) (el := el) hv d (j + 1) (lqF c w el j a) (gqF c w el j b) (fun t h1 h2 => ht t (by omega) (by omega))
    show ((fup (lqF c w el) (j + 1) d (lqF c w el j a) ≤ v ∧ v ≤ fup (gqF c w el) (j + 1) d (gqF c w el j b)) ↔ (a ≤ v ∧ v ≤ b ∧ (lok c w el v j && allB (lok c w el v) d (j + 1)) = true))
    rw [ih, Bool.and_eq_true]
    have key : (lqF c w el j a ≤ v ∧ v ≤ gqF c w el j b) ↔ (a ≤ v ∧ v ≤ b ∧ lok c w el v j = true) := by
      have t0 := ht j (by omega) (by omega)
      unfold lqF gqF lok
      rcases t0 with e | e
      · rw [e]
        cases hc : c j with
        | false => simp [show ¬ ((0 : Int32) = 1) by decide]
        | true =>
          by_cases z : v ≤ w j
          · simp [show ¬ ((0 : Int32) = 1) by decide, z]
            split <;> omega
          · simp [show ¬ ((0 : Int32) = 1) by decide, z]
            split <;> omega
      · rw [e]
        cases hc : c j with
        | false =>
          simp [show ¬ ((1 : Int32) = 0) by decide]
          split <;> omega
        | true =>
          by_cases z : v ≤ w j
          · simp [show ¬ ((1 : Int32) = 0) by decide, z]
            split <;> omega
          · simp [show ¬ ((1 : Int32) = 0) by decide, z]
            split <;> omega
    constructor
    · rintro ⟨h1, h2, h3⟩
      obtain ⟨k1, k2, k3⟩ := key.mp ⟨h1, h2⟩
      exact ⟨k1, k2, k3, h3⟩
    · rintro ⟨h1, h2, h3, h4⟩
      obtain ⟨k1, k2⟩ := key.mpr ⟨h1, h2, h3⟩
      exact ⟨k1, k2, h4⟩
theorem lq_in {c : Nat → Bool} {w : Nat → Nat} {el : Nat → Int32} (hw : ∀ t, w t ≤ 161) : ∀ (d j a : Nat), 1 ≤ a → a ≤ 200 → 1 ≤ fup (lqF c w el) j d a ∧ fup (lqF c w el) j d a ≤ 200
  | 0, _, _, h1, h2 => ⟨h1, h2⟩
  | d + 1, j, a, h1, h2 => by
    have := hw j
    have e : 1 ≤ lqF c w el j a ∧ lqF c w el j a ≤ 200 := by
      unfold lqF
      split
      · split
        · split <;> omega
        · omega
      · omega
    exact lq_in hw d (j + 1) _ e.1 e.2
theorem gq_in {c : Nat → Bool} {w : Nat → Nat} {el : Nat → Int32} : ∀ (d j a : Nat), a ≤ 99 → fup (gqF c w el) j d a ≤ 99
  | 0, _, _, h2 => h2
  | d + 1, j, a, h2 => by
    refine gq_in d (j + 1) _ ?_
    unfold gqF
    split
    · split
      · split <;> omega
      · split <;> omega
    · omega
theorem n2 (t : Nat) : nI (2 * t) + 2 = nI (2 * (t + 1)) := nI_add (2 * t) 2
def tlB (el : Nat → Int32) (P t : Nat) : Bool := grB P (el (2 * t)) && wiB (el (2 * t + 1)) 0 1
theorem X4_told_lp (el : Nat → Int32) {P Z : Nat} (hP : P ≤ 7) (hZ : 2 * Z ≤ 100) : ∀ (d j q : Nat), j + d = Z → d < q → L_X4_isTold_13 el (nI (2 * Z)) (nI P) q (nI (2 * j)) = some (t01 (allB (tlB el P) d j))
  | 0, j, 0, _, y => absurd y (by omega)
  | 0, j, q + 1, hj, _ => by
    have : j = Z := by omega
    subst this
    rw [L_X4_isTold_13, if_pos (nI_le (Nat.le_refl _) (by omega))]
    rfl
  | d + 1, j, 0, _, y => absurd y (by omega)
  | d + 1, j, q + 1, hj, hq => by
    rw [L_X4_isTold_13, if_neg (nI_ge (by omega) (by omega)), ob_t (at_sp el hZ (show 2 * j < 2 * Z by omega)), ob_t (areThere_sp hP _), t01_if, nI_1, ob_t (at_sp el hZ (show 2 * j + 1 < 2 * Z by omega)), ob_t (isWithin_sp _ _ _), t01_if, n2]
    show _ = some (t01 ((grB P (el (2 * j)) && wiB (el (2 * j + 1)) 0 1) && allB (tlB el P) d (j + 1)))
    cases grB P (el (2 * j)) with
    | false => rfl
    | true =>
      cases wiB (el (2 * j + 1)) 0 1 with
      | false => rfl
      | true => exact X4_told_lp el hP hZ d (j + 1) q (by omega) (by omega)
theorem X4_least_lp {h k f r el : Nat → Int32} {P Z N : Nat} (hP : P ≤ 7) (hh : OkH h) (hr : OkR r P) (hf : OkF f P) (hk : OkK k P) (hd : Int32) (hZ : 2 * Z ≤ 100) (hN : 8 ≤ N) : ∀ (d j q a : Nat), j + d = Z → d < q → 1 ≤ a → a ≤ 200 → L_X4_leastQuota_10 N el (nI (2 * Z)) h k f r (nI P) hd q (nI (2 * j)) (nI a) = some (nI (fup (lqF (lcr r el P hd) (lwt h k f r el P hd) el) j d a))
  | 0, j, 0, _, _, y, _, _ => absurd y (by omega)
  | 0, j, q + 1, a, hj, _, _, _ => by
    have : j = Z := by omega
    subst this
    rw [L_X4_leastQuota_10, if_pos (nI_le (Nat.le_refl _) (by omega))]
    rfl
  | d + 1, j, 0, _, _, y, _, _ => absurd y (by omega)
  | d + 1, j, q + 1, a, hj, hq, ha1, ha2 => by
    obtain ⟨w, hw, ew⟩ := wa_rng hP hh hr hf hk (el (2 * j) &&& hd)
    have el1 : lwt h k f r el P hd j = w := by unfold lwt; rw [ew, nI_cl (by omega)]
    rw [L_X4_leastQuota_10, if_neg (nI_ge (by omega) (by omega)), ob_t (at_sp el hZ (show 2 * j < 2 * Z by omega)), nI_1, ob_t (at_sp el hZ (show 2 * j + 1 < 2 * Z by omega)), ob_t (X2_isCrossing_sp r _ hP hr hN), t01_if, ob_t (X8_weightOfAll_sp h k f r _ hP hr hN), ew, nm_k, n2, nI_1]
    show _ = some (nI (fup (lqF (lcr r el P hd) (lwt h k f r el P hd) el) (j + 1) d (lqF (lcr r el P hd) (lwt h k f r el P hd) el j a)))
    have ih := fun a h1 h2 => X4_least_lp (el := el) hP hh hr hf hk hd hZ hN d (j + 1) q a (by omega) (by omega) h1 h2
    have c0 : (osS r P (el (2 * j) &&& hd) 0 && osS r P (el (2 * j) &&& hd) 1) = lcr r el P hd j := rfl
    rw [c0]
    unfold lqF
    rw [el1]
    by_cases e0 : el (2 * j + 1) = 0
    · rw [if_pos e0, if_pos e0]
      cases lcr r el P hd j with
      | false => exact ih a ha1 ha2
      | true =>
        simp only [if_true]
        by_cases z : a < w + 1
        · rw [if_pos (nI_lt z (by omega)), if_pos z]
          exact ih (w + 1) (by omega) (by omega)
        · rw [if_neg (nI_nlt (by omega) (by omega)), if_neg z]
          exact ih a ha1 ha2
    · rw [if_neg e0, if_neg e0]
      exact ih a ha1 ha2
theorem X4_great_lp {h k f r el : Nat → Int32} {P Z N : Nat} (hP : P ≤ 7) (hh : OkH h) (hr : OkR r P) (hf : OkF f P) (hk : OkK k P) (hd : Int32) (hZ : 2 * Z ≤ 100) (hN : 8 ≤ N) : ∀ (d j q a : Nat), j + d = Z → d < q → a ≤ 99 → L_X4_greatestQuota_11 N el (nI (2 * Z)) h k f r (nI P) hd q (nI (2 * j)) (nI a) = some (nI (fup (gqF (lcr r el P hd) (lwt h k f r el P hd) el) j d a))
  | 0, j, 0, _, _, y, _ => absurd y (by omega)
  | 0, j, q + 1, a, hj, _, _ => by
    have : j = Z := by omega
    subst this
    rw [L_X4_greatestQuota_11, if_pos (nI_le (Nat.le_refl _) (by omega))]
    rfl
  | d + 1, j, 0, _, _, y, _ => absurd y (by omega)
  | d + 1, j, q + 1, a, hj, hq, ha => by
    obtain ⟨w, hw, ew⟩ := wa_rng hP hh hr hf hk (el (2 * j) &&& hd)
    have el1 : lwt h k f r el P hd j = w := by unfold lwt; rw [ew, nI_cl (by omega)]
    rw [L_X4_greatestQuota_11, if_neg (nI_ge (by omega) (by omega)), ob_t (at_sp el hZ (show 2 * j < 2 * Z by omega)), nI_1, ob_t (at_sp el hZ (show 2 * j + 1 < 2 * Z by omega)), ob_t (X2_isCrossing_sp r _ hP hr hN), t01_if, ob_t (X8_weightOfAll_sp h k f r _ hP hr hN), ew, nm_k, n2]
    show _ = some (nI (fup (gqF (lcr r el P hd) (lwt h k f r el P hd) el) (j + 1) d (gqF (lcr r el P hd) (lwt h k f r el P hd) el j a)))
    have ih := fun a h1 => X4_great_lp (el := el) hP hh hr hf hk hd hZ hN d (j + 1) q a (by omega) (by omega) h1
    have c0 : (osS r P (el (2 * j) &&& hd) 0 && osS r P (el (2 * j) &&& hd) 1) = lcr r el P hd j := rfl
    rw [c0]
    unfold gqF
    rw [el1]
    by_cases e0 : el (2 * j + 1) = 1
    · rw [if_pos e0, if_pos e0]
      cases lcr r el P hd j with
      | false =>
        simp only [Bool.false_eq_true, if_false]
        by_cases z : 0 < a
        · rw [if_pos (show (0 : Int32) < nI a from nI_lt (a := 0) z (by omega)), if_pos z]
          exact ih 0 (by omega)
        · rw [if_neg (show ¬ (0 : Int32) < nI a from nI_nlt (a := 0) (by omega) (by omega)), if_neg z]
          exact ih a ha
      | true =>
        simp only [if_true]
        by_cases z : w < a
        · rw [if_pos (nI_lt z (by omega)), if_pos z]
          exact ih w (by omega)
        · rw [if_neg (nI_nlt (by omega) (by omega)), if_neg z]
          exact ih a ha
    · rw [if_neg e0, if_neg e0]
      exact ih a ha
def lsT (L G v : Nat) : Int32 × Int32 × Int32 := if (if G < v - 1 then G else v - 1) < L then (-4, -4, 0) else (nI (if G < v - 1 then G else v - 1), nI L, nI ((if G < v - 1 then G else v - 1) - L + 1))
section LAW
variable {h k f r m : Nat → Int32} {P : Nat} {shut needed day : Int32} {S : Nat → Int32}
theorem X10_isLaw_lp (hS : Sm h k f r m P shut needed day S) (hP : P ≤ 7) (hh : OkH h) (hr : OkR r P) (hf : OkF f P) (hk : OkK k P) {el SI EL : Nat → Int32} {Z d0 v N : Nat} (hd0 : d0 < 8) (hZ : 2 * Z ≤ 100) (hSI : SI d0 = nI (2 * Z)) (hEL : ∀ i, i < 100 → EL (100 * d0 + i) = el i) (hv : v < 1000) (hN : 8 ≤ N) : ∀ (d j q : Nat), j + d = Z → d < q → L_X10_isLawBy_2 N S SI EL (nI d0) (nI v) q (nI (2 * j)) = some (t01 (allB (lok (lcr r el P (hdS r shut P)) (lwt h k f r el P (hdS r shut P)) el v) d j))
  | 0, j, 0, _, y => absurd y (by omega)
  | 0, j, q + 1, hj, _ => by
    have : j = Z := by omega
    subst this
    rw [L_X10_isLawBy_2, gd_t (ix8 hd0), nI_cl (by omega), hSI, if_pos (nI_le (Nat.le_refl _) (by omega))]
    rfl
  | d + 1, j, 0, _, y => absurd y (by omega)
  | d + 1, j, q + 1, hj, hq => by
    obtain ⟨w, hw, ew⟩ := wa_rng hP hh hr hf hk (el (2 * j) &&& hdS r shut P)
    have el1 : lwt h k f r el P (hdS r shut P) j = w := by unfold lwt; rw [ew, nI_cl (by omega)]
    have ih := X10_isLaw_lp hS hP hh hr hf hk hd0 hZ hSI hEL hv hN d (j + 1) q (by omega) (by omega)
    rw [L_X10_isLawBy_2, gd_t (ix8 hd0), nI_cl (by omega), hSI, if_neg (nI_ge (by omega) (by omega)), e100, gd_t (ix800 (by omega)), nI_cl (by omega), hEL _ (by omega), ob_t (couldBy_sp hS hP hr _ _ hN), nI_1, gd_t (ix800 (by omega)), nI_cl (by omega), show 100 * d0 + 2 * j + 1 = 100 * d0 + (2 * j + 1) by omega, hEL _ (by omega), n2]
    have en : enS h k f r P (nI v) (el (2 * j) &&& hdS r shut P) = (lcr r el P (hdS r shut P) j && decide (v ≤ lwt h k f r el P (hdS r shut P) j)) := by
      unfold enS lcr
      rw [el1, ew]
      congr 1
      by_cases z : v ≤ w
      · rw [decide_eq_true z, decide_eq_true (nI_nlt z (by omega))]
      · rw [decide_eq_false z, decide_eq_false (fun q => q (nI_lt (by omega) (by omega)))]
    rw [en, t01_if1, t01_if]
    show _ = some (t01 (lok (lcr r el P (hdS r shut P)) (lwt h k f r el P (hdS r shut P)) el v j && allB (lok (lcr r el P (hdS r shut P)) (lwt h k f r el P (hdS r shut P)) el v) d (j + 1)))
    unfold lok
    by_cases e0 : el (2 * j + 1) = 1
    · rw [if_pos e0, decide_eq_true e0]
      cases (lcr r el P (hdS r shut P) j && decide (v ≤ lwt h k f r el P (hdS r shut P) j)) with
      | true => exact ih
      | false => rfl
    · rw [if_neg e0, decide_eq_false e0]
      cases (lcr r el P (hdS r shut P) j && decide (v ≤ lwt h k f r el P (hdS r shut P) j)) with
      | true => rfl
      | false => exact ih
theorem X10_count_lp {SI EL : Nat → Int32} {d0 L G N : Nat} {p2 : Int32} (hL1 : 1 ≤ L) (hL2 : L ≤ 200) (hG : G ≤ 99) (hlaw : ∀ v, 1 ≤ v → v ≤ 99 → f_X10_isLawBy N S SI EL (nI d0) (nI v) = some (t01 (decide (L ≤ v ∧ v ≤ G)))) : ∀ (d j q : Nat), j + d = 100 → 1 ≤ j → d < q → L_X10_law_125 N S SI EL (nI d0) p2 q (nI j) (lsT L G j).1 (lsT L G j).2.1 (lsT L G j).2.2 = some (if p2 = 0 then (lsT L G 100).2.2 else if p2 = 1 then (lsT L G 100).2.1 else (lsT L G 100).1)
  | 0, j, 0, _, _, y => absurd y (by omega)
  | 0, j, q + 1, hj, _, _ => by
    have : j = 100 := by omega
    subst this
    rw [L_X10_law_125, if_pos (show (100 : Int32) ≤ nI 100 by decide)]
    simp only [some_if]
  | d + 1, j, 0, _, _, y => absurd y (by omega)
  | d + 1, j, q + 1, hj, h1, hq => by
    have ih := X10_count_lp (p2 := p2) hL1 hL2 hG hlaw d (j + 1) q (by omega) (by omega) (by omega)
    rw [L_X10_law_125, if_neg (show ¬ (100 : Int32) ≤ nI j from nI_ge (b := 100) (by omega) (by omega)), ob_t (hlaw j h1 (by omega)), t01_if, nI_1, ← ih]
    by_cases z : L ≤ j ∧ j ≤ G
    · rw [decide_eq_true z, if_pos rfl]
      have a1 : lsT L G (j + 1) = (nI j, nI L, nI (j - L + 1)) := by
        unfold lsT
        rw [show (if G < j + 1 - 1 then G else j + 1 - 1) = j by split <;> omega, if_neg (by omega)]
      rw [a1]
      by_cases y : L = j
      · have a2 : lsT L G j = (-4, -4, 0) := by
          unfold lsT
          rw [show (if G < j - 1 then G else j - 1) = j - 1 by split <;> omega, if_pos (by omega)]
        rw [a2, if_pos rfl, y, Nat.sub_self]
        rfl
      · have a2 : lsT L G j = (nI (j - 1), nI L, nI (j - 1 - L + 1)) := by
          unfold lsT
          rw [show (if G < j - 1 then G else j - 1) = j - 1 by split <;> omega, if_neg (by omega)]
        rw [a2]
        show (if nI (j - 1 - L + 1) = 0 then _ else _) = _
        rw [if_neg (nI_ne0 (by omega) (by omega)), nI_1, show j - 1 - L + 1 + 1 = j - L + 1 by omega]
    · rw [decide_eq_false z, if_neg (by decide)]
      have a1 : lsT L G (j + 1) = lsT L G j := by
        unfold lsT
        by_cases y : L ≤ j
        · rw [show (if G < j + 1 - 1 then G else j + 1 - 1) = (if G < j - 1 then G else j - 1) by split <;> split <;> omega]
        · rw [if_pos (show (if G < j + 1 - 1 then G else j + 1 - 1) < L by split <;> omega), if_pos (show (if G < j - 1 then G else j - 1) < L by split <;> omega)]
      rw [a1]
theorem X10_valid_lp (hS : Sm h k f r m P shut needed day S) (hP : P ≤ 7) {el SI EL : Nat → Int32} {Z d0 N : Nat} {p2 : Int32} (hd0 : d0 < 8) (hZ : 2 * Z ≤ 100) (hSI : SI d0 = nI (2 * Z)) (hEL : ∀ i, i < 100 → EL (100 * d0 + i) = el i) : ∀ (d j q : Nat), j + d = Z → d + 1 < q → L_X10_law_40 N S SI EL (nI d0) p2 q (nI (2 * j)) 0 = if allB (tlB el P) d j then L_X10_law_125 N S SI EL (nI d0) p2 N 1 (-4) (-4) 0 else some (-13)
  | 0, j, 0, _, y => absurd y (by omega)
  | 0, j, q + 1, hj, _ => by
    have : j = Z := by omega
    subst this
    rw [L_X10_law_40, if_pos rfl, gd_t (ix8 hd0), nI_cl (by omega), hSI, if_pos (nI_le (Nat.le_refl _) (by omega)), if_pos rfl]
    rfl
  | d + 1, j, 0, _, y => absurd y (by omega)
  | d + 1, j, q + 1, hj, hq => by
    have ih := X10_valid_lp hS hP (N := N) (p2 := p2) hd0 hZ hSI hEL d (j + 1) q (by omega) (by omega)
    have bad : ∀ x, L_X10_law_40 N S SI EL (nI d0) p2 q x (-13) = some (-13) := fun x => by
      obtain ⟨q', rfl⟩ : ∃ q', q = q' + 1 := ⟨q - 1, by omega⟩
      rw [L_X10_law_40, if_neg (by decide), if_neg (by decide)]
    rw [L_X10_law_40, if_pos rfl, gd_t (ix8 hd0), nI_cl (by omega), hSI, if_neg (nI_ge (by omega) (by omega)), e100, gd_t (ix800 (by omega)), nI_cl (by omega), hEL _ (by omega), ob_t (isGroup_sp hS hP _), t01_if, nI_1, gd_t (ix800 (by omega)), nI_cl (by omega), show 100 * d0 + 2 * j + 1 = 100 * d0 + (2 * j + 1) by omega, hEL _ (by omega), ob_t (isInM_sp _ _ _), t01_if, n2, bad, ih]
    show _ = if ((grB P (el (2 * j)) && wiB (el (2 * j + 1)) 0 1) && allB (tlB el P) d (j + 1)) then _ else _
    cases grB P (el (2 * j)) with
    | false => rfl
    | true =>
      cases wiB (el (2 * j + 1)) 0 1 with
      | false => rfl
      | true => rfl
theorem all_of {c : Nat → Bool} : ∀ (d j : Nat), allB c d j = true → ∀ t, j ≤ t → t < j + d → c t = true
  | 0, _, _, t, h1, h2 => absurd h2 (by omega)
  | d + 1, j, h, t, h1, h2 => by
    have h : (c j && allB c d (j + 1)) = true := h
    rw [Bool.and_eq_true] at h
    by_cases e : t = j
    · rw [e]
      exact h.1
    · exact all_of d (j + 1) h.2 t (by omega) (by omega)
theorem ag_law (hS : St h k f r m P shut needed day S) {el : Nat → Int32} {ho ki fi so si : Int32} {K KK KF SO SI EL : Nat → Int32} (p1 p2 : Int32) (hq : ShP p1 el ho ki fi so si K KK KF SO SI EL) {N : Nat} (hN : 1001 ≤ N) : ∃ res : Int32, f_X9_law N h k f r shut (nI P) el ho si p1 p2 = some res ∧ f_X10_law N S K SO SI EL p1 p2 = some res := by
  obtain ⟨hs, hP, hh, hr, hf, hk, h2, h3⟩ := id hS
  have ex : ∀ x y : Int32, ¬ y = 0 → L_X10_law_40 N S SI EL p1 p2 N x y = some y := fun x y hy => by
    obtain ⟨N', rfl⟩ : ∃ N', N = N' + 1 := ⟨N - 1, by omega⟩
    rw [L_X10_law_40, if_neg hy, if_neg hy]
  rw [f_X9_law, f_X10_law, ob_t (isWithin_sp _ _ _), ob_t (isInM_sp _ _ _), t01_if, t01_if]
  cases c2 : wiB p2 0 2 with
  | false => exact ⟨-1, rfl, rfl⟩
  | true =>
    simp only [if_true]
    cases c : wiB p1 0 7 with
    | false =>
      rw [ob_t (refusal_no c _ _), ob_t (wrongRow_no c _ _ _), if_neg (by decide), if_neg (by decide), ex _ _ (by decide)]
      exact ⟨-1, rfl, rfl⟩
    | true =>
      obtain ⟨d, hd, rfl⟩ := shelf_of c
      obtain ⟨a1, a2, a3, ⟨z, hz, rfl⟩, a5, a6, a7, a8, a9⟩ := hq d hd rfl
      rw [ob_t (refusal_sp hd _ _), ob_t (wrongRow_sp hd K SO), a1]
      by_cases y : rf ho 2 = 0
      · have ez : nI z - nI z / 2 * 2 = nI (z % 2) := pk_rem (d := 2) (by omega) (by omega) (by omega)
        rw [if_pos y, if_pos y]
        simp only [gd_t (ix8 hd)]
        rw [nI_cl (by omega), a3, ez, f_X4_isTold, ez]
        have hz2 : z % 2 = 0 ∨ z % 2 = 1 := by omega
        rcases hz2 with e | e
        · obtain ⟨Z, rfl⟩ : ∃ Z, z = 2 * Z := ⟨z / 2, by omega⟩
          rw [e, if_neg (show ¬ nI 0 = 1 by decide), if_pos nI_0, y]
          have et := X4_told_lp el hP hz Z 0 N (by omega) (by omega)
          have ev := X10_valid_lp hs hP (N := N) (p2 := p2) hd hz a3 a8 Z 0 N (by omega) (by omega)
          have et : L_X4_isTold_13 el (nI (2 * Z)) (nI P) N 0 = some (t01 (allB (tlB el P) Z 0)) := et
          have ev : L_X10_law_40 N S SI EL (nI d) p2 N 0 0 = if allB (tlB el P) Z 0 then L_X10_law_125 N S SI EL (nI d) p2 N 1 (-4) (-4) 0 else some (-13) := ev
          rw [ob_t et, ev, t01_if]
          cases hv : allB (tlB el P) Z 0 with
          | false => exact ⟨-13, rfl, rfl⟩
          | true =>
            simp only [if_true]
            have told : ∀ t, 0 ≤ t → t < 0 + Z → el (2 * t + 1) = 0 ∨ el (2 * t + 1) = 1 := fun t h1 h2 => by
              have := all_of Z 0 hv t h1 h2
              unfold tlB at this
              rw [Bool.and_eq_true] at this
              obtain ⟨x, -, hx, e⟩ := wiB_of (a := 0) (b := 1) (by omega) (by omega) this.2
              rw [e]
              have hx2 : x = 0 ∨ x = 1 := by omega
              rcases hx2 with rfl | rfl
              · exact Or.inl rfl
              · exact Or.inr rfl
            have hw : ∀ t, lwt h k f r el P (hdS r shut P) t ≤ 161 := fun t => by
              obtain ⟨w, hw, ew⟩ := wa_rng hP hh hr hf hk (el (2 * t) &&& hdS r shut P)
              unfold lwt
              rw [ew, nI_cl (by omega)]
              exact hw
            obtain ⟨l1, l2⟩ := lq_in (c := lcr r el P (hdS r shut P)) (el := el) hw Z 0 1 (by omega) (by omega)
            have g1 := gq_in (c := lcr r el P (hdS r shut P)) (w := lwt h k f r el P (hdS r shut P)) (el := el) Z 0 99 (by omega)
            have eL := X4_least_lp (el := el) hP hh hr hf hk (hdS r shut P) hz (show 8 ≤ N by omega) Z 0 N 1 (by omega) (by omega) (by omega) (by omega)
            have eG := X4_great_lp (el := el) hP hh hr hf hk (hdS r shut P) hz (show 8 ≤ N by omega) Z 0 N 99 (by omega) (by omega) (by omega)
            have iff := fun v (hv : 1 ≤ v) => law_iff (c := lcr r el P (hdS r shut P)) (w := lwt h k f r el P (hdS r shut P)) (el := el) hv Z 0 1 99 told
            generalize hL : fup (lqF (lcr r el P (hdS r shut P)) (lwt h k f r el P (hdS r shut P)) el) 0 Z 1 = L at *
            generalize hG : fup (gqF (lcr r el P (hdS r shut P)) (lwt h k f r el P (hdS r shut P)) el) 0 Z 99 = G at *
            have eL : f_X4_leastQuota N el (nI (2 * Z)) h k f r shut (nI P) = some (nI L) := by
              rw [f_X4_leastQuota, ob_t (X8_heardOnes_sp r shut hP (by omega))]
              exact eL
            have eG : f_X4_greatestQuota N el (nI (2 * Z)) h k f r shut (nI P) = some (nI G) := by
              rw [f_X4_greatestQuota, ob_t (X8_heardOnes_sp r shut hP (by omega))]
              exact eG
            have hlaw : ∀ v, 1 ≤ v → v ≤ 99 → f_X10_isLawBy N S SI EL (nI d) (nI v) = some (t01 (decide (L ≤ v ∧ v ≤ G))) := fun v h1 h2 => by
              rw [f_X10_isLawBy]
              refine Eq.trans (X10_isLaw_lp hs hP hh hr hf hk hd hz a3 a8 (show v < 1000 by omega) (show 8 ≤ N by omega) Z 0 N (by omega) (by omega)) ?_
              have i := iff v h1
              cases q : allB (lok (lcr r el P (hdS r shut P)) (lwt h k f r el P (hdS r shut P)) el v) Z 0 with
              | true => rw [decide_eq_true (i.mpr ⟨h1, h2, q⟩)]
              | false =>
                rw [decide_eq_false (fun w => by
                  have := (i.mp w).2.2
                  rw [q] at this
                  cases this)]
            have ec := X10_count_lp (S := S) (p2 := p2) l1 l2 g1 hlaw 99 1 N (by omega) (by omega) (by omega)
            have e1 : lsT L G 1 = (-4, -4, 0) := by
              unfold lsT
              rw [if_pos (by split <;> omega)]
            rw [e1] at ec
            have ec : L_X10_law_125 N S SI EL (nI d) p2 N 1 (-4) (-4) 0 = _ := ec
            rw [ob_t eL, ob_t eG, ec]
            refine ⟨_, ?_, rfl⟩
            have e100' : (if G < 100 - 1 then G else 100 - 1) = G := by split <;> omega
            unfold lsT
            rw [e100']
            by_cases z1 : G < L
            · rw [if_pos z1, if_neg (show ¬ nI L ≤ nI G from nI_ge z1 (by omega))]
              by_cases p0 : p2 = 0
              · rw [if_pos p0, if_pos p0]
                refine congrArg some (if_neg ?_)
                rw [Int32.lt_iff_toInt_lt, i_add (by rw [pk_sub_toInt (by omega) (by omega)]; show -1000000000 ≤ ((G : Int) - L) + 1; omega) (by rw [pk_sub_toInt (by omega) (by omega)]; show ((G : Int) - L) + 1 ≤ 1000000000; omega), pk_sub_toInt (by omega) (by omega)]
                show ¬ (0 : Int) < ((G : Int) - L) + 1
                omega
              · rw [if_neg p0, if_neg p0]
                by_cases p1 : p2 = 1
                · rw [if_pos p1]
                · rw [if_neg p1]
            · rw [if_neg z1, if_pos (show nI L ≤ nI G from nI_le (by omega) (by omega))]
              by_cases p0 : p2 = 0
              · rw [if_pos p0, if_pos p0, pk_sub (by omega), nI_1, if_pos (show (0 : Int32) < nI (G - L + 1) from nI_lt (a := 0) (by omega) (by omega))]
              · rw [if_neg p0, if_neg p0]
                by_cases p1 : p2 = 1
                · rw [if_pos p1, if_pos p1]
                · rw [if_neg p1, if_neg p1]
        · have e0 : ob (some (0 : Int32)) (fun r8 => if r8 = 0 then some (-13 : Int32) else ob (f_X4_leastQuota N el (nI z) h k f r shut (nI P)) (fun r12 => ob (f_X4_greatestQuota N el (nI z) h k f r shut (nI P)) (fun r15 => if p2 = 0 then some (if (0 : Int32) < ((r15 - r12) + (1 : Int32)) then ((r15 - r12) + (1 : Int32)) else (0 : Int32)) else if r12 ≤ r15 then if p2 = (1 : Int32) then some r12 else some r15 else some (-4 : Int32)))) = some (-13) := rfl
          rw [e, if_pos (show nI 1 = 1 by decide), if_neg (show ¬ nI 1 = 0 by decide), ex _ _ (by decide), e0]
          exact ⟨-13, rfl, rfl⟩
      · rw [if_neg y, if_neg y, ex _ _ y]
        exact ⟨_, rfl, rfl⟩
end LAW
