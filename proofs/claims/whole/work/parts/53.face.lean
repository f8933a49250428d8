/-! THE PURE LAYER: the face, balcony, speaker, could -/
def enS (h k f r : Nat → Int32) (P : Nat) (q g : Int32) : Bool := osS r P g 0 && osS r P g 1 && decide (¬ waS h k f r P g < q)
theorem sc3 (a b : Bool) : (sc a b = 3) = (a = true ∧ b = true) := by cases a <;> cases b <;> simp [sc, t01] <;> decide
theorem X2_isCrossing_sp (r : Nat → Int32) (g : Int32) {P N : Nat} (hP : P ≤ 7) (hr : OkR r P) (hN : 8 ≤ N) : f_X2_isCrossing N r (nI P) g = some (t01 (osS r P g 0 && osS r P g 1)) := by
  rw [f_X2_isCrossing, ob_t (X8_sidesOf_sp r g hP hr hN)]
  simp only [sc3]
  cases osS r P g 0 <;> cases osS r P g 1 <;> rfl
theorem X2_isEnough_sp (h k f r : Nat → Int32) (q g : Int32) {P N : Nat} (hP : P ≤ 7) (hr : OkR r P) (hN : 8 ≤ N) : f_X2_isEnough N h k f r (nI P) q g = some (t01 (enS h k f r P q g)) := by
  rw [f_X2_isEnough, ob_t (X2_isCrossing_sp r g hP hr hN), t01_if, ob_t (X8_weightOfAll_sp h k f r g hP hr hN)]
  unfold enS t01
  cases osS r P g 0 <;> cases osS r P g 1 <;> simp
  by_cases hw : waS h k f r P g < q <;> simp [hw]
theorem pow2 : ∀ P, P ≤ 7 → (1 : Int32) <<< (nI P &&& 31) = nI (2 ^ P) := by
  intro P hP
  have : P = 0 ∨ P = 1 ∨ P = 2 ∨ P = 3 ∨ P = 4 ∨ P = 5 ∨ P = 6 ∨ P = 7 := by omega
  rcases this with rfl | rfl | rfl | rfl | rfl | rfl | rfl | rfl <;> decide
theorem pow2_le {P : Nat} (hP : P ≤ 7) : 1 ≤ 2 ^ P ∧ 2 ^ P ≤ 128 := by
  have : P = 0 ∨ P = 1 ∨ P = 2 ∨ P = 3 ∨ P = 4 ∨ P = 5 ∨ P = 6 ∨ P = 7 := by omega
  rcases this with rfl | rfl | rfl | rfl | rfl | rfl | rfl | rfl <;> decide
/-- a group of those who are there -/
def grB (P : Nat) (v : Int32) : Bool := decide (¬ v < 0) && decide (¬ nI (2 ^ P) ≤ v)
theorem areThere_sp {P : Nat} (hP : P ≤ 7) (v : Int32) : f_X8_areThere (nI P) v = some (t01 (grB P v)) := by
  unfold f_X8_areThere grB t01
  rw [pow2 P hP]
  by_cases h1 : v < 0
  · simp [h1]
  · by_cases h2 : nI (2 ^ P) ≤ v <;> simp [h1, h2]
section FACE4
variable {h k f r m : Nat → Int32} {P : Nat} {shut needed day : Int32} {S : Nat → Int32}
theorem isGroup_sp (hS : Sm h k f r m P shut needed day S) (hP : P ≤ 7) (v : Int32) : f_X10_isGroup S v = some (t01 (grB P v)) := by
  obtain ⟨l1, l2⟩ := pow2_le hP
  rw [f_X10_isGroup, ob_t (isInM_sp _ _ _), gd_t (bz01 _), hS.1, pow2 P hP]
  have e : wiB v 0 (nI (2 ^ P) - 1) = grB P v := by
    unfold wiB grB
    have e1 : (nI (2 ^ P)).toInt = ((2 ^ P : Nat) : Int) := nI_toInt (by omega)
    have e2 : (nI (2 ^ P) - 1).toInt = ((2 ^ P : Nat) : Int) - 1 := pk_sub_toInt (a := 2 ^ P) (b := 1) (by omega) (by omega)
    congr 1
    rw [decide_eq_decide, Int32.lt_iff_toInt_lt, Int32.le_iff_toInt_le, e1, e2]
    omega
  rw [e]
theorem couldBy_sp (hS : Sm h k f r m P shut needed day S) (hP : P ≤ 7) (hr : OkR r P) (g q : Int32) {N : Nat} (hN : 8 ≤ N) : f_X10_couldBy N S g q = some (t01 (enS h k f r P q (g &&& hdS r shut P))) := by
  rw [f_X10_couldBy, ob_t (X10_heardIn_sp hS hP hN), ob_t (X10_isOnSide_sp hS hP _ 0 hN), t01_if, ob_t (X10_isOnSide_sp hS hP _ 1 hN), t01_if, ob_t (X10_weightOf_sp hS hP hr _ hN)]
  unfold enS t01
  cases osS r P (g &&& hdS r shut P) 0 <;> cases osS r P (g &&& hdS r shut P) 1 <;> simp
  by_cases hw : waS h k f r P (g &&& hdS r shut P) < q <;> simp [hw]
theorem ag_could (hS : St h k f r m P shut needed day S) (p1 : Int32) {N : Nat} (hN : 1001 ≤ N) : ∃ res : Int32, f_X9_could N h k f r shut (nI P) needed p1 = some res ∧ f_X10_could N S p1 = some res := by
  obtain ⟨hs, hP, hh, hr, hf, hk, h2, h3⟩ := id hS
  rw [f_X9_could, f_X10_could, ob_t (areThere_sp hP _), ob_t (isGroup_sp hs hP _), t01_if, t01_if, ob_t (X8_heardOnes_sp r shut hP (by omega)), ob_t (X2_isEnough_sp h k f r needed _ hP hr (by omega)), ob_t (oneIf_sp _), hs.2.2.1, ob_t (couldBy_sp hs hP hr p1 needed (by omega)), t01_if]
  cases grB P p1 with
  | false => exact ⟨-1, rfl, rfl⟩
  | true =>
    refine ⟨_, rfl, ?_⟩
    cases enS h k f r P needed (p1 &&& hdS r shut P) <;> rfl
theorem ag_balcony (hS : St h k f r m P shut needed day S) (p1 p2 : Int32) {N : Nat} (hN : 1001 ≤ N) : ∃ res : Int32, f_X9_balcony N h r shut (nI P) p1 p2 = some res ∧ f_X10_balcony N S p1 p2 = some res := by
  obtain ⟨hs, hP, hh, hr, hf, hk, h2, h3⟩ := id hS
  have e2 : f_X8_isShut shut p1 = some (t01 (inn shut p1)) := by rw [f_X8_isShut, ob_t (isIn_sp _ _), gd_t (bz01 _)]
  rw [f_X9_balcony, f_X10_balcony, ob_t (isBalcony_sp _), ob_t (isRail_sp _), t01_if, t01_if, ob_t (isInM_sp _ _ _), t01_if, ob_t e2, ob_t (oneIf_sp _), ob_t (X8_onesOn_sp r p1 hP (by omega)), X10_onesOn_sp hs hP p1 (by omega), hs.2.2.2.1, and1_t]
  cases c1 : wiB p1 0 9 with
  | false => exact ⟨-1, rfl, rfl⟩
  | true =>
    obtain ⟨b, -, hb, rfl⟩ := wiB_of (a := 0) (b := 9) (by omega) (by omega) c1
    have e4 : (4 : Int32) + nI b = nI (4 + b) := nI_add 4 b
    simp only [if_true]
    rw [e4, gd_t (ix10 (by omega)), gd_t (ix42 (by omega)), nI_cl (by omega), nI_cl (by omega), hs.2.2.2.2.1 b (by omega)]
    cases c2 : wiB p2 0 2 with
    | false =>
      have n0 : ¬ p2 = 0 := fun e => by rw [e] at c2; cases c2
      have n1 : ¬ p2 = 1 := fun e => by rw [e] at c2; cases c2
      have n2 : ¬ p2 = 2 := fun e => by rw [e] at c2; cases c2
      rw [if_neg n0, if_neg n1, if_neg n2]
      exact ⟨-1, rfl, rfl⟩
    | true =>
      obtain ⟨x, -, hx, rfl⟩ := wiB_of (a := 0) (b := 2) (by omega) (by omega) c2
      have hx2 : x = 0 ∨ x = 1 ∨ x = 2 := by omega
      rcases hx2 with rfl | rfl | rfl
      · exact ⟨_, rfl, rfl⟩
      · exact ⟨_, rfl, rfl⟩
      · exact ⟨_, rfl, rfl⟩
end FACE4
