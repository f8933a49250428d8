/-! the reference's row S holds what the class's rows hold -/
def Sm (h k f r m : Nat → Int32) (P : Nat) (shut needed day : Int32) (S : Nat → Int32) : Prop := S 0 = nI P ∧ S 1 = day ∧ S 2 = needed ∧ S 3 = shut ∧ (∀ b, b < 10 → S (4 + b) = h b) ∧ ∀ p, p < P → S (14 + 4 * p) = k p ∧ S (14 + 4 * p + 1) = f p ∧ S (14 + 4 * p + 2) = r p ∧ S (14 + 4 * p + 3) = m p
theorem of_sp (p j : Nat) : f_X10_of (nI p) (nI j) = some (nI (14 + 4 * p + j)) := by
  show some (nI 14 + nI 4 * nI p + nI j) = _
  rw [pk_mul, nI_add, nI_add]
theorem of0 (p : Nat) : f_X10_of (nI p) 0 = some (nI (14 + 4 * p)) := of_sp p 0
theorem of1 (p : Nat) : f_X10_of (nI p) 1 = some (nI (14 + 4 * p + 1)) := of_sp p 1
theorem of2 (p : Nat) : f_X10_of (nI p) 2 = some (nI (14 + 4 * p + 2)) := of_sp p 2
theorem of3 (p : Nat) : f_X10_of (nI p) 3 = some (nI (14 + 4 * p + 3)) := of_sp p 3
section SMO
variable {h k f r m : Nat → Int32} {P : Nat} {shut needed day : Int32} {S : Nat → Int32}
theorem X10_isHeard_sp (hS : Sm h k f r m P shut needed day S) (hP : P ≤ 7) {p : Nat} (hp : p < P) : f_X10_isHeard S (nI p) = some (t01 (!inn shut (r p))) := by
  rw [f_X10_isHeard, ob_t (of2 p), gd_t (ix42 (by omega)), nI_cl (by omega), (hS.2.2.2.2.2 p hp).2.2.1, hS.2.2.2.1, ob_t (has_sp shut (r p)), t01_if]
  cases inn shut (r p) <;> rfl
theorem X10_heardIn_sp (hS : Sm h k f r m P shut needed day S) (hP : P ≤ 7) {N : Nat} (hN : 8 ≤ N) : f_X10_heardIn N S = some (hdS r shut P) := by
  rw [f_X10_heardIn]
  refine lup (P := P) (fun n i a => L_X10_heardIn_4 S n i a) (sB (fun p => !inn shut (r p))) some ?_ ?_ P 0 N 0 (by omega) (by omega)
  · intro n a
    simp only [L_X10_heardIn_4]
    rw [hS.1, if_pos (nI_le (Nat.le_refl P) (by omega))]
  · intro n j a hj
    rw [L_X10_heardIn_4, hS.1, if_neg (nI_nge hj hP), ob_t (X10_isHeard_sp hS hP hj), t01_if]
    cases hi : inn shut (r j) <;> simp [hi, nm, bt1, sB]
theorem X10_moodSet_sp (hS : Sm h k f r m P shut needed day S) (hP : P ≤ 7) {N : Nat} (hN : 8 ≤ N) : f_X10_moodSet N S 1 = some (foS m P) := by
  rw [f_X10_moodSet]
  refine lup (P := P) (fun n i a => L_X10_moodSet_4 S 1 n i a) (sB (fun p => decide (¬ m p ≤ 0))) some ?_ ?_ P 0 N 0 (by omega) (by omega)
  · intro n a
    simp only [L_X10_moodSet_4]
    rw [hS.1, if_pos (nI_le (Nat.le_refl P) (by omega))]
  · intro n j a hj
    rw [L_X10_moodSet_4, hS.1, if_neg (nI_nge hj hP), ob_t (of3 j), gd_t (ix42 (by omega)), nI_cl (by omega), (hS.2.2.2.2.2 j hj).2.2.2, Int32.one_mul]
    unfold sB
    by_cases hm : m j ≤ 0
    · simp [hm]
    · simp [hm, nm, bt1]
theorem X10_heightOf_sp (hS : Sm h k f r m P shut needed day S) (hP : P ≤ 7) (hr : OkR r P) {p : Nat} (hp : p < P) : f_X10_heightOf S (nI p) = some (h (r p).toNatClampNeg) := by
  obtain ⟨j, hj, ej⟩ := hr p hp
  have e4 : (4 : Int32) + nI j = nI (4 + j) := nI_add 4 j
  rw [f_X10_heightOf, ob_t (of2 p), gd_t (ix42 (by omega)), nI_cl (by omega), (hS.2.2.2.2.2 p hp).2.2.1, ej, e4, gd_t (ix42 (by omega)), nI_cl (by omega), nI_cl (by omega), hS.2.2.2.2.1 j hj]
theorem X10_sideOf_sp (hS : Sm h k f r m P shut needed day S) (hP : P ≤ 7) {p : Nat} (hp : p < P) : f_X10_sideOf S (nI p) = some (sd r p) := by
  rw [f_X10_sideOf, ob_t (of2 p), gd_t (ix42 (by omega)), nI_cl (by omega), (hS.2.2.2.2.2 p hp).2.2.1]
  rfl
theorem X10_weight_sp (hS : Sm h k f r m P shut needed day S) (hP : P ≤ 7) (hr : OkR r P) {p : Nat} (hp : p < P) : f_X10_weight S (nI p) = some (w1 h k f r p) := by
  rw [f_X10_weight, ob_t (of0 p), gd_t (ix42 (by omega)), ob_t (of1 p), gd_t (ix42 (by omega)), nI_cl (by omega), nI_cl (by omega), ob_t (X10_heightOf_sp hS hP hr hp), (hS.2.2.2.2.2 p hp).1, (hS.2.2.2.2.2 p hp).2.1, ob_t (wtm_sp _ _ _)]
  rfl
theorem X10_weightOf_sp (hS : Sm h k f r m P shut needed day S) (hP : P ≤ 7) (hr : OkR r P) (g : Int32) {N : Nat} (hN : 8 ≤ N) : f_X10_weightOf N S g = some (waS h k f r P g) := by
  rw [f_X10_weightOf]
  refine lup (P := P) (fun n i a => L_X10_weightOf_4 S g n i a) (fun p a => if inn g (nI p) then a + w1 h k f r p else a) some ?_ ?_ P 0 N 0 (by omega) (by omega)
  · intro n a
    simp only [L_X10_weightOf_4]
    rw [hS.1, if_pos (nI_le (Nat.le_refl P) (by omega))]
  · intro n j a hj
    rw [L_X10_weightOf_4, hS.1, if_neg (nI_nge hj hP), ob_t (has_sp g (nI j)), t01_if, ob_t (X10_weight_sp hS hP hr hj)]
    cases inn g (nI j)
    · simp
    · rfl
theorem X10_isOnSide_sp (hS : Sm h k f r m P shut needed day S) (hP : P ≤ 7) (g side : Int32) {N : Nat} (hN : 8 ≤ N) : f_X10_isOnSide N S g side = some (t01 (osS r P g side)) := by
  rw [f_X10_isOnSide]
  have e := lany (P := P) (fun n i => L_X10_isOnSide_2 S g side n i) (fun p => inn g (nI p) && decide (sd r p = side)) (some 1) (some 0) (fun n => ?_) (fun n j hj => ?_) P 0 N (by omega) (by omega)
  · refine Eq.trans e ?_
    unfold osS t01
    cases anyS (fun p => inn g (nI p) && decide (sd r p = side)) 0 P <;> rfl
  · simp only [L_X10_isOnSide_2]
    rw [hS.1, if_pos (nI_le (Nat.le_refl P) (by omega))]
  · rw [L_X10_isOnSide_2, hS.1, if_neg (nI_nge hj hP), ob_t (has_sp g (nI j)), t01_if, ob_t (X10_sideOf_sp hS hP hj)]
    cases inn g (nI j)
    · rfl
    · by_cases hs : sd r j = side <;> simp [hs]
theorem X10_doesVeto_sp (hS : Sm h k f r m P shut needed day S) (hP : P ≤ 7) {p : Nat} (hp : p < P) : f_X10_doesVeto S (nI p) = some (t01 (veS (k p) (m p))) := by
  rw [f_X10_doesVeto, ob_t (of3 p), gd_t (ix42 (by omega)), ob_t (of0 p), gd_t (ix42 (by omega)), nI_cl (by omega), nI_cl (by omega), (hS.2.2.2.2.2 p hp).1, (hS.2.2.2.2.2 p hp).2.2.2]
  exact ve_sp (k p) (m p)
theorem X10_isVetoed_sp (hS : Sm h k f r m P shut needed day S) (hP : P ≤ 7) (g : Int32) {N : Nat} (hN : 8 ≤ N) : f_X10_isVetoed N S g = some (t01 (vdS k m P g)) := by
  rw [f_X10_isVetoed]
  have e := lany (P := P) (fun n i => L_X10_isVetoed_2 S g n i) (fun p => inn g (nI p) && veS (k p) (m p)) (some 1) (some 0) (fun n => ?_) (fun n j hj => ?_) P 0 N (by omega) (by omega)
  · refine Eq.trans e ?_
    unfold vdS t01
    cases anyS (fun p => inn g (nI p) && veS (k p) (m p)) 0 P <;> rfl
  · simp only [L_X10_isVetoed_2]
    rw [hS.1, if_pos (nI_le (Nat.le_refl P) (by omega))]
  · rw [L_X10_isVetoed_2, hS.1, if_neg (nI_nge hj hP), ob_t (has_sp g (nI j)), t01_if, ob_t (X10_doesVeto_sp hS hP hj), t01_if]
    cases inn g (nI j) <;> cases veS (k j) (m j) <;> rfl
theorem X10_whyBy_sp (hS : Sm h k f r m P shut needed day S) (hP : P ≤ 7) (hr : OkR r P) (g : Int32) {N : Nat} (hN : 8 ≤ N) : f_X10_whyBy N S g = some (whS h k f r m P needed g) := by
  rw [f_X10_whyBy, ob_t (X10_moodSet_sp hS hP hN), ob_t (X10_isOnSide_sp hS hP _ 0 hN), t01_if, ob_t (X10_isOnSide_sp hS hP _ 1 hN), t01_if, ob_t (X10_weightOf_sp hS hP hr _ hN), ob_t (X10_isVetoed_sp hS hP g hN), t01_if, hS.2.2.1, Int32.and_comm (foS m P) g]
  unfold whS
  cases osS r P (g &&& foS m P) 0 <;> cases osS r P (g &&& foS m P) 1 <;> simp
  by_cases hn : needed ≤ waS h k f r P (g &&& foS m P) <;> cases vdS k m P g <;> simp [hn]
theorem X10_doesCarry_sp (hS : Sm h k f r m P shut needed day S) (hP : P ≤ 7) (hr : OkR r P) {N : Nat} (hN : 8 ≤ N) : f_X10_doesCarry N S = some (t01 (caS h k f r m P shut needed)) := by
  rw [f_X10_doesCarry, ob_t (X10_heardIn_sp hS hP hN), ob_t (X10_whyBy_sp hS hP hr _ hN)]
  unfold caS t01
  by_cases hw : whS h k f r m P needed (hdS r shut P) = 0 <;> simp [hw]
theorem X10_forIn_sp (hS : Sm h k f r m P shut needed day S) (hP : P ≤ 7) (hr : OkR r P) {N : Nat} (hN : 8 ≤ N) : f_X10_forIn N S = some (waS h k f r P (hdS r shut P &&& foS m P)) := by
  rw [f_X10_forIn, ob_t (X10_moodSet_sp hS hP hN), ob_t (X10_heardIn_sp hS hP hN), Int32.and_comm, ob_t (X10_weightOf_sp hS hP hr _ hN)]
end SMO
