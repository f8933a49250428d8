/-! THE PURE LAYER: the face, then, rent, balcony -/
section FACE3
variable {h k f r m : Nat → Int32} {P : Nat} {shut needed day : Int32} {S : Nat → Int32}
theorem ag_then (hS : St h k f r m P shut needed day S) (mh mk mf mr mm ms : Nat → Int32) (mo mt mp mn md : Int32) (M : Nat → Int32) (p1 p2 : Int32) {N : Nat} (hN : 1001 ≤ N) : ∃ (res : Int32) (w : Int32 × Int32 × Int32 × Int32 × Int32 × (Nat → Int32) × (Nat → Int32) × (Nat → Int32) × (Nat → Int32) × (Nat → Int32) × (Nat → Int32)) (M' : Nat → Int32), f_X9_then N h k f r m shut (nI P) needed day mh mk mf mr mm ms mo mt mp mn md p1 p2 = some (res, w) ∧ f_X10_then N S M p1 p2 = some (res, M') := by
  obtain ⟨hs, hP, hh, hr, hf, hk, h2, h3⟩ := id hS
  rw [f_X9_then, f_X10_then, ob_t (isSpan_sp _), ob_t (isLate_sp _), t01_if, t01_if, ob_t (isWithin_sp _ _ _), ob_t (isInM_sp _ _ _), t01_if, t01_if]
  cases c1 : wiB p1 0 60 with
  | false => exact ⟨_, _, M, rfl, rfl⟩
  | true =>
    cases c2 : wiB p2 0 1 with
    | false => exact ⟨_, _, M, rfl, rfl⟩
    | true =>
      obtain ⟨n, -, hn, rfl⟩ := wiB_of (a := 0) (b := 60) (by omega) (by omega) c1
      obtain ⟨x, -, hx, rfl⟩ := wiB_of (a := 0) (b := 1) (by omega) (by omega) c2
      obtain ⟨b, y', e1⟩ := X8_live_sp h k f r m ms shut day hP hr (n := n) (by omega) hN
      obtain ⟨M', e2, hM⟩ := takes_sp hs hP hh hr hf M hN (n := n) (by omega)
      have hx2 : x = 0 ∨ x = 1 := by omega
      simp only [if_true]
      rw [f_X8_become, ob_t (a := (shut, nI P, needed, day, h, k, f, r, m)) rfl]
      simp only []
      rw [ob_t e1, ob_t e2]
      simp only []
      rcases hx2 with rfl | rfl
      · refine ⟨t01 (caS h k f r (itS h k f r shut P n m) P shut needed), (t01 b, shut, nI P, needed, day + nI n, h, k, f, r, itS h k f r shut P n m, y'), M', ?_, ?_⟩
        · rw [if_pos nI_0, ob_t (X8_isCarried_sp h k f r _ shut needed hP hr (by omega)), ob_t (oneIf_sp _)]
        · rw [if_neg (show ¬ nI 0 = 1 by decide), ob_t (X10_doesCarry_sp hM hP hr (by omega)), t01_if]
          cases caS h k f r (itS h k f r shut P n m) P shut needed <;> rfl
      · refine ⟨waS h k f r P (hdS r shut P &&& foS (itS h k f r shut P n m) P), (t01 b, shut, nI P, needed, day + nI n, h, k, f, r, itS h k f r shut P n m, y'), M', ?_, ?_⟩
        · rw [if_neg (show ¬ nI 1 = 0 by decide), ob_t (X8_heardOnes_sp r shut hP (by omega)), ob_t (X8_weightFor_sp h k f r _ _ hP hr (by omega))]
        · rw [if_pos (show nI 1 = 1 by decide), ob_t (X10_forIn_sp hM hP hr (by omega))]
theorem X8_weightAt_sp (k f : Nat → Int32) {p : Nat} (hp : p < 7) (x : Int32) : f_X8_weightAt k f (nI p) x = some (wtS (k p) (f p) x) := by
  rw [f_X8_weightAt, gd_t (ix7 hp), gd_t (ix7 hp), nI_cl (by omega), ob_t (wt_sp _ _ _)]
theorem X10_weightAt_sp (hS : Sm h k f r m P shut needed day S) (hP : P ≤ 7) {p : Nat} (hp : p < P) (x : Int32) : f_X10_weightAt S (nI p) x = some (wtS (k p) (f p) x) := by
  rw [f_X10_weightAt, ob_t (of0 p), gd_t (ix42 (by omega)), ob_t (of1 p), gd_t (ix42 (by omega)), nI_cl (by omega), nI_cl (by omega), (hS.2.2.2.2.2 p hp).1, (hS.2.2.2.2.2 p hp).2.1, ob_t (wtm_sp _ _ _)]
theorem ag_rent (hS : St h k f r m P shut needed day S) (p1 p2 : Int32) : ∃ res : Int32, f_X9_rent h k f (nI P) p1 p2 = some res ∧ f_X10_rent S p1 p2 = some res := by
  obtain ⟨hs, hP, hh, hr, hf, hk, h2, h3⟩ := id hS
  rw [f_X9_rent, f_X10_rent, ob_t (isThere_sp _ _), ob_t (isSpeaker_sp hs hP _), t01_if, t01_if, ob_t (isBalcony_sp _), ob_t (isRail_sp _), t01_if, t01_if]
  cases c1 : thB P p1 with
  | false => exact ⟨1000000001, rfl, rfl⟩
  | true =>
    cases c2 : wiB p2 0 9 with
    | false => exact ⟨1000000001, rfl, rfl⟩
    | true =>
      obtain ⟨p, hp, rfl⟩ := thB_of hP c1
      obtain ⟨b, -, hb, rfl⟩ := wiB_of (a := 0) (b := 9) (by omega) (by omega) c2
      have e4 : (4 : Int32) + nI b = nI (4 + b) := nI_add 4 b
      refine ⟨wtS (k p) (f p) (h b) - wtS (k p) (f p) 0, ?_, ?_⟩
      · simp only [if_true]
        rw [gd_t (ix10 (by omega)), nI_cl (by omega), ob_t (X8_weightAt_sp k f (by omega) _), ob_t (X8_weightAt_sp k f (by omega) _)]
      · simp only [if_true]
        rw [e4, gd_t (ix42 (by omega)), nI_cl (by omega), hs.2.2.2.2.1 b (by omega), ob_t (X10_weightAt_sp hs hP hp _), ob_t (X10_weightAt_sp hs hP hp _)]
/-! who stands on a balcony -/
theorem X8_onesOn_sp (r : Nat → Int32) (b : Int32) {P N : Nat} (hP : P ≤ 7) (hN : 8 ≤ N) : f_X8_onesOn N r (nI P) b = some (bS (fun p => decide (r p = b)) P) := by
  rw [f_X8_onesOn]
  refine lup (P := P) (fun n i a => L_X8_onesOn_4 r (nI P) b n i a) (sB (fun p => decide (r p = b))) some ?_ ?_ P 0 N 0 (by omega) (by omega)
  · intro n a
    simp only [L_X8_onesOn_4]
    rw [if_pos (nI_le (Nat.le_refl P) (by omega))]
  · intro n j a hj
    rw [L_X8_onesOn_4, if_neg (nI_nge hj hP), gd_t (ix7 (by omega)), nI_cl (by omega)]
    unfold sB
    by_cases e : r j = b
    · simp [e, nm, bt1]
    · simp [e]
theorem X10_onesOn_sp (hS : Sm h k f r m P shut needed day S) (hP : P ≤ 7) (b : Int32) {N : Nat} (hN : 8 ≤ N) : L_X10_balcony_52 S b N 0 0 = some (bS (fun p => decide (r p = b)) P) := by
  refine lup (P := P) (fun n i a => L_X10_balcony_52 S b n i a) (sB (fun p => decide (r p = b))) some ?_ ?_ P 0 N 0 (by omega) (by omega)
  · intro n a
    simp only [L_X10_balcony_52]
    rw [hS.1, if_pos (nI_le (Nat.le_refl P) (by omega))]
  · intro n j a hj
    rw [L_X10_balcony_52, hS.1, if_neg (nI_nge hj hP), ob_t (of2 j), gd_t (ix42 (by omega)), nI_cl (by omega), (hS.2.2.2.2.2 j hj).2.2.1]
    unfold sB
    by_cases e : r j = b
    · simp [e, nm, bt1]
    · simp [e]
end FACE3
