/-! toss and element agree -/
theorem toss_eq (k f : Int32) : tossV k f = (if k = 2 then some (-15 : Int32) else if k = 5 then some (-15 : Int32) else if f = 0 then some (-15 : Int32) else if k = 6 then ob (f_X10_costBy k f) (fun r11 => some ((200 : Int32) + r11)) else if k = 1 then some ((100 : Int32) + f) else some f) := by
  unfold tossV
  by_cases h2 : k = 2
  · rw [if_pos h2, if_pos (failE2 h2)]
  rw [if_neg h2]
  by_cases h5 : k = 5
  · rw [if_pos h5, if_pos (failE5 h5)]
  rw [if_neg h5]
  by_cases h0 : f = 0
  · rw [if_pos h0, if_pos (failE0 h0)]
  rw [if_neg h0]
  by_cases h6 : k = 6
  · rw [if_pos h6, failE6 h0 h2 h5 h6, if_neg (by decide), if_pos rfl, price_eq]
  rw [if_neg h6]
  by_cases h1 : k = 1
  · rw [if_pos h1, failE1 h0 h2 h5 h6 h1, if_neg (by decide), if_neg (by decide), if_pos rfl]
  rw [if_neg h1, failE3 h0 h2 h5 h6 h1, if_neg (by decide), if_neg (by decide), if_neg (by decide)]
theorem tossV_some (k f : Int32) : ∃ r, tossV k f = some r := by
  rw [toss_eq, ob_t (cost_sp _ _)]
  simp only [some_if]
  exact ⟨_, rfl⟩
theorem ag_toss {el : Nat → Int32} {ho ki fi so si : Int32} {K KK KF SO SI EL : Nat → Int32} (p1 : Int32) (hq : ShP p1 el ho ki fi so si K KK KF SO SI EL) : ∃ res : Int32, f_X9_toss ho ki fi p1 = some res ∧ f_X10_toss K KK KF p1 = some res := by
  rw [f_X9_toss, f_X10_toss]
  cases c : wiB p1 0 7 with
  | false => rw [ob_t (refusal_no c _ _), ob_t (wrongKept_no c _)]; exact ⟨-1, rfl, rfl⟩
  | true =>
    obtain ⟨d, hd, rfl⟩ := shelf_of c
    obtain ⟨a1, a2, a3, a4, a5, a6, a7, a8, a9⟩ := hq d hd rfl
    rw [ob_t (refusal_sp hd _ _), ob_t (wrongKept_sp hd K (by rw [a1]; exact a6)), a1]
    by_cases z : rf ho 1 = 0
    · obtain ⟨b1, b2, -, -⟩ := a7 (rf0 z)
      rw [if_pos z, if_pos z, gd_t (ix8 hd), gd_t (ix8 hd), gd_t (ix8 hd), nI_cl (by omega), b1, b2, ← toss_eq]
      obtain ⟨r, hr⟩ := tossV_some ki fi
      exact ⟨r, hr, hr⟩
    · rw [if_neg z, if_neg z]
      exact ⟨_, rfl, rfl⟩
theorem ag_element {el : Nat → Int32} {ho ki fi so si : Int32} {K KK KF SO SI EL : Nat → Int32} (p1 p2 : Int32) (hq : ShP p1 el ho ki fi so si K KK KF SO SI EL) : ∃ (F : Option String) (z z' : Int64), f_X9_element el ho si p1 p2 = some (F, z) ∧ f_X10_element K SI EL p1 p2 = some (z', elA F) ∧ (F = none → z' = z) := by
  rw [f_X9_element, f_X10_element]
  rw [ob_t (isShelf_sp _), ob_t (isShelfM_sp _), t01_if, t01_if]
  cases c : wiB p1 0 7 with
  | false => exact ⟨some xIAE, 0, 0, rfl, by rw [if_neg (by decide), if_neg (by decide), nm_k]; rfl, fun h => by cases h⟩
  | true =>
    obtain ⟨d, hd, rfl⟩ := shelf_of c
    obtain ⟨a1, a2, a3, ⟨z, hz, rfl⟩, a5, a6, a7, a8, a9⟩ := hq d hd rfl
    simp only [if_true]
    simp only [gd_t (ix8 hd)]
    rw [nI_cl (by omega), a1, a3]
    by_cases y : ho = 2
    · rw [if_pos y, if_pos y, ob_t (hasPlace_sp _ _), ob_t (isInM_sp _ _ _), hpB_wi hz, t01_if, t01_if]
      cases c2 : hpB z p2 with
      | false => exact ⟨some xISE, 0, 0, rfl, by rw [if_neg (by decide), if_neg (by decide), nm_k]; rfl, fun h => by cases h⟩
      | true =>
        obtain ⟨i, hi, rfl⟩ := hpB_of hz c2
        simp only [if_true]
        rw [ob_t (at_sp el hz hi), e100, gd_t (ix800 (by omega)), nI_cl (by omega), a8 i (by omega), nm_k, nm_k]
        exact ⟨none, _, _, rfl, rfl, fun _ => rfl⟩
    · rw [if_neg y, if_neg y, if_neg (by decide), nm_k]
      exact ⟨some xISE, 0, 0, rfl, rfl, fun h => by cases h⟩
