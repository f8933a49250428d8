theorem sU_at {α : Type} (f : Nat → α) (j : Nat) (v : α) : sU f j v j = v := if_pos rfl
theorem sU_ne {α : Type} (f : Nat → α) {j d : Nat} (v : α) (h : d ≠ j) : sU f j v d = f d := if_neg h
section SHW
variable {σ : Nat → Nat} {el : Nat → Nat → Int32} {ho ki fi so si : Nat → Int32} {K KK KF SO SI EL : Nat → Int32}
theorem shp_at {j : Nat} (hj : j < 8) {v : Int32} (hv : (v = nI (σ j) ∧ σ j < 8) ∨ wiB v 0 7 = false) (hq : ∀ d, d < 8 → Shl (σ d) (el d) (ho d) (ki d) (fi d) (so d) (si d) K KK KF SO SI EL) : ShP v (el j) (ho j) (ki j) (fi j) (so j) (si j) K KK KF SO SI EL := by
  intro d hd e
  rcases hv with ⟨h, h8⟩ | h
  · have e9 : σ j = d := (nI_eq (by omega) (by omega)).mp (h.symm.trans e)
    rw [← e9]
    exact hq j hj
  · rw [e, wi07 hd] at h
    cases h
theorem hsh_at {qa : Nat → Nat} {sh : Nat → Option Nat} {j : Nat} {v : Int32} (hv : (v = nI (σ j) ∧ σ j < 8) ∨ wiB v 0 7 = false) (hs0 : sh (σ j) = some (qa j)) : ix v 8 = true → sh v.toNatClampNeg = some (qa j) := by
  intro h9
  rcases hv with ⟨h, h8⟩ | h
  · rw [h, nI_cl (by omega)]
    exact hs0
  · rw [ix_wi h9] at h
    cases h
theorem agS_keep (p1 p2 p3 p4 : Int32) (hv : (p1 = nI (σ 0) ∧ σ 0 < 8) ∨ wiB p1 0 7 = false) (hq : ∀ d, d < 8 → Shl (σ d) (el d) (ho d) (ki d) (fi d) (so d) (si d) K KK KF SO SI EL) (hinj : ∀ j, 0 < j → j < 8 → σ j ≠ σ 0 ∧ σ j < 8) :
    ∃ (res a1 a2 a3 : Int32) (K1 KK1 KF1 : Nat → Int32), f_X9_keep (ho 0) (ki 0) (fi 0) p1 p2 p3 p4 = some (res, a1, a2, a3) ∧ f_X10_keep K KK KF p1 p2 p3 p4 = some (res, K1, KK1, KF1) ∧ (∀ d, d < 8 → Shl (σ d) (el d) (sU ho 0 a1 d) (sU ki 0 a2 d) (sU fi 0 a3 d) (so d) (si d) K1 KK1 KF1 SO SI EL) := by
  rcases hv with ⟨h, h8⟩ | h
  · obtain ⟨res, a1, a2, a3, K1, KK1, KF1, e1, e2, hs, hu⟩ := ag_keep p1 p2 p3 p4 (shp_of (Or.inl ⟨h, h8⟩) hq)
    refine ⟨res, a1, a2, a3, K1, KK1, KF1, e1, e2, fun d hd => ?_⟩
    by_cases e : d = 0
    · subst e
      rw [sU_at, sU_at, sU_at]
      exact hs (σ 0) h8 h
    · obtain ⟨i1, i2⟩ := hinj d (by omega) hd
      obtain ⟨u1, u2, u3⟩ := hu (σ d) i2 (fun z => i1 ((nI_eq (by omega) (by omega)).mp (h.symm.trans z)).symm)
      rw [sU_ne _ _ e, sU_ne _ _ e, sU_ne _ _ e]
      exact (hq d hd).keep u1 u2 u3 rfl rfl (fun _ _ => rfl)
  · refine ⟨-1, ho 0, ki 0, fi 0, K, KK, KF, ?_, ?_, fun d hd => ?_⟩
    · rw [f_X9_keep, ob_t (isShelf_sp _), t01_if, ob_t (isWithin_sp _ _ _), h]
      rfl
    · rw [f_X10_keep, ob_t (isShelfM_sp _), t01_if, ob_t (isInM_sp _ _ _), h]
      rfl
    · by_cases e : d = 0
      · subst e
        rw [sU_at, sU_at, sU_at]
        exact hq 0 hd
      · rw [sU_ne _ _ e, sU_ne _ _ e, sU_ne _ _ e]
        exact hq d hd
theorem agS_row (p1 p2 p3 : Int32) (hv : (p1 = nI (σ 0) ∧ σ 0 < 8) ∨ wiB p1 0 7 = false) (hq : ∀ d, d < 8 → Shl (σ d) (el d) (ho d) (ki d) (fi d) (so d) (si d) K KK KF SO SI EL) (hinj : ∀ j, 0 < j → j < 8 → σ j ≠ σ 0 ∧ σ j < 8) {N : Nat} (hN : 1001 ≤ N) :
    ∃ (res a1 a2 a3 : Int32) (a4 K1 SO1 SI1 EL1 : Nat → Int32), f_X9_row N (el 0) (ho 0) (so 0) (si 0) p1 p2 p3 = some (res, a1, a2, a3, a4) ∧ f_X10_row N K SO SI EL p1 p2 p3 = some (res, K1, SO1, SI1, EL1) ∧ (∀ d, d < 8 → Shl (σ d) (sU el 0 a4 d) (sU ho 0 a1 d) (ki d) (fi d) (sU so 0 a2 d) (sU si 0 a3 d) K1 KK KF SO1 SI1 EL1) := by
  rcases hv with ⟨h, h8⟩ | h
  · obtain ⟨res, a1, a2, a3, a4, K1, SO1, SI1, EL1, e1, e2, hs, hu⟩ := ag_row p1 p2 p3 (shp_of (Or.inl ⟨h, h8⟩) hq) hN
    refine ⟨res, a1, a2, a3, a4, K1, SO1, SI1, EL1, e1, e2, fun d hd => ?_⟩
    by_cases e : d = 0
    · subst e
      rw [sU_at, sU_at, sU_at, sU_at]
      exact hs (σ 0) h8 h
    · obtain ⟨i1, i2⟩ := hinj d (by omega) hd
      obtain ⟨u1, u2, u3, u4⟩ := hu (σ d) i2 (fun z => i1 ((nI_eq (by omega) (by omega)).mp (h.symm.trans z)).symm)
      rw [sU_ne _ _ e, sU_ne _ _ e, sU_ne _ _ e, sU_ne _ _ e]
      exact (hq d hd).keep u1 rfl rfl u2 u3 u4
  · refine ⟨-1, ho 0, so 0, si 0, el 0, K, SO, SI, EL, ?_, ?_, fun d hd => ?_⟩
    · rw [f_X9_row, ob_t (isShelf_sp _), t01_if, ob_t (isWithin_sp _ _ _), h]
      rfl
    · rw [f_X10_row, ob_t (isShelfM_sp _), t01_if, ob_t (isInM_sp _ _ _), h]
      rfl
    · by_cases e : d = 0
      · subst e
        rw [sU_at, sU_at, sU_at, sU_at]
        exact hq 0 hd
      · rw [sU_ne _ _ e, sU_ne _ _ e, sU_ne _ _ e, sU_ne _ _ e]
        exact hq d hd
theorem agS_put (p1 p2 p3 : Int32) (hv : (p1 = nI (σ 0) ∧ σ 0 < 8) ∨ wiB p1 0 7 = false) (hq : ∀ d, d < 8 → Shl (σ d) (el d) (ho d) (ki d) (fi d) (so d) (si d) K KK KF SO SI EL) (hinj : ∀ j, 0 < j → j < 8 → σ j ≠ σ 0 ∧ σ j < 8) :
    ∃ (res : Int32) (a1 EL1 : Nat → Int32), f_X9_put (el 0) (ho 0) (so 0) (si 0) p1 p2 p3 = some (res, a1) ∧ f_X10_put K SO SI EL p1 p2 p3 = some (res, EL1) ∧ (∀ d, d < 8 → Shl (σ d) (sU el 0 a1 d) (ho d) (ki d) (fi d) (so d) (si d) K KK KF SO SI EL1) := by
  rcases hv with ⟨h, h8⟩ | h
  · obtain ⟨res, a1, EL1, e1, e2, hs, hu⟩ := ag_put p1 p2 p3 (shp_of (Or.inl ⟨h, h8⟩) hq)
    refine ⟨res, a1, EL1, e1, e2, fun d hd => ?_⟩
    by_cases e : d = 0
    · subst e
      rw [sU_at]
      exact hs (σ 0) h8 h
    · obtain ⟨i1, i2⟩ := hinj d (by omega) hd
      have u4 := hu (σ d) i2 (fun z => i1 ((nI_eq (by omega) (by omega)).mp (h.symm.trans z)).symm)
      rw [sU_ne _ _ e]
      exact (hq d hd).keep rfl rfl rfl rfl rfl u4
  · refine ⟨-1, el 0, EL, ?_, ?_, fun d hd => ?_⟩
    · rw [f_X9_put, ob_t (refusal_no h _ _)]
      rfl
    · rw [f_X10_put, ob_t (wrongRow_no h _ _ _)]
      rfl
    · by_cases e : d = 0
      · subst e
        rw [sU_at]
        exact hq 0 hd
      · rw [sU_ne _ _ e]
        exact hq d hd
theorem agS_copy (p1 p2 p3 p4 p5 : Int32) (hv : (p1 = nI (σ 0) ∧ σ 0 < 8) ∨ wiB p1 0 7 = false) (hv3 : (p3 = nI (σ 1) ∧ σ 1 < 8) ∨ wiB p3 0 7 = false) (hq : ∀ d, d < 8 → Shl (σ d) (el d) (ho d) (ki d) (fi d) (so d) (si d) K KK KF SO SI EL) (hinj : ∀ j, j ≠ 1 → j < 8 → σ j ≠ σ 1 ∧ σ j < 8) {N : Nat} (hN : 1001 ≤ N) :
    ∃ (res : Int32) (a1 EL1 : Nat → Int32), f_X9_copy (el 0) (ho 0) (so 0) (si 0) (el 1) (ho 1) (so 1) (si 1) p1 p2 p3 p4 p5 = some (res, a1) ∧ f_X10_copy N K SO SI EL p1 p2 p3 p4 p5 = some (res, EL1) ∧ (∀ d, d < 8 → Shl (σ d) (sU el 1 a1 d) (ho d) (ki d) (fi d) (so d) (si d) K KK KF SO SI EL1) := by
  have no : wiB p1 0 7 = false ∨ wiB p3 0 7 = false → ∃ (res : Int32) (a1 EL1 : Nat → Int32), f_X9_copy (el 0) (ho 0) (so 0) (si 0) (el 1) (ho 1) (so 1) (si 1) p1 p2 p3 p4 p5 = some (res, a1) ∧ f_X10_copy N K SO SI EL p1 p2 p3 p4 p5 = some (res, EL1) ∧ (∀ d, d < 8 → Shl (σ d) (sU el 1 a1 d) (ho d) (ki d) (fi d) (so d) (si d) K KK KF SO SI EL1) := by
    intro hz
    refine ⟨-1, el 1, EL, ?_, ?_, fun d hd => ?_⟩
    · rw [f_X9_copy, ob_t (isShelf_sp _), ob_t (isShelf_sp _), t01_if, t01_if]
      rcases hz with z | z <;> rw [z]
      · rfl
      · cases wiB p1 0 7 <;> rfl
    · rw [f_X10_copy, ob_t (isShelfM_sp _), ob_t (isShelfM_sp _), t01_if, t01_if]
      rcases hz with z | z <;> rw [z]
      · rfl
      · cases wiB p1 0 7 <;> rfl
    · by_cases e : d = 1
      · subst e
        rw [sU_at]
        exact hq 1 hd
      · rw [sU_ne _ _ e]
        exact hq d hd
  rcases hv3 with ⟨h, h8⟩ | h
  · obtain ⟨res, a1, EL1, e1, e2, hs, hu⟩ := ag_copy p1 p2 p3 p4 p5 (shp_of hv hq) (shp_at (j := 1) (by decide) (Or.inl ⟨h, h8⟩) hq) hN
    refine ⟨res, a1, EL1, e1, e2, fun d hd => ?_⟩
    by_cases e : d = 1
    · subst e
      rw [sU_at]
      exact hs (σ 1) h8 h
    · obtain ⟨i1, i2⟩ := hinj d e hd
      have u4 := hu (σ d) i2 (fun z => i1 ((nI_eq (by omega) (by omega)).mp (h.symm.trans z)).symm)
      rw [sU_ne _ _ e]
      exact (hq d hd).keep rfl rfl rfl rfl rfl u4
  · exact no (Or.inr h)
theorem agS_copy_s (p1 p2 p3 p4 p5 : Int32) (hv : (p1 = nI (σ 0) ∧ σ 0 < 8) ∨ wiB p1 0 7 = false) (hv3 : p3 = nI (σ 0) ∧ σ 0 < 8) (hq : ∀ d, d < 8 → Shl (σ d) (el d) (ho d) (ki d) (fi d) (so d) (si d) K KK KF SO SI EL) (hinj : ∀ j, 0 < j → j < 8 → σ j ≠ σ 0 ∧ σ j < 8) {N : Nat} (hN : 1001 ≤ N) :
    ∃ (res : Int32) (a1 EL1 : Nat → Int32), f_X9_copy_s (el 0) (ho 0) (so 0) (si 0) p1 p2 p3 p4 p5 = some (res, a1) ∧ f_X10_copy N K SO SI EL p1 p2 p3 p4 p5 = some (res, EL1) ∧ (∀ d, d < 8 → Shl (σ d) (sU el 0 a1 d) (ho d) (ki d) (fi d) (so d) (si d) K KK KF SO SI EL1) := by
  obtain ⟨res, a1, EL1, e1, e2, hs, hu⟩ := ag_copy p1 p2 p3 p4 p5 (shp_of hv hq) (shp_of (Or.inl hv3) hq) hN
  refine ⟨res, a1, EL1, by rw [copy_s_eq]; exact e1, e2, fun d hd => ?_⟩
  by_cases e : d = 0
  · subst e
    rw [sU_at]
    exact hs (σ 0) hv3.2 hv3.1
  · obtain ⟨i1, i2⟩ := hinj d (by omega) hd
    have u4 := hu (σ d) i2 (fun z => i1 ((nI_eq (by omega) (by omega)).mp (hv3.1.symm.trans z)).symm)
    rw [sU_ne _ _ e]
    exact (hq d hd).keep rfl rfl rfl rfl rfl u4
end SHW
