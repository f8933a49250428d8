/-! THE PURE LAYER: the text of a quarter: the reference reads a statement (by a program: wip/whole/gen67.py) -/
def Nums (z : Nat) (el : Nat → Int32) (p : Nat) (Y : Nat → Int32) : Prop := ((cdS z el p = 97 ∨ cdS z el p = 98 ∨ cdS z el p = 102 ∨ cdS z el p = 115) → Y 0 = nI (cdS z el (p + 1) - 48) ∧ Y 1 = nI (cdS z el (p + 2) - 48)) ∧ (cdS z el p = 115 → Y 2 = nI (cdS z el (p + 3) - 48)) ∧ (cdS z el p = 111 → Y 0 = nI (cdS z el (p + 1) - 48)) ∧ ((cdS z el p = 100 ∨ cdS z el p = 113) → Y 0 = nI (10 * (cdS z el (p + 1) - 48) + (cdS z el (p + 2) - 48)))
section RST
variable {z d0 : Nat} {el EL : Nat → Int32}
theorem rs_sp (hz : z ≤ 100) (hd0 : d0 < 8) (hEL : ∀ i, i < 100 → EL (100 * d0 + i) = el i) {N p : Nat} (hN : 11 ≤ N) (hp : p < 800) (Y : Nat → Int32) : ∃ Y', f_X10_readsStatement N (nI p) (nI (100 * d0)) (nI z) Y EL = some (t01 (stF0 z el p).isNone, nI ((stF0 z el p).getD (nxS z el p)), Y') ∧ (stF0 z el p = none → Nums z el p Y') := by
  have n10 : ¬ (1 : Int32) = 0 := by decide
  rw [f_X10_readsStatement, ob_t (here_sp hz hd0 hEL (show p < 1000 by omega)), nm_k, nI_1]
  by_cases e97 : cdS z el p = 97
  · have es : stF0 z el p = dgF z el 2 (p + 1) := by unfold stF0; rw [e97]; rfl
    have en : nxS z el p = p + 2 + 2 := by unfold nxS; rw [e97]; rfl
    have nu : ∀ Y' : Nat → Int32, Y' 0 = nI (cdS z el (p + 1) - 48) → Y' 1 = nI (cdS z el (p + 1 + 1) - 48) → Nums z el p Y' := by
      intro Y' a b
      unfold Nums
      rw [e97]
      exact ⟨fun _ => ⟨a, b⟩, fun q => absurd q (by decide), fun q => absurd q (by decide), fun q => absurd q (by decide)⟩
    rw [es, en, e97, if_pos (show hI 97 = 97 by decide)]
    cases g1 : dgN (cdS z el (p + 1)) with
    | false =>
      obtain ⟨Y1, e11⟩ := rn1_no hz hd0 hEL hN (show p + 1 < 900 by omega) (kx := 0) (by omega) Y (n := 1) (by omega) g1
      have e11 : f_X10_readsNumber N (nI (p + 1)) (nI (100 * d0)) (nI z) Y EL 0 1 = some (0, nI (p + 1), Y1) := e11
      have hd : dgF z el 2 (p + 1) = some (p + 1) := by  unfold dgF; rw [g1]; rfl
      rw [ob_t e11, hd]
      simp only [if_true]
      rw [nm_k]
      exact ⟨Y1, rfl, fun q => by cases q⟩
    | true =>
      obtain ⟨Y1, e11, v1, o1⟩ := rn1_yes hz hd0 hEL hN (show p + 1 < 900 by omega) (kx := 0) (by omega) Y g1
      have e11 : f_X10_readsNumber N (nI (p + 1)) (nI (100 * d0)) (nI z) Y EL 0 1 = some (1, nI (p + 1 + 1), Y1) := e11
      rw [ob_t e11]
      simp only []
      rw [if_neg n10]
      cases g2 : dgN (cdS z el (p + 1 + 1)) with
      | false =>
        obtain ⟨Y2, e12⟩ := rn1_no hz hd0 hEL hN (show p + 1 + 1 < 900 by omega) (kx := 1) (by omega) Y1 (n := 1) (by omega) g2
        have e12 : f_X10_readsNumber N (nI (p + 1 + 1)) (nI (100 * d0)) (nI z) Y1 EL 1 1 = some (0, nI (p + 1 + 1), Y2) := e12
        have hd : dgF z el 2 (p + 1) = some (p + 1 + 1) := by unfold dgF; rw [g1, if_pos rfl]; unfold dgF; rw [g2]; rfl
        rw [ob_t e12, hd]
        simp only [if_true]
        rw [nm_k]
        exact ⟨Y2, rfl, fun q => by cases q⟩
      | true =>
        obtain ⟨Y2, e12, v2, o2⟩ := rn1_yes hz hd0 hEL hN (show p + 1 + 1 < 900 by omega) (kx := 1) (by omega) Y1 g2
        have e12 : f_X10_readsNumber N (nI (p + 1 + 1)) (nI (100 * d0)) (nI z) Y1 EL 1 1 = some (1, nI (p + 1 + 1 + 1), Y2) := e12
        rw [ob_t e12]
        simp only []
        rw [if_neg n10]
        rw [if_neg n10]
        have hd : dgF z el 2 (p + 1) = if cdS z el (p + 1 + 1 + 1) = 59 then none else some (p + 1 + 1 + 1) := by unfold dgF; rw [g1, if_pos rfl]; unfold dgF; rw [g2, if_pos rfl]; rfl
        rw [hd, ob_t (here_sp hz hd0 hEL (show p + 1 + 1 + 1 < 1000 by omega)), nm_k, nm_k, nm_k, nI_1]
        by_cases g9 : cdS z el (p + 1 + 1 + 1) = 59
        · rw [if_pos ((byte_m _ (cd_lt z el _).1).2.1.mpr g9), if_pos g9]
          exact ⟨Y2, rfl, fun _ => nu Y2 ((o2 0 (by decide)).trans v1) v2⟩
        · rw [if_neg (fun q => g9 ((byte_m _ (cd_lt z el _).1).2.1.mp q)), if_neg g9]
          exact ⟨Y2, rfl, fun q => by cases q⟩
  by_cases e98 : cdS z el p = 98
  · have es : stF0 z el p = dgF z el 2 (p + 1) := by unfold stF0; rw [e98]; rfl
    have en : nxS z el p = p + 2 + 2 := by unfold nxS; rw [e98]; rfl
    have nu : ∀ Y' : Nat → Int32, Y' 0 = nI (cdS z el (p + 1) - 48) → Y' 1 = nI (cdS z el (p + 1 + 1) - 48) → Nums z el p Y' := by
      intro Y' a b
      unfold Nums
      rw [e98]
      exact ⟨fun _ => ⟨a, b⟩, fun q => absurd q (by decide), fun q => absurd q (by decide), fun q => absurd q (by decide)⟩
    rw [es, en, e98, if_neg (show ¬ hI 98 = 97 by decide), if_pos (show hI 98 = 98 by decide)]
    cases g1 : dgN (cdS z el (p + 1)) with
    | false =>
      obtain ⟨Y1, e11⟩ := rn1_no hz hd0 hEL hN (show p + 1 < 900 by omega) (kx := 0) (by omega) Y (n := 1) (by omega) g1
      have e11 : f_X10_readsNumber N (nI (p + 1)) (nI (100 * d0)) (nI z) Y EL 0 1 = some (0, nI (p + 1), Y1) := e11
      have hd : dgF z el 2 (p + 1) = some (p + 1) := by  unfold dgF; rw [g1]; rfl
      rw [ob_t e11, hd]
      simp only [if_true]
      rw [nm_k]
      exact ⟨Y1, rfl, fun q => by cases q⟩
    | true =>
      obtain ⟨Y1, e11, v1, o1⟩ := rn1_yes hz hd0 hEL hN (show p + 1 < 900 by omega) (kx := 0) (by omega) Y g1
      have e11 : f_X10_readsNumber N (nI (p + 1)) (nI (100 * d0)) (nI z) Y EL 0 1 = some (1, nI (p + 1 + 1), Y1) := e11
      rw [ob_t e11]
      simp only []
      rw [if_neg n10]
      cases g2 : dgN (cdS z el (p + 1 + 1)) with
      | false =>
        obtain ⟨Y2, e12⟩ := rn1_no hz hd0 hEL hN (show p + 1 + 1 < 900 by omega) (kx := 1) (by omega) Y1 (n := 1) (by omega) g2
        have e12 : f_X10_readsNumber N (nI (p + 1 + 1)) (nI (100 * d0)) (nI z) Y1 EL 1 1 = some (0, nI (p + 1 + 1), Y2) := e12
        have hd : dgF z el 2 (p + 1) = some (p + 1 + 1) := by unfold dgF; rw [g1, if_pos rfl]; unfold dgF; rw [g2]; rfl
        rw [ob_t e12, hd]
        simp only [if_true]
        rw [nm_k]
        exact ⟨Y2, rfl, fun q => by cases q⟩
      | true =>
        obtain ⟨Y2, e12, v2, o2⟩ := rn1_yes hz hd0 hEL hN (show p + 1 + 1 < 900 by omega) (kx := 1) (by omega) Y1 g2
        have e12 : f_X10_readsNumber N (nI (p + 1 + 1)) (nI (100 * d0)) (nI z) Y1 EL 1 1 = some (1, nI (p + 1 + 1 + 1), Y2) := e12
        rw [ob_t e12]
        simp only []
        rw [if_neg n10]
        rw [if_neg n10]
        have hd : dgF z el 2 (p + 1) = if cdS z el (p + 1 + 1 + 1) = 59 then none else some (p + 1 + 1 + 1) := by unfold dgF; rw [g1, if_pos rfl]; unfold dgF; rw [g2, if_pos rfl]; rfl
        rw [hd, ob_t (here_sp hz hd0 hEL (show p + 1 + 1 + 1 < 1000 by omega)), nm_k, nm_k, nm_k, nI_1]
        by_cases g9 : cdS z el (p + 1 + 1 + 1) = 59
        · rw [if_pos ((byte_m _ (cd_lt z el _).1).2.1.mpr g9), if_pos g9]
          exact ⟨Y2, rfl, fun _ => nu Y2 ((o2 0 (by decide)).trans v1) v2⟩
        · rw [if_neg (fun q => g9 ((byte_m _ (cd_lt z el _).1).2.1.mp q)), if_neg g9]
          exact ⟨Y2, rfl, fun q => by cases q⟩
  by_cases e100 : cdS z el p = 100
  · have es : stF0 z el p = dgF z el 2 (p + 1) := by unfold stF0; rw [e100]; rfl
    have en : nxS z el p = p + 2 + 2 := by unfold nxS; rw [e100]; rfl
    have nu : ∀ Y' : Nat → Int32, Y' 0 = nI (10 * (cdS z el (p + 1) - 48) + (cdS z el (p + 1 + 1) - 48)) → Nums z el p Y' := by
      intro Y' a
      unfold Nums
      rw [e100]
      exact ⟨fun q => absurd q (by decide), fun q => absurd q (by decide), fun q => absurd q (by decide), fun _ => a⟩
    rw [es, en, e100, if_neg (show ¬ hI 100 = 97 by decide), if_neg (show ¬ hI 100 = 98 by decide), if_pos (show hI 100 = 100 by decide)]
    cases g1 : dgN (cdS z el (p + 1)) with
    | false =>
      obtain ⟨Y1, e1⟩ := rn1_no hz hd0 hEL hN (show p + 1 < 900 by omega) (kx := 0) (by omega) Y (n := 2) (by omega) g1
      have e1 : f_X10_readsNumber N (nI (p + 1)) (nI (100 * d0)) (nI z) Y EL 0 2 = some (0, nI (p + 1), Y1) := e1
      have hd : dgF z el 2 (p + 1) = some (p + 1) := by unfold dgF; rw [g1]; rfl
      rw [ob_t e1, hd]
      simp only [if_true]
      rw [nm_k]
      exact ⟨Y1, rfl, fun q => by cases q⟩
    | true =>
      cases g2 : dgN (cdS z el (p + 1 + 1)) with
      | false =>
        obtain ⟨Y1, e1⟩ := (rn2_yes hz hd0 hEL hN (show p + 1 < 900 by omega) (kx := 0) (by omega) Y g1).2 g2
        have e1 : f_X10_readsNumber N (nI (p + 1)) (nI (100 * d0)) (nI z) Y EL 0 2 = some (0, nI (p + 1 + 1), Y1) := e1
        have hd : dgF z el 2 (p + 1) = some (p + 1 + 1) := by unfold dgF; rw [g1, if_pos rfl]; unfold dgF; rw [g2]; rfl
        rw [ob_t e1, hd]
        simp only [if_true]
        rw [nm_k]
        exact ⟨Y1, rfl, fun q => by cases q⟩
      | true =>
        obtain ⟨Y1, e1, v1⟩ := (rn2_yes hz hd0 hEL hN (show p + 1 < 900 by omega) (kx := 0) (by omega) Y g1).1 g2
        have e1 : f_X10_readsNumber N (nI (p + 1)) (nI (100 * d0)) (nI z) Y EL 0 2 = some (1, nI (p + 1 + 1 + 1), Y1) := e1
        have hd : dgF z el 2 (p + 1) = if cdS z el (p + 1 + 1 + 1) = 59 then none else some (p + 1 + 1 + 1) := by unfold dgF; rw [g1, if_pos rfl]; unfold dgF; rw [g2, if_pos rfl]; rfl
        rw [ob_t e1, hd]
        simp only []
        rw [if_neg n10, ob_t (here_sp hz hd0 hEL (show p + 1 + 1 + 1 < 1000 by omega)), nm_k, nm_k, nm_k, nI_1]
        by_cases g3 : cdS z el (p + 1 + 1 + 1) = 59
        · rw [if_pos ((byte_m _ (cd_lt z el _).1).2.1.mpr g3), if_pos g3]
          exact ⟨Y1, rfl, fun _ => nu Y1 v1⟩
        · rw [if_neg (fun q => g3 ((byte_m _ (cd_lt z el _).1).2.1.mp q)), if_neg g3]
          exact ⟨Y1, rfl, fun q => by cases q⟩
  by_cases e102 : cdS z el p = 102
  · have es : stF0 z el p = dgF z el 2 (p + 1) := by unfold stF0; rw [e102]; rfl
    have en : nxS z el p = p + 2 + 2 := by unfold nxS; rw [e102]; rfl
    have nu : ∀ Y' : Nat → Int32, Y' 0 = nI (cdS z el (p + 1) - 48) → Y' 1 = nI (cdS z el (p + 1 + 1) - 48) → Nums z el p Y' := by
      intro Y' a b
      unfold Nums
      rw [e102]
      exact ⟨fun _ => ⟨a, b⟩, fun q => absurd q (by decide), fun q => absurd q (by decide), fun q => absurd q (by decide)⟩
    rw [es, en, e102, if_neg (show ¬ hI 102 = 97 by decide), if_neg (show ¬ hI 102 = 98 by decide), if_neg (show ¬ hI 102 = 100 by decide), if_pos (show hI 102 = 102 by decide)]
    cases g1 : dgN (cdS z el (p + 1)) with
    | false =>
      obtain ⟨Y1, e11⟩ := rn1_no hz hd0 hEL hN (show p + 1 < 900 by omega) (kx := 0) (by omega) Y (n := 1) (by omega) g1
      have e11 : f_X10_readsNumber N (nI (p + 1)) (nI (100 * d0)) (nI z) Y EL 0 1 = some (0, nI (p + 1), Y1) := e11
      have hd : dgF z el 2 (p + 1) = some (p + 1) := by  unfold dgF; rw [g1]; rfl
      rw [ob_t e11, hd]
      simp only [if_true]
      rw [nm_k]
      exact ⟨Y1, rfl, fun q => by cases q⟩
    | true =>
      obtain ⟨Y1, e11, v1, o1⟩ := rn1_yes hz hd0 hEL hN (show p + 1 < 900 by omega) (kx := 0) (by omega) Y g1
      have e11 : f_X10_readsNumber N (nI (p + 1)) (nI (100 * d0)) (nI z) Y EL 0 1 = some (1, nI (p + 1 + 1), Y1) := e11
      rw [ob_t e11]
      simp only []
      rw [if_neg n10]
      cases g2 : dgN (cdS z el (p + 1 + 1)) with
      | false =>
        obtain ⟨Y2, e12⟩ := rn1_no hz hd0 hEL hN (show p + 1 + 1 < 900 by omega) (kx := 1) (by omega) Y1 (n := 1) (by omega) g2
        have e12 : f_X10_readsNumber N (nI (p + 1 + 1)) (nI (100 * d0)) (nI z) Y1 EL 1 1 = some (0, nI (p + 1 + 1), Y2) := e12
        have hd : dgF z el 2 (p + 1) = some (p + 1 + 1) := by unfold dgF; rw [g1, if_pos rfl]; unfold dgF; rw [g2]; rfl
        rw [ob_t e12, hd]
        simp only [if_true]
        rw [nm_k]
        exact ⟨Y2, rfl, fun q => by cases q⟩
      | true =>
        obtain ⟨Y2, e12, v2, o2⟩ := rn1_yes hz hd0 hEL hN (show p + 1 + 1 < 900 by omega) (kx := 1) (by omega) Y1 g2
        have e12 : f_X10_readsNumber N (nI (p + 1 + 1)) (nI (100 * d0)) (nI z) Y1 EL 1 1 = some (1, nI (p + 1 + 1 + 1), Y2) := e12
        rw [ob_t e12]
        simp only []
        rw [if_neg n10]
        rw [if_neg n10]
        have hd : dgF z el 2 (p + 1) = if cdS z el (p + 1 + 1 + 1) = 59 then none else some (p + 1 + 1 + 1) := by unfold dgF; rw [g1, if_pos rfl]; unfold dgF; rw [g2, if_pos rfl]; rfl
        rw [hd, ob_t (here_sp hz hd0 hEL (show p + 1 + 1 + 1 < 1000 by omega)), nm_k, nm_k, nm_k, nI_1]
        by_cases g9 : cdS z el (p + 1 + 1 + 1) = 59
        · rw [if_pos ((byte_m _ (cd_lt z el _).1).2.1.mpr g9), if_pos g9]
          exact ⟨Y2, rfl, fun _ => nu Y2 ((o2 0 (by decide)).trans v1) v2⟩
        · rw [if_neg (fun q => g9 ((byte_m _ (cd_lt z el _).1).2.1.mp q)), if_neg g9]
          exact ⟨Y2, rfl, fun q => by cases q⟩
  by_cases e111 : cdS z el p = 111
  · have es : stF0 z el p = dgF z el 1 (p + 1) := by unfold stF0; rw [e111]; rfl
    have en : nxS z el p = p + 1 + 2 := by unfold nxS; rw [e111]; rfl
    have nu : ∀ Y' : Nat → Int32, Y' 0 = nI (cdS z el (p + 1) - 48) → Nums z el p Y' := by
      intro Y' a
      unfold Nums
      rw [e111]
      exact ⟨fun q => absurd q (by decide), fun q => absurd q (by decide), fun _ => a, fun q => absurd q (by decide)⟩
    rw [es, en, e111, if_neg (show ¬ hI 111 = 97 by decide), if_neg (show ¬ hI 111 = 98 by decide), if_neg (show ¬ hI 111 = 100 by decide), if_neg (show ¬ hI 111 = 102 by decide), if_pos (show hI 111 = 111 by decide)]
    cases g1 : dgN (cdS z el (p + 1)) with
    | false =>
      obtain ⟨Y1, e11⟩ := rn1_no hz hd0 hEL hN (show p + 1 < 900 by omega) (kx := 0) (by omega) Y (n := 1) (by omega) g1
      have e11 : f_X10_readsNumber N (nI (p + 1)) (nI (100 * d0)) (nI z) Y EL 0 1 = some (0, nI (p + 1), Y1) := e11
      have hd : dgF z el 1 (p + 1) = some (p + 1) := by  unfold dgF; rw [g1]; rfl
      rw [ob_t e11, hd]
      simp only [if_true]
      rw [nm_k]
      exact ⟨Y1, rfl, fun q => by cases q⟩
    | true =>
      obtain ⟨Y1, e11, v1, o1⟩ := rn1_yes hz hd0 hEL hN (show p + 1 < 900 by omega) (kx := 0) (by omega) Y g1
      have e11 : f_X10_readsNumber N (nI (p + 1)) (nI (100 * d0)) (nI z) Y EL 0 1 = some (1, nI (p + 1 + 1), Y1) := e11
      rw [ob_t e11]
      simp only []
      rw [if_neg n10]
      have hd : dgF z el 1 (p + 1) = if cdS z el (p + 1 + 1) = 59 then none else some (p + 1 + 1) := by unfold dgF; rw [g1, if_pos rfl]; rfl
      rw [hd, ob_t (here_sp hz hd0 hEL (show p + 1 + 1 < 1000 by omega)), nm_k, nm_k, nm_k, nI_1]
      by_cases g9 : cdS z el (p + 1 + 1) = 59
      · rw [if_pos ((byte_m _ (cd_lt z el _).1).2.1.mpr g9), if_pos g9]
        exact ⟨Y1, rfl, fun _ => nu Y1 v1⟩
      · rw [if_neg (fun q => g9 ((byte_m _ (cd_lt z el _).1).2.1.mp q)), if_neg g9]
        exact ⟨Y1, rfl, fun q => by cases q⟩
  by_cases e113 : cdS z el p = 113
  · have es : stF0 z el p = dgF z el 2 (p + 1) := by unfold stF0; rw [e113]; rfl
    have en : nxS z el p = p + 2 + 2 := by unfold nxS; rw [e113]; rfl
    have nu : ∀ Y' : Nat → Int32, Y' 0 = nI (10 * (cdS z el (p + 1) - 48) + (cdS z el (p + 1 + 1) - 48)) → Nums z el p Y' := by
      intro Y' a
      unfold Nums
      rw [e113]
      exact ⟨fun q => absurd q (by decide), fun q => absurd q (by decide), fun q => absurd q (by decide), fun _ => a⟩
    rw [es, en, e113, if_neg (show ¬ hI 113 = 97 by decide), if_neg (show ¬ hI 113 = 98 by decide), if_neg (show ¬ hI 113 = 100 by decide), if_neg (show ¬ hI 113 = 102 by decide), if_neg (show ¬ hI 113 = 111 by decide), if_pos (show hI 113 = 113 by decide)]
    cases g1 : dgN (cdS z el (p + 1)) with
    | false =>
      obtain ⟨Y1, e1⟩ := rn1_no hz hd0 hEL hN (show p + 1 < 900 by omega) (kx := 0) (by omega) Y (n := 2) (by omega) g1
      have e1 : f_X10_readsNumber N (nI (p + 1)) (nI (100 * d0)) (nI z) Y EL 0 2 = some (0, nI (p + 1), Y1) := e1
      have hd : dgF z el 2 (p + 1) = some (p + 1) := by unfold dgF; rw [g1]; rfl
      rw [ob_t e1, hd]
      simp only [if_true]
      rw [nm_k]
      exact ⟨Y1, rfl, fun q => by cases q⟩
    | true =>
      cases g2 : dgN (cdS z el (p + 1 + 1)) with
      | false =>
        obtain ⟨Y1, e1⟩ := (rn2_yes hz hd0 hEL hN (show p + 1 < 900 by omega) (kx := 0) (by omega) Y g1).2 g2
        have e1 : f_X10_readsNumber N (nI (p + 1)) (nI (100 * d0)) (nI z) Y EL 0 2 = some (0, nI (p + 1 + 1), Y1) := e1
        have hd : dgF z el 2 (p + 1) = some (p + 1 + 1) := by unfold dgF; rw [g1, if_pos rfl]; unfold dgF; rw [g2]; rfl
        rw [ob_t e1, hd]
        simp only [if_true]
        rw [nm_k]
        exact ⟨Y1, rfl, fun q => by cases q⟩
      | true =>
        obtain ⟨Y1, e1, v1⟩ := (rn2_yes hz hd0 hEL hN (show p + 1 < 900 by omega) (kx := 0) (by omega) Y g1).1 g2
        have e1 : f_X10_readsNumber N (nI (p + 1)) (nI (100 * d0)) (nI z) Y EL 0 2 = some (1, nI (p + 1 + 1 + 1), Y1) := e1
        have hd : dgF z el 2 (p + 1) = if cdS z el (p + 1 + 1 + 1) = 59 then none else some (p + 1 + 1 + 1) := by unfold dgF; rw [g1, if_pos rfl]; unfold dgF; rw [g2, if_pos rfl]; rfl
        rw [ob_t e1, hd]
        simp only []
        rw [if_neg n10, ob_t (here_sp hz hd0 hEL (show p + 1 + 1 + 1 < 1000 by omega)), nm_k, nm_k, nm_k, nI_1]
        by_cases g3 : cdS z el (p + 1 + 1 + 1) = 59
        · rw [if_pos ((byte_m _ (cd_lt z el _).1).2.1.mpr g3), if_pos g3]
          exact ⟨Y1, rfl, fun _ => nu Y1 v1⟩
        · rw [if_neg (fun q => g3 ((byte_m _ (cd_lt z el _).1).2.1.mp q)), if_neg g3]
          exact ⟨Y1, rfl, fun q => by cases q⟩
  by_cases e115 : cdS z el p = 115
  · have es : stF0 z el p = dgF z el 3 (p + 1) := by unfold stF0; rw [e115]; rfl
    have en : nxS z el p = p + 3 + 2 := by unfold nxS; rw [e115]; rfl
    have nu : ∀ Y' : Nat → Int32, Y' 0 = nI (cdS z el (p + 1) - 48) → Y' 1 = nI (cdS z el (p + 1 + 1) - 48) → Y' 2 = nI (cdS z el (p + 1 + 1 + 1) - 48) → Nums z el p Y' := by
      intro Y' a b c
      unfold Nums
      rw [e115]
      exact ⟨fun _ => ⟨a, b⟩, fun _ => c, fun q => absurd q (by decide), fun q => absurd q (by decide)⟩
    rw [es, en, e115, if_neg (show ¬ hI 115 = 97 by decide), if_neg (show ¬ hI 115 = 98 by decide), if_neg (show ¬ hI 115 = 100 by decide), if_neg (show ¬ hI 115 = 102 by decide), if_neg (show ¬ hI 115 = 111 by decide), if_neg (show ¬ hI 115 = 113 by decide), if_pos (show hI 115 = 115 by decide)]
    cases g1 : dgN (cdS z el (p + 1)) with
    | false =>
      obtain ⟨Y1, e11⟩ := rn1_no hz hd0 hEL hN (show p + 1 < 900 by omega) (kx := 0) (by omega) Y (n := 1) (by omega) g1
      have e11 : f_X10_readsNumber N (nI (p + 1)) (nI (100 * d0)) (nI z) Y EL 0 1 = some (0, nI (p + 1), Y1) := e11
      have hd : dgF z el 3 (p + 1) = some (p + 1) := by  unfold dgF; rw [g1]; rfl
      rw [ob_t e11, hd]
      simp only [if_true]
      rw [nm_k]
      exact ⟨Y1, rfl, fun q => by cases q⟩
    | true =>
      obtain ⟨Y1, e11, v1, o1⟩ := rn1_yes hz hd0 hEL hN (show p + 1 < 900 by omega) (kx := 0) (by omega) Y g1
      have e11 : f_X10_readsNumber N (nI (p + 1)) (nI (100 * d0)) (nI z) Y EL 0 1 = some (1, nI (p + 1 + 1), Y1) := e11
      rw [ob_t e11]
      simp only []
      rw [if_neg n10]
      cases g2 : dgN (cdS z el (p + 1 + 1)) with
      | false =>
        obtain ⟨Y2, e12⟩ := rn1_no hz hd0 hEL hN (show p + 1 + 1 < 900 by omega) (kx := 1) (by omega) Y1 (n := 1) (by omega) g2
        have e12 : f_X10_readsNumber N (nI (p + 1 + 1)) (nI (100 * d0)) (nI z) Y1 EL 1 1 = some (0, nI (p + 1 + 1), Y2) := e12
        have hd : dgF z el 3 (p + 1) = some (p + 1 + 1) := by unfold dgF; rw [g1, if_pos rfl]; unfold dgF; rw [g2]; rfl
        rw [ob_t e12, hd]
        simp only [if_true]
        rw [nm_k]
        exact ⟨Y2, rfl, fun q => by cases q⟩
      | true =>
        obtain ⟨Y2, e12, v2, o2⟩ := rn1_yes hz hd0 hEL hN (show p + 1 + 1 < 900 by omega) (kx := 1) (by omega) Y1 g2
        have e12 : f_X10_readsNumber N (nI (p + 1 + 1)) (nI (100 * d0)) (nI z) Y1 EL 1 1 = some (1, nI (p + 1 + 1 + 1), Y2) := e12
        rw [ob_t e12]
        simp only []
        rw [if_neg n10]
        cases g3 : dgN (cdS z el (p + 1 + 1 + 1)) with
        | false =>
          obtain ⟨Y3, e13⟩ := rn1_no hz hd0 hEL hN (show p + 1 + 1 + 1 < 900 by omega) (kx := 2) (by omega) Y2 (n := 1) (by omega) g3
          have e13 : f_X10_readsNumber N (nI (p + 1 + 1 + 1)) (nI (100 * d0)) (nI z) Y2 EL 2 1 = some (0, nI (p + 1 + 1 + 1), Y3) := e13
          have hd : dgF z el 3 (p + 1) = some (p + 1 + 1 + 1) := by unfold dgF; rw [g1, if_pos rfl]; unfold dgF; rw [g2, if_pos rfl]; unfold dgF; rw [g3]; rfl
          rw [ob_t e13, hd]
          simp only [if_true]
          rw [nm_k]
          exact ⟨Y3, rfl, fun q => by cases q⟩
        | true =>
          obtain ⟨Y3, e13, v3, o3⟩ := rn1_yes hz hd0 hEL hN (show p + 1 + 1 + 1 < 900 by omega) (kx := 2) (by omega) Y2 g3
          have e13 : f_X10_readsNumber N (nI (p + 1 + 1 + 1)) (nI (100 * d0)) (nI z) Y2 EL 2 1 = some (1, nI (p + 1 + 1 + 1 + 1), Y3) := e13
          rw [ob_t e13]
          simp only []
          rw [if_neg n10]
          rw [if_neg n10]
          have hd : dgF z el 3 (p + 1) = if cdS z el (p + 1 + 1 + 1 + 1) = 59 then none else some (p + 1 + 1 + 1 + 1) := by unfold dgF; rw [g1, if_pos rfl]; unfold dgF; rw [g2, if_pos rfl]; unfold dgF; rw [g3, if_pos rfl]; rfl
          rw [hd, ob_t (here_sp hz hd0 hEL (show p + 1 + 1 + 1 + 1 < 1000 by omega)), nm_k, nm_k, nm_k, nI_1]
          by_cases g9 : cdS z el (p + 1 + 1 + 1 + 1) = 59
          · rw [if_pos ((byte_m _ (cd_lt z el _).1).2.1.mpr g9), if_pos g9]
            exact ⟨Y3, rfl, fun _ => nu Y3 ((o3 0 (by decide)).trans ((o2 0 (by decide)).trans v1)) ((o3 1 (by decide)).trans v2) v3⟩
          · rw [if_neg (fun q => g9 ((byte_m _ (cd_lt z el _).1).2.1.mp q)), if_neg g9]
            exact ⟨Y3, rfl, fun q => by cases q⟩
  have hne : ∀ n, n < 256 → ¬ cdS z el p = n → ¬ hI (cdS z el p) = nI n := by
    intro n hn hc q
    have hl := (cd_lt z el p).1
    unfold hI at q
    by_cases c : cdS z el p = 256
    · rw [if_pos c] at q
      have := congrArg Int32.toInt q
      rw [nI_toInt (by omega), show (-1 : Int32).toInt = -1 by decide] at this
      omega
    · rw [if_neg c] at q
      exact hc ((nI_eq (by omega) (by omega)).mp q)
  have ed : dB (cdS z el p) = 0 := by unfold dB; rw [if_neg e97, if_neg e98, if_neg e100, if_neg e102, if_neg e111, if_neg e113, if_neg e115]
  have es : stF0 z el p = some p := by unfold stF0; rw [if_pos ed]
  rw [es, if_neg (show ¬ hI (cdS z el p) = 97 from hne 97 (by omega) e97), if_neg (show ¬ hI (cdS z el p) = 98 from hne 98 (by omega) e98), if_neg (show ¬ hI (cdS z el p) = 100 from hne 100 (by omega) e100), if_neg (show ¬ hI (cdS z el p) = 102 from hne 102 (by omega) e102), if_neg (show ¬ hI (cdS z el p) = 111 from hne 111 (by omega) e111), if_neg (show ¬ hI (cdS z el p) = 113 from hne 113 (by omega) e113), if_neg (show ¬ hI (cdS z el p) = 115 from hne 115 (by omega) e115), nm_k, nm_k, nI_pred]
  exact ⟨Y, rfl, fun q => by cases q⟩
end RST
