/-! THE PURE LAYER: match, the tables and the answers -/
theorem X5_down_lp (V : Nat → Nat → Int32) {w : Nat → Nat → Nat} {P N : Nat} (hP : P ≤ 7) (hw : ∀ p b, p < P → b < 10 → w p b ≤ 23 ∧ V p b = nI (w p b)) (hN : 1001 ≤ N) : ∀ (t q : Nat) (Y : Nat → Int32), t ≤ 1024 → t < q → (∀ T', T' < 1024 → t ≤ T' → Y T' = nI (RV w P (P - pcN T') T')) → ∃ Y', L_X5_weigh_65 N (nI P) V q (nI t - 1) Y = some (nI P, Y', V) ∧ ∀ T', T' < 1024 → Y' T' = nI (RV w P (P - pcN T') T')
  | 0, 0, _, _, z, _ => absurd z (by omega)
  | 0, q + 1, Y, _, _, hY => by
    refine ⟨Y, ?_, fun T' hT => hY T' hT (Nat.zero_le _)⟩
    rw [L_X5_weigh_65, if_pos (show nI 0 - 1 < 0 by decide)]
  | t + 1, 0, _, _, z, _ => absurd z (by omega)
  | t + 1, q + 1, Y, ht, hq, hY => by
    have e1 := X5_most_sp Y V (w := w) (T := t) hP hw (by omega) (fun T' hT' h => hY T' hT' (by omega)) hN
    obtain ⟨Y', e2, h2⟩ := X5_down_lp V hP hw hN t q (upd Y t (nI (RV w P (P - pcN t) t))) (by omega) (by omega) (fun T' hT' h => by
      by_cases e : T' = t
      · subst e
        rw [upd_at]
      · rw [upd_ne _ _ e]
        exact hY T' hT' (by omega))
    refine ⟨Y', ?_, h2⟩
    rw [show nI (t + 1) - 1 = nI t from nI_pred t, L_X5_weigh_65, if_neg (nI_pos (by omega)), ob_t e1, gd_t (ix_n (n := 1024) (by omega) (by omega)), nm_k, nI_clamp (show t < 2 ^ 31 by omega), ← Int32.sub_eq_add_neg]
    exact e2
theorem va_fill (f : Nat → Int32) : ∀ (d j : Nat) (row : Nat → Int32) (b : Nat), fup (fun b r => upd r b (f b)) j d row b = if j ≤ b ∧ b < j + d then f b else row b
  | 0, j, row, b => by rw [if_neg (by omega)]; rfl
  | d + 1, j, row, b => by
    show fup _ (j + 1) d (upd row j (f j)) b = _
    rw [va_fill f d (j + 1)]
    by_cases e : b = j
    · subst e
      rw [upd_at, if_neg (by omega), if_pos (by omega)]
    · rw [upd_ne _ _ e]
      by_cases y : j + 1 ≤ b ∧ b < j + 1 + d
      · rw [if_pos y, if_pos (by omega)]
      · rw [if_neg y, if_neg (by omega)]
theorem X5_row_lp (h k f : Nat → Int32) {p : Nat} (hp : p < 7) (kk : Int32 → (Nat → Nat → Int32) → Option (Int32 × (Nat → Int32) × (Nat → Nat → Int32))) {N : Nat} (hN : 1001 ≤ N) : ∀ (d j q : Nat) (V : Nat → Nat → Int32), j + d = 10 → d < q → ∃ V', L_X5_weigh_20 h k f (nI p) kk q (nI j) V = kk (nI 10) V' ∧ (∀ p', p' ≠ p → V' p' = V p') ∧ (∀ b, V' p b = if j ≤ b ∧ b < j + d then wtS (k p) (f p) (h b) else V p b)
  | 0, j, 0, _, _, z => absurd z (by omega)
  | 0, j, q + 1, V, hj, _ => by
    have : j = 10 := by omega
    subst this
    refine ⟨V, ?_, fun _ _ => rfl, fun b => by rw [if_neg (by omega)]⟩
    rw [L_X5_weigh_20, if_pos (show (10 : Int32) ≤ nI 10 by decide)]
  | d + 1, j, 0, _, _, z => absurd z (by omega)
  | d + 1, j, q + 1, V, hj, hq => by
    obtain ⟨V', e1, h1, h2⟩ := X5_row_lp h k f hp kk hN d (j + 1) q (va_up V p (upd (V p) j (wtS (k p) (f p) (h j)))) (by omega) (by omega)
    refine ⟨V', ?_, fun p' hp' => (h1 p' hp').trans (va_up_ne _ _ hp'), fun b => ?_⟩
    · rw [L_X5_weigh_20, if_neg (show ¬ (10 : Int32) ≤ nI j from nI_ge (b := 10) (by omega) (by omega)), gd_t (ix7 hp), gd_t (ix10 (by omega)), nI_cl (by omega), nI_cl (by omega), ob_t (X8_weightAt_sp k f hp _), gd_t (ix10 (by omega)), nm_k, nI_1]
      exact e1
    · rw [h2 b, va_up_self]
      by_cases e : b = j
      · subst e
        rw [upd_at, if_neg (by omega), if_pos (by omega)]
      · rw [upd_ne _ _ e]
        by_cases y : j + 1 ≤ b ∧ b < j + 1 + d
        · rw [if_pos y, if_pos (by omega)]
        · rw [if_neg y, if_neg (by omega)]
theorem X5_weigh_lp (h k f Y : Nat → Int32) {P N : Nat} (hP : P ≤ 7) (hN : 2000 ≤ N) (hh : OkH h) (hf : OkF f P) (hk : OkK k P) : ∀ (d j q : Nat) (V : Nat → Nat → Int32), j + d = P → d < q → (∀ p b, p < j → b < 10 → V p b = wtS (k p) (f p) (h b)) → ∃ Y' V', L_X5_weigh_10 N Y h k f (nI P) q (nI j) V = some (nI P, Y', V') ∧ (∀ p b, p < P → b < 10 → V' p b = wtS (k p) (f p) (h b)) ∧ ∀ T', T' < 1024 → Y' T' = nI (RV (wN h k f) P (P - pcN T') T')
  | 0, j, 0, _, _, z, _ => absurd z (by omega)
  | 0, j, q + 1, V, hj, _, hV => by
    have : j = P := by omega
    subst this
    obtain ⟨Y', e1, h1⟩ := X5_down_lp V (w := wN h k f) (P := j) (N := N) hP (fun p b hp hb => by
      obtain ⟨w1, w2⟩ := wN_sp hh hf hk hp hb
      exact ⟨w2, (hV p b hp hb).trans w1⟩) (by omega) 1024 N Y (by omega) (by omega) (fun T' h1 h2 => absurd h2 (by omega))
    refine ⟨Y', V, ?_, hV, h1⟩
    rw [L_X5_weigh_10, if_pos (nI_le (Nat.le_refl j) (by omega))]
    exact e1
  | d + 1, j, 0, _, _, z, _ => absurd z (by omega)
  | d + 1, j, q + 1, V, hj, hq, hV => by
    rw [L_X5_weigh_10, if_neg (nI_nge (by omega) hP), nI_1]
    obtain ⟨V1, e1, h1, h2⟩ := X5_row_lp h k f (show j < 7 by omega) (fun _ y21 => L_X5_weigh_10 N Y h k f (nI P) q (nI (j + 1)) y21) (show 1001 ≤ N by omega) 10 0 N V (by omega) (by omega)
    obtain ⟨Y', V', e2, h3, h4⟩ := X5_weigh_lp h k f Y hP hN hh hf hk d (j + 1) q V1 (by omega) (by omega) (fun p b hp hb => by
      by_cases e : p = j
      · subst e
        rw [h2 b, if_pos (by omega)]
      · rw [h1 p e]
        exact hV p b (by omega) hb)
    exact ⟨Y', V', e1.trans e2, h3, h4⟩
/-! the first best rail -/
def fbC (w : Nat → Nat → Nat) (P p T b : Nat) : Bool := !inn (nI T) (nI b) && decide (w p b + RV w P (P - (p + 1)) (orB T b) = RV w P (P - p) T)
def fbS (c : Nat → Bool) : Nat → Nat → Nat
  | 0, _ => 0
  | d + 1, j => if c j then j else fbS c d (j + 1)
theorem fbS_in {c : Nat → Bool} : ∀ (d j : Nat), anyS c j d = true → j ≤ fbS c d j ∧ fbS c d j < j + d ∧ c (fbS c d j) = true
  | 0, _, h => by cases h
  | d + 1, j, h => by
    unfold fbS
    cases e : c j with
    | true => exact ⟨Nat.le_refl j, by simp, by simpa using e⟩
    | false =>
      have h : (c j || anyS c (j + 1) d) = true := h
      rw [e, Bool.false_or] at h
      obtain ⟨a1, a2, a3⟩ := fbS_in d (j + 1) h
      simp only [Bool.false_eq_true, if_false]
      exact ⟨by omega, by omega, a3⟩
theorem anyS_of {c : Nat → Bool} {b : Nat} : ∀ (d j : Nat), j ≤ b → b < j + d → c b = true → anyS c j d = true
  | 0, j, h1, h2, _ => absurd h2 (by omega)
  | d + 1, j, h1, h2, h3 => by
    show (c j || anyS c (j + 1) d) = true
    by_cases e : b = j
    · subst e
      rw [h3, Bool.true_or]
    · rw [anyS_of d (j + 1) (by omega) (by omega) h3, Bool.or_true]
theorem fb_some {w : Nat → Nat → Nat} {P p T : Nat} (hp : p < P) (hP : P ≤ 7) (hT : T < 1024) (hc : pcN T = p) : anyS (fbC w P p T) 0 10 = true := by
  obtain ⟨d, ed⟩ : ∃ d, P - p = d + 1 := ⟨P - p - 1, by omega⟩
  obtain ⟨-, b, hb, ib, vb⟩ := RV_att (w := w) (P := P) (d := d) hT (by omega)
  refine anyS_of 10 0 (Nat.zero_le b) (by omega) (b := b) ?_
  unfold fbC
  rw [ib, ed, show P - (p + 1) = d by omega]
  unfold vO at vb
  rw [show P - (d + 1) = p by omega] at vb
  rw [decide_eq_true vb]
  rfl
/-- class: the loop -/
theorem X5_first_lp (Y : Nat → Int32) (V : Nat → Nat → Int32) {w : Nat → Nat → Nat} {P p T : Nat} (hP : P ≤ 7) (hp : p < P) (hw : ∀ p b, p < P → b < 10 → w p b ≤ 23 ∧ V p b = nI (w p b)) (hT : T < 1024) (hc : pcN T = p) (hY : ∀ T', T' < 1024 → Y T' = nI (RV w P (P - pcN T') T')) : ∀ (d j q : Nat), j + d = 10 → d < q → L_X5_firstBestRail_2 Y V (nI p) (nI T) q (nI j) = some (if anyS (fbC w P p T) j d then nI (fbS (fbC w P p T) d j) else 0)
  | 0, j, 0, _, z => absurd z (by omega)
  | 0, j, q + 1, hj, _ => by
    have : j = 10 := by omega
    subst this
    rw [L_X5_firstBestRail_2, if_pos (show (10 : Int32) ≤ nI 10 by decide)]
    rfl
  | d + 1, j, 0, _, z => absurd z (by omega)
  | d + 1, j, q + 1, hj, hq => by
    have hle := fun d T => RV_le (w := w) (P := P) (fun p b hp hb => (hw p b hp hb).1) d T
    obtain ⟨o1, o2, o3⟩ := or_facts T hT j (by omega)
    have o1 : nI T ||| ((1 : Int32) <<< (nI j &&& 31)) = nI (orB T j) := o1
    have ih := X5_first_lp Y V hP hp hw hT hc hY d (j + 1) q (by omega) (by omega)
    rw [L_X5_firstBestRail_2, if_neg (show ¬ (10 : Int32) ≤ nI j from nI_ge (b := 10) (by omega) (by omega)), ob_t (isIn_sp _ _), t01_if, gd_t (ix7 (by omega)), gd_t (ix10 (by omega)), o1, gd_t (ix_n (n := 1024) o2 (by omega)), gd_t (ix_n (n := 1024) hT (by omega)), nI_cl (by omega), nI_cl (by omega), nI_clamp (show orB T j < 2 ^ 31 by omega), nI_clamp (show T < 2 ^ 31 by omega), nI_1]
    show _ = some (if (fbC w P p T j || anyS (fbC w P p T) (j + 1) d) then nI (if fbC w P p T j then j else fbS (fbC w P p T) d (j + 1)) else 0)
    cases i : inn (nI T) (nI j) with
    | true =>
      have c0 : fbC w P p T j = false := by simp [fbC, i]
      rw [c0]
      exact ih
    | false =>
      obtain ⟨o4, o5⟩ := o3 i
      have h1 := (hw p j hp (by omega)).1
      have h2 := hle (P - (p + 1)) (orB T j) (by omega)
      have h3 := hle (P - p) T (by omega)
      have h4 : 23 * (P - (p + 1)) ≤ 161 := by omega
      have h5 : 23 * (P - p) ≤ 161 := by omega
      rw [if_neg (by decide), (hw p j hp (by omega)).2, hY _ o2, o4, hc, hY _ hT, hc, nI_add]
      simp only [nI_eq (show w p j + RV w P (P - (p + 1)) (orB T j) < 2 ^ 31 by omega) (show RV w P (P - p) T < 2 ^ 31 by omega)]
      by_cases z : w p j + RV w P (P - (p + 1)) (orB T j) = RV w P (P - p) T
      · have c0 : fbC w P p T j = true := by simp [fbC, i, z]
        rw [if_pos z, c0]
        rfl
      · have c0 : fbC w P p T j = false := by simp [fbC, i, z]
        rw [if_neg z, c0]
        exact ih
/-- whom each one before p takes -/
def tkS (w : Nat → Nat → Nat) (P : Nat) : Nat → Nat
  | 0 => 0
  | s + 1 => orB (tkS w P s) (fbS (fbC w P s (tkS w P s)) 10 0)
theorem tk_in {w : Nat → Nat → Nat} {P : Nat} (hP : P ≤ 7) : ∀ s, s ≤ P → tkS w P s < 1024 ∧ pcN (tkS w P s) = s
  | 0, _ => ⟨show 0 < 1024 by decide, show pcN 0 = 0 by decide⟩
  | s + 1, hs => by
    obtain ⟨h1, h2⟩ := tk_in hP s (by omega)
    obtain ⟨a1, a2, a3⟩ := fbS_in 10 0 (fb_some (w := w) (P := P) (show s < P by omega) hP h1 h2)
    obtain ⟨o1, o2, o3⟩ := or_facts (tkS w P s) h1 (fbS (fbC w P s (tkS w P s)) 10 0) (by omega)
    have i : inn (nI (tkS w P s)) (nI (fbS (fbC w P s (tkS w P s)) 10 0)) = false := by
      unfold fbC at a3
      simp only [Bool.and_eq_true, Bool.not_eq_true'] at a3
      exact a3.1
    exact ⟨o2, (o3 i).1.trans (by rw [h2])⟩
def rbS (w : Nat → Nat → Nat) (P s : Nat) : Nat := fbS (fbC w P s (tkS w P s)) 10 0
theorem rb_in {w : Nat → Nat → Nat} {P s : Nat} (hP : P ≤ 7) (hs : s < P) : rbS w P s < 10 ∧ nI (tkS w P s) ||| ((1 : Int32) <<< (nI (rbS w P s) &&& 31)) = nI (tkS w P (s + 1)) := by
  obtain ⟨h1, h2⟩ := tk_in (w := w) hP s (by omega)
  obtain ⟨a1, a2, a3⟩ := fbS_in 10 0 (fb_some (w := w) (P := P) hs hP h1 h2)
  exact ⟨by unfold rbS; omega, (or_facts (tkS w P s) h1 (rbS w P s) (by unfold rbS; omega)).1⟩
theorem X5_railOf_lp (Y : Nat → Int32) (V : Nat → Nat → Int32) {w : Nat → Nat → Nat} {P p N : Nat} (hP : P ≤ 7) (hp : p < P) (hw : ∀ p b, p < P → b < 10 → w p b ≤ 23 ∧ V p b = nI (w p b)) (hY : ∀ T', T' < 1024 → Y T' = nI (RV w P (P - pcN T') T')) (hN : 1001 ≤ N) : ∀ (d s q : Nat) (last : Int32), s + d = p + 1 → d < q → L_X5_railOf_8 N (nI P) Y V (nI p) q (nI s) last (nI (tkS w P s)) = some (if d = 0 then last else nI (rbS w P p))
  | 0, s, 0, _, _, z => absurd z (by omega)
  | 0, s, q + 1, last, hs, _ => by
    rw [L_X5_railOf_8, if_pos (nI_lt (show p < s by omega) (by omega))]
    rfl
  | d + 1, s, 0, _, _, z => absurd z (by omega)
  | d + 1, s, q + 1, last, hs, hq => by
    obtain ⟨h1, h2⟩ := tk_in (w := w) hP s (by omega)
    obtain ⟨r1, r2⟩ := rb_in (w := w) hP (show s < P by omega)
    have ef : f_X5_firstBestRail N Y V (nI s) (nI (tkS w P s)) = some (nI (rbS w P s)) := by
      rw [f_X5_firstBestRail]
      have := X5_first_lp Y V hP (show s < P by omega) hw h1 h2 hY 10 0 N (by omega) (by omega)
      rw [if_pos (fb_some (show s < P by omega) hP h1 h2)] at this
      exact this
    rw [L_X5_railOf_8, if_neg (nI_nlt (show s ≤ p by omega) (by omega)), if_neg (nI_nge (show s < P by omega) hP), ob_t ef, nm_k, r2, nI_1, X5_railOf_lp Y V hP hp hw hY hN d (s + 1) q _ (by omega) (by omega), if_neg (show ¬ d + 1 = 0 by omega)]
    by_cases e : d = 0
    · have : s = p := by omega
      subst this
      rw [if_pos e]
    · rw [if_neg e]
/-! reference -/
section MAT
variable {h k f r m : Nat → Int32} {P : Nat} {shut needed day : Int32} {S : Nat → Int32}
/-- what one place of a row of the table becomes -/
def mF (h k f Y : Nat → Int32) (P p T : Nat) : Int32 := if p < P then fup (fun b best => if inn (nI T) (nI b) then best else if Y ((p + 1) * 1024 + orB T b) < 0 then best else if Y ((p + 1) * 1024 + orB T b) + wtS (k p) (f p) (h b) ≤ best then best else Y ((p + 1) * 1024 + orB T b) + wtS (k p) (f p) (h b)) 0 10 (-1) else 0
theorem idx_sp {p T b : Nat} (hp : p < 7) (hT : T < 1024) (hb : b < 10) : (((nI p + 1) <<< ((10 : Int32) &&& 31)) ||| nI T) ||| ((1 : Int32) <<< (nI b &&& 31)) = nI ((p + 1) * 1024 + orB T b) := by
  obtain ⟨o1, o2, o3⟩ := or_facts T hT b hb
  have o1 : nI T ||| ((1 : Int32) <<< (nI b &&& 31)) = nI (orB T b) := o1
  rw [nI_1, Int32.or_assoc, o1]
  exact row_idx (p + 1) (by omega) (orB T b) o2
theorem X10_place_sp (hS : Sm h k f r m P shut needed day S) (hP : P ≤ 7) (Y : Nat → Int32) {p T N : Nat} (hp : p ≤ P) (hT : T < 1024) (hN : 1001 ≤ N) (kk : Int32 → Int32 → Option (Nat → Int32)) : ∃ x, L_X10_matches_39 S (nI p) (nI T) Y kk N 0 (if p < P then -1 else 0) = kk x (mF h k f Y P p T) := by
  unfold mF
  by_cases c : p < P
  · rw [if_pos c, if_pos c]
    refine ⟨nI 10, ?_⟩
    refine lup (P := 10) (fun n i a => L_X10_matches_39 S (nI p) (nI T) Y kk n i a) (fun b best => if inn (nI T) (nI b) then best else if Y ((p + 1) * 1024 + orB T b) < 0 then best else if Y ((p + 1) * 1024 + orB T b) + wtS (k p) (f p) (h b) ≤ best then best else Y ((p + 1) * 1024 + orB T b) + wtS (k p) (f p) (h b)) (fun a => kk (nI 10) a) (fun n a => ?_) (fun n b a hb => ?_) 10 0 N (-1) (by omega) (by omega)
    · simp only [L_X10_matches_39]
      rw [if_pos (show (10 : Int32) ≤ nI 10 by decide)]
    · obtain ⟨o1, o2, o3⟩ := or_facts T hT b hb
      have e4 : (4 : Int32) + nI b = nI (4 + b) := nI_add 4 b
      rw [L_X10_matches_39, if_neg (show ¬ (10 : Int32) ≤ nI b from nI_ge (b := 10) hb (by omega)), hS.1, if_neg (nI_nge c hP), ob_t (has_sp _ _), t01_if, idx_sp (by omega) hT hb, gd_t (ix_n (n := 8192) (by omega) (by omega)), nm_k, nI_clamp (by omega), e4, gd_t (ix42 (by omega)), nI_cl (by omega), hS.2.2.2.2.1 b hb, ob_t (X10_weightAt_sp hS hP c _), gd_t (ix42 (by omega)), ob_t (X10_weightAt_sp hS hP c _)]
      cases i : inn (nI T) (nI b) with
      | true => simp
      | false =>
        simp only [Bool.false_eq_true, if_false]
        by_cases z1 : Y ((p + 1) * 1024 + orB T b) < 0
        · rw [if_pos z1, if_pos z1]
        · rw [if_neg z1, if_neg z1]
          by_cases z2 : Y ((p + 1) * 1024 + orB T b) + wtS (k p) (f p) (h b) ≤ a
          · rw [if_pos z2, if_pos z2]
          · rw [if_neg z2, if_neg z2]
  · rw [if_neg c, if_neg c]
    refine ⟨0, ?_⟩
    obtain ⟨N', rfl⟩ : ∃ N', N = N' + 1 := ⟨N - 1, by omega⟩
    rw [L_X10_matches_39, if_neg (by decide), hS.1, if_pos (nI_le (by omega) (by omega))]
theorem X10_mrow_lp (hS : Sm h k f r m P shut needed day S) (hP : P ≤ 7) {p N : Nat} (hp : p ≤ P) (hN : 1001 ≤ N) (k13 : Int32 → (Nat → Int32) → Option (Nat → Int32)) : ∀ (d T q : Nat) (Y Y0 : Nat → Int32), T + d = 1024 → d < q → (∀ i, i < p * 1024 ∨ p * 1024 + 1024 ≤ i → Y i = Y0 i) → (∀ T', T' < T → Y (p * 1024 + T') = mF h k f Y0 P p T') → ∃ Y', L_X10_matches_13 N S (nI p) k13 q (nI T) Y = k13 (nI 1024) Y' ∧ (∀ i, i < p * 1024 ∨ p * 1024 + 1024 ≤ i → Y' i = Y0 i) ∧ (∀ T', T' < 1024 → Y' (p * 1024 + T') = mF h k f Y0 P p T')
  | 0, T, 0, _, _, _, z, _, _ => absurd z (by omega)
  | 0, T, q + 1, Y, Y0, hT, _, h1, h2 => by
    have : T = 1024 := by omega
    subst this
    refine ⟨Y, ?_, h1, h2⟩
    rw [L_X10_matches_13, if_pos (show (1024 : Int32) ≤ nI 1024 by decide)]
  | d + 1, T, 0, _, _, _, z, _, _ => absurd z (by omega)
  | d + 1, T, q + 1, Y, Y0, hT, hq, h1, h2 => by
    have em : mF h k f Y P p T = mF h k f Y0 P p T := by
      unfold mF
      by_cases c : p < P
      · rw [if_pos c, if_pos c]
        refine fup_congr 10 0 _ (fun b a _ hb => ?_)
        have o2 := (or_facts T (by omega) b (by omega)).2.1
        rw [h1 ((p + 1) * 1024 + orB T b) (Or.inr (by omega))]
      · rw [if_neg c, if_neg c]
    obtain ⟨Y', e1, h3, h4⟩ := X10_mrow_lp hS hP hp hN k13 d (T + 1) q (upd Y (p * 1024 + T) (mF h k f Y0 P p T)) Y0 (by omega) (by omega) (fun i hi => by rw [upd_ne _ _ (by omega)]; exact h1 i hi) (fun T' hT' => by
      by_cases e : T' = T
      · subst e
        rw [upd_at]
      · rw [upd_ne _ _ (by omega)]
        exact h2 T' (by omega))
    refine ⟨Y', ?_, h3, h4⟩
    rw [← e1, L_X10_matches_13, if_neg (show ¬ (1024 : Int32) ≤ nI T from nI_ge (b := 1024) (by omega) (by omega)), hS.1, row_idx p (by omega) T (by omega), nI_1]
    have key : ∀ kk, ∃ x, (if nI p = nI P then L_X10_matches_39 S (nI p) (nI T) Y kk N 0 0 else L_X10_matches_39 S (nI p) (nI T) Y kk N 0 (-1)) = kk x (mF h k f Y0 P p T) := fun kk => by
      obtain ⟨x, ex⟩ := X10_place_sp hS hP Y hp (show T < 1024 by omega) hN kk
      refine ⟨x, ?_⟩
      rw [← em, ← ex]
      by_cases c : p < P
      · rw [if_neg (fun y => by have := (nI_eq (by omega) (by omega)).mp y; omega), if_pos c]
      · rw [if_pos (by rw [show p = P by omega]), if_neg c]
    obtain ⟨x, ex⟩ := key (fun _ x26 => gd (ix (nI (p * 1024 + T)) 8192) (nm (upd Y (nI (p * 1024 + T)).toNatClampNeg x26) (fun f28 => L_X10_matches_13 N S (nI p) k13 q (nI (T + 1)) f28)))
    refine Eq.trans ex ?_
    show gd (ix (nI (p * 1024 + T)) 8192) (nm (upd Y (nI (p * 1024 + T)).toNatClampNeg (mF h k f Y0 P p T)) (fun f28 => L_X10_matches_13 N S (nI p) k13 q (nI (T + 1)) f28)) = _
    rw [gd_t (ix_n (n := 8192) (by omega) (by omega)), nm_k, nI_clamp (by omega)]
/-- the table's rows from p on, where as many are taken -/
def MT (w : Nat → Nat → Nat) (P p : Nat) (Y : Nat → Int32) : Prop := ∀ p' T, p ≤ p' → p' ≤ P → T < 1024 → pcN T = p' → Y (p' * 1024 + T) = nI (RV w P (P - p') T)
theorem mF_sp {Y : Nat → Int32} (hh : OkH h) (hf : OkF f P) (hk : OkK k P) (hP : P ≤ 7) {p T : Nat} (hp : p ≤ P) (hT : T < 1024) (hc : pcN T = p) (hY : MT (wN h k f) P (p + 1) Y) : mF h k f Y P p T = nI (RV (wN h k f) P (P - p) T) := by
  have hle := fun d T => RV_le (w := wN h k f) (P := P) (fun p b hp hb => (wN_sp hh hf hk hp hb).2) d T
  unfold mF
  by_cases c : p < P
  · rw [if_pos c]
    obtain ⟨d, ed⟩ : ∃ d, P - p = d + 1 := ⟨P - p - 1, by omega⟩
    obtain ⟨⟨x, ex, er⟩, -⟩ := RV_att (w := wN h k f) (P := P) (d := d) hT (by omega)
    rw [ed, er]
    have hv : ∀ b, b < 10 → vO (wN h k f) P d T b ≤ 200 := fun b hb => by
      have h1 := (wN_sp hh hf hk (show P - (d + 1) < P by omega) hb).2
      have h2 := hle d (orB T b) (by omega)
      unfold vO
      omega
    have key : ∀ (e j : Nat) (a : Option Nat), j + e ≤ 10 → a.getD 0 ≤ 200 → fup (fun b best => if inn (nI T) (nI b) then best else if Y ((p + 1) * 1024 + orB T b) < 0 then best else if Y ((p + 1) * 1024 + orB T b) + wtS (k p) (f p) (h b) ≤ best then best else Y ((p + 1) * 1024 + orB T b) + wtS (k p) (f p) (h b)) j e (match a with | none => -1 | some x => nI x) = (match fup (stO T (vO (wN h k f) P d T)) j e a with | none => -1 | some x => nI x) := by
      intro e
      induction e with
      | zero => intro j a _ _; rfl
      | succ e ih =>
        intro j a hj ha
        have ha2 : (stO T (vO (wN h k f) P d T) j a).getD 0 ≤ 200 := stO_le (d := 1) (fun b hb => hv b hb) j a (by omega) ha
        rw [show fup (stO T (vO (wN h k f) P d T)) j (e + 1) a = fup (stO T (vO (wN h k f) P d T)) (j + 1) e (stO T (vO (wN h k f) P d T) j a) from rfl, ← ih (j + 1) _ (by omega) ha2]
        show fup _ (j + 1) e _ = _
        refine congrArg (fup _ (j + 1) e) ?_
        cases i : inn (nI T) (nI j) with
        | true => simp [stO, i]
        | false =>
          obtain ⟨o1, o2, o3⟩ := or_facts T hT j (by omega)
          obtain ⟨o4, o5⟩ := o3 i
          have eY : Y ((p + 1) * 1024 + orB T j) = nI (RV (wN h k f) P d (orB T j)) := by
            rw [hY (p + 1) (orB T j) (Nat.le_refl _) (by omega) o2 (by rw [o4, hc]), show P - (p + 1) = d by omega]
          have h2 := hle d (orB T j) (by omega)
          have h3 := hv j (by omega)
          have ev : nI (RV (wN h k f) P d (orB T j)) + wtS (k p) (f p) (h j) = nI (vO (wN h k f) P d T j) := by
            rw [(wN_sp hh hf hk c (show j < 10 by omega)).1, nI_add]
            unfold vO
            rw [show P - (d + 1) = p by omega, Nat.add_comm]
          simp only [Bool.false_eq_true, if_false, eY]
          rw [if_neg (nI_pos (by omega)), ev]
          cases a with
          | none =>
            have : ¬ nI (vO (wN h k f) P d T j) ≤ (-1 : Int32) := by
              rw [Int32.le_iff_toInt_le, nI_toInt (by omega), show (-1 : Int32).toInt = -1 by decide]
              omega
            simp [stO, i, this]
          | some y =>
            have hy : y ≤ 200 := ha
            simp only [nI_leI (show vO (wN h k f) P d T j < 2 ^ 31 by omega) (show y < 2 ^ 31 by omega)]
            by_cases z : y < vO (wN h k f) P d T j
            · have z2 : ¬ vO (wN h k f) P d T j ≤ y := by omega
              simp [stO, i, z, z2]
            · have z2 : vO (wN h k f) P d T j ≤ y := by omega
              simp [stO, i, z, z2]
    have := key 10 0 none (by omega) (Nat.zero_le _)
    rw [ex] at this
    exact this
  · rw [if_neg c, show P - p = 0 by omega]
    rfl
theorem X10_matches_lp (hS : Sm h k f r m P shut needed day S) (hP : P ≤ 7) (hh : OkH h) (hf : OkF f P) (hk : OkK k P) {N : Nat} (hN : 2000 ≤ N) : ∀ (n q : Nat) (Y : Nat → Int32), n ≤ P + 1 → n < q → MT (wN h k f) P n Y → ∃ Y', L_X10_matches_7 N S q (nI n - 1) Y = some Y' ∧ MT (wN h k f) P 0 Y'
  | 0, 0, _, _, z, _ => absurd z (by omega)
  | 0, q + 1, Y, _, _, hY => by
    refine ⟨Y, ?_, hY⟩
    rw [L_X10_matches_7, if_pos (show nI 0 - 1 < 0 by decide)]
  | n + 1, 0, _, _, z, _ => absurd z (by omega)
  | n + 1, q + 1, Y, hn, hq, hY => by
    rw [show nI (n + 1) - 1 = nI n from nI_pred n, L_X10_matches_7, if_neg (nI_pos (by omega)), ← Int32.sub_eq_add_neg]
    obtain ⟨Y1, e1, h1, h2⟩ := X10_mrow_lp hS hP (show n ≤ P by omega) (show 1001 ≤ N by omega) (fun _ y51 => L_X10_matches_7 N S q (nI n - 1) y51) 1024 0 N Y Y (by omega) (by omega) (fun _ _ => rfl) (fun T' z => absurd z (by omega))
    obtain ⟨Y', e2, h3⟩ := X10_matches_lp hS hP hh hf hk hN n q Y1 (by omega) (by omega) (fun p' T hp1 hp2 hT hc => by
      by_cases e : p' = n
      · subst e
        rw [h2 T hT]
        exact mF_sp hh hf hk hP hp2 hT hc hY
      · rw [h1 _ (Or.inr (by omega))]
        exact hY p' T (by omega) hp2 hT hc)
    exact ⟨Y', e1.trans e2, h3⟩
theorem X10_rail_lp (hS : Sm h k f r m P shut needed day S) (hP : P ≤ 7) (hh : OkH h) (hf : OkF f P) (hk : OkK k P) {Y : Nat → Int32} (hY : MT (wN h k f) P 0 Y) {p T : Nat} (hp : p < P) (hT : T < 1024) (hc : pcN T = p) : ∀ (d j q : Nat), j + d = 10 → d < q → L_X10_railOf_2 S Y (nI p) (nI T) q (nI j) = some (if anyS (fbC (wN h k f) P p T) j d then nI (fbS (fbC (wN h k f) P p T) d j) else -4)
  | 0, j, 0, _, z => absurd z (by omega)
  | 0, j, q + 1, hj, _ => by
    have : j = 10 := by omega
    subst this
    rw [L_X10_railOf_2, if_pos (show (10 : Int32) ≤ nI 10 by decide)]
    rfl
  | d + 1, j, 0, _, z => absurd z (by omega)
  | d + 1, j, q + 1, hj, hq => by
    have hle := fun d T => RV_le (w := wN h k f) (P := P) (fun p b hp hb => (wN_sp hh hf hk hp hb).2) d T
    obtain ⟨o1, o2, o3⟩ := or_facts T hT j (by omega)
    have e4 : (4 : Int32) + nI j = nI (4 + j) := nI_add 4 j
    have ih := X10_rail_lp hS hP hh hf hk hY hp hT hc d (j + 1) q (by omega) (by omega)
    rw [L_X10_railOf_2, if_neg (show ¬ (10 : Int32) ≤ nI j from nI_ge (b := 10) (by omega) (by omega)), ob_t (has_sp _ _), t01_if, idx_sp (by omega) hT (by omega), gd_t (ix_n (n := 8192) (by omega) (by omega)), nm_k, nI_clamp (by omega), e4, gd_t (ix42 (by omega)), nI_cl (by omega), hS.2.2.2.2.1 j (by omega), ob_t (X10_weightAt_sp hS hP hp _), row_idx p (by omega) T hT, gd_t (ix_n (n := 8192) (by omega) (by omega)), nI_clamp (by omega), nI_1]
    show _ = some (if (fbC (wN h k f) P p T j || anyS (fbC (wN h k f) P p T) (j + 1) d) then nI (if fbC (wN h k f) P p T j then j else fbS (fbC (wN h k f) P p T) d (j + 1)) else -4)
    cases i : inn (nI T) (nI j) with
    | true =>
      have c0 : fbC (wN h k f) P p T j = false := by simp [fbC, i]
      rw [c0]
      exact ih
    | false =>
      obtain ⟨o4, o5⟩ := o3 i
      have h2 := hle (P - (p + 1)) (orB T j) (by omega)
      have h3 := hle (P - p) T (by omega)
      obtain ⟨w1, w2⟩ := wN_sp hh hf hk hp (show j < 10 by omega)
      rw [if_neg (by decide), hY (p + 1) (orB T j) (by omega) (by omega) o2 (by rw [o4, hc]), hY p T (by omega) (by omega) hT hc, if_neg (nI_pos (by omega)), w1, nI_add]
      simp only [nI_eq (show RV (wN h k f) P (P - (p + 1)) (orB T j) + wN h k f p j < 2 ^ 31 by omega) (show RV (wN h k f) P (P - p) T < 2 ^ 31 by omega)]
      by_cases z : wN h k f p j + RV (wN h k f) P (P - (p + 1)) (orB T j) = RV (wN h k f) P (P - p) T
      · have c0 : fbC (wN h k f) P p T j = true := by simp [fbC, i, z]
        rw [if_pos (by omega), c0]
        rfl
      · have c0 : fbC (wN h k f) P p T j = false := by simp [fbC, i, z]
        rw [if_neg (by omega), c0]
        exact ih
theorem X10_railOf_sp (hS : Sm h k f r m P shut needed day S) (hP : P ≤ 7) (hh : OkH h) (hf : OkF f P) (hk : OkK k P) {Y : Nat → Int32} (hY : MT (wN h k f) P 0 Y) {p N : Nat} (hp : p < P) (hN : 1001 ≤ N) : f_X10_railOf N S Y (nI p) (nI (tkS (wN h k f) P p)) = some (nI (rbS (wN h k f) P p)) := by
  obtain ⟨h1, h2⟩ := tk_in (w := wN h k f) hP p (by omega)
  rw [f_X10_railOf]
  have := X10_rail_lp hS hP hh hf hk hY hp h1 h2 10 0 N (by omega) (by omega)
  rw [if_pos (fb_some hp hP h1 h2)] at this
  exact this
theorem X10_match_lp (hS : Sm h k f r m P shut needed day S) (hP : P ≤ 7) (hh : OkH h) (hf : OkF f P) (hk : OkK k P) {Y : Nat → Int32} (hY : MT (wN h k f) P 0 Y) {p N : Nat} (hp : p < P) (hN : 1001 ≤ N) : ∀ (d s q : Nat), s + d = p → d < q → L_X10_match_34 N S (nI p) Y q (nI s) (nI (tkS (wN h k f) P s)) = some (nI (rbS (wN h k f) P p), Y)
  | 0, s, 0, _, z => absurd z (by omega)
  | 0, s, q + 1, hs, _ => by
    have : s = p := by omega
    subst this
    rw [L_X10_match_34, if_pos (nI_le (Nat.le_refl s) (by omega)), ob_t (X10_railOf_sp hS hP hh hf hk hY hp hN)]
  | d + 1, s, 0, _, z => absurd z (by omega)
  | d + 1, s, q + 1, hs, hq => by
    obtain ⟨r1, r2⟩ := rb_in (w := wN h k f) hP (show s < P by omega)
    rw [L_X10_match_34, if_neg (nI_ge (by omega) (by omega)), ob_t (X10_railOf_sp hS hP hh hf hk hY (show s < P by omega) hN), nm_k, r2, nI_1]
    exact X10_match_lp hS hP hh hf hk hY hp hN d (s + 1) q (by omega) (by omega)
theorem ag_match (hS : St h k f r m P shut needed day S) (rp : Int32) (Y : Nat → Int32) (V : Nat → Nat → Int32) (MM : Nat → Int32) (p1 : Int32) {N : Nat} (hN : 2000 ≤ N) : ∃ (res rp' : Int32) (Y' : Nat → Int32) (V' : Nat → Nat → Int32) (MM' : Nat → Int32), f_X9_match N h k f (nI P) rp Y V p1 = some (res, rp', Y', V') ∧ f_X10_match N S MM p1 = some (res, MM') := by
  obtain ⟨hs, hP, hh, hr, hf, hk, h2, h3⟩ := id hS
  obtain ⟨Y', V', e1, hV, hY⟩ := X5_weigh_lp h k f Y hP hN hh hf hk P 0 N V (by omega) (by omega) (fun p b z => absurd z (by omega))
  have hw : ∀ p b, p < P → b < 10 → wN h k f p b ≤ 23 ∧ V' p b = nI (wN h k f p b) := fun p b hp hb => by
    obtain ⟨w1, w2⟩ := wN_sp hh hf hk hp hb
    exact ⟨w2, (hV p b hp hb).trans w1⟩
  have e1 : f_X5_weigh N Y V h k f (nI P) = some (nI P, Y', V') := e1
  obtain ⟨MM', e2, hM⟩ := X10_matches_lp hs hP hh hf hk hN (P + 1) N MM (Nat.le_refl _) (by omega) (fun p' T a b => absurd a (by omega))
  have e2 : f_X10_matches N S MM = some MM' := by
    rw [f_X10_matches, hs.1, ← nI_pred P]
    exact e2
  rw [f_X9_match, f_X10_match]
  by_cases c : p1 = -1
  · rw [if_pos c, if_pos c, ob_t e1, ob_t e2]
    simp only []
    have m0 : MM' 0 = Y' 0 := by
      have := hM 0 0 (by omega) (by omega) (by omega) (by decide)
      rw [Nat.zero_mul, Nat.zero_add] at this
      rw [this, hY 0 (by omega), show pcN 0 = 0 by decide]
    rw [if_pos c, if_neg (by rw [c]; decide), nm_k, m0, f_X5_mostWeight, ob_t (a := Y' 0) rfl]
    exact ⟨_, _, _, _, _, rfl, rfl⟩
  · rw [if_neg c, if_neg c, ob_t (isThere_sp _ _), ob_t (isSpeaker_sp hs hP _), t01_if, t01_if]
    cases c1 : thB P p1 with
    | false => exact ⟨-1, rp, Y, V, MM, rfl, rfl⟩
    | true =>
      obtain ⟨p, hp, rfl⟩ := thB_of hP c1
      simp only [if_true]
      rw [ob_t e1, ob_t e2]
      simp only []
      have ec := X5_railOf_lp Y' V' hP hp hw hY (show 1001 ≤ N by omega) (p + 1) 0 N (-4) (by omega) (by omega)
      rw [if_neg (by omega)] at ec
      have ec : f_X5_railOf N (nI P) Y' V' (nI p) = some (nI (rbS (wN h k f) P p)) := ec
      have em := X10_match_lp hs hP hh hf hk hM hp (show 1001 ≤ N by omega) p 0 N (by omega) (by omega)
      rw [if_neg c, ob_t ec, if_pos (nI_pos' (by omega))]
      exact ⟨_, _, _, _, _, rfl, em⟩
end MAT
