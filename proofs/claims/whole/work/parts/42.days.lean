/-! THE PURE LAYER: days -/
theorem nz_t {x : Int32} (h : ¬ x = 0) : nz x = true := decide_eq_true h
theorem bz_t {x : Int32} (h : x = 0 ∨ x = 1) : bz x = true := decide_eq_true h
theorem lupI {α R : Type} {P : Nat} (F : Nat → Int32 → α → Option R) (st : Nat → α → α) (fin : α → Option R) (I : α → Prop) (h0 : ∀ n a, I a → F (n + 1) (nI P) a = fin a) (hs : ∀ n k a, k < P → I a → F (n + 1) (nI k) a = F n (nI k + 1) (st k a) ∧ I (st k a)) :
    ∀ (d k n : Nat) (a : α), I a → k + d = P → d < n → F n (nI k) a = fin (fup st k d a)
  | 0, k, 0, _, _, _, h => absurd h (by omega)
  | 0, k, n + 1, a, hi, h, _ => by
    have : k = P := by omega
    subst this
    exact h0 n a hi
  | d + 1, k, 0, _, _, _, h => absurd h (by omega)
  | d + 1, k, n + 1, a, hi, h, hn => by
    obtain ⟨e, hi2⟩ := hs n k a (by omega) hi
    rw [e, nI_1]
    exact lupI F st fin I h0 hs d (k + 1) n (st k a) hi2 (by omega) (by omega)
theorem fup_split {α : Type} (st : Nat → α → α) : ∀ (d k e : Nat) (a : α), fup st k (d + e) a = fup st (k + d) e (fup st k d a)
  | 0, k, e, a => by rw [Nat.zero_add]; rfl
  | d + 1, k, e, a => by
    rw [show d + 1 + e = (d + e) + 1 by omega]
    show fup st (k + 1) (d + e) (st k a) = fup st (k + (d + 1)) e (fup st (k + 1) d (st k a))
    rw [fup_split st d (k + 1) e, show k + 1 + d = k + (d + 1) by omega]
theorem fup_id {α : Type} (st : Nat → α → α) : ∀ (d k : Nat) (a : α), (∀ j a, k ≤ j → j < k + d → st j a = a) → fup st k d a = a
  | 0, _, _, _ => rfl
  | d + 1, k, a, h => by
    show fup st (k + 1) d (st k a) = a
    rw [h k a (Nat.le_refl k) (by omega)]
    exact fup_id st d (k + 1) a (fun j a h1 h2 => h j a (by omega) (by omega))
/-! sets of at most seven -/
def B7 (b0 b1 b2 b3 b4 b5 b6 : Bool) : Nat → Bool := fun i => match i with
  | 0 => b0 | 1 => b1 | 2 => b2 | 3 => b3 | 4 => b4 | 5 => b5 | 6 => b6 | _ => false
def cntS (c : Nat → Bool) (P : Nat) : Nat := fup (fun j a => if c j then a + 1 else a) 0 P 0
theorem b7_facts : ∀ b0 b1 b2 b3 b4 b5 b6 : Bool, inn (bS (B7 b0 b1 b2 b3 b4 b5 b6) 7) (nI 0) = b0 ∧ inn (bS (B7 b0 b1 b2 b3 b4 b5 b6) 7) (nI 1) = b1 ∧ inn (bS (B7 b0 b1 b2 b3 b4 b5 b6) 7) (nI 2) = b2 ∧ inn (bS (B7 b0 b1 b2 b3 b4 b5 b6) 7) (nI 3) = b3 ∧ inn (bS (B7 b0 b1 b2 b3 b4 b5 b6) 7) (nI 4) = b4 ∧ inn (bS (B7 b0 b1 b2 b3 b4 b5 b6) 7) (nI 5) = b5 ∧ inn (bS (B7 b0 b1 b2 b3 b4 b5 b6) 7) (nI 6) = b6 ∧ f_J6_bitCount_0f7a4 (bS (B7 b0 b1 b2 b3 b4 b5 b6) 7) = some (nI (cntS (B7 b0 b1 b2 b3 b4 b5 b6) 7)) := by decide +kernel
def upto (c : Nat → Bool) (P : Nat) : Nat → Bool := B7 (decide (0 < P) && c 0) (decide (1 < P) && c 1) (decide (2 < P) && c 2) (decide (3 < P) && c 3) (decide (4 < P) && c 4) (decide (5 < P) && c 5) (decide (6 < P) && c 6)
theorem upto_in (c : Nat → Bool) {P j : Nat} (h : j < 7) : upto c P j = (decide (j < P) && c j) := by
  match j, h with
  | 0, _ => rfl | 1, _ => rfl | 2, _ => rfl | 3, _ => rfl | 4, _ => rfl | 5, _ => rfl | 6, _ => rfl
  | j + 7, h => omega
theorem fup_upto {α : Type} (st : Bool → Nat → α → α) (hst : ∀ j a, st false j a = a) (c : Nat → Bool) {P : Nat} (hP : P ≤ 7) (a : α) : fup (fun j a => st (c j) j a) 0 P a = fup (fun j a => st (upto c P j) j a) 0 7 a := by
  rw [show 7 = P + (7 - P) by omega, fup_split _ P 0 (7 - P)]
  rw [fup_id _ (7 - P) (0 + P) _ (fun j a h1 h2 => by rw [show upto c P j = false by rw [upto_in c (by omega)]; simp; omega]; exact hst j a)]
  exact fup_congr P 0 a (fun j a _ h2 => by rw [upto_in c (by omega)]; simp [show j < P by omega])
theorem bS_upto (c : Nat → Bool) {P : Nat} (hP : P ≤ 7) : bS c P = bS (upto c P) 7 := fup_upto (fun b j a => if b then a ||| bt1 j else a) (fun _ _ => rfl) c hP 0
theorem cnt_upto (c : Nat → Bool) {P : Nat} (hP : P ≤ 7) : cntS c P = cntS (upto c P) 7 := fup_upto (fun b j a => if b then a + 1 else a) (fun _ _ => rfl) c hP 0
theorem inn_bS (c : Nat → Bool) {P j : Nat} (hP : P ≤ 7) (hj : j < 7) : inn (bS c P) (nI j) = (decide (j < P) && c j) := by
  rw [bS_upto c hP, ← upto_in c hj]
  obtain ⟨h0, h1, h2, h3, h4, h5, h6, -⟩ := b7_facts (decide (0 < P) && c 0) (decide (1 < P) && c 1) (decide (2 < P) && c 2) (decide (3 < P) && c 3) (decide (4 < P) && c 4) (decide (5 < P) && c 5) (decide (6 < P) && c 6)
  match j, hj with
  | 0, _ => exact h0 | 1, _ => exact h1 | 2, _ => exact h2 | 3, _ => exact h3 | 4, _ => exact h4 | 5, _ => exact h5 | 6, _ => exact h6
  | j + 7, h => omega
theorem bitc_bS (c : Nat → Bool) {P : Nat} (hP : P ≤ 7) : f_J6_bitCount_0f7a4 (bS c P) = some (nI (cntS c P)) := by
  rw [bS_upto c hP, cnt_upto c hP]
  exact (b7_facts _ _ _ _ _ _ _).2.2.2.2.2.2.2
theorem cnt_le (c : Nat → Bool) : ∀ (d k a : Nat), fup (fun j a => if c j then a + 1 else a) k d a ≤ a + d
  | 0, _, _ => Nat.le_refl _
  | d + 1, k, a => by
    show fup _ (k + 1) d (if c k then a + 1 else a) ≤ _
    have := cnt_le c d (k + 1) (if c k then a + 1 else a)
    have h2 : (if c k then a + 1 else a) ≤ a + 1 := by split <;> omega
    omega
/-! who sees whom -/
def ab32 (z : Int32) : Int32 := if 0 ≤ z then z else 0 - z
def seS (h r : Nat → Int32) (p o : Nat) : Bool := decide (¬ sd r p = sd r o) && decide (¬ (1 : Int32) < ab32 (h (r p).toNatClampNeg - h (r o).toNatClampNeg))
def OkH (h : Nat → Int32) : Prop := ∀ b, b < 10 → ∃ j : Nat, j < 8 ∧ h b = nI j
theorem near : ∀ a, a < 8 → ∀ b, b < 8 → decide (¬ (1 : Int32) < ab32 (nI a - nI b)) = (decide (¬ (nI a - nI b) < (-1 : Int32)) && decide (¬ (1 : Int32) < (nI a - nI b))) := by decide +kernel
theorem X8_isInSight_sp (h r : Nat → Int32) {P p o : Nat} (hP : P ≤ 7) (hr : OkR r P) (hp : p < P) (ho : o < P) : f_X8_isInSight h r (nI p) (nI o) = some (t01 (seS h r p o)) := by
  obtain ⟨j, hj, ej⟩ := hr p hp
  obtain ⟨i, hi, ei⟩ := hr o ho
  rw [f_X8_isInSight, gd_t (ix7 (by omega)), nI_cl (by omega), gd_t (by rw [ej]; exact ix10 hj), gd_t (ix7 (by omega)), nI_cl (by omega), gd_t (by rw [ei]; exact ix10 hi)]
  simp only [nm]
  rw [gd_t (ix7 (by omega)), gd_t (ix7 (by omega))]
  unfold seS t01
  show (if sd r p = sd r o then _ else if (1 : Int32) < ab32 (h (r p).toNatClampNeg - h (r o).toNatClampNeg) then _ else _) = _
  by_cases h1 : sd r p = sd r o
  · simp [h1]
  · by_cases h2 : (1 : Int32) < ab32 (h (r p).toNatClampNeg - h (r o).toNatClampNeg) <;> simp [h1, h2]
section SM2
variable {h k f r m : Nat → Int32} {P : Nat} {shut needed day : Int32} {S : Nat → Int32}
theorem X10_doesSee_sp (hS : Sm h k f r m P shut needed day S) (hP : P ≤ 7) (hh : OkH h) (hr : OkR r P) {p o : Nat} (hp : p < P) (ho : o < P) : f_X10_doesSee S (nI p) (nI o) = some (t01 (seS h r p o)) := by
  obtain ⟨j, hj, ej⟩ := hr p hp
  obtain ⟨i, hi, ei⟩ := hr o ho
  obtain ⟨a, ha, ea⟩ := hh j hj
  obtain ⟨b, hb, eb⟩ := hh i hi
  have hn := near a ha b hb
  rw [f_X10_doesSee, ob_t (X10_sideOf_sp hS hP hp), ob_t (X10_sideOf_sp hS hP ho), ob_t (X10_heightOf_sp hS hP hr hp), ob_t (X10_heightOf_sp hS hP hr ho)]
  unfold seS t01 f_X10_isIn
  rw [ej, ei, nI_cl (by omega), nI_cl (by omega), ea, eb]
  by_cases h1 : sd r p = sd r o
  · simp [h1]
  · rw [if_neg h1, hn]
    by_cases h2 : (nI a - nI b) < (-1 : Int32)
    · simp [h1, h2, ob]
    · by_cases h3 : (1 : Int32) < (nI a - nI b) <;> simp [h1, h2, h3, ob]
end SM2
/-! a look -/
def viS (h r : Nat → Int32) (shut : Int32) (p o : Nat) : Bool := !inn shut (r o) && seS h r p o
def smS (c : Nat → Bool) (m : Nat → Int32) (P : Nat) : Int32 := fup (fun o a => if c o then a + m o else a) 0 P 0
def cl (sw z : Int32) : Int32 := if -sw < (if z < sw then z else sw) then (if z < sw then z else sw) else -sw
def nmS (h k f r : Nat → Int32) (shut : Int32) (P p : Nat) (m : Nat → Int32) : Int32 := if cntS (viS h r shut p) P = 0 then m p else m p + cl (swS (k p) (f p)) (smS (viS h r shut p) m P / nI (cntS (viS h r shut p) P) - m p)
def dyS (h k f r : Nat → Int32) (shut : Int32) (P : Nat) (m : Nat → Int32) : Nat → Int32 := fup (fun p m => upd m p (nmS h k f r shut P p m)) 0 P m
def OkF (f : Nat → Int32) (P : Nat) : Prop := ∀ p, p < P → ∃ j : Nat, j < 10 ∧ f p = nI j
theorem upd_same (g : Nat → Int32) (p : Nat) : upd g p (g p) = g := by
  funext j
  unfold upd
  by_cases e : j = p <;> simp [e]
theorem upd_at (g : Nat → Int32) (p : Nat) (x : Int32) : upd g p x p = x := pk_us
theorem upd_ne (g : Nat → Int32) {p j : Nat} (x : Int32) (h : j ≠ p) : upd g p x j = g j := pk_un h
theorem upd_upd (g : Nat → Int32) (p : Nat) (x y : Int32) : upd (upd g p x) p y = upd g p y := by
  funext j
  unfold upd
  by_cases e : j = p <;> simp [e]
theorem sight_fold (c : Nat → Bool) (y : Nat → Int32) (p : Nat) : ∀ (d k : Nat) (a : Int32), fup (fun o z => if c o then upd z p (z p ||| bt1 o) else z) k d (upd y p a) = upd y p (fup (sB c) k d a)
  | 0, _, _ => rfl
  | d + 1, k, a => by
    show fup _ (k + 1) d (if c k then upd (upd y p a) p (upd y p a p ||| bt1 k) else upd y p a) = upd y p (fup (sB c) (k + 1) d (sB c k a))
    have e : (if c k then upd (upd y p a) p (upd y p a p ||| bt1 k) else upd y p a) = upd y p (sB c k a) := by
      unfold sB
      cases c k
      · rfl
      · simp only [upd_at, upd_upd, if_true]
    rw [e]
    exact sight_fold c y p d (k + 1) (sB c k a)
theorem X8_startDays_in (h r : Nat → Int32) (shut : Int32) {P p : Nat} (hP : P ≤ 7) (hr : OkR r P) (hp : p < P) (k9 : Int32 → (Nat → Int32) → Option (Int32 × (Nat → Int32))) {N : Nat} (hN : 8 ≤ N) (y : Nat → Int32) :
    L_X8_startDays_24 h r shut (nI P) (nI p) k9 N 0 (upd y p 0) = k9 (nI P) (upd y p (bS (viS h r shut p) P)) := by
  have e := lup (P := P) (fun n i a => L_X8_startDays_24 h r shut (nI P) (nI p) k9 n i a) (fun o z => if viS h r shut p o then upd z p (z p ||| bt1 o) else z) (fun a => k9 (nI P) a) (fun n a => ?_) (fun n o a ho => ?_) P 0 N (upd y p 0) (by omega) (by omega)
  · refine Eq.trans e ?_
    simp only [sight_fold]
    rfl
  · simp only [L_X8_startDays_24]
    rw [if_pos (nI_le (Nat.le_refl P) (by omega))]
  · rw [L_X8_startDays_24, if_neg (nI_nge ho hP), ob_t (X8_isHeard_sp r shut (by omega)), t01_if, ob_t (X8_isInSight_sp h r hP hr hp ho), t01_if, gd_t (ix7 (by omega)), gd_t (ix7 (by omega)), nI_cl (by omega)]
    unfold viS
    cases hi : inn shut (r o) <;> cases hs : seS h r p o <;> simp [nm, bt1]
theorem X8_startDays_sp (h r y : Nat → Int32) (shut : Int32) {P N : Nat} (hP : P ≤ 7) (hr : OkR r P) (hN : 8 ≤ N) : ∃ y', f_X8_startDays N h r y shut (nI P) = some (1, y') ∧ ∀ p, p < P → y' p = bS (viS h r shut p) P := by
  refine ⟨fup (fun p z => upd z p (bS (viS h r shut p) P)) 0 P y, ?_, ?_⟩
  · rw [f_X8_startDays]
    refine lup (P := P) (fun n i a => L_X8_startDays_7 N h r shut (nI P) n i a) (fun p z => upd z p (bS (viS h r shut p) P)) (fun a => some (1, a)) (fun n a => ?_) (fun n p a hp => ?_) P 0 N y (by omega) (by omega)
    · simp only [L_X8_startDays_7]
      rw [if_pos (nI_le (Nat.le_refl P) (by omega))]
    · rw [L_X8_startDays_7, if_neg (nI_nge hp hP), gd_t (ix7 (by omega)), nI_cl (by omega)]
      simp only [nm]
      rw [X8_startDays_in h r shut hP hr hp _ hN]
  · have key : ∀ (d k : Nat) (z : Nat → Int32) (q : Nat), k ≤ q → q < k + d → fup (fun p z => upd z p (bS (viS h r shut p) P)) k d z q = bS (viS h r shut q) P := by
      intro d
      induction d with
      | zero => intro k z q h1 h2; omega
      | succ d ih =>
        intro k z q h1 h2
        show fup _ (k + 1) d (upd z k (bS (viS h r shut k) P)) q = _
        by_cases hq : q = k
        · subst hq
          have key2 : ∀ (d k : Nat) (z : Nat → Int32) (q : Nat), q < k → fup (fun p z => upd z p (bS (viS h r shut p) P)) k d z q = z q := by
            intro d
            induction d with
            | zero => intro k z q h; rfl
            | succ d ih2 =>
              intro k z q h9
              show fup _ (k + 1) d (upd z k _) q = _
              rw [ih2 (k + 1) _ q (by omega), upd_ne _ _ (by omega)]
          rw [key2 d (q + 1) _ q (by omega), upd_at]
        · exact ih (k + 1) _ q (by omega) (by omega)
    intro p hp
    exact key P 0 y p (by omega) (by omega)
theorem smS_congr {c c' : Nat → Bool} {m : Nat → Int32} {P : Nat} (h : ∀ j, j < P → c j = c' j) : smS c m P = smS c' m P := fup_congr P 0 0 (fun j a _ h2 => by simp only [h j (by omega)])
theorem X8_moodBehindLook_sp (h k f r m y : Nat → Int32) (shut : Int32) {P p N : Nat} (hP : P ≤ 7) (hp : p < P) (hy : ∀ p, p < P → y p = bS (viS h r shut p) P) (hN : 8 ≤ N) : f_X8_moodBehindLook N k f m y (nI P) (nI p) = some (nmS h k f r shut P p m) := by
  have hc := cnt_le (viS h r shut p) P 0 0
  have hc : cntS (viS h r shut p) P ≤ P := by unfold cntS; omega
  rw [f_X8_moodBehindLook, gd_t (ix7 (by omega)), nI_cl (by omega), hy p hp, ob_t (bitc_bS _ hP), gd_t (ix7 (by omega))]
  unfold nmS
  by_cases h0 : cntS (viS h r shut p) P = 0
  · rw [h0, if_pos nI_0, if_pos rfl]
  · rw [if_neg (nI_ne0 (by omega) (by omega)), if_neg h0]
    have e := lup (P := P) (fun n i a => L_X8_moodBehindLook_26 k f m y (nI P) (nI p) (nI (cntS (viS h r shut p) P)) n i a) (fun o a => if viS h r shut p o then a + m o else a) (fun a => some (m p + cl (swS (k p) (f p)) (a / nI (cntS (viS h r shut p) P) - m p))) (fun n a => ?_) (fun n o a ho => ?_) P 0 N 0 (by omega) (by omega)
    · exact e
    · simp only [L_X8_moodBehindLook_26]
      rw [if_pos (nI_le (Nat.le_refl P) (by omega)), gd_t (ix7 (by omega)), gd_t (ix7 (by omega)), nI_cl (by omega), ob_t (sw_sp _ _), gd_t (ix7 (by omega)), gd_t (nz_t (nI_ne0 (by omega) (by omega))), gd_t (ix7 (by omega))]
      rfl
    · rw [L_X8_moodBehindLook_26, if_neg (nI_nge ho hP), gd_t (ix7 (by omega)), nI_cl (by omega), hy p hp, ob_t (isIn_sp _ _), t01_if, inn_bS _ hP (by omega), gd_t (ix7 (by omega)), nI_cl (by omega)]
      simp only [ho, decide_true, Bool.true_and]
      cases viS h r shut p o <;> rfl
