/-! THE PURE LAYER: on how many days it carries; copies -/
def hoS (h k f r : Nat → Int32) (shut needed : Int32) (P : Nat) : Nat → (Nat → Int32) → Int32 → Int32
  | 0, _, a => a
  | n + 1, m, a => hoS h k f r shut needed P n (dyS h k f r shut P m) (a + t01 (caS h k f r (dyS h k f r shut P m) P shut needed))
theorem oneIf_sp (b : Bool) : f_X9_oneIf (t01 b) = some (t01 b) := by cases b <;> rfl
theorem X8_carriedDays_lp (h k f r y : Nat → Int32) (shut needed : Int32) {P N n : Nat} (hP : P ≤ 7) (hr : OkR r P) (hn : n < 1000) (hy : ∀ p, p < P → y p = bS (viS h r shut p) P) (hN : 8 ≤ N) :
    ∀ (d j q : Nat) (b : Bool) (m : Nat → Int32) (day a : Int32), j + d = n → d < q → (b = false → dyS h k f r shut P m = m) → ∃ b' : Bool, L_X8_carriedDays_14 N h k f r shut (nI P) needed (nI n) y q (nI j) (t01 (caS h k f r m P shut needed)) a (t01 b) day m = some (hoS h k f r shut needed P d m a, t01 b', day + nI d, itS h k f r shut P d m, y)
  | 0, j, 0, _, _, _, _, _, h, _ => absurd h (by omega)
  | 0, j, q + 1, b, m, day, a, hj, _, _ => by
    have : j = n := by omega
    subst this
    refine ⟨b, ?_⟩
    rw [L_X8_carriedDays_14, if_pos (nI_le (Nat.le_refl j) (by omega)), nI_0, Int32.add_zero]
    rfl
  | d + 1, j, 0, _, _, _, _, _, h, _ => absurd h (by omega)
  | d + 1, j, q + 1, b, m, day, a, hj, hq, hb => by
    obtain ⟨b1, e1, hb1⟩ := X8_nextDay_sp h k f r m y shut day b hP hy hN hb
    obtain ⟨b2, e2⟩ := X8_carriedDays_lp h k f r y shut needed hP hr hn hy hN d (j + 1) q b1 (dyS h k f r shut P m) (day + 1) (a + t01 (caS h k f r (dyS h k f r shut P m) P shut needed)) (by omega) (by omega) (fun z => by rw [hb1 z]; exact hb1 z)
    refine ⟨b2, ?_⟩
    rw [L_X8_carriedDays_14, if_neg (nI_ge (by omega) (by omega)), ob_t e1]
    show (if t01 b1 = 0 then _ else _) = _
    rw [t01_if, ob_t (oneIf_sp _), ob_t (X8_isCarried_sp h k f r _ shut needed hP hr hN), ob_t (oneIf_sp _), nI_1]
    have ed : day + nI (d + 1) = day + 1 + nI d := by rw [nI_succ, Int32.add_assoc, Int32.add_comm 1 (nI d)]
    rw [ed]
    cases b1 with
    | true => exact e2
    | false =>
      have e3 := hb1 rfl
      rw [e3] at e2 ⊢
      rw [show hoS h k f r shut needed P (d + 1) m a = hoS h k f r shut needed P d (dyS h k f r shut P m) (a + t01 (caS h k f r (dyS h k f r shut P m) P shut needed)) from rfl, show itS h k f r shut P (d + 1) m = itS h k f r shut P d (dyS h k f r shut P m) from rfl, e3]
      exact e2
theorem X8_carriedDays_sp (h k f r m y : Nat → Int32) (shut needed day : Int32) {P N n : Nat} (hP : P ≤ 7) (hr : OkR r P) (hn : n < 1000) (hN : 1001 ≤ N) : ∃ (b : Bool) (y' : Nat → Int32), f_X8_carriedDays N h k f r m y shut (nI P) needed day (nI n) = some (hoS h k f r shut needed P n m 0, t01 b, day + nI n, itS h k f r shut P n m, y') := by
  obtain ⟨y', e, hy⟩ := X8_startDays_sp h r y shut hP hr (show 8 ≤ N by omega)
  obtain ⟨b, e2⟩ := X8_carriedDays_lp h k f r y' shut needed hP hr hn hy (show 8 ≤ N by omega) n 0 N true m day 0 (by omega) (by omega) (fun z => by cases z)
  refine ⟨b, y', ?_⟩
  rw [f_X8_carriedDays, ob_t e]
  show ob (f_X8_isCarried N h k f r m shut (nI P) needed) _ = _
  rw [ob_t (X8_isCarried_sp h k f r m shut needed hP hr (by omega))]
  exact e2
section SM4
variable {h k f r m : Nat → Int32} {P : Nat} {shut needed day : Int32} {S : Nat → Int32}
theorem X10_holdsIn_lp (hP : P ≤ 7) (hh : OkH h) (hr : OkR r P) (hf : OkF f P) {N n : Nat} (hN : 8 ≤ N) (hn : n < 1000) : ∀ (d j q : Nat) (m S : Nat → Int32) (day a : Int32), Sm h k f r m P shut needed day S → j + d = n → d < q → ∃ S', L_X10_holdsIn_4 N (nI n) q (nI j) a S = some (hoS h k f r shut needed P d m a, S') ∧ Sm h k f r (itS h k f r shut P d m) P shut needed (day + nI d) S'
  | 0, j, 0, _, _, _, _, _, _, h => absurd h (by omega)
  | 0, j, q + 1, m, S, day, a, hS, hj, _ => by
    have : j = n := by omega
    subst this
    refine ⟨S, ?_, by rw [nI_0, Int32.add_zero]; exact hS⟩
    rw [L_X10_holdsIn_4, if_pos (nI_le (Nat.le_refl j) (by omega))]
    rfl
  | d + 1, j, 0, _, _, _, _, _, _, h => absurd h (by omega)
  | d + 1, j, q + 1, m, S, day, a, hS, hj, hq => by
    obtain ⟨S1, e1, hS1⟩ := X10_day_sp hS hP hh hr hf hN
    obtain ⟨S2, e2, hS2⟩ := X10_holdsIn_lp hP hh hr hf hN hn d (j + 1) q _ S1 (day + 1) (a + t01 (caS h k f r (dyS h k f r shut P m) P shut needed)) hS1 (by omega) (by omega)
    refine ⟨S2, ?_, ?_⟩
    · rw [L_X10_holdsIn_4, if_neg (nI_ge (by omega) (by omega)), ob_t e1, ob_t (X10_doesCarry_sp hS1 hP hr hN), t01_if, nI_1]
      rw [show hoS h k f r shut needed P (d + 1) m a = hoS h k f r shut needed P d (dyS h k f r shut P m) (a + t01 (caS h k f r (dyS h k f r shut P m) P shut needed)) from rfl, ← e2]
      cases caS h k f r (dyS h k f r shut P m) P shut needed <;> rfl
    · rw [nI_succ, Int32.add_comm (nI d) 1, ← Int32.add_assoc]
      exact hS2
theorem X10_holdsIn_sp (hS : Sm h k f r m P shut needed day S) (hP : P ≤ 7) (hh : OkH h) (hr : OkR r P) (hf : OkF f P) {N n : Nat} (hN : 1001 ≤ N) (hn : n < 1000) : ∃ S', f_X10_holdsIn N S (nI n) = some (hoS h k f r shut needed P n m 0, S') ∧ Sm h k f r (itS h k f r shut P n m) P shut needed (day + nI n) S' := by
  rw [f_X10_holdsIn]
  exact X10_holdsIn_lp hP hh hr hf (by omega) hn n 0 N m S day 0 hS (by omega) (by omega)
theorem Sm.ext (hS : Sm h k f r m P shut needed day S) (hP : P ≤ 7) {S' : Nat → Int32} (he : ∀ i, i < 42 → S' i = S i) : Sm h k f r m P shut needed day S' := by
  obtain ⟨h0, h1, h2, h3, h4, h5⟩ := hS
  refine ⟨by rw [he _ (by omega)]; exact h0, by rw [he _ (by omega)]; exact h1, by rw [he _ (by omega)]; exact h2, by rw [he _ (by omega)]; exact h3, fun b hb => by rw [he _ (by omega)]; exact h4 b hb, fun q hq => ?_⟩
  obtain ⟨a0, a1, a2, a3⟩ := h5 q hq
  exact ⟨by rw [he _ (by omega)]; exact a0, by rw [he _ (by omega)]; exact a1, by rw [he _ (by omega)]; exact a2, by rw [he _ (by omega)]; exact a3⟩
end SM4
theorem copies_sp (ra ta : Nat → Int32) {N : Nat} (hN : 43 ≤ N) : ∃ t, f_X10_copies N ra ta = some t ∧ ∀ i, i < 42 → t i = ra i := by
  have key2 : ∀ (d j : Nat) (z : Nat → Int32) (q : Nat), q < j → fup (fun i z => upd z i (ra i)) j d z q = z q := by
    intro d
    induction d with
    | zero => intro j z q h; rfl
    | succ d ih =>
      intro j z q h9
      show fup _ (j + 1) d (upd z j (ra j)) q = _
      rw [ih (j + 1) _ q (by omega), upd_ne _ _ (by omega)]
  have key : ∀ (d j : Nat) (z : Nat → Int32) (q : Nat), j ≤ q → q < j + d → fup (fun i z => upd z i (ra i)) j d z q = ra q := by
    intro d
    induction d with
    | zero => intro j z q h1 h2; omega
    | succ d ih =>
      intro j z q h1 h2
      show fup _ (j + 1) d (upd z j (ra j)) q = _
      by_cases hq : q = j
      · subst hq
        rw [key2 d (q + 1) _ q (by omega), upd_at]
      · exact ih (j + 1) _ q (by omega) (by omega)
  refine ⟨fup (fun i z => upd z i (ra i)) 0 42 ta, ?_, fun i hi => key 42 0 ta i (by omega) (by omega)⟩
  rw [f_X10_copies]
  refine lup (P := 42) (fun n i a => L_X10_copies_2 ra n i a) (fun i z => upd z i (ra i)) some (fun n a => ?_) (fun n j a hj => ?_) 42 0 N ta (by omega) (by omega)
  · simp only [L_X10_copies_2]
    rw [if_pos (show (42 : Int32) ≤ nI 42 by decide)]
  · rw [L_X10_copies_2, if_neg (show ¬ (42 : Int32) ≤ nI j from nI_ge (b := 42) hj (by omega)), gd_t (ix42 hj), gd_t (ix42 hj), nI_cl (by omega)]
    rfl
/-! when it carries first -/
def weS (h k f r : Nat → Int32) (shut needed : Int32) (P : Nat) : Nat → Nat → (Nat → Int32) → Int32
  | 0, _, _ => -4
  | d + 1, j, m => if caS h k f r m P shut needed then nI j else weS h k f r shut needed P d (j + 1) (dyS h k f r shut P m)
