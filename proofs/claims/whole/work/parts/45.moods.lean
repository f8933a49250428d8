/-! THE PURE LAYER: moods stay between -9 and 9 -/
def OkM (m : Nat → Int32) (P : Nat) : Prop := ∀ p, p < P → -9 ≤ (m p).toInt ∧ (m p).toInt ≤ 9
theorem i_add {x y : Int32} (h1 : -1000000000 ≤ x.toInt + y.toInt) (h2 : x.toInt + y.toInt ≤ 1000000000) : (x + y).toInt = x.toInt + y.toInt := by
  rw [Int32.toInt_add]
  exact Int.bmod_eq_of_le (by omega) (by omega)
theorem i_sub {x y : Int32} (h1 : -1000000000 ≤ x.toInt - y.toInt) (h2 : x.toInt - y.toInt ≤ 1000000000) : (x - y).toInt = x.toInt - y.toInt := by
  rw [Int32.toInt_sub]
  exact Int.bmod_eq_of_le (by omega) (by omega)
theorem sums_in {m : Nat → Int32} {P : Nat} (hm : OkM m P) (hP : P ≤ 7) (c : Nat → Bool) : ∀ (d k : Nat) (a : Int32) (n : Nat), n ≤ k → k + d ≤ P → -(9 * (n : Int)) ≤ a.toInt → a.toInt ≤ 9 * (n : Int) →
    -(9 * ((fup (fun j a => if c j then a + 1 else a) k d n : Nat) : Int)) ≤ (fup (fun o a => if c o then a + m o else a) k d a).toInt ∧ (fup (fun o a => if c o then a + m o else a) k d a).toInt ≤ 9 * ((fup (fun j a => if c j then a + 1 else a) k d n : Nat) : Int)
  | 0, k, a, n, hn, hk, h1, h2 => ⟨h1, h2⟩
  | d + 1, k, a, n, hn, hk, h1, h2 => by
    obtain ⟨m1, m2⟩ := hm k (by omega)
    cases hc : c k with
    | false =>
      have ih := sums_in hm hP c d (k + 1) a n (by omega) (by omega) h1 h2
      simp only [fup, hc, Bool.false_eq_true, reduceIte]
      exact ih
    | true =>
      have e := i_add (x := a) (y := m k) (by omega) (by omega)
      have ih := sums_in hm hP c d (k + 1) (a + m k) (n + 1) (by omega) (by omega) (by rw [e]; omega) (by rw [e]; omega)
      simp only [fup, hc, reduceIte]
      exact ih
theorem avg_in {A : Int32} {C : Nat} (hC : 0 < C) (hC2 : C ≤ 7) (h1 : -(9 * (C : Int)) ≤ A.toInt) (h2 : A.toInt ≤ 9 * (C : Int)) : -9 ≤ (A / nI C).toInt ∧ (A / nI C).toInt ≤ 9 := by
  have hc : (0 : Int) < (C : Int) := by omega
  have t0 : (9 * (C : Int)).tdiv C = 9 := Int.mul_tdiv_cancel 9 (by omega)
  have t1 := Int.tdiv_le_tdiv hc h2
  have t2 := Int.tdiv_le_tdiv hc h1
  rw [t0] at t1
  rw [Int.neg_tdiv, t0] at t2
  have e : (A / nI C).toInt = A.toInt.tdiv C := by
    rw [Int32.toInt_div, nI_toInt (by omega)]
    exact Int.bmod_eq_of_le (by omega) (by omega)
  rw [e]
  exact ⟨t2, t1⟩
theorem cl_in {j : Nat} (hj : j < 6) {x z : Int32} {t : Int} (hx1 : -9 ≤ x.toInt) (hx2 : x.toInt ≤ 9) (ht1 : -9 ≤ t) (ht2 : t ≤ 9) (hz : z.toInt = t - x.toInt) : -9 ≤ (x + cl (nI j) z).toInt ∧ (x + cl (nI j) z).toInt ≤ 9 := by
  have hn : (-nI j).toInt = -(j : Int) := sb_negT (by omega)
  have hp : (nI j).toInt = (j : Int) := nI_toInt (by omega)
  by_cases q1 : z < nI j
  · by_cases q2 : -nI j < z
    · have e : cl (nI j) z = z := by unfold cl; rw [if_pos q1, if_pos q2]
      rw [e, i_add (by omega) (by omega)]
      omega
    · have e : cl (nI j) z = -nI j := by unfold cl; rw [if_pos q1, if_neg q2]
      rw [Int32.lt_iff_toInt_lt, hn] at q2
      rw [e, i_add (by omega) (by omega)]
      omega
  · by_cases q2 : -nI j < nI j
    · have e : cl (nI j) z = nI j := by unfold cl; rw [if_neg q1, if_pos q2]
      rw [Int32.lt_iff_toInt_lt, hp] at q1
      rw [e, i_add (by omega) (by omega)]
      omega
    · have e : cl (nI j) z = -nI j := by unfold cl; rw [if_neg q1, if_neg q2]
      rw [Int32.lt_iff_toInt_lt, hn, hp] at q2
      rw [e, i_add (by omega) (by omega)]
      omega
theorem nm_in {h k f r m : Nat → Int32} {shut : Int32} {P p : Nat} (hm : OkM m P) (hP : P ≤ 7) (hf : OkF f P) (hp : p < P) : -9 ≤ (nmS h k f r shut P p m).toInt ∧ (nmS h k f r shut P p m).toInt ≤ 9 := by
  obtain ⟨m1, m2⟩ := hm p hp
  unfold nmS
  by_cases h0 : cntS (viS h r shut p) P = 0
  · rw [if_pos h0]
    exact ⟨m1, m2⟩
  · rw [if_neg h0]
    have hc : cntS (viS h r shut p) P ≤ P := by have := cnt_le (viS h r shut p) P 0 0; unfold cntS; omega
    obtain ⟨j, hj, ej⟩ := sw_rng (k := k) hf hp
    obtain ⟨s1, s2⟩ := sums_in hm hP (viS h r shut p) P 0 0 0 (by omega) (by omega) (by decide) (by decide)
    obtain ⟨a1, a2⟩ := avg_in (A := smS (viS h r shut p) m P) (C := cntS (viS h r shut p) P) (by omega) (by omega) s1 s2
    rw [ej]
    exact cl_in hj m1 m2 a1 a2 (i_sub (by omega) (by omega))
theorem OkM.upd {m : Nat → Int32} {P : Nat} (hm : OkM m P) {p : Nat} {x : Int32} (h1 : -9 ≤ x.toInt) (h2 : x.toInt ≤ 9) : OkM (upd m p x) P := by
  intro q hq
  by_cases e : q = p
  · subst e
    rw [upd_at]
    exact ⟨h1, h2⟩
  · rw [upd_ne _ _ e]
    exact hm q hq
theorem fup_in {h k f r : Nat → Int32} {shut : Int32} {P : Nat} (hP : P ≤ 7) (hf : OkF f P) : ∀ (d j : Nat) (m : Nat → Int32), j + d ≤ P → OkM m P → OkM (fup (fun p m => upd m p (nmS h k f r shut P p m)) j d m) P
  | 0, _, _, _, hm => hm
  | d + 1, j, m, hj, hm => by
    obtain ⟨a1, a2⟩ := nm_in (h := h) (k := k) (r := r) (shut := shut) hm hP hf (show j < P by omega)
    exact fup_in hP hf d (j + 1) _ (by omega) (hm.upd a1 a2)
theorem dy_in {h k f r m : Nat → Int32} {shut : Int32} {P : Nat} (hP : P ≤ 7) (hf : OkF f P) (hm : OkM m P) : OkM (dyS h k f r shut P m) P := fup_in hP hf P 0 m (by omega) hm
theorem it_in {h k f r : Nat → Int32} {shut : Int32} {P : Nat} (hP : P ≤ 7) (hf : OkF f P) : ∀ (n : Nat) (m : Nat → Int32), OkM m P → OkM (itS h k f r shut P n m) P
  | 0, _, hm => hm
  | n + 1, m, hm => it_in hP hf n _ (dy_in hP hf hm)
