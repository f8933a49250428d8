/-! THE PURE LAYER: fractions; power, mean, rain -/
theorem lcmp0 {n : Nat} (hn : n < 2 ^ 62) : (lg_cmp (lN n) (0 : Int64) = 0) = (n = 0) := by
  rw [show (0 : Int64) = lN 0 from rfl]
  refine propext ⟨fun h => ?_, fun h => ?_⟩
  · exact (pk_lEQ (by omega) (by omega)).mp ((lg_cmp_eq _ _).mp h)
  · rw [h]
    exact (lg_cmp_eq _ _).mpr rfl
theorem nzl_t {n : Nat} (h0 : 0 < n) (hn : n < 2 ^ 62) : nzl (lN n) = true := by
  refine decide_eq_true (p := ¬ lN n = 0) (fun h => ?_)
  have := (pk_lEQ (a := n) (b := 0) (by omega) (by omega)).mp h
  omega
theorem gcd_step (x y : Nat) : Nat.gcd x y = Nat.gcd y (x % y) := by
  rw [Nat.gcd_comm, Nat.gcd_rec, Nat.gcd_comm]
theorem half_rem {y q Q : Nat} (hq : 0 < q) (h : q ≤ y) (hy : y < Q * 2) : y % q < Q := by
  have h1 := Nat.div_add_mod y q
  have h2 : 1 ≤ y / q := (Nat.le_div_iff_mul_le hq).mpr (by omega)
  have h3 : q * 1 ≤ q * (y / q) := Nat.mul_le_mul_left q h2
  have h4 := Nat.mod_lt y hq
  omega
theorem gcd_m : ∀ (k n x y : Nat), x < 2 ^ 62 → y < 2 ^ k → y < 2 ^ 62 → 2 * k < n → L_X10_gcd_17 n (lN y) (lN x) = some (lN (Nat.gcd x y))
  | 0, 0, _, _, _, _, _, h => absurd h (by omega)
  | 0, n + 1, x, y, hx, hy, _, _ => by
    have : y = 0 := by omega
    subst this
    rw [L_X10_gcd_17, if_pos (show lg_cmp (lN 0) (0 : Int64) = 0 from (lg_cmp_eq _ _).mpr rfl), Nat.gcd_zero_right]
  | k + 1, 0, _, _, _, _, _, h => absurd h (by omega)
  | k + 1, 1, _, _, _, _, _, h => absurd h (by omega)
  | k + 1, n + 2, x, y, hx, hy, hy2, hn => by
    rw [L_X10_gcd_17]
    simp only [lcmp0 hy2]
    by_cases h0 : y = 0
    · subst h0
      rw [if_pos rfl, Nat.gcd_zero_right]
    · have hm := Nat.mod_lt x (show y > 0 by omega)
      rw [if_neg h0, gd_t (nzl_t (by omega) hy2), pk_lRem (by omega) (by omega) (by omega), L_X10_gcd_17]
      simp only [lcmp0 (show x % y < 2 ^ 62 by omega)]
      by_cases h1 : x % y = 0
      · rw [if_pos h1, gcd_step, h1, Nat.gcd_zero_right]
      · rw [if_neg h1, gd_t (nzl_t (by omega) (by omega)), pk_lRem (by omega) (by omega) (by omega), gcd_step x y, gcd_step y (x % y)]
        have hp : 2 ^ (k + 1) = 2 ^ k * 2 := Nat.pow_succ 2 k
        have hm2 := Nat.mod_lt y (show x % y > 0 by omega)
        exact gcd_m k n (x % y) (y % (x % y)) (by omega) (half_rem (by omega) (by omega) (by omega)) (by omega) (by omega)
theorem gcd_c : ∀ (k n c x y : Nat), x < 2 ^ 62 → y < 2 ^ k → y < 2 ^ 62 → 2 * k < n → c + 2 * k < 100 → L_X1_commonDivisor_9 n (nI c) (lN y) (lN x) = some (lN (Nat.gcd x y))
  | 0, 0, _, _, _, _, _, _, h, _ => absurd h (by omega)
  | 0, n + 1, c, x, y, hx, hy, _, _, hc => by
    have : y = 0 := by omega
    subst this
    rw [L_X1_commonDivisor_9, if_neg (show ¬ (100 : Int32) ≤ nI c from nI_ge (b := 100) (by omega) (by omega)), if_pos (show lg_cmp (lN 0) (0 : Int64) = 0 from (lg_cmp_eq _ _).mpr rfl), Nat.gcd_zero_right]
  | k + 1, 0, _, _, _, _, _, _, h, _ => absurd h (by omega)
  | k + 1, 1, _, _, _, _, _, _, h, _ => absurd h (by omega)
  | k + 1, n + 2, c, x, y, hx, hy, hy2, hn, hc => by
    rw [L_X1_commonDivisor_9, if_neg (show ¬ (100 : Int32) ≤ nI c from nI_ge (b := 100) (by omega) (by omega))]
    simp only [lcmp0 hy2]
    by_cases h0 : y = 0
    · subst h0
      rw [if_pos rfl, Nat.gcd_zero_right]
    · have hm := Nat.mod_lt x (show y > 0 by omega)
      rw [if_neg h0, gd_t (nzl_t (by omega) hy2), pk_lRem (by omega) (by omega) (by omega), nI_1, L_X1_commonDivisor_9, if_neg (show ¬ (100 : Int32) ≤ nI (c + 1) from nI_ge (b := 100) (by omega) (by omega))]
      simp only [lcmp0 (show x % y < 2 ^ 62 by omega)]
      by_cases h1 : x % y = 0
      · rw [if_pos h1, gcd_step, h1, Nat.gcd_zero_right]
      · rw [if_neg h1, gd_t (nzl_t (by omega) (by omega)), pk_lRem (by omega) (by omega) (by omega), nI_1, gcd_step x y, gcd_step y (x % y)]
        have hp : 2 ^ (k + 1) = 2 ^ k * 2 := Nat.pow_succ 2 k
        have hm2 := Nat.mod_lt y (show x % y > 0 by omega)
        exact gcd_c k n (c + 1 + 1) (x % y) (y % (x % y)) (by omega) (half_rem (by omega) (by omega) (by omega)) (by omega) (by omega) (by omega)
theorem neg_lN {A : Nat} (h0 : 0 < A) (hA : A < 2 ^ 40) : (-lN A).toInt = -(A : Int) := by
  rw [Int64.toInt_neg, pk_lT (by omega)]
  exact Int.bmod_eq_of_le (by omega) (by omega)
theorem fr_ag {a : Int64} {A B p N : Nat} (ha : a = lN A ∨ a = -lN A) (hA : A < 2 ^ 40) (hB0 : 0 < B) (hB : B < 2 ^ 31) (hp : p = 0 ∨ p = 1) (hN : 1001 ≤ N) (b' : Int64) (hb : A = 0 ∨ b' = lN B) : ∃ v : Int64, f_X1_inLeastTerms N a (lN B) (nI p) = some v ∧ f_X10_partOf N a b' (nI p) = some v := by
  have z0 : (0 : Int64).toInt = 0 := by decide
  by_cases h0 : A = 0
  · subst h0
    have ea : a = 0 := by rcases ha with rfl | rfl <;> rfl
    subst ea
    have e1 : f_X1_commonDivisor N (if 0 < (0 : Int64) then 0 else -0) (lN B) = some (lN B) := by
      rw [if_neg (by decide), show (-0 : Int64) = lN 0 from rfl, f_X1_commonDivisor]
      have := gcd_c 31 N 0 0 B (by omega) hB (by omega) (by omega) (by omega)
      rw [Nat.gcd_zero_left] at this
      exact this
    have e2 : 0 ≤ lg_cmp (lN B) (1 : Int64) := (lg_cmp_ge _ _).mpr ((pk_lLE (a := 1) (by omega) (by omega)).mpr hB0)
    have e3 : (0 : Int64) / lN B = 0 := by
      have := pk_lDiv (a := 0) (b := B) (by omega) hB0 (by omega)
      rw [Nat.zero_div] at this
      exact this
    have e4 : lN B / lN B = 1 := by
      have := pk_lDiv (a := B) (b := B) (by omega) hB0 (by omega)
      rw [Nat.div_self hB0] at this
      exact this
    refine ⟨(nI p).toInt64, ?_, ?_⟩
    · rw [f_X1_inLeastTerms, ob_t e1, if_pos e2, gd_t (nzl_t hB0 (by omega)), gd_t (nzl_t hB0 (by omega)), e3, e4]
      rcases hp with rfl | rfl <;> rfl
    · rw [f_X10_partOf, if_pos ((lg_cmp_eq _ _).mpr rfl)]
  · have hb := hb.resolve_left h0
    subst hb
    have g0 : 0 < Nat.gcd A B := Nat.gcd_pos_of_pos_right A hB0
    have g1 : Nat.gcd A B ≤ B := Nat.gcd_le_right A hB0
    have pos : a = lN A → (0 < a ∧ 0 ≤ lg_cmp a (0 : Int64)) := fun e => by
      subst e
      have : (0 : Int64) < lN A := (pk_lLT (a := 0) (by omega) (by omega)).mpr (by omega)
      exact ⟨this, (lg_cmp_ge _ _).mpr (Int64.le_of_lt this)⟩
    have neg : a = -lN A → (¬ 0 < a ∧ ¬ 0 ≤ lg_cmp a (0 : Int64)) := fun e => by
      subst e
      have t := neg_lN (A := A) (by omega) hA
      refine ⟨fun q => ?_, fun q => ?_⟩
      · rw [Int64.lt_iff_toInt_lt, t, z0] at q
        omega
      · have q := (lg_cmp_ge _ _).mp q
        rw [Int64.le_iff_toInt_le, t, z0] at q
        omega
    have ne : ¬ lg_cmp a (0 : Int64) = 0 := fun q => by
      have q := (lg_cmp_eq _ _).mp q
      rcases ha with e | e
      · have := (pos e).1
        rw [q] at this
        exact absurd this (by decide)
      · have t := neg_lN (A := A) (by omega) hA
        rw [← e, q, z0] at t
        omega
    have ea : (if 0 < a then a else -a) = lN A := by
      rcases ha with e | e
      · rw [if_pos (pos e).1, e]
      · rw [if_neg (neg e).1, e, Int64.neg_neg]
    have eg : f_X10_gcd N a (lN B) = some (lN (Nat.gcd A B)) := by
      have := gcd_m 31 N A B (by omega) hB (by omega) (by omega)
      unfold f_X10_gcd
      rcases ha with e | e
      · rw [if_pos (pos e).2, e]
        exact this
      · rw [if_neg (neg e).2, e, Int64.neg_neg]
        exact this
    have e1 : f_X1_commonDivisor N (if 0 < a then a else -a) (lN B) = some (lN (Nat.gcd A B)) := by
      rw [ea]
      exact gcd_c 31 N 0 A B (by omega) hB (by omega) (by omega) (by omega)
    have e2 : 0 ≤ lg_cmp (lN (Nat.gcd A B)) (1 : Int64) := (lg_cmp_ge _ _).mpr ((pk_lLE (a := 1) (by omega) (by omega)).mpr g0)
    rw [f_X1_inLeastTerms, ob_t e1, if_pos e2, gd_t (nzl_t g0 (by omega)), gd_t (nzl_t g0 (by omega)), f_X10_partOf, if_neg ne, ob_t eg, ob_t eg, gd_t (nzl_t g0 (by omega)), gd_t (nzl_t g0 (by omega))]
    rcases hp with rfl | rfl
    · exact ⟨_, rfl, rfl⟩
    · exact ⟨_, rfl, rfl⟩
/-! orders -/
def fa (n : Nat) : Nat := fup (fun j a => a * j) 2 (n - 1) 1
theorem fa_in : ∀ n, n < 8 → 1 ≤ fa n ∧ fa n ≤ 5040 := by decide +kernel
theorem orders_c {n N : Nat} (hn : n < 8) (hN : 11 ≤ N) : f_X2_ordersOf N (nI n) = some (lN (fa n)) := by
  rw [f_X2_ordersOf]
  by_cases h0 : n = 0
  · subst h0
    obtain ⟨M, rfl⟩ : ∃ M, N = M + 1 := ⟨N - 1, by omega⟩
    rw [L_X2_ordersOf_4, if_pos (by decide)]
    rfl
  · refine lup (P := n + 1) (fun q i (a : Nat) => L_X2_ordersOf_4 (nI n) q i (lN a)) (fun j a => a * j) (fun a => some (lN a)) (fun q a => ?_) (fun q j a hj => ?_) (n - 1) 2 N 1 (by omega) (by omega)
    · simp only [L_X2_ordersOf_4]
      rw [if_pos (nI_lt (Nat.lt_succ_self n) (by omega))]
    · show L_X2_ordersOf_4 (nI n) (q + 1) (nI j) (lN a) = L_X2_ordersOf_4 (nI n) q (nI j + 1) (lN (a * j))
      rw [L_X2_ordersOf_4, if_neg (nI_nlt (by omega) (by omega)), nI_l (by omega), lN_mul]
theorem orders_m {n N : Nat} (hn : n < 8) (hN : 11 ≤ N) : f_X10_orders N (nI n) = some (lN (fa n)) := by
  rw [f_X10_orders]
  by_cases h0 : n = 0
  · subst h0
    obtain ⟨M, rfl⟩ : ∃ M, N = M + 1 := ⟨N - 1, by omega⟩
    rw [L_X10_orders_4, if_pos (by decide)]
    rfl
  · refine lup (P := n + 1) (fun q i (a : Nat) => L_X10_orders_4 (nI n) q i (lN a)) (fun j a => a * j) (fun a => some (lN a)) (fun q a => ?_) (fun q j a hj => ?_) (n - 1) 2 N 1 (by omega) (by omega)
    · simp only [L_X10_orders_4]
      rw [if_pos (nI_lt (Nat.lt_succ_self n) (by omega))]
    · show L_X10_orders_4 (nI n) (q + 1) (nI j) (lN a) = L_X10_orders_4 (nI n) q (nI j + 1) (lN (a * j))
      rw [L_X10_orders_4, if_neg (nI_nlt (by omega) (by omega)), nI_l (by omega), lN_mul]
theorem fup_le {st : Nat → Nat → Nat} {M : Nat} : ∀ (d k a : Nat), (∀ j a, k ≤ j → j < k + d → st j a ≤ a + M) → fup st k d a ≤ a + d * M
  | 0, _, _, _ => by show _ ≤ _; simp [fup]
  | d + 1, k, a, h => by
    have h1 := fup_le (st := st) (M := M) d (k + 1) (st k a) (fun j a h1 h2 => h j a (by omega) (by omega))
    have h2 := h k a (Nat.le_refl k) (by omega)
    have e : (d + 1) * M = d * M + M := Nat.succ_mul d M
    show fup st (k + 1) d (st k a) ≤ _
    omega
def poF (h k f r : Nat → Int32) (P : Nat) (q : Int32) (hv p g a : Nat) : Nat := if sub g hv && tuS h k f r P q (nI g) p then a + fa (pcN g - 1) * fa (pcN hv - pcN g) else a
theorem po_le {h k f r : Nat → Int32} {P : Nat} {q : Int32} {hv p g : Nat} (hg : g < 128) (hv1 : hv < 128) (a : Nat) : poF h k f r P q hv p g a ≤ a + 25401600 := by
  have p1 := (pc_in g hg).1
  have p2 := (pc_in hv hv1).1
  have f1 := (fa_in (pcN g - 1) (by omega)).2
  have f2 := (fa_in (pcN hv - pcN g) (by omega)).2
  have := Nat.mul_le_mul f1 f2
  unfold poF
  split <;> omega
theorem tu_inn {h k f r : Nat → Int32} {P : Nat} {q g : Int32} {p : Nat} (e : tuS h k f r P q g p = true) : inn g (nI p) = true := by
  unfold tuS at e
  simp only [Bool.and_eq_true] at e
  exact e.1.1
section FRA
variable {h k f r m : Nat → Int32} {P : Nat} {shut needed day : Int32} {S : Nat → Int32}
theorem ag_power (hS : St h k f r m P shut needed day S) (p1 p2 : Int32) {N : Nat} (hN : 1001 ≤ N) : ∃ res : Int64, f_X9_power N h k f r shut (nI P) needed p1 p2 = some res ∧ f_X10_power N S p1 p2 = some res := by
  obtain ⟨hs, hP, hh, hr, hf, hk, h2, h3⟩ := id hS
  have hQ := pow2_le hP
  obtain ⟨hv, hhv, e⟩ := hd_nat r shut hP
  have pv := (pc_in hv (by omega)).1
  rw [f_X9_power, f_X10_power, ob_t (isThere_sp _ _), ob_t (isSpeaker_sp hs hP _), t01_if, t01_if, ob_t (isWithin_sp _ _ _), ob_t (isInM_sp _ _ _), t01_if, t01_if]
  cases c1 : thB P p1 with
  | false => exact ⟨1000000001, rfl, rfl⟩
  | true =>
    cases c2 : wiB p2 0 1 with
    | false => exact ⟨1000000001, rfl, rfl⟩
    | true =>
      obtain ⟨p, hp, rfl⟩ := thB_of hP c1
      obtain ⟨x, -, hx, rfl⟩ := wiB_of (a := 0) (b := 1) (by omega) (by omega) c2
      have hx2 : x = 0 ∨ x = 1 := by omega
      have fb := fa_in (pcN hv) (by omega)
      have bound : fup (poF h k f r P needed hv p) 0 (hv + 1) 0 ≤ 0 + (hv + 1) * 25401600 := fup_le (hv + 1) 0 0 (fun j a h1 h2 => po_le (by omega) (by omega) a)
      have bound2 : (hv + 1) * 25401600 ≤ 128 * 25401600 := Nat.mul_le_mul_right _ (by omega)
      obtain ⟨v, v1, v2⟩ := fr_ag (a := lN (fup (poF h k f r P needed hv p) 0 (hv + 1) 0)) (A := fup (poF h k f r P needed hv p) 0 (hv + 1) 0) (B := fa (pcN hv)) (p := x) (N := N) (Or.inl rfl) (by omega) (by omega) (by omega) hx2 hN (lN (fa (pcN hv))) (Or.inr rfl)
      refine ⟨v, ?_, ?_⟩
      · simp only [if_true]
        have et : f_X2_ordersTurned N h k f r shut (nI P) needed (nI p) = some (lN (fup (poF h k f r P needed hv p) 0 (hv + 1) 0)) := by
          rw [f_X2_ordersTurned, ob_t (X8_heardOnes_sp r shut hP (by omega)), e, ob_t (pc_cls hv (by omega)).1]
          refine lup (P := hv + 1) (fun n i (a : Nat) => L_X2_ordersTurned_16 N h k f r (nI P) needed (nI p) (nI hv) (nI (pcN hv)) n i (lN a)) (poF h k f r P needed hv p) (fun a => some (lN a)) (fun n a => ?_) (fun n g a hg => ?_) (hv + 1) 0 N 0 (by omega) (by omega)
          · simp only [L_X2_ordersTurned_16]
            rw [if_pos (nI_lt (Nat.lt_succ_self hv) (by omega))]
          · show L_X2_ordersTurned_16 N h k f r (nI P) needed (nI p) (nI hv) (nI (pcN hv)) (n + 1) (nI g) (lN a) = L_X2_ordersTurned_16 N h k f r (nI P) needed (nI p) (nI hv) (nI (pcN hv)) n (nI g + 1) (lN (poF h k f r P needed hv p g a))
            rw [L_X2_ordersTurned_16, if_neg (nI_nlt (by omega) (by omega)), ob_t (X2_isTurnedBy_sp h k f r needed _ hP hr (by omega)), t01_if]
            rw [sub_if]
            cases z : sub g hv with
            | false => simp [poF, z]
            | true =>
              simp only [if_true]
              cases tu : tuS h k f r P needed (nI g) p with
              | false => simp [poF, z, tu]
              | true =>
                obtain ⟨-, -, pg⟩ := sub_facts g (by omega) hv (by omega) z
                have pg1 := (pc_in g (by omega)).2 p (by omega) (tu_inn tu)
                simp only [if_true]
                rw [ob_t (pc_cls g (by omega)).1, show nI (pcN g) - 1 = nI (pcN g - 1) from pk_sub (b := 1) pg1, pk_sub pg, ob_t (orders_c (by omega) (by omega)), ob_t (orders_c (by omega) (by omega)), lN_mul, lN_add]
                simp [poF, z, tu]
        have eo : f_X2_ordersOfHeard N r shut (nI P) = some (lN (fa (pcN hv))) := by
          rw [f_X2_ordersOfHeard, ob_t (X8_heardOnes_sp r shut hP (by omega)), e, ob_t (pc_cls hv (by omega)).1, ob_t (orders_c (by omega) (by omega))]
        rw [ob_t et, ob_t eo, ob_t v1]
      · simp only [if_true]
        rw [ob_t (X10_heardIn_sp hs hP (by omega)), e, ob_t (bits_sp (by omega) (by omega))]
        have ec : fup (poF h k f r P needed hv p) 0 (2 ^ P) 0 = fup (poF h k f r P needed hv p) 0 (hv + 1) 0 := grp_cut _ hhv (fun j a h1 h2 => by
          have : sub j hv = false := by
            cases z : sub j hv with
            | false => rfl
            | true => exact absurd (sub_facts j (by omega) hv (by omega) z).1 (by omega)
          unfold poF
          simp [this]) 0
        have ef := lup (P := 2 ^ P) (fun n i (a : Nat) => L_X10_power_38 N S (nI p) (nI x) (nI (pcN hv)) n i (lN a)) (poF h k f r P needed hv p) (fun a => f_X10_partOf N (lN a) (lN (fa (pcN hv))) (nI x)) (fun n a => ?_) (fun n g a hg => ?_) (2 ^ P) 0 N 0 (by omega) (by omega)
        · refine Eq.trans ef ?_
          show f_X10_partOf N (lN (fup (poF h k f r P needed hv p) 0 (2 ^ P) 0)) (lN (fa (pcN hv))) (nI x) = some v
          rw [ec]
          exact v2
        · show L_X10_power_38 N S (nI p) (nI x) (nI (pcN hv)) (n + 1) (nI (2 ^ P)) (lN a) = _
          rw [L_X10_power_38, hs.1, pow2 P hP, if_pos (nI_le (Nat.le_refl _) (by omega)), ob_t (orders_m (by omega) (by omega))]
          cases f_X10_partOf N (lN a) (lN (fa (pcN hv))) (nI x) <;> rfl
        · show L_X10_power_38 N S (nI p) (nI x) (nI (pcN hv)) (n + 1) (nI g) (lN a) = L_X10_power_38 N S (nI p) (nI x) (nI (pcN hv)) n (nI g + 1) (lN (poF h k f r P needed hv p g a))
          rw [L_X10_power_38, hs.1, pow2 P hP, if_neg (nI_ge hg (by omega)), ob_t (ofHeard_g hs hP e (by omega)), t01_if]
          cases z : sub g hv with
          | false => simp [poF, z]
          | true =>
            obtain ⟨-, hg2, pg⟩ := sub_facts g (by omega) hv (by omega) z
            simp only [if_true]
            rw [ob_t (swing_g hs hP hr e hg2 (by omega)), t01_if]
            cases tu : tuS h k f r P needed (nI g) p with
            | false => simp [poF, z, tu]
            | true =>
              have pg1 := (pc_in g (by omega)).2 p (by omega) (tu_inn tu)
              simp only [if_true]
              rw [ob_t (bits_sp (by omega) (by omega)), show nI (pcN g) - 1 = nI (pcN g - 1) from pk_sub (b := 1) pg1, ob_t (orders_m (by omega) (by omega)), ob_t (bits_sp (by omega) (by omega)), pk_sub pg, ob_t (orders_m (by omega) (by omega)), lN_mul, lN_add]
              simp [poF, z, tu]
/-! mean -/
theorem toL_add {x y : Int32} (h1 : -1000000000 ≤ x.toInt + y.toInt) (h2 : x.toInt + y.toInt ≤ 1000000000) (b1 : -1000000000 ≤ x.toInt) (b2 : x.toInt ≤ 1000000000) : (x + y).toInt64 = x.toInt64 + y.toInt64 := by
  apply Int64.toInt_inj.mp
  rw [Int32.toInt_toInt64, i_add h1 h2, Int64.toInt_add, Int32.toInt_toInt64, Int32.toInt_toInt64]
  exact (Int.bmod_eq_of_le (by omega) (by omega)).symm
theorem mean_fold {m : Nat → Int32} {P : Nat} (hm : OkM m P) (hP : P ≤ 7) : ∀ (d j : Nat) (a : Int32), j + d ≤ P → -(9 * (j : Int)) ≤ a.toInt → a.toInt ≤ 9 * (j : Int) → (fup (fun p a => a + m p) j d a).toInt64 = fup (fun p a => a + (m p).toInt64) j d a.toInt64 ∧ -63 ≤ (fup (fun p a => a + m p) j d a).toInt ∧ (fup (fun p a => a + m p) j d a).toInt ≤ 63
  | 0, j, a, hj, h1, h2 => ⟨rfl, by show -63 ≤ a.toInt; omega, by show a.toInt ≤ 63; omega⟩
  | d + 1, j, a, hj, h1, h2 => by
    obtain ⟨m1, m2⟩ := hm j (by omega)
    have e := i_add (x := a) (y := m j) (by omega) (by omega)
    obtain ⟨i1, i2, i3⟩ := mean_fold hm hP d (j + 1) (a + m j) (by omega) (by rw [e]; omega) (by rw [e]; omega)
    refine ⟨?_, i2, i3⟩
    show (fup _ (j + 1) d (a + m j)).toInt64 = fup _ (j + 1) d (a.toInt64 + (m j).toInt64)
    rw [i1, toL_add (by omega) (by omega) (by omega) (by omega)]
theorem lN_abs {x : Int64} (h1 : -63 ≤ x.toInt) (h2 : x.toInt ≤ 63) : ∃ A : Nat, A ≤ 63 ∧ (x = lN A ∨ x = -lN A) ∧ (x.toInt = 0 → A = 0) := by
  refine ⟨x.toInt.natAbs, by omega, ?_, by omega⟩
  by_cases hz : 0 ≤ x.toInt
  · left
    apply Int64.toInt_inj.mp
    rw [lN_toInt (by omega)]
    omega
  · right
    apply Int64.toInt_inj.mp
    rw [neg_lN (by omega) (by omega)]
    omega
theorem ag_mean (hS : St h k f r m P shut needed day S) (p1 : Int32) {N : Nat} (hN : 1001 ≤ N) : ∃ res : Int64, f_X9_mean N m (nI P) p1 = some res ∧ f_X10_mean N S p1 = some res := by
  obtain ⟨hs, hP, hh, hr, hf, hk, h2, h3, hm⟩ := id hS
  rw [f_X9_mean, f_X10_mean, ob_t (isWithin_sp _ _ _), ob_t (isInM_sp _ _ _), t01_if, t01_if]
  cases c2 : wiB p1 0 1 with
  | false => exact ⟨1000000001, rfl, rfl⟩
  | true =>
    obtain ⟨x, -, hx, rfl⟩ := wiB_of (a := 0) (b := 1) (by omega) (by omega) c2
    have hx2 : x = 0 ∨ x = 1 := by omega
    obtain ⟨i1, i2, i3⟩ := mean_fold hm hP P 0 0 (by omega) (by decide) (by decide)
    have tt : ((fup (fun p a => a + m p) 0 P 0).toInt64).toInt = (fup (fun p a => a + m p) 0 P 0).toInt := Int32.toInt_toInt64 _
    obtain ⟨A, hA, ha, hA0⟩ := lN_abs (x := (fup (fun p a => a + m p) 0 P 0).toInt64) (by rw [tt]; exact i2) (by rw [tt]; exact i3)
    have eb : (if (1 : Int32) < nI P then nI P else (1 : Int32)).toInt64 = lN (if 1 < P then P else 1) := by
      by_cases z : 1 < P
      · rw [if_pos z, if_pos (show (1 : Int32) < nI P from nI_lt (a := 1) z (by omega)), nI_l (by omega)]
      · rw [if_neg z, if_neg (show ¬ (1 : Int32) < nI P from nI_nlt (b := P) (a := 1) (by omega) (by omega))]
        rfl
    have hb : A = 0 ∨ (nI P).toInt64 = lN (if 1 < P then P else 1) := by
      by_cases z : P = 0
      · left
        subst z
        exact hA0 (show ((0 : Int32).toInt64).toInt = 0 by decide)
      · right
        rw [nI_l (by omega)]
        exact congrArg lN (by split <;> omega)
    obtain ⟨v, v1, v2⟩ := fr_ag (B := if 1 < P then P else 1) (p := x) (N := N) ha (by omega) (by split <;> omega) (by split <;> omega) hx2 hN ((nI P).toInt64) hb
    refine ⟨v, ?_, ?_⟩
    · simp only [if_true]
      have ef := lup (P := P) (fun n i a => L_X9_mean_17 N m (nI P) (nI x) n i a) (fun p a => a + m p) (fun a => f_X1_inLeastTerms N a.toInt64 (lN (if 1 < P then P else 1)) (nI x)) (fun n a => ?_) (fun n p a hp => ?_) P 0 N 0 (by omega) (by omega)
      · exact Eq.trans ef v1
      · simp only [L_X9_mean_17]
        rw [if_pos (nI_le (Nat.le_refl P) (by omega)), eb]
        cases f_X1_inLeastTerms N a.toInt64 (lN (if 1 < P then P else 1)) (nI x) <;> rfl
      · rw [L_X9_mean_17, if_neg (nI_nge hp hP), gd_t (ix7 (by omega)), nI_cl (by omega)]
    · simp only [if_true]
      have ef := lup (P := P) (fun n i a => L_X10_mean_18 N S (nI x) n i a) (fun p a => a + (m p).toInt64) (fun a => f_X10_partOf N a ((nI P).toInt64) (nI x)) (fun n a => ?_) (fun n p a hp => ?_) P 0 N 0 (by omega) (by omega)
      · refine Eq.trans ef ?_
        rw [show (0 : Int64) = (0 : Int32).toInt64 from rfl, ← i1]
        exact v2
      · simp only [L_X10_mean_18]
        rw [hs.1, if_pos (nI_le (Nat.le_refl P) (by omega))]
        cases f_X10_partOf N a ((nI P).toInt64) (nI x) <;> rfl
      · rw [L_X10_mean_18, hs.1, if_neg (nI_nge hp hP), ob_t (of3 p), gd_t (ix42 (by omega)), nI_cl (by omega), (hs.2.2.2.2.2 p hp).2.2.2]
        rfl
/-! rain -/
def pw (b e : Nat) : Nat := fup (fun _ a => a * b) 0 e 1
theorem pw_in : ∀ b, b < 21 → ∀ e, e < 8 → pw b e ≤ 1280000000 ∧ (1 ≤ b → 1 ≤ pw b e) := by decide +kernel
theorem power_sp {b e N : Nat} (hb : b < 1000) (he : e < 8) (hN : 11 ≤ N) : f_X9_toThePower N (nI b) (nI e) = some (lN (pw b e)) := by
  rw [f_X9_toThePower]
  refine lup (P := e) (fun n i (a : Nat) => L_X9_toThePower_5 (nI b) (nI e) n i (lN a)) (fun _ a => a * b) (fun a => some (lN a)) (fun n a => ?_) (fun n j a hj => ?_) e 0 N 1 (by omega) (by omega)
  · simp only [L_X9_toThePower_5]
    rw [if_pos (nI_le (Nat.le_refl e) (by omega))]
  · show L_X9_toThePower_5 (nI b) (nI e) (n + 1) (nI j) (lN a) = L_X9_toThePower_5 (nI b) (nI e) n (nI j + 1) (lN (a * b))
    rw [L_X9_toThePower_5, if_neg (nI_ge hj (by omega)), nI_l (by omega), lN_mul]
theorem rain_w : ∀ P, P < 8 → ∀ g, g < 2 ^ P → ∀ b, b < 20 → fup (fun k a => if inn (nI g) (nI k) then a else a * b) 0 P 1 = pw b (pcN (2 ^ P - 1 - g)) := by decide +kernel
theorem rain_m : ∀ P, P < 8 → ∀ g, g < 2 ^ P → ∀ hv, hv < 2 ^ P → nI hv &&& (nI g ^^^ (-1 : Int32)) = nI hv &&& nI (2 ^ P - 1 - g) := by decide +kernel
def SS (c : Nat → Nat) : Nat → Nat
  | 0 => 0
  | n + 1 => SS c n + c n
theorem SS_congr {c c' : Nat → Nat} : ∀ n, (∀ i, i < n → c i = c' i) → SS c n = SS c' n
  | 0, _ => rfl
  | n + 1, h => by
    show SS c n + c n = SS c' n + c' n
    rw [SS_congr n (fun i hi => h i (by omega)), h n (by omega)]
theorem SS_shift (c : Nat → Nat) : ∀ n, SS c (n + 1) = c 0 + SS (fun i => c (i + 1)) n
  | 0 => by show 0 + c 0 = c 0 + 0; omega
  | n + 1 => by
    show SS c (n + 1) + c (n + 1) = c 0 + (SS (fun i => c (i + 1)) n + c (n + 1))
    rw [SS_shift c n]
    omega
theorem SS_rev (c : Nat → Nat) : ∀ n, SS (fun i => c (n - 1 - i)) n = SS c n
  | 0 => rfl
  | n + 1 => by
    rw [SS_shift]
    show c (n + 1 - 1 - 0) + SS (fun i => c (n + 1 - 1 - (i + 1))) n = SS c n + c n
    rw [SS_congr (c' := fun i => c (n - 1 - i)) n (fun i hi => congrArg c (by omega)), SS_rev c n, show n + 1 - 1 - 0 = n by omega]
    omega
theorem fup_SS (c : Nat → Nat) : ∀ (d k a : Nat), fup (fun j a => a + c j) k d a = a + SS (fun i => c (k + i)) d
  | 0, _, _ => rfl
  | d + 1, k, a => by
    show fup _ (k + 1) d (a + c k) = _
    rw [fup_SS c d (k + 1), SS_shift, SS_congr (c := fun i => c (k + 1 + i)) (c' := fun i => c (k + (i + 1))) d (fun i _ => congrArg c (by omega))]
    show a + c k + _ = a + (c (k + 0) + _)
    rw [Nat.add_zero]
    omega
theorem fup_rev (c c' : Nat → Nat) (Q : Nat) (hc : ∀ j, j < Q → c' j = c (Q - 1 - j)) : fup (fun j a => a + c' j) 0 Q 0 = fup (fun j a => a + c j) 0 Q 0 := by
  rw [fup_SS, fup_SS, SS_congr (c' := fun i => c (Q - 1 - i)) Q (fun i hi => by rw [Nat.zero_add]; exact hc i hi), SS_rev, SS_congr (c := fun i => c (0 + i)) (c' := c) Q (fun i _ => congrArg c (Nat.zero_add i))]
def raC (h k f r m : Nat → Int32) (P : Nat) (q : Int32) (hv b g : Nat) : Nat := if whS h k f r m P q (nI hv &&& nI g) = 0 then pw b (pcN g) else 0
theorem X10_rain_in (hs : Sm h k f r m P shut needed day S) (hP : P ≤ 7) {t g N : Nat} (ht : 2 ≤ t ∧ t ≤ 20) (hN : 8 ≤ N) (kk : Int32 → Int64 → Option Int64) : L_X10_rain_86 S (nI t) (nI g) kk N 0 1 = kk (nI P) (lN (fup (fun k a => if inn (nI g) (nI k) then a else a * (t - 1)) 0 P 1)) := by
  have et1 : nI t - 1 = nI (t - 1) := pk_sub (b := 1) (by omega)
  refine lup (P := P) (fun n i (a : Nat) => L_X10_rain_86 S (nI t) (nI g) kk n i (lN a)) (fun k a => if inn (nI g) (nI k) then a else a * (t - 1)) (fun a => kk (nI P) (lN a)) (fun n a => ?_) (fun n p a hp => ?_) P 0 N 1 (by omega) (by omega)
  · simp only [L_X10_rain_86]
    rw [hs.1, if_pos (nI_le (Nat.le_refl P) (by omega))]
  · show L_X10_rain_86 S (nI t) (nI g) kk (n + 1) (nI p) (lN a) = L_X10_rain_86 S (nI t) (nI g) kk n (nI p + 1) (lN (if inn (nI g) (nI p) then a else a * (t - 1)))
    rw [L_X10_rain_86, hs.1, if_neg (nI_nge hp hP), ob_t (has_sp _ _), t01_if, et1, nI_l (by omega), lN_mul, Int64.mul_one]
    cases inn (nI g) (nI p) <;> rfl
theorem ag_rain (hS : St h k f r m P shut needed day S) (p1 p2 : Int32) {N : Nat} (hN : 1001 ≤ N) : ∃ res : Int64, f_X9_rain N h k f r m shut (nI P) needed p1 p2 = some res ∧ f_X10_rain N S p1 p2 = some res := by
  obtain ⟨hs, hP, hh, hr, hf, hk, h2, h3⟩ := id hS
  have hQ := pow2_le hP
  obtain ⟨hv, hhv, e⟩ := hd_nat r shut hP
  rw [f_X9_rain, f_X10_rain, ob_t (isWithin_sp _ _ _), ob_t (isInM_sp _ _ _), t01_if, t01_if, ob_t (isWithin_sp _ _ _), ob_t (isInM_sp _ _ _), t01_if, t01_if]
  cases c1 : wiB p1 2 20 with
  | false => exact ⟨1000000001, rfl, rfl⟩
  | true =>
    cases c2 : wiB p2 0 1 with
    | false => exact ⟨1000000001, rfl, rfl⟩
    | true =>
      obtain ⟨t, ht1, ht, rfl⟩ := wiB_of (a := 2) (b := 20) (by omega) (by omega) c1
      obtain ⟨x, -, hx, rfl⟩ := wiB_of (a := 0) (b := 1) (by omega) (by omega) c2
      have hx2 : x = 0 ∨ x = 1 := by omega
      have pb := pw_in t (by omega) P (by omega)
      have et1 : nI t - 1 = nI (t - 1) := pk_sub (b := 1) (by omega)
      have bound : fup (fun j a => a + raC h k f r m P needed hv (t - 1) j) 0 (2 ^ P) 0 ≤ 0 + 2 ^ P * 1280000000 := fup_le (2 ^ P) 0 0 (fun j a h1 h2 => by
        have := (pw_in (t - 1) (by omega) (pcN j) (by have := (pc_in j (by omega)).1; omega)).1
        show a + raC h k f r m P needed hv (t - 1) j ≤ _
        unfold raC
        split <;> omega)
      have bound2 : 2 ^ P * 1280000000 ≤ 128 * 1280000000 := Nat.mul_le_mul_right _ (by omega)
      obtain ⟨v, v1, v2⟩ := fr_ag (a := lN (fup (fun j a => a + raC h k f r m P needed hv (t - 1) j) 0 (2 ^ P) 0)) (B := pw t P) (p := x) (N := N) (Or.inl rfl) (by omega) (pb.2 (by omega)) (by omega) hx2 hN (lN (pw t P)) (Or.inr rfl)
      refine ⟨v, ?_, ?_⟩
      · simp only [if_true]
        rw [ob_t (X8_heardOnes_sp r shut hP (by omega)), e, pow2 P hP]
        simp only [nm]
        have ef := lup (P := 2 ^ P) (fun n i (a : Nat) => L_X9_rain_48 N h k f r m (nI P) needed (nI t) (nI x) (nI hv) (nI (2 ^ P)) n i (lN a)) (fun j a => a + raC h k f r m P needed hv (t - 1) j) (fun a => f_X1_inLeastTerms N (lN a) (lN (pw t P)) (nI x)) (fun n a => ?_) (fun n g a hg => ?_) (2 ^ P) 0 N 0 (by omega) (by omega)
        · exact Eq.trans ef v1
        · simp only [L_X9_rain_48]
          rw [if_pos (nI_le (Nat.le_refl _) (by omega)), ob_t (power_sp (by omega) (by omega) (by omega))]
          cases f_X1_inLeastTerms N (lN a) (lN (pw t P)) (nI x) <;> rfl
        · show L_X9_rain_48 N h k f r m (nI P) needed (nI t) (nI x) (nI hv) (nI (2 ^ P)) (n + 1) (nI g) (lN a) = L_X9_rain_48 N h k f r m (nI P) needed (nI t) (nI x) (nI hv) (nI (2 ^ P)) n (nI g + 1) (lN (a + raC h k f r m P needed hv (t - 1) g))
          have pg := (pc_in g (by omega)).1
          rw [L_X9_rain_48, if_neg (nI_ge hg (by omega)), ob_t (X8_whyNot_sp h k f r m needed _ hP hr (by omega)), ob_t (pc_cls g (by omega)).1, et1, ob_t (power_sp (by omega) (by omega) (by omega)), lN_add]
          unfold raC
          by_cases z : whS h k f r m P needed (nI hv &&& nI g) = 0
          · rw [if_pos z, if_pos z]
          · rw [if_neg z, if_neg z, Nat.add_zero]
      · simp only [if_true]
        rw [ob_t (X10_heardIn_sp hs hP (by omega)), e]
        have e40 := lup (P := P) (fun n i (a : Nat) => L_X10_rain_40 N S (nI t) (nI x) (nI hv) n i (lN a)) (fun _ a => a * t) (fun a => L_X10_rain_67 N S (nI t) (nI x) (nI hv) (lN a) N 0 0) (fun n a => ?_) (fun n p a hp => ?_) P 0 N 1 (by omega) (by omega)
        · refine Eq.trans e40 ?_
          show L_X10_rain_67 N S (nI t) (nI x) (nI hv) (lN (pw t P)) N 0 0 = some v
          have e67 := lup (P := 2 ^ P) (fun n i (a : Nat) => L_X10_rain_67 N S (nI t) (nI x) (nI hv) (lN (pw t P)) n i (lN a)) (fun j a => a + raC h k f r m P needed hv (t - 1) (2 ^ P - 1 - j)) (fun a => f_X10_partOf N (lN a) (lN (pw t P)) (nI x)) (fun n a => ?_) (fun n g a hg => ?_) (2 ^ P) 0 N 0 (by omega) (by omega)
          · refine Eq.trans e67 ?_
            rw [fup_rev (raC h k f r m P needed hv (t - 1)) (fun j => raC h k f r m P needed hv (t - 1) (2 ^ P - 1 - j)) (2 ^ P) (fun _ _ => rfl)]
            exact v2
          · simp only [L_X10_rain_67]
            rw [hs.1, pow2 P hP, if_pos (nI_le (Nat.le_refl _) (by omega))]
            cases f_X10_partOf N (lN a) (lN (pw t P)) (nI x) <;> rfl
          · show L_X10_rain_67 N S (nI t) (nI x) (nI hv) (lN (pw t P)) (n + 1) (nI g) (lN a) = L_X10_rain_67 N S (nI t) (nI x) (nI hv) (lN (pw t P)) n (nI g + 1) (lN (a + raC h k f r m P needed hv (t - 1) (2 ^ P - 1 - g)))
            rw [L_X10_rain_67, hs.1, pow2 P hP, if_neg (nI_ge hg (by omega))]
            refine Eq.trans (X10_rain_in hs hP (by omega) (by omega) _) ?_
            rw [ob_t (X10_whyBy_sp hs hP hr _ (by omega)), rain_m P (by omega) g hg hv hhv, rain_w P (by omega) g hg (t - 1) (by omega), show (0 : Int64) = lN 0 from rfl, lN_add, lN_add]
            unfold raC
            by_cases z : whS h k f r m P needed (nI hv &&& nI (2 ^ P - 1 - g)) = 0
            · rw [if_pos z, if_pos z]
            · rw [if_neg z, if_neg z]
        · simp only [L_X10_rain_40]
          rw [hs.1, if_pos (nI_le (Nat.le_refl P) (by omega))]
        · show L_X10_rain_40 N S (nI t) (nI x) (nI hv) (n + 1) (nI p) (lN a) = L_X10_rain_40 N S (nI t) (nI x) (nI hv) n (nI p + 1) (lN (a * t))
          rw [L_X10_rain_40, hs.1, if_neg (nI_nge hp hP), nI_l (by omega), lN_mul]
end FRA
