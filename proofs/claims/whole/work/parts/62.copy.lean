/-! THE PURE LAYER: copy, the image, two, element of the reference -/
theorem fw_fold (E : Nat → Int32) (s t n : Nat) (h : s + n ≤ t ∨ t ≤ s) : ∀ (d j : Nat), j + d ≤ n → fup (fun i a => upd a (t + i) (a (s + i))) j d (va_cpy E E s t j) = va_cpy E E s t (j + d)
  | 0, j, _ => rfl
  | d + 1, j, hj => by
    show fup _ (j + 1) d (upd (va_cpy E E s t j) (t + j) (va_cpy E E s t j (s + j))) = _
    have e : upd (va_cpy E E s t j) (t + j) (va_cpy E E s t j (s + j)) = va_cpy E E s t (j + 1) := by
      rw [pk_cpy_out (by omega)]
      funext x
      by_cases y : x = t + j
      · subst y
        rw [upd_at, pk_cpy_in (by omega) (by omega)]
        exact congrArg E (by omega)
      · rw [upd_ne _ _ y]
        by_cases z : t ≤ x ∧ x < t + j
        · rw [pk_cpy_in z.1 z.2, pk_cpy_in z.1 (by omega)]
        · rw [pk_cpy_out (by omega), pk_cpy_out (by omega)]
    rw [e, fw_fold E s t n h d (j + 1) (by omega)]
    exact congrArg (va_cpy E E s t) (by omega)
theorem bw_fold (E : Nat → Int32) (s t n : Nat) (h : s ≤ t ∨ t + n ≤ s) : ∀ (d j : Nat), j + d ≤ n → fup (fun i a => upd a (t + (n - 1 - i)) (a (s + (n - 1 - i)))) j d (va_cpy E E (s + (n - j)) (t + (n - j)) j) = va_cpy E E (s + (n - (j + d))) (t + (n - (j + d))) (j + d)
  | 0, j, _ => rfl
  | d + 1, j, hj => by
    show fup _ (j + 1) d (upd (va_cpy E E (s + (n - j)) (t + (n - j)) j) (t + (n - 1 - j)) (va_cpy E E (s + (n - j)) (t + (n - j)) j (s + (n - 1 - j)))) = _
    have e : upd (va_cpy E E (s + (n - j)) (t + (n - j)) j) (t + (n - 1 - j)) (va_cpy E E (s + (n - j)) (t + (n - j)) j (s + (n - 1 - j))) = va_cpy E E (s + (n - (j + 1))) (t + (n - (j + 1))) (j + 1) := by
      rw [pk_cpy_out (by omega)]
      funext x
      by_cases y : x = t + (n - 1 - j)
      · subst y
        rw [upd_at, pk_cpy_in (by omega) (by omega)]
        exact congrArg E (by omega)
      · rw [upd_ne _ _ y]
        by_cases z : t + (n - j) ≤ x ∧ x < t + (n - j) + j
        · rw [pk_cpy_in z.1 z.2, pk_cpy_in (by omega) (by omega)]
          exact congrArg E (by omega)
        · rw [pk_cpy_out (by omega), pk_cpy_out (by omega)]
    rw [e, bw_fold E s t n h d (j + 1) (by omega), show j + 1 + d = j + (d + 1) by omega]
def hsB (z : Nat) (i n : Int32) : Bool := decide (¬ i < 0) && decide (¬ n < 0) && decide (¬ nI z - i < n)
theorem hasPlaces_sp (z : Nat) (i n : Int32) : f_X7_hasPlaces (nI z) i n = some (t01 (hsB z i n)) := by
  unfold f_X7_hasPlaces hsB t01
  by_cases h1 : i < 0
  · simp [h1]
  · by_cases h2 : n < 0
    · simp [h1, h2]
    · by_cases h3 : nI z - i < n <;> simp [h1, h2, h3]
theorem hsB_of {z : Nat} {i n : Int32} (hz : z ≤ 100) (h : hsB z i n = true) : ∃ i' n' : Nat, i = nI i' ∧ n = nI n' ∧ i' + n' ≤ z := by
  unfold hsB at h
  simp only [Bool.and_eq_true, decide_eq_true_eq] at h
  obtain ⟨⟨h1, h2⟩, h3⟩ := h
  obtain ⟨a, ha, rfl⟩ := nI_of h1
  obtain ⟨b, hb, rfl⟩ := nI_of h2
  refine ⟨a, b, rfl, rfl, ?_⟩
  rw [Int32.lt_iff_toInt_lt, Int32.toInt_sub, nI_toInt (by omega), nI_toInt ha, nI_toInt hb, Int.bmod_eq_of_le (by omega) (by omega)] at h3
  omega
/-- what the reference's loop leaves -/
theorem X10_copy_lp (EL : Nat → Int32) {d e i j n N : Nat} (hd : d < 8) (he : e < 8) (hi : i + n ≤ 100) (hj : j + n ≤ 100) (hN : 1001 ≤ N) : L_X10_copy_122 (nI d) (nI i) (nI e) (nI j) (nI n) N 0 EL = some (nI n, va_cpy EL EL (100 * d + i) (100 * e + j) n) := by
  have c0 : va_cpy EL EL (100 * d + i) (100 * e + j) 0 = EL := by
    funext x
    exact pk_cpy_out (by omega)
  have c1 : va_cpy EL EL (100 * d + i + (n - 0)) (100 * e + j + (n - 0)) 0 = EL := by
    funext x
    exact pk_cpy_out (by omega)
  by_cases hij : i ≤ j
  · have ef := lup (P := n) (fun q x a => L_X10_copy_122 (nI d) (nI i) (nI e) (nI j) (nI n) q x a) (fun x a => upd a (100 * e + j + (n - 1 - x)) (a (100 * d + i + (n - 1 - x)))) (fun a => some (nI n, a)) (fun q a => ?_) (fun q x a hx => ?_) n 0 N EL (by omega) (by omega)
    · refine Eq.trans ef ?_
      have := bw_fold EL (100 * d + i) (100 * e + j) n (by omega) n 0 (by omega)
      rw [c1] at this
      rw [this, Nat.zero_add, Nat.sub_self, Nat.add_zero, Nat.add_zero]
    · simp only [L_X10_copy_122]
      rw [if_pos (nI_le (Nat.le_refl n) (by omega))]
    · rw [L_X10_copy_122, if_neg (nI_ge hx (by omega)), if_pos (nI_le hij (by omega)), e100, e100, show nI n - 1 = nI (n - 1) from pk_sub (b := 1) (by omega), pk_sub (show x ≤ n - 1 by omega), nI_add, nI_add, gd_t (ix800 (by omega)), gd_t (ix800 (by omega)), nm_k, nI_cl (by omega), nI_cl (by omega)]
  · have ef := lup (P := n) (fun q x a => L_X10_copy_122 (nI d) (nI i) (nI e) (nI j) (nI n) q x a) (fun x a => upd a (100 * e + j + x) (a (100 * d + i + x))) (fun a => some (nI n, a)) (fun q a => ?_) (fun q x a hx => ?_) n 0 N EL (by omega) (by omega)
    · refine Eq.trans ef ?_
      have := fw_fold EL (100 * d + i) (100 * e + j) n (by omega) n 0 (by omega)
      rw [c0] at this
      rw [this, Nat.zero_add]
    · simp only [L_X10_copy_122]
      rw [if_pos (nI_le (Nat.le_refl n) (by omega))]
    · rw [L_X10_copy_122, if_neg (nI_ge hx (by omega)), if_neg (nI_ge (show j < i by omega) (by omega)), e100, e100, nI_add, nI_add, gd_t (ix800 (by omega)), gd_t (ix800 (by omega)), nm_k, nI_cl (by omega), nI_cl (by omega)]
theorem cg_t {i j n : Nat} (hi : i + n ≤ 100) (hj : j + n ≤ 100) : cg (nI i) (nI j) (nI n) 100 100 = true := by
  unfold cg
  rw [nI_cl (by omega), nI_cl (by omega), nI_cl (by omega)]
  exact decide_eq_true ⟨nI_pos (by omega), nI_pos (by omega), nI_pos (by omega), hi, hj⟩
theorem chain13 {α : Type} (zd ze : Nat) (p2 p4 p5 : Int32) (A B : α) : (if p5 < 0 then B else if p2 < 0 then B else if p4 < 0 then B else if nI zd - p2 < p5 then B else if p5 ≤ nI ze - p4 then A else B) = if hsB zd p2 p5 && hsB ze p4 p5 then A else B := by
  unfold hsB
  by_cases h1 : p5 < 0
  · simp [h1]
  · by_cases h2 : p2 < 0
    · simp [h1, h2]
    · by_cases h3 : p4 < 0
      · simp [h1, h2, h3]
      · by_cases h4 : nI zd - p2 < p5
        · simp [h1, h2, h3, h4]
        · by_cases h5 : p5 ≤ nI ze - p4
          · have : ¬ nI ze - p4 < p5 := Int32.not_lt.mpr h5
            simp [h1, h2, h3, h4, h5, this]
          · have : nI ze - p4 < p5 := Int32.not_le.mp h5
            simp [h1, h2, h3, h4, h5, this]
theorem ag_copy {el1 el2 : Nat → Int32} {ho1 ki1 fi1 so1 si1 ho2 ki2 fi2 so2 si2 : Int32} {K KK KF SO SI EL : Nat → Int32} (p1 p2 p3 p4 p5 : Int32) (hq1 : ShP p1 el1 ho1 ki1 fi1 so1 si1 K KK KF SO SI EL) (hq2 : ShP p3 el2 ho2 ki2 fi2 so2 si2 K KK KF SO SI EL) {N : Nat} (hN : 1001 ≤ N) : ∃ (res : Int32) (el' EL' : Nat → Int32), f_X9_copy el1 ho1 so1 si1 el2 ho2 so2 si2 p1 p2 p3 p4 p5 = some (res, el') ∧ f_X10_copy N K SO SI EL p1 p2 p3 p4 p5 = some (res, EL') ∧ ShP p3 el' ho2 ki2 fi2 so2 si2 K KK KF SO SI EL' ∧ (∀ e : Nat, e < 8 → p3 ≠ nI e → ∀ i, i < 100 → EL' (100 * e + i) = EL (100 * e + i)) := by
  rw [f_X9_copy, f_X10_copy, ob_t (isShelf_sp _), ob_t (isShelf_sp _), ob_t (isShelfM_sp _), ob_t (isShelfM_sp _), t01_if, t01_if, t01_if, t01_if]
  have no : ∀ res : Int32, ∃ (res' : Int32) (el' EL' : Nat → Int32), some (res, el2) = some (res', el') ∧ some (res, EL) = some (res', EL') ∧ ShP p3 el' ho2 ki2 fi2 so2 si2 K KK KF SO SI EL' ∧ (∀ e : Nat, e < 8 → p3 ≠ nI e → ∀ i, i < 100 → EL' (100 * e + i) = EL (100 * e + i)) := fun res => ⟨res, el2, EL, rfl, rfl, hq2, fun _ _ _ _ _ => rfl⟩
  cases c : wiB p1 0 7 with
  | false => exact no (-1)
  | true =>
    cases c3 : wiB p3 0 7 with
    | false => exact no (-1)
    | true =>
      obtain ⟨d, hd, rfl⟩ := shelf_of c
      obtain ⟨e, he, rfl⟩ := shelf_of c3
      obtain ⟨a1, a2, a3, ⟨z1, hz1, rfl⟩, a5, a6, a7, a8, a9⟩ := hq1 d hd rfl
      obtain ⟨b1, b2, b3, ⟨z2, hz2, rfl⟩, b5, b6, b7, b8, b9⟩ := hq2 e he rfl
      simp only [if_true, gd_t (ix8 hd), gd_t (ix8 he)]
      rw [nI_cl (by omega), nI_cl (by omega), a1, b1, a2, b2, a3, b3]
      by_cases y1 : ho1 = 0
      · simp only [if_pos y1, nm_k]
        exact no (-11)
      by_cases y2 : ho2 = 0
      · simp only [if_neg y1, if_pos y2, nm_k]
        exact no (-11)
      by_cases y3 : ho1 = 2
      · by_cases y4 : ho2 = 2
        · by_cases y5 : so1 = so2
          · simp only [if_neg y1, if_neg y2, if_pos y3, if_pos y4, if_pos y5, nm_k]
            rw [chain13, ob_t (hasPlaces_sp _ _ _), ob_t (hasPlaces_sp _ _ _), t01_if, t01_if]
            cases g1 : hsB z1 p2 p5 with
            | false => exact no (-13)
            | true =>
              cases g2 : hsB z2 p4 p5 with
              | false => exact no (-13)
              | true =>
                obtain ⟨i, n, rfl, rfl, hi⟩ := hsB_of hz1 g1
                obtain ⟨j, n', rfl, en, hj⟩ := hsB_of hz2 g2
                have en' : n' = n := by
                  have := congrArg Int32.toNatClampNeg en
                  rcases Nat.lt_or_ge n 1000 with q | q
                  · rw [nI_cl q, nI_cl (by omega)] at this
                    exact this.symm
                  · omega
                subst en'
                simp only [if_true, Bool.and_true]
                rw [gd_t (cg_t (by omega) (by omega)), nI_cl (by omega), nI_cl (by omega), nI_cl (by omega), X10_copy_lp EL hd he (by omega) (by omega) hN]
                refine ⟨_, _, _, rfl, rfl, fun e' he' ee => ?_, fun e' he' ee q hq => pk_cpy_out ?_⟩
                · have := (nI_eq (by omega) (by omega)).mp ee
                  subst this
                  refine ⟨b1, b2, b3, ⟨z2, hz2, rfl⟩, b5, b6, b7, fun q hq => ?_, fun s0 q hq => ?_⟩
                  · by_cases y : j ≤ q ∧ q < j + n'
                    · rw [pk_cpy_in (by omega) (by omega), pk_cpy_in y.1 y.2, ← a8 (i + (q - j)) (by omega)]
                      exact congrArg EL (by omega)
                    · rw [pk_cpy_out (by omega), pk_cpy_out (by omega)]
                      exact b8 q hq
                  · by_cases y : j ≤ q ∧ q < j + n'
                    · rw [pk_cpy_in y.1 y.2]
                      exact a9 (y5.trans s0) _ (by omega)
                    · rw [pk_cpy_out (by omega)]
                      exact b9 s0 q hq
                · have : e' ≠ e := fun z => ee (by rw [z])
                  omega
          · simp only [if_neg y1, if_neg y2, if_pos y3, if_pos y4, if_neg y5, nm_k]
            exact no (-12)
        · simp only [if_neg y1, if_neg y2, if_pos y3, if_neg y4, nm_k]
          exact no (-12)
      · simp only [if_neg y1, if_neg y2, if_neg y3, nm_k]
        exact no (-12)
theorem copy_s_eq (el : Nat → Int32) (ho so si p1 p2 p3 p4 p5 : Int32) : f_X9_copy_s el ho so si p1 p2 p3 p4 p5 = f_X9_copy el ho so si el ho so si p1 p2 p3 p4 p5 := by
  rw [f_X9_copy_s, f_X9_copy]
/-! the image -/
section IMG
variable {h k f r m : Nat → Int32} {P : Nat} {shut needed day : Int32} {S : Nat → Int32}
theorem St.ext (hS : St h k f r m P shut needed day S) {S' : Nat → Int32} (he : ∀ i, i < 42 → S' i = S i) : St h k f r m P shut needed day S' := ⟨hS.1.ext hS.2.1 he, hS.2⟩
theorem ag_image (hS : St h k f r m P shut needed day S) (I : Nat → Int32) {N : Nat} (hN : 1001 ≤ N) : ∃ I', f_X9_image h k f r m shut (nI P) needed day = some (day, 1, shut, nI P, needed, day, h, k, f, r, m) ∧ f_X10_image N S I = some (day, 1, I') ∧ St h k f r m P shut needed day I' := by
  obtain ⟨t, e, ht⟩ := copies_sp S I (show 43 ≤ N by omega)
  refine ⟨t, rfl, ?_, hS.ext ht⟩
  rw [f_X10_image, ob_t e, nm_k, hS.1.2.1]
theorem ag_restore (hS : St h k f r m P shut needed day S) (img : Int32) (hi : img = 0 ∨ img = 1) {h2 k2 f2 r2 m2 : Nat → Int32} {P2 : Nat} {shut2 needed2 day2 : Int32} {I : Nat → Int32} (gh gk gf gr gm : Nat → Int32) (gs gp gn gd : Int32) (hk : img = 1 → gh = h2 ∧ gk = k2 ∧ gf = f2 ∧ gr = r2 ∧ gm = m2 ∧ gs = shut2 ∧ gp = nI P2 ∧ gn = needed2 ∧ gd = day2 ∧ St h2 k2 f2 r2 m2 P2 shut2 needed2 day2 I) {N : Nat} (hN : 1001 ≤ N) : ∃ (res s' n' d' : Int32) (P' : Nat) (h' k' f' r' m' S' : Nat → Int32), f_X9_restore img h k f r m shut (nI P) needed day gh gk gf gr gm gs gp gn gd = some (res, s', nI P', n', d', h', k', f', r', m') ∧ f_X10_restore N S I img = some (res, S') ∧ St h' k' f' r' m' P' s' n' d' S' := by
  rw [f_X9_restore, f_X10_restore]
  rcases hi with rfl | rfl
  · rw [if_pos rfl, if_pos rfl, nm_k, nm_k]
    exact ⟨-3, shut, needed, day, P, h, k, f, r, m, S, rfl, rfl, hS⟩
  · obtain ⟨rfl, rfl, rfl, rfl, rfl, rfl, rfl, rfl, rfl, h9⟩ := hk rfl
    obtain ⟨t, e, ht⟩ := copies_sp I S (show 43 ≤ N by omega)
    rw [if_neg (by decide), if_neg (by decide), f_X8_become, ob_t e, nm_k, ht 1 (by omega), h9.1.2.1]
    exact ⟨_, _, _, _, P2, _, _, _, _, _, t, rfl, rfl, h9.ext ht⟩
/-! two -/
def gaS (h k f r : Nat → Int32) (shut needed : Int32) (P : Nat) (mm : Nat → Int32) (wm o : Int32) : Int32 := if (caS h k f r mm P shut needed == decide (¬ wm ≤ 0)) = true then 5 - o else 0 - o
def mm2 (m : Nat → Int32) (a b x y : Nat) : Nat → Int32 := upd (upd m a (9 * nI x)) b (9 * nI y)
theorem mm2_sw (m : Nat → Int32) {a b : Nat} (hab : a ≠ b) (x y : Nat) : mm2 m b a y x = mm2 m a b x y := by
  unfold mm2
  funext i
  by_cases h1 : i = a
  · subst h1
    rw [upd_at, upd_ne _ _ hab, upd_at]
  · by_cases h2 : i = b
    · subst h2
      rw [upd_ne _ _ h1, upd_at, upd_at]
    · rw [upd_ne _ _ h1, upd_ne _ _ h2, upd_ne _ _ h2, upd_ne _ _ h1]
theorem X9_gain_sp (h k f r m : Nat → Int32) (shut needed day : Int32) {P N a b : Nat} (hP : P ≤ 7) (hr : OkR r P) (ha : a < P) (hb : b < P) (hN : 8 ≤ N) (x y : Nat) : ∃ w : MH, f_X9_gainOf N h k f r m shut (nI P) needed day (nI a) (nI x) (nI b) (nI y) = some (gaS h k f r shut needed P (mm2 m a b x y) (m a) (nI x), w) := by
  rw [f_X9_gainOf, f_X8_become, ob_t (a := (shut, nI P, needed, day, h, k, f, r, m)) rfl]
  simp only []
  rw [gd_t (ix7 (by omega)), nm_k, gd_t (ix7 (by omega)), nm_k, gd_t (ix7 (by omega)), nI_cl (by omega), nI_cl (by omega)]
  show ∃ w : MH, (if m a ≤ 0 then ob (f_X8_isCarried N h k f r (mm2 m a b x y) shut (nI P) needed) _ else ob (f_X8_isCarried N h k f r (mm2 m a b x y) shut (nI P) needed) _) = _
  rw [ob_t (X8_isCarried_sp h k f r (mm2 m a b x y) shut needed hP hr hN), ob_t (X8_isCarried_sp h k f r (mm2 m a b x y) shut needed hP hr hN)]
  simp only [t01_if, t01_if1]
  unfold gaS
  by_cases z : m a ≤ 0
  · rw [if_pos z, decide_eq_false (fun q => q z)]
    cases caS h k f r (mm2 m a b x y) P shut needed <;> exact ⟨_, rfl⟩
  · rw [if_neg z, decide_eq_true z]
    cases caS h k f r (mm2 m a b x y) P shut needed <;> exact ⟨_, rfl⟩
theorem X10_has_sp (hs : Sm h k f r m P shut needed day S) (hP : P ≤ 7) (hr : OkR r P) {N a b : Nat} (ha : a < P) (hb : b < P) (hab : a ≠ b) (hN : 1001 ≤ N) (x y : Nat) (M : Nat → Int32) : (∃ M', f_X10_hasBy N S M (nI a) (nI a) (nI x) (nI b) (nI y) = some (gaS h k f r shut needed P (mm2 m a b x y) (m a) (nI x), M')) ∧ (∃ M', f_X10_hasBy N S M (nI b) (nI a) (nI x) (nI b) (nI y) = some (gaS h k f r shut needed P (mm2 m a b x y) (m b) (nI y), M')) := by
  obtain ⟨t, e, ht⟩ := copies_sp S M (show 43 ≤ N by omega)
  have h1 : Sm h k f r (mm2 m a b x y) P shut needed day (upd (upd t (14 + 4 * a + 3) (9 * nI x)) (14 + 4 * b + 3) (9 * nI y)) := ((hs.ext hP ht).mood hP ha _).mood hP hb _
  have ne : ¬ nI b = nI a := fun q => hab ((nI_eq (by omega) (by omega)).mp q).symm
  constructor
  · rw [f_X10_hasBy, ob_t e, ob_t (of3 a), gd_t (ix42 (by omega)), nm_k, ob_t (of3 b), gd_t (ix42 (by omega)), nm_k, nI_cl (by omega), nI_cl (by omega), ob_t (X10_doesCarry_sp h1 hP hr (by omega)), ob_t (of3 a), gd_t (ix42 (by omega)), nI_cl (by omega), (hs.2.2.2.2.2 a ha).2.2.2]
    simp only [t01_if, t01_if1, if_true, nm_k]
    unfold gaS
    by_cases z : m a ≤ 0
    · rw [if_pos z, decide_eq_false (fun q => q z)]
      cases caS h k f r (mm2 m a b x y) P shut needed <;> exact ⟨_, rfl⟩
    · rw [if_neg z, decide_eq_true z]
      cases caS h k f r (mm2 m a b x y) P shut needed <;> exact ⟨_, rfl⟩
  · rw [f_X10_hasBy, ob_t e, ob_t (of3 a), gd_t (ix42 (by omega)), nm_k, ob_t (of3 b), gd_t (ix42 (by omega)), nm_k, nI_cl (by omega), nI_cl (by omega), ob_t (X10_doesCarry_sp h1 hP hr (by omega)), ob_t (of3 b), gd_t (ix42 (by omega)), nI_cl (by omega), (hs.2.2.2.2.2 b hb).2.2.2]
    simp only [t01_if, t01_if1, if_neg ne, nm_k]
    unfold gaS
    by_cases z : m b ≤ 0
    · rw [if_pos z, decide_eq_false (fun q => q z)]
      cases caS h k f r (mm2 m a b x y) P shut needed <;> exact ⟨_, rfl⟩
    · rw [if_neg z, decide_eq_true z]
      cases caS h k f r (mm2 m a b x y) P shut needed <;> exact ⟨_, rfl⟩
def gA (h k f r m : Nat → Int32) (shut needed : Int32) (P a b x y : Nat) : Int32 := gaS h k f r shut needed P (mm2 m a b x y) (m a) (nI x)
def gB (h k f r m : Nat → Int32) (shut needed : Int32) (P a b x y : Nat) : Int32 := gaS h k f r shut needed P (mm2 m a b x y) (m b) (nI y)
def cA (h k f r m : Nat → Int32) (shut needed : Int32) (P a b x y : Nat) : Bool := decide (¬ gA h k f r m shut needed P a b x y < gA h k f r m shut needed P a b (1 - x) y)
def cB (h k f r m : Nat → Int32) (shut needed : Int32) (P a b x y : Nat) : Bool := decide (¬ gB h k f r m shut needed P a b x y < gB h k f r m shut needed P a b x (1 - y))
theorem X9_contA_sp (h k f r m : Nat → Int32) (shut needed day : Int32) {P N a b : Nat} (hP : P ≤ 7) (hr : OkR r P) (ha : a < P) (hb : b < P) (hN : 8 ≤ N) {x y : Nat} (hx : x ≤ 1) : ∃ w : MH, f_X9_isContent N h k f r m shut (nI P) needed day (nI a) (nI x) (nI b) (nI y) = some (t01 (cA h k f r m shut needed P a b x y), w) := by
  obtain ⟨⟨w1, w2, w3, w4, w5, w6, w7, w8, w9⟩, e1⟩ := X9_gain_sp h k f r m shut needed day hP hr ha hb hN x y
  obtain ⟨⟨u1, u2, u3, u4, u5, u6, u7, u8, u9⟩, e2⟩ := X9_gain_sp h k f r m shut needed day hP hr ha hb hN (1 - x) y
  rw [f_X9_isContent, ob_t e1]
  simp only []
  rw [show (1 : Int32) - nI x = nI (1 - x) from pk_sub (a := 1) hx, ob_t e2]
  simp only [nm_k]
  show ∃ w : MH, (if gA h k f r m shut needed P a b x y < gA h k f r m shut needed P a b (1 - x) y then _ else _) = _
  unfold cA
  by_cases z : gA h k f r m shut needed P a b x y < gA h k f r m shut needed P a b (1 - x) y
  · rw [if_pos z, decide_eq_false (fun q => q z)]
    exact ⟨_, rfl⟩
  · rw [if_neg z, decide_eq_true z]
    exact ⟨_, rfl⟩
theorem X9_contB_sp (h k f r m : Nat → Int32) (shut needed day : Int32) {P N a b : Nat} (hP : P ≤ 7) (hr : OkR r P) (ha : a < P) (hb : b < P) (hab : a ≠ b) (hN : 8 ≤ N) {x y : Nat} (hy : y ≤ 1) : ∃ w : MH, f_X9_isContent N h k f r m shut (nI P) needed day (nI b) (nI y) (nI a) (nI x) = some (t01 (cB h k f r m shut needed P a b x y), w) := by
  obtain ⟨⟨w1, w2, w3, w4, w5, w6, w7, w8, w9⟩, e1⟩ := X9_gain_sp h k f r m shut needed day hP hr hb ha hN y x
  obtain ⟨⟨u1, u2, u3, u4, u5, u6, u7, u8, u9⟩, e2⟩ := X9_gain_sp h k f r m shut needed day hP hr hb ha hN (1 - y) x
  rw [mm2_sw m hab] at e1 e2
  rw [f_X9_isContent, ob_t e1]
  simp only []
  rw [show (1 : Int32) - nI y = nI (1 - y) from pk_sub (a := 1) hy, ob_t e2]
  simp only [nm_k]
  show ∃ w : MH, (if gB h k f r m shut needed P a b x y < gB h k f r m shut needed P a b x (1 - y) then _ else _) = _
  unfold cB
  by_cases z : gB h k f r m shut needed P a b x y < gB h k f r m shut needed P a b x (1 - y)
  · rw [if_pos z, decide_eq_false (fun q => q z)]
    exact ⟨_, rfl⟩
  · rw [if_neg z, decide_eq_true z]
    exact ⟨_, rfl⟩
def twI (cc : Nat → Nat → Bool) (x : Nat) : Nat → Nat → Option Int32
  | 0, _ => none
  | d + 1, y => if cc x y then some (nI (10 * x + y)) else twI cc x d (y + 1)
def twO (cc : Nat → Nat → Bool) : Nat → Nat → Int32
  | 0, _ => -4
  | d + 1, x => match twI cc x 2 0 with
    | some v => v
    | none => twO cc d (x + 1)
def twM (cc : Nat → Nat → Bool) : Nat → Nat → Int32
  | 0, _ => -4
  | d + 1, q => if cc (q / 2) (q % 2) then nI (10 * (q / 2) + q % 2) else twM cc d (q + 1)
theorem tw_eq (cc : Nat → Nat → Bool) : twO cc 2 0 = twM cc 4 0 := by
  cases a : cc 0 0 <;> cases b : cc 0 1 <;> cases c : cc 1 0 <;> cases d : cc 1 1 <;> simp [twO, twM, twI, a, b, c, d]
abbrev GH : Type := Int32 → Int32 → Int32 → Int32 → Int32 → (Nat → Int32) → (Nat → Int32) → (Nat → Int32) → (Nat → Int32) → (Nat → Int32) → Option (Int32 × MH)
theorem X9_two_in (h k f r m : Nat → Int32) (shut needed day : Int32) {P N a b x : Nat} (hP : P ≤ 7) (hr : OkR r P) (ha : a < P) (hb : b < P) (hab : a ≠ b) (hx : x ≤ 1) (hN : 1001 ≤ N) (kk : GH) : ∀ (d j q : Nat) (g1 g2 g3 g4 : Int32) (v1 v2 v3 v4 v5 : Nat → Int32), j + d = 2 → d < q → (∃ (v : Int32) (w : MH), twI (fun x y => cA h k f r m shut needed P a b x y && cB h k f r m shut needed P a b x y) x d j = some v ∧ L_X9_two_39 N h k f r m shut (nI P) needed day (nI a) (nI b) (nI x) kk q (nI j) g1 g2 g3 g4 v1 v2 v3 v4 v5 = some (v, w)) ∨ (twI (fun x y => cA h k f r m shut needed P a b x y && cB h k f r m shut needed P a b x y) x d j = none ∧ ∃ (g1' g2' g3' g4' : Int32) (v1' v2' v3' v4' v5' : Nat → Int32), L_X9_two_39 N h k f r m shut (nI P) needed day (nI a) (nI b) (nI x) kk q (nI j) g1 g2 g3 g4 v1 v2 v3 v4 v5 = kk (nI 2) g1' g2' g3' g4' v1' v2' v3' v4' v5')
  | 0, j, 0, _, _, _, _, _, _, _, _, _, _, z => absurd z (by omega)
  | 0, j, q + 1, g1, g2, g3, g4, v1, v2, v3, v4, v5, hj, _ => by
    have : j = 2 := by omega
    subst this
    right
    refine ⟨rfl, g1, g2, g3, g4, v1, v2, v3, v4, v5, ?_⟩
    rw [L_X9_two_39, if_pos (show (1 : Int32) < nI 2 by decide)]
  | d + 1, j, 0, _, _, _, _, _, _, _, _, _, _, z => absurd z (by omega)
  | d + 1, j, q + 1, g1, g2, g3, g4, v1, v2, v3, v4, v5, hj, hq => by
    obtain ⟨⟨w1, w2, w3, w4, w5, w6, w7, w8, w9⟩, e1⟩ := X9_contA_sp h k f r m shut needed day hP hr ha hb (show 8 ≤ N by omega) (x := x) (y := j) hx
    obtain ⟨⟨u1, u2, u3, u4, u5, u6, u7, u8, u9⟩, e2⟩ := X9_contB_sp h k f r m shut needed day hP hr ha hb hab (show 8 ≤ N by omega) (x := x) (y := j) (by omega)
    have ih := fun g1 g2 g3 g4 v1 v2 v3 v4 v5 => X9_two_in h k f r m shut needed day hP hr ha hb hab hx hN kk d (j + 1) q g1 g2 g3 g4 v1 v2 v3 v4 v5 (by omega) (by omega)
    rw [L_X9_two_39, if_neg (show ¬ (1 : Int32) < nI j from nI_nlt (b := j) (a := 1) (by omega) (by omega)), ob_t e1]
    simp only []
    rw [t01_if, ob_t e2]
    simp only [nm_k]
    rw [t01_if, nI_1]
    unfold twI
    cases hA : cA h k f r m shut needed P a b x j with
    | false => exact ih _ _ _ _ _ _ _ _ _
    | true =>
      cases hB : cB h k f r m shut needed P a b x j with
      | false => exact ih _ _ _ _ _ _ _ _ _
      | true =>
        left
        refine ⟨nI (10 * x + j), (u1, u2, u3, u4, u5, u6, u7, u8, u9), rfl, ?_⟩
        rw [show (10 : Int32) * nI x + nI j = nI (10 * x + j) by rw [← nI_add, ← pk_mul]; rfl]
        rfl
theorem X9_two_lp (h k f r m : Nat → Int32) (shut needed day : Int32) {P N a b : Nat} (hP : P ≤ 7) (hr : OkR r P) (ha : a < P) (hb : b < P) (hab : a ≠ b) (hN : 1001 ≤ N) : ∀ (d j q : Nat) (g1 g2 g3 g4 : Int32) (v1 v2 v3 v4 v5 : Nat → Int32), j + d = 2 → d < q → ∃ w : MH, L_X9_two_31 N h k f r m shut (nI P) needed day (nI a) (nI b) q (nI j) g1 g2 g3 g4 v1 v2 v3 v4 v5 = some (twO (fun x y => cA h k f r m shut needed P a b x y && cB h k f r m shut needed P a b x y) d j, w)
  | 0, j, 0, _, _, _, _, _, _, _, _, _, _, z => absurd z (by omega)
  | 0, j, q + 1, g1, g2, g3, g4, v1, v2, v3, v4, v5, hj, _ => by
    have : j = 2 := by omega
    subst this
    rw [L_X9_two_31, if_pos (show (1 : Int32) < nI 2 by decide)]
    exact ⟨_, rfl⟩
  | d + 1, j, 0, _, _, _, _, _, _, _, _, _, _, z => absurd z (by omega)
  | d + 1, j, q + 1, g1, g2, g3, g4, v1, v2, v3, v4, v5, hj, hq => by
    rw [L_X9_two_31, if_neg (show ¬ (1 : Int32) < nI j from nI_nlt (b := j) (a := 1) (by omega) (by omega)), nI_1]
    have e := X9_two_in h k f r m shut needed day hP hr ha hb hab (show j ≤ 1 by omega) hN (fun _ y59 y60 y61 y62 y63 y64 y65 y66 y67 => L_X9_two_31 N h k f r m shut (nI P) needed day (nI a) (nI b) q (nI (j + 1)) y59 y60 y61 y62 y63 y64 y65 y66 y67) 2 0 N g1 g2 g3 g4 v1 v2 v3 v4 v5 (by omega) (by omega)
    unfold twO
    rcases e with ⟨v, w, e1, e2⟩ | ⟨e1, g1', g2', g3', g4', v1', v2', v3', v4', v5', e2⟩
    · rw [e1]
      exact ⟨w, e2⟩
    · rw [e1]
      obtain ⟨w, e3⟩ := X9_two_lp h k f r m shut needed day hP hr ha hb hab hN d (j + 1) q g1' g2' g3' g4' v1' v2' v3' v4' v5' (by omega) (by omega)
      exact ⟨w, e2.trans e3⟩
theorem X10_two_lp (hs : Sm h k f r m P shut needed day S) (hP : P ≤ 7) (hr : OkR r P) {N a b : Nat} (ha : a < P) (hb : b < P) (hab : a ≠ b) (hN : 1001 ≤ N) : ∀ (d j q : Nat) (M : Nat → Int32), j + d = 4 → d < q → ∃ M', L_X10_two_25 N S (nI a) (nI b) q (nI j) M = some (twM (fun x y => cA h k f r m shut needed P a b x y && cB h k f r m shut needed P a b x y) d j, M')
  | 0, j, 0, _, _, z => absurd z (by omega)
  | 0, j, q + 1, M, hj, _ => by
    have : j = 4 := by omega
    subst this
    rw [L_X10_two_25, if_pos (show (4 : Int32) ≤ nI 4 by decide)]
    exact ⟨_, rfl⟩
  | d + 1, j, 0, _, _, z => absurd z (by omega)
  | d + 1, j, q + 1, M, hj, hq => by
    have ed : nI j / 2 = nI (j / 2) := pk_div (d := 2) (by omega) (by omega) (by omega)
    have er : nI j - nI (j / 2) * 2 = nI (j % 2) := by
      rw [← ed]
      exact pk_rem (d := 2) (by omega) (by omega) (by omega)
    obtain ⟨M1, e1⟩ := (X10_has_sp hs hP hr ha hb hab hN (1 - j / 2) (j % 2) M).1
    obtain ⟨M2, e2⟩ := (X10_has_sp hs hP hr ha hb hab hN (j / 2) (j % 2) M1).1
    obtain ⟨M3, e3⟩ := (X10_has_sp hs hP hr ha hb hab hN (j / 2) (1 - j % 2) M2).2
    obtain ⟨M4, e4⟩ := (X10_has_sp hs hP hr ha hb hab hN (j / 2) (j % 2) M3).2
    have ih := fun M => X10_two_lp hs hP hr ha hb hab hN d (j + 1) q M (by omega) (by omega)
    rw [L_X10_two_25, if_neg (show ¬ (4 : Int32) ≤ nI j from nI_ge (b := 4) (by omega) (by omega)), ed, er, nm_k, show (1 : Int32) - nI (j / 2) = nI (1 - j / 2) from pk_sub (a := 1) (by omega), ob_t e1]
    simp only []
    rw [ob_t e2]
    simp only []
    rw [show (1 : Int32) - nI (j % 2) = nI (1 - j % 2) from pk_sub (a := 1) (by omega), ob_t e3]
    simp only []
    rw [ob_t e4, nI_1]
    simp only [nm_k]
    unfold twM
    show ∃ M', (if gA h k f r m shut needed P a b (j / 2) (j % 2) < gA h k f r m shut needed P a b (1 - j / 2) (j % 2) then _ else if gB h k f r m shut needed P a b (j / 2) (j % 2) < gB h k f r m shut needed P a b (j / 2) (1 - j % 2) then _ else _) = some (if (cA h k f r m shut needed P a b (j / 2) (j % 2) && cB h k f r m shut needed P a b (j / 2) (j % 2)) = true then _ else _, M')
    by_cases z1 : gA h k f r m shut needed P a b (j / 2) (j % 2) < gA h k f r m shut needed P a b (1 - j / 2) (j % 2)
    · rw [if_pos z1, show cA h k f r m shut needed P a b (j / 2) (j % 2) = false from decide_eq_false (fun q => q z1)]
      exact ih M2
    · rw [if_neg z1, show cA h k f r m shut needed P a b (j / 2) (j % 2) = true from decide_eq_true z1]
      by_cases z2 : gB h k f r m shut needed P a b (j / 2) (j % 2) < gB h k f r m shut needed P a b (j / 2) (1 - j % 2)
      · rw [if_pos z2, show cB h k f r m shut needed P a b (j / 2) (j % 2) = false from decide_eq_false (fun q => q z2)]
        exact ih M4
      · rw [if_neg z2, show cB h k f r m shut needed P a b (j / 2) (j % 2) = true from decide_eq_true z2, show (10 : Int32) * nI (j / 2) + nI (j % 2) = nI (10 * (j / 2) + j % 2) by rw [← nI_add, ← pk_mul]; rfl]
        exact ⟨_, rfl⟩
theorem ag_two (hS : St h k f r m P shut needed day S) (mh mk mf mr mm : Nat → Int32) (mt mp mn md : Int32) (M : Nat → Int32) (p1 p2 : Int32) {N : Nat} (hN : 1001 ≤ N) : ∃ (res : Int32) (w : MH) (M' : Nat → Int32), f_X9_two N h k f r m shut (nI P) needed day mh mk mf mr mm mt mp mn md p1 p2 = some (res, w) ∧ f_X10_two N S M p1 p2 = some (res, M') := by
  obtain ⟨hs, hP, hh, hr, hf, hk, h2, h3⟩ := id hS
  rw [f_X9_two, f_X10_two, ob_t (isThere_sp _ _), ob_t (isSpeaker_sp hs hP _), t01_if, t01_if, ob_t (isThere_sp _ _), ob_t (isSpeaker_sp hs hP _), t01_if, t01_if]
  cases c1 : thB P p1 with
  | false => exact ⟨-1, _, M, rfl, rfl⟩
  | true =>
    cases c2 : thB P p2 with
    | false => exact ⟨-1, _, M, rfl, rfl⟩
    | true =>
      simp only [if_true]
      by_cases c3 : p1 = p2
      · rw [if_pos c3, if_pos c3]
        exact ⟨-1, _, M, rfl, rfl⟩
      · obtain ⟨a, ha, rfl⟩ := thB_of hP c1
        obtain ⟨b, hb, rfl⟩ := thB_of hP c2
        have hab : a ≠ b := fun z => c3 (by rw [z])
        obtain ⟨w, e1⟩ := X9_two_lp h k f r m shut needed day hP hr ha hb hab hN 2 0 N mt mp mn md mh mk mf mr mm (by omega) (by omega)
        obtain ⟨M', e2⟩ := X10_two_lp hs hP hr ha hb hab hN 4 0 N M (by omega) (by omega)
        rw [if_neg c3, if_neg c3]
        rw [← tw_eq] at e2
        exact ⟨_, w, M', e1, e2⟩
end IMG
