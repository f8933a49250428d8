/-! THE PURE LAYER: shelves: class and reference; comes, cost, keep, row, put, forged -/
def Shl (d : Nat) (el : Nat → Int32) (ho ki fi so si : Int32) (K KK KF SO SI EL : Nat → Int32) : Prop := K d = ho ∧ SO d = so ∧ SI d = si ∧ (∃ z : Nat, z ≤ 100 ∧ si = nI z) ∧ (so = 0 ∨ so = 1 ∨ so = 2) ∧ (ho = 0 ∨ ho = 1 ∨ ho = 2) ∧ (ho = 1 → KK d = ki ∧ KF d = fi ∧ (∃ j : Nat, j < 8 ∧ ki = nI j) ∧ (∃ j : Nat, j < 10 ∧ fi = nI j)) ∧ (∀ i, i < 100 → EL (100 * d + i) = el i) ∧ (so = 0 → ∀ i, i < 100 → (el i).toInt8.toInt32 = el i)
/-- what is at one shelf only is unchanged where nothing of it changed -/
theorem Shl.keep {d : Nat} {el : Nat → Int32} {ho ki fi so si : Int32} {K KK KF SO SI EL K' KK' KF' SO' SI' EL' : Nat → Int32} (h : Shl d el ho ki fi so si K KK KF SO SI EL) (h1 : K' d = K d) (h2 : KK' d = KK d) (h3 : KF' d = KF d) (h4 : SO' d = SO d) (h5 : SI' d = SI d) (h6 : ∀ i, i < 100 → EL' (100 * d + i) = EL (100 * d + i)) : Shl d el ho ki fi so si K' KK' KF' SO' SI' EL' := by
  obtain ⟨a1, a2, a3, a4, a5, a6, a7, a8, a9⟩ := h
  exact ⟨h1.trans a1, h4.trans a2, h5.trans a3, a4, a5, a6, fun z => ⟨h2.trans (a7 z).1, h3.trans (a7 z).2.1, (a7 z).2.2⟩, fun i hi => (h6 i hi).trans (a8 i hi), a9⟩
def rf (ho w : Int32) : Int32 := if ho = 0 then -11 else if ho = w then 0 else -12
theorem ix8 {k : Nat} (h : k < 8) : ix (nI k) 8 = true := ix_n h (by omega)
theorem ix100 {k : Nat} (h : k < 100) : ix (nI k) 100 = true := ix_n h (by omega)
theorem ix800 {k : Nat} (h : k < 800) : ix (nI k) 800 = true := ix_n h (by omega)
theorem wi07 {d : Nat} (hd : d < 8) : wiB (nI d) 0 7 = true := by
  unfold wiB
  rw [show ((0 : Int32)) = nI 0 from rfl, show ((7 : Int32)) = nI 7 from rfl, decide_eq_true (nI_nlt (Nat.zero_le d) (by omega)), decide_eq_true (nI_nlt (show d ≤ 7 by omega) (by omega))]
  rfl
theorem refusal_sp {d : Nat} (hd : d < 8) (ho w : Int32) : f_X9_refusalOf ho (nI d) w = some (rf ho w) := by
  rw [f_X9_refusalOf, ob_t (isShelf_sp _), wi07 hd, t01_if, if_pos rfl, gd_t (ix8 hd), gd_t (ix8 hd)]
  unfold rf
  simp only [some_if]
theorem refusal_no {v : Int32} (h : wiB v 0 7 = false) (ho w : Int32) : f_X9_refusalOf ho v w = some (-1) := by
  rw [f_X9_refusalOf, ob_t (isShelf_sp _), h, t01_if, if_neg (by decide)]
theorem wrongRow_sp {d : Nat} (hd : d < 8) (K SO : Nat → Int32) : f_X10_wrongRow K SO (nI d) (-1) = some (rf (K d) 2) := by
  rw [f_X10_wrongRow, ob_t (isShelfM_sp _), wi07 hd, t01_if, if_pos rfl, gd_t (ix8 hd), gd_t (ix8 hd), gd_t (ix8 hd), nI_cl (by omega), if_pos (show (-1 : Int32) < 0 by decide)]
  unfold rf
  simp only [some_if]
theorem wrongRow_no {v : Int32} (h : wiB v 0 7 = false) (K SO : Nat → Int32) (w : Int32) : f_X10_wrongRow K SO v w = some (-1) := by
  rw [f_X10_wrongRow, ob_t (isShelfM_sp _), h, t01_if, if_neg (by decide)]
theorem wrongKept_sp {d : Nat} (hd : d < 8) (K : Nat → Int32) (hK : K d = 0 ∨ K d = 1 ∨ K d = 2) : f_X10_wrongKept K (nI d) = some (rf (K d) 1) := by
  rw [f_X10_wrongKept, ob_t (isShelfM_sp _), wi07 hd, t01_if, if_pos rfl, gd_t (ix8 hd), gd_t (ix8 hd), nI_cl (by omega)]
  rcases hK with e | e | e <;> rw [e] <;> rfl
theorem wrongKept_no {v : Int32} (h : wiB v 0 7 = false) (K : Nat → Int32) : f_X10_wrongKept K v = some (-1) := by
  rw [f_X10_wrongKept, ob_t (isShelfM_sp _), h, t01_if, if_neg (by decide)]
theorem rf0 {ho w : Int32} (h : rf ho w = 0) : ho = w := by
  unfold rf at h
  by_cases h0 : ho = 0
  · rw [if_pos h0] at h
    exact absurd h (by decide)
  · rw [if_neg h0] at h
    by_cases h1 : ho = w
    · exact h1
    · rw [if_neg h1] at h
      exact absurd h (by decide)
/-- the shelf at p1, if there is one -/
def ShP (p1 : Int32) (el : Nat → Int32) (ho ki fi so si : Int32) (K KK KF SO SI EL : Nat → Int32) : Prop := ∀ d : Nat, d < 8 → p1 = nI d → Shl d el ho ki fi so si K KK KF SO SI EL
theorem shelf_of {v : Int32} (h : wiB v 0 7 = true) : ∃ d : Nat, d < 8 ∧ v = nI d := by
  obtain ⟨d, -, hd, e⟩ := wiB_of (a := 0) (b := 7) (by omega) (by omega) h
  exact ⟨d, by omega, e⟩
/-! cost -/
theorem price_eq (k f : Int32) : f_X3_priceOf k f = f_X10_costBy k f := by
  have e : ∀ f, f_X3_widowPrice f = some (2 + f) := fun _ => rfl
  rw [f_X3_priceOf, f_X10_costBy, ob_t (e f), ob_t (e f)]
def prS (k f : Int32) : Int32 := if k = 1 then 2 + f else if k = 2 then 0 else if k = 3 then 1 else if k = 4 then 0 else if k = 5 then 1 else if k = 6 then 2 * (2 + f) else if k = 7 then 9 else 2
theorem cost_sp (k f : Int32) : f_X10_costBy k f = some (prS k f) := by unfold f_X10_costBy prS; simp only [some_if]
theorem ag_cost {el : Nat → Int32} {ho ki fi so si : Int32} {K KK KF SO SI EL : Nat → Int32} (p1 : Int32) (hq : ShP p1 el ho ki fi so si K KK KF SO SI EL) : ∃ res : Int32, f_X9_cost ho ki fi p1 = some res ∧ f_X10_cost K KK KF p1 = some res := by
  rw [f_X9_cost, f_X10_cost]
  cases c : wiB p1 0 7 with
  | false => rw [ob_t (refusal_no c _ _), ob_t (wrongKept_no c _)]; exact ⟨-1, rfl, rfl⟩
  | true =>
    obtain ⟨d, hd, rfl⟩ := shelf_of c
    obtain ⟨a1, a2, a3, a4, a5, a6, a7, a8, a9⟩ := hq d hd rfl
    rw [ob_t (refusal_sp hd _ _), ob_t (wrongKept_sp hd K (by rw [a1]; exact a6)), a1]
    by_cases z : rf ho 1 = 0
    · obtain ⟨b1, b2, -, -⟩ := a7 (rf0 z)
      rw [if_pos z, if_pos z, gd_t (ix8 hd), gd_t (ix8 hd), gd_t (ix8 hd), gd_t (ix8 hd), nI_cl (by omega), b1, b2, price_eq, ob_t (cost_sp _ _)]
      exact ⟨_, rfl, rfl⟩
    · rw [if_neg z, if_neg z]
      exact ⟨_, rfl, rfl⟩
/-! comes -/
theorem admit_sp (k f r m : Nat → Int32) {P : Nat} (hP : P < 7) (a b c : Int32) : f_X8_admit k f r m (nI P) a b c = some (nI (P + 1), upd k P a, upd f P b, upd r P c, upd m P 0) := by
  have e1 : f_X8_hasRoom (nI P) = some 1 := by rw [f_X8_hasRoom, if_neg (show ¬ (7 : Int32) ≤ nI P from nI_ge (b := 7) hP (by omega))]
  rw [f_X8_admit, ob_t e1, if_neg (by decide), gd_t (ix7 hP), nm_k, gd_t (ix7 hP), nm_k, gd_t (ix7 hP), nm_k, gd_t (ix7 hP), nm_k, nm_k, nI_cl (by omega), nI_1]
section SHF
variable {h k f r m : Nat → Int32} {P : Nat} {shut needed day : Int32} {S : Nat → Int32}
theorem adds_sp (hS : Sm h k f r m P shut needed day S) (hP : P < 7) (a b c : Int32) : ∃ S', f_X10_adds S a b c = some S' ∧ Sm h (upd k P a) (upd f P b) (upd r P c) (upd m P 0) (P + 1) shut needed day S' := by
  obtain ⟨g0, g1, g2, g3, g4, g5⟩ := hS
  refine ⟨upd (upd (upd (upd (upd S (14 + 4 * P) a) (14 + 4 * P + 1) b) (14 + 4 * P + 2) c) (14 + 4 * P + 3) 0) 0 (nI (P + 1)), ?_, ?_⟩
  · rw [f_X10_adds, g0, ob_t (of0 P), gd_t (ix42 (by omega)), nm_k, ob_t (of1 P), gd_t (ix42 (by omega)), nm_k, ob_t (of2 P), gd_t (ix42 (by omega)), nm_k, ob_t (of3 P), gd_t (ix42 (by omega)), nm_k, nm_k, nI_cl (by omega), nI_cl (by omega), nI_cl (by omega), nI_cl (by omega), upd_ne _ _ (by omega), upd_ne _ _ (by omega), upd_ne _ _ (by omega), upd_ne _ _ (by omega), g0, nI_1]
  · have un : ∀ i, i ≠ 0 → i ≠ 14 + 4 * P → i ≠ 14 + 4 * P + 1 → i ≠ 14 + 4 * P + 2 → i ≠ 14 + 4 * P + 3 → upd (upd (upd (upd (upd S (14 + 4 * P) a) (14 + 4 * P + 1) b) (14 + 4 * P + 2) c) (14 + 4 * P + 3) 0) 0 (nI (P + 1)) i = S i := fun i h0 h1 h2 h3 h4 => by
      rw [upd_ne _ _ h0, upd_ne _ _ h4, upd_ne _ _ h3, upd_ne _ _ h2, upd_ne _ _ h1]
    refine ⟨upd_at _ _ _, (un 1 (by omega) (by omega) (by omega) (by omega) (by omega)).trans g1, (un 2 (by omega) (by omega) (by omega) (by omega) (by omega)).trans g2, (un 3 (by omega) (by omega) (by omega) (by omega) (by omega)).trans g3, fun b hb => (un (4 + b) (by omega) (by omega) (by omega) (by omega) (by omega)).trans (g4 b hb), fun q hq => ?_⟩
    by_cases e : q = P
    · subst e
      refine ⟨?_, ?_, ?_, ?_⟩
      · rw [upd_ne _ _ (by omega), upd_ne _ _ (by omega), upd_ne _ _ (by omega), upd_ne _ _ (by omega), upd_at, upd_at]
      · rw [upd_ne _ _ (by omega), upd_ne _ _ (by omega), upd_ne _ _ (by omega), upd_at, upd_at]
      · rw [upd_ne _ _ (by omega), upd_ne _ _ (by omega), upd_at, upd_at]
      · rw [upd_ne _ _ (by omega), upd_at, upd_at]
    · obtain ⟨a0, a1, a2, a3⟩ := g5 q (by omega)
      exact ⟨(un _ (by omega) (by omega) (by omega) (by omega) (by omega)).trans (a0.trans (upd_ne _ _ e).symm), (un _ (by omega) (by omega) (by omega) (by omega) (by omega)).trans (a1.trans (upd_ne _ _ e).symm), (un _ (by omega) (by omega) (by omega) (by omega) (by omega)).trans (a2.trans (upd_ne _ _ e).symm), (un _ (by omega) (by omega) (by omega) (by omega) (by omega)).trans (a3.trans (upd_ne _ _ e).symm)⟩
theorem upd_all {X : Nat → Int32} {P : Nat} {c : Int32} {Q : Int32 → Prop} (h : ∀ p, p < P → Q (X p)) (hc : Q c) : ∀ p, p < P + 1 → Q (upd X P c p) := by
  intro p hp
  by_cases e : p = P
  · subst e
    rw [upd_at]
    exact hc
  · rw [upd_ne _ _ e]
    exact h p (by omega)
theorem St.adm (hS : St h k f r m P shut needed day S) (hP7 : P < 7) {a b c : Int32} (ha : ∃ j : Nat, j < 8 ∧ a = nI j) (hb : ∃ j : Nat, j < 10 ∧ b = nI j) (hc : ∃ j : Nat, j < 10 ∧ c = nI j) : ∃ S', f_X10_adds S a b c = some S' ∧ St h (upd k P a) (upd f P b) (upd r P c) (upd m P 0) (P + 1) shut needed day S' := by
  obtain ⟨hs, hP, hh, hr, hf, hk, h2, h3, hm⟩ := id hS
  obtain ⟨S', e, hs'⟩ := adds_sp hs hP7 a b c
  exact ⟨S', e, hs', by omega, hh, upd_all (Q := fun x => ∃ j : Nat, j < 10 ∧ x = nI j) hr hc, upd_all (Q := fun x => ∃ j : Nat, j < 10 ∧ x = nI j) hf hb, upd_all (Q := fun x => ∃ j : Nat, j < 8 ∧ x = nI j) hk ha, h2, h3, upd_all (Q := fun x => -9 ≤ x.toInt ∧ x.toInt ≤ 9) hm (by decide)⟩
theorem ag_comes (hS : St h k f r m P shut needed day S) {el : Nat → Int32} {ho ki fi so si : Int32} {K KK KF SO SI EL : Nat → Int32} (p1 p2 : Int32) (hq : ShP p1 el ho ki fi so si K KK KF SO SI EL) : ∃ (res : Int32) (P' : Nat) (k' f' r' m' S' : Nat → Int32), f_X9_comes k f r m (nI P) ho ki fi p1 p2 = some (res, nI P', k', f', r', m') ∧ f_X10_comes S K KK KF p1 p2 = some (res, S') ∧ St h k' f' r' m' P' shut needed day S' := by
  obtain ⟨hs, hP, hh, hr, hf, hk, h2, h3⟩ := id hS
  rw [f_X9_comes, f_X10_comes, ob_t (isBalcony_sp _), ob_t (isRail_sp _), t01_if, t01_if]
  cases c1 : wiB p2 0 9 with
  | false => exact ⟨-1, P, k, f, r, m, S, rfl, rfl, hS⟩
  | true =>
    simp only [if_true]
    cases c : wiB p1 0 7 with
    | false => rw [ob_t (refusal_no c _ _), ob_t (wrongKept_no c _)]; exact ⟨-1, P, k, f, r, m, S, rfl, rfl, hS⟩
    | true =>
      obtain ⟨d, hd, rfl⟩ := shelf_of c
      obtain ⟨b, -, hb, rfl⟩ := wiB_of (a := 0) (b := 9) (by omega) (by omega) c1
      obtain ⟨a1, a2, a3, a4, a5, a6, a7, a8, a9⟩ := hq d hd rfl
      rw [ob_t (refusal_sp hd _ _), ob_t (wrongKept_sp hd K (by rw [a1]; exact a6)), a1]
      by_cases z : rf ho 1 = 0
      · obtain ⟨b1, b2, b3, b4⟩ := a7 (rf0 z)
        rw [if_pos z, if_pos z]
        by_cases z7 : P = 7
        · subst z7
          have e1 : f_X8_hasRoom (nI 7) = some 0 := rfl
          rw [ob_t e1, if_pos rfl, hs.1, if_pos (show nI 7 = 7 from rfl)]
          exact ⟨-2, 7, k, f, r, m, S, rfl, rfl, hS⟩
        · have e1 : f_X8_hasRoom (nI P) = some 1 := by rw [f_X8_hasRoom, if_neg (show ¬ (7 : Int32) ≤ nI P from nI_ge (b := 7) (by omega) (by omega))]
          obtain ⟨S', e2, hS'⟩ := hS.adm (show P < 7 by omega) b3 b4 ⟨b, by omega, rfl⟩
          rw [ob_t e1, if_neg (by decide), gd_t (ix8 hd), gd_t (ix8 hd), ob_t (admit_sp k f r m (by omega) _ _ _), hs.1, if_neg (show ¬ nI P = 7 from fun y => z7 ((nI_eq (b := 7) (by omega) (by omega)).mp y)), gd_t (ix8 hd), gd_t (ix8 hd), nI_cl (by omega), b1, b2, ob_t e2]
          simp only []
          rw [nm_k, nm_k, hS'.1.1]
          exact ⟨_, P + 1, _, _, _, _, S', rfl, rfl, hS'⟩
      · rw [if_neg z, if_neg z]
        exact ⟨_, P, k, f, r, m, S, rfl, rfl, hS⟩
end SHF
/-! keep -/
theorem ag_keep {el : Nat → Int32} {ho ki fi so si : Int32} {K KK KF SO SI EL : Nat → Int32} (p1 p2 p3 p4 : Int32) (hq : ShP p1 el ho ki fi so si K KK KF SO SI EL) : ∃ (res ho' ki' fi' : Int32) (K' KK' KF' : Nat → Int32), f_X9_keep ho ki fi p1 p2 p3 p4 = some (res, ho', ki', fi') ∧ f_X10_keep K KK KF p1 p2 p3 p4 = some (res, K', KK', KF') ∧ ShP p1 el ho' ki' fi' so si K' KK' KF' SO SI EL ∧ (∀ e : Nat, e < 8 → p1 ≠ nI e → K' e = K e ∧ KK' e = KK e ∧ KF' e = KF e) := by
  rw [f_X9_keep, f_X10_keep, ob_t (isShelf_sp _), ob_t (isShelfM_sp _), t01_if, t01_if, ob_t (isWithin_sp _ _ _), ob_t (isInM_sp _ _ _), t01_if, t01_if]
  cases c : wiB p1 0 7 with
  | false => exact ⟨-1, ho, ki, fi, K, KK, KF, rfl, rfl, hq, fun _ _ _ => ⟨rfl, rfl, rfl⟩⟩
  | true =>
    obtain ⟨d, hd, rfl⟩ := shelf_of c
    obtain ⟨a1, a2, a3, a4, a5, a6, a7, a8, a9⟩ := hq d hd rfl
    have dd : ∀ e : Nat, e < 8 → nI d = nI e → e = d := fun e he y => ((nI_eq (by omega) (by omega)).mp y).symm
    have ot : ∀ e : Nat, e < 8 → nI d ≠ nI e → e ≠ d := fun e he y z => y (by rw [z])
    cases c2 : wiB p2 0 1 with
    | false => exact ⟨-1, ho, ki, fi, K, KK, KF, rfl, rfl, hq, fun _ _ _ => ⟨rfl, rfl, rfl⟩⟩
    | true =>
      simp only [if_true]
      rw [ob_t (isWithin_sp _ _ _), ob_t (isWithin_sp _ _ _), ob_t (isInM_sp _ _ _), ob_t (isInM_sp _ _ _), t01_if, t01_if, t01_if, t01_if]
      simp only [gd_t (ix8 hd), nm_k]
      obtain ⟨x, -, hx, rfl⟩ := wiB_of (a := 0) (b := 1) (by omega) (by omega) c2
      have hx2 : x = 0 ∨ x = 1 := by omega
      rcases hx2 with rfl | rfl
      · rw [if_pos nI_0, if_neg (show ¬ nI 0 = 1 by decide), nI_cl (by omega)]
        refine ⟨0, 0, ki, fi, upd K d (nI 0), upd KK d p3, upd KF d p4, rfl, rfl, fun e he y => ?_, fun e he y => ⟨upd_ne _ _ (ot e he y), upd_ne _ _ (ot e he y), upd_ne _ _ (ot e he y)⟩⟩
        have := dd e he y
        subst this
        exact ⟨upd_at _ _ _, a2, a3, a4, a5, Or.inl rfl, fun z => absurd z (by decide), a8, a9⟩
      · rw [if_neg (show ¬ nI 1 = 0 by decide), if_pos (show nI 1 = 1 by decide)]
        cases c3 : wiB p3 0 7 with
        | false => exact ⟨-1, ho, ki, fi, K, KK, KF, rfl, rfl, hq, fun _ _ _ => ⟨rfl, rfl, rfl⟩⟩
        | true =>
          cases c4 : wiB p4 0 9 with
          | false => exact ⟨-1, ho, ki, fi, K, KK, KF, rfl, rfl, hq, fun _ _ _ => ⟨rfl, rfl, rfl⟩⟩
          | true =>
            obtain ⟨a, -, ha, rfl⟩ := wiB_of (a := 0) (b := 7) (by omega) (by omega) c3
            obtain ⟨b, -, hb, rfl⟩ := wiB_of (a := 0) (b := 9) (by omega) (by omega) c4
            have et : f_X7_takeKind (nI a) (nI b) = some (1, nI a, nI b) := rfl
            simp only [if_true]
            rw [ob_t et, nI_cl (by omega)]
            refine ⟨0, 1, nI a, nI b, upd K d (nI 1), upd KK d (nI a), upd KF d (nI b), rfl, rfl, fun e he y => ?_, fun e he y => ⟨upd_ne _ _ (ot e he y), upd_ne _ _ (ot e he y), upd_ne _ _ (ot e he y)⟩⟩
            have := dd e he y
            subst this
            exact ⟨upd_at _ _ _, a2, a3, a4, a5, Or.inr (Or.inl rfl), fun _ => ⟨upd_at _ _ _, upd_at _ _ _, ⟨a, by omega, rfl⟩, ⟨b, by omega, rfl⟩⟩, a8, a9⟩
/-! row -/
theorem fill_at (v : Int32) (o : Nat) : ∀ (d j : Nat) (z : Nat → Int32) (i : Nat), fup (fun i z => upd z (o + i) v) j d z i = if o + j ≤ i ∧ i < o + j + d then v else z i
  | 0, j, z, i => by rw [if_neg (by omega)]; rfl
  | d + 1, j, z, i => by
    show fup _ (j + 1) d (upd z (o + j) v) i = _
    rw [fill_at v o d (j + 1)]
    by_cases e : i = o + j
    · subst e
      rw [upd_at, if_neg (by omega), if_pos (by omega)]
    · rw [upd_ne _ _ e]
      by_cases y : o + (j + 1) ≤ i ∧ i < o + (j + 1) + d
      · rw [if_pos y, if_pos (by omega)]
      · rw [if_neg y, if_neg (by omega)]
theorem takeRow_sp (el : Nat → Int32) (s n : Int32) {N : Nat} (hN : 101 ≤ N) : ∃ el', f_X7_takeRow N el s n = some (2, s, n, el') ∧ ∀ i, i < 100 → el' i = 0 := by
  refine ⟨fup (fun i z => upd z (0 + i) 0) 0 100 el, ?_, fun i hi => by rw [fill_at, if_pos (by omega)]⟩
  rw [f_X7_takeRow]
  refine lup (P := 100) (fun n i a => L_X7_takeRow_17 s _ n i a) (fun i z => upd z (0 + i) 0) (fun a => some (2, s, _, a)) (fun n a => ?_) (fun q j a hj => ?_) 100 0 N el (by omega) (by omega)
  · simp only [L_X7_takeRow_17]
    rw [if_pos (show (100 : Int32) ≤ nI 100 by decide)]
  · rw [L_X7_takeRow_17, if_neg (show ¬ (100 : Int32) ≤ nI j from nI_ge (b := 100) hj (by omega)), gd_t (ix100 hj), nm_k, nI_cl (by omega), Nat.zero_add]
theorem e100 (d i : Nat) : (100 : Int32) * nI d + nI i = nI (100 * d + i) := by
  rw [show (100 : Int32) = nI 100 from rfl, pk_mul, nI_add]
theorem ag_row {el : Nat → Int32} {ho ki fi so si : Int32} {K KK KF SO SI EL : Nat → Int32} (p1 p2 p3 : Int32) (hq : ShP p1 el ho ki fi so si K KK KF SO SI EL) {N : Nat} (hN : 1001 ≤ N) : ∃ (res ho' so' si' : Int32) (el' K' SO' SI' EL' : Nat → Int32), f_X9_row N el ho so si p1 p2 p3 = some (res, ho', so', si', el') ∧ f_X10_row N K SO SI EL p1 p2 p3 = some (res, K', SO', SI', EL') ∧ ShP p1 el' ho' ki fi so' si' K' KK KF SO' SI' EL' ∧ (∀ e : Nat, e < 8 → p1 ≠ nI e → K' e = K e ∧ SO' e = SO e ∧ SI' e = SI e ∧ ∀ i, i < 100 → EL' (100 * e + i) = EL (100 * e + i)) := by
  rw [f_X9_row, f_X10_row, ob_t (isShelf_sp _), ob_t (isShelfM_sp _), t01_if, t01_if, ob_t (isWithin_sp _ _ _), ob_t (isInM_sp _ _ _), t01_if, t01_if]
  have no : ∀ res : Int32, ∃ (res' ho' so' si' : Int32) (el' K' SO' SI' EL' : Nat → Int32), some (res, ho, so, si, el) = some (res', ho', so', si', el') ∧ some (res, K, SO, SI, EL) = some (res', K', SO', SI', EL') ∧ ShP p1 el' ho' ki fi so' si' K' KK KF SO' SI' EL' ∧ (∀ e : Nat, e < 8 → p1 ≠ nI e → K' e = K e ∧ SO' e = SO e ∧ SI' e = SI e ∧ ∀ i, i < 100 → EL' (100 * e + i) = EL (100 * e + i)) := fun res => ⟨res, ho, so, si, el, K, SO, SI, EL, rfl, rfl, hq, fun _ _ _ => ⟨rfl, rfl, rfl, fun _ _ => rfl⟩⟩
  cases c : wiB p1 0 7 with
  | false => exact no (-1)
  | true =>
    cases c2 : wiB p2 0 2 with
    | false => exact no (-1)
    | true =>
      simp only [if_true]
      by_cases c3 : p3 ≤ 100
      · by_cases c4 : 0 ≤ p3
        · obtain ⟨d, hd, rfl⟩ := shelf_of c
          obtain ⟨a1, a2, a3, a4, a5, a6, a7, a8, a9⟩ := hq d hd rfl
          obtain ⟨x, -, hx, rfl⟩ := wiB_of (a := 0) (b := 2) (by omega) (by omega) c2
          obtain ⟨n, hn, rfl⟩ := nI_of2 (M := 100) (n := 100) (by decide) (Int32.not_lt.mpr c4) c3
          obtain ⟨el', e1, hel⟩ := takeRow_sp el (nI x) (nI n) (show 101 ≤ N by omega)
          have dd : ∀ e : Nat, e < 8 → nI d = nI e → e = d := fun e he y => ((nI_eq (by omega) (by omega)).mp y).symm
          have ot : ∀ e : Nat, e < 8 → nI d ≠ nI e → e ≠ d := fun e he y z => y (by rw [z])
          have e2 : L_X10_row_55 (nI d) (upd K d 2) (upd SO d (nI x)) (upd SI d (nI n)) N 0 EL = some (0, upd K d 2, upd SO d (nI x), upd SI d (nI n), fup (fun i z => upd z (100 * d + i) 0) 0 100 EL) := by
            refine lup (P := 100) (fun q i a => L_X10_row_55 (nI d) (upd K d 2) (upd SO d (nI x)) (upd SI d (nI n)) q i a) (fun i z => upd z (100 * d + i) 0) (fun a => some (0, upd K d 2, upd SO d (nI x), upd SI d (nI n), a)) (fun q a => ?_) (fun q j a hj => ?_) 100 0 N EL (by omega) (by omega)
            · simp only [L_X10_row_55]
              rw [if_pos (show (100 : Int32) ≤ nI 100 by decide)]
              rfl
            · rw [L_X10_row_55, if_neg (show ¬ (100 : Int32) ≤ nI j from nI_ge (b := 100) hj (by omega)), e100, gd_t (ix800 (by omega)), nm_k, nI_cl (by omega)]
          rw [if_pos c3, if_pos c4, if_pos c3, if_pos c4]
          simp only [gd_t (ix8 hd), nm_k]
          rw [ob_t e1, nI_cl (by omega), e2]
          refine ⟨0, 2, nI x, nI n, el', _, _, _, _, rfl, rfl, fun e he y => ?_, fun e he y => ⟨upd_ne _ _ (ot e he y), upd_ne _ _ (ot e he y), upd_ne _ _ (ot e he y), fun i hi => ?_⟩⟩
          · have := dd e he y
            subst this
            refine ⟨upd_at _ _ _, upd_at _ _ _, upd_at _ _ _, ⟨n, hn, rfl⟩, ?_, Or.inr (Or.inr rfl), fun z => absurd z (by decide), fun i hi => ?_, fun _ i hi => ?_⟩
            · have hx2 : x = 0 ∨ x = 1 ∨ x = 2 := by omega
              rcases hx2 with rfl | rfl | rfl
              · exact Or.inl rfl
              · exact Or.inr (Or.inl rfl)
              · exact Or.inr (Or.inr rfl)
            · rw [fill_at, if_pos (by omega), hel i hi]
            · rw [hel i hi]
              rfl
          · have := ot e he y
            rw [fill_at, if_neg (by omega)]
        · rw [if_pos c3, if_neg c4, if_pos c3, if_neg c4]
          exact no (-14)
      · rw [if_neg c3, if_neg c3]
        exact no (-1)
/-! put -/
def hpB (z : Nat) (v : Int32) : Bool := decide (¬ v < 0) && decide (¬ nI z ≤ v)
theorem hasPlace_sp (z : Nat) (v : Int32) : f_X7_hasPlace (nI z) v = some (t01 (hpB z v)) := by
  unfold f_X7_hasPlace hpB t01
  by_cases h1 : v < 0
  · simp [h1]
  · by_cases h2 : nI z ≤ v <;> simp [h1, h2]
theorem hpB_wi {z : Nat} (hz : z ≤ 100) (v : Int32) : wiB v 0 (nI z - 1) = hpB z v := by
  unfold wiB hpB
  have e1 : (nI z).toInt = (z : Int) := nI_toInt (by omega)
  have e2 : (nI z - 1).toInt = (z : Int) - 1 := pk_sub_toInt (a := z) (b := 1) (by omega) (by omega)
  congr 1
  rw [decide_eq_decide, Int32.lt_iff_toInt_lt, Int32.le_iff_toInt_le, e1, e2]
  omega
theorem hpB_of {z : Nat} {v : Int32} (hz : z ≤ 100) (h : hpB z v = true) : ∃ i : Nat, i < z ∧ v = nI i := by
  unfold hpB at h
  simp only [Bool.and_eq_true, decide_eq_true_eq] at h
  obtain ⟨j, hj, e⟩ := nI_of h.1
  refine ⟨j, ?_, e⟩
  rw [e] at h
  rcases Nat.lt_or_ge j z with q | q
  · exact q
  · exact absurd (nI_le q hj) h.2
theorem at_sp (el : Nat → Int32) {z i : Nat} (hz : z ≤ 100) (hi : i < z) : f_X7_at el (nI z) (nI i) = some (el i) := by
  have : hpB z (nI i) = true := by
    unfold hpB
    rw [decide_eq_true (nI_pos (show i < 2 ^ 31 by omega)), decide_eq_true (nI_ge hi (by omega))]
    rfl
  rw [f_X7_at, ob_t (hasPlace_sp _ _), this, t01_if, if_pos rfl, gd_t (ix100 (by omega)), nI_cl (by omega)]
def lbS (so v : Int32) : Int32 := if so = 0 then v.toInt8.toInt32 else if so = 1 then v.toInt16.toInt32 else v
theorem ag_put {el : Nat → Int32} {ho ki fi so si : Int32} {K KK KF SO SI EL : Nat → Int32} (p1 p2 p3 : Int32) (hq : ShP p1 el ho ki fi so si K KK KF SO SI EL) : ∃ (res : Int32) (el' EL' : Nat → Int32), f_X9_put el ho so si p1 p2 p3 = some (res, el') ∧ f_X10_put K SO SI EL p1 p2 p3 = some (res, EL') ∧ ShP p1 el' ho ki fi so si K KK KF SO SI EL' ∧ (∀ e : Nat, e < 8 → p1 ≠ nI e → ∀ i, i < 100 → EL' (100 * e + i) = EL (100 * e + i)) := by
  rw [f_X9_put, f_X10_put]
  cases c : wiB p1 0 7 with
  | false => rw [ob_t (refusal_no c _ _), ob_t (wrongRow_no c _ _ _)]; exact ⟨-1, el, EL, rfl, rfl, hq, fun _ _ _ _ _ => rfl⟩
  | true =>
    obtain ⟨d, hd, rfl⟩ := shelf_of c
    obtain ⟨a1, a2, a3, ⟨z, hz, rfl⟩, a5, a6, a7, a8, a9⟩ := hq d hd rfl
    have dd : ∀ e : Nat, e < 8 → nI d = nI e → e = d := fun e he y => ((nI_eq (by omega) (by omega)).mp y).symm
    have ot : ∀ e : Nat, e < 8 → nI d ≠ nI e → e ≠ d := fun e he y z => y (by rw [z])
    rw [ob_t (refusal_sp hd _ _), ob_t (wrongRow_sp hd K SO), a1]
    by_cases y : rf ho 2 = 0
    · rw [if_pos y, if_pos y]
      simp only [gd_t (ix8 hd)]
      rw [nI_cl (by omega), a3, ob_t (hasPlace_sp _ _), ob_t (isInM_sp _ _ _), hpB_wi hz, t01_if, t01_if]
      cases c2 : hpB z p2 with
      | false => exact ⟨-13, el, EL, rfl, rfl, hq, fun _ _ _ _ _ => rfl⟩
      | true =>
        obtain ⟨i, hi, rfl⟩ := hpB_of hz c2
        have es : f_X7_set el so (nI z) (nI i) p3 = some (upd el i (lbS so p3)) := by
          have el1 : f_X7_lowestBits so p3 = some (lbS so p3) := by unfold f_X7_lowestBits lbS; simp only [some_if]
          rw [f_X7_set, ob_t (hasPlace_sp _ _), c2, t01_if, if_pos rfl, ob_t el1, gd_t (ix100 (by omega)), nm_k, nI_cl (by omega)]
        simp only [if_true]
        rw [ob_t es, e100, gd_t (ix800 (by omega)), gd_t (ix800 (by omega)), gd_t (ix800 (by omega)), nI_cl (by omega), a2]
        simp only [nm_k]
        have em : (if so = 0 then some ((0 : Int32), upd EL (100 * d + i) p3.toInt8.toInt32) else if so = 1 then some (0, upd EL (100 * d + i) p3.toInt16.toInt32) else some (0, upd EL (100 * d + i) p3)) = some (0, upd EL (100 * d + i) (lbS so p3)) := by
          unfold lbS
          by_cases y0 : so = 0
          · simp [y0]
          · by_cases y1 : so = 1 <;> simp [y0, y1]
        rw [em]
        refine ⟨0, _, _, rfl, rfl, fun e he y => ?_, fun e he y q hq2 => upd_ne _ _ (by have := ot e he y; omega)⟩
        have := dd e he y
        subst this
        refine ⟨a1, a2, a3, ⟨z, hz, rfl⟩, a5, a6, a7, fun q hq2 => ?_, fun s0 q hq2 => ?_⟩
        · by_cases e2 : q = i
          · subst e2
            rw [upd_at, upd_at]
          · rw [upd_ne _ _ (by omega), upd_ne _ _ e2]
            exact a8 q hq2
        · by_cases e2 : q = i
          · subst e2
            rw [upd_at]
            unfold lbS
            rw [if_pos s0]
            simp
          · rw [upd_ne _ _ e2]
            exact a9 s0 q hq2
    · rw [if_neg y, if_neg y]
      exact ⟨_, el, EL, rfl, rfl, hq, fun _ _ _ _ _ => rfl⟩
