/-! THE PURE LAYER: what the functions answer. Specs over the class's rows (h k f r m: height, kind, figure, rail, mood), P people. -/
/-- a fold over k, k+1, .., k+d-1 -/
def fup {α : Type} (st : Nat → α → α) : Nat → Nat → α → α
  | _, 0, a => a
  | k, d + 1, a => fup st (k + 1) d (st k a)
def anyS (c : Nat → Bool) : Nat → Nat → Bool
  | _, 0 => false
  | k, d + 1 => c k || anyS c (k + 1) d
theorem fup_congr {α : Type} {st st' : Nat → α → α} : ∀ (d k : Nat) (a : α), (∀ j a, k ≤ j → j < k + d → st j a = st' j a) → fup st k d a = fup st' k d a
  | 0, _, _, _ => rfl
  | d + 1, k, a, h => by
    show fup st (k + 1) d (st k a) = fup st' (k + 1) d (st' k a)
    rw [h k a (Nat.le_refl k) (by omega)]
    exact fup_congr d (k + 1) _ (fun j a h1 h2 => h j a (by omega) (by omega))
theorem anyS_congr {c c' : Nat → Bool} : ∀ (d k : Nat), (∀ j, k ≤ j → j < k + d → c j = c' j) → anyS c k d = anyS c' k d
  | 0, _, _ => rfl
  | d + 1, k, h => by
    show (c k || anyS c (k + 1) d) = (c' k || anyS c' (k + 1) d)
    rw [h k (Nat.le_refl k) (by omega), anyS_congr d (k + 1) (fun j h1 h2 => h j (by omega) (by omega))]
/-- a loop that counts up to P -/
theorem lup {α R : Type} {P : Nat} (F : Nat → Int32 → α → Option R) (st : Nat → α → α) (fin : α → Option R) (h0 : ∀ n a, F (n + 1) (nI P) a = fin a) (hs : ∀ n k a, k < P → F (n + 1) (nI k) a = F n (nI k + 1) (st k a)) :
    ∀ (d k n : Nat) (a : α), k + d = P → d < n → F n (nI k) a = fin (fup st k d a)
  | 0, k, 0, _, _, h => absurd h (by omega)
  | 0, k, n + 1, a, h, _ => by
    have : k = P := by omega
    subst this
    exact h0 n a
  | d + 1, k, 0, _, _, h => absurd h (by omega)
  | d + 1, k, n + 1, a, h, hn => by
    rw [hs n k a (by omega), nI_1]
    exact lup F st fin h0 hs d (k + 1) n (st k a) (by omega) (by omega)
/-- .. that may end early with one and the same answer -/
theorem lany {R : Type} {P : Nat} (F : Nat → Int32 → Option R) (c : Nat → Bool) (yes no : Option R) (h0 : ∀ n, F (n + 1) (nI P) = no) (hs : ∀ n k, k < P → F (n + 1) (nI k) = if c k then yes else F n (nI k + 1)) :
    ∀ (d k n : Nat), k + d = P → d < n → F n (nI k) = if anyS c k d then yes else no
  | 0, k, 0, _, h => absurd h (by omega)
  | 0, k, n + 1, h, _ => by
    have : k = P := by omega
    subst this
    exact h0 n
  | d + 1, k, 0, _, h => absurd h (by omega)
  | d + 1, k, n + 1, h, hn => by
    rw [hs n k (by omega), nI_1, lany F c yes no h0 hs d (k + 1) n (by omega) (by omega)]
    show _ = if (c k || anyS c (k + 1) d) then yes else no
    cases c k <;> rfl
def t01 (b : Bool) : Int32 := if b then 1 else 0
theorem t01_if {α : Type} (b : Bool) (A B : α) : (if t01 b = 0 then A else B) = if b then B else A := by cases b <;> rfl
theorem t01_if1 {α : Type} (b : Bool) (A B : α) : (if t01 b = 1 then A else B) = if b then A else B := by cases b <;> rfl
theorem nI_nge {a b : Nat} (h : a < b) (hb : b ≤ 7) : ¬ nI b ≤ nI a := nI_ge h (by omega)
theorem nI_cl {k : Nat} (h : k < 1000) : (nI k).toNatClampNeg = k := nI_clamp (by omega)
theorem ix_n {k n : Nat} (h : k < n) (hn : n < 2 ^ 31) : ix (nI k) n = true := ix_t (vp_in_nI h hn)
theorem ix7 {k : Nat} (h : k < 7) : ix (nI k) 7 = true := ix_n h (by omega)
theorem ix10 {k : Nat} (h : k < 10) : ix (nI k) 10 = true := ix_n h (by omega)
theorem ix42 {k : Nat} (h : k < 42) : ix (nI k) 42 = true := ix_n h (by omega)
/-! bits -/
def inn (g i : Int32) : Bool := decide (¬ (((g >>> (i &&& 31)) &&& (1 : Int32)) = 0))
theorem and1 (x : Int32) : x &&& 1 = 0 ∨ x &&& 1 = 1 := by
  have h := pk_and x (m := 1) 1 (by decide)
  have h2 : x.toBitVec.toNat % 2 ^ 1 = 0 ∨ x.toBitVec.toNat % 2 ^ 1 = 1 := by omega
  rcases h2 with h2 | h2
  · left; rw [h, h2]; rfl
  · right; rw [h, h2]; rfl
theorem isIn_sp (g i : Int32) : f_X9_isIn g i = some (t01 (inn g i)) := by
  unfold f_X9_isIn inn t01
  by_cases h : ((g >>> (i &&& 31)) &&& (1 : Int32)) = 0
  · rw [if_pos h]; simp [h]
  · rw [if_neg h]; simp [h]
theorem has_sp (g i : Int32) : f_X10_has g i = some (t01 (inn g i)) := by
  unfold f_X10_has inn t01
  rcases and1 (g >>> (i &&& 31)) with h | h
  · rw [h]; rfl
  · rw [h]; rfl
def bt1 (k : Nat) : Int32 := (1 : Int32) <<< (nI k &&& 31)
def sB (c : Nat → Bool) (k : Nat) (a : Int32) : Int32 := if c k then a ||| bt1 k else a
def bS (c : Nat → Bool) (P : Nat) : Int32 := fup (sB c) 0 P 0
theorem bS_congr {c c' : Nat → Bool} {P : Nat} (h : ∀ j, j < P → c j = c' j) : bS c P = bS c' P := fup_congr P 0 0 (fun j a _ h2 => by unfold sB; rw [h j (by omega)])
/-! who is heard, for it, against it -/
def hdS (r : Nat → Int32) (shut : Int32) (P : Nat) : Int32 := bS (fun p => !inn shut (r p)) P
def foS (m : Nat → Int32) (P : Nat) : Int32 := bS (fun p => decide (¬ m p ≤ 0)) P
/-! weights -/
def wtS (k f h : Int32) : Int32 := if k = 1 then 2 * h else if k = 2 then f / 3 else if k = 3 then h else if k = 4 then h / 2 else if k = 5 then 9 else if k = 6 then 2 * h + f else if k = 7 then 3 + f / 2 else 1 + h
def swS (k f : Int32) : Int32 := if k = 1 then 0 else if k = 3 then 2 else if k = 4 then 2 + f / 3 else if k = 5 then 3 else if k = 6 then 0 else 1
def veS (k m : Int32) : Bool := (decide (k = 6) && decide (m < 0)) || (decide (k = 7) && decide (¬ (-5 : Int32) < m))
theorem some_if {α : Type} {c : Prop} [Decidable c] (a b : α) : (if c then some a else some b) = some (if c then a else b) := by by_cases h : c <;> simp [h]
theorem wt_sp (k f h : Int32) : f_X3_weightOf k f h = some (wtS k f h) := by unfold f_X3_weightOf wtS; simp only [some_if]
theorem wtm_sp (k f h : Int32) : f_X10_weightBy k f h = some (wtS k f h) := by unfold f_X10_weightBy wtS; simp only [some_if]
theorem sw_sp (k f : Int32) : f_X3_swayOf k f = some (swS k f) := by unfold f_X3_swayOf swS; simp only [some_if]
theorem swm_sp (k f : Int32) : f_X10_swayBy k f = some (swS k f) := by unfold f_X10_swayBy swS; simp only [some_if]
theorem ve_sp (k m : Int32) : f_X3_isVeto k m = some (t01 (veS k m)) := by
  unfold f_X3_isVeto veS t01
  by_cases h6 : k = 6
  · subst h6
    by_cases hm : m < 0 <;> simp [hm]
  · by_cases h7 : k = 7
    · subst h7
      by_cases hm : (-5 : Int32) < m <;> simp [hm]
    · simp [h6, h7]
def w1 (h k f r : Nat → Int32) (p : Nat) : Int32 := wtS (k p) (f p) (h (r p).toNatClampNeg)
def waS (h k f r : Nat → Int32) (P : Nat) (g : Int32) : Int32 := fup (fun p a => if inn g (nI p) then a + w1 h k f r p else a) 0 P 0
/-! sides -/
def sd (r : Nat → Int32) (p : Nat) : Int32 := r p - r p / 2 * 2
def osS (r : Nat → Int32) (P : Nat) (g side : Int32) : Bool := anyS (fun p => inn g (nI p) && decide (sd r p = side)) 0 P
def vdS (k m : Nat → Int32) (P : Nat) (g : Int32) : Bool := anyS (fun p => inn g (nI p) && veS (k p) (m p)) 0 P
def whS (h k f r m : Nat → Int32) (P : Nat) (needed g : Int32) : Int32 := if osS r P (g &&& foS m P) 0 then (if osS r P (g &&& foS m P) 1 then (if needed ≤ waS h k f r P (g &&& foS m P) then (if vdS k m P g then 4 else 0) else 3) else 2) else 1
def caS (h k f r m : Nat → Int32) (P : Nat) (shut needed : Int32) : Bool := decide (whS h k f r m P needed (hdS r shut P) = 0)
/-! what is in range -/
def OkR (r : Nat → Int32) (P : Nat) : Prop := ∀ p, p < P → ∃ j : Nat, j < 10 ∧ r p = nI j
/-- class: who is heard -/
theorem X8_isHeard_sp (r : Nat → Int32) (shut : Int32) {p : Nat} (hp : p < 7) : f_X8_isHeard r shut (nI p) = some (t01 (!inn shut (r p))) := by
  rw [f_X8_isHeard, gd_t (ix7 hp), nI_cl (by omega), isIn_sp]
  show (if t01 _ = 0 then _ else _) = _
  rw [t01_if]
  cases inn shut (r p) <;> rfl
theorem X8_heardOnes_sp (r : Nat → Int32) (shut : Int32) {P N : Nat} (hP : P ≤ 7) (hN : 8 ≤ N) : f_X8_heardOnes N r shut (nI P) = some (hdS r shut P) := by
  rw [f_X8_heardOnes]
  refine lup (P := P) (fun n i a => L_X8_heardOnes_4 r shut (nI P) n i a) (sB (fun p => !inn shut (r p))) some ?_ ?_ P 0 N 0 (by omega) (by omega)
  · intro n a
    simp only [L_X8_heardOnes_4]
    rw [if_pos (nI_le (Nat.le_refl P) (by omega))]
  · intro n k a hk
    rw [L_X8_heardOnes_4, if_neg (nI_nge hk hP), X8_isHeard_sp r shut (by omega)]
    show (if t01 _ = 0 then _ else _) = _
    rw [t01_if]
    cases hi : inn shut (r k) <;> simp [hi, nm, bt1, sB]
theorem X8_onesFor_sp (m : Nat → Int32) {P N : Nat} (hP : P ≤ 7) (hN : 8 ≤ N) : f_X8_onesFor N m (nI P) = some (foS m P) := by
  rw [f_X8_onesFor]
  refine lup (P := P) (fun n i a => L_X8_onesFor_4 m (nI P) n i a) (sB (fun p => decide (¬ m p ≤ 0))) some ?_ ?_ P 0 N 0 (by omega) (by omega)
  · intro n a
    simp only [L_X8_onesFor_4]
    rw [if_pos (nI_le (Nat.le_refl P) (by omega))]
  · intro n k a hk
    rw [L_X8_onesFor_4, if_neg (nI_nge hk hP), gd_t (ix7 (by omega)), nI_cl (by omega)]
    unfold sB
    by_cases hm : m k ≤ 0
    · simp [hm]
    · simp [hm, nm, bt1]
theorem X8_weightOf_sp (h k f r : Nat → Int32) {P p : Nat} (hP : P ≤ 7) (hr : OkR r P) (hp : p < P) : f_X8_weightOf h k f r (nI p) = some (w1 h k f r p) := by
  obtain ⟨j, hj, ej⟩ := hr p hp
  rw [f_X8_weightOf, gd_t (ix7 (by omega)), gd_t (ix7 (by omega)), gd_t (ix7 (by omega)), nI_cl (by omega), gd_t (by rw [ej]; exact ix10 hj), wt_sp]
  rfl
theorem X8_weightOfAll_sp (h k f r : Nat → Int32) (g : Int32) {P N : Nat} (hP : P ≤ 7) (hr : OkR r P) (hN : 8 ≤ N) : f_X8_weightOfAll N h k f r (nI P) g = some (waS h k f r P g) := by
  rw [f_X8_weightOfAll]
  refine lup (P := P) (fun n i a => L_X8_weightOfAll_4 h k f r (nI P) g n i a) (fun p a => if inn g (nI p) then a + w1 h k f r p else a) some ?_ ?_ P 0 N 0 (by omega) (by omega)
  · intro n a
    simp only [L_X8_weightOfAll_4]
    rw [if_pos (nI_le (Nat.le_refl P) (by omega))]
  · intro n j a hk
    rw [L_X8_weightOfAll_4, if_neg (nI_nge hk hP), isIn_sp]
    show (if t01 _ = 0 then _ else _) = _
    rw [t01_if, X8_weightOf_sp h k f r hP hr hk]
    cases inn g (nI j) <;> rfl
theorem X8_isVetoed_sp (k m : Nat → Int32) (g : Int32) {P N : Nat} (hP : P ≤ 7) (hN : 8 ≤ N) : f_X8_isVetoed N k m (nI P) g = some (t01 (vdS k m P g)) := by
  rw [f_X8_isVetoed]
  have e := lany (P := P) (fun n i => L_X8_isVetoed_2 k m (nI P) g n i) (fun p => inn g (nI p) && veS (k p) (m p)) (some 1) (some 0) (fun n => ?_) (fun n j hj => ?_) P 0 N (by omega) (by omega)
  · refine Eq.trans e ?_
    unfold vdS t01
    cases anyS (fun p => inn g (nI p) && veS (k p) (m p)) 0 P <;> rfl
  · simp only [L_X8_isVetoed_2]
    rw [if_pos (nI_le (Nat.le_refl P) (by omega))]
  · rw [L_X8_isVetoed_2, if_neg (nI_nge hj hP), isIn_sp]
    show (if t01 _ = 0 then _ else _) = _
    rw [t01_if, gd_t (ix7 (by omega)), gd_t (ix7 (by omega)), nI_cl (by omega), ve_sp]
    show (if _ then (if t01 _ = 0 then _ else _) else _) = _
    rw [t01_if]
    cases inn g (nI j) <;> cases veS (k j) (m j) <;> rfl
/-! the two bits of the sides -/
def sc (a b : Bool) : Int32 := t01 a ||| (if b then 2 else 0)
theorem sc1 (a b : Bool) : (sc a b &&& 1 = 0) = (a = false) := by cases a <;> cases b <;> simp [sc, t01] <;> decide
theorem sc2 (a b : Bool) : (sc a b &&& 2 = 0) = (b = false) := by cases a <;> cases b <;> simp [sc, t01] <;> decide
theorem sd_01 {r : Nat → Int32} {P p : Nat} (hr : OkR r P) (hp : p < P) : sd r p = 0 ∨ sd r p = 1 := by
  obtain ⟨j, hj, ej⟩ := hr p hp
  have h : sd r p = nI (j % 2) := by unfold sd; rw [ej]; exact pk_rem (d := 2) (by omega) (by omega) (by omega)
  have h2 : j % 2 = 0 ∨ j % 2 = 1 := by omega
  rcases h2 with h2 | h2
  · left; rw [h, h2]; rfl
  · right; rw [h, h2]; rfl
theorem sides_fold (r : Nat → Int32) (g : Int32) {P : Nat} (hr : OkR r P) : ∀ (d k : Nat) (a b : Bool), k + d = P → fup (fun p x => if inn g (nI p) then x ||| ((1 : Int32) <<< (sd r p &&& 31)) else x) k d (sc a b) = sc (a || anyS (fun p => inn g (nI p) && decide (sd r p = 0)) k d) (b || anyS (fun p => inn g (nI p) && decide (sd r p = 1)) k d)
  | 0, k, a, b, _ => by simp [fup, anyS]
  | d + 1, k, a, b, h => by
    have hs := sd_01 hr (p := k) (by omega)
    show fup _ (k + 1) d (if inn g (nI k) then sc a b ||| ((1 : Int32) <<< (sd r k &&& 31)) else sc a b) = _
    have e : (if inn g (nI k) then sc a b ||| ((1 : Int32) <<< (sd r k &&& 31)) else sc a b) = sc (a || (inn g (nI k) && decide (sd r k = 0))) (b || (inn g (nI k) && decide (sd r k = 1))) := by
      rcases hs with hs | hs <;> rw [hs] <;> cases inn g (nI k) <;> cases a <;> cases b <;> rfl
    rw [e, sides_fold r g hr d (k + 1) _ _ (by omega)]
    show _ = sc (a || ((inn g (nI k) && decide (sd r k = 0)) || anyS _ (k + 1) d)) (b || ((inn g (nI k) && decide (sd r k = 1)) || anyS _ (k + 1) d))
    rw [Bool.or_assoc, Bool.or_assoc]
theorem X8_sidesOf_sp (r : Nat → Int32) (g : Int32) {P N : Nat} (hP : P ≤ 7) (hr : OkR r P) (hN : 8 ≤ N) : f_X8_sidesOf N r (nI P) g = some (sc (osS r P g 0) (osS r P g 1)) := by
  rw [f_X8_sidesOf]
  have e := lup (P := P) (fun n i a => L_X8_sidesOf_4 r (nI P) g n i a) (fun p x => if inn g (nI p) then x ||| ((1 : Int32) <<< (sd r p &&& 31)) else x) some (fun n a => ?_) (fun n j a hj => ?_) P 0 N (sc false false) (by omega) (by omega)
  · refine Eq.trans e ?_
    rw [sides_fold r g hr P 0 false false (by omega)]
    rfl
  · simp only [L_X8_sidesOf_4]
    rw [if_pos (nI_le (Nat.le_refl P) (by omega))]
  · rw [L_X8_sidesOf_4, if_neg (nI_nge hj hP), isIn_sp]
    show (if t01 _ = 0 then _ else _) = _
    rw [t01_if, gd_t (ix7 (by omega)), nI_cl (by omega)]
    cases inn g (nI j) <;> rfl
theorem X8_whyNot_sp (h k f r m : Nat → Int32) (needed g : Int32) {P N : Nat} (hP : P ≤ 7) (hr : OkR r P) (hN : 8 ≤ N) : f_X8_whyNot N h k f r m (nI P) needed g = some (whS h k f r m P needed g) := by
  rw [f_X8_whyNot, ob_t (X8_onesFor_sp m hP hN), ob_t (X8_sidesOf_sp r _ hP hr hN)]
  unfold whS
  simp only [sc1, sc2]
  rw [ob_t (X8_weightOfAll_sp h k f r _ hP hr hN), ob_t (X8_isVetoed_sp k m g hP hN), t01_if]
  cases osS r P (g &&& foS m P) 0 <;> cases osS r P (g &&& foS m P) 1 <;> simp
  by_cases hn : needed ≤ waS h k f r P (g &&& foS m P) <;> cases vdS k m P g <;> simp [hn]
theorem X8_isCarried_sp (h k f r m : Nat → Int32) (shut needed : Int32) {P N : Nat} (hP : P ≤ 7) (hr : OkR r P) (hN : 8 ≤ N) : f_X8_isCarried N h k f r m shut (nI P) needed = some (t01 (caS h k f r m P shut needed)) := by
  rw [f_X8_isCarried, ob_t (X8_heardOnes_sp r shut hP hN), ob_t (X8_whyNot_sp h k f r m needed _ hP hr hN)]
  unfold caS t01
  by_cases hw : whS h k f r m P needed (hdS r shut P) = 0 <;> simp [hw]
theorem X8_weightFor_sp (h k f r m : Nat → Int32) (g : Int32) {P N : Nat} (hP : P ≤ 7) (hr : OkR r P) (hN : 8 ≤ N) : f_X8_weightFor N h k f r m (nI P) g = some (waS h k f r P (g &&& foS m P)) := by
  rw [f_X8_weightFor, ob_t (X8_onesFor_sp m hP hN), ob_t (X8_weightOfAll_sp h k f r _ hP hr hN)]
