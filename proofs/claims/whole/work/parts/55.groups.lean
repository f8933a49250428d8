/-! THE PURE LAYER: groups -/
def nb (c : Nat → Bool) (P : Nat) : Nat := fup (fun j a => if c j then a + 2 ^ j else a) 0 P 0
theorem nb_upto (c : Nat → Bool) {P : Nat} (hP : P ≤ 7) : nb c P = nb (upto c P) 7 := fup_upto (fun b j a => if b then a + 2 ^ j else a) (fun _ _ => rfl) c hP 0
theorem nb_facts : ∀ b0 b1 b2 b3 b4 b5 b6 : Bool, bS (B7 b0 b1 b2 b3 b4 b5 b6) 7 = nI (nb (B7 b0 b1 b2 b3 b4 b5 b6) 7) := by decide +kernel
theorem nb_bS (c : Nat → Bool) {P : Nat} (hP : P ≤ 7) : bS c P = nI (nb c P) := by
  rw [bS_upto c hP, nb_upto c hP]
  exact nb_facts _ _ _ _ _ _ _
theorem nb_fold (c : Nat → Bool) : ∀ (d k a : Nat), a < 2 ^ k → fup (fun j a => if c j then a + 2 ^ j else a) k d a < 2 ^ (k + d)
  | 0, k, a, h => h
  | d + 1, k, a, h => by
    have e : 2 ^ (k + 1) = 2 ^ k * 2 := Nat.pow_succ 2 k
    rw [show k + (d + 1) = (k + 1) + d by omega]
    refine nb_fold c d (k + 1) (if c k then a + 2 ^ k else a) ?_
    split <;> omega
theorem nb_lt (c : Nat → Bool) (P : Nat) : nb c P < 2 ^ P := by
  have := nb_fold c P 0 0 (by decide)
  rwa [Nat.zero_add] at this
theorem hd_nat (r : Nat → Int32) (shut : Int32) {P : Nat} (hP : P ≤ 7) : ∃ hv : Nat, hv < 2 ^ P ∧ hdS r shut P = nI hv := ⟨_, nb_lt _ P, nb_bS _ hP⟩
/-- a group is one of those heard -/
def sub (g hv : Nat) : Bool := decide (nI g &&& (nI hv ^^^ (-1 : Int32)) = 0)
theorem sub_if {α : Type} (g hv : Nat) (A B : α) : (if nI g &&& (nI hv ^^^ (-1 : Int32)) = 0 then A else B) = if sub g hv then A else B := by
  by_cases z : nI g &&& (nI hv ^^^ (-1 : Int32)) = 0
  · rw [if_pos z, if_pos (show sub g hv = true from decide_eq_true z)]
  · rw [if_neg z, if_neg (show ¬ sub g hv = true from fun q => z (of_decide_eq_true q))]
def pcN (g : Nat) : Nat := g % 2 + g / 2 % 2 + g / 4 % 2 + g / 8 % 2 + g / 16 % 2 + g / 32 % 2 + g / 64 % 2 + g / 128 % 2 + g / 256 % 2 + g / 512 % 2
theorem sub_facts : ∀ g, g < 128 → ∀ hv, hv < 128 → sub g hv = true → g ≤ hv ∧ nI g &&& nI hv = nI g ∧ pcN g ≤ pcN hv := by decide +kernel
theorem pc_cls : ∀ g, g < 1024 → f_J6_bitCount_0f7a4 (nI g) = some (nI (pcN g)) ∧ fup (fun j a => a + ((nI g >>> (nI j &&& 31)) &&& (1 : Int32))) 0 10 0 = nI (pcN g) ∧ pcN g ≤ 10 := by decide +kernel
theorem pc_in : ∀ g, g < 128 → pcN g ≤ 7 ∧ ∀ p, p < 7 → inn (nI g) (nI p) = true → 1 ≤ pcN g := by decide +kernel
theorem bits_sp {g N : Nat} (hg : g < 1024) (hN : 11 ≤ N) : f_X10_bits N (nI g) = some (nI (pcN g)) := by
  rw [f_X10_bits, ← (pc_cls g hg).2.1]
  refine lup (P := 10) (fun n i a => L_X10_bits_4 (nI g) n i a) (fun j a => a + ((nI g >>> (nI j &&& 31)) &&& (1 : Int32))) some (fun n a => ?_) (fun n j a hj => ?_) 10 0 N 0 (by omega) (by omega)
  · simp only [L_X10_bits_4]
    rw [if_pos (show (10 : Int32) ≤ nI 10 by decide)]
  · rw [L_X10_bits_4, if_neg (show ¬ (10 : Int32) ≤ nI j from nI_ge (b := 10) hj (by omega))]
    rfl
theorem grp_cut {α : Type} (st : Nat → α → α) {hv Q : Nat} (h : hv < Q) (hst : ∀ j a, hv < j → j < Q → st j a = a) (a : α) : fup st 0 Q a = fup st 0 (hv + 1) a := by
  rw [show Q = (hv + 1) + (Q - (hv + 1)) by omega, fup_split]
  exact fup_id st _ _ _ (fun j a h1 h2 => hst j a (by omega) (by omega))
def wo (g : Int32) (p : Nat) : Int32 := g &&& (((1 : Int32) <<< (nI p &&& 31)) ^^^ (-1 : Int32))
theorem wo_hd (g h : Int32) (p : Nat) (e : g &&& h = g) : wo g p &&& h = wo g p := by
  unfold wo
  rw [Int32.and_assoc, Int32.and_comm _ h, ← Int32.and_assoc, e]
theorem wo_self (h : Int32) (p : Nat) : wo h p &&& h = wo h p := wo_hd h h p Int32.and_self
def tuS (h k f r : Nat → Int32) (P : Nat) (q g : Int32) (p : Nat) : Bool := inn g (nI p) && enS h k f r P q g && !enS h k f r P q (wo g p)
theorem X2_isTurnedBy_sp (h k f r : Nat → Int32) (q g : Int32) {P N p : Nat} (hP : P ≤ 7) (hr : OkR r P) (hN : 8 ≤ N) : f_X2_isTurnedBy N h k f r (nI P) q g (nI p) = some (t01 (tuS h k f r P q g p)) := by
  rw [f_X2_isTurnedBy, ob_t (isIn_sp _ _), t01_if, ob_t (X2_isEnough_sp h k f r q g hP hr hN), t01_if]
  show (if inn g (nI p) then (if enS h k f r P q g then ob (f_X2_isEnough N h k f r (nI P) q (wo g p)) _ else _) else _) = _
  rw [ob_t (X2_isEnough_sp h k f r q _ hP hr hN), t01_if]
  unfold tuS
  cases inn g (nI p) <;> cases enS h k f r P q g <;> cases enS h k f r P q (wo g p) <;> rfl
section GRP
variable {h k f r m : Nat → Int32} {P : Nat} {shut needed day : Int32} {S : Nat → Int32}
theorem could_g (hS : Sm h k f r m P shut needed day S) (hP : P ≤ 7) (hr : OkR r P) {g hv N : Nat} (e : hdS r shut P = nI hv) (hg : nI g &&& nI hv = nI g) (hN : 8 ≤ N) : f_X10_couldBy N S (nI g) (S 2) = some (t01 (enS h k f r P needed (nI g))) := by
  rw [couldBy_sp hS hP hr _ _ hN, e, hg, hS.2.2.1]
theorem swing_g (hS : Sm h k f r m P shut needed day S) (hP : P ≤ 7) (hr : OkR r P) {g hv p N : Nat} (e : hdS r shut P = nI hv) (hg : nI g &&& nI hv = nI g) (hN : 8 ≤ N) : f_X10_doesSwing N S (nI g) (nI p) = some (t01 (tuS h k f r P needed (nI g) p)) := by
  rw [f_X10_doesSwing, ob_t (has_sp _ _), t01_if, ob_t (could_g hS hP hr e hg hN), t01_if]
  show (if inn (nI g) (nI p) then (if enS h k f r P needed (nI g) then ob (f_X10_couldBy N S (wo (nI g) p) (S 2)) _ else _) else _) = _
  rw [ob_t (couldBy_sp hS hP hr _ _ hN), e, wo_hd _ _ _ hg, hS.2.2.1, t01_if]
  unfold tuS
  cases inn (nI g) (nI p) <;> cases enS h k f r P needed (nI g) <;> cases enS h k f r P needed (wo (nI g) p) <;> rfl
theorem ofHeard_g (hS : Sm h k f r m P shut needed day S) (hP : P ≤ 7) {g hv N : Nat} (e : hdS r shut P = nI hv) (hN : 8 ≤ N) : f_X10_isOfHeard N S (nI g) = some (t01 (sub g hv)) := by
  rw [f_X10_isOfHeard, ob_t (X10_heardIn_sp hS hP hN), e]
  rw [sub_if]
  cases sub g hv <;> rfl
/-! the smallest -/
def fwB (g : Nat) : Option Nat → Bool
  | none => true
  | some q => decide (pcN g < pcN q)
def smF (h k f r : Nat → Int32) (P : Nat) (q : Int32) (hv g : Nat) (a : Option Nat) : Option Nat := if sub g hv && fwB g a && enS h k f r P q (nI g) then some g else a
theorem sm_P {h k f r : Nat → Int32} {P : Nat} {q : Int32} {hv g : Nat} (hg : g < 128) : ∀ a, loP 128 a → loP 128 (smF h k f r P q hv g a) := by
  intro a ha
  unfold smF
  split
  · exact hg
  · exact ha
theorem isFewer_sp {g : Nat} (hg : g < 128) (a : Option Nat) (ha : loP 128 a) : f_X2_isFewer (nI g) (loI a) = some (t01 (fwB g a)) := by
  cases a with
  | none => rfl
  | some q =>
    have hq : q < 128 := ha
    have n4 : ¬ nI q = (-4 : Int32) := fun e => by
      have := congrArg Int32.toInt e
      rw [nI_toInt (by omega), show (-4 : Int32).toInt = -4 by decide] at this
      omega
    have p1 := (pc_in g hg).1
    have p2 := (pc_in q hq).1
    unfold f_X2_isFewer
    show (if nI q = (-4 : Int32) then _ else ob _ (fun r2 => ob (f_J6_bitCount_0f7a4 (nI q)) _)) = _
    rw [if_neg n4, ob_t (pc_cls g (by omega)).1, ob_t (pc_cls q (by omega)).1]
    unfold fwB t01
    simp only [nI_leI (show pcN q < 2 ^ 31 by omega) (show pcN g < 2 ^ 31 by omega)]
    by_cases z : pcN q ≤ pcN g
    · rw [if_pos z]
      simp [show ¬ pcN g < pcN q by omega]
    · rw [if_neg z]
      simp [show pcN g < pcN q by omega]
theorem X2_smallest_sp (h k f r : Nat → Int32) (q : Int32) {P N hv : Nat} (hP : P ≤ 7) (hr : OkR r P) (hN : 1001 ≤ N) (hhv : hv < 128) (e : hdS r shut P = nI hv) : f_X2_smallest N h k f r shut (nI P) q = some (loI (fup (smF h k f r P q hv) 0 (hv + 1) none)) := by
  rw [f_X2_smallest, ob_t (X8_heardOnes_sp r shut hP (by omega)), e]
  refine lupI (P := hv + 1) (fun n i a => L_X2_smallest_10 N h k f r (nI P) q (nI hv) n i (loI a)) (smF h k f r P q hv) (fun a => some (loI a)) (loP 128) (fun n a _ => ?_) (fun n g a hg ha => ⟨?_, sm_P (by omega) a ha⟩) (hv + 1) 0 N none trivial (by omega) (by omega)
  · simp only [L_X2_smallest_10]
    rw [if_pos (nI_lt (Nat.lt_succ_self hv) (by omega))]
  · rw [L_X2_smallest_10, if_neg (nI_nlt (by omega) (by omega)), ob_t (isFewer_sp (by omega) a ha), t01_if, ob_t (X2_isEnough_sp h k f r q _ hP hr (by omega)), t01_if]
    rw [sub_if]
    unfold smF
    cases sub g hv <;> cases fwB g a <;> cases enS h k f r P q (nI g) <;> simp [loI]
theorem X10_smallest_sp (hS : Sm h k f r m P shut needed day S) (hP : P ≤ 7) (hr : OkR r P) {hv N : Nat} (hN : 1001 ≤ N) (hhv : hv < 2 ^ P) (e : hdS r shut P = nI hv) : f_X10_smallest N S = some (loI (fup (smF h k f r P needed hv) 0 (hv + 1) none)) := by
  have hQ := pow2_le hP
  have sf : ∀ g, g < 2 ^ P → sub g hv = true → g ≤ hv ∧ nI g &&& nI hv = nI g ∧ pcN g ≤ pcN hv := fun g hg => sub_facts g (by omega) hv (by omega)
  rw [f_X10_smallest, ← grp_cut (smF h k f r P needed hv) hhv (fun j a h1 h2 => by
    have : sub j hv = false := by
      cases z : sub j hv with
      | false => rfl
      | true => exact absurd (sf j h2 z).1 (by omega)
    unfold smF
    rw [this]
    rfl)]
  refine lupI (P := 2 ^ P) (fun n i a => L_X10_smallest_5 N S n i (loI a)) (smF h k f r P needed hv) (fun a => some (loI a)) (loP 128) (fun n a _ => ?_) (fun n g a hg ha => ⟨?_, sm_P (by omega) a ha⟩) (2 ^ P) 0 N none trivial (by omega) (by omega)
  · simp only [L_X10_smallest_5]
    rw [hS.1, pow2 P hP, if_pos (nI_le (Nat.le_refl _) (by omega))]
  · rw [L_X10_smallest_5, hS.1, pow2 P hP, if_neg (nI_ge hg (by omega)), ob_t (ofHeard_g hS hP e (by omega)), t01_if]
    cases z : sub g hv with
    | false => simp [smF, z]
    | true =>
      obtain ⟨-, hg2, -⟩ := sf g hg z
      simp only [if_true]
      rw [ob_t (could_g hS hP hr e hg2 (by omega)), t01_if]
      cases en : enS h k f r P needed (nI g) with
      | false => simp [smF, z, en]
      | true =>
        cases a with
        | none => simp [smF, z, en, loI, fwB]
        | some q =>
          have hq : q < 128 := ha
          have p1 := (pc_in g (by omega)).1
          have p2 := (pc_in q hq).1
          show (if true = true then (if nI q < 0 then _ else ob _ (fun r11 => ob (f_X10_bits N (nI q)) _)) else _) = _
          rw [if_pos rfl, if_neg (nI_pos (by omega)), ob_t (bits_sp (by omega) (by omega)), ob_t (bits_sp (by omega) (by omega))]
          simp only [nI_leI (show pcN q < 2 ^ 31 by omega) (show pcN g < 2 ^ 31 by omega)]
          by_cases y : pcN q ≤ pcN g
          · rw [if_pos y]
            simp [smF, z, en, fwB, show ¬ pcN g < pcN q by omega, loI]
          · rw [if_neg y]
            simp [smF, z, en, fwB, show pcN g < pcN q by omega, loI]
/-! least ones -/
def leB (h k f r : Nat → Int32) (P : Nat) (q g : Int32) : Bool := enS h k f r P q g && !anyS (fun p => inn g (nI p) && enS h k f r P q (wo g p)) 0 P
theorem X2_isLeast_sp (h k f r : Nat → Int32) (q g : Int32) {P N : Nat} (hP : P ≤ 7) (hr : OkR r P) (hN : 8 ≤ N) : f_X2_isLeast N h k f r (nI P) q g = some (t01 (leB h k f r P q g)) := by
  rw [f_X2_isLeast, ob_t (X2_isEnough_sp h k f r q g hP hr hN), t01_if]
  have e := lany (P := P) (fun n i => L_X2_isLeast_12 N h k f r (nI P) q g n i) (fun p => inn g (nI p) && enS h k f r P q (wo g p)) (some 0) (some 1) (fun n => ?_) (fun n p hp => ?_) P 0 N (by omega) (by omega)
  · unfold leB
    cases enS h k f r P q g with
    | false => rfl
    | true =>
      simp only [if_true]
      refine Eq.trans e ?_
      cases anyS (fun p => inn g (nI p) && enS h k f r P q (wo g p)) 0 P <;> rfl
  · simp only [L_X2_isLeast_12]
    rw [if_pos (nI_le (Nat.le_refl P) (by omega))]
  · rw [L_X2_isLeast_12, if_neg (nI_nge hp hP), ob_t (isIn_sp _ _), t01_if]
    show (if inn g (nI p) then ob (f_X2_isEnough N h k f r (nI P) q (wo g p)) _ else _) = _
    rw [ob_t (X2_isEnough_sp h k f r q _ hP hr hN), t01_if]
    cases inn g (nI p) <;> cases enS h k f r P q (wo g p) <;> rfl
theorem X10_isLeast_sp (hS : Sm h k f r m P shut needed day S) (hP : P ≤ 7) (hr : OkR r P) {g hv N : Nat} (e : hdS r shut P = nI hv) (hg : sub g hv = true → nI g &&& nI hv = nI g) (hN : 8 ≤ N) : f_X10_isLeast N S (nI g) = some (t01 (sub g hv && leB h k f r P needed (nI g))) := by
  rw [f_X10_isLeast, ob_t (ofHeard_g hS hP e hN), t01_if]
  cases z : sub g hv with
  | false => rfl
  | true =>
    have hg := hg z
    simp only [if_true]
    rw [ob_t (could_g hS hP hr e hg hN), t01_if]
    unfold leB
    cases en : enS h k f r P needed (nI g) with
    | false => rfl
    | true =>
      have e := lany (P := P) (fun n i => L_X10_isLeast_26 N S (nI g) n i) (fun p => inn (nI g) (nI p) && enS h k f r P needed (wo (nI g) p)) (some 0) (some 1) (fun n => ?_) (fun n p hp => ?_) P 0 N (by omega) (by omega)
      · simp only [if_true]
        refine Eq.trans e ?_
        cases anyS (fun p => inn (nI g) (nI p) && enS h k f r P needed (wo (nI g) p)) 0 P <;> rfl
      · simp only [L_X10_isLeast_26]
        rw [hS.1, if_pos (nI_le (Nat.le_refl P) (by omega))]
      · rw [L_X10_isLeast_26, hS.1, if_neg (nI_nge hp hP), ob_t (has_sp _ _), t01_if, ob_t (swing_g hS hP hr (by assumption) hg hN), t01_if]
        unfold tuS
        rw [en]
        cases inn (nI g) (nI p) <;> cases enS h k f r P needed (wo (nI g) p) <;> rfl
def cnF (c : Nat → Bool) (g : Nat) (a : Int32) : Int32 := if c g then a + 1 else a
theorem X2_leastOnes_sp (h k f r : Nat → Int32) (q : Int32) {P N hv : Nat} (hP : P ≤ 7) (hr : OkR r P) (hN : 1001 ≤ N) (hhv : hv < 128) (e : hdS r shut P = nI hv) : f_X2_leastOnes N h k f r shut (nI P) q = some (fup (cnF (fun g => sub g hv && leB h k f r P q (nI g))) 0 (hv + 1) 0) := by
  rw [f_X2_leastOnes, ob_t (X8_heardOnes_sp r shut hP (by omega)), e]
  refine lup (P := hv + 1) (fun n i a => L_X2_leastOnes_9 N h k f r (nI P) q (nI hv) n i a) (cnF (fun g => sub g hv && leB h k f r P q (nI g))) some (fun n a => ?_) (fun n g a hg => ?_) (hv + 1) 0 N 0 (by omega) (by omega)
  · simp only [L_X2_leastOnes_9]
    rw [if_pos (nI_lt (Nat.lt_succ_self hv) (by omega))]
  · rw [L_X2_leastOnes_9, if_neg (nI_nlt (by omega) (by omega)), ob_t (X2_isLeast_sp h k f r q _ hP hr (by omega)), t01_if]
    rw [sub_if]
    cases z : sub g hv <;> cases y : leB h k f r P q (nI g) <;> simp [cnF, z, y]
theorem cn_cut {c : Nat → Bool} {hv P : Nat} (hP : P ≤ 7) (hhv : hv < 2 ^ P) : fup (cnF (fun g => sub g hv && c g)) 0 (hv + 1) 0 = fup (cnF (fun g => sub g hv && c g)) 0 (2 ^ P) 0 := by
  have hQ := pow2_le hP
  exact (grp_cut _ hhv (fun j a h1 h2 => by
    have : sub j hv = false := by
      cases z : sub j hv with
      | false => rfl
      | true => exact absurd (sub_facts j (by omega) hv (by omega) z).1 (by omega)
    simp only [cnF]
    simp [this]) 0).symm
theorem X10_leastOnes_sp (hS : Sm h k f r m P shut needed day S) (hP : P ≤ 7) (hr : OkR r P) {hv N : Nat} (hN : 1001 ≤ N) (hhv : hv < 2 ^ P) (e : hdS r shut P = nI hv) : f_X10_leastOnes N S = some (fup (cnF (fun g => sub g hv && leB h k f r P needed (nI g))) 0 (hv + 1) 0) := by
  have hQ := pow2_le hP
  rw [f_X10_leastOnes, cn_cut hP hhv]
  refine lup (P := 2 ^ P) (fun n i a => L_X10_leastOnes_4 N S n i a) (cnF (fun g => sub g hv && leB h k f r P needed (nI g))) some (fun n a => ?_) (fun n g a hg => ?_) (2 ^ P) 0 N 0 (by omega) (by omega)
  · simp only [L_X10_leastOnes_4]
    rw [hS.1, pow2 P hP, if_pos (nI_le (Nat.le_refl _) (by omega))]
  · rw [L_X10_leastOnes_4, hS.1, pow2 P hP, if_neg (nI_ge hg (by omega)), ob_t (X10_isLeast_sp hS hP hr e (fun z => (sub_facts g (by omega) hv (by omega) z).2.1) (by omega)), t01_if, Int32.add_zero]
    cases z : sub g hv <;> cases y : leB h k f r P needed (nI g) <;> simp [cnF, z, y]
/-! blocks -/
def blF (h k f r : Nat → Int32) (P : Nat) (q hd : Int32) (p : Nat) : Bool := inn hd (nI p) && !enS h k f r P q (wo hd p)
theorem X2_blocks_sp (h k f r : Nat → Int32) (q : Int32) {P N : Nat} (hP : P ≤ 7) (hr : OkR r P) (hN : 8 ≤ N) : f_X2_blocks N h k f r shut (nI P) q = some (bS (blF h k f r P q (hdS r shut P)) P) := by
  rw [f_X2_blocks, ob_t (X8_heardOnes_sp r shut hP (by omega))]
  refine lup (P := P) (fun n i a => L_X2_blocks_9 N h k f r (nI P) q (hdS r shut P) n i a) (sB (blF h k f r P q (hdS r shut P))) some (fun n a => ?_) (fun n p a hp => ?_) P 0 N 0 (by omega) (by omega)
  · simp only [L_X2_blocks_9]
    rw [if_pos (nI_le (Nat.le_refl P) (by omega))]
  · rw [L_X2_blocks_9, if_neg (nI_nge hp hP), ob_t (isIn_sp _ _), t01_if]
    show (if inn (hdS r shut P) (nI p) then ob (f_X2_isEnough N h k f r (nI P) q (wo (hdS r shut P) p)) _ else _) = _
    rw [ob_t (X2_isEnough_sp h k f r q _ hP hr hN), t01_if]
    unfold sB blF
    cases inn (hdS r shut P) (nI p) <;> cases enS h k f r P q (wo (hdS r shut P) p) <;> rfl
theorem X10_blocks_sp (hS : Sm h k f r m P shut needed day S) (hP : P ≤ 7) (hr : OkR r P) {N : Nat} (hN : 8 ≤ N) : f_X10_blocks N S = some (bS (blF h k f r P needed (hdS r shut P)) P) := by
  rw [f_X10_blocks, ob_t (X10_heardIn_sp hS hP (by omega))]
  refine lup (P := P) (fun n i a => L_X10_blocks_12 N S (hdS r shut P) n i a) (sB (blF h k f r P needed (hdS r shut P))) some (fun n a => ?_) (fun n p a hp => ?_) P 0 N 0 (by omega) (by omega)
  · simp only [L_X10_blocks_12]
    rw [hS.1, if_pos (nI_le (Nat.le_refl P) (by omega))]
  · rw [L_X10_blocks_12, hS.1, if_neg (nI_nge hp hP), ob_t (has_sp _ _), t01_if, Int32.or_zero]
    show (if inn (hdS r shut P) (nI p) then ob (f_X10_couldBy N S (wo (hdS r shut P) p) (S 2)) _ else _) = _
    rw [ob_t (couldBy_sp hS hP hr _ _ hN), wo_self, hS.2.2.1, t01_if]
    unfold sB blF
    cases inn (hdS r shut P) (nI p) <;> cases enS h k f r P needed (wo (hdS r shut P) p) <;> rfl
theorem ag_groups (hS : St h k f r m P shut needed day S) (p1 : Int32) {N : Nat} (hN : 1001 ≤ N) : ∃ res : Int32, f_X9_groups N h k f r shut (nI P) needed p1 = some res ∧ f_X10_groups N S p1 = some res := by
  obtain ⟨hs, hP, hh, hr, hf, hk, h2, h3⟩ := id hS
  have hQ := pow2_le hP
  obtain ⟨hv, hhv, e⟩ := hd_nat r shut hP
  rw [f_X9_groups, f_X10_groups, ob_t (X2_smallest_sp h k f r needed hP hr hN (by omega) e), ob_t (X2_leastOnes_sp h k f r needed hP hr hN (by omega) e), ob_t (X2_blocks_sp h k f r needed hP hr (by omega)), ob_t (X10_smallest_sp hs hP hr hN hhv e), ob_t (X10_leastOnes_sp hs hP hr hN hhv e), ob_t (X10_blocks_sp hs hP hr (by omega))]
  by_cases c0 : p1 = 0
  · simp only [if_pos c0]; exact ⟨_, rfl, rfl⟩
  by_cases c1 : p1 = 1
  · simp only [if_neg c0, if_pos c1]; exact ⟨_, rfl, rfl⟩
  by_cases c2 : p1 = 2
  · simp only [if_neg c0, if_neg c1, if_pos c2]; exact ⟨_, rfl, rfl⟩
  simp only [if_neg c0, if_neg c1, if_neg c2]
  exact ⟨_, rfl, rfl⟩
/-! swings -/
theorem ag_swings (hS : St h k f r m P shut needed day S) (p1 : Int32) {N : Nat} (hN : 1001 ≤ N) : ∃ res : Int32, f_X9_swings N h k f r shut (nI P) needed p1 = some res ∧ f_X10_swings N S p1 = some res := by
  obtain ⟨hs, hP, hh, hr, hf, hk, h2, h3⟩ := id hS
  have hQ := pow2_le hP
  obtain ⟨hv, hhv, e⟩ := hd_nat r shut hP
  rw [f_X9_swings, f_X10_swings, ob_t (isThere_sp _ _), ob_t (isSpeaker_sp hs hP _), t01_if, t01_if]
  cases c1 : thB P p1 with
  | false => exact ⟨-1, rfl, rfl⟩
  | true =>
    obtain ⟨p, hp, rfl⟩ := thB_of hP c1
    refine ⟨fup (cnF (fun g => sub g hv && tuS h k f r P needed (nI g) p)) 0 (hv + 1) 0, ?_, ?_⟩
    · simp only [if_true]
      rw [f_X2_turnedGroups, ob_t (X8_heardOnes_sp r shut hP (by omega)), e]
      refine ob_t (lup (P := hv + 1) (fun n i a => L_X2_turnedGroups_10 N h k f r (nI P) needed (nI p) (nI hv) n i a) (cnF (fun g => sub g hv && tuS h k f r P needed (nI g) p)) some (fun n a => ?_) (fun n g a hg => ?_) (hv + 1) 0 N 0 (by omega) (by omega))
      · simp only [L_X2_turnedGroups_10]
        rw [if_pos (nI_lt (Nat.lt_succ_self hv) (by omega))]
      · rw [L_X2_turnedGroups_10, if_neg (nI_nlt (by omega) (by omega)), ob_t (X2_isTurnedBy_sp h k f r needed _ hP hr (by omega)), t01_if]
        rw [sub_if]
        cases z : sub g hv <;> cases y : tuS h k f r P needed (nI g) p <;> simp [cnF, z, y]
    · simp only [if_true]
      rw [cn_cut hP hhv]
      refine lup (P := 2 ^ P) (fun n i a => L_X10_swings_14 N S (nI p) n i a) (cnF (fun g => sub g hv && tuS h k f r P needed (nI g) p)) some (fun n a => ?_) (fun n g a hg => ?_) (2 ^ P) 0 N 0 (by omega) (by omega)
      · simp only [L_X10_swings_14]
        rw [hs.1, pow2 P hP, if_pos (nI_le (Nat.le_refl _) (by omega))]
      · rw [L_X10_swings_14, hs.1, pow2 P hP, if_neg (nI_ge hg (by omega)), ob_t (ofHeard_g hs hP e (by omega)), t01_if, Int32.add_zero]
        cases z : sub g hv with
        | false => simp [cnF, z]
        | true =>
          simp only [if_true]
          rw [ob_t (swing_g hs hP hr e (sub_facts g (by omega) hv (by omega) z).2.1 (by omega)), t01_if]
          cases y : tuS h k f r P needed (nI g) p <;> simp [cnF, z, y]
end GRP
