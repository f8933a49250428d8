/-! THE PURE LAYER: match -/
def orB (T b : Nat) : Nat := if T / 2 ^ b % 2 = 1 then T else T + 2 ^ b
theorem or_facts : ∀ T, T < 1024 → ∀ b, b < 10 → nI T ||| bt1 b = nI (orB T b) ∧ orB T b < 1024 ∧ (inn (nI T) (nI b) = false → pcN (orB T b) = pcN T + 1 ∧ T < orB T b) := by decide +kernel
theorem row_idx : ∀ q, q < 8 → ∀ T, T < 1024 → (nI q <<< ((10 : Int32) &&& 31)) ||| nI T = nI (q * 1024 + T) := by decide +kernel
theorem free_b : ∀ T, T < 1024 → pcN T < 10 → ∃ b, b < 10 ∧ inn (nI T) (nI b) = false := by decide +kernel
def wN (h k f : Nat → Int32) (p b : Nat) : Nat := (wtS (k p) (f p) (h b)).toNatClampNeg
theorem wN_sp {h k f : Nat → Int32} {P p b : Nat} (hh : OkH h) (hf : OkF f P) (hk : OkK k P) (hp : p < P) (hb : b < 10) : wtS (k p) (f p) (h b) = nI (wN h k f p b) ∧ wN h k f p b ≤ 23 := by
  obtain ⟨a, ha, ea⟩ := hk p hp
  obtain ⟨c, hc, ec⟩ := hf p hp
  obtain ⟨d, hd, ed⟩ := hh b hb
  obtain ⟨q1, q2⟩ := w_rng a ha c hc d hd
  obtain ⟨x, hx, ex⟩ := nI_of2 (M := 23) (n := 23) (by decide) q1 q2
  unfold wN
  rw [ea, ec, ed, ex, nI_cl (by omega)]
  exact ⟨rfl, hx⟩
/-- the most of those free, in their order -/
def stO (T : Nat) (v : Nat → Nat) (b : Nat) (a : Option Nat) : Option Nat := if inn (nI T) (nI b) then a else some (match a with | none => v b | some x => if x < v b then v b else x)
def RV (w : Nat → Nat → Nat) (P : Nat) : Nat → Nat → Nat
  | 0, _ => 0
  | d + 1, T => (fup (stO T (fun b => w (P - (d + 1)) b + RV w P d (orB T b))) 0 10 none).getD 0
def vO (w : Nat → Nat → Nat) (P d T b : Nat) : Nat := w (P - (d + 1)) b + RV w P d (orB T b)
theorem stO_le {T M : Nat} {v : Nat → Nat} (hv : ∀ b, b < 10 → v b ≤ M) : ∀ (d j : Nat) (a : Option Nat), j + d ≤ 10 → a.getD 0 ≤ M → (fup (stO T v) j d a).getD 0 ≤ M
  | 0, _, _, _, h => h
  | d + 1, j, a, hj, h => by
    refine stO_le hv d (j + 1) (stO T v j a) (by omega) ?_
    have := hv j (by omega)
    unfold stO
    split
    · exact h
    · cases a with
      | none => exact this
      | some x =>
        show (if x < v j then v j else x) ≤ M
        have h : x ≤ M := h
        split <;> omega
theorem RV_le {w : Nat → Nat → Nat} {P : Nat} (hw : ∀ p b, p < P → b < 10 → w p b ≤ 23) : ∀ (d T : Nat), d ≤ P → RV w P d T ≤ 23 * d
  | 0, _, _ => Nat.le_refl _
  | d + 1, T, hd => stO_le (fun b hb => by
      have h1 := hw (P - (d + 1)) b (by omega) hb
      have h2 := RV_le hw d (orB T b) (by omega)
      show w (P - (d + 1)) b + RV w P d (orB T b) ≤ 23 * (d + 1)
      omega) 10 0 none (by omega) (Nat.zero_le _)
/-- it is reached by one that is free -/
theorem stO_att {T : Nat} {v : Nat → Nat} : ∀ (d j : Nat) (a : Option Nat) (x : Nat), fup (stO T v) j d a = some x → a = some x ∨ ∃ b, j ≤ b ∧ b < j + d ∧ inn (nI T) (nI b) = false ∧ v b = x
  | 0, _, _, _, h => Or.inl h
  | d + 1, j, a, x, h => by
    rcases stO_att d (j + 1) (stO T v j a) x h with q | ⟨b, b1, b2, b3, b4⟩
    · unfold stO at q
      cases c : inn (nI T) (nI j) with
      | true => rw [c] at q; exact Or.inl q
      | false =>
        rw [c] at q
        cases a with
        | none => exact Or.inr ⟨j, by omega, by omega, c, Option.some.inj q⟩
        | some y =>
          have q : (if y < v j then v j else y) = x := Option.some.inj q
          by_cases z : y < v j
          · rw [if_pos z] at q
            exact Or.inr ⟨j, by omega, by omega, c, q⟩
          · rw [if_neg z] at q
            exact Or.inl (congrArg some q)
    · exact Or.inr ⟨b, by omega, by omega, b3, b4⟩
theorem stO_some {T : Nat} {v : Nat → Nat} : ∀ (d j : Nat) (a : Option Nat), (a.isSome = true ∨ ∃ b, j ≤ b ∧ b < j + d ∧ inn (nI T) (nI b) = false) → ∃ x, fup (stO T v) j d a = some x
  | 0, j, a, h => by
    rcases h with h | ⟨b, b1, b2, _⟩
    · cases a with
      | none => cases h
      | some x => exact ⟨x, rfl⟩
    · omega
  | d + 1, j, a, h => by
    refine stO_some d (j + 1) (stO T v j a) ?_
    cases c : inn (nI T) (nI j) with
    | false => exact Or.inl (by unfold stO; rw [c]; rfl)
    | true =>
      rcases h with h | ⟨b, b1, b2, b3⟩
      · left
        unfold stO
        rw [c]
        exact h
      · right
        refine ⟨b, ?_, by omega, b3⟩
        by_cases e : b = j
        · subst e
          rw [b3] at c
          cases c
        · omega
theorem RV_att {w : Nat → Nat → Nat} {P d T : Nat} (hT : T < 1024) (hp : pcN T < 10) : (∃ x, fup (stO T (vO w P d T)) 0 10 none = some x ∧ RV w P (d + 1) T = x) ∧ ∃ b, b < 10 ∧ inn (nI T) (nI b) = false ∧ vO w P d T b = RV w P (d + 1) T := by
  obtain ⟨b, hb, ib⟩ := free_b T hT hp
  obtain ⟨x, ex⟩ := stO_some (T := T) (v := vO w P d T) 10 0 none (Or.inr ⟨b, by omega, by omega, ib⟩)
  have er : RV w P (d + 1) T = x := by
    show (fup (stO T (vO w P d T)) 0 10 none).getD 0 = x
    rw [ex]
    rfl
  refine ⟨⟨x, ex, er⟩, ?_⟩
  rcases stO_att 10 0 none x ex with q | ⟨c, c1, c2, c3, c4⟩
  · cases q
  · exact ⟨c, by omega, c3, c4.trans er.symm⟩
/-! class -/
def oC : Option Nat → Int32
  | none => 0
  | some x => nI x
theorem oC_get (a : Option Nat) : oC a = nI (a.getD 0) := by cases a <;> rfl
theorem X5_most_sp (Y : Nat → Int32) (V : Nat → Nat → Int32) {w : Nat → Nat → Nat} {P T N : Nat} (hP : P ≤ 7) (hw : ∀ p b, p < P → b < 10 → w p b ≤ 23 ∧ V p b = nI (w p b)) (hT : T < 1024) (hY : ∀ T', T' < 1024 → T < T' → Y T' = nI (RV w P (P - pcN T') T')) (hN : 1001 ≤ N) : f_X5_mostBehind N (nI P) Y V (nI T) = some (nI (RV w P (P - pcN T) T)) := by
  have pT := (pc_cls T hT).2.2
  have hle := fun d T => RV_le (w := w) (P := P) (fun p b hp hb => (hw p b hp hb).1) d T
  rw [f_X5_mostBehind, ob_t (pc_cls T hT).1]
  by_cases c : pcN T < P
  · rw [if_pos (nI_lt c (by omega))]
    obtain ⟨d, ed⟩ : ∃ d, P - pcN T = d + 1 := ⟨P - pcN T - 1, by omega⟩
    have ep : P - (d + 1) = pcN T := by omega
    rw [ed]
    show _ = some (nI ((fup (stO T (vO w P d T)) 0 10 none).getD 0))
    rw [← oC_get]
    have hv : ∀ b, b < 10 → vO w P d T b ≤ 200 := fun b hb => by
      have h1 := (hw (P - (d + 1)) b (by omega) hb).1
      have h2 := hle d (orB T b) (by omega)
      unfold vO
      omega
    refine lupI (P := 10) (fun n i a => L_X5_mostBehind_20 Y V (nI T) (nI (pcN T)) n i (oC a)) (stO T (vO w P d T)) (fun a => some (oC a)) (fun a => a.getD 0 ≤ 200) (fun n a _ => ?_) (fun n b a hb ha => ⟨?_, stO_le (d := 1) (fun b hb => hv b hb) b a (by omega) ha⟩) 10 0 N none (Nat.zero_le _) (by omega) (by omega)
    · simp only [L_X5_mostBehind_20]
      rw [if_pos (show (10 : Int32) ≤ nI 10 by decide)]
    · obtain ⟨o1, o2, o3⟩ := or_facts T hT b hb
      have o1 : nI T ||| ((1 : Int32) <<< (nI b &&& 31)) = nI (orB T b) := o1
      rw [L_X5_mostBehind_20, if_neg (show ¬ (10 : Int32) ≤ nI b from nI_ge (b := 10) hb (by omega)), ob_t (isIn_sp _ _), t01_if, gd_t (ix7 (by omega)), gd_t (ix10 hb), o1, gd_t (ix_n (n := 1024) o2 (by omega)), nm_k, nI_cl (by omega), nI_cl (by omega), nI_clamp (show orB T b < 2 ^ 31 by omega)]
      cases i : inn (nI T) (nI b) with
      | true => simp [stO, i]
      | false =>
        obtain ⟨o4, o5⟩ := o3 i
        have ev : V (pcN T) b + Y (orB T b) = nI (vO w P d T b) := by
          rw [(hw (pcN T) b c hb).2, hY _ o2 o5, o4, nI_add, show P - (pcN T + 1) = d by omega]
          unfold vO
          rw [ep]
        rw [ev, if_neg (by decide)]
        have h1 := hv b hb
        cases a with
        | none =>
          show L_X5_mostBehind_20 Y V (nI T) (nI (pcN T)) n (nI b + 1) (if nI 0 < nI (vO w P d T b) then nI (vO w P d T b) else nI 0) = L_X5_mostBehind_20 Y V (nI T) (nI (pcN T)) n (nI b + 1) (oC (stO T (vO w P d T) b none))
          rw [show stO T (vO w P d T) b none = some (vO w P d T b) by simp [stO, i]]
          by_cases z : 0 < vO w P d T b
          · rw [if_pos (nI_lt z (by omega))]
            rfl
          · rw [if_neg (nI_nlt (by omega) (by omega)), show vO w P d T b = 0 by omega]
            rfl
        | some x =>
          have hx : x ≤ 200 := ha
          show L_X5_mostBehind_20 Y V (nI T) (nI (pcN T)) n (nI b + 1) (if nI x < nI (vO w P d T b) then nI (vO w P d T b) else nI x) = L_X5_mostBehind_20 Y V (nI T) (nI (pcN T)) n (nI b + 1) (oC (stO T (vO w P d T) b (some x)))
          rw [show stO T (vO w P d T) b (some x) = some (if x < vO w P d T b then vO w P d T b else x) by simp [stO, i]]
          by_cases z : x < vO w P d T b
          · rw [if_pos (nI_lt z (by omega)), if_pos z]
            rfl
          · rw [if_neg (nI_nlt (by omega) (by omega)), if_neg z]
            rfl
  · rw [if_neg (nI_nlt (by omega) (by omega)), show P - pcN T = 0 by omega]
    rfl
