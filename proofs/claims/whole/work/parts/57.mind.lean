/-! THE PURE LAYER: the face, what is tried out in mind: guest, shutter, quotaMost, win -/
abbrev MG : Type := Int32 × Int32 × Int32 × Int32 × Int32 × (Nat → Int32) × (Nat → Int32) × (Nat → Int32) × (Nat → Int32) × (Nat → Int32) × (Nat → Int32)
abbrev MH : Type := Int32 × Int32 × Int32 × Int32 × (Nat → Int32) × (Nat → Int32) × (Nat → Int32) × (Nat → Int32) × (Nat → Int32)
def gsS (C : Nat → Int32) (b : Nat) (a : Int32 × Int32) : Int32 × Int32 := if C b ≤ a.1 then a else (C b, nI b)
theorem OkR.upd {r : Nat → Int32} {P p b : Nat} (hr : OkR r P) (hb : b < 10) : OkR (upd r p (nI b)) P := by
  intro q hq
  by_cases e : q = p
  · subst e
    exact ⟨b, hb, upd_at _ _ _⟩
  · rw [upd_ne _ _ e]
    exact hr q hq
def guC (h k f r m : Nat → Int32) (shut needed : Int32) (P p n b : Nat) : Int32 := hoS h k f (upd r p (nI b)) shut needed P n m 0
theorem X9_guest_lp (h k f r m : Nat → Int32) (shut needed day x : Int32) {P N n p : Nat} (hP : P ≤ 7) (hr : OkR r P) (hp : p < P) (hn : n < 1000) (hN : 1001 ≤ N) : ∀ (d j q : Nat) (mo be g1 g2 g3 g4 g5 : Int32) (v1 v2 v3 v4 v5 v6 : Nat → Int32), j + d = 10 → d < q → ∃ w : MG, L_X9_guest_38 N h k f r m shut (nI P) needed day (nI p) (nI n) x q (nI j) mo be g1 g2 g3 g4 g5 v1 v2 v3 v4 v5 v6 = some (if x = 0 then (fup (gsS (guC h k f r m shut needed P p n)) j d (mo, be)).2 else (fup (gsS (guC h k f r m shut needed P p n)) j d (mo, be)).1, w)
  | 0, j, 0, _, _, _, _, _, _, _, _, _, _, _, _, _, _, z => absurd z (by omega)
  | 0, j, q + 1, mo, be, g1, g2, g3, g4, g5, v1, v2, v3, v4, v5, v6, hj, _ => by
    have : j = 10 := by omega
    subst this
    rw [L_X9_guest_38, if_pos (show (10 : Int32) ≤ nI 10 by decide)]
    by_cases z : x = 0
    · rw [if_pos z, if_pos z]
      exact ⟨_, rfl⟩
    · rw [if_neg z, if_neg z]
      exact ⟨_, rfl⟩
  | d + 1, j, 0, _, _, _, _, _, _, _, _, _, _, _, _, _, _, z => absurd z (by omega)
  | d + 1, j, q + 1, mo, be, g1, g2, g3, g4, g5, v1, v2, v3, v4, v5, v6, hj, hq => by
    obtain ⟨b, y', e1⟩ := X8_carriedDays_sp h k f (upd r p (nI j)) m v6 shut needed day hP (hr.upd (show j < 10 by omega)) hn hN
    rw [L_X9_guest_38, if_neg (show ¬ (10 : Int32) ≤ nI j from nI_ge (b := 10) (by omega) (by omega)), f_X8_become, ob_t (a := (shut, nI P, needed, day, h, k, f, r, m)) rfl]
    simp only []
    rw [gd_t (ix7 (by omega)), nI_cl (by omega)]
    simp only [nm]
    rw [ob_t e1]
    simp only []
    show ∃ w : MG, (if guC h k f r m shut needed P p n j ≤ mo then _ else _) = some (if x = 0 then (fup (gsS (guC h k f r m shut needed P p n)) (j + 1) d (gsS (guC h k f r m shut needed P p n) j (mo, be))).2 else (fup (gsS (guC h k f r m shut needed P p n)) (j + 1) d (gsS (guC h k f r m shut needed P p n) j (mo, be))).1, w)
    by_cases z : guC h k f r m shut needed P p n j ≤ mo
    · rw [if_pos z, show gsS (guC h k f r m shut needed P p n) j (mo, be) = (mo, be) from if_pos z, nI_1]
      exact X9_guest_lp h k f r m shut needed day x hP hr hp hn hN d (j + 1) q _ _ _ _ _ _ _ _ _ _ _ _ _ (by omega) (by omega)
    · rw [if_neg z, show gsS (guC h k f r m shut needed P p n) j (mo, be) = (guC h k f r m shut needed P p n j, nI j) from if_neg z, nI_1]
      exact X9_guest_lp h k f r m shut needed day x hP hr hp hn hN d (j + 1) q _ _ _ _ _ _ _ _ _ _ _ _ _ (by omega) (by omega)
def shC (h k f r m : Nat → Int32) (shut needed : Int32) (P n b : Nat) : Int32 := hoS h k f r (shut ^^^ ((1 : Int32) <<< (nI b &&& 31))) needed P n m 0
theorem X9_shutter_lp (h k f r m : Nat → Int32) (shut needed day : Int32) {P N n : Nat} (hP : P ≤ 7) (hr : OkR r P) (hn : n < 1000) (hN : 1001 ≤ N) : ∀ (d j q : Nat) (mo be g1 g2 g3 g4 g5 : Int32) (v1 v2 v3 v4 v5 v6 : Nat → Int32), j + d = 10 → d < q → ∃ w : MG, L_X9_shutter_35 N h k f r m shut (nI P) needed day (nI n) q (nI j) be mo g1 g2 g3 g4 g5 v1 v2 v3 v4 v5 v6 = some ((fup (gsS (shC h k f r m shut needed P n)) j d (mo, be)).2, w)
  | 0, j, 0, _, _, _, _, _, _, _, _, _, _, _, _, _, _, z => absurd z (by omega)
  | 0, j, q + 1, mo, be, g1, g2, g3, g4, g5, v1, v2, v3, v4, v5, v6, hj, _ => by
    have : j = 10 := by omega
    subst this
    rw [L_X9_shutter_35, if_pos (show (10 : Int32) ≤ nI 10 by decide)]
    exact ⟨_, rfl⟩
  | d + 1, j, 0, _, _, _, _, _, _, _, _, _, _, _, _, _, _, z => absurd z (by omega)
  | d + 1, j, q + 1, mo, be, g1, g2, g3, g4, g5, v1, v2, v3, v4, v5, v6, hj, hq => by
    obtain ⟨b, y', e1⟩ := X8_carriedDays_sp h k f r m v6 (shut ^^^ ((1 : Int32) <<< (nI j &&& 31))) needed day hP hr hn hN
    rw [L_X9_shutter_35, if_neg (show ¬ (10 : Int32) ≤ nI j from nI_ge (b := 10) (by omega) (by omega)), f_X8_become, ob_t (a := (shut, nI P, needed, day, h, k, f, r, m)) rfl]
    simp only []
    rw [f_X8_turnShutter]
    simp only [nm]
    rw [ob_t (a := shut ^^^ ((1 : Int32) <<< (nI j &&& 31))) rfl, ob_t e1]
    simp only []
    show ∃ w : MG, (if shC h k f r m shut needed P n j ≤ mo then _ else _) = some ((fup (gsS (shC h k f r m shut needed P n)) (j + 1) d (gsS (shC h k f r m shut needed P n) j (mo, be))).2, w)
    by_cases z : shC h k f r m shut needed P n j ≤ mo
    · rw [if_pos z, show gsS (shC h k f r m shut needed P n) j (mo, be) = (mo, be) from if_pos z, nI_1]
      exact X9_shutter_lp h k f r m shut needed day hP hr hn hN d (j + 1) q _ _ _ _ _ _ _ _ _ _ _ _ _ (by omega) (by omega)
    · rw [if_neg z, show gsS (shC h k f r m shut needed P n) j (mo, be) = (shC h k f r m shut needed P n j, nI j) from if_neg z, nI_1]
      exact X9_shutter_lp h k f r m shut needed day hP hr hn hN d (j + 1) q _ _ _ _ _ _ _ _ _ _ _ _ _ (by omega) (by omega)
theorem lt_le (a b : Int32) : (a < b) = ¬ (b ≤ a) := propext Int32.not_le.symm
section MIN
variable {h k f r m : Nat → Int32} {P : Nat} {shut needed day : Int32} {S : Nat → Int32}
theorem X10_guest_lp (hs : Sm h k f r m P shut needed day S) (hP : P ≤ 7) (hh : OkH h) (hr : OkR r P) (hf : OkF f P) {N n p : Nat} (hp : p < P) (hn : n < 1000) (hN : 1001 ≤ N) (x : Int32) : ∀ (d j q : Nat) (mo be : Int32) (M : Nat → Int32), j + d = 10 → d < q → ∃ M', L_X10_guest_35 N S (nI p) (nI n) x q (nI j) mo be M = some (if x = 0 then (fup (gsS (guC h k f r m shut needed P p n)) j d (mo, be)).2 else (fup (gsS (guC h k f r m shut needed P p n)) j d (mo, be)).1, M')
  | 0, j, 0, _, _, _, _, z => absurd z (by omega)
  | 0, j, q + 1, mo, be, M, hj, _ => by
    have : j = 10 := by omega
    subst this
    rw [L_X10_guest_35, if_pos (show (10 : Int32) ≤ nI 10 by decide)]
    by_cases z : x = 0
    · rw [if_pos z, if_pos z]
      exact ⟨_, rfl⟩
    · rw [if_neg z, if_neg z]
      exact ⟨_, rfl⟩
  | d + 1, j, 0, _, _, _, _, z => absurd z (by omega)
  | d + 1, j, q + 1, mo, be, M, hj, hq => by
    obtain ⟨t, e2, ht⟩ := copies_sp S M (show 43 ≤ N by omega)
    obtain ⟨M', e3, hM⟩ := X10_holdsIn_sp ((hs.ext hP ht).rail hP hp (nI j)) hP hh (hr.upd (show j < 10 by omega)) hf hN hn
    rw [L_X10_guest_35, if_neg (show ¬ (10 : Int32) ≤ nI j from nI_ge (b := 10) (by omega) (by omega)), ob_t e2, ob_t (of2 p), gd_t (ix42 (by omega)), nI_cl (by omega)]
    simp only [nm]
    rw [ob_t e3]
    simp only [lt_le]
    show ∃ M'', (if ¬ (guC h k f r m shut needed P p n j ≤ mo) then _ else _) = some (if x = 0 then (fup (gsS (guC h k f r m shut needed P p n)) (j + 1) d (gsS (guC h k f r m shut needed P p n) j (mo, be))).2 else (fup (gsS (guC h k f r m shut needed P p n)) (j + 1) d (gsS (guC h k f r m shut needed P p n) j (mo, be))).1, M'')
    by_cases z : guC h k f r m shut needed P p n j ≤ mo
    · rw [if_neg (fun y => y z), show gsS (guC h k f r m shut needed P p n) j (mo, be) = (mo, be) from if_pos z, nI_1]
      exact X10_guest_lp hs hP hh hr hf hp hn hN x d (j + 1) q _ _ _ (by omega) (by omega)
    · rw [if_pos z, show gsS (guC h k f r m shut needed P p n) j (mo, be) = (guC h k f r m shut needed P p n j, nI j) from if_neg z, nI_1]
      exact X10_guest_lp hs hP hh hr hf hp hn hN x d (j + 1) q _ _ _ (by omega) (by omega)
theorem X10_shutter_lp (hs : Sm h k f r m P shut needed day S) (hP : P ≤ 7) (hh : OkH h) (hr : OkR r P) (hf : OkF f P) {N n : Nat} (hn : n < 1000) (hN : 1001 ≤ N) : ∀ (d j q : Nat) (mo be : Int32) (M : Nat → Int32), j + d = 10 → d < q → ∃ M', L_X10_shutter_21 N S (nI n) q (nI j) be mo M = some ((fup (gsS (shC h k f r m shut needed P n)) j d (mo, be)).2, M')
  | 0, j, 0, _, _, _, _, z => absurd z (by omega)
  | 0, j, q + 1, mo, be, M, hj, _ => by
    have : j = 10 := by omega
    subst this
    rw [L_X10_shutter_21, if_pos (show (10 : Int32) ≤ nI 10 by decide)]
    exact ⟨_, rfl⟩
  | d + 1, j, 0, _, _, _, _, z => absurd z (by omega)
  | d + 1, j, q + 1, mo, be, M, hj, hq => by
    obtain ⟨t, e2, ht⟩ := copies_sp S M (show 43 ≤ N by omega)
    have h3 := hs.ext hP ht
    obtain ⟨M', e3, hM⟩ := X10_holdsIn_sp (h3.shutIs (shut ^^^ ((1 : Int32) <<< (nI j &&& 31)))) hP hh hr hf hN hn
    rw [L_X10_shutter_21, if_neg (show ¬ (10 : Int32) ≤ nI j from nI_ge (b := 10) (by omega) (by omega)), ob_t e2, h3.2.2.2.1]
    simp only [nm]
    rw [ob_t e3]
    simp only [lt_le]
    show ∃ M'', (if ¬ (shC h k f r m shut needed P n j ≤ mo) then _ else _) = some ((fup (gsS (shC h k f r m shut needed P n)) (j + 1) d (gsS (shC h k f r m shut needed P n) j (mo, be))).2, M'')
    by_cases z : shC h k f r m shut needed P n j ≤ mo
    · rw [if_neg (fun y => y z), show gsS (shC h k f r m shut needed P n) j (mo, be) = (mo, be) from if_pos z, nI_1]
      exact X10_shutter_lp hs hP hh hr hf hn hN d (j + 1) q _ _ _ (by omega) (by omega)
    · rw [if_pos z, show gsS (shC h k f r m shut needed P n) j (mo, be) = (shC h k f r m shut needed P n j, nI j) from if_neg z, nI_1]
      exact X10_shutter_lp hs hP hh hr hf hn hN d (j + 1) q _ _ _ (by omega) (by omega)
theorem ag_guest (hS : St h k f r m P shut needed day S) (mh mk mf mr mm ms : Nat → Int32) (mo mt mp mn md : Int32) (M : Nat → Int32) (p1 p2 p3 : Int32) {N : Nat} (hN : 1001 ≤ N) : ∃ (res : Int32) (w : MG) (M' : Nat → Int32), f_X9_guest N h k f r m shut (nI P) needed day mh mk mf mr mm ms mo mt mp mn md p1 p2 p3 = some (res, w) ∧ f_X10_guest N S M p1 p2 p3 = some (res, M') := by
  obtain ⟨hs, hP, hh, hr, hf, hk, h2, h3⟩ := id hS
  rw [f_X9_guest, f_X10_guest, ob_t (isThere_sp _ _), ob_t (isSpeaker_sp hs hP _), t01_if, t01_if, ob_t (isSpan_sp _), ob_t (isLate_sp _), t01_if, t01_if, ob_t (isWithin_sp _ _ _), ob_t (isInM_sp _ _ _), t01_if, t01_if]
  cases c1 : thB P p1 with
  | false => exact ⟨-1, _, M, rfl, rfl⟩
  | true =>
    cases c2 : wiB p2 0 60 with
    | false => exact ⟨-1, _, M, rfl, rfl⟩
    | true =>
      cases c3 : wiB p3 0 1 with
      | false => exact ⟨-1, _, M, rfl, rfl⟩
      | true =>
        obtain ⟨p, hp, rfl⟩ := thB_of hP c1
        obtain ⟨n, -, hn, rfl⟩ := wiB_of (a := 0) (b := 60) (by omega) (by omega) c2
        obtain ⟨w, e1⟩ := X9_guest_lp h k f r m shut needed day p3 hP hr hp (n := n) (by omega) hN 10 0 N (-1) 0 mo mt mp mn md mh mk mf mr mm ms (by omega) (by omega)
        obtain ⟨M', e2⟩ := X10_guest_lp hs hP hh hr hf hp (n := n) (by omega) hN p3 10 0 N (-1) 0 M (by omega) (by omega)
        exact ⟨_, w, M', e1, e2⟩
theorem ag_shutter (hS : St h k f r m P shut needed day S) (mh mk mf mr mm ms : Nat → Int32) (mo mt mp mn md : Int32) (M : Nat → Int32) (p1 : Int32) {N : Nat} (hN : 1001 ≤ N) : ∃ (res : Int32) (w : MG) (M' : Nat → Int32), f_X9_shutter N h k f r m shut (nI P) needed day mh mk mf mr mm ms mo mt mp mn md p1 = some (res, w) ∧ f_X10_shutter N S M p1 = some (res, M') := by
  obtain ⟨hs, hP, hh, hr, hf, hk, h2, h3⟩ := id hS
  rw [f_X9_shutter, f_X10_shutter, ob_t (isSpan_sp _), ob_t (isLate_sp _), t01_if, t01_if]
  cases c2 : wiB p1 0 60 with
  | false => exact ⟨-1, _, M, rfl, rfl⟩
  | true =>
    obtain ⟨n, -, hn, rfl⟩ := wiB_of (a := 0) (b := 60) (by omega) (by omega) c2
    obtain ⟨b, y', e1⟩ := X8_carriedDays_sp h k f r m ms shut needed day hP hr (n := n) (by omega) hN
    obtain ⟨t, e2, ht⟩ := copies_sp S M (show 43 ≤ N by omega)
    obtain ⟨M1, e3, hM⟩ := X10_holdsIn_sp (hs.ext hP ht) hP hh hr hf hN (n := n) (by omega)
    obtain ⟨w, e4⟩ := X9_shutter_lp h k f r m shut needed day hP hr (n := n) (by omega) hN 10 0 N (hoS h k f r shut needed P n m 0) (-4) (t01 b) shut (nI P) needed (day + nI n) h k f r (itS h k f r shut P n m) y' (by omega) (by omega)
    obtain ⟨M', e5⟩ := X10_shutter_lp hs hP hh hr hf (n := n) (by omega) hN 10 0 N (hoS h k f r shut needed P n m 0) (-4) M1 (by omega) (by omega)
    refine ⟨(fup (gsS (shC h k f r m shut needed P n)) 0 10 (hoS h k f r shut needed P n m 0, -4)).2, w, M', ?_, ?_⟩
    · simp only [if_true]
      rw [f_X8_become, ob_t (a := (shut, nI P, needed, day, h, k, f, r, m)) rfl]
      simp only []
      rw [ob_t e1]
      exact e4
    · simp only [if_true]
      rw [f_X10_holdsNow, ob_t e2, ob_t e3]
      exact e5
/-! the greatest quota -/
theorem Sm.quotaIs (hS : Sm h k f r m P shut needed day S) (x : Int32) : Sm h k f r m P shut x day (upd S 2 x) := by
  obtain ⟨g0, g1, g2, g3, g4, g5⟩ := hS
  refine ⟨by rw [upd_ne _ _ (by omega)]; exact g0, by rw [upd_ne _ _ (by omega)]; exact g1, upd_at _ _ _, by rw [upd_ne _ _ (by omega)]; exact g3, fun b hb => by rw [upd_ne _ _ (by omega)]; exact g4 b hb, fun q hq => ?_⟩
  obtain ⟨a0, a1, a2, a3⟩ := g5 q hq
  exact ⟨by rw [upd_ne _ _ (by omega)]; exact a0, by rw [upd_ne _ _ (by omega)]; exact a1, by rw [upd_ne _ _ (by omega)]; exact a2, by rw [upd_ne _ _ (by omega)]; exact a3⟩
def qbB (k r m : Nat → Int32) (P : Nat) (shut : Int32) : Bool := osS r P (hdS r shut P &&& foS m P) 0 && osS r P (hdS r shut P &&& foS m P) 1 && !vdS k m P (hdS r shut P)
theorem ca_q (h k f r m : Nat → Int32) (P : Nat) (shut v : Int32) : caS h k f r m P shut v = (qbB k r m P shut && decide (v ≤ waS h k f r P (hdS r shut P &&& foS m P))) := by
  unfold caS whS qbB
  by_cases z : v ≤ waS h k f r P (hdS r shut P &&& foS m P) <;> cases osS r P (hdS r shut P &&& foS m P) 0 <;> cases osS r P (hdS r shut P &&& foS m P) 1 <;> cases vdS k m P (hdS r shut P) <;> simp [z]
def qmS (B : Bool) (w : Nat) : Nat → Int32
  | 0 => -4
  | v + 1 => if B && decide (v + 1 ≤ w) then nI (v + 1) else qmS B w v
theorem qm_val (w : Nat) : ∀ v, qmS true w v = if 1 ≤ v ∧ 1 ≤ w then nI (if w < v then w else v) else -4
  | 0 => rfl
  | v + 1 => by
    show (if true && decide (v + 1 ≤ w) then nI (v + 1) else qmS true w v) = _
    rw [qm_val w v]
    by_cases z : v + 1 ≤ w
    · rw [if_pos (by simp [z]), if_pos (show 1 ≤ v + 1 ∧ 1 ≤ w by omega), if_neg (show ¬ w < v + 1 by omega)]
    · rw [if_neg (by simp [z])]
      by_cases y : 1 ≤ w
      · rw [if_pos (show 1 ≤ v ∧ 1 ≤ w by omega), if_pos (show 1 ≤ v + 1 ∧ 1 ≤ w by omega), show (if w < v then w else v) = w by split <;> omega, if_pos (show w < v + 1 by omega)]
      · rw [if_neg (show ¬ (1 ≤ v ∧ 1 ≤ w) by omega), if_neg (show ¬ (1 ≤ v + 1 ∧ 1 ≤ w) by omega)]
theorem qm_no (w : Nat) : ∀ v, qmS false w v = -4
  | 0 => rfl
  | v + 1 => qm_no w v
theorem X10_quotaMost_lp (hs : Sm h k f r m P shut needed day S) (hP : P ≤ 7) (hr : OkR r P) {N w : Nat} (hN : 1001 ≤ N) (hw : w ≤ 161) (ew : waS h k f r P (hdS r shut P &&& foS m P) = nI w) : ∀ (v q : Nat) (M : Nat → Int32), v ≤ 99 → v < q → ∃ M', L_X10_quotaMost_3 N S q (nI v) M = some (qmS (qbB k r m P shut) w v, M')
  | 0, 0, _, _, z => absurd z (by omega)
  | 0, q + 1, M, _, _ => by
    rw [L_X10_quotaMost_3, if_pos (show nI 0 < (1 : Int32) by decide)]
    exact ⟨_, rfl⟩
  | v + 1, 0, _, _, z => absurd z (by omega)
  | v + 1, q + 1, M, hv, hq => by
    obtain ⟨t, e2, ht⟩ := copies_sp S M (show 43 ≤ N by omega)
    have h3 := (hs.ext hP ht).quotaIs (nI (v + 1))
    rw [L_X10_quotaMost_3, if_neg (show ¬ nI (v + 1) < (1 : Int32) from nI_nlt (b := 1) (by omega) (by omega)), ob_t e2]
    simp only [nm]
    rw [ob_t (X10_doesCarry_sp h3 hP hr (by omega)), t01_if, ca_q, ew, pk_m1]
    simp only [nI_leI (show v + 1 < 2 ^ 31 by omega) (show w < 2 ^ 31 by omega)]
    show ∃ M', _ = some (if qbB k r m P shut && decide (v + 1 ≤ w) then nI (v + 1) else qmS (qbB k r m P shut) w v, M')
    cases (qbB k r m P shut && decide (v + 1 ≤ w)) with
    | true => exact ⟨_, rfl⟩
    | false => exact X10_quotaMost_lp hs hP hr hN hw ew v q _ (by omega) (by omega)
theorem ag_quotaMost (hS : St h k f r m P shut needed day S) (M : Nat → Int32) {N : Nat} (hN : 1001 ≤ N) : ∃ (res : Int32) (w : MH) (M' : Nat → Int32), f_X9_quotaMost N h k f r m shut (nI P) needed day = some (res, w) ∧ f_X10_quotaMost N S M = some (res, M') := by
  obtain ⟨hs, hP, hh, hr, hf, hk, h2, h3⟩ := id hS
  obtain ⟨w, hw, ew⟩ := wa_rng hP hh hr hf hk (hdS r shut P &&& foS m P)
  obtain ⟨M', e⟩ := X10_quotaMost_lp hs hP hr hN hw ew 99 N M (by omega) (by omega)
  have ez : (if (1 : Int32) < (if nI w < (99 : Int32) then nI w else (99 : Int32)) then (if nI w < (99 : Int32) then nI w else (99 : Int32)) else (1 : Int32)) = nI (if w < 1 then 1 else if w < 99 then w else 99) := by
    by_cases z : w < 99
    · rw [if_pos (show nI w < (99 : Int32) from nI_lt (b := 99) z (by omega)), if_pos z]
      by_cases y : 1 < w
      · rw [if_pos (show (1 : Int32) < nI w from nI_lt (a := 1) y (by omega)), if_neg (by omega)]
      · rw [if_neg (show ¬ (1 : Int32) < nI w from nI_nlt (a := 1) (by omega) (by omega))]
        by_cases y2 : w < 1
        · rw [if_pos y2]; rfl
        · rw [if_neg y2, show w = 1 by omega]; rfl
    · rw [if_neg (show ¬ nI w < (99 : Int32) from nI_nlt (b := 99) (by omega) (by omega)), if_pos (by decide), if_neg (by omega), if_neg z]
      rfl
  refine ⟨qmS (qbB k r m P shut) w 99, ?_⟩
  rw [f_X9_quotaMost, ob_t (X8_heardOnes_sp r shut hP (by omega)), f_X8_become, ob_t (a := (shut, nI P, needed, day, h, k, f, r, m)) rfl]
  simp only []
  rw [ob_t (X8_weightFor_sp h k f r m _ hP hr (by omega)), ew]
  simp only [nm]
  rw [ez, ob_t (X8_isCarried_sp h k f r m shut _ hP hr (by omega)), t01_if, ca_q, ew]
  simp only [nI_leI (show (if w < 1 then 1 else if w < 99 then w else 99) < 2 ^ 31 by split <;> (try split) <;> omega) (show w < 2 ^ 31 by omega)]
  cases hB : qbB k r m P shut with
  | false =>
    rw [hB, qm_no] at e
    rw [qm_no]
    exact ⟨_, M', rfl, e⟩
  | true =>
    rw [hB, qm_val] at e
    rw [qm_val]
    by_cases y : w < 1
    · rw [if_neg (show ¬ (1 ≤ 99 ∧ 1 ≤ w) by omega)] at e ⊢
      rw [if_pos y, if_neg (by simp; omega)]
      exact ⟨_, M', rfl, e⟩
    · rw [if_pos (show 1 ≤ 99 ∧ 1 ≤ w by omega)] at e ⊢
      rw [if_neg y, if_pos (by simp; split <;> omega)]
      exact ⟨_, M', rfl, e⟩
end MIN
