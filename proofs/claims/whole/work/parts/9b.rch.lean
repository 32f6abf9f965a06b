/-! rows made longer with the other record's first row -/
theorem eRchL_f {w : eV} {r : Nat} : ∀ (d k : Nat) (y : eV), eRs y r + d ≤ 24 → eRchL w r d k y = wRs (wLe y (eLe (eRchL w r d k y))) (va_up (eRs y) r (eRs y r + d)) ∧ ∀ j, eLe (eRchL w r d k y) j = if r * 24 + eRs y r ≤ j ∧ j < r * 24 + eRs y r + d then eLet w 0 (nI (k + (j - (r * 24 + eRs y r)))) else eLe y j := by
  intro d
  induction d with
  | zero =>
    intro k y h2
    refine ⟨?_, fun j => (if_neg (by omega)).symm⟩
    show y = wRs (wLe y (eLe y)) (va_up (eRs y) r (eRs y r))
    rw [va_up_id rfl]
  | succ d ih =>
    intro k y h2
    have e0 : eAddL y r (eLet w 0 (nI k)) = wRs (wLe y (upd (eLe y) (r * 24 + eRs y r) (eLet w 0 (nI k)))) (va_up (eRs y) r (eRs y r + 1)) := if_pos (by omega)
    have e : eRchL w r (d + 1) k y = eRchL w r d (k + 1) (eAddL y r (eLet w 0 (nI k))) := rfl
    rw [e, e0]
    have e3 : eRs (wRs (wLe y (upd (eLe y) (r * 24 + eRs y r) (eLet w 0 (nI k)))) (va_up (eRs y) r (eRs y r + 1))) r = eRs y r + 1 := va_up_self _ _ _
    obtain ⟨a1, a2⟩ := ih (k + 1) (wRs (wLe y (upd (eLe y) (r * 24 + eRs y r) (eLet w 0 (nI k)))) (va_up (eRs y) r (eRs y r + 1))) (by rw [e3]; omega)
    rw [e3] at a1 a2
    generalize eRchL w r d (k + 1) (wRs (wLe y (upd (eLe y) (r * 24 + eRs y r) (eLet w 0 (nI k)))) (va_up (eRs y) r (eRs y r + 1))) = z at a1 a2
    refine ⟨?_, fun j => ?_⟩
    · have a3 : z = wRs (wLe y (eLe z)) (va_up (va_up (eRs y) r (eRs y r + 1)) r (eRs y r + 1 + d)) := a1
      rw [va_up_up, show eRs y r + 1 + d = eRs y r + (d + 1) by omega] at a3
      exact a3
    · rw [a2 j]
      show (if r * 24 + (eRs y r + 1) ≤ j ∧ j < r * 24 + (eRs y r + 1) + d then eLet w 0 (nI (k + 1 + (j - (r * 24 + (eRs y r + 1))))) else upd (eLe y) (r * 24 + eRs y r) (eLet w 0 (nI k)) j) = _
      by_cases e1 : j = r * 24 + eRs y r
      · subst e1
        rw [if_neg (by omega), updS, if_pos (by omega), Nat.sub_self, Nat.add_zero]
      · by_cases e2 : r * 24 + (eRs y r + 1) ≤ j ∧ j < r * 24 + (eRs y r + 1) + d
        · rw [if_pos e2, if_pos (by omega), show k + 1 + (j - (r * 24 + (eRs y r + 1))) = k + (j - (r * 24 + eRs y r)) by omega]
        · rw [if_neg e2, if_neg (by omega), updN e1]
theorem eRchR_f {w : eV} {k : Nat} : ∀ (d r : Nat) (y : eV), (∀ q, eRs y q ≤ 24) → (∀ q, r ≤ q → q < r + d → eRs y q + (eRs w 0 - k) ≤ 24) → eRst (eRchR w k d r y) y ∧ ePl (eRchR w k d r y) = ePl y ∧ (∀ q, eRs (eRchR w k d r y) q = if r ≤ q ∧ q < r + d then eRs y q + (eRs w 0 - k) else eRs y q) ∧ ∀ q j, j < 24 → eLe (eRchR w k d r y) (q * 24 + j) = if (r ≤ q ∧ q < r + d) ∧ eRs y q ≤ j ∧ j < eRs y q + (eRs w 0 - k) then eLet w 0 (nI (k + (j - eRs y q))) else eLe y (q * 24 + j) := by
  intro d
  induction d with
  | zero => intro r y _ _; exact ⟨eRst_r, rfl, fun q => (if_neg (by omega)).symm, fun q j _ => (if_neg (by omega)).symm⟩
  | succ d ih =>
    intro r y hy hd
    have h0 := hd r (by omega) (by omega)
    obtain ⟨a1, a2⟩ := eRchL_f (w := w) (r := r) (eRs w 0 - k) k y h0
    have e : eRchR w k (d + 1) r y = eRchR w k d (r + 1) (eRchL w r (eRs w 0 - k) k y) := rfl
    rw [e]
    generalize eRchL w r (eRs w 0 - k) k y = z at a1 a2
    have hz : eRs z = va_up (eRs y) r (eRs y r + (eRs w 0 - k)) := by rw [a1]
    have hzr : eRst z y ∧ ePl z = ePl y := by
      rw [a1]
      exact ⟨eRst_r, rfl⟩
    obtain ⟨b0, b1, b2, b3⟩ := ih (r + 1) z (fun q => by
      rw [hz]
      by_cases c : q = r
      · rw [c, va_up_self]; omega
      · rw [va_up_ne _ _ c]; exact hy q) (fun q h1 h2 => by
      rw [hz, va_up_ne _ _ (by omega)]
      exact hd q (by omega) (by omega))
    refine ⟨eRst_t b0 hzr.1, b1.trans hzr.2, fun q => ?_, fun q j hj => ?_⟩
    · rw [b2 q, hz]
      by_cases e1 : q = r
      · subst e1
        rw [if_neg (by omega), va_up_self, if_pos (by omega)]
      · rw [va_up_ne _ _ e1]
        by_cases e2 : r + 1 ≤ q ∧ q < r + 1 + d
        · rw [if_pos e2, if_pos (by omega)]
        · rw [if_neg e2, if_neg (by omega)]
    · rw [b3 q j hj, hz]
      by_cases e1 : q = r
      · subst e1
        rw [if_neg (by omega), a2]
        by_cases e2 : eRs y q ≤ j ∧ j < eRs y q + (eRs w 0 - k)
        · rw [if_pos (by omega), if_pos (by omega), show q * 24 + j - (q * 24 + eRs y q) = j - eRs y q by omega]
        · rw [if_neg (by omega), if_neg (by omega)]
      · rw [va_up_ne _ _ e1]
        by_cases e2 : (r + 1 ≤ q ∧ q < r + 1 + d) ∧ eRs y q ≤ j ∧ j < eRs y q + (eRs w 0 - k)
        · rw [if_pos e2, if_pos (by omega)]
        · rw [if_neg e2, if_neg (by omega), a2, if_neg (by omega)]
theorem eRch_f {v w : eV} (hv : ∀ q, eRs v q ≤ 24) (hd : ∀ q, q < eRo v → eRs v q + (eRs w 0 - eRs v 0) ≤ 24) : eRst (eRch v w) v ∧ ePl (eRch v w) = ePl v ∧ ∀ q, q < eRo v → eRs (eRch v w) q = eRs v q + (eRs w 0 - eRs v 0) ∧ (∀ k, k < eRs v q → eLe (eRch v w) (q * 24 + k) = eLe v (q * 24 + k)) ∧ ∀ k, k < eRs w 0 - eRs v 0 → eLe (eRch v w) (q * 24 + (eRs v q + k)) = eLet w 0 (nI (eRs v 0 + k)) := by
  obtain ⟨b0, b1, b2, b3⟩ := eRchR_f (w := w) (k := eRs v 0) (eRo v - 0) 0 v hv (fun q _ h => hd q (by omega))
  refine ⟨b0, b1, fun q hq => ?_⟩
  have h0 := hd q hq
  have h1 := hv q
  refine ⟨?_, fun k hk => ?_, fun k hk => ?_⟩
  · show eRs (eRchR w (eRs v 0) (eRo v - 0) 0 v) q = _
    rw [b2 q, if_pos (by omega)]
  · show eLe (eRchR w (eRs v 0) (eRo v - 0) 0 v) (q * 24 + k) = _
    rw [b3 q k (by omega), if_neg (by omega)]
  · show eLe (eRchR w (eRs v 0) (eRo v - 0) 0 v) (q * 24 + (eRs v q + k)) = _
    rw [b3 q (eRs v q + k) (by omega), if_pos (by omega), show eRs v q + k - eRs v q = k by omega]