/-! apply, pure: the chosen ones of a desk -/
theorem clP_i {w : Nat → eV} {q c s k : Nat} : clP w q c s k = true ↔ eSq (w k) = nI s ∧ ¬ eCall (w k) q c ≤ 0 := by
  unfold clP
  rw [Bool.and_eq_true, decide_eq_true_eq, decide_eq_true_eq]
theorem ap_pl {D : Nat} {x : dV} (h : dOk D x) {i k : Nat} (hi : i < 2) (hk : k < (dZ x i).2.2) : ePl (dW x ((dZ x i).1 k)) = nI (ePl (dW x ((dZ x i).1 k))).toNatClampNeg ∧ 1 ≤ (ePl (dW x ((dZ x i).1 k))).toNatClampNeg ∧ (ePl (dW x ((dZ x i).1 k))).toNatClampNeg + eRs (dW x ((dZ x i).1 k)) 0 ≤ 3001 ∧ 1 ≤ eRs (dW x ((dZ x i).1 k)) 0 := by
  obtain ⟨⟨s, p, g1, g2, g3, g4, g5⟩, g6, g7, -⟩ := h.2.2.2.2.2.1 i k hi hk
  have hgo := h.2.1 0 (by omega)
  have hto := hgo.2.2.1
  have hgz := hgo.2.2.2 s g3
  rw [g2, nI_clamp (n := p) (by omega)]
  exact ⟨rfl, g4, by omega, g7 0 (by omega)⟩
theorem ap_ch {D : Nat} {x : dV} (h : dOk D x) {i n w s : Nat} (hi : i < 2) : chI (fun k => clP (fun k => dW x ((dZ x i).1 k)) n w s k = true) (fun k => (ePl (dW x ((dZ x i).1 k))).toNatClampNeg) (dZ x i).2.2 (apC x i n w s) ∧ (apC x i n w s).2 = cntN (clP (fun k => dW x ((dZ x i).1 k)) n w s) ((dZ x i).2.2 - 0) 0 0 := by
  obtain ⟨a, b⟩ := hChL_I (W := dW x) (e := (dZ x i).1) (q := n) (r := w) (s := s) (n := (dZ x i).2.2) (pl := fun k => (ePl (dW x ((dZ x i).1 k))).toNatClampNeg) (fun k hk _ => ⟨(ap_pl h hi hk).1, by have := (ap_pl h hi hk).2.2.1; omega⟩) ((dZ x i).2.2 - 0) 0 (hCh (dH x), 0) (by omega) ⟨Nat.le_refl _, fun a ha => absurd ha (Nat.not_lt_zero _), fun a b _ hb => absurd hb (Nat.not_lt_zero _), fun k hk => absurd hk (Nat.not_lt_zero _), fun a b _ hb => absurd hb (Nat.not_lt_zero _)⟩
  have hQ : (fun k => eSq (dW x ((dZ x i).1 k)) = nI s ∧ ¬ eCall (dW x ((dZ x i).1 k)) n w ≤ 0) = (fun k => clP (fun k => dW x ((dZ x i).1 k)) n w s k = true) := funext (fun k => propext (clP_i (w := (fun k => dW x ((dZ x i).1 k)))).symm)
  rw [hQ] at a
  exact ⟨a, b⟩
