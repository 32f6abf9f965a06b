/-! apply, pure: a clash -/
theorem ap_cla {D : Nat} {x : dV} (h : dOk D x) {i n w s : Nat} (hi : i < 2) (hc : apCl x i n w s = false) : ∃ A B, A < (dZ x i).2.2 ∧ B < (dZ x i).2.2 ∧ A ≠ B ∧ clP (fun k => dW x ((dZ x i).1 k)) n w s A = true ∧ clP (fun k => dW x ((dZ x i).1 k)) n w s B = true ∧ (ePl (dW x ((dZ x i).1 A))).toNatClampNeg ≤ (ePl (dW x ((dZ x i).1 B))).toNatClampNeg ∧ (ePl (dW x ((dZ x i).1 B))).toNatClampNeg < (ePl (dW x ((dZ x i).1 A))).toNatClampNeg + eRs (dW x ((dZ x i).1 A)) 0 := by
  obtain ⟨⟨i0, i1, i2, i3, i4⟩, -⟩ := ap_ch (n := n) (w := w) (s := s) h hi
  apply Classical.byContradiction
  intro hno
  have : apCl x i n w s = true := by
    refine (allB_iff _ _).mpr (fun k k1 k2 => ?_)
    have kN : k < (apC x i n w s).2 := by omega
    obtain ⟨a1, a2⟩ := i1 (k - 1) (by omega)
    obtain ⟨b1, b2⟩ := i1 k kN
    obtain ⟨p1, p2, p3, p4⟩ := ap_pl h hi a1
    obtain ⟨q1, q2, q3, q4⟩ := ap_pl h hi b1
    refine decide_eq_true ?_
    rw [p1, q1, ← nI_add9]
    refine nI_le ?_ (by omega)
    apply Classical.byContradiction
    intro hlt
    exact hno ⟨_, _, a1, b1, i4 (k - 1) k (by omega) kN, a2, b2, i2 (k - 1) k (by omega) kN, by omega⟩
  rw [hc] at this
  exact Bool.noConfusion this
