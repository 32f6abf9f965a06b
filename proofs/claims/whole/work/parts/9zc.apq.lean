/-! apply, pure: put together -/
theorem ap_Q {D : Nat} {x : dV} (h : dOk D x) {i n w s : Nat} (hi : i < 2) (hn : n < (dZ x i).2.1.1) (hw : w < 2) (hs : s < gCt (dG x 0)) (hc : apCl x i n w s = true) : apQ (apE x i n w s) (apP x i n w s) (apR x i n w s) (apL x i n w s).1.1 (apL x i n w s).1.2.1 (apL x i n w s).1.2.2.1 (apL x i n w s).1.2.2.2 (apN (apE x i n w s) (apP x i n w s)) (apLn (apE x i n w s) (apP x i n w s) (apR x i n w s)) (apC x i n w s).2 ∧ (apL x i n w s).2.2 = (apN (apE x i n w s) (apP x i n w s)) (apC x i n w s).2 ∧ apT x i n w s = tAdds (0, (dT x 1).2.1, 0) ((apM (dG x 0) s (gnSz (dG x 0) s) (apE x i n w s) (apP x i n w s) (apR x i n w s) (apC x i n w s).2 0 1).map Prod.fst) ∧ (∀ k, k < (apC x i n w s).2 → (apP x i n w s) k + eRs ((apE x i n w s) k) 0 ≤ gnSz (dG x 0) s + 1) ∧ ∀ k, k ≤ (apC x i n w s).2 → (apLn (apE x i n w s) (apP x i n w s) (apR x i n w s)) k + 1 ≤ (apN (apE x i n w s) (apP x i n w s)) k + 24 * k ∧ (apN (apE x i n w s) (apP x i n w s)) k ≤ 3001 := by
  obtain ⟨o1, o2, o3⟩ := ap_ok h hi hn hw hs
  have hgo := h.2.1 0 (by omega)
  have hto := hgo.2.2.1
  have hgz := hgo.2.2.2 s hs
  have hsz : gnSz (dG x 0) s = gSz (dG x 0) s := if_pos hs
  have eok : ∀ k, enOk ((apE x i n w s) k) := fun k => h.2.2.2.1 _ (dre_X h (show i < 3 by omega) _ (o3 k))
  have hle : ∀ k, k < (apC x i n w s).2 → (apN (apE x i n w s) (apP x i n w s)) k ≤ (apP x i n w s) k := fun k hk => by
    cases k with
    | zero => exact (o1 0 hk).2.1
    | succ k =>
      have h1 := (allB_iff _ _).mp hc (k + 1) (by omega) (by omega)
      replace h1 : ePl ((apE x i n w s) k) + nI (eRs ((apE x i n w s) k) 0) ≤ ePl ((apE x i n w s) (k + 1)) := of_decide_eq_true h1
      obtain ⟨a1, a2, a3, a4, a5⟩ := o1 k (by omega)
      obtain ⟨b1, b2, b3, b4, b5⟩ := o1 (k + 1) hk
      rw [a1, b1, ← nI_add9] at h1
      have h2 := nI_le_n h1 (by omega) (by omega)
      exact h2
  have hlen : ∀ k, k ≤ (apC x i n w s).2 → (apLn (apE x i n w s) (apP x i n w s) (apR x i n w s)) k + 1 ≤ (apN (apE x i n w s) (apP x i n w s)) k + 24 * k ∧ (apN (apE x i n w s) (apP x i n w s)) k ≤ 3001 := by
    intro k
    induction k with
    | zero => intro _; exact ⟨Nat.le_refl _, by show 1 ≤ 3001; decide⟩
    | succ k ih =>
      intro hk
      obtain ⟨i1, i2⟩ := ih (by omega)
      have l1 : (apLn (apE x i n w s) (apP x i n w s) (apR x i n w s)) (k + 1) = (apLn (apE x i n w s) (apP x i n w s) (apR x i n w s)) k + ((apP x i n w s) k - (apN (apE x i n w s) (apP x i n w s)) k) + eRs ((apE x i n w s) k) ((apR x i n w s) k) := rfl
      have l2 : (apN (apE x i n w s) (apP x i n w s)) (k + 1) = (apP x i n w s) k + eRs ((apE x i n w s) k) 0 := rfl
      have l3 := hle k (by omega)
      have l4 := (eok k).2.1 ((apR x i n w s) k)
      have l5 := (o1 k (by omega)).2.2.1
      exact ⟨by omega, by omega⟩
  obtain ⟨f1, f2⟩ := hPtL_f (W := dW x) (e := (dZ x i).1) (c := (apC x i n w s).1) (P := (apP x i n w s)) (R := (apR x i n w s)) (g := dG x 0) (j := s) ((apC x i n w s).2 - 0) 0 (hFr (dH x)) (hSz (dH x)) (hNf (dH x)) (hNz (dH x)) (0, (dT x 1).2.1, 0) (fun k hk => by
    have h1 := hlen k (by omega)
    show (apLn (apE x i n w s) (apP x i n w s) (apR x i n w s)) k ≤ 8000
    omega) (fun k hk => by
    have h1 := hlen (k + 1) (by omega)
    have l1 : (apLn (apE x i n w s) (apP x i n w s) (apR x i n w s)) (k + 1) = (apLn (apE x i n w s) (apP x i n w s) (apR x i n w s)) k + ((apP x i n w s) k - (apN (apE x i n w s) (apP x i n w s)) k) + eRs ((apE x i n w s) k) ((apR x i n w s) k) := rfl
    show (apLn (apE x i n w s) (apP x i n w s) (apR x i n w s)) k + ((apP x i n w s) k - (apN (apE x i n w s) (apP x i n w s)) k) ≤ 8000
    omega) rfl (fun k hk => absurd hk (Nat.not_lt_zero _))
  have f3 := hPtL_t (W := dW x) (e := (dZ x i).1) (c := (apC x i n w s).1) (P := (apP x i n w s)) (R := (apR x i n w s)) (g := dG x 0) (j := s) (Z := gnSz (dG x 0) s) ((apC x i n w s).2 - 0) 0 (hFr (dH x)) (hSz (dH x)) (hNf (dH x)) (hNz (dH x)) (0, (dT x 1).2.1, 0) 1
  refine ⟨fun k hk => ?_, ?_, f3, fun k hk => ?_, hlen⟩
  · obtain ⟨x1, x2, x3, x4⟩ := f1 k (by omega)
    exact ⟨x1, x2, x3, x4, hle k hk, rfl, rfl⟩
  · refine f2.trans ?_
    rw [show 0 + ((apC x i n w s).2 - 0) = (apC x i n w s).2 by omega]
    rfl
  · rw [hsz]
    exact (o1 k hk).2.2.1
