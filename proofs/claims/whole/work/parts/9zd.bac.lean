/-! apply, pure: back -/
theorem apM_l {g : gV} {j Z : Nat} {E : Nat → eV} {P R F S A B nn LL : Nat → Nat} {N : Nat} (h : apQ E P R F S A B nn LL N) : ∀ (d k : Nat), k + d = N → (apM g j Z E P R d k (nn k)).length + LL k = LL N + (Z + 1 - nn N) := by
  intro d
  induction d with
  | zero =>
    intro k hk
    rw [← show k = N by omega]
    show (apSg g j (nn k) (Z + 1)).length + LL k = _
    rw [apSg_l]
    omega
  | succ d ih =>
    intro k hk
    obtain ⟨e1, -⟩ := apM_e (g := g) (j := j) (Z := Z) (d := d) h (show k < N by omega)
    obtain ⟨h1, h2, h3, h4, h5, h6, h7⟩ := h k (by omega)
    have h8 := ih (k + 1) (by omega)
    rw [e1]
    omega
/-- what apply makes -/
def apO (x : dV) (i n w s : Nat) : List (Int32 × Int32) := apM (dG x 0) s (gnSz (dG x 0) s) (apE x i n w s) (apP x i n w s) (apR x i n w s) (apC x i n w s).2 0 1
theorem ap_len {D : Nat} {x : dV} (h : dOk D x) {i n w s : Nat} (hi : i < 2) (hn : n < (dZ x i).2.1.1) (hw : w < 2) (hs : s < gCt (dG x 0)) (hc : apCl x i n w s = true) : (apO x i n w s).length ≤ 4500 ∧ (apT x i n w s).1 = (apO x i n w s).length ∧ ∀ k, k < (apO x i n w s).length → (apT x i n w s).2.1 k = ((apO x i n w s).getD k (0, 0)).1 := by
  obtain ⟨q1, q2, q3, q4, q5⟩ := ap_Q h hi hn hw hs hc
  have hN := (ap_ok h hi hn hw hs).2.1
  have hgo := h.2.1 0 (by omega)
  have hto := hgo.2.2.1
  have hgz := hgo.2.2.2 s hs
  have hsz : gnSz (dG x 0) s = gSz (dG x 0) s := if_pos hs
  have h1 : (apO x i n w s).length + 0 = (apLn (apE x i n w s) (apP x i n w s) (apR x i n w s)) (apC x i n w s).2 + (gnSz (dG x 0) s + 1 - (apN (apE x i n w s) (apP x i n w s)) (apC x i n w s).2) := apM_l q1 (apC x i n w s).2 0 (by omega)
  obtain ⟨h2, h3⟩ := q5 (apC x i n w s).2 (Nat.le_refl _)
  have h4 : (apO x i n w s).length ≤ 4500 := by
    rw [hsz] at h1
    omega
  have h5 : apT x i n w s = tAdds (0, (dT x 1).2.1, 0) ((apO x i n w s).map Prod.fst) := q3
  obtain ⟨t1, t2, t3, t4⟩ := tAdds_ok ((apO x i n w s).map Prod.fst) (0, (dT x 1).2.1, 0) (by rw [List.length_map]; show 0 + _ ≤ 8000; omega)
  rw [List.length_map] at t1 t4
  rw [h5]
  refine ⟨h4, t1.trans (Nat.zero_add _), fun k hk => ?_⟩
  have h6 := t4 k hk
  rw [show ((0, (dT x 1).2.1, 0) : tS).1 + k = k from Nat.zero_add _] at h6
  rw [h6, List.getD_eq_getElem?_getD, List.getD_eq_getElem?_getD, List.getElem?_map, List.getElem?_eq_getElem hk]
  rfl
theorem ap_bac {D : Nat} {x : dV} (h : dOk D x) {i n w s : Nat} (hi : i < 2) (hn : n < (dZ x i).2.1.1) (hw : w < 2) (hs : s < gCt (dG x 0)) (hc : apCl x i n w s = true) (q : Int32) : hBac (apZ x i n w s) q = if mIn q (nI 1) (nI (apO x i n w s).length) = true then ((apO x i n w s).getD (q.toNatClampNeg - 1) (0, 0)).2 else -1 := by
  obtain ⟨q1, q2, q3, q4, q5⟩ := ap_Q h hi hn hw hs hc
  obtain ⟨l1, l2, l3⟩ := ap_len h hi hn hw hs hc
  have e : hBac (apZ x i n w s) q = if q ≤ nI (apT x i n w s).1 then (if nI 1 ≤ q then hMovL (apL x i n w s).1.2.2.1 (apL x i n w s).1.2.2.2 (apL x i n w s).1.1 (apL x i n w s).1.2.1 q.toNatClampNeg ((apC x i n w s).2 - 0) 0 (nI 0) else -1) else -1 := rfl
  rw [e, l2]
  by_cases c : mIn q (nI 1) (nI (apO x i n w s).length) = true
  · rw [if_pos c]
    obtain ⟨m, m1, m2, m3⟩ := mIn_nat c (by decide) (by omega)
    unfold mIn at c
    rw [Bool.and_eq_true, decide_eq_true_eq, decide_eq_true_eq] at c
    rw [if_pos c.2, if_pos c.1, m3, nI_clamp (n := m) (by omega)]
    have h1 := apM_b (g := dG x 0) (j := s) (Z := gnSz (dG x 0) s) q1 (apC x i n w s).2 0 (by omega) (m - 1) (show m - 1 < (apO x i n w s).length by omega)
    rw [show (apLn (apE x i n w s) (apP x i n w s) (apR x i n w s)) 0 + 1 + (m - 1) = m by show 0 + 1 + (m - 1) = m; omega, show nI ((apN (apE x i n w s) (apP x i n w s)) 0) - nI ((apLn (apE x i n w s) (apP x i n w s) (apR x i n w s)) 0 + 1) = nI 0 by show nI 1 - nI (0 + 1) = nI 0; decide] at h1
    exact h1
  · rw [if_neg c]
    unfold mIn at c
    rw [Bool.and_eq_true, decide_eq_true_eq, decide_eq_true_eq] at c
    by_cases c1 : q ≤ nI (apO x i n w s).length
    · rw [if_pos c1, if_neg (fun z => c ⟨z, c1⟩)]
    · rw [if_neg c1]
