/-! apply, pure: carried -/
/-- what the model leaves at old place p -/
def crL (l : List (Int32 × Int32)) (p : Nat) : Nat → Nat → Int32 → Int32
  | 0, _, x => x
  | d + 1, i, x => crL l p d (i + 1) (if (l.getD i (0, 0)).2 = nI p then nI (i + 1) else x)
theorem crL_n {l : List (Int32 × Int32)} {p : Nat} : ∀ (d i : Nat) (x : Int32), (∀ q, i ≤ q → q < i + d → (l.getD q (0, 0)).2 ≠ nI p) → crL l p d i x = x := by
  intro d
  induction d with
  | zero => intro i x _; rfl
  | succ d ih =>
    intro i x h
    show crL l p d (i + 1) (if (l.getD i (0, 0)).2 = nI p then nI (i + 1) else x) = x
    rw [if_neg (h i (Nat.le_refl _) (by omega))]
    exact ih (i + 1) x (fun q h1 h2 => h q (by omega) (by omega))
theorem crL_u {l : List (Int32 × Int32)} {p q : Nat} (hq : (l.getD q (0, 0)).2 = nI p) : ∀ (d i : Nat) (x : Int32), i ≤ q → q < i + d → (∀ q', i ≤ q' → q' < i + d → (l.getD q' (0, 0)).2 = nI p → q' = q) → crL l p d i x = nI (q + 1) := by
  intro d
  induction d with
  | zero => intro i x h1 h2; exact absurd h2 (by omega)
  | succ d ih =>
    intro i x h1 h2 h
    show crL l p d (i + 1) (if (l.getD i (0, 0)).2 = nI p then nI (i + 1) else x) = _
    by_cases e : i = q
    · subst e
      rw [if_pos hq]
      exact crL_n d (i + 1) _ (fun q' a b z => by have := h q' (by omega) (by omega) z; omega)
    · exact ih (i + 1) _ (by omega) (by omega) (fun q' a b z => h q' (by omega) (by omega) z)
theorem ap_car {D : Nat} {x : dV} (h : dOk D x) {i n w s : Nat} (hi : i < 2) (hn : n < (dZ x i).2.1.1) (hw : w < 2) (hs : s < gCt (dG x 0)) (hc : apCl x i n w s = true) (q : Int32) : hCar (apZ x i n w s) q = if mIn q (nI 1) (nI (gnSz (dG x 0) s)) = true then crL (apO x i n w s) q.toNatClampNeg (apO x i n w s).length 0 (-1) else -1 := by
  obtain ⟨q1, q2, q3, q4, q5⟩ := ap_Q h hi hn hw hs hc
  have hgo := h.2.1 0 (by omega)
  have hto := hgo.2.2.1
  have hgz := hgo.2.2.2 s hs
  have hsz : gnSz (dG x 0) s = gSz (dG x 0) s := if_pos hs
  have e : hCar (apZ x i n w s) q = if q ≤ nI (gnSz (dG x 0) s) then (if nI 1 ≤ q then hMovL (apL x i n w s).1.1 (apL x i n w s).1.2.1 (apL x i n w s).1.2.2.1 (apL x i n w s).1.2.2.2 q.toNatClampNeg ((apC x i n w s).2 - 0) 0 (nI 0) else -1) else -1 := rfl
  rw [e]
  by_cases c : mIn q (nI 1) (nI (gnSz (dG x 0) s)) = true
  · rw [if_pos c]
    obtain ⟨m, m1, m2, m3⟩ := mIn_nat c (by decide) (by omega)
    unfold mIn at c
    rw [Bool.and_eq_true, decide_eq_true_eq, decide_eq_true_eq] at c
    rw [if_pos c.2, if_pos c.1, m3, nI_clamp (n := m) (by omega)]
    have h1 := apM_c (g := dG x 0) (j := s) (Z := gnSz (dG x 0) s) q1 q4 (by omega) (apC x i n w s).2 0 (by omega) m m1 m2
    rw [show nI ((apLn (apE x i n w s) (apP x i n w s) (apR x i n w s)) 0 + 1) - nI ((apN (apE x i n w s) (apP x i n w s)) 0) = nI 0 by show nI (0 + 1) - nI 1 = nI 0; decide] at h1
    rcases h1 with ⟨r, r1, r2, r3, r4⟩ | ⟨r1, r2⟩
    · rw [crL_u (l := apO x i n w s) (q := r) r2 (apO x i n w s).length 0 (-1) (Nat.zero_le _) (show r < 0 + (apO x i n w s).length by rw [Nat.zero_add]; exact r1) (fun q' _ a b => r3 q' (by rw [Nat.zero_add] at a; exact a) b)]
      refine r4.trans ?_
      show nI (0 + 1 + r) = nI (r + 1)
      exact congrArg nI (by omega)
    · rw [crL_n (l := apO x i n w s) (apO x i n w s).length 0 (-1) (fun q' _ a => r1 q' (by rw [Nat.zero_add] at a; exact a))]
      exact r2
  · rw [if_neg c]
    unfold mIn at c
    rw [Bool.and_eq_true, decide_eq_true_eq, decide_eq_true_eq] at c
    by_cases c1 : q ≤ nI (gnSz (dG x 0) s)
    · rw [if_pos c1, if_neg (fun z => c ⟨z, c1⟩)]
    · rw [if_neg c1]
