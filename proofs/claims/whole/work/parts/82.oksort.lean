/-! the desk's invariant is kept: sort -/
theorem pio_src {W : Nat → eV} {e0 : Nat → Nat} {n : Nat} {X : (Nat → eV) × (Nat → Nat)} (h : pioI W e0 n X) (hn : n ≤ 60) {k : Nat} (hk : k < 60) : ∃ j, j < 60 ∧ X.2 k = e0 j ∧ ((k < n ∧ j < n ∧ rk (fun k => W (e0 k)) n j = k) ∨ (n ≤ k ∧ j = k)) := by
  by_cases hkn : k < n
  · obtain ⟨j, j1, j2⟩ := h.2.2.1 k hkn
    exact ⟨j, by omega, by rw [← j2]; exact h.2.1 j j1, Or.inl ⟨hkn, j1, j2⟩⟩
  · exact ⟨k, hk, h.2.2.2.1 k (by omega), Or.inr ⟨by omega, rfl⟩⟩
theorem dOk_sor {D : Nat} {x : dV} {q : Int32} (h : dOk D x) : dOk D (pSor x q).2 := by
  unfold pSor
  split
  · exact h
  · rename_i i hi
    have i2 := (ix_r hi (by decide)).1
    obtain ⟨h1, h2, h3, h4, h5, h6, h7⟩ := id h
    have hz8 := (h3 i (by omega)).2
    have hpi := pioI_n (W := dW x) (e0 := (dZ x i).1) (n := (dZ x i).2.2) (fun a b a1 b1 e => Classical.byContradiction (fun q => dre_i h (show i < 3 by omega) a b (by omega) (by omega) q e))
    obtain ⟨X, hX⟩ : ∃ X, X = pioL ((dZ x i).2.2 - 0) 0 (dW x, (dZ x i).1) := ⟨_, rfl⟩
    rw [← hX] at hpi ⊢
    have hsrc : ∀ a k, a < 3 → k < 60 → ∃ j, j < 60 ∧ (va_up (dZ x) i (X.2, (dZ x i).2) a).1 k = (dZ x a).1 j ∧ (a = i → (k < (dZ x i).2.2 ∧ j < (dZ x i).2.2 ∧ rk (fun k => dW x ((dZ x i).1 k)) (dZ x i).2.2 j = k) ∨ ((dZ x i).2.2 ≤ k ∧ j = k)) ∧ (a ≠ i → j = k) := by
      intro a k ha hk
      by_cases e : a = i
      · subst e
        obtain ⟨j, j1, j2, j3⟩ := pio_src hpi hz8 hk
        exact ⟨j, j1, by rw [va_up_self]; exact j2, fun _ => j3, fun z => absurd rfl z⟩
      · exact ⟨k, hk, by rw [va_up_ne _ _ e], fun z => absurd z e, fun _ => rfl⟩
    refine ⟨h1, h2, fun a ha => ?_, fun y hy => ?_, ⟨fun a k ha hk => ?_, fun a k b l ha hk hb hl e => ?_⟩, fun a k ha hk => ?_, h7⟩
    · show shOk (va_up (dZ x) i (X.2, (dZ x i).2) a)
      by_cases e : a = i
      · subst e; rw [va_up_self]; exact h3 a ha
      · rw [va_up_ne _ _ e]; exact h3 a ha
    · show enOk (X.1 y)
      rw [hpi.1 y]
      exact h4 y hy
    · obtain ⟨j, j1, j2, -⟩ := hsrc a k ha hk
      show dXs D ((va_up (dZ x) i (X.2, (dZ x i).2) a).1 k)
      rw [j2]
      exact h5.1 a j ha j1
    · have e : (va_up (dZ x) i (X.2, (dZ x i).2) a).1 k = (va_up (dZ x) i (X.2, (dZ x i).2) b).1 l := e
      obtain ⟨j, j1, j2, j3, j4⟩ := hsrc a k ha hk
      obtain ⟨m, m1, m2, m3, m4⟩ := hsrc b l hb hl
      rw [j2, m2] at e
      obtain ⟨e1, e2⟩ := h5.2 a j b m ha j1 hb m1 e
      refine ⟨e1, ?_⟩
      subst e1
      subst e2
      by_cases ea : a = i
      · have q1 := j3 ea
        have q2 := m3 ea
        omega
      · rw [← j4 ea, ← m4 ea]
    · have hk : k < (va_up (dZ x) i (X.2, (dZ x i).2) a).2.2 := hk
      show eGo (X.1 ((va_up (dZ x) i (X.2, (dZ x i).2) a).1 k)) (va_up (dZ x) i (X.2, (dZ x i).2) a).2.1.1 (dG x 0)
      rw [hpi.1]
      by_cases e : a = i
      · subst e
        rw [va_up_self] at hk ⊢
        have hk : k < (dZ x a).2.2 := hk
        obtain ⟨j, j1, j2⟩ := hpi.2.2.1 k hk
        have q1 : X.2 k = (dZ x a).1 j := by rw [← j2]; exact hpi.2.1 j j1
        show eGo (wOi (dW x (X.2 k)) _) (dZ x a).2.1.1 (dG x 0)
        rw [q1]
        exact h6 a j ha j1
      · rw [va_up_ne _ _ e] at hk ⊢
        exact h6 a k ha hk