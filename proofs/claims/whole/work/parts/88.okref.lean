/-! the desk's invariant is kept: reference -/
theorem rRunL_ok {s : tS} : ∀ (d k : Nat) (v : rV) (g : gV), k + d ≤ 8000 → rInv v g k → gOk (rRunL s d k v g).2.2 := by
  intro d
  induction d with
  | zero =>
    intro k v g _ h
    unfold rRunL
    split <;> exact h.1
  | succ d ih =>
    intro k v g hk h
    have q := rInv_take (x := ocAt s.1 s.2.1 (nI k)) (rInv_at (n := k) h (by omega))
    unfold rRunL
    split
    · exact ih (k + 1) _ _ (by omega) q
    · exact q.1
theorem rRun_ok {s : tS} {g : gV} (hs : s.1 ≤ 8000) (hg : gOk g) : gOk (rRun s g).2.2 := rRunL_ok _ _ _ _ (by omega) ⟨gnZero_ok hg, fun q => absurd rfl q, by decide, by decide, by decide, by decide, by decide, by decide, by decide, by decide, by decide⟩
theorem dOk_ref {D : Nat} {x : dV} (h : dOk D x) (hs : (dT x 0).1 ≤ 8000) : dOk D (pRef x).2 := by
  obtain ⟨h1, h2, h3, h4, h5, h6, h7⟩ := id h
  have hg : gOk (rfR x).2.2 := rRun_ok hs (h2 1 (by omega))
  unfold pRef
  split
  · have hZ : ∀ a, a < 3 → (dZ (rfX5 x) a).1 = (dZ x a).1 := fun a ha => by
      rcases (show a = 0 ∨ a = 1 ∨ a = 2 by omega) with e | e | e <;> subst e <;> rfl
    refine ⟨dAd_sG h1, fun a ha => ?_, fun a ha => ?_, h4, ⟨fun a k ha hk => ?_, fun a k b l ha hk hb hl e => ?_⟩, fun a k ha hk => ?_, ⟨⟨Nat.zero_le _, h7.1.2⟩, h7.2⟩⟩
    · rcases (show a = 0 ∨ a = 1 by omega) with e | e <;> subst e
      · exact hg
      · exact h2 0 (by omega)
    · have z : ∀ i, i < 3 → shOk (zC (dZ x i)) := fun i hi => ⟨⟨Nat.zero_le _, (h3 i hi).1.2.1, (h3 i hi).1.2.2⟩, Nat.zero_le _⟩
      rcases (show a = 0 ∨ a = 1 ∨ a = 2 by omega) with e | e | e <;> subst e
      · exact z 0 (by omega)
      · exact z 1 (by omega)
      · exact h3 2 (by omega)
    · show dXs D ((dZ (rfX5 x) a).1 k)
      rw [hZ a ha]
      exact h5.1 a k ha hk
    · have e : (dZ (rfX5 x) a).1 k = (dZ (rfX5 x) b).1 l := e
      rw [hZ a ha, hZ b hb] at e
      exact h5.2 a k b l ha hk hb hl e
    · rcases (show a = 0 ∨ a = 1 by omega) with e | e <;> subst e
      · exact absurd hk (Nat.not_lt_zero _)
      · exact absurd hk (Nat.not_lt_zero _)
  · refine ⟨h1, fun a ha => ?_, h3, h4, h5, h6, h7⟩
    rcases (show a = 0 ∨ a = 1 by omega) with e | e <;> subst e
    · exact h2 0 (by omega)
    · exact hg