/-! the invariant over split -/
theorem eTkW_Go {w : eV} {q m : Nat} {g : gV} (h : eGo w m g) (hw : enOk w) (hq : q < eRo w) : eGo (eTkW w q) m g := by
  obtain ⟨⟨s, p, b1, b2, b3, b4, b5⟩, g2, g3, g4, g5⟩ := h
  refine ⟨⟨s, p, b1, b2, b3, b4, b5⟩, by show 1 ≤ 2; decide, fun r hr => ?_, g4, fun i hi => ⟨(g5 i hi).1, fun c hc => splC_ok hw.1 ((g5 i hi).2 c hc)⟩⟩
  have hr : r < 2 := hr
  rcases (show r = 0 ∨ r = 1 by omega) with e | e <;> subst e
  · exact g3 0 (by omega)
  · exact g3 q hq
theorem dAd_sZ {D : Nat} {A : Nat → Nat} {i : Nat} (h : dAd D A) (hi : i < 2) : dAd D (swG A (5 + i) 7) := by
  obtain ⟨h0, h1, h2, h3, h4, h5, h6, h7, h8⟩ := h
  rcases (show i = 0 ∨ i = 1 by omega) with e | e <;> subst e
  · refine ⟨h0, h1, h2, ?_⟩
    show (A 7 = D + 26 ∨ A 7 = D + 451 ∨ A 7 = D + 876) ∧ (A 6 = D + 26 ∨ A 6 = D + 451 ∨ A 6 = D + 876) ∧ (A 5 = D + 26 ∨ A 5 = D + 451 ∨ A 5 = D + 876) ∧ A 7 ≠ A 6 ∧ A 7 ≠ A 5 ∧ A 6 ≠ A 5
    omega
  · refine ⟨h0, h1, h2, ?_⟩
    show (A 5 = D + 26 ∨ A 5 = D + 451 ∨ A 5 = D + 876) ∧ (A 7 = D + 26 ∨ A 7 = D + 451 ∨ A 7 = D + 876) ∧ (A 6 = D + 26 ∨ A 6 = D + 451 ∨ A 6 = D + 876) ∧ A 5 ≠ A 7 ∧ A 5 ≠ A 6 ∧ A 7 ≠ A 6
    omega
/-- a table takes the spare sheet's place -/
theorem dOk_swp {D : Nat} {x : dV} {i : Nat} {z2 : sV} {W : Nat → eV} (h : dOk D x) (hi : i < 2) (h1 : shOk z2) (h2 : ∀ y, dX D y → enOk (W y)) (h3 : z2.1 = (dZ x 2).1) (h4 : ∀ k, k < z2.2.2 → eGo (W (z2.1 k)) z2.2.1.1 (dG x 0)) (h5 : ∀ a k, a < 2 → a ≠ i → k < 60 → W ((dZ x a).1 k) = dW x ((dZ x a).1 k)) : dOk D (dSwp (xW (xZ x (va_up (dZ x) 2 z2)) W) i) := by
  obtain ⟨a1, a2, a3, a4, a5, a6, a7⟩ := h
  have e1 : dZ (dSwp (xW (xZ x (va_up (dZ x) 2 z2)) W) i) i = z2 := by
    show swG (va_up (dZ x) 2 z2) i 2 i = z2
    rw [swG_l (by omega), va_up_self]
  have e2 : dZ (dSwp (xW (xZ x (va_up (dZ x) 2 z2)) W) i) 2 = dZ x i := by
    show swG (va_up (dZ x) 2 z2) i 2 2 = dZ x i
    rw [swG_r, va_up_ne _ _ (by omega)]
  have e3 : ∀ a, a ≠ i → a ≠ 2 → dZ (dSwp (xW (xZ x (va_up (dZ x) 2 z2)) W) i) a = dZ x a := fun a b c => by
    show swG (va_up (dZ x) 2 z2) i 2 a = dZ x a
    rw [swG_n b c, va_up_ne _ _ c]
  have hs : ∀ a, a < 3 → ∃ b, b < 3 ∧ (dZ (dSwp (xW (xZ x (va_up (dZ x) 2 z2)) W) i) a).1 = (dZ x b).1 ∧ (a = i → b = 2) ∧ (a = 2 → b = i) ∧ (a ≠ i → a ≠ 2 → b = a) := fun a ha => by
    by_cases c1 : a = i
    · subst c1
      exact ⟨2, by omega, by rw [e1, h3], fun _ => rfl, fun z => by omega, fun z => absurd rfl z⟩
    · by_cases c2 : a = 2
      · subst c2
        exact ⟨i, by omega, by rw [e2], fun z => absurd z c1, fun _ => rfl, fun _ z => absurd rfl z⟩
      · exact ⟨a, ha, by rw [e3 a c1 c2], fun z => absurd z c1, fun z => absurd z c2, fun _ _ => rfl⟩
  refine ⟨dAd_sZ a1 hi, a2, fun a ha => ?_, h2, ⟨fun a k ha hk => ?_, fun a k b l ha hk hb hl e => ?_⟩, fun a k ha hk => ?_, a7⟩
  · by_cases c1 : a = i
    · subst c1; rw [e1]; exact h1
    · by_cases c2 : a = 2
      · subst c2; rw [e2]; exact a3 i (by omega)
      · rw [e3 a c1 c2]; exact a3 a ha
  · obtain ⟨b, b1, b2, -⟩ := hs a ha
    rw [b2]
    exact a5.1 b k b1 hk
  · obtain ⟨a', b1, b2, b3, b4, b5⟩ := hs a ha
    obtain ⟨b', c1, c2, c3, c4, c5⟩ := hs b hb
    rw [b2, c2] at e
    obtain ⟨q1, q2⟩ := a5.2 a' k b' l b1 hk c1 hl e
    exact ⟨by omega, q2⟩
  · by_cases c1 : a = i
    · subst c1
      rw [e1] at hk ⊢
      exact h4 k hk
    · rw [e3 a c1 (by omega)] at hk ⊢
      have := (a3 a (by omega)).2
      show eGo (W ((dZ x a).1 k)) _ _
      rw [h5 a k ha c1 (by omega)]
      exact a6 a k ha hk
theorem dOk_spl {D : Nat} {x : dV} {q : Int32} (h : dOk D x) : dOk D (pSpl x q).2 := by
  unfold pSpl
  split
  · exact h
  · rename_i i hi
    have i2 := (ix_r hi (by decide)).1
    split
    · have hzo := h.2.2.1 i (by omega)
      have hn3 := hzo.1.1
      have hwo : ∀ j, j < 60 → enOk (dW x ((dZ x i).1 j)) := fun j hj => h.2.2.2.1 _ (dre_X h (show i < 3 by omega) j hj)
      have heo : ∀ j, j < 60 → enOk (dW x ((dZ x 2).1 j)) := fun j hj => h.2.2.2.1 _ (dre_X h (show 2 < 3 by omega) j hj)
      have hinj : ∀ a b, a < 60 → b < 60 → (dZ x 2).1 a = (dZ x 2).1 b → a = b := fun a b h1 h2 e => Classical.byContradiction (fun q => dre_i h (show 2 < 3 by omega) a b h1 h2 q e)
      have hue : ∀ a b, a < 60 → b < 60 → (dZ x i).1 a ≠ (dZ x 2).1 b := fun a b h1 h2 e => by
        have := (h.2.2.2.2.1.2 i a 2 b (by omega) h1 (by omega) h2 e).1
        omega
      have hKK : (nmAll 3 (0, (dZ x 2).2.1.2) (dZ x i).2.1).1 = (dZ x i).2.1.1 := (nmAll_0 hzo.1).1
      have hP := sSplL_I (P := fun w => eGo w (dZ x i).2.1.1 (dG x 0)) (m := (nmAll 3 (0, (dZ x 2).2.1.2) (dZ x i).2.1).1) hinj hue hwo (dZ x i).2.2 hzo.2 (fun i' v h1 h2 => eGo_q (h.2.2.2.2.2.1 i i' i2 h1) (eEq_m (eCopy_q (hwo i' (by have := hzo.2; omega))) hn3)) (fun i' q' v h1 h2 h3 h4 => by
        rw [hKK]
        exact eGo_q (eTkW_Go (h.2.2.2.2.2.1 i i' i2 h1) (hwo i' (by have := hzo.2; omega)) h3) (eTake_q h4 (hwo i' (by have := hzo.2; omega)) hn3 h3 h2)) ((dZ x i).2.2 - 0) 0 (dW x, 0) (by omega) ⟨by show 0 ≤ 60; omega, fun z _ => rfl, fun k hk => absurd hk (Nat.not_lt_zero _), heo⟩
      refine dOk_swp h i2 ⟨nmAll_ok ⟨Nat.zero_le _, (h.2.2.1 2 (by omega)).1.2.1, (h.2.2.1 2 (by omega)).1.2.2⟩, hP.1⟩ (fun y hy => ?_) rfl (fun k hk => ?_) (fun a k ha hai hk => ?_)
      · by_cases c : ∃ k, k < 60 ∧ y = (dZ x 2).1 k
        · obtain ⟨k, k1, k2⟩ := c
          rw [k2]
          exact hP.2.2.2 k k1
        · rw [hP.2.1 y (fun k hk e => c ⟨k, hk, e⟩)]
          exact h.2.2.2.1 y hy
      · have q9 := hP.2.2.1 k hk
        exact (congrArg (fun n => eGo ((sSplL (dZ x 2).1 (dZ x i).1 (nmAll 3 (0, (dZ x 2).2.1.2) (dZ x i).2.1).1 ((dZ x i).2.2 - 0) 0 (dW x, 0)).1 ((dZ x 2).1 k)) n (dG x 0)) hKK).mpr q9
      · exact hP.2.1 _ (fun l hl e => by have := (h.2.2.2.2.1.2 a k 2 l (by omega) hk (by omega) hl e).1; omega)
    · exact h