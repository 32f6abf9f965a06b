/-! at the start -/
theorem dOk_new {D : Nat} : dOk D (dNew D) := by
  refine ⟨⟨rfl, Or.inl ⟨rfl, rfl⟩, Or.inl ⟨rfl, rfl⟩, Or.inl rfl, Or.inr (Or.inl rfl), Or.inr (Or.inr rfl), ?_, ?_, ?_⟩, fun i _ => ⟨⟨Nat.zero_le _, Nat.le_refl _, fun _ => Nat.zero_le _⟩, rfl, Nat.zero_le _, fun s hs => absurd hs (Nat.not_lt_zero _)⟩, fun i _ => ⟨⟨Nat.zero_le _, by decide, fun _ => Nat.zero_le _⟩, Nat.zero_le _⟩, fun _ _ => ⟨Nat.zero_le _, fun _ => Nat.zero_le _, fun _ => Nat.zero_le _, Nat.zero_le _⟩, ⟨fun i k hi hk => ?_, fun i k j l hi hk hj hl e => ?_⟩, fun i k _ hk => absurd hk (Nat.not_lt_zero _), ⟨Nat.zero_le _, fun k => ⟨(by decide : 0 < 2 ^ 28), (by decide : 0 < 2 ^ 28), (by decide : 0 < 2 ^ 28), (by decide : 0 < 2 ^ 28)⟩⟩, fun k => (by decide : 0 < 60)⟩
  · show D + 26 ≠ D + 451; omega
  · show D + 26 ≠ D + 876; omega
  · show D + 451 ≠ D + 876; omega
  · rcases (show i = 0 ∨ i = 1 ∨ i = 2 by omega) with e | e | e <;> subst e
    · exact Or.inl ⟨k, hk, by show D + 26 + 5 + 7 * k = _; omega⟩
    · exact Or.inr (Or.inl ⟨k, hk, by show D + 451 + 5 + 7 * k = _; omega⟩)
    · exact Or.inr (Or.inr ⟨k, hk, by show D + 876 + 5 + 7 * k = _; omega⟩)
  · have q : ∀ i k, i < 3 → ((dZ (dNew D)) i).1 k = D + 26 + 425 * i + 5 + 7 * k := fun i k hi => by
      rcases (show i = 0 ∨ i = 1 ∨ i = 2 by omega) with e | e | e <;> subst e
      · show D + 26 + 5 + 7 * k = _; omega
      · show D + 451 + 5 + 7 * k = _; omega
      · show D + 876 + 5 + 7 * k = _; omega
    rw [q i k hi, q j l hj] at e
    omega
theorem hMov_0 {q : Int32} : hCar nH q = -1 ∧ hBac nH q = -1 := by
  have h : ∀ s l n m, hMov s l n m 0 q = -1 ∨ ¬ q ≤ nI 0 := by
    intro s l n m
    by_cases h1 : nI 1 ≤ q
    · right
      intro h2
      exact absurd (Int32.le_trans h1 h2) (by decide)
    · left
      unfold hMov
      rw [if_neg h1]
  constructor
  · unfold hCar
    split
    · rename_i hc
      exact (h _ _ _ _).resolve_right (fun z => z hc)
    · rfl
  · unfold hBac
    split
    · rename_i hc
      exact (h _ _ _ _).resolve_right (fun z => z hc)
    · rfl
theorem mRel_new {D : Nat} : mRel (dNew D) mNew := by
  refine ⟨⟨fun _ _ _ => (by decide : vp_nar .byte 0 = 0), fun _ _ _ => (by decide : vp_nar .boolean 0 = 0), fun _ _ _ => (by decide : (0 : Int32) ≤ nI 3)⟩, ⟨rfl, Nat.zero_le _, fun k hk => absurd hk (Nat.not_lt_zero _)⟩, ⟨rfl, fun s hs => absurd hs (Nat.not_lt_zero _), fun k hk => absurd hk (Nat.not_lt_zero _)⟩, fun i _ => ⟨rfl, rfl, fun s hs => absurd hs (Nat.not_lt_zero _), fun k hk => absurd hk (Nat.not_lt_zero _)⟩, ⟨rfl, Nat.zero_le _, fun k hk => absurd hk (Nat.not_lt_zero _)⟩, ⟨false, 0, 0, rfl, rfl, Nat.zero_le _, rfl, Nat.zero_le _, fun q => ?_, fun q => ?_⟩, rfl, ⟨⟨fun k hk => absurd hk (Nat.not_lt_zero _), fun s k hs => absurd hs (Nat.not_lt_zero _)⟩, fun i _ => ⟨fun s k hs => absurd hs (Nat.not_lt_zero _), fun k hk => absurd hk (Nat.not_lt_zero _)⟩⟩⟩
  · rw [if_neg (fun z => Bool.false_ne_true z.1)]
    exact hMov_0.1
  · rw [if_neg (fun z => Bool.false_ne_true z.1)]
    exact hMov_0.2