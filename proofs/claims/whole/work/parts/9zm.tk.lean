/-! merge, pure: the class takes all -/
theorem cnt_q {p : Nat → Bool} {a : Nat} : ∀ {b : Nat}, a ≤ b → cntN p a 0 0 ≤ cntN p b 0 0 := by
  intro b
  induction b with
  | zero => intro h; rw [show a = 0 by omega]; exact Nat.le_refl _
  | succ b ih =>
    intro h
    by_cases e : a = b + 1
    · rw [e]
      exact Nat.le_refl _
    · have := ih (by omega)
      rw [cnt_s]
      split <;> omega
theorem cnt_r {p : Nat → Bool} {a b : Nat} (h : a < b) (hp : p a = true) : cntN p a 0 0 < cntN p b 0 0 := by
  have h1 := cnt_q (p := p) (show a + 1 ≤ b by omega)
  rw [cnt_s, if_pos hp] at h1
  omega
theorem tkL1_f {e : Nat → Nat} {k K n : Nat} {U0 : Nat → eV} (hi : ∀ a b, a < n → b < n → a ≠ b → e a ≠ e b) : ∀ (d i : Nat) (U : Nat → eV), i + d = n → (∀ a, a < i → U (e a) = eNoCs (K - k) k (U0 (e a))) → (∀ y, (∀ a, a < i → y ≠ e a) → U y = U0 y) → (∀ a, a < n → tkL1 e k K d i U (e a) = eNoCs (K - k) k (U0 (e a))) ∧ ∀ y, (∀ a, a < n → y ≠ e a) → tkL1 e k K d i U y = U0 y := by
  intro d
  induction d with
  | zero =>
    intro i U h h1 h2
    have e0 : i = n := by omega
    subst e0
    exact ⟨h1, h2⟩
  | succ d ih =>
    intro i U h h1 h2
    refine ih (i + 1) _ (by omega) (fun a ha => ?_) (fun y hy => ?_)
    · by_cases c : a = i
      · rw [c, va_up_self, h2 (e i) (fun b hb z => hi i b (by omega) (by omega) (by omega) z)]
      · rw [va_up_ne _ _ (hi a i (by omega) (by omega) c)]
        exact h1 a (by omega)
    · rw [va_up_ne _ _ (hy i (by omega))]
      exact h2 y (fun a ha => hy a (by omega))
/-- the state of the taking at record J of the other table -/
def tkJ (U : Nat → eV) (e u : Nat → Nat) (n k m J : Nat) (x : tkV) : Prop :=
  x.2.2.2 = n + cntN (fun j => decide (ePr (U (u j)) = -1)) J 0 0 ∧ (∀ i, i < n → x.2.1 i = e i) ∧ (∀ j, j < J → ePr (U (u j)) = -1 → x.2.1 (n + cntN (fun j => decide (ePr (U (u j)) = -1)) j 0 0) = u j) ∧ (∀ j, J ≤ j → j < 60 → x.2.2.1 j = u j) ∧ (∀ i, i < n → (∃ j, j < J ∧ ePr (U (u j)) = nI i ∧ x.1 (e i) = mgB k m (U (e i)) (U (u j))) ∨ ((∀ j, j < J → ¬ ePr (U (u j)) = nI i) ∧ x.1 (e i) = mgA k m (U (e i)))) ∧ (∀ j, j < J → ePr (U (u j)) = -1 → x.1 (u j) = mgC k m (U (u j))) ∧ (∀ j, J ≤ j → j < 60 → x.1 (u j) = U (u j)) ∧ (∀ a, a < 60 → ∃ b, b < 60 ∧ (x.2.1 a = e b ∨ x.2.1 a = u b)) ∧ ∀ a, a < 60 → ∃ b, b < 60 ∧ (x.2.2.1 a = e b ∨ x.2.2.1 a = u b)
theorem tkS_J {U : Nat → eV} {e u : Nat → Nat} {n k m nw J : Nat} {x : tkV} (hn : n ≤ 60) (hw : nw ≤ 60) (hd : sDj e u) (hp : ∀ j, j < nw → ePr (U (u j)) = -1 ∨ ∃ i, i < n ∧ ePr (U (u j)) = nI i) (hq : ∀ i j l, i < n → j < nw → l < nw → ePr (U (u j)) = nI i → ePr (U (u l)) = nI i → j = l) (hz : n + cntN (fun j => decide (ePr (U (u j)) = -1)) nw 0 0 ≤ 60) (hJ : J < nw) (h : tkJ U e u n k m J x) : tkJ U e u n k m (J + 1) (tkS k m J x) := by
  obtain ⟨a1, a2, a3, a4, a5, a6, a7, a8, a9⟩ := h
  have eu : ∀ i j, i < 60 → j < 60 → e i ≠ u j := fun i j hi hj => (hd i j hi hj).2
  have uu : ∀ i j, i < 60 → j < 60 → i ≠ j → u i ≠ u j := fun i j hi hj hne => ((hd i j hi hj).1 hne).2
  have ee : ∀ i j, i < 60 → j < 60 → i ≠ j → e i ≠ e j := fun i j hi hj hne => ((hd i j hi hj).1 hne).1
  have hs := cnt_s (p := fun j => decide (ePr (U (u j)) = -1)) (n := J)
  have hle := cnt_q (p := fun j => decide (ePr (U (u j)) = -1)) (Nat.le_of_lt hJ)
  unfold tkS
  rw [a4 J (Nat.le_refl _) (by omega), a7 J (Nat.le_refl _) (by omega)]
  rcases hp J hJ with h1 | ⟨i0, i1, i2⟩
  · rw [if_pos (Or.inl (by rw [h1]; decide))]
    have hlt := cnt_r (p := fun j => decide (ePr (U (u j)) = -1)) hJ (decide_eq_true h1)
    rw [if_pos (by omega)]
    rw [if_pos (decide_eq_true h1)] at hs
    refine ⟨by show x.2.2.2 + 1 = _; omega, fun i hi => ?_, fun j hj hx => ?_, fun j h2 h3 => ?_, fun i hi => ?_, fun j hj hx => ?_, fun j h2 h3 => ?_, fun a ha => ?_, fun a ha => ?_⟩
    · show va_up x.2.1 x.2.2.2 (u J) i = _
      rw [va_up_ne _ _ (by omega)]
      exact a2 i hi
    · show va_up x.2.1 x.2.2.2 (u J) _ = _
      by_cases c : j = J
      · rw [c, ← a1, va_up_self]
      · have h5 := cnt_r (p := fun j => decide (ePr (U (u j)) = -1)) (show j < J by omega) (decide_eq_true hx)
        rw [va_up_ne _ _ (by omega)]
        exact a3 j (by omega) hx
    · show va_up x.2.2.1 J _ j = _
      rw [va_up_ne _ _ (by omega)]
      exact a4 j (by omega) h3
    · show (∃ j, j < J + 1 ∧ ePr (U (u j)) = nI i ∧ va_up x.1 (u J) _ (e i) = _) ∨ (_ ∧ va_up x.1 (u J) _ (e i) = _)
      rw [va_up_ne _ _ (eu i J (by omega) (by omega))]
      rcases a5 i hi with ⟨j, j1, j2⟩ | ⟨j1, j2⟩
      · exact Or.inl ⟨j, by omega, j2⟩
      · refine Or.inr ⟨fun j hj z => ?_, j2⟩
        by_cases c : j = J
        · rw [c, h1] at z
          exact nI_m1 (by omega) z.symm
        · exact j1 j (by omega) z
    · show va_up x.1 (u J) _ (u j) = _
      by_cases c : j = J
      · rw [c, va_up_self]
        rfl
      · rw [va_up_ne _ _ (uu j J (by omega) (by omega) c)]
        exact a6 j (by omega) hx
    · show va_up x.1 (u J) _ (u j) = _
      rw [va_up_ne _ _ (uu j J h3 (by omega) (by omega))]
      exact a7 j (by omega) h3
    · show ∃ b, b < 60 ∧ (va_up x.2.1 x.2.2.2 (u J) a = e b ∨ va_up x.2.1 x.2.2.2 (u J) a = u b)
      by_cases c : a = x.2.2.2
      · rw [c, va_up_self]
        exact ⟨J, by omega, Or.inr rfl⟩
      · rw [va_up_ne _ _ c]
        exact a8 a ha
    · show ∃ b, b < 60 ∧ (va_up x.2.2.1 J (x.2.1 x.2.2.2) a = e b ∨ va_up x.2.2.1 J (x.2.1 x.2.2.2) a = u b)
      by_cases c : a = J
      · rw [c, va_up_self]
        exact a8 _ (by omega)
      · rw [va_up_ne _ _ c]
        exact a9 a ha
  · have hm1 : ¬ ePr (U (u J)) = -1 := by
      rw [i2]
      exact nI_m1 (by omega)
    rw [if_neg (by
      rw [i2]
      rintro (z | z)
      · exact Int32.not_lt.mpr (nI_pos' (by omega)) z
      · exact Int32.not_le.mpr (nI_lt (show i0 < x.2.2.2 by omega) (by omega)) z), i2, nI_clamp (by omega), a2 i0 i1]
    rw [if_neg (by rw [decide_eq_false hm1]; decide)] at hs
    have h9 : x.1 (e i0) = mgA k m (U (e i0)) := by
      rcases a5 i0 i1 with ⟨j, j1, j2, -⟩ | ⟨-, j2⟩
      · have := hq i0 j J i1 (by omega) hJ j2 i2
        omega
      · exact j2
    refine ⟨by show x.2.2.2 = _; omega, a2, fun j hj hx => ?_, fun j h2 h3 => a4 j (by omega) h3, fun i hi => ?_, fun j hj hx => ?_, fun j h2 h3 => ?_, a8, a9⟩
    · by_cases c : j = J
      · rw [c] at hx
        exact absurd hx hm1
      · exact a3 j (by omega) hx
    · show (∃ j, j < J + 1 ∧ ePr (U (u j)) = nI i ∧ va_up x.1 (e i0) _ (e i) = _) ∨ (_ ∧ va_up x.1 (e i0) _ (e i) = _)
      by_cases c : i = i0
      · rw [c, va_up_self, h9]
        exact Or.inl ⟨J, by omega, i2, rfl⟩
      · rw [va_up_ne _ _ (ee i i0 (by omega) (by omega) c)]
        rcases a5 i hi with ⟨j, j1, j2⟩ | ⟨j1, j2⟩
        · exact Or.inl ⟨j, by omega, j2⟩
        · refine Or.inr ⟨fun j hj z => ?_, j2⟩
          by_cases c2 : j = J
          · rw [c2, i2] at z
            exact c (nI_inj z (by omega) (by omega)).symm
          · exact j1 j (by omega) z
    · show va_up x.1 (e i0) _ (u j) = _
      rw [va_up_ne _ _ (fun z => eu i0 j (by omega) (by omega) z.symm)]
      by_cases c : j = J
      · rw [c] at hx
        exact absurd hx hm1
      · exact a6 j (by omega) hx
    · show va_up x.1 (e i0) _ (u j) = _
      rw [va_up_ne _ _ (fun z => eu i0 j (by omega) h3 z.symm)]
      exact a7 j (by omega) h3
theorem tkL_J {U : Nat → eV} {e u : Nat → Nat} {n k m nw : Nat} (hn : n ≤ 60) (hw : nw ≤ 60) (hd : sDj e u) (hp : ∀ j, j < nw → ePr (U (u j)) = -1 ∨ ∃ i, i < n ∧ ePr (U (u j)) = nI i) (hq : ∀ i j l, i < n → j < nw → l < nw → ePr (U (u j)) = nI i → ePr (U (u l)) = nI i → j = l) (hz : n + cntN (fun j => decide (ePr (U (u j)) = -1)) nw 0 0 ≤ 60) : ∀ (d J : Nat) (x : tkV), J + d = nw → tkJ U e u n k m J x → tkJ U e u n k m nw (tkL k m d J x) := by
  intro d
  induction d with
  | zero =>
    intro J x h hx
    have e0 : J = nw := by omega
    subst e0
    exact hx
  | succ d ih => intro J x h hx; exact ih (J + 1) _ (by omega) (tkS_J hn hw hd hp hq hz (by omega) hx)
/-- all taken -/
theorem tkW_J {U : Nat → eV} {v w : sV} (hv : v.2.2 ≤ 60) (hw : w.2.2 ≤ 60) (hd : sDj v.1 w.1) (hK : (nmAll 3 v.2.1 w.2.1).1 = v.2.1.1 + w.2.1.1) (hp : ∀ j, j < w.2.2 → ePr (U (w.1 j)) = -1 ∨ ∃ i, i < v.2.2 ∧ ePr (U (w.1 j)) = nI i) (hq : ∀ i j l, i < v.2.2 → j < w.2.2 → l < w.2.2 → ePr (U (w.1 j)) = nI i → ePr (U (w.1 l)) = nI i → j = l) (hz : v.2.2 + cntN (fun j => decide (ePr (U (w.1 j)) = -1)) w.2.2 0 0 ≤ 60) : tkJ U v.1 w.1 v.2.2 v.2.1.1 w.2.1.1 w.2.2 (tkW U v w) := by
  obtain ⟨h1, h2⟩ := tkL1_f (e := v.1) (k := v.2.1.1) (K := (nmAll 3 v.2.1 w.2.1).1) (n := v.2.2) (U0 := U) (fun a b ha hb hne => ((hd a b (by omega) (by omega)).1 hne).1) (v.2.2 - 0) 0 U (by omega) (fun a ha => absurd ha (Nat.not_lt_zero _)) (fun y _ => rfl)
  refine tkL_J hv hw hd hp hq hz (w.2.2 - 0) 0 _ (by omega) ⟨rfl, fun i _ => rfl, fun j hj => absurd hj (Nat.not_lt_zero _), fun j _ _ => rfl, fun i hi => Or.inr ⟨fun j hj => absurd hj (Nat.not_lt_zero _), (h1 i hi).trans ?_⟩, fun j hj => absurd hj (Nat.not_lt_zero _), fun j _ hj => h2 _ (fun a ha z => (hd a j (by omega) hj).2 z.symm), fun a ha => ⟨a, ha, Or.inl rfl⟩, fun a ha => ⟨a, ha, Or.inr rfl⟩⟩
  rw [hK, show v.2.1.1 + w.2.1.1 - v.2.1.1 = w.2.1.1 by omega]
  rfl
