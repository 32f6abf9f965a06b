/-! the desk: addresses (0 tape, 1 text, 2 spare text, 3 genome, 4 spare genome, 5 and 6 the sheets, 7 the spare one) and what lies there -/
abbrev dV : Type := (Nat → Nat) × (Nat → tS) × (Nat → gV) × (Nat → sV) × (Nat → eV) × (Nat → Int32) × hV × Int32
abbrev dA (v : dV) : Nat → Nat := v.1
abbrev dT (v : dV) : Nat → tS := v.2.1
abbrev dG (v : dV) : Nat → gV := v.2.2.1
abbrev dZ (v : dV) : Nat → sV := v.2.2.2.1
abbrev dW (v : dV) : Nat → eV := v.2.2.2.2.1
abbrev dJ (v : dV) : Nat → Int32 := v.2.2.2.2.2.1
abbrev dH (v : dV) : hV := v.2.2.2.2.2.2.1
abbrev dF (v : dV) : Int32 := v.2.2.2.2.2.2.2
abbrev xA (v : dV) (x : Nat → Nat) : dV := (x, v.2)
abbrev xT (v : dV) (x : Nat → tS) : dV := (v.1, x, v.2.2)
abbrev xG (v : dV) (x : Nat → gV) : dV := (v.1, v.2.1, x, v.2.2.2)
abbrev xZ (v : dV) (x : Nat → sV) : dV := (v.1, v.2.1, v.2.2.1, x, v.2.2.2.2)
abbrev xW (v : dV) (x : Nat → eV) : dV := (v.1, v.2.1, v.2.2.1, v.2.2.2.1, x, v.2.2.2.2.2)
abbrev xJ (v : dV) (x : Nat → Int32) : dV := (v.1, v.2.1, v.2.2.1, v.2.2.2.1, v.2.2.2.2.1, x, v.2.2.2.2.2.2)
abbrev xH (v : dV) (x : hV) : dV := (v.1, v.2.1, v.2.2.1, v.2.2.2.1, v.2.2.2.2.1, v.2.2.2.2.2.1, x, v.2.2.2.2.2.2.2)
abbrev xF (v : dV) (x : Int32) : dV := (v.1, v.2.1, v.2.2.1, v.2.2.2.1, v.2.2.2.2.1, v.2.2.2.2.2.1, v.2.2.2.2.2.2.1, x)
abbrev dC (D : Nat) (A : Nat → Nat) (F : Int32) : aC := .inr (9, [.ref (D + 1), .ref (D + 25), .ref (D + 1301), .ref (D + 1317), .ref (A 1), .ref (A 2), .ref (A 3), .ref (A 4), .ref (A 7), .int F])
abbrev sA (A : Nat → Nat) : aC := .inl (5, 2, .inr (.inr (.inr (.inr (fun k => if k < 2 then some (A (5 + k)) else none)))))
abbrev jC (D : Nat) : aC := .inr (4, [.ref (D + 1301 + 1), .ref (D + 1301 + 8), .ref (D + 1301 + 15)])
def dX (D : Nat) (x : Nat) : Prop := (∃ i, i < 60 ∧ x = D + 31 + 7 * i) ∨ (∃ i, i < 60 ∧ x = D + 456 + 7 * i) ∨ (∃ i, i < 60 ∧ x = D + 881 + 7 * i) ∨ x = D + 1302 ∨ x = D + 1309
theorem dX_in {D x : Nat} (h : dX D x) : (D + 31 ≤ x ∧ x + 6 ≤ D + 450) ∨ (D + 456 ≤ x ∧ x + 6 ≤ D + 875) ∨ (D + 881 ≤ x ∧ x + 6 ≤ D + 1300) ∨ x = D + 1302 ∨ x = D + 1309 := by
  rcases h with ⟨i, h1, h2⟩ | ⟨i, h1, h2⟩ | ⟨i, h1, h2⟩ | h | h <;> omega
theorem dX_ap {D : Nat} : apA (dX D) := by
  intro x y hx hy hn
  rcases hx with ⟨i, h1, h2⟩ | ⟨i, h1, h2⟩ | ⟨i, h1, h2⟩ | h | h <;> rcases hy with ⟨j, h3, h4⟩ | ⟨j, h3, h4⟩ | ⟨j, h3, h4⟩ | h3 | h3 <;> omega
def dAd (D : Nat) (A : Nat → Nat) : Prop := A 0 = D + 1 ∧ (A 1 = D + 3 ∧ A 2 = D + 5 ∨ A 1 = D + 5 ∧ A 2 = D + 3) ∧ (A 3 = D + 7 ∧ A 4 = D + 16 ∨ A 3 = D + 16 ∧ A 4 = D + 7) ∧ (A 5 = D + 26 ∨ A 5 = D + 451 ∨ A 5 = D + 876) ∧ (A 6 = D + 26 ∨ A 6 = D + 451 ∨ A 6 = D + 876) ∧ (A 7 = D + 26 ∨ A 7 = D + 451 ∨ A 7 = D + 876) ∧ A 5 ≠ A 6 ∧ A 5 ≠ A 7 ∧ A 6 ≠ A 7
theorem dAd_T {D : Nat} {A : Nat → Nat} (h : dAd D A) {i : Nat} (hi : i < 3) : A i = D + 1 ∨ A i = D + 3 ∨ A i = D + 5 := by
  obtain ⟨h0, h1, -⟩ := h
  rcases (show i = 0 ∨ i = 1 ∨ i = 2 by omega) with e | e | e <;> subst e <;> omega
theorem dAd_G {D : Nat} {A : Nat → Nat} (h : dAd D A) {i : Nat} (hi : i < 2) : A (3 + i) = D + 7 ∨ A (3 + i) = D + 16 := by
  obtain ⟨-, -, h2, -⟩ := h
  rcases (show i = 0 ∨ i = 1 by omega) with e | e <;> subst e
  · exact (by omega : A 3 = D + 7 ∨ A 3 = D + 16)
  · exact (by omega : A 4 = D + 7 ∨ A 4 = D + 16)
theorem dAd_Z {D : Nat} {A : Nat → Nat} (h : dAd D A) {i : Nat} (hi : i < 3) : A (5 + i) = D + 26 ∨ A (5 + i) = D + 451 ∨ A (5 + i) = D + 876 := by
  obtain ⟨-, -, -, h5, h6, h7, -⟩ := h
  rcases (show i = 0 ∨ i = 1 ∨ i = 2 by omega) with e | e | e <;> subst e
  · exact h5
  · exact h6
  · exact h7
theorem dAd_T2 {D : Nat} {A : Nat → Nat} (h : dAd D A) {i j : Nat} (hi : i < 3) (hj : j < 3) (hn : i ≠ j) : A i + 1 < A j ∨ A j + 1 < A i := by
  obtain ⟨h0, h1, -⟩ := h
  rcases (show i = 0 ∨ i = 1 ∨ i = 2 by omega) with e | e | e <;> rcases (show j = 0 ∨ j = 1 ∨ j = 2 by omega) with e2 | e2 | e2 <;> subst e <;> subst e2 <;> omega
theorem dAd_G2 {D : Nat} {A : Nat → Nat} (h : dAd D A) {i j : Nat} (hi : i < 2) (hj : j < 2) (hn : i ≠ j) : A (3 + i) + 8 < A (3 + j) ∨ A (3 + j) + 8 < A (3 + i) := by
  obtain ⟨-, -, h2, -⟩ := h
  rcases (show (i = 0 ∧ j = 1) ∨ (i = 1 ∧ j = 0) by omega) with ⟨e, e2⟩ | ⟨e, e2⟩ <;> subst e <;> subst e2
  · exact (by omega : A 3 + 8 < A 4 ∨ A 4 + 8 < A 3)
  · exact (by omega : A 4 + 8 < A 3 ∨ A 3 + 8 < A 4)
theorem dAd_Z2 {D : Nat} {A : Nat → Nat} (h : dAd D A) {i j : Nat} (hi : i < 3) (hj : j < 3) (hn : i ≠ j) : A (5 + i) + 424 < A (5 + j) ∨ A (5 + j) + 424 < A (5 + i) := by
  obtain ⟨-, -, -, h5, h6, h7, h8, h9, h10⟩ := h
  rcases (show (i = 0 ∧ j = 1) ∨ (i = 0 ∧ j = 2) ∨ (i = 1 ∧ j = 0) ∨ (i = 1 ∧ j = 2) ∨ (i = 2 ∧ j = 0) ∨ (i = 2 ∧ j = 1) by omega) with ⟨e, e2⟩ | ⟨e, e2⟩ | ⟨e, e2⟩ | ⟨e, e2⟩ | ⟨e, e2⟩ | ⟨e, e2⟩ <;> subst e <;> subst e2
  · exact (by omega : A 5 + 424 < A 6 ∨ A 6 + 424 < A 5)
  · exact (by omega : A 5 + 424 < A 7 ∨ A 7 + 424 < A 5)
  · exact (by omega : A 6 + 424 < A 5 ∨ A 5 + 424 < A 6)
  · exact (by omega : A 6 + 424 < A 7 ∨ A 7 + 424 < A 6)
  · exact (by omega : A 7 + 424 < A 5 ∨ A 5 + 424 < A 7)
  · exact (by omega : A 7 + 424 < A 6 ∨ A 6 + 424 < A 7)

theorem o_cong {f f' : aH} {a : Nat} {s : tS} (h : oP f a s) (e : ∀ b, a ≤ b → b ≤ a + 1 → f' b = f b) : oP f' a s := ⟨⟨(e _ (by omega) (by omega)).trans h.1.1, (e _ (by omega) (by omega)).trans h.1.2⟩, h.2⟩
theorem gn_cong {f f' : aH} {a : Nat} {g : gV} (h : gnP f a g) (e : ∀ b, a ≤ b → b ≤ a + 8 → f' b = f b) : gnP f' a g := by
  obtain ⟨h0, h1, h2, h3, h4, h5, h6, h7, h8⟩ := h
  exact ⟨(e _ (by omega) (by omega)).trans h0, (e _ (by omega) (by omega)).trans h1, (e _ (by omega) (by omega)).trans h2, (e _ (by omega) (by omega)).trans h3, (e _ (by omega) (by omega)).trans h4, (e _ (by omega) (by omega)).trans h5, (e _ (by omega) (by omega)).trans h6, (e _ (by omega) (by omega)).trans h7, (e _ (by omega) (by omega)).trans h8⟩
theorem sh_cong {f f' : aH} {a : Nat} {g : sV} (h : shP f a g) (e : ∀ b, a ≤ b → b ≤ a + 4 → f' b = f b) : shP f' a g := by
  obtain ⟨h0, h1, h2, h3, h4⟩ := h
  exact ⟨(e _ (by omega) (by omega)).trans h0, (e _ (by omega) (by omega)).trans h1, (e _ (by omega) (by omega)).trans h2, (e _ (by omega) (by omega)).trans h3, (e _ (by omega) (by omega)).trans h4⟩
theorem en_cong {f f' : aH} {a : Nat} {g : eV} (h : enP f a g) (e : ∀ b, a ≤ b → b ≤ a + 6 → f' b = f b) : enP f' a g := by
  obtain ⟨h0, h1, h2, h3, h4, h5, h6⟩ := h
  exact ⟨(e _ (by omega) (by omega)).trans h0, (e _ (by omega) (by omega)).trans h1, (e _ (by omega) (by omega)).trans h2, (e _ (by omega) (by omega)).trans h3, (e _ (by omega) (by omega)).trans h4, (e _ (by omega) (by omega)).trans h5, (e _ (by omega) (by omega)).trans h6⟩
theorem ha_cong {f f' : aH} {a : Nat} {g : hV} (h : haP f a g) (e : ∀ b, a ≤ b → b ≤ a + 5 → f' b = f b) : haP f' a g := by
  obtain ⟨h0, h1, h2, h3, h4, h5⟩ := h
  exact ⟨(e _ (by omega) (by omega)).trans h0, (e _ (by omega) (by omega)).trans h1, (e _ (by omega) (by omega)).trans h2, (e _ (by omega) (by omega)).trans h3, (e _ (by omega) (by omega)).trans h4, (e _ (by omega) (by omega)).trans h5⟩
def dkP (f : aH) (D : Nat) (x : dV) : Prop := f D = dC D (dA x) (dF x) ∧ f (D + 25) = sA (dA x) ∧ (∀ i, i < 3 → oP f (dA x i) (dT x i)) ∧ (∀ i, i < 2 → gnP f (dA x (3 + i)) (dG x i)) ∧ (∀ i, i < 3 → shP f (dA x (5 + i)) (dZ x i)) ∧ esP f (dX D) (dW x) ∧ f (D + 1301) = jC D ∧ f (D + 1301 + 15) = joC (dJ x) ∧ haP f (D + 1317) (dH x)
/-- the desk at D is x, and nothing else that was there (below t) has changed since f0 -/
def dkF (D t : Nat) (f0 f : aH) (x : dV) : Prop := dkP f D x ∧ ∀ b, b < t → (b < D ∨ D + 1322 < b) → f b = f0 b
theorem dkF_0 {D t : Nat} {f : aH} {x : dV} (h : dkP f D x) : dkF D t f f x := ⟨h, fun _ _ _ => rfl⟩
theorem noX {D b : Nat} (h : b < D + 31 ∨ b = D + 1301 ∨ D + 1316 ≤ b ∨ (D + 451 ≤ b ∧ b ≤ D + 455) ∨ (D + 876 ≤ b ∧ b ≤ D + 880)) : ¬ esB (dX D) b := no_es fun x hx => by
  have := dX_in hx
  omega
theorem noX2 {D b : Nat} {A : Nat → Nat} {i : Nat} (hA : dAd D A) (hi : i < 3) (h1 : A (5 + i) ≤ b) (h2 : b ≤ A (5 + i) + 4) : ¬ esB (dX D) b := noX (by have := dAd_Z hA hi; omega)
theorem dXZ {D x : Nat} {A : Nat → Nat} {i : Nat} (hA : dAd D A) (hi : i < 3) (h : dX D x) : x + 6 < A (5 + i) ∨ A (5 + i) + 4 < x := by
  have := dAd_Z hA hi
  have := dX_in h
  omega
theorem dSe {D : Nat} {A : Nat → Nat} {i : Nat} (hA : dAd D A) (hi : i < 3) : seA (dX D) (A (5 + i)) := ⟨dX_ap, fun _ hx => dXZ hA hi hx⟩

theorem dk_T {D t : Nat} {f0 f : aH} {x : dV} {j : Nat} {u : tS} (hA : dAd D (dA x)) (h : dkF D t f0 f x) (hj : j < 3) (hu : u.1 ≤ 8000) : dkF D t f0 (oS f (dA x j) u) (xT x (va_up (dT x) j u)) := by
  obtain ⟨⟨c0, c1, hT, hG, hZ, hW, j0, j1, hH⟩, hF⟩ := h
  have ha := dAd_T hA hj
  refine ⟨⟨?_, ?_, ?_, ?_, ?_, ?_, ?_, ?_, ?_⟩, ?_⟩
  · exact (oS_ne (by omega) (by omega)).trans c0
  · exact (oS_ne (by omega) (by omega)).trans c1
  · intro i hi
    have a1 := dAd_T hA hi
    by_cases e : i = j
    · subst e
      show oP _ (dA x i) (va_up (dT x) i u i)
      rw [va_up_self]
      exact oP_S hu
    · have a2 := dAd_T2 hA hi hj e
      show oP _ (dA x i) (va_up (dT x) j u i)
      rw [va_up_ne _ _ e]
      exact o_cong (hT i hi) (fun b q1 q2 => oS_ne (by omega) (by omega))
  · intro i hi
    have a1 := dAd_G hA hi
    show gnP _ (dA x (3 + i)) (dG x i)
    exact gn_cong (hG i hi) (fun b q1 q2 => oS_ne (by omega) (by omega))
  · intro i hi
    have a1 := dAd_Z hA hi
    show shP _ (dA x (5 + i)) (dZ x i)
    exact sh_cong (hZ i hi) (fun b q1 q2 => oS_ne (by omega) (by omega))
  · intro y hy
    have a1 := dX_in hy
    exact en_cong (hW y hy) (fun b q1 q2 => oS_ne (by omega) (by omega))
  · exact (oS_ne (by omega) (by omega)).trans j0
  · exact (oS_ne (by omega) (by omega)).trans j1
  · exact ha_cong hH (fun b q1 q2 => oS_ne (by omega) (by omega))
  · intro b q1 q2
    exact (oS_ne (by omega) (by omega)).trans (hF b q1 q2)

theorem dk_G {D t : Nat} {f0 f : aH} {x : dV} {j : Nat} {u : gV} (hA : dAd D (dA x)) (h : dkF D t f0 f x) (hj : j < 2) : dkF D t f0 (gnS f (dA x (3 + j)) u) (xG x (va_up (dG x) j u)) := by
  obtain ⟨⟨c0, c1, hT, hG, hZ, hW, j0, j1, hH⟩, hF⟩ := h
  have ha := dAd_G hA hj
  refine ⟨⟨?_, ?_, ?_, ?_, ?_, ?_, ?_, ?_, ?_⟩, ?_⟩
  · exact (gnS_ne (by omega)).trans c0
  · exact (gnS_ne (by omega)).trans c1
  · intro i hi
    have a1 := dAd_T hA hi
    show oP _ (dA x i) (dT x i)
    exact o_cong (hT i hi) (fun b q1 q2 => gnS_ne (by omega))
  · intro i hi
    have a1 := dAd_G hA hi
    by_cases e : i = j
    · subst e
      show gnP _ (dA x (3 + i)) (va_up (dG x) i u i)
      rw [va_up_self]
      exact gnP_S _ _ _
    · have a2 := dAd_G2 hA hi hj e
      show gnP _ (dA x (3 + i)) (va_up (dG x) j u i)
      rw [va_up_ne _ _ e]
      exact gn_cong (hG i hi) (fun b q1 q2 => gnS_ne (by omega))
  · intro i hi
    have a1 := dAd_Z hA hi
    show shP _ (dA x (5 + i)) (dZ x i)
    exact sh_cong (hZ i hi) (fun b q1 q2 => gnS_ne (by omega))
  · intro y hy
    have a1 := dX_in hy
    exact en_cong (hW y hy) (fun b q1 q2 => gnS_ne (by omega))
  · exact (gnS_ne (by omega)).trans j0
  · exact (gnS_ne (by omega)).trans j1
  · exact ha_cong hH (fun b q1 q2 => gnS_ne (by omega))
  · intro b q1 q2
    exact (gnS_ne (by omega)).trans (hF b q1 q2)

theorem dk_Z {D t : Nat} {f0 f : aH} {x : dV} {j : Nat} {u : sV} (hA : dAd D (dA x)) (h : dkF D t f0 f x) (hj : j < 3) : dkF D t f0 (shS f (dA x (5 + j)) u) (xZ x (va_up (dZ x) j u)) := by
  obtain ⟨⟨c0, c1, hT, hG, hZ, hW, j0, j1, hH⟩, hF⟩ := h
  have ha := dAd_Z hA hj
  refine ⟨⟨?_, ?_, ?_, ?_, ?_, ?_, ?_, ?_, ?_⟩, ?_⟩
  · exact (shS_ne (by omega)).trans c0
  · exact (shS_ne (by omega)).trans c1
  · intro i hi
    have a1 := dAd_T hA hi
    show oP _ (dA x i) (dT x i)
    exact o_cong (hT i hi) (fun b q1 q2 => shS_ne (by omega))
  · intro i hi
    have a1 := dAd_G hA hi
    show gnP _ (dA x (3 + i)) (dG x i)
    exact gn_cong (hG i hi) (fun b q1 q2 => shS_ne (by omega))
  · intro i hi
    have a1 := dAd_Z hA hi
    by_cases e : i = j
    · subst e
      show shP _ (dA x (5 + i)) (va_up (dZ x) i u i)
      rw [va_up_self]
      exact shP_S _ _ _
    · have a2 := dAd_Z2 hA hi hj e
      show shP _ (dA x (5 + i)) (va_up (dZ x) j u i)
      rw [va_up_ne _ _ e]
      exact sh_cong (hZ i hi) (fun b q1 q2 => shS_ne (by omega))
  · intro y hy
    have a1 := dX_in hy
    exact en_cong (hW y hy) (fun b q1 q2 => shS_ne (by omega))
  · exact (shS_ne (by omega)).trans j0
  · exact (shS_ne (by omega)).trans j1
  · exact ha_cong hH (fun b q1 q2 => shS_ne (by omega))
  · intro b q1 q2
    exact (shS_ne (by omega)).trans (hF b q1 q2)

theorem dk_W {D t : Nat} {f0 f : aH} {x : dV} {j : Nat} {u : sV} {U : Nat → eV} (hA : dAd D (dA x)) (h : dkF D t f0 f x) (hj : j < 3) : dkF D t f0 (seS f (dX D) U (dA x (5 + j)) u) (xW (xZ x (va_up (dZ x) j u)) U) := by
  obtain ⟨⟨c0, c1, hT, hG, hZ, hW, j0, j1, hH⟩, hF⟩ := h
  have ha := dAd_Z hA hj
  refine ⟨⟨?_, ?_, ?_, ?_, ?_, ?_, ?_, ?_, ?_⟩, ?_⟩
  · exact (seS_ne (noX (by omega)) (by omega)).trans c0
  · exact (seS_ne (noX (by omega)) (by omega)).trans c1
  · intro i hi
    have a1 := dAd_T hA hi
    show oP _ (dA x i) (dT x i)
    exact o_cong (hT i hi) (fun b q1 q2 => seS_ne (noX (by omega)) (by omega))
  · intro i hi
    have a1 := dAd_G hA hi
    show gnP _ (dA x (3 + i)) (dG x i)
    exact gn_cong (hG i hi) (fun b q1 q2 => seS_ne (noX (by omega)) (by omega))
  · intro i hi
    have a1 := dAd_Z hA hi
    by_cases e : i = j
    · subst e
      show shP _ (dA x (5 + i)) (va_up (dZ x) i u i)
      rw [va_up_self]
      exact shP_S _ _ _
    · have a2 := dAd_Z2 hA hi hj e
      show shP _ (dA x (5 + i)) (va_up (dZ x) j u i)
      rw [va_up_ne _ _ e]
      exact sh_cong (hZ i hi) (fun b q1 q2 => seS_ne (noX (by omega)) (by omega))
  · intro y hy
    exact (seP_S (dSe hA hj)).2 y hy
  · exact (seS_ne (noX (by omega)) (by omega)).trans j0
  · exact (seS_ne (noX (by omega)) (by omega)).trans j1
  · exact ha_cong hH (fun b q1 q2 => seS_ne (noX (by omega)) (by omega))
  · intro b q1 q2
    exact (seS_ne (noX (by omega)) (by omega)).trans (hF b q1 q2)

theorem dk_H {D t : Nat} {f0 f : aH} {x : dV} {u : hV} (hA : dAd D (dA x)) (h : dkF D t f0 f x)  : dkF D t f0 (haS f (D + 1317) u) (xH x u) := by
  obtain ⟨⟨c0, c1, hT, hG, hZ, hW, j0, j1, hH⟩, hF⟩ := h
  refine ⟨⟨?_, ?_, ?_, ?_, ?_, ?_, ?_, ?_, ?_⟩, ?_⟩
  · exact (haS_ne (by omega)).trans c0
  · exact (haS_ne (by omega)).trans c1
  · intro i hi
    have a1 := dAd_T hA hi
    show oP _ (dA x i) (dT x i)
    exact o_cong (hT i hi) (fun b q1 q2 => haS_ne (by omega))
  · intro i hi
    have a1 := dAd_G hA hi
    show gnP _ (dA x (3 + i)) (dG x i)
    exact gn_cong (hG i hi) (fun b q1 q2 => haS_ne (by omega))
  · intro i hi
    have a1 := dAd_Z hA hi
    show shP _ (dA x (5 + i)) (dZ x i)
    exact sh_cong (hZ i hi) (fun b q1 q2 => haS_ne (by omega))
  · intro y hy
    have a1 := dX_in hy
    exact en_cong (hW y hy) (fun b q1 q2 => haS_ne (by omega))
  · exact (haS_ne (by omega)).trans j0
  · exact (haS_ne (by omega)).trans j1
  · exact haP_S _ _ _
  · intro b q1 q2
    exact (haS_ne (by omega)).trans (hF b q1 q2)

theorem dk_n {D t : Nat} {f0 f : aH} {x : dV} {c : aC} {q : Nat} (hA : dAd D (dA x)) (h : dkF D t f0 f x) (hq : t ≤ q) (ht : D + 1322 < t) : dkF D t f0 (va_up f q c) (x) := by
  obtain ⟨⟨c0, c1, hT, hG, hZ, hW, j0, j1, hH⟩, hF⟩ := h
  refine ⟨⟨?_, ?_, ?_, ?_, ?_, ?_, ?_, ?_, ?_⟩, ?_⟩
  · exact (va_up_ne _ _ (by omega)).trans c0
  · exact (va_up_ne _ _ (by omega)).trans c1
  · intro i hi
    have a1 := dAd_T hA hi
    show oP _ (dA x i) (dT x i)
    exact o_cong (hT i hi) (fun b q1 q2 => va_up_ne _ _ (by omega))
  · intro i hi
    have a1 := dAd_G hA hi
    show gnP _ (dA x (3 + i)) (dG x i)
    exact gn_cong (hG i hi) (fun b q1 q2 => va_up_ne _ _ (by omega))
  · intro i hi
    have a1 := dAd_Z hA hi
    show shP _ (dA x (5 + i)) (dZ x i)
    exact sh_cong (hZ i hi) (fun b q1 q2 => va_up_ne _ _ (by omega))
  · intro y hy
    have a1 := dX_in hy
    exact en_cong (hW y hy) (fun b q1 q2 => va_up_ne _ _ (by omega))
  · exact (va_up_ne _ _ (by omega)).trans j0
  · exact (va_up_ne _ _ (by omega)).trans j1
  · exact ha_cong hH (fun b q1 q2 => va_up_ne _ _ (by omega))
  · intro b q1 q2
    exact (va_up_ne _ _ (by omega)).trans (hF b q1 q2)

theorem dk_F {D t : Nat} {f0 f : aH} {x : dV} {q : Int32} (hA : dAd D (dA x)) (h : dkF D t f0 f x)  : dkF D t f0 (va_up f D (dC D (dA x) q)) (xF x q) := by
  obtain ⟨⟨c0, c1, hT, hG, hZ, hW, j0, j1, hH⟩, hF⟩ := h
  refine ⟨⟨?_, ?_, ?_, ?_, ?_, ?_, ?_, ?_, ?_⟩, ?_⟩
  · exact va_up_self _ _ _
  · exact (va_up_ne _ _ (by omega)).trans c1
  · intro i hi
    have a1 := dAd_T hA hi
    show oP _ (dA x i) (dT x i)
    exact o_cong (hT i hi) (fun b q1 q2 => va_up_ne _ _ (by omega))
  · intro i hi
    have a1 := dAd_G hA hi
    show gnP _ (dA x (3 + i)) (dG x i)
    exact gn_cong (hG i hi) (fun b q1 q2 => va_up_ne _ _ (by omega))
  · intro i hi
    have a1 := dAd_Z hA hi
    show shP _ (dA x (5 + i)) (dZ x i)
    exact sh_cong (hZ i hi) (fun b q1 q2 => va_up_ne _ _ (by omega))
  · intro y hy
    have a1 := dX_in hy
    exact en_cong (hW y hy) (fun b q1 q2 => va_up_ne _ _ (by omega))
  · exact (va_up_ne _ _ (by omega)).trans j0
  · exact (va_up_ne _ _ (by omega)).trans j1
  · exact ha_cong hH (fun b q1 q2 => va_up_ne _ _ (by omega))
  · intro b q1 q2
    exact (va_up_ne _ _ (by omega)).trans (hF b q1 q2)

theorem dk_2 {D t : Nat} {f0 f : aH} {x : dV} {j k : Nat} {u w : sV} {U : Nat → eV} (hA : dAd D (dA x)) (h : dkF D t f0 f x) (hj : j < 3) (hk : k < 3) (hjk : j ≠ k) (hds : dsA (dX D) (dA x (5 + j)) (dA x (5 + k))) : dkF D t f0 (dsS f (dX D) U (dA x (5 + j)) u (dA x (5 + k)) w) (xW (xZ x (va_up (va_up (dZ x) k w) j u)) U) := by
  obtain ⟨⟨c0, c1, hT, hG, hZ, hW, j0, j1, hH⟩, hF⟩ := h
  have ha := dAd_Z hA hj
  have hb := dAd_Z hA hk
  refine ⟨⟨?_, ?_, ?_, ?_, ?_, ?_, ?_, ?_, ?_⟩, ?_⟩
  · exact (dsS_ne (noX (by omega)) (by omega) (by omega)).trans c0
  · exact (dsS_ne (noX (by omega)) (by omega) (by omega)).trans c1
  · intro i hi
    have a1 := dAd_T hA hi
    show oP _ (dA x i) (dT x i)
    exact o_cong (hT i hi) (fun b q1 q2 => dsS_ne (noX (by omega)) (by omega) (by omega))
  · intro i hi
    have a1 := dAd_G hA hi
    show gnP _ (dA x (3 + i)) (dG x i)
    exact gn_cong (hG i hi) (fun b q1 q2 => dsS_ne (noX (by omega)) (by omega) (by omega))
  · intro i hi
    have a1 := dAd_Z hA hi
    by_cases e : i = j
    · subst e
      show shP _ (dA x (5 + i)) (va_up (va_up (dZ x) k w) i u i)
      rw [va_up_self]
      exact (dsP_S hds).1.1
    · by_cases e2 : i = k
      · subst e2
        show shP _ (dA x (5 + i)) (va_up (va_up (dZ x) i w) j u i)
        rw [va_up_ne _ _ e, va_up_self]
        exact (dsP_S hds).2
      · have a2 := dAd_Z2 hA hi hj e
        have a3 := dAd_Z2 hA hi hk e2
        show shP _ (dA x (5 + i)) (va_up (va_up (dZ x) k w) j u i)
        rw [va_up_ne _ _ e, va_up_ne _ _ e2]
        exact sh_cong (hZ i hi) (fun b q1 q2 => dsS_ne (noX (by omega)) (by omega) (by omega))
  · intro y hy
    exact (dsP_S hds).1.2 y hy
  · exact (dsS_ne (noX (by omega)) (by omega) (by omega)).trans j0
  · exact (dsS_ne (noX (by omega)) (by omega) (by omega)).trans j1
  · exact ha_cong hH (fun b q1 q2 => dsS_ne (noX (by omega)) (by omega) (by omega))
  · intro b q1 q2
    exact (dsS_ne (noX (by omega)) (by omega) (by omega)).trans (hF b q1 q2)

theorem dk_J {D t : Nat} {f0 f : aH} {x : dV} {j : Nat} {u : sV} {U : Nat → eV} {g : Nat → Int32} (hA : dAd D (dA x)) (h : dkF D t f0 f x) (hj : j < 3) (hsa : saA (dX D) (dA x (5 + j)) (D + 1301)) : dkF D t f0 (saS f (dX D) U (dA x (5 + j)) u (D + 1301) g) (xJ (xW (xZ x (va_up (dZ x) j u)) U) g) := by
  obtain ⟨⟨c0, c1, hT, hG, hZ, hW, j0, j1, hH⟩, hF⟩ := h
  have ha := dAd_Z hA hj
  refine ⟨⟨?_, ?_, ?_, ?_, ?_, ?_, ?_, ?_, ?_⟩, ?_⟩
  · exact (saS_ne (noX (by omega)) (by omega) (by omega)).trans c0
  · exact (saS_ne (noX (by omega)) (by omega) (by omega)).trans c1
  · intro i hi
    have a1 := dAd_T hA hi
    show oP _ (dA x i) (dT x i)
    exact o_cong (hT i hi) (fun b q1 q2 => saS_ne (noX (by omega)) (by omega) (by omega))
  · intro i hi
    have a1 := dAd_G hA hi
    show gnP _ (dA x (3 + i)) (dG x i)
    exact gn_cong (hG i hi) (fun b q1 q2 => saS_ne (noX (by omega)) (by omega) (by omega))
  · intro i hi
    have a1 := dAd_Z hA hi
    by_cases e : i = j
    · subst e
      show shP _ (dA x (5 + i)) (va_up (dZ x) i u i)
      rw [va_up_self]
      exact (sa_se hsa).1
    · have a2 := dAd_Z2 hA hi hj e
      show shP _ (dA x (5 + i)) (va_up (dZ x) j u i)
      rw [va_up_ne _ _ e]
      exact sh_cong (hZ i hi) (fun b q1 q2 => saS_ne (noX (by omega)) (by omega) (by omega))
  · intro y hy
    exact (sa_se hsa).2 y hy
  · exact (saS_ne (noX (by omega)) (by omega) (by omega)).trans j0
  · exact va_up_self _ _ _
  · exact ha_cong hH (fun b q1 q2 => saS_ne (noX (by omega)) (by omega) (by omega))
  · intro b q1 q2
    exact (saS_ne (noX (by omega)) (by omega) (by omega)).trans (hF b q1 q2)
