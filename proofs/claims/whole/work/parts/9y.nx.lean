/-! apply, pure: the next called record -/
def nxI (w : Nat → eV) (q c s l k : Nat) (b : Option Nat) : Prop := (b = none → ∀ i, i < k → nxP w q c s l i = false) ∧ ∀ j, b = some j → j < k ∧ nxP w q c s l j = true ∧ ∀ i, i < k → nxP w q c s l i = true → ¬ ePl (w i) < ePl (w j)
theorem nxI_s {w : Nat → eV} {q c s l k : Nat} {b : Option Nat} (h : nxI w q c s l k b) : nxI w q c s l (k + 1) (nxS w q c s l k b) := by
  obtain ⟨h1, h2⟩ := h
  unfold nxS
  by_cases hp : nxP w q c s l k = true
  · rw [if_pos hp]
    cases b with
    | none =>
      refine ⟨fun z => by (cases z), fun j hj => ?_⟩
      have e : k = j := Option.some.inj hj
      subst e
      refine ⟨by omega, hp, fun i hi hq => ?_⟩
      by_cases e : i = k
      · rw [e]
        exact Int32.lt_irrefl
      · rw [h1 rfl i (by omega)] at hq
        exact Bool.noConfusion hq
    | some j0 =>
      obtain ⟨a1, a2, a3⟩ := h2 j0 rfl
      show nxI w q c s l (k + 1) (if ePl (w k) < ePl (w j0) then some k else some j0)
      by_cases hb : ePl (w k) < ePl (w j0)
      · rw [if_pos hb]
        refine ⟨fun z => by (cases z), fun j hj => ?_⟩
        have e : k = j := Option.some.inj hj
        subst e
        refine ⟨by omega, hp, fun i hi hq => ?_⟩
        by_cases e : i = k
        · rw [e]
          exact Int32.lt_irrefl
        · exact fun z => a3 i (by omega) hq (Int32.lt_trans z hb)
      · rw [if_neg hb]
        refine ⟨fun z => by (cases z), fun j hj => ?_⟩
        have e : j0 = j := Option.some.inj hj
        subst e
        refine ⟨by omega, a2, fun i hi hq => ?_⟩
        by_cases e : i = k
        · rw [e]
          exact hb
        · exact a3 i (by omega) hq
  · rw [if_neg hp]
    refine ⟨fun z i hi => ?_, fun j hj => ?_⟩
    · by_cases e : i = k
      · rw [e]
        exact Bool.eq_false_iff.mpr hp
      · exact h1 z i (by omega)
    · obtain ⟨a1, a2, a3⟩ := h2 j hj
      refine ⟨by omega, a2, fun i hi hq => ?_⟩
      by_cases e : i = k
      · rw [e] at hq
        exact absurd hq hp
      · exact a3 i (by omega) hq
theorem nxL_I {w : Nat → eV} {q c s l : Nat} : ∀ (d k : Nat) (b : Option Nat), nxI w q c s l k b → nxI w q c s l (k + d) (nxL w q c s l d k b) := by
  intro d
  induction d with
  | zero => intro k b h; exact h
  | succ d ih =>
    intro k b h
    rw [show k + (d + 1) = k + 1 + d by omega]
    exact ih (k + 1) _ (nxI_s h)
theorem nxL_0 {w : Nat → eV} {q c s l n : Nat} : nxI w q c s l n (nxL w q c s l (n - 0) 0 none) := by
  have h := nxL_I (w := w) (q := q) (c := c) (s := s) (l := l) (n - 0) 0 none ⟨fun _ i hi => absurd hi (Nat.not_lt_zero _), fun j hj => by cases hj⟩
  rw [show 0 + (n - 0) = n by omega] at h
  exact h
theorem nxP_m {w : Nat → eV} {q c s l l' : Nat} (hl : l ≤ l') (hl' : l' < 2 ^ 31) : ∀ k, (nxP w q c s l') k = true → (nxP w q c s l) k = true := by
  intro k h
  unfold nxP at h ⊢
  rw [Bool.and_eq_true, decide_eq_true_eq] at h ⊢
  refine ⟨h.1, fun z => h.2 (Int32.lt_of_lt_of_le z (nI_le hl hl'))⟩
theorem nx_1 {w : Nat → eV} {q c s l l' n r : Nat} (hl : l ≤ l') (hl' : l' < 2 ^ 31) (hr : r < n) (h1 : (nxP w q c s l) r = true) (h2 : (nxP w q c s l') r = false) : cntN (nxP w q c s l') (n - 0) 0 0 + 1 ≤ cntN (nxP w q c s l) (n - 0) 0 0 := cntN_lt (nxP_m hl hl') h2 h1 _ _ _ _ (Nat.le_refl _) (Nat.zero_le _) (by omega)
theorem nx_2 {w : Nat → eV} {q c s l l' n A B : Nat} (hl : l ≤ l') (hl' : l' < 2 ^ 31) (hA : A < n) (hB : B < n) (hne : A ≠ B) (h1 : (nxP w q c s l) A = true) (h2 : (nxP w q c s l') A = false) (h3 : (nxP w q c s l) B = true) (h4 : (nxP w q c s l') B = false) : cntN (nxP w q c s l') (n - 0) 0 0 + 2 ≤ cntN (nxP w q c s l) (n - 0) 0 0 := by
  have a1 : cntN (nxP w q c s l') (n - 0) 0 0 < cntN (fun k => (nxP w q c s l') k || decide (k = A)) (n - 0) 0 0 := cntN_lt (l := A) (fun k hk => by show ((nxP w q c s l') k || decide (k = A)) = true; rw [hk]; rfl) h2 (by show ((nxP w q c s l') A || decide (A = A)) = true; rw [decide_eq_true (rfl : A = A), Bool.or_true]) _ _ _ _ (Nat.le_refl _) (Nat.zero_le _) (by omega)
  have a2 : cntN (fun k => (nxP w q c s l') k || decide (k = A)) (n - 0) 0 0 < cntN (nxP w q c s l) (n - 0) 0 0 := by
    refine cntN_lt (l := B) (fun k hk => ?_) (show ((nxP w q c s l') B || decide (B = A)) = false by rw [h4, decide_eq_false (fun z => hne z.symm)]; rfl) h3 _ _ _ _ (Nat.le_refl _) (Nat.zero_le _) (by omega)
    replace hk : ((nxP w q c s l') k || decide (k = A)) = true := hk
    rw [Bool.or_eq_true, decide_eq_true_eq] at hk
    rcases hk with hk | hk
    · exact nxP_m hl hl' k hk
    · rw [hk]
      exact h1
  omega
theorem nxP_p {w : Nat → eV} {q c s l k p : Nat} (hp : ePl (w k) = nI p) (hp2 : p < 2 ^ 31) (hl : l < 2 ^ 31) : (nxP w q c s l) k = true ↔ clP w q c s k = true ∧ l ≤ p := by
  unfold nxP
  rw [Bool.and_eq_true, decide_eq_true_eq, hp, nI_lt9 hp2 hl]
  constructor
  · rintro ⟨a, b⟩
    exact ⟨a, by omega⟩
  · rintro ⟨a, b⟩
    exact ⟨a, by omega⟩
/-- two called records that clash are never both taken -/
def clJ (w : Nat → eV) (q c s n N pA l used : Nat) : Prop := used + cntN (nxP w q c s l) (n - 0) 0 0 ≤ N ∧ (pA < l → used + cntN (nxP w q c s l) (n - 0) 0 0 < N)
theorem clJ_s {w : Nat → eV} {q c s n N A B r l used : Nat} {pl sz : Nat → Nat} (hpl : ∀ k, k < n → clP w q c s k = true → ePl (w k) = nI (pl k) ∧ pl k + sz k < 2 ^ 31 ∧ 1 ≤ sz k) (hl : l < 2 ^ 31) (hA : A < n) (hB : B < n) (hne : A ≠ B) (cA : clP w q c s A = true) (cB : clP w q c s B = true) (h1 : pl A ≤ pl B) (h2 : pl B < pl A + sz A) (hr : r < n) (hx : (nxP w q c s l) r = true) (h : clJ w q c s n N (pl A) l used) : clJ w q c s n N (pl A) (pl r + sz r) (used + 1) := by
  obtain ⟨j1, j2⟩ := h
  have cr : clP w q c s r = true := by
    unfold nxP at hx
    rw [Bool.and_eq_true] at hx
    exact hx.1
  obtain ⟨r1, r2, r3⟩ := hpl r hr cr
  obtain ⟨a1, a2, a3⟩ := hpl A hA cA
  obtain ⟨b1, b2, b3⟩ := hpl B hB cB
  have hlr := ((nxP_p r1 (by omega) hl).mp hx).2
  have gone : ∀ k p, ePl (w k) = nI p → p < 2 ^ 31 → p < pl r + sz r → nxP w q c s (pl r + sz r) k = false := fun k p e1 e2 e3 => by
    rw [Bool.eq_false_iff]
    intro z
    have := ((nxP_p e1 e2 (by omega)).mp z).2
    omega
  have d1 := nx_1 (l' := pl r + sz r) (by omega) (by omega) hr hx (gone r _ r1 (by omega) (by omega))
  refine ⟨by omega, fun hlt => ?_⟩
  by_cases c1 : pl A < l
  · have := j2 c1
    omega
  · have xA : (nxP w q c s l) A = true := (nxP_p a1 (by omega) hl).mpr ⟨cA, by omega⟩
    by_cases e : r = A
    · subst e
      have d2 := nx_2 (l' := pl r + sz r) (by omega) (by omega) hA hB hne xA (gone r _ r1 (by omega) (by omega)) ((nxP_p b1 (by omega) hl).mpr ⟨cB, by omega⟩) (gone B _ b1 (by omega) (by omega))
      omega
    · have d2 := nx_2 (l' := pl r + sz r) (by omega) (by omega) hr hA e hx (gone r _ r1 (by omega) (by omega)) xA (gone A _ a1 (by omega) (by omega))
      omega
/-- where nothing clashes the next called record is the next chosen one -/
theorem nx_ch {w : Nat → eV} {q c s n k l : Nat} {pl sz : Nat → Nat} {x : (Nat → Nat) × Nat} (hpl : ∀ k, k < n → clP w q c s k = true → ePl (w k) = nI (pl k) ∧ pl k + sz k < 2 ^ 31 ∧ 1 ≤ sz k) (hl : l < 2 ^ 31) (hI : chI (fun k => clP w q c s k = true) pl n x) (hc : ∀ k, 1 ≤ k → k < x.2 → pl (x.1 (k - 1)) + sz (x.1 (k - 1)) ≤ pl (x.1 k)) (hk : k ≤ x.2) (h1 : ∀ a, a < k → pl (x.1 a) < l) (h2 : k < x.2 → l ≤ pl (x.1 k)) : nxL w q c s l (n - 0) 0 none = if k < x.2 then some (x.1 k) else none := by
  obtain ⟨i0, i1, i2, i3, i4⟩ := hI
  obtain ⟨n1, n2⟩ := nxL_0 (w := w) (q := q) (c := c) (s := s) (l := l) (n := n)
  generalize nxL w q c s l (n - 0) 0 none = b at n1 n2
  by_cases c1 : k < x.2
  · rw [if_pos c1]
    obtain ⟨k1, k2⟩ := i1 k c1
    obtain ⟨p1, p2, p3⟩ := hpl _ k1 k2
    have xk : (nxP w q c s l) (x.1 k) = true := (nxP_p p1 (by omega) hl).mpr ⟨k2, h2 c1⟩
    cases b with
    | none =>
      rw [n1 rfl _ k1] at xk
      exact Bool.noConfusion xk
    | some j =>
      obtain ⟨a1, a2, a3⟩ := n2 j rfl
      have cj : clP w q c s j = true := by
        unfold nxP at a2
        rw [Bool.and_eq_true] at a2
        exact a2.1
      obtain ⟨q1, q2, q3⟩ := hpl j a1 cj
      have lj := ((nxP_p q1 (by omega) hl).mp a2).2
      have h5 := a3 _ k1 xk
      rw [p1, q1, nI_lt9 (by omega) (by omega)] at h5
      obtain ⟨a, ha, ea⟩ := i3 j a1 cj
      rcases Nat.lt_trichotomy a k with h | h | h
      · have := h1 a h
        rw [ea] at this
        omega
      · rw [← ea, h]
      · have h6 := hc (k + 1) (by omega) (by omega)
        rw [show k + 1 - 1 = k by omega] at h6
        have h7 : pl (x.1 (k + 1)) ≤ pl (x.1 a) := by
          by_cases e : a = k + 1
          · rw [e]
            exact Nat.le_refl _
          · exact i2 (k + 1) a (by omega) ha
        rw [ea] at h7
        omega
  · rw [if_neg c1]
    cases b with
    | none => rfl
    | some j =>
      obtain ⟨a1, a2, a3⟩ := n2 j rfl
      have cj : clP w q c s j = true := by
        unfold nxP at a2
        rw [Bool.and_eq_true] at a2
        exact a2.1
      obtain ⟨q1, q2, q3⟩ := hpl j a1 cj
      have lj := ((nxP_p q1 (by omega) hl).mp a2).2
      obtain ⟨a, ha, ea⟩ := i3 j a1 cj
      have := h1 a (by omega)
      rw [ea] at this
      omega
