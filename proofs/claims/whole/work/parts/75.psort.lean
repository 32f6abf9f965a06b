/-! the class's sort is the model's rank -/
theorem snk_at {W : Nat → eV} {x r : Nat} : ∀ (n : Nat) (e : Nat → Nat), r ≤ n → (∀ p, r ≤ p → p < n → eBeh (W (e p)) (W x) = true) → (0 < r → eBeh (W (e (r - 1))) (W x) = false) → ∀ p, snk W x n e p = if p < r then e p else if p = r then x else if p ≤ n then e (p - 1) else e p := by
  intro n
  induction n with
  | zero =>
    intro e hr _ _ p
    unfold snk
    by_cases h : p = 0
    · rw [h, va_up_self, if_neg (by omega), if_pos (by omega)]
    · rw [va_up_ne _ _ h, if_neg (by omega), if_neg (by omega), if_neg (by omega)]
  | succ n ih =>
    intro e hr hb hf p
    unfold snk
    by_cases hrn : r = n + 1
    · have h1 := hf (by omega)
      rw [show r - 1 = n by omega] at h1
      rw [if_neg (by rw [h1]; decide)]
      by_cases h : p = n + 1
      · rw [h, va_up_self, if_neg (by omega), if_pos (by omega)]
      · rw [va_up_ne _ _ h]
        by_cases h2 : p < r
        · rw [if_pos h2]
        · rw [if_neg h2, if_neg (by omega), if_neg (by omega)]
    · rw [if_pos (hb n (by omega) (by omega)), ih (va_up e (n + 1) (e n)) (by omega) (fun q q1 q2 => by rw [va_up_ne _ _ (by omega)]; exact hb q q1 (by omega)) (fun q => by rw [va_up_ne _ _ (by omega)]; exact hf q) p]
      by_cases h2 : p < r
      · rw [if_pos h2, if_pos h2, va_up_ne _ _ (by omega)]
      · rw [if_neg h2, if_neg h2]
        by_cases h3 : p = r
        · rw [if_pos h3, if_pos h3]
        · rw [if_neg h3, if_neg h3]
          by_cases h4 : p ≤ n
          · rw [if_pos h4, if_pos (by omega), va_up_ne _ _ (by omega)]
          · rw [if_neg h4]
            by_cases h5 : p = n + 1
            · rw [h5, va_up_self, if_pos (by omega)]
              rfl
            · rw [va_up_ne _ _ h5, if_neg (by omega)]
theorem cntN_end {p : Nat → Bool} : ∀ (d k c : Nat), cntN p (d + 1) k c = (if p (k + d) = true then cntN p d k c + 1 else cntN p d k c) := by
  intro d
  induction d with
  | zero => intro k c; rfl
  | succ d ih =>
    intro k c
    have h1 : cntN p (d + 1 + 1) k c = cntN p (d + 1) (k + 1) (if p k = true then c + 1 else c) := rfl
    have h2 : cntN p (d + 1) k c = cntN p d (k + 1) (if p k = true then c + 1 else c) := rfl
    rw [h1, h2, ih (k + 1), show k + 1 + d = k + (d + 1) by omega]
theorem rk_s {w : Nat → eV} {i j : Nat} : rk w (i + 1) j = if rkP w j i = true then rk w i j + 1 else rk w i j := by
  unfold rk
  rw [Nat.sub_zero, Nat.sub_zero, cntN_end, Nat.zero_add]
theorem rkP_self {w : Nat → eV} {i : Nat} : rkP w i i = false := by
  rw [Bool.eq_false_iff]
  intro z
  rw [rkP_iff] at z
  omega
/-- among the first i: j stands behind i just where its rank is not below i's -/
theorem rk_cmp {w : Nat → eV} {i j : Nat} (hj : j < i) : (rkP w j i = true → rk w (i + 1) i ≤ rk w i j) ∧ (rkP w j i = false → rk w i j < rk w (i + 1) i) := by
  have e : rk w (i + 1) i = rk w i i := by rw [rk_s, rkP_self]; rfl
  rw [e]
  constructor
  · intro h
    refine cntN_mono (fun l hl => ?_) _ _ _ _ (Nat.le_refl _)
    rw [rkP_iff] at h hl ⊢
    omega
  · intro h
    have h2 : rkP w i j = true := by
      cases hc : rkP w i j with
      | true => rfl
      | false =>
        rw [Bool.eq_false_iff] at h hc
        exfalso
        rw [ne_eq, rkP_iff] at h hc
        omega
    exact rk_ord hj h2
def pioI (W : Nat → eV) (e0 : Nat → Nat) (i : Nat) (x : (Nat → eV) × (Nat → Nat)) : Prop := (∀ y, x.1 y = wOi (W y) (eOi (x.1 y))) ∧ (∀ j, j < i → x.2 (rk (fun k => W (e0 k)) i j) = e0 j) ∧ (∀ p, p < i → ∃ j, j < i ∧ rk (fun k => W (e0 k)) i j = p) ∧ (∀ k, i ≤ k → x.2 k = e0 k) ∧ ∀ j, j < i → eOi (x.1 (e0 j)) = j
theorem pioI_s {W : Nat → eV} {e0 : Nat → Nat} {i : Nat} {x : (Nat → eV) × (Nat → Nat)} (h : pioI W e0 i x) (hinj : ∀ a b, a ≤ i → b ≤ i → e0 a = e0 b → a = b) : pioI W e0 (i + 1) (va_up x.1 (x.2 i) (wOi (x.1 (x.2 i)) i), snk (va_up x.1 (x.2 i) (wOi (x.1 (x.2 i)) i)) (x.2 i) i x.2) := by
  obtain ⟨h1, h2, h3, h4, h5⟩ := h
  have hxi := h4 i (Nat.le_refl _)
  rw [hxi]
  have hU : ∀ y, eSq (va_up x.1 (e0 i) (wOi (x.1 (e0 i)) i) y) = eSq (W y) ∧ ePl (va_up x.1 (e0 i) (wOi (x.1 (e0 i)) i) y) = ePl (W y) := by
    intro y
    by_cases e : y = e0 i
    · rw [e, va_up_self, h1 (e0 i)]; exact ⟨rfl, rfl⟩
    · rw [va_up_ne _ _ e, h1 y]; exact ⟨rfl, rfl⟩
  have hB : ∀ a b, eBeh (va_up x.1 (e0 i) (wOi (x.1 (e0 i)) i) a) (va_up x.1 (e0 i) (wOi (x.1 (e0 i)) i) b) = eBeh (W a) (W b) := by
    intro a b
    unfold eBeh
    rw [(hU a).1, (hU a).2, (hU b).1, (hU b).2]
  have hRP : ∀ j, j < i → eBeh (W (e0 j)) (W (e0 i)) = rkP (fun k => W (e0 k)) j i := by
    intro j hj
    unfold rkP
    rw [decide_eq_false (show ¬ i < j by omega), Bool.and_false, Bool.or_false]
  obtain ⟨w, hw⟩ : ∃ w : Nat → eV, w = fun k => W (e0 k) := ⟨_, rfl⟩
  rw [← hw] at h2 h3 hRP
  have hri : rk w (i + 1) i ≤ i := by have := rk_lt (w := w) (n := i + 1) (i := i) (by omega); omega
  have hsn := snk_at (W := va_up x.1 (e0 i) (wOi (x.1 (e0 i)) i)) (x := e0 i) (r := rk w (i + 1) i) i x.2 hri (fun p p1 p2 => by
    obtain ⟨j, j1, j2⟩ := h3 p p2
    rw [← j2, h2 j j1, hB, hRP j j1]
    cases hc : rkP w j i with
    | true => rfl
    | false => have := (rk_cmp j1).2 hc; omega) (fun p0 => by
    obtain ⟨j, j1, j2⟩ := h3 (rk w (i + 1) i - 1) (by omega)
    rw [← j2, h2 j j1, hB, hRP j j1]
    cases hc : rkP w j i with
    | false => rfl
    | true => have := (rk_cmp j1).1 hc; omega)
  unfold pioI
  rw [← hw]
  refine ⟨?_, ?_, ?_, ?_, ?_⟩
  · intro y
    show va_up x.1 (e0 i) (wOi (x.1 (e0 i)) i) y = _
    by_cases e : y = e0 i
    · rw [e]
      show va_up x.1 (e0 i) (wOi (x.1 (e0 i)) i) (e0 i) = wOi (W (e0 i)) (eOi (va_up x.1 (e0 i) (wOi (x.1 (e0 i)) i) (e0 i)))
      rw [va_up_self, h1 (e0 i)]
    · show va_up x.1 (e0 i) (wOi (x.1 (e0 i)) i) y = wOi (W y) (eOi (va_up x.1 (e0 i) (wOi (x.1 (e0 i)) i) y))
      rw [va_up_ne _ _ e]
      exact h1 y
  · intro j hj
    show snk _ _ _ _ _ = _
    rw [hsn]
    by_cases ej : j = i
    · subst ej
      rw [if_neg (by omega), if_pos rfl]
    · have hj2 : j < i := by omega
      rw [rk_s (w := w) (j := j)]
      cases hc : rkP w j i with
      | true =>
        have := (rk_cmp hj2).1 hc
        have h9 := rk_lt (w := w) hj2
        rw [if_pos rfl, if_neg (by omega), if_neg (by omega), if_pos (by omega), show rk w i j + 1 - 1 = rk w i j by omega]
        exact h2 j hj2
      | false =>
        have := (rk_cmp hj2).2 hc
        rw [show (if false = true then rk w i j + 1 else rk w i j) = rk w i j from if_neg Bool.false_ne_true, if_pos (by omega)]
        exact h2 j hj2
  · intro p hp
    by_cases e1 : p = rk w (i + 1) i
    · exact ⟨i, by omega, e1.symm⟩
    · by_cases e2 : p < rk w (i + 1) i
      · obtain ⟨j, j1, j2⟩ := h3 p (by omega)
        refine ⟨j, by omega, ?_⟩
        rw [rk_s]
        cases hc : rkP w j i with
        | true => have := (rk_cmp j1).1 hc; omega
        | false => rw [if_neg (by decide)]; exact j2
      · obtain ⟨j, j1, j2⟩ := h3 (p - 1) (by omega)
        refine ⟨j, by omega, ?_⟩
        rw [rk_s]
        cases hc : rkP w j i with
        | true => rw [if_pos rfl]; omega
        | false => have := (rk_cmp j1).2 hc; omega
  · intro k hk
    show snk _ _ _ _ _ = _
    rw [hsn, if_neg (by omega), if_neg (by omega), if_neg (by omega)]
    exact h4 k (by omega)
  · intro j hj
    show eOi (va_up x.1 (e0 i) (wOi (x.1 (e0 i)) i) (e0 j)) = j
    by_cases ej : j = i
    · subst ej
      rw [va_up_self]
    · rw [va_up_ne _ _ (fun q => ej (hinj j i (by omega) (by omega) q))]
      exact h5 j (by omega)
theorem pioI_L {W : Nat → eV} {e0 : Nat → Nat} {n : Nat} (hinj : ∀ a b, a < n → b < n → e0 a = e0 b → a = b) : ∀ (d i : Nat) (x : (Nat → eV) × (Nat → Nat)), i + d = n → pioI W e0 i x → pioI W e0 n (pioL d i x) := by
  intro d
  induction d with
  | zero => intro i x hi h; rw [show n = i by omega]; exact h
  | succ d ih => intro i x hi h; exact ih (i + 1) _ (by omega) (pioI_s h (fun a b ha hb => hinj a b (by omega) (by omega)))
theorem pioI_n {W : Nat → eV} {e0 : Nat → Nat} {n : Nat} (hinj : ∀ a b, a < n → b < n → e0 a = e0 b → a = b) : pioI W e0 n (pioL (n - 0) 0 (W, e0)) := pioI_L hinj _ _ _ (by omega) ⟨fun y => rfl, fun j hj => absurd hj (Nat.not_lt_zero _), fun p hp => absurd hp (Nat.not_lt_zero _), fun k _ => rfl, fun j hj => absurd hj (Nat.not_lt_zero _)⟩