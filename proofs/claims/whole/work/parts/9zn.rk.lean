/-! merge, pure: the places in the merged table -/
theorem eBeh_i {v w : eV} : eBeh v w = true ↔ ((eSq w).toInt < (eSq v).toInt ∨ ((eSq w).toInt = (eSq v).toInt ∧ (ePl w).toInt < (ePl v).toInt)) := by
  unfold eBeh
  rw [Bool.or_eq_true, Bool.and_eq_true, decide_eq_true_eq, decide_eq_true_eq, decide_eq_true_eq, Int32.lt_iff_toInt_lt, Int32.lt_iff_toInt_lt, ← Int32.toInt_inj]
  omega
theorem eBeh_n {v w : eV} : eBeh v w = false ↔ ((eSq v).toInt < (eSq w).toInt ∨ ((eSq v).toInt = (eSq w).toInt ∧ (ePl v).toInt ≤ (ePl w).toInt)) := by
  rw [Bool.eq_false_iff, ne_eq, eBeh_i]
  omega
/-- sorted -/
def srt (u : Nat → eV) (n : Nat) : Prop := ∀ a b, a ≤ b → b < n → eBeh (u a) (u b) = false
/-- the merge at record a of the one and b of the other sorted table -/
def mgI (n m : Nat) (u v : Nat → eV) (q : Nat → Bool) (a b : Nat) : Prop := a ≤ n ∧ b ≤ m ∧ (∀ a' b', a' < a → b ≤ b' → b' < m → q b' = true → eBeh (u a') (v b') = false) ∧ ∀ a' b', b' < b → q b' = true → a ≤ a' → a' < n → eBeh (u a') (v b') = true
def poA (m : Nat) (u v : Nat → eV) (q : Nat → Bool) (a : Nat) : Nat := a + cntN (fun b => q b && eBeh (u a) (v b)) m 0 0
def poB (n : Nat) (u v : Nat → eV) (q : Nat → Bool) (b : Nat) : Nat := cntN (fun a => ! eBeh (u a) (v b)) n 0 0 + cntN q b 0 0
theorem mgI_A {n m : Nat} {u v : Nat → eV} {q : Nat → Bool} {a b : Nat} (h : mgI n m u v q a b) (hv : srt v m) (ha : a < n) (hb : b < m → eBeh (u a) (v b) = false) : poA m u v q a = a + cntN q b 0 0 ∧ mgI n m u v q (a + 1) b := by
  obtain ⟨h1, h2, h3, h4⟩ := h
  have no : ∀ b', b ≤ b' → b' < m → eBeh (u a) (v b') = false := fun b' c1 c2 => by
    have x1 := hb (by omega)
    have x2 := hv b b' c1 c2
    rw [eBeh_n] at x1 x2 ⊢
    omega
  refine ⟨?_, by omega, h2, fun a' b' c1 c2 c3 c4 => ?_, fun a' b' c1 c2 c3 c4 => h4 a' b' c1 c2 (by omega) c4⟩
  · unfold poA
    rw [cnt_f (p := fun b => q b && eBeh (u a) (v b)) (q := q) (n := b) h2 (fun k hk => ?_) (fun k k1 k2 => by rw [no k k1 k2, Bool.and_false])]
    cases hq : q k with
    | true => rw [h4 a k hk hq (Nat.le_refl _) ha]; rfl
    | false => rfl
  · by_cases e : a' = a
    · rw [e]
      exact no b' c2 c3
    · exact h3 a' b' (by omega) c2 c3 c4
theorem mgI_B {n m : Nat} {u v : Nat → eV} {q : Nat → Bool} {a b : Nat} (h : mgI n m u v q a b) (hu : srt u n) (hb : b < m) (hq : q b = true) (ha : a < n → eBeh (u a) (v b) = true) : poB n u v q b = a + cntN q b 0 0 ∧ mgI n m u v q a (b + 1) := by
  obtain ⟨h1, h2, h3, h4⟩ := h
  have ye : ∀ a', a ≤ a' → a' < n → eBeh (u a') (v b) = true := fun a' c1 c2 => by
    have x1 := ha (by omega)
    have x2 := hu a a' c1 c2
    rw [eBeh_i] at x1 ⊢
    rw [eBeh_n] at x2
    omega
  refine ⟨?_, h1, by omega, fun a' b' c1 c2 c3 c4 => h3 a' b' c1 (by omega) c3 c4, fun a' b' c1 c2 c3 c4 => ?_⟩
  · unfold poB
    rw [cnt_f (p := fun a => ! eBeh (u a) (v b)) (q := fun _ => true) (n := a) h1 (fun k hk => by rw [h3 k b hk (Nat.le_refl _) hb hq]; rfl) (fun k k1 k2 => by rw [ye k k1 k2]; rfl), cnt_a (fun _ _ => rfl)]
  · by_cases e : b' = b
    · rw [e]
      exact ye a' c3 c4
    · exact h4 a' b' (by omega) c2 c3 c4
theorem mgI_S {n m : Nat} {u v : Nat → eV} {q : Nat → Bool} {a b : Nat} (h : mgI n m u v q a b) (hb : b < m) (hq : q b = false) : cntN q (b + 1) 0 0 = cntN q b 0 0 ∧ mgI n m u v q a (b + 1) := by
  obtain ⟨h1, h2, h3, h4⟩ := h
  refine ⟨?_, h1, by omega, fun a' b' c1 c2 c3 c4 => h3 a' b' c1 (by omega) c3 c4, fun a' b' c1 c2 c3 c4 => ?_⟩
  · rw [cnt_s, if_neg (by rw [hq]; decide)]
  · by_cases e : b' = b
    · rw [e, hq] at c2
      exact Bool.noConfusion c2
    · exact h4 a' b' (by omega) c2 c3 c4
theorem mgI_0 {n m : Nat} {u v : Nat → eV} {q : Nat → Bool} : mgI n m u v q 0 0 := ⟨Nat.zero_le _, Nat.zero_le _, fun a' b' h => absurd h (Nat.not_lt_zero _), fun a' b' h => absurd h (Nat.not_lt_zero _)⟩
/-- the record at a rank -/
theorem rk_inv (w : Nat → eV) (n : Nat) : ∃ u : Nat → eV, ∀ i, i < n → u (rk w n i) = w i := by
  refine ⟨fun a => if h : ∃ i, i < n ∧ rk w n i = a then w (Classical.choose h) else w 0, fun i hi => ?_⟩
  have h : ∃ k, k < n ∧ rk w n k = rk w n i := ⟨i, hi, rfl⟩
  show (if h : ∃ k, k < n ∧ rk w n k = rk w n i then w (Classical.choose h) else w 0) = _
  rw [dif_pos h]
  obtain ⟨h1, h2⟩ := Classical.choose_spec h
  rw [rk_inj h1 hi h2]
theorem rkP_d {w : Nat → eV} {n i k : Nat} (hi : i < n) (hk : k < n) : rkP w i k = decide (rk w n k < rk w n i) := by
  cases h : rkP w i k with
  | true => exact (decide_eq_true (rk_ord hk h)).symm
  | false =>
    refine (decide_eq_false (fun z => ?_)).symm
    by_cases e : i = k
    · rw [e] at z
      omega
    · have h1 : rkP w k i = true := by
        rw [Bool.eq_false_iff, ne_eq, rkP_iff] at h
        rw [rkP_iff]
        omega
      have := rk_ord hi h1
      omega
theorem rk_srt {w u : Nat → eV} {n : Nat} (hs : ∀ p, p < n → ∃ i, i < n ∧ rk w n i = p) (hu : ∀ i, i < n → u (rk w n i) = w i) : srt u n := by
  intro a b hab hb
  obtain ⟨i, i1, i2⟩ := hs a (by omega)
  obtain ⟨j, j1, j2⟩ := hs b hb
  subst i2
  subst j2
  rw [hu i i1, hu j j1, Bool.eq_false_iff]
  intro z
  have h1 : rkP w i j = true := by
    unfold rkP
    rw [z]
    rfl
  have := rk_ord j1 h1
  omega
/-- a record of the one table -/
theorem rk_A {w w0 w1 u v : Nat → eV} {q q' : Nat → Bool} {n m i : Nat} (h0 : ∀ i, i < n → eSq (w i) = eSq (w0 i) ∧ ePl (w i) = ePl (w0 i)) (h1 : ∀ j, j < m → q j = true → eSq (w (n + cntN q j 0 0)) = eSq (w1 j) ∧ ePl (w (n + cntN q j 0 0)) = ePl (w1 j)) (hu : ∀ i, i < n → u (rk w0 n i) = w0 i) (hv : ∀ j, j < m → v (rk w1 m j) = w1 j) (hq : ∀ j, j < m → q' (rk w1 m j) = q j) (hi : i < n) : rk w (n + cntN q m 0 0) i = poA m u v q' (rk w0 n i) := by
  unfold poA
  rw [hu i hi, ← cnt_p (q := fun b => q' b && eBeh (w0 i) (v b)) (f := rk w1 m) (fun k hk => rk_lt hk) (fun k l hk hl => rk_inj hk hl)]
  show cntN (rkP w i) (n + cntN q m 0 0) 0 0 = cntN (rkP w0 i) n 0 0 + _
  rw [cnt_j]
  have e1 : cntN (rkP w i) n 0 0 = cntN (rkP w0 i) n 0 0 := cnt_c (fun k hk => by
    unfold rkP eBeh
    rw [(h0 i hi).1, (h0 i hi).2, (h0 k hk).1, (h0 k hk).2])
  rw [e1]
  refine congrArg _ (cnt_c (fun j hj => ?_))
  rw [hq j hj, hv j hj]
  cases hc : q j with
  | false => rfl
  | true =>
    rw [Bool.true_and, Bool.true_and]
    unfold rkP eBeh
    rw [(h0 i hi).1, (h0 i hi).2, (h1 j hj hc).1, (h1 j hj hc).2, decide_eq_false (show ¬ n + cntN q j 0 0 < i by omega), Bool.and_false, Bool.or_false]
/-- a record of the other that has no partner -/
theorem rk_B {w w0 w1 u v : Nat → eV} {q q' : Nat → Bool} {n m j : Nat} (h0 : ∀ i, i < n → eSq (w i) = eSq (w0 i) ∧ ePl (w i) = ePl (w0 i)) (h1 : ∀ j, j < m → q j = true → eSq (w (n + cntN q j 0 0)) = eSq (w1 j) ∧ ePl (w (n + cntN q j 0 0)) = ePl (w1 j)) (hu : ∀ i, i < n → u (rk w0 n i) = w0 i) (hv : ∀ j, j < m → v (rk w1 m j) = w1 j) (hq : ∀ j, j < m → q' (rk w1 m j) = q j) (hj : j < m) (hqj : q j = true) : rk w (n + cntN q m 0 0) (n + cntN q j 0 0) = poB n u v q' (rk w1 m j) := by
  unfold poB
  rw [hv j hj, ← cnt_p (q := fun a => ! eBeh (u a) (w1 j)) (f := rk w0 n) (fun k hk => rk_lt hk) (fun k l hk hl => rk_inj hk hl)]
  show cntN (rkP w (n + cntN q j 0 0)) (n + cntN q m 0 0) 0 0 = _
  rw [cnt_j]
  have e1 : cntN (rkP w (n + cntN q j 0 0)) n 0 0 = cntN (fun k => ! eBeh (u (rk w0 n k)) (w1 j)) n 0 0 := cnt_c (fun k hk => by
    rw [hu k hk]
    have x : rkP w (n + cntN q j 0 0) k = (eBeh (w1 j) (w0 k) || ! eBeh (w0 k) (w1 j)) := by
      unfold rkP eBeh
      rw [(h0 k hk).1, (h0 k hk).2, (h1 j hj hqj).1, (h1 j hj hqj).2, decide_eq_true (show k < n + cntN q j 0 0 by omega), Bool.and_true]
    rw [x]
    cases c1 : eBeh (w1 j) (w0 k) with
    | false => rfl
    | true =>
      have c2 : eBeh (w0 k) (w1 j) = false := by
        rw [eBeh_i] at c1
        rw [eBeh_n]
        omega
      rw [c2]
      rfl)
  rw [e1]
  refine congrArg _ ?_
  have e2 : cntN q' (rk w1 m j) 0 0 = cntN (fun b => q' b && decide (b < rk w1 m j)) m 0 0 := (cnt_f (p := fun b => q' b && decide (b < rk w1 m j)) (q := q') (n := rk w1 m j) (Nat.le_of_lt (rk_lt hj)) (fun k hk => by rw [decide_eq_true hk, Bool.and_true]) (fun k k1 k2 => by rw [decide_eq_false (by omega), Bool.and_false])).symm
  rw [e2, ← cnt_p (q := fun b => q' b && decide (b < rk w1 m j)) (f := rk w1 m) (fun k hk => rk_lt hk) (fun k l hk hl => rk_inj hk hl)]
  refine cnt_c (fun l hl => ?_)
  rw [hq l hl]
  cases hc : q l with
  | false => rfl
  | true =>
    rw [Bool.true_and, Bool.true_and, ← rkP_d hj hl]
    unfold rkP eBeh
    rw [(h1 j hj hqj).1, (h1 j hj hqj).2, (h1 l hl hc).1, (h1 l hl hc).2]
    have x : decide (n + cntN q l 0 0 < n + cntN q j 0 0) = decide (l < j) := by
      rcases Nat.lt_trichotomy l j with c | c | c
      · have := cnt_r c hc
        rw [decide_eq_true c, decide_eq_true (by omega)]
      · rw [c]
        rw [decide_eq_false (by omega), decide_eq_false (by omega)]
      · have := cnt_r c hqj
        rw [decide_eq_false (show ¬ l < j by omega), decide_eq_false (by omega)]
    rw [x]
