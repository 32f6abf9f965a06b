/-! merge, pure: pairings and counts -/
/-- a pairing of likes, first come first served -/
def pmI (n m : Nat) (L M : Nat → Nat → Prop) : Prop := (∀ i j, M i j → i < n ∧ j < m ∧ L i j) ∧ (∀ i j j', M i j → M i j' → j = j') ∧ (∀ i i' j, M i j → M i' j → i = i') ∧ (∀ i j i', M i j → i' < i → L i' j → ∃ j', j' < j ∧ M i' j') ∧ (∀ i j j', M i j → j' < j → L i j' → ∃ i', i' < i ∧ M i' j') ∧ ∀ i j, i < n → j < m → L i j → (∃ j', M i j') ∨ ∃ i', M i' j
theorem pmI_1 {n m : Nat} {L M N : Nat → Nat → Prop} (h : pmI n m L M) (h' : pmI n m L N) {i : Nat} (ih : ∀ i', i' < i → ∀ j, M i' j ↔ N i' j) {j : Nat} (hM : M i j) : N i j := by
  obtain ⟨a1, a2, a3, a4, a5, a6⟩ := h
  obtain ⟨b1, b2, b3, b4, b5, b6⟩ := h'
  obtain ⟨q1, q2, q3⟩ := a1 i j hM
  have A : ∀ j2, N i j2 → N i j := fun j2 hN => by
    rcases Nat.lt_trichotomy j2 j with c | c | c
    · obtain ⟨i', h1, h2⟩ := a5 i j j2 hM c (b1 i j2 hN).2.2
      have h3 := b3 i' i j2 ((ih i' h1 j2).mp h2) hN
      omega
    · rw [← c]
      exact hN
    · obtain ⟨i', h1, h2⟩ := b5 i j2 j hN c q3
      have h3 := a3 i' i j ((ih i' h1 j).mpr h2) hM
      omega
  rcases b6 i j q1 q2 q3 with ⟨j2, h1⟩ | ⟨i', h1⟩
  · exact A j2 h1
  · rcases Nat.lt_trichotomy i' i with c | c | c
    · have h3 := a3 i' i j ((ih i' c j).mpr h1) hM
      omega
    · rw [← c]
      exact h1
    · obtain ⟨j', h2, h3⟩ := b4 i' j i h1 c q3
      exact A j' h3
/-- there is but one -/
theorem pmI_u {n m : Nat} {L M N : Nat → Nat → Prop} (h : pmI n m L M) (h' : pmI n m L N) (i j : Nat) : M i j ↔ N i j := by
  have key : ∀ i j, M i j ↔ N i j := by
    intro i
    induction i using Nat.strongRecOn with
    | _ i ih => exact fun j => ⟨pmI_1 h h' ih, pmI_1 h' h (fun i' hi j => (ih i' hi j).symm)⟩
  exact key i j
theorem pmI_0 {n : Nat} {L : Nat → Nat → Prop} : pmI n 0 L (fun _ _ => False) := ⟨fun _ _ h => h.elim, fun _ _ _ h => h.elim, fun _ _ _ h => h.elim, fun _ _ _ h => h.elim, fun _ _ _ h => h.elim, fun _ _ _ h => absurd h (Nat.not_lt_zero _)⟩
/-- the first free like is taken -/
theorem pmI_t {n m i0 : Nat} {L M : Nat → Nat → Prop} (h : pmI n m L M) (hi : i0 < n) (hL : L i0 m) (hf : ∀ j, ¬ M i0 j) (hb : ∀ i, i < i0 → L i m → ∃ j, M i j) : pmI n (m + 1) L (fun i j => M i j ∨ (i = i0 ∧ j = m)) := by
  obtain ⟨a1, a2, a3, a4, a5, a6⟩ := h
  have lt : ∀ i j, M i j → j < m := fun i j q => (a1 i j q).2.1
  refine ⟨?_, ?_, ?_, ?_, ?_, ?_⟩
  · rintro i j (q | ⟨rfl, rfl⟩)
    · exact ⟨(a1 i j q).1, by have := lt i j q; omega, (a1 i j q).2.2⟩
    · exact ⟨hi, by omega, hL⟩
  · rintro i j j' (q | ⟨rfl, rfl⟩) (r | ⟨r1, r2⟩)
    · exact a2 i j j' q r
    · rw [r1] at q
      exact absurd q (hf j)
    · exact absurd r (hf j')
    · exact r2.symm
  · rintro i i' j (q | ⟨rfl, rfl⟩) (r | ⟨r1, r2⟩)
    · exact a3 i i' j q r
    · have := lt i j q
      omega
    · have := lt i' j r
      omega
    · exact r1.symm
  · rintro i j i' (q | ⟨rfl, rfl⟩) h1 h2
    · obtain ⟨j', x1, x2⟩ := a4 i j i' q h1 h2
      exact ⟨j', x1, Or.inl x2⟩
    · obtain ⟨j', x2⟩ := hb i' h1 h2
      exact ⟨j', lt i' j' x2, Or.inl x2⟩
  · rintro i j j' (q | ⟨rfl, rfl⟩) h1 h2
    · obtain ⟨i', x1, x2⟩ := a5 i j j' q h1 h2
      exact ⟨i', x1, Or.inl x2⟩
    · rcases a6 i j' hi h1 h2 with ⟨j2, x1⟩ | ⟨i', x1⟩
      · exact absurd x1 (hf j2)
      · refine ⟨i', ?_, Or.inl x1⟩
        rcases Nat.lt_trichotomy i' i with c | c | c
        · exact c
        · rw [c] at x1
          exact absurd x1 (hf j')
        · obtain ⟨j2, y1, y2⟩ := a4 i' j' i x1 c h2
          exact absurd y2 (hf j2)
  · intro i j h1 h2 h3
    by_cases e : j = m
    · exact Or.inr ⟨i0, Or.inr ⟨rfl, e⟩⟩
    · rcases a6 i j h1 (by omega) h3 with ⟨j', x⟩ | ⟨i', x⟩
      · exact Or.inl ⟨j', Or.inl x⟩
      · exact Or.inr ⟨i', Or.inl x⟩
/-- no like is free -/
theorem pmI_f {n m : Nat} {L M : Nat → Nat → Prop} (h : pmI n m L M) (hb : ∀ i, i < n → L i m → ∃ j, M i j) : pmI n (m + 1) L M := by
  obtain ⟨a1, a2, a3, a4, a5, a6⟩ := h
  refine ⟨fun i j q => ⟨(a1 i j q).1, by have := (a1 i j q).2.1; omega, (a1 i j q).2.2⟩, a2, a3, a4, a5, fun i j h1 h2 h3 => ?_⟩
  by_cases e : j = m
  · rw [e] at h3
    exact Or.inl (hb i h1 h3)
  · exact a6 i j h1 (by omega) h3
/-- a pairing of the sorted tables is a pairing of the tables -/
theorem pmI_s {n m : Nat} {L L' N : Nat → Nat → Prop} {a b : Nat → Nat} (h : pmI n m L' N) (ha : ∀ i, i < n → a i < n) (hb : ∀ j, j < m → b j < m) (ai : ∀ i k, i < n → k < n → a i = a k → i = k) (bi : ∀ i k, i < m → k < m → b i = b k → i = k) (as : ∀ p, p < n → ∃ i, i < n ∧ a i = p) (bs : ∀ p, p < m → ∃ j, j < m ∧ b j = p) (hL : ∀ i j, i < n → j < m → (L' (a i) (b j) ↔ L i j)) (ho : ∀ i k j, i < n → k < n → j < m → L i j → L k j → k < i → a k < a i) (ho' : ∀ i j k, i < n → j < m → k < m → L i j → L i k → k < j → b k < b j) : pmI n m L (fun i j => i < n ∧ j < m ∧ N (a i) (b j)) := by
  obtain ⟨a1, a2, a3, a4, a5, a6⟩ := h
  refine ⟨?_, ?_, ?_, ?_, ?_, ?_⟩
  · rintro i j ⟨h1, h2, h3⟩
    exact ⟨h1, h2, (hL i j h1 h2).mp (a1 _ _ h3).2.2⟩
  · rintro i j j' ⟨h1, h2, h3⟩ ⟨-, h5, h6⟩
    exact bi j j' h2 h5 (a2 _ _ _ h3 h6)
  · rintro i i' j ⟨h1, h2, h3⟩ ⟨h4, -, h6⟩
    exact ai i i' h1 h4 (a3 _ _ _ h3 h6)
  · rintro i j i' ⟨h1, h2, h3⟩ h4 h5
    have l1 := (hL i j h1 h2).mp (a1 _ _ h3).2.2
    obtain ⟨p, p1, p2⟩ := a4 (a i) (b j) (a i') h3 (ho i i' j h1 (by omega) h2 l1 h5 h4) ((hL i' j (by omega) h2).mpr h5)
    obtain ⟨j', j1, j2⟩ := bs p (a1 _ _ p2).2.1
    subst j2
    refine ⟨j', ?_, by omega, j1, p2⟩
    have l2 := (hL i' j' (by omega) j1).mp (a1 _ _ p2).2.2
    rcases Nat.lt_trichotomy j' j with c | c | c
    · exact c
    · rw [c] at p1
      omega
    · have := ho' i' j' j (by omega) j1 h2 l2 h5 c
      omega
  · rintro i j j' ⟨h1, h2, h3⟩ h4 h5
    have l1 := (hL i j h1 h2).mp (a1 _ _ h3).2.2
    obtain ⟨p, p1, p2⟩ := a5 (a i) (b j) (b j') h3 (ho' i j j' h1 h2 (by omega) l1 h5 h4) ((hL i j' h1 (by omega)).mpr h5)
    obtain ⟨i', j1, j2⟩ := as p (a1 _ _ p2).1
    subst j2
    refine ⟨i', ?_, j1, by omega, p2⟩
    have l2 := (hL i' j' j1 (by omega)).mp (a1 _ _ p2).2.2
    rcases Nat.lt_trichotomy i' i with c | c | c
    · exact c
    · rw [c] at p1
      omega
    · have := ho i' i j' j1 h1 (by omega) l2 h5 c
      omega
  · intro i j h1 h2 h3
    rcases a6 (a i) (b j) (ha i h1) (hb j h2) ((hL i j h1 h2).mpr h3) with ⟨p, x⟩ | ⟨p, x⟩
    · obtain ⟨j', j1, j2⟩ := bs p (a1 _ _ x).2.1
      subst j2
      exact Or.inl ⟨j', h1, j1, x⟩
    · obtain ⟨i', j1, j2⟩ := as p (a1 _ _ x).1
      subst j2
      exact Or.inr ⟨i', j1, h2, x⟩
/-! counts -/
theorem cnt_s {p : Nat → Bool} {n : Nat} : cntN p (n + 1) 0 0 = (if p n = true then cntN p n 0 0 + 1 else cntN p n 0 0) := by
  rw [cntN_end, Nat.zero_add]
theorem cnt_c {p q : Nat → Bool} : ∀ {n : Nat}, (∀ k, k < n → p k = q k) → cntN p n 0 0 = cntN q n 0 0 := by
  intro n
  induction n with
  | zero => intro _; rfl
  | succ n ih =>
    intro h
    rw [cnt_s, cnt_s, h n (by omega), ih (fun k hk => h k (by omega))]
theorem cnt_le {p : Nat → Bool} : ∀ {n : Nat}, cntN p n 0 0 ≤ n := by
  intro n
  induction n with
  | zero => exact Nat.le_refl _
  | succ n ih =>
    rw [cnt_s]
    split <;> omega
theorem cnt_m {q : Nat → Bool} {b : Nat} : ∀ {m : Nat}, b < m → q b = true → cntN (fun k => q k && decide (k ≠ b)) m 0 0 + 1 = cntN q m 0 0 := by
  intro m
  induction m with
  | zero => intro h; exact absurd h (Nat.not_lt_zero _)
  | succ m ih =>
    intro h hq
    rw [cnt_s, cnt_s]
    by_cases e : b = m
    · subst e
      rw [if_pos hq, if_neg (by simp)]
      rw [cnt_c (p := fun k => q k && decide (k ≠ b)) (q := q) (fun k hk => by rw [decide_eq_true (show k ≠ b by omega), Bool.and_true])]
    · have h1 := ih (by omega) hq
      rw [decide_eq_true (show m ≠ b by omega), Bool.and_true]
      split <;> omega
theorem cnt_i {p : Nat → Bool} {f : Nat → Nat} {m : Nat} : ∀ {n : Nat} {q : Nat → Bool}, (∀ k, k < n → p k = true → f k < m ∧ q (f k) = true) → (∀ k l, k < n → l < n → p k = true → p l = true → f k = f l → k = l) → cntN p n 0 0 ≤ cntN q m 0 0 := by
  intro n
  induction n with
  | zero => intro q _ _; exact Nat.zero_le _
  | succ n ih =>
    intro q h1 h2
    rw [cnt_s]
    by_cases c : p n = true
    · rw [if_pos c]
      obtain ⟨x1, x2⟩ := h1 n (by omega) c
      rw [← cnt_m x1 x2]
      refine Nat.succ_le_succ (ih (fun k hk hp => ?_) (fun k l hk hl => h2 k l (by omega) (by omega)))
      obtain ⟨y1, y2⟩ := h1 k (by omega) hp
      refine ⟨y1, ?_⟩
      rw [y2, Bool.true_and]
      refine decide_eq_true (fun e => ?_)
      have := h2 k n (by omega) (by omega) hp c e
      omega
    · rw [if_neg c]
      exact ih (fun k hk => h1 k (by omega)) (fun k l hk hl => h2 k l (by omega) (by omega))
theorem cnt_n {p : Nat → Bool} : ∀ {n : Nat}, cntN p n 0 0 + cntN (fun k => ! p k) n 0 0 = n := by
  intro n
  induction n with
  | zero => rfl
  | succ n ih =>
    rw [cnt_s, cnt_s]
    cases h : p n with
    | true => rw [if_pos rfl, if_neg (by decide)]; omega
    | false => rw [if_neg (by decide), if_pos (by decide)]; omega
/-- a count does not ask for the order -/
theorem cnt_p {q : Nat → Bool} {f : Nat → Nat} {n : Nat} (h1 : ∀ k, k < n → f k < n) (h2 : ∀ k l, k < n → l < n → f k = f l → k = l) : cntN (fun k => q (f k)) n 0 0 = cntN q n 0 0 := by
  have a := cnt_i (p := fun k => q (f k)) (f := f) (m := n) (n := n) (q := q) (fun k hk hp => ⟨h1 k hk, hp⟩) (fun k l hk hl _ _ => h2 k l hk hl)
  have b := cnt_i (p := fun k => ! q (f k)) (f := f) (m := n) (n := n) (q := fun k => ! q k) (fun k hk hp => ⟨h1 k hk, hp⟩) (fun k l hk hl _ _ => h2 k l hk hl)
  have c := cnt_n (p := fun k => q (f k)) (n := n)
  have d := cnt_n (p := q) (n := n)
  omega
/-- a first part of true ones -/
theorem cnt_f {p q : Nat → Bool} {n : Nat} : ∀ {m : Nat}, n ≤ m → (∀ k, k < n → p k = q k) → (∀ k, n ≤ k → k < m → p k = false) → cntN p m 0 0 = cntN q n 0 0 := by
  intro m
  induction m with
  | zero =>
    intro h _ _
    rw [show n = 0 by omega]
    rfl
  | succ m ih =>
    intro h h1 h2
    by_cases e : n = m + 1
    · subst e
      exact cnt_c h1
    · rw [cnt_s, if_neg (by rw [h2 m (by omega) (by omega)]; decide)]
      exact ih (by omega) h1 (fun k a b => h2 k a (by omega))
theorem cnt_a {p : Nat → Bool} : ∀ {n : Nat}, (∀ k, k < n → p k = true) → cntN p n 0 0 = n := by
  intro n
  induction n with
  | zero => intro _; rfl
  | succ n ih =>
    intro h
    rw [cnt_s, if_pos (h n (by omega)), ih (fun k hk => h k (by omega))]
/-- the count over a list and the chosen ones of another behind it -/
theorem cnt_j {p u : Nat → Bool} {n : Nat} : ∀ {m : Nat}, cntN p (n + cntN u m 0 0) 0 0 = cntN p n 0 0 + cntN (fun j => u j && p (n + cntN u j 0 0)) m 0 0 := by
  intro m
  induction m with
  | zero => rfl
  | succ m ih =>
    rw [cnt_s (p := u), cnt_s (p := fun j => u j && p (n + cntN u j 0 0))]
    cases h : u m with
    | true =>
      rw [if_pos rfl, show n + (cntN u m 0 0 + 1) = n + cntN u m 0 0 + 1 by omega, cnt_s, ih]
      show (if p (n + cntN u m 0 0) = true then _ else _) = _ + (if (true && p (n + cntN u m 0 0)) = true then _ else _)
      rw [Bool.true_and]
      split <;> omega
    | false =>
      rw [if_neg (by decide), if_neg (by rw [Bool.false_and]; decide), ih]
/-- a pairing kept as numbers: pa for the ones, pb for the others -/
def gS (n J : Nat) (L M : Nat → Nat → Prop) (pa pb : Nat → Int32) : Prop := pmI n J L M ∧ (∀ i, i < n → (pa i = -1 ∧ ∀ j, ¬ M i j) ∨ ∃ j, j < J ∧ pa i = nI j ∧ M i j) ∧ ∀ j, j < J → (pb j = -1 ∧ ∀ i, ¬ M i j) ∨ ∃ i, i < n ∧ pb j = nI i ∧ M i j
theorem gS_c {n J : Nat} {L M : Nat → Nat → Prop} {pa pb pa' pb' : Nat → Int32} (h : gS n J L M pa pb) (h1 : ∀ i, i < n → pa' i = pa i) (h2 : ∀ j, j < J → pb' j = pb j) : gS n J L M pa' pb' := ⟨h.1, fun i hi => by rw [h1 i hi]; exact h.2.1 i hi, fun j hj => by rw [h2 j hj]; exact h.2.2 j hj⟩
theorem gS_0 {n : Nat} {L : Nat → Nat → Prop} {pa pb : Nat → Int32} (h : ∀ i, i < n → pa i = -1) : gS n 0 L (fun _ _ => False) pa pb := ⟨pmI_0, fun i hi => Or.inl ⟨h i hi, fun _ z => z⟩, fun j hj => absurd hj (Nat.not_lt_zero _)⟩
theorem gS_f {n J : Nat} {L M : Nat → Nat → Prop} {pa pb : Nat → Int32} (h : gS n J L M pa pb) (hb : ∀ i, i < n → L i J → ¬ pa i = -1) : gS n (J + 1) L M pa (upd pb J (-1)) := by
  obtain ⟨a1, a2, a3⟩ := h
  refine ⟨pmI_f a1 (fun i hi hL => ?_), fun i hi => ?_, fun j hj => ?_⟩
  · rcases a2 i hi with ⟨x1, -⟩ | ⟨j, -, -, x3⟩
    · exact absurd x1 (hb i hi hL)
    · exact ⟨j, x3⟩
  · rcases a2 i hi with x | ⟨j, x1, x2⟩
    · exact Or.inl x
    · exact Or.inr ⟨j, by omega, x2⟩
  · by_cases e : j = J
    · rw [e, updS]
      exact Or.inl ⟨rfl, fun i z => by have := (a1.1 i J z).2.1; omega⟩
    · rw [updN e]
      exact a3 j (by omega)
theorem gS_t {n J i0 : Nat} {L M : Nat → Nat → Prop} {pa pb : Nat → Int32} (h : gS n J L M pa pb) (hJ : J < 2 ^ 31) (hi : i0 < n) (hL : L i0 J) (hf : pa i0 = -1) (hb : ∀ i, i < i0 → L i J → ¬ pa i = -1) : gS n (J + 1) L (fun i j => M i j ∨ (i = i0 ∧ j = J)) (upd pa i0 (nI J)) (upd pb J (nI i0)) := by
  obtain ⟨a1, a2, a3⟩ := h
  have fr : ∀ j, ¬ M i0 j := by
    rcases a2 i0 hi with ⟨-, x⟩ | ⟨j, x0, x1, -⟩
    · exact x
    · rw [hf] at x1
      exact absurd x1.symm (nI_m1 (by omega))
  refine ⟨pmI_t a1 hi hL fr (fun i h1 h2 => ?_), fun i h1 => ?_, fun j hj => ?_⟩
  · rcases a2 i (by omega) with ⟨x1, -⟩ | ⟨j, -, -, x3⟩
    · exact absurd x1 (hb i h1 h2)
    · exact ⟨j, x3⟩
  · by_cases e : i = i0
    · rw [e, updS]
      exact Or.inr ⟨J, by omega, rfl, Or.inr ⟨rfl, rfl⟩⟩
    · rw [updN e]
      rcases a2 i h1 with ⟨x1, x2⟩ | ⟨j, x1, x2, x3⟩
      · exact Or.inl ⟨x1, fun j z => z.elim (x2 j) (fun z => e z.1)⟩
      · exact Or.inr ⟨j, by omega, x2, Or.inl x3⟩
  · by_cases e : j = J
    · rw [e, updS]
      exact Or.inr ⟨i0, hi, rfl, Or.inr ⟨rfl, rfl⟩⟩
    · rw [updN e]
      rcases a3 j (by omega) with ⟨x1, x2⟩ | ⟨i, x1, x2, x3⟩
      · exact Or.inl ⟨x1, fun i z => z.elim (x2 i) (fun z => e z.2)⟩
      · exact Or.inr ⟨i, x1, x2, Or.inl x3⟩
/-- two pairings, the one of sorted tables: the partners are the same ones -/
theorem gS_u {n m : Nat} {L L' M N : Nat → Nat → Prop} {pa pb qa qb : Nat → Int32} {a b : Nat → Nat} (h : gS n m L M pa pb) (h' : gS n m L' N qa qb) (ha : ∀ i, i < n → a i < n) (hb : ∀ j, j < m → b j < m) (ai : ∀ i k, i < n → k < n → a i = a k → i = k) (bi : ∀ i k, i < m → k < m → b i = b k → i = k) (as : ∀ p, p < n → ∃ i, i < n ∧ a i = p) (bs : ∀ p, p < m → ∃ j, j < m ∧ b j = p) (hL : ∀ i j, i < n → j < m → (L' (a i) (b j) ↔ L i j)) (ho : ∀ i k j, i < n → k < n → j < m → L i j → L k j → k < i → a k < a i) (ho' : ∀ i j k, i < n → j < m → k < m → L i j → L i k → k < j → b k < b j) : (∀ i, i < n → (pa i = -1 ∧ qa (a i) = -1) ∨ ∃ j, j < m ∧ pa i = nI j ∧ qa (a i) = nI (b j) ∧ pb j = nI i) ∧ ∀ j, j < m → (pb j = -1 ∧ qb (b j) = -1) ∨ ∃ i, i < n ∧ pb j = nI i ∧ qb (b j) = nI (a i) ∧ pa i = nI j := by
  have u := pmI_u h.1 (pmI_s h'.1 ha hb ai bi as bs hL ho ho')
  obtain ⟨a1, a2, a3⟩ := h
  obtain ⟨b1, b2, b3⟩ := h'
  have pp : ∀ i j, M i j → pa i = nI j ∧ pb j = nI i ∧ qa (a i) = nI (b j) ∧ qb (b j) = nI (a i) := fun i j hM => by
    obtain ⟨q1, q2, q3⟩ := a1.1 i j hM
    have hN := ((u i j).mp hM).2.2
    refine ⟨?_, ?_, ?_, ?_⟩
    · rcases a2 i q1 with ⟨-, x⟩ | ⟨k, x1, x2, x3⟩
      · exact absurd hM (x j)
      · rw [x2, a1.2.1 i k j x3 hM]
    · rcases a3 j q2 with ⟨-, x⟩ | ⟨k, x1, x2, x3⟩
      · exact absurd hM (x i)
      · rw [x2, a1.2.2.1 k i j x3 hM]
    · rcases b2 _ (ha i q1) with ⟨-, x⟩ | ⟨k, x1, x2, x3⟩
      · exact absurd hN (x _)
      · rw [x2, b1.2.1 _ k _ x3 hN]
    · rcases b3 _ (hb j q2) with ⟨-, x⟩ | ⟨k, x1, x2, x3⟩
      · exact absurd hN (x _)
      · rw [x2, b1.2.2.1 k _ _ x3 hN]
  refine ⟨fun i hi => ?_, fun j hj => ?_⟩
  · rcases a2 i hi with ⟨x1, x2⟩ | ⟨j, x1, x2, x3⟩
    · refine Or.inl ⟨x1, ?_⟩
      rcases b2 _ (ha i hi) with ⟨y1, -⟩ | ⟨k, y1, y2, y3⟩
      · exact y1
      · obtain ⟨j, j1, j2⟩ := bs k y1
        rw [← j2] at y3
        exact absurd ((u i j).mpr ⟨hi, j1, y3⟩) (x2 j)
    · obtain ⟨p1, p2, p3, p4⟩ := pp i j x3
      exact Or.inr ⟨j, x1, p1, p3, p2⟩
  · rcases a3 j hj with ⟨x1, x2⟩ | ⟨i, x1, x2, x3⟩
    · refine Or.inl ⟨x1, ?_⟩
      rcases b3 _ (hb j hj) with ⟨y1, -⟩ | ⟨k, y1, y2, y3⟩
      · exact y1
      · obtain ⟨i, i1, i2⟩ := as k y1
        rw [← i2] at y3
        exact absurd ((u i j).mpr ⟨i1, hj, y3⟩) (x2 i)
    · obtain ⟨p1, p2, p3, p4⟩ := pp i j x3
      exact Or.inr ⟨i, x1, p2, p4, p1⟩
