/-! the head line -/
theorem tx5_l : tx5.length = 38 := by decide
theorem tx5_t : ∀ m, m < 38 → (tx5.getD m 0 = 9 ↔ (m = 6 ∨ m = 10 ∨ m = 13 ∨ m = 17 ∨ m = 21 ∨ m = 26 ∨ m = 33)) := by decide
theorem tx5_b : ∀ m, m < 38 → tx5.getD m 0 < 128 := by decide
/-- a line that begins as a head line does -/
theorem hd_b {u : tS} {i j : Nat} (h : mBeg u i j 1 = true) : 38 ≤ j - i ∧ ∀ m, m < 38 → mOct u (i + m) = nI (tx5.getD m 0) := by
  unfold mBeg at h
  rw [Bool.and_eq_true, decide_eq_true_eq, allB_iff] at h
  exact ⟨h.1, fun m hm => of_decide_eq_true (h.2 m (by omega) (by show m < 0 + 38; omega))⟩
theorem hd_i {u : tS} {i j : Nat} (h1 : 38 ≤ j - i) (h2 : ∀ m, m < 38 → mOct u (i + m) = nI (tx5.getD m 0)) : mBeg u i j 1 = true := by
  unfold mBeg
  rw [Bool.and_eq_true, decide_eq_true_eq, allB_iff]
  exact ⟨h1, fun m _ hm => decide_eq_true (h2 m (by have hm : m < 0 + 38 := hm; omega))⟩
theorem tIs_5 {u : tS} {i j : Nat} (hu : u.1 ≤ 8000) : tIs u i j tx5 = true ↔ (j - i = 38 ∧ i + 38 ≤ u.1 ∧ ∀ m, m < 38 → mOct u (i + m) = nI (tx5.getD m 0)) := by
  unfold tIs tBeg
  rw [Bool.and_eq_true, Bool.and_eq_true, decide_eq_true_eq, decide_eq_true_eq, allB_iff, tx5_l]
  constructor
  · rintro ⟨a, b, c⟩
    refine ⟨a, b, fun m hm => ?_⟩
    rw [mOct_in (by omega) hu]
    exact of_decide_eq_true (c m (by omega) (by omega))
  · rintro ⟨a, b, c⟩
    refine ⟨a, b, fun m _ hm => decide_eq_true ?_⟩
    rw [← mOct_in (u := u) (n := i + m) (by omega) hu]
    exact c m (by omega)
theorem hd_cut {u : tS} {q : qV} (hL : qBg q ≤ qE q) (hb : mBeg u (qBg q) (qE q) 1 = true) : 7 < qCm (qCut u q) ∧ qSt (qCut u q) 7 = qBg q + 34 ∧ qSt (qCut u q) 8 = mCE u (qE q - (qBg q + 34)) (qBg q + 34) + 1 ∧ ∀ p, qBg q + 34 ≤ p → p < qBg q + 38 → ¬ mOct u p = nI 9 := by
  obtain ⟨b1, b2⟩ := hd_b hb
  obtain ⟨h1, h2, h3, h4, h5⟩ := qCut_f (u := u) (v := q) hL
  have ht : ∀ m, m < 38 → (m = 6 ∨ m = 10 ∨ m = 13 ∨ m = 17 ∨ m = 21 ∨ m = 26 ∨ m = 33) → mOct u (qBg q + m) = nI 9 := fun m hm h => by
    rw [b2 m hm, (tx5_t m hm).mpr h]
  have nt9 : ∀ p, qBg q ≤ p → p < qBg q + 38 → ¬ (p - qBg q = 6 ∨ p - qBg q = 10 ∨ p - qBg q = 13 ∨ p - qBg q = 17 ∨ p - qBg q = 21 ∨ p - qBg q = 26 ∨ p - qBg q = 33) → ¬ mOct u p = nI 9 := fun p p1 p2 hn z => by
    have := b2 (p - qBg q) (by omega)
    rw [show qBg q + (p - qBg q) = p by omega, z] at this
    have hlt := tx5_b (p - qBg q) (by omega)
    exact hn ((tx5_t (p - qBg q) (by omega)).mp (nI_inj this (by decide) (by omega)).symm)
  have s0 : qSt (qCut u q) 0 = qBg q + 0 := h3
  have m0 : 0 < qCm (qCut u q) := h2
  have s1 : qSt (qCut u q) 1 = qBg q + 7 := by
    have q9 := h4 0 (by omega) (by decide)
    rw [q9.2, s0, mCE_eq (k := qBg q + 6) (e := qE q) (qE q - (qBg q + 0)) (qBg q + 0) (by omega) (by omega) (by omega) (fun p p1 p2 => nt9 p (by omega) (by omega) (by omega)) (Or.inl (ht 6 (by decide) (by decide)))]
  have m1 : 1 < qCm (qCut u q) := by
    by_cases e : qCm (qCut u q) = 1
    · have q9 := h5 (by omega)
      rw [e, s1] at q9
      omega
    · omega
  have s2 : qSt (qCut u q) 2 = qBg q + 11 := by
    have q9 := h4 1 (by omega) (by decide)
    rw [q9.2, s1, mCE_eq (k := qBg q + 10) (e := qE q) (qE q - (qBg q + 7)) (qBg q + 7) (by omega) (by omega) (by omega) (fun p p1 p2 => nt9 p (by omega) (by omega) (by omega)) (Or.inl (ht 10 (by decide) (by decide)))]
  have m2 : 2 < qCm (qCut u q) := by
    by_cases e : qCm (qCut u q) = 2
    · have q9 := h5 (by omega)
      rw [e, s2] at q9
      omega
    · omega
  have s3 : qSt (qCut u q) 3 = qBg q + 14 := by
    have q9 := h4 2 (by omega) (by decide)
    rw [q9.2, s2, mCE_eq (k := qBg q + 13) (e := qE q) (qE q - (qBg q + 11)) (qBg q + 11) (by omega) (by omega) (by omega) (fun p p1 p2 => nt9 p (by omega) (by omega) (by omega)) (Or.inl (ht 13 (by decide) (by decide)))]
  have m3 : 3 < qCm (qCut u q) := by
    by_cases e : qCm (qCut u q) = 3
    · have q9 := h5 (by omega)
      rw [e, s3] at q9
      omega
    · omega
  have s4 : qSt (qCut u q) 4 = qBg q + 18 := by
    have q9 := h4 3 (by omega) (by decide)
    rw [q9.2, s3, mCE_eq (k := qBg q + 17) (e := qE q) (qE q - (qBg q + 14)) (qBg q + 14) (by omega) (by omega) (by omega) (fun p p1 p2 => nt9 p (by omega) (by omega) (by omega)) (Or.inl (ht 17 (by decide) (by decide)))]
  have m4 : 4 < qCm (qCut u q) := by
    by_cases e : qCm (qCut u q) = 4
    · have q9 := h5 (by omega)
      rw [e, s4] at q9
      omega
    · omega
  have s5 : qSt (qCut u q) 5 = qBg q + 22 := by
    have q9 := h4 4 (by omega) (by decide)
    rw [q9.2, s4, mCE_eq (k := qBg q + 21) (e := qE q) (qE q - (qBg q + 18)) (qBg q + 18) (by omega) (by omega) (by omega) (fun p p1 p2 => nt9 p (by omega) (by omega) (by omega)) (Or.inl (ht 21 (by decide) (by decide)))]
  have m5 : 5 < qCm (qCut u q) := by
    by_cases e : qCm (qCut u q) = 5
    · have q9 := h5 (by omega)
      rw [e, s5] at q9
      omega
    · omega
  have s6 : qSt (qCut u q) 6 = qBg q + 27 := by
    have q9 := h4 5 (by omega) (by decide)
    rw [q9.2, s5, mCE_eq (k := qBg q + 26) (e := qE q) (qE q - (qBg q + 22)) (qBg q + 22) (by omega) (by omega) (by omega) (fun p p1 p2 => nt9 p (by omega) (by omega) (by omega)) (Or.inl (ht 26 (by decide) (by decide)))]
  have m6 : 6 < qCm (qCut u q) := by
    by_cases e : qCm (qCut u q) = 6
    · have q9 := h5 (by omega)
      rw [e, s6] at q9
      omega
    · omega
  have s7 : qSt (qCut u q) 7 = qBg q + 34 := by
    have q9 := h4 6 (by omega) (by decide)
    rw [q9.2, s6, mCE_eq (k := qBg q + 33) (e := qE q) (qE q - (qBg q + 27)) (qBg q + 27) (by omega) (by omega) (by omega) (fun p p1 p2 => nt9 p (by omega) (by omega) (by omega)) (Or.inl (ht 33 (by decide) (by decide)))]
  have m7 : 7 < qCm (qCut u q) := by
    by_cases e : qCm (qCut u q) = 7
    · have q9 := h5 (by omega)
      rw [e, s7] at q9
      omega
    · omega
  refine ⟨m7, s7, ?_, fun p p1 p2 => nt9 p (by omega) (by omega) (by omega)⟩
  rw [(h4 7 m7 (by decide)).2, s7]
theorem mCE_at {u : tS} : ∀ (d i : Nat), mOct u (mCE u d i) = nI 9 ∨ mCE u d i = i + d := by
  intro d
  induction d with
  | zero => intro i; exact Or.inr rfl
  | succ d ih =>
    intro i
    unfold mCE
    split
    · rename_i h
      exact Or.inl h
    · rcases ih (i + 1) with h | h
      · exact Or.inl h
      · exact Or.inr (by omega)
/-- the class's answer at a head line without names, or with too many -/
theorem hd_no {u : tS} {q : qV} {n : nV} (hu : u.1 ≤ 8000) (hL : qBg q ≤ qE q) (hE : qE q < u.1) (hb : mBeg u (qBg q) (qE q) 1 = false) : (qHead u (qCut u q) n).1 = false := by
  obtain ⟨h1, h2, h3, h4, h5⟩ := qCut_f (u := u) (v := q) hL
  have hx : ∀ j, j ≤ qE q → tIs u (qBg q) j tx5 = false := fun j hj => Bool.eq_false_iff.mpr (fun z => by
    obtain ⟨a, b, c⟩ := (tIs_5 hu).mp z
    rw [hd_i (by omega) c] at hb
    exact Bool.noConfusion hb)
  unfold qHead
  by_cases c8 : qCm (qCut u q) = 8
  · rw [if_pos c8]
    exact hx (qE q) (Nat.le_refl _)
  · rw [if_neg c8]
    by_cases c9 : qCm (qCut u q) < 10 ∨ 12 < qCm (qCut u q)
    · rw [if_pos c9]
    · rw [if_neg c9]
      have q8 := h4 8 (by omega) (by decide)
      rw [if_neg (fun z => by
        have := hx (qSt (qCut u q) 8 - 1) (by omega)
        have z1 : tIs u (qBg q) (qSt (qCut u q) 8 - 1) tx5 = true := z.1
        rw [this] at z1
        exact Bool.noConfusion z1)]
theorem hd_8 {u : tS} {q : qV} {n : nV} (hu : u.1 ≤ 8000) (hL : qBg q ≤ qE q) (hE : qE q < u.1) (hb : mBeg u (qBg q) (qE q) 1 = true) (he : qBg q + 38 = qE q) : qHead u (qCut u q) n = (true, n) ∧ qCm (qCut u q) = 8 := by
  obtain ⟨h1, h2, h3, h4, h5⟩ := qCut_f (u := u) (v := q) hL
  obtain ⟨k1, k2, k3, k4⟩ := hd_cut hL hb
  have s8 : qSt (qCut u q) 8 = qE q + 1 := by
    rw [k3, mCE_eq (k := qE q) (e := qE q) _ _ (by omega) (by omega) (Nat.le_refl _) (fun p p1 p2 => k4 p p1 (by omega)) (Or.inr rfl)]
  have hc : qCm (qCut u q) = 8 := by
    by_cases e : qCm (qCut u q) = 8
    · exact e
    · have := (h4 8 (by omega) (by decide)).1
      omega
  refine ⟨?_, hc⟩
  unfold qHead
  rw [if_pos hc]
  refine Prod.ext ?_ rfl
  show tIs u (qBg q) (qE q) tx5 = true
  exact (tIs_5 hu).mpr ⟨by omega, by omega, (hd_b hb).2⟩
theorem hd_x {u : tS} {q : qV} {n : nV} (hu : u.1 ≤ 8000) (hL : qBg q ≤ qE q) (hE : qE q < u.1) (hb : mBeg u (qBg q) (qE q) 1 = true) (hlt : qBg q + 38 < qE q) (ht : ¬ mOct u (qBg q + 38) = nI 9) : (qHead u (qCut u q) n).1 = false := by
  obtain ⟨h1, h2, h3, h4, h5⟩ := qCut_f (u := u) (v := q) hL
  obtain ⟨k1, k2, k3, k4⟩ := hd_cut hL hb
  unfold qHead
  by_cases c8 : qCm (qCut u q) = 8
  · rw [if_pos c8]
    exact Bool.eq_false_iff.mpr (fun z => by
      obtain ⟨a, b, c⟩ := (tIs_5 hu).mp z
      have a : qE q - qBg q = 38 := a
      omega)
  · rw [if_neg c8]
    by_cases c9 : qCm (qCut u q) < 10 ∨ 12 < qCm (qCut u q)
    · rw [if_pos c9]
    · rw [if_neg c9, if_neg (fun z => by
        obtain ⟨a, b, c⟩ := (tIs_5 hu).mp z.1
        have a : qSt (qCut u q) 8 - 1 - qBg q = 38 := a
        have e9 : mCE u (qE q - (qBg q + 34)) (qBg q + 34) = qBg q + 38 := by omega
        rcases mCE_at (u := u) (qE q - (qBg q + 34)) (qBg q + 34) with w | w
        · rw [e9] at w
          exact ht w
        · omega)]
theorem hd_9 {u : tS} {q : qV} {n : nV} (hu : u.1 ≤ 8000) (hL : qBg q ≤ qE q) (hE : qE q < u.1) (hb : mBeg u (qBg q) (qE q) 1 = true) (hlt : qBg q + 38 < qE q) (ht : mOct u (qBg q + 38) = nI 9) : 8 < qCm (qCut u q) ∧ qSt (qCut u q) 8 = qBg q + 39 ∧ (qCol u (qCut u q) 8 tx6 = false → (qHead u (qCut u q) n).1 = false) ∧ (qCm (qCut u q) = 9 → (qHead u (qCut u q) n).1 = false) ∧ (12 < qCm (qCut u q) → (qHead u (qCut u q) n).1 = false) ∧ (qCol u (qCut u q) 8 tx6 = true → 9 < qCm (qCut u q) → qCm (qCut u q) ≤ 12 → qHead u (qCut u q) n = qHeadL u (qCut u q) (qCm (qCut u q) - 9) 9 n) := by
  obtain ⟨h1, h2, h3, h4, h5⟩ := qCut_f (u := u) (v := q) hL
  obtain ⟨k1, k2, k3, k4⟩ := hd_cut hL hb
  have s8 : qSt (qCut u q) 8 = qBg q + 39 := by
    rw [k3, mCE_eq (k := qBg q + 38) (e := qE q) _ _ (by omega) (by omega) (by omega) (fun p p1 p2 => k4 p p1 p2) (Or.inl ht)]
  have hc : 8 < qCm (qCut u q) := by
    by_cases e : qCm (qCut u q) = 8
    · have := h5 (by omega)
      rw [e, s8] at this
      omega
    · omega
  have h8 : ¬ qCm (qCut u q) = 8 := by omega
  have e5 : tIs u (qBg q) (qSt (qCut u q) 8 - 1) tx5 = true := (tIs_5 hu).mpr ⟨by omega, by omega, (hd_b hb).2⟩
  have e5 : tIs u (qBg (qCut u q)) (qSt (qCut u q) 8 - 1) tx5 = true := e5
  refine ⟨hc, s8, fun z => ?_, fun z => ?_, fun z => ?_, fun z z1 z2 => ?_⟩
  · unfold qHead
    rw [if_neg h8]
    by_cases c9 : qCm (qCut u q) < 10 ∨ 12 < qCm (qCut u q)
    · rw [if_pos c9]
    · rw [if_neg c9, if_neg (fun w => by rw [z] at w; exact Bool.noConfusion w.2)]
  · unfold qHead
    rw [if_neg h8, if_pos (by omega)]
  · unfold qHead
    rw [if_neg h8, if_pos (by omega)]
  · unfold qHead
    rw [if_neg h8, if_neg (by omega), if_pos ⟨e5, z⟩]
/-- names read so far -/
theorem qNmL_f {u : tS} {c : Nat} : ∀ (d k : Nat) (v : nV), v.1 = c + 1 → v.2.2 c + d ≤ 20 → (qNmL u d k v).1 = c + 1 ∧ (qNmL u d k v).2.2 c = v.2.2 c + d ∧ (∀ s, s ≠ c → (qNmL u d k v).2.2 s = v.2.2 s) ∧ ∀ j, (qNmL u d k v).2.1 j = if c * 20 + v.2.2 c ≤ j ∧ j < c * 20 + v.2.2 c + d then mOct u (k + (j - (c * 20 + v.2.2 c))) else v.2.1 j := by
  intro d
  induction d with
  | zero => intro k v h1 h2; exact ⟨h1, rfl, fun _ _ => rfl, fun j => (if_neg (by omega)).symm⟩
  | succ d ih =>
    intro k v h1 h2
    have e : nmAdd v (mOct u k) = (v.1, upd v.2.1 (c * 20 + v.2.2 c) (mOct u k), va_up v.2.2 c (v.2.2 c + 1)) := by
      unfold nmAdd
      rw [show v.1 - 1 = c by omega, if_pos (by omega)]
    have e2 : qNmL u (d + 1) k v = qNmL u d (k + 1) (nmAdd v (mOct u k)) := rfl
    have e3 : (va_up v.2.2 c (v.2.2 c + 1)) c = v.2.2 c + 1 := va_up_self _ _ _
    rw [e2, e]
    obtain ⟨a1, a2, a3, a4⟩ := ih (k + 1) (v.1, upd v.2.1 (c * 20 + v.2.2 c) (mOct u k), va_up v.2.2 c (v.2.2 c + 1)) h1 (by show (va_up v.2.2 c (v.2.2 c + 1)) c + d ≤ 20; rw [e3]; omega)
    refine ⟨a1, ?_, fun s hs => (a3 s hs).trans (va_up_ne _ _ hs), fun j => ?_⟩
    · rw [a2]
      show (va_up v.2.2 c (v.2.2 c + 1)) c + d = _
      rw [e3]
      omega
    · rw [a4 j]
      show (if c * 20 + (va_up v.2.2 c (v.2.2 c + 1)) c ≤ j ∧ j < c * 20 + (va_up v.2.2 c (v.2.2 c + 1)) c + d then mOct u (k + 1 + (j - (c * 20 + (va_up v.2.2 c (v.2.2 c + 1)) c))) else upd v.2.1 (c * 20 + v.2.2 c) (mOct u k) j) = _
      rw [e3]
      by_cases c1 : j = c * 20 + v.2.2 c
      · subst c1
        rw [if_neg (by omega), updS, if_pos (by omega), Nat.sub_self, Nat.add_zero]
      · by_cases c2 : c * 20 + (v.2.2 c + 1) ≤ j ∧ j < c * 20 + (v.2.2 c + 1) + d
        · rw [if_pos c2, if_pos (by omega), show k + 1 + (j - (c * 20 + (v.2.2 c + 1))) = k + (j - (c * 20 + v.2.2 c)) by omega]
        · rw [if_neg c2, if_neg (by omega), updN c1]