/-! names put behind names -/
theorem nmAllK_f {w : nV} {n c : Nat} : ∀ (d k : Nat) (v : nV), v.1 = c + 1 → v.2.2 c = k → k + d ≤ 20 → (nmAllK w n d k v).1 = c + 1 ∧ (nmAllK w n d k v).2.2 c = k + d ∧ (∀ s, s ≠ c → (nmAllK w n d k v).2.2 s = v.2.2 s) ∧ (∀ j, j < c * 20 + k ∨ c * 20 + 20 ≤ j → (nmAllK w n d k v).2.1 j = v.2.1 j) ∧ ∀ j, k ≤ j → j < k + d → (nmAllK w n d k v).2.1 (c * 20 + j) = w.2.1 (n * 20 + j) := by
  intro d
  induction d with
  | zero => intro k v h1 h2 h3; exact ⟨h1, h2, fun _ _ => rfl, fun _ _ => rfl, fun j a b => by omega⟩
  | succ d ih =>
    intro k v h1 h2 h3
    have e : nmAdd v (w.2.1 (n * 20 + k)) = (v.1, upd v.2.1 (c * 20 + k) (w.2.1 (n * 20 + k)), va_up v.2.2 c (k + 1)) := by
      unfold nmAdd
      rw [show v.1 - 1 = c by omega, h2, if_pos (by omega)]
    show (nmAllK w n d (k + 1) (nmAdd v (w.2.1 (n * 20 + k)))).1 = c + 1 ∧ _
    have e2 : nmAllK w n (d + 1) k v = nmAllK w n d (k + 1) (nmAdd v (w.2.1 (n * 20 + k))) := rfl
    rw [e2, e]
    obtain ⟨a1, a2, a3, a4, a5⟩ := ih (k + 1) (v.1, upd v.2.1 (c * 20 + k) (w.2.1 (n * 20 + k)), va_up v.2.2 c (k + 1)) h1 (va_up_self _ _ _) (by omega)
    refine ⟨a1, by omega, fun s hs => (a3 s hs).trans (va_up_ne _ _ hs), fun j hj => (a4 j (by omega)).trans (updN (by omega)), fun j h1 h2 => ?_⟩
    by_cases e3 : j = k
    · subst e3
      rw [a4 (c * 20 + j) (by omega)]
      exact updS
    · exact a5 j (by omega) (by omega)
theorem nmAllN_f {L : Nat} {w : nV} (hw : ∀ k, w.2.2 k ≤ 20) : ∀ (d n : Nat) (v : nV), v.1 + d ≤ L → (nmAllN L w d n v).1 = v.1 + d ∧ (∀ s, s < v.1 → (nmAllN L w d n v).2.2 s = v.2.2 s) ∧ (∀ j, j < v.1 * 20 → (nmAllN L w d n v).2.1 j = v.2.1 j) ∧ ∀ s, s < d → (nmAllN L w d n v).2.2 (v.1 + s) = w.2.2 (n + s) ∧ ∀ k, k < w.2.2 (n + s) → (nmAllN L w d n v).2.1 ((v.1 + s) * 20 + k) = w.2.1 ((n + s) * 20 + k) := by
  intro d
  induction d with
  | zero => intro n v h; exact ⟨rfl, fun _ _ => rfl, fun _ _ => rfl, fun s hs => by omega⟩
  | succ d ih =>
    intro n v h
    have e : nmNew L v = (v.1 + 1, v.2.1, va_up v.2.2 v.1 0) := if_pos (by omega)
    have e2 : nmAllN L w (d + 1) n v = nmAllN L w d (n + 1) (nmAllK w n (w.2.2 n - 0) 0 (nmNew L v)) := rfl
    rw [e2, e]
    have := hw n
    obtain ⟨a1, a2, a3, a4, a5⟩ := nmAllK_f (w := w) (n := n) (c := v.1) (w.2.2 n - 0) 0 (v.1 + 1, v.2.1, va_up v.2.2 v.1 0) rfl (va_up_self _ _ _) (by omega)
    obtain ⟨b1, b2, b3, b4⟩ := ih (n + 1) (nmAllK w n (w.2.2 n - 0) 0 (v.1 + 1, v.2.1, va_up v.2.2 v.1 0)) (by omega)
    refine ⟨by omega, fun s hs => ?_, fun j hj => ?_, fun s hs => ?_⟩
    · rw [b2 s (by omega), a3 s (by omega)]
      exact va_up_ne _ _ (by omega)
    · rw [b3 j (by omega), a4 j (by omega)]
    · by_cases e3 : s = 0
      · subst e3
        refine ⟨?_, fun k hk => ?_⟩
        · rw [b2 (v.1 + 0) (by omega)]
          show (nmAllK w n (w.2.2 n - 0) 0 _).2.2 v.1 = _
          rw [a2]
          show 0 + (w.2.2 n - 0) = w.2.2 n
          omega
        · have hk : k < w.2.2 n := hk
          rw [b3 _ (by omega)]
          exact a5 k (by omega) (by omega)
      · have q := b4 (s - 1) (by omega)
        rw [a1, show v.1 + 1 + (s - 1) = v.1 + s by omega, show n + 1 + (s - 1) = n + s by omega] at q
        exact q
theorem nmAll_f {L : Nat} {v w : nV} (hw : ∀ k, w.2.2 k ≤ 20) (h : v.1 + w.1 ≤ L) : (nmAll L v w).1 = v.1 + w.1 ∧ (∀ s, s < v.1 → (nmAll L v w).2.2 s = v.2.2 s) ∧ (∀ j, j < v.1 * 20 → (nmAll L v w).2.1 j = v.2.1 j) ∧ ∀ s, s < w.1 → (nmAll L v w).2.2 (v.1 + s) = w.2.2 s ∧ ∀ k, k < w.2.2 s → (nmAll L v w).2.1 ((v.1 + s) * 20 + k) = w.2.1 (s * 20 + k) := by
  obtain ⟨a1, a2, a3, a4⟩ := nmAllN_f (L := L) hw (w.1 - 0) 0 v (by omega)
  refine ⟨a1, a2, a3, fun s hs => ?_⟩
  have q := a4 s (by omega)
  rw [Nat.zero_add] at q
  exact q
theorem nmAll_0 {s : (Nat → Int32) × (Nat → Nat)} {w : nV} (hw : nOk 3 w) : (nmAll 3 (0, s) w).1 = w.1 ∧ ∀ s', s' < w.1 → (nmAll 3 (0, s) w).2.2 s' = w.2.2 s' ∧ ∀ k, k < w.2.2 s' → (nmAll 3 (0, s) w).2.1 (s' * 20 + k) = w.2.1 (s' * 20 + k) := by
  obtain ⟨a1, _, _, a4⟩ := nmAll_f (L := 3) (v := (0, s)) (w := w) hw.2.2 (by show 0 + w.1 ≤ 3; have := hw.1; omega)
  refine ⟨by rw [a1]; exact Nat.zero_add _, fun s' hs => ?_⟩
  have q := a4 s' hs
  rw [show ((0, s) : nV).1 + s' = s' from Nat.zero_add _] at q
  exact q