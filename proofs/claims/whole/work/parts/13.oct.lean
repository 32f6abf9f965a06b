/-! Octets: the number n of octets, the row g, whether it grew too long -/
def oc (f : aH) (a n : Nat) (g : Nat → Int32) (z : Int32) : Prop := f a = .inr (6, [.ref (a + 1), .int (nI n), .int z]) ∧ f (a + 1) = .inl (0, 8000, .inl g)
def ocS (f : aH) (a n : Nat) (g : Nat → Int32) (z : Int32) : aH := va_up (va_up f (a + 1) (.inl (0, 8000, .inl g))) a (.inr (6, [.ref (a + 1), .int (nI n), .int z]))
theorem oc_S (f : aH) (a n : Nat) (g : Nat → Int32) (z : Int32) : oc (ocS f a n g z) a n g z := ⟨va_up_self _ _ _, (va_up_ne _ _ (by omega)).trans (va_up_self _ _ _)⟩
theorem oc_ne {f : aH} {a n : Nat} {g : Nat → Int32} {z : Int32} {b : Nat} (h1 : b ≠ a) (h2 : b ≠ a + 1) : ocS f a n g z b = f b := (va_up_ne _ _ h1).trans (va_up_ne _ _ h2)
theorem oc_ext {f f' : aH} {a n : Nat} {g : Nat → Int32} {z : Int32} (h1 : f' a = .inr (6, [.ref (a + 1), .int (nI n), .int z])) (h2 : f' (a + 1) = .inl (0, 8000, .inl g)) (h3 : ∀ b, b ≠ a → b ≠ a + 1 → f' b = f b) : f' = ocS f a n g z := by
  funext b
  by_cases e1 : b = a
  · subst e1; rw [h1]; exact (oc_S f b n g z).1.symm
  · by_cases e2 : b = a + 1
    · subst e2; rw [h2]; exact (oc_S f a n g z).2.symm
    · rw [h3 b e1 e2, oc_ne e1 e2]
theorem oc_SS {f : aH} {a n m : Nat} {g k : Nat → Int32} {z w : Int32} : ocS (ocS f a n g z) a m k w = ocS f a m k w := (oc_ext (oc_S _ _ _ _ _).1 (oc_S _ _ _ _ _).2 (fun b h1 h2 => by rw [oc_ne h1 h2, oc_ne h1 h2]))
theorem oc_id {f : aH} {a n : Nat} {g : Nat → Int32} {z : Int32} (h : oc f a n g z) : ocS f a n g z = f := (oc_ext h.1 h.2 (fun _ _ _ => rfl)).symm
/-- octet k, or -1 -/
def ocAt (n : Nat) (g : Nat → Int32) (k : Int32) : Int32 := if 0 ≤ k ∧ k < nI n then g k.toNatClampNeg else -1
theorem ocAt_in {n j : Nat} {g : Nat → Int32} (h : j < n) (hn : n ≤ 8000) : ocAt n g (nI j) = g j := by
  unfold ocAt
  rw [if_pos ⟨nI_pos' (by omega), nI_lt h (by omega)⟩, nI_clamp (by omega)]
theorem ocAt_out {n j : Nat} {g : Nat → Int32} (h : n ≤ j) (hj : j < 2 ^ 31) : ocAt n g (nI j) = -1 := by
  unfold ocAt
  rw [if_neg (fun q => nI_nlt h hj q.2)]

set_option maxRecDepth 100000 in
set_option maxHeartbeats 4000000 in
/-- Octets.clear() -/
theorem sX6_clear {E : eN} (hE : eOk E) {f : aH} {t : Nat} {a n : Nat} {g : Nat → Int32} {z : Int32} (h : oc f a n g z) : mT E mX6_clear 0 0 [.ref a] f t (fun o f' t' => o = .inl none ∧ t' = t ∧ f' = ocS f a 0 g 0) := by
  obtain ⟨h1, h2⟩ := h
  refine mT_of (n := 0) (lo := [some (.ref a)]) (by decide) (by exact Nat.le_of_ble_eq_true rfl) rfl rfl ?_
  refine v_aload_n dX6_clear_0 rfl (by rfl) ?_
  refine v_iconst (v := nI 0) dX6_clear_1 (by decide) ?_
  refine v_putf hE dX6_clear_2 fX6_15 (by repeat (first | assumption | exact va_up_self _ _ _ | refine (va_up_ne _ _ (by omega)).trans ?_)) (by exact Nat.le_of_ble_eq_true rfl) (by rfl) (by rfl) (by rfl) ?_
  refine v_aload_n dX6_clear_5 rfl (by rfl) ?_
  refine v_iconst (v := nI 0) dX6_clear_6 (by decide) ?_
  refine v_putf hE dX6_clear_7 fX6_19 (by repeat (first | assumption | exact va_up_self _ _ _ | refine (va_up_ne _ _ (by omega)).trans ?_)) (by exact Nat.le_of_ble_eq_true rfl) (by rfl) (by rfl) (by rfl) ?_
  refine v_ret dX6_clear_10 rfl ?_
  exact ⟨rfl, rfl, oc_ext (by repeat (first | assumption | exact va_up_self _ _ _ | refine (va_up_ne _ _ (by omega)).trans ?_)) (by repeat (first | assumption | exact va_up_self _ _ _ | refine (va_up_ne _ _ (by omega)).trans ?_)) (fun b h1 h2 => by simp only [va_up, h1, h2, if_false])⟩

set_option maxRecDepth 100000 in
set_option maxHeartbeats 4000000 in
/-- Octets.add(x) -/
theorem sX6_add {E : eN} (hE : eOk E) {f : aH} {t : Nat} {a n : Nat} {g : Nat → Int32} {z : Int32} {x : Int32} (h : oc f a n g z) (hn : n ≤ 8000) : mT E mX6_add 0 0 [.ref a, .int x] f t (fun o f' t' => o = .inl none ∧ t' = t ∧ f' = if n < 8000 then ocS f a (n + 1) (upd g n x) z else ocS f a n g 1) := by
  obtain ⟨h1, h2⟩ := h
  refine mT_of (n := 0) (lo := [some (.ref a), some (.int x)]) (by decide) (by exact Nat.le_of_ble_eq_true rfl) rfl rfl ?_
  refine v_aload_n dX6_add_0 rfl (by rfl) ?_
  refine v_getf hE dX6_add_1 fX6_15 (by repeat (first | assumption | exact va_up_self _ _ _ | refine (va_up_ne _ _ (by omega)).trans ?_)) (by rfl) ?_
  refine v_sipush (v := nI 8000) dX6_add_4 (by decide) ?_
  refine v_icmp_geN (tgt := 33) dX6_add_7 (by decide) (by omega) (by omega) (fun c7 => ?_) (fun c7 => ?_)
  · refine v_aload_n dX6_add_33 rfl (by rfl) ?_
    refine v_iconst (v := nI 1) dX6_add_34 (by decide) ?_
    refine v_putf hE dX6_add_35 fX6_19 (by repeat (first | assumption | exact va_up_self _ _ _ | refine (va_up_ne _ _ (by omega)).trans ?_)) (by exact Nat.le_of_ble_eq_true rfl) (by rfl) (by rfl) (by rfl) ?_
    refine v_ret dX6_add_38 rfl ?_
    refine ⟨rfl, rfl, ?_⟩
    first | rw [if_pos (by omega)] | rw [if_neg (by omega)]
    exact oc_ext (by repeat (first | assumption | exact va_up_self _ _ _ | refine (va_up_ne _ _ (by omega)).trans ?_)) (by repeat (first | assumption | exact va_up_self _ _ _ | refine (va_up_ne _ _ (by omega)).trans ?_)) (fun b h1 h2 => by simp only [va_up, h1, h2, if_false])
  · refine v_aload_n dX6_add_10 rfl (by rfl) ?_
    refine v_getf hE dX6_add_11 fX6_9 (by repeat (first | assumption | exact va_up_self _ _ _ | refine (va_up_ne _ _ (by omega)).trans ?_)) (by rfl) ?_
    refine v_aload_n dX6_add_14 rfl (by rfl) ?_
    refine v_getf hE dX6_add_15 fX6_15 (by repeat (first | assumption | exact va_up_self _ _ _ | refine (va_up_ne _ _ (by omega)).trans ?_)) (by rfl) ?_
    refine v_iload_n dX6_add_18 rfl (by rfl) ?_
    refine v_iast hE dX6_add_19 (by repeat (first | assumption | exact va_up_self _ _ _ | refine (va_up_ne _ _ (by omega)).trans ?_)) (by omega) (by omega) ?_
    refine v_aload_n dX6_add_20 rfl (by rfl) ?_
    refine v_dup dX6_add_21 rfl ?_
    refine v_getf hE dX6_add_22 fX6_15 (by repeat (first | assumption | exact va_up_self _ _ _ | refine (va_up_ne _ _ (by omega)).trans ?_)) (by rfl) ?_
    refine v_iconst (v := nI 1) dX6_add_25 (by decide) ?_
    refine v_iaddN dX6_add_26 ?_
    refine v_putf hE dX6_add_27 fX6_15 (by repeat (first | assumption | exact va_up_self _ _ _ | refine (va_up_ne _ _ (by omega)).trans ?_)) (by exact Nat.le_of_ble_eq_true rfl) (by rfl) (by rfl) (by rfl) ?_
    refine v_goto (tgt := 38) dX6_add_30 (by decide) ?_
    refine v_ret dX6_add_38 rfl ?_
    refine ⟨rfl, rfl, ?_⟩
    first | rw [if_pos (by omega)] | rw [if_neg (by omega)]
    exact oc_ext (by repeat (first | assumption | exact va_up_self _ _ _ | refine (va_up_ne _ _ (by omega)).trans ?_)) (by repeat (first | assumption | exact va_up_self _ _ _ | refine (va_up_ne _ _ (by omega)).trans ?_)) (fun b h1 h2 => by simp only [va_up, h1, h2, if_false])

set_option maxRecDepth 100000 in
set_option maxHeartbeats 4000000 in
/-- Octets.at(k) -/
theorem sX6_at {E : eN} (hE : eOk E) {f : aH} {t : Nat} {a n : Nat} {g : Nat → Int32} {z : Int32} {k : Int32} (h : oc f a n g z) (hn : n ≤ 8000) : mT E mX6_at 0 0 [.ref a, .int k] f t (fun o f' t' => o = .inl (some (.int (ocAt n g k))) ∧ t' = t ∧ f' = f) := by
  obtain ⟨h1, h2⟩ := h
  refine mT_of (n := 0) (lo := [some (.ref a), some (.int k)]) (by decide) (by exact Nat.le_of_ble_eq_true rfl) rfl rfl ?_
  refine v_iload_n dX6_at_0 rfl (by rfl) ?_
  refine v_if_lt (tgt := 21) dX6_at_1 (by decide) (fun c1 => ?_) (fun c1 => ?_)
  · refine v_iconst (v := (-1)) dX6_at_21 (by decide) ?_
    refine v_iret dX6_at_22 rfl (by rfl) ?_
    refine ⟨?_, rfl, rfl⟩
    first | rw [ocAt_in (by assumption) hn] | rw [ocAt_out (by assumption) (by omega)] | (unfold ocAt; rw [if_neg (fun q => absurd c1 (Int32.not_lt.mpr q.1))])
  · obtain ⟨j, hj, rfl⟩ := nI_of c1
    refine v_iload_n dX6_at_4 rfl (by rfl) ?_
    refine v_aload_n dX6_at_5 rfl (by rfl) ?_
    refine v_getf hE dX6_at_6 fX6_15 (by repeat (first | assumption | exact va_up_self _ _ _ | refine (va_up_ne _ _ (by omega)).trans ?_)) (by rfl) ?_
    refine v_icmp_geN (tgt := 21) dX6_at_9 (by decide) (by omega) (by omega) (fun c9 => ?_) (fun c9 => ?_)
    · refine v_iconst (v := (-1)) dX6_at_21 (by decide) ?_
      refine v_iret dX6_at_22 rfl (by rfl) ?_
      refine ⟨?_, rfl, rfl⟩
      first | rw [ocAt_in (by assumption) hn] | rw [ocAt_out (by assumption) (by omega)] | (unfold ocAt; rw [if_neg (fun q => absurd c1 (Int32.not_lt.mpr q.1))])
    · refine v_aload_n dX6_at_12 rfl (by rfl) ?_
      refine v_getf hE dX6_at_13 fX6_9 (by repeat (first | assumption | exact va_up_self _ _ _ | refine (va_up_ne _ _ (by omega)).trans ?_)) (by rfl) ?_
      refine v_iload_n dX6_at_16 rfl (by rfl) ?_
      refine v_iald hE dX6_at_17 (by repeat (first | assumption | exact va_up_self _ _ _ | refine (va_up_ne _ _ (by omega)).trans ?_)) (by omega) (by omega) ?_
      refine v_goto (tgt := 22) dX6_at_18 (by decide) ?_
      refine v_iret dX6_at_22 rfl (by rfl) ?_
      refine ⟨?_, rfl, rfl⟩
      first | rw [ocAt_in (by assumption) hn] | rw [ocAt_out (by assumption) (by omega)] | (unfold ocAt; rw [if_neg (fun q => absurd c1 (Int32.not_lt.mpr q.1))])
