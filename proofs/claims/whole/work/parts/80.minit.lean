/-- a new model -/
def mNew : mV := ((fun _ _ => 0), fun j => if j = 3 then -1 else 0)
set_option maxRecDepth 100000 in
set_option maxHeartbeats 2000000 in
/-- VariantDeskModel() -/
theorem sX10_init {E : eN} (hE : eOk E) {f : aH} {t : Nat} {M : Nat} (h : f M = .inr (10, [.int 0, .null, .int 0, .int 0, .int 0, .null, .null, .null, .null, .null, .null, .null, .int 0, .null, .null, .null, .null, .null, .null, .null, .null, .null, .null, .null, .null, .null, .null, .null, .null, .null, .null, .null, .null, .null, .null, .null, .null, .int 0, .int 0, .int 0, .int 0, .null, .null, .int 0, .int 0, .int 0, .null, .null, .null, .null, .null, .int 0, .int 0])) (ht : t = M + 1) : mT E mX10_init 39 85678 [.ref M] f t (fun o f' t' => o = .inl none ∧ t' = M + 40 ∧ f' = mdS f M mNew) := by
  refine mT_of (n := 0) (lo := [some (.ref M)]) (by decide) (by exact Nat.le_of_ble_eq_true rfl) rfl rfl ?_
  subst ht
  have c9 := h
  have a9 : ∀ k, 1 ≤ k → k ≤ 0 → f (M + k) = .inl (mKn k, mSz k, .inl (fun _ => 0)) := fun k h1 h2 => by omega
  have n9 : ∀ b, b < M ∨ M + 0 < b → f b = f b := fun _ _ => rfl
  refine v_aload_n dX10_init_0 rfl (by rfl) ?_
  refine v_oinit hE dX10_init_1 oX10_1 (by decide) (by exact Nat.le_of_ble_eq_true rfl) ?_
  refine v_aload_n dX10_init_4 rfl (by rfl) ?_
  refine v_sipush (v := nI 8000) dX10_init_5 (by decide) ?_
  refine v_newB hE dX10_init_8 (by omega) (by omega) (by omega) ?_
  refine v_putF hE dX10_init_10 fX10_7 (by rfl) (by rfl) (by repeat (first | assumption | exact va_up_self _ _ _ | refine (va_up_ne _ _ (by omega)).trans ?_)) (by exact Nat.le_of_ble_eq_true rfl) (by rfl) (by rfl) (by rfl) ?_
  refine v_tt (t2 := M + 2) (by omega) ?_
  refine v_abs (P := fun g => g M = .inr (10, [.int 0, .ref (M + 1), .int 0, .int 0, .int 0, .null, .null, .null, .null, .null, .null, .null, .int 0, .null, .null, .null, .null, .null, .null, .null, .null, .null, .null, .null, .null, .null, .null, .null, .null, .null, .null, .null, .null, .null, .null, .null, .null, .int 0, .int 0, .int 0, .int 0, .null, .null, .int 0, .int 0, .int 0, .null, .null, .null, .null, .null, .int 0, .int 0]) ∧ (∀ k, 1 ≤ k → k ≤ 1 → g (M + k) = .inl (mKn k, mSz k, .inl (fun _ => 0))) ∧ ∀ b, b < M ∨ M + 1 < b → g b = f b) ⟨va_up_self _ _ _, fun k h1 h2 => by
    by_cases e : k = 1
    · subst e; exact (va_up_ne _ _ (by omega)).trans (va_up_self _ _ _)
    · exact (va_up_ne _ _ (by omega)).trans ((va_up_ne _ _ (by omega)).trans (a9 k h1 (by omega))), fun b hb => (va_up_ne _ _ (by omega)).trans ((va_up_ne _ _ (by omega)).trans (n9 b (by omega)))⟩ (fun g9 hf => ?_)
  clear c9 a9 n9
  obtain ⟨c9, a9, n9⟩ := hf
  refine v_aload_n dX10_init_13 rfl (by rfl) ?_
  refine v_iconst (v := (-1)) dX10_init_14 (by decide) ?_
  refine v_putf hE dX10_init_15 fX10_13 (by repeat (first | assumption | exact va_up_self _ _ _ | refine (va_up_ne _ _ (by omega)).trans ?_)) (by exact Nat.le_of_ble_eq_true rfl) (by rfl) (by rfl) (by rfl) ?_
  refine v_abs (P := fun g => g M = .inr (10, [.int 0, .ref (M + 1), .int 0, .int (-1), .int 0, .null, .null, .null, .null, .null, .null, .null, .int 0, .null, .null, .null, .null, .null, .null, .null, .null, .null, .null, .null, .null, .null, .null, .null, .null, .null, .null, .null, .null, .null, .null, .null, .null, .int 0, .int 0, .int 0, .int 0, .null, .null, .int 0, .int 0, .int 0, .null, .null, .null, .null, .null, .int 0, .int 0]) ∧ (∀ k, 1 ≤ k → k ≤ 1 → g (M + k) = .inl (mKn k, mSz k, .inl (fun _ => 0))) ∧ ∀ b, b < M ∨ M + 1 < b → g b = f b) ⟨va_up_self _ _ _, fun k h1 h2 => (va_up_ne _ _ (by omega)).trans (a9 k h1 h2), fun b hb => (va_up_ne _ _ (by omega)).trans (n9 b hb)⟩ (fun g9 hf => ?_)
  clear c9 a9 n9
  obtain ⟨c9, a9, n9⟩ := hf
  refine v_aload_n dX10_init_18 rfl (by rfl) ?_
  refine v_sipush (v := nI 180) dX10_init_19 (by decide) ?_
  refine v_newB hE dX10_init_22 (by omega) (by omega) (by omega) ?_
  refine v_putF hE dX10_init_24 fX10_17 (by rfl) (by rfl) (by repeat (first | assumption | exact va_up_self _ _ _ | refine (va_up_ne _ _ (by omega)).trans ?_)) (by exact Nat.le_of_ble_eq_true rfl) (by rfl) (by rfl) (by rfl) ?_
  refine v_tt (t2 := M + 3) (by omega) ?_
  refine v_abs (P := fun g => g M = .inr (10, [.int 0, .ref (M + 1), .int 0, .int (-1), .int 0, .ref (M + 2), .null, .null, .null, .null, .null, .null, .int 0, .null, .null, .null, .null, .null, .null, .null, .null, .null, .null, .null, .null, .null, .null, .null, .null, .null, .null, .null, .null, .null, .null, .null, .null, .int 0, .int 0, .int 0, .int 0, .null, .null, .int 0, .int 0, .int 0, .null, .null, .null, .null, .null, .int 0, .int 0]) ∧ (∀ k, 1 ≤ k → k ≤ 2 → g (M + k) = .inl (mKn k, mSz k, .inl (fun _ => 0))) ∧ ∀ b, b < M ∨ M + 2 < b → g b = f b) ⟨va_up_self _ _ _, fun k h1 h2 => by
    by_cases e : k = 2
    · subst e; exact (va_up_ne _ _ (by omega)).trans (va_up_self _ _ _)
    · exact (va_up_ne _ _ (by omega)).trans ((va_up_ne _ _ (by omega)).trans (a9 k h1 (by omega))), fun b hb => (va_up_ne _ _ (by omega)).trans ((va_up_ne _ _ (by omega)).trans (n9 b (by omega)))⟩ (fun g9 hf => ?_)
  clear c9 a9 n9
  obtain ⟨c9, a9, n9⟩ := hf
  refine v_aload_n dX10_init_27 rfl (by rfl) ?_
  refine v_bipush (v := nI 9) dX10_init_28 (by decide) ?_
  refine v_newI hE dX10_init_30 (by omega) (by omega) (by omega) ?_
  refine v_putF hE dX10_init_32 fX10_20 (by rfl) (by rfl) (by repeat (first | assumption | exact va_up_self _ _ _ | refine (va_up_ne _ _ (by omega)).trans ?_)) (by exact Nat.le_of_ble_eq_true rfl) (by rfl) (by rfl) (by rfl) ?_
  refine v_tt (t2 := M + 4) (by omega) ?_
  refine v_abs (P := fun g => g M = .inr (10, [.int 0, .ref (M + 1), .int 0, .int (-1), .int 0, .ref (M + 2), .ref (M + 3), .null, .null, .null, .null, .null, .int 0, .null, .null, .null, .null, .null, .null, .null, .null, .null, .null, .null, .null, .null, .null, .null, .null, .null, .null, .null, .null, .null, .null, .null, .null, .int 0, .int 0, .int 0, .int 0, .null, .null, .int 0, .int 0, .int 0, .null, .null, .null, .null, .null, .int 0, .int 0]) ∧ (∀ k, 1 ≤ k → k ≤ 3 → g (M + k) = .inl (mKn k, mSz k, .inl (fun _ => 0))) ∧ ∀ b, b < M ∨ M + 3 < b → g b = f b) ⟨va_up_self _ _ _, fun k h1 h2 => by
    by_cases e : k = 3
    · subst e; exact (va_up_ne _ _ (by omega)).trans (va_up_self _ _ _)
    · exact (va_up_ne _ _ (by omega)).trans ((va_up_ne _ _ (by omega)).trans (a9 k h1 (by omega))), fun b hb => (va_up_ne _ _ (by omega)).trans ((va_up_ne _ _ (by omega)).trans (n9 b (by omega)))⟩ (fun g9 hf => ?_)
  clear c9 a9 n9
  obtain ⟨c9, a9, n9⟩ := hf
  refine v_aload_n dX10_init_35 rfl (by rfl) ?_
  refine v_sipush (v := nI 3001) dX10_init_36 (by decide) ?_
  refine v_newB hE dX10_init_39 (by omega) (by omega) (by omega) ?_
  refine v_putF hE dX10_init_41 fX10_24 (by rfl) (by rfl) (by repeat (first | assumption | exact va_up_self _ _ _ | refine (va_up_ne _ _ (by omega)).trans ?_)) (by exact Nat.le_of_ble_eq_true rfl) (by rfl) (by rfl) (by rfl) ?_
  refine v_tt (t2 := M + 5) (by omega) ?_
  refine v_abs (P := fun g => g M = .inr (10, [.int 0, .ref (M + 1), .int 0, .int (-1), .int 0, .ref (M + 2), .ref (M + 3), .ref (M + 4), .null, .null, .null, .null, .int 0, .null, .null, .null, .null, .null, .null, .null, .null, .null, .null, .null, .null, .null, .null, .null, .null, .null, .null, .null, .null, .null, .null, .null, .null, .int 0, .int 0, .int 0, .int 0, .null, .null, .int 0, .int 0, .int 0, .null, .null, .null, .null, .null, .int 0, .int 0]) ∧ (∀ k, 1 ≤ k → k ≤ 4 → g (M + k) = .inl (mKn k, mSz k, .inl (fun _ => 0))) ∧ ∀ b, b < M ∨ M + 4 < b → g b = f b) ⟨va_up_self _ _ _, fun k h1 h2 => by
    by_cases e : k = 4
    · subst e; exact (va_up_ne _ _ (by omega)).trans (va_up_self _ _ _)
    · exact (va_up_ne _ _ (by omega)).trans ((va_up_ne _ _ (by omega)).trans (a9 k h1 (by omega))), fun b hb => (va_up_ne _ _ (by omega)).trans ((va_up_ne _ _ (by omega)).trans (n9 b (by omega)))⟩ (fun g9 hf => ?_)
  clear c9 a9 n9
  obtain ⟨c9, a9, n9⟩ := hf
  refine v_aload_n dX10_init_44 rfl (by rfl) ?_
  refine v_bipush (v := nI 9) dX10_init_45 (by decide) ?_
  refine v_newI hE dX10_init_47 (by omega) (by omega) (by omega) ?_
  refine v_putF hE dX10_init_49 fX10_27 (by rfl) (by rfl) (by repeat (first | assumption | exact va_up_self _ _ _ | refine (va_up_ne _ _ (by omega)).trans ?_)) (by exact Nat.le_of_ble_eq_true rfl) (by rfl) (by rfl) (by rfl) ?_
  refine v_tt (t2 := M + 6) (by omega) ?_
  refine v_abs (P := fun g => g M = .inr (10, [.int 0, .ref (M + 1), .int 0, .int (-1), .int 0, .ref (M + 2), .ref (M + 3), .ref (M + 4), .ref (M + 5), .null, .null, .null, .int 0, .null, .null, .null, .null, .null, .null, .null, .null, .null, .null, .null, .null, .null, .null, .null, .null, .null, .null, .null, .null, .null, .null, .null, .null, .int 0, .int 0, .int 0, .int 0, .null, .null, .int 0, .int 0, .int 0, .null, .null, .null, .null, .null, .int 0, .int 0]) ∧ (∀ k, 1 ≤ k → k ≤ 5 → g (M + k) = .inl (mKn k, mSz k, .inl (fun _ => 0))) ∧ ∀ b, b < M ∨ M + 5 < b → g b = f b) ⟨va_up_self _ _ _, fun k h1 h2 => by
    by_cases e : k = 5
    · subst e; exact (va_up_ne _ _ (by omega)).trans (va_up_self _ _ _)
    · exact (va_up_ne _ _ (by omega)).trans ((va_up_ne _ _ (by omega)).trans (a9 k h1 (by omega))), fun b hb => (va_up_ne _ _ (by omega)).trans ((va_up_ne _ _ (by omega)).trans (n9 b (by omega)))⟩ (fun g9 hf => ?_)
  clear c9 a9 n9
  obtain ⟨c9, a9, n9⟩ := hf
  refine v_aload_n dX10_init_52 rfl (by rfl) ?_
  refine v_bipush (v := nI 9) dX10_init_53 (by decide) ?_
  refine v_newI hE dX10_init_55 (by omega) (by omega) (by omega) ?_
  refine v_putF hE dX10_init_57 fX10_30 (by rfl) (by rfl) (by repeat (first | assumption | exact va_up_self _ _ _ | refine (va_up_ne _ _ (by omega)).trans ?_)) (by exact Nat.le_of_ble_eq_true rfl) (by rfl) (by rfl) (by rfl) ?_
  refine v_tt (t2 := M + 7) (by omega) ?_
  refine v_abs (P := fun g => g M = .inr (10, [.int 0, .ref (M + 1), .int 0, .int (-1), .int 0, .ref (M + 2), .ref (M + 3), .ref (M + 4), .ref (M + 5), .ref (M + 6), .null, .null, .int 0, .null, .null, .null, .null, .null, .null, .null, .null, .null, .null, .null, .null, .null, .null, .null, .null, .null, .null, .null, .null, .null, .null, .null, .null, .int 0, .int 0, .int 0, .int 0, .null, .null, .int 0, .int 0, .int 0, .null, .null, .null, .null, .null, .int 0, .int 0]) ∧ (∀ k, 1 ≤ k → k ≤ 6 → g (M + k) = .inl (mKn k, mSz k, .inl (fun _ => 0))) ∧ ∀ b, b < M ∨ M + 6 < b → g b = f b) ⟨va_up_self _ _ _, fun k h1 h2 => by
    by_cases e : k = 6
    · subst e; exact (va_up_ne _ _ (by omega)).trans (va_up_self _ _ _)
    · exact (va_up_ne _ _ (by omega)).trans ((va_up_ne _ _ (by omega)).trans (a9 k h1 (by omega))), fun b hb => (va_up_ne _ _ (by omega)).trans ((va_up_ne _ _ (by omega)).trans (n9 b (by omega)))⟩ (fun g9 hf => ?_)
  clear c9 a9 n9
  obtain ⟨c9, a9, n9⟩ := hf
  refine v_aload_n dX10_init_60 rfl (by rfl) ?_
  refine v_bipush (v := nI 9) dX10_init_61 (by decide) ?_
  refine v_newI hE dX10_init_63 (by omega) (by omega) (by omega) ?_
  refine v_putF hE dX10_init_65 fX10_33 (by rfl) (by rfl) (by repeat (first | assumption | exact va_up_self _ _ _ | refine (va_up_ne _ _ (by omega)).trans ?_)) (by exact Nat.le_of_ble_eq_true rfl) (by rfl) (by rfl) (by rfl) ?_
  refine v_tt (t2 := M + 8) (by omega) ?_
  refine v_abs (P := fun g => g M = .inr (10, [.int 0, .ref (M + 1), .int 0, .int (-1), .int 0, .ref (M + 2), .ref (M + 3), .ref (M + 4), .ref (M + 5), .ref (M + 6), .ref (M + 7), .null, .int 0, .null, .null, .null, .null, .null, .null, .null, .null, .null, .null, .null, .null, .null, .null, .null, .null, .null, .null, .null, .null, .null, .null, .null, .null, .int 0, .int 0, .int 0, .int 0, .null, .null, .int 0, .int 0, .int 0, .null, .null, .null, .null, .null, .int 0, .int 0]) ∧ (∀ k, 1 ≤ k → k ≤ 7 → g (M + k) = .inl (mKn k, mSz k, .inl (fun _ => 0))) ∧ ∀ b, b < M ∨ M + 7 < b → g b = f b) ⟨va_up_self _ _ _, fun k h1 h2 => by
    by_cases e : k = 7
    · subst e; exact (va_up_ne _ _ (by omega)).trans (va_up_self _ _ _)
    · exact (va_up_ne _ _ (by omega)).trans ((va_up_ne _ _ (by omega)).trans (a9 k h1 (by omega))), fun b hb => (va_up_ne _ _ (by omega)).trans ((va_up_ne _ _ (by omega)).trans (n9 b (by omega)))⟩ (fun g9 hf => ?_)
  clear c9 a9 n9
  obtain ⟨c9, a9, n9⟩ := hf
  refine v_aload_n dX10_init_68 rfl (by rfl) ?_
  refine v_bipush (v := nI 9) dX10_init_69 (by decide) ?_
  refine v_newI hE dX10_init_71 (by omega) (by omega) (by omega) ?_
  refine v_putF hE dX10_init_73 fX10_36 (by rfl) (by rfl) (by repeat (first | assumption | exact va_up_self _ _ _ | refine (va_up_ne _ _ (by omega)).trans ?_)) (by exact Nat.le_of_ble_eq_true rfl) (by rfl) (by rfl) (by rfl) ?_
  refine v_tt (t2 := M + 9) (by omega) ?_
  refine v_abs (P := fun g => g M = .inr (10, [.int 0, .ref (M + 1), .int 0, .int (-1), .int 0, .ref (M + 2), .ref (M + 3), .ref (M + 4), .ref (M + 5), .ref (M + 6), .ref (M + 7), .ref (M + 8), .int 0, .null, .null, .null, .null, .null, .null, .null, .null, .null, .null, .null, .null, .null, .null, .null, .null, .null, .null, .null, .null, .null, .null, .null, .null, .int 0, .int 0, .int 0, .int 0, .null, .null, .int 0, .int 0, .int 0, .null, .null, .null, .null, .null, .int 0, .int 0]) ∧ (∀ k, 1 ≤ k → k ≤ 8 → g (M + k) = .inl (mKn k, mSz k, .inl (fun _ => 0))) ∧ ∀ b, b < M ∨ M + 8 < b → g b = f b) ⟨va_up_self _ _ _, fun k h1 h2 => by
    by_cases e : k = 8
    · subst e; exact (va_up_ne _ _ (by omega)).trans (va_up_self _ _ _)
    · exact (va_up_ne _ _ (by omega)).trans ((va_up_ne _ _ (by omega)).trans (a9 k h1 (by omega))), fun b hb => (va_up_ne _ _ (by omega)).trans ((va_up_ne _ _ (by omega)).trans (n9 b (by omega)))⟩ (fun g9 hf => ?_)
  clear c9 a9 n9
  obtain ⟨c9, a9, n9⟩ := hf
  refine v_aload_n dX10_init_76 rfl (by rfl) ?_
  refine v_sipush (v := nI 180) dX10_init_77 (by decide) ?_
  refine v_newB hE dX10_init_80 (by omega) (by omega) (by omega) ?_
  refine v_putF hE dX10_init_82 fX10_39 (by rfl) (by rfl) (by repeat (first | assumption | exact va_up_self _ _ _ | refine (va_up_ne _ _ (by omega)).trans ?_)) (by exact Nat.le_of_ble_eq_true rfl) (by rfl) (by rfl) (by rfl) ?_
  refine v_tt (t2 := M + 10) (by omega) ?_
  refine v_abs (P := fun g => g M = .inr (10, [.int 0, .ref (M + 1), .int 0, .int (-1), .int 0, .ref (M + 2), .ref (M + 3), .ref (M + 4), .ref (M + 5), .ref (M + 6), .ref (M + 7), .ref (M + 8), .int 0, .ref (M + 9), .null, .null, .null, .null, .null, .null, .null, .null, .null, .null, .null, .null, .null, .null, .null, .null, .null, .null, .null, .null, .null, .null, .null, .int 0, .int 0, .int 0, .int 0, .null, .null, .int 0, .int 0, .int 0, .null, .null, .null, .null, .null, .int 0, .int 0]) ∧ (∀ k, 1 ≤ k → k ≤ 9 → g (M + k) = .inl (mKn k, mSz k, .inl (fun _ => 0))) ∧ ∀ b, b < M ∨ M + 9 < b → g b = f b) ⟨va_up_self _ _ _, fun k h1 h2 => by
    by_cases e : k = 9
    · subst e; exact (va_up_ne _ _ (by omega)).trans (va_up_self _ _ _)
    · exact (va_up_ne _ _ (by omega)).trans ((va_up_ne _ _ (by omega)).trans (a9 k h1 (by omega))), fun b hb => (va_up_ne _ _ (by omega)).trans ((va_up_ne _ _ (by omega)).trans (n9 b (by omega)))⟩ (fun g9 hf => ?_)
  clear c9 a9 n9
  obtain ⟨c9, a9, n9⟩ := hf
  refine v_aload_n dX10_init_85 rfl (by rfl) ?_
  refine v_bipush (v := nI 9) dX10_init_86 (by decide) ?_
  refine v_newI hE dX10_init_88 (by omega) (by omega) (by omega) ?_
  refine v_putF hE dX10_init_90 fX10_42 (by rfl) (by rfl) (by repeat (first | assumption | exact va_up_self _ _ _ | refine (va_up_ne _ _ (by omega)).trans ?_)) (by exact Nat.le_of_ble_eq_true rfl) (by rfl) (by rfl) (by rfl) ?_
  refine v_tt (t2 := M + 11) (by omega) ?_
  refine v_abs (P := fun g => g M = .inr (10, [.int 0, .ref (M + 1), .int 0, .int (-1), .int 0, .ref (M + 2), .ref (M + 3), .ref (M + 4), .ref (M + 5), .ref (M + 6), .ref (M + 7), .ref (M + 8), .int 0, .ref (M + 9), .ref (M + 10), .null, .null, .null, .null, .null, .null, .null, .null, .null, .null, .null, .null, .null, .null, .null, .null, .null, .null, .null, .null, .null, .null, .int 0, .int 0, .int 0, .int 0, .null, .null, .int 0, .int 0, .int 0, .null, .null, .null, .null, .null, .int 0, .int 0]) ∧ (∀ k, 1 ≤ k → k ≤ 10 → g (M + k) = .inl (mKn k, mSz k, .inl (fun _ => 0))) ∧ ∀ b, b < M ∨ M + 10 < b → g b = f b) ⟨va_up_self _ _ _, fun k h1 h2 => by
    by_cases e : k = 10
    · subst e; exact (va_up_ne _ _ (by omega)).trans (va_up_self _ _ _)
    · exact (va_up_ne _ _ (by omega)).trans ((va_up_ne _ _ (by omega)).trans (a9 k h1 (by omega))), fun b hb => (va_up_ne _ _ (by omega)).trans ((va_up_ne _ _ (by omega)).trans (n9 b (by omega)))⟩ (fun g9 hf => ?_)
  clear c9 a9 n9
  obtain ⟨c9, a9, n9⟩ := hf
  refine v_aload_n dX10_init_93 rfl (by rfl) ?_
  refine v_sipush (v := nI 3001) dX10_init_94 (by decide) ?_
  refine v_newB hE dX10_init_97 (by omega) (by omega) (by omega) ?_
  refine v_putF hE dX10_init_99 fX10_45 (by rfl) (by rfl) (by repeat (first | assumption | exact va_up_self _ _ _ | refine (va_up_ne _ _ (by omega)).trans ?_)) (by exact Nat.le_of_ble_eq_true rfl) (by rfl) (by rfl) (by rfl) ?_
  refine v_tt (t2 := M + 12) (by omega) ?_
  refine v_abs (P := fun g => g M = .inr (10, [.int 0, .ref (M + 1), .int 0, .int (-1), .int 0, .ref (M + 2), .ref (M + 3), .ref (M + 4), .ref (M + 5), .ref (M + 6), .ref (M + 7), .ref (M + 8), .int 0, .ref (M + 9), .ref (M + 10), .ref (M + 11), .null, .null, .null, .null, .null, .null, .null, .null, .null, .null, .null, .null, .null, .null, .null, .null, .null, .null, .null, .null, .null, .int 0, .int 0, .int 0, .int 0, .null, .null, .int 0, .int 0, .int 0, .null, .null, .null, .null, .null, .int 0, .int 0]) ∧ (∀ k, 1 ≤ k → k ≤ 11 → g (M + k) = .inl (mKn k, mSz k, .inl (fun _ => 0))) ∧ ∀ b, b < M ∨ M + 11 < b → g b = f b) ⟨va_up_self _ _ _, fun k h1 h2 => by
    by_cases e : k = 11
    · subst e; exact (va_up_ne _ _ (by omega)).trans (va_up_self _ _ _)
    · exact (va_up_ne _ _ (by omega)).trans ((va_up_ne _ _ (by omega)).trans (a9 k h1 (by omega))), fun b hb => (va_up_ne _ _ (by omega)).trans ((va_up_ne _ _ (by omega)).trans (n9 b (by omega)))⟩ (fun g9 hf => ?_)
  clear c9 a9 n9
  obtain ⟨c9, a9, n9⟩ := hf
  refine v_aload_n dX10_init_102 rfl (by rfl) ?_
  refine v_bipush (v := nI 9) dX10_init_103 (by decide) ?_
  refine v_newI hE dX10_init_105 (by omega) (by omega) (by omega) ?_
  refine v_putF hE dX10_init_107 fX10_48 (by rfl) (by rfl) (by repeat (first | assumption | exact va_up_self _ _ _ | refine (va_up_ne _ _ (by omega)).trans ?_)) (by exact Nat.le_of_ble_eq_true rfl) (by rfl) (by rfl) (by rfl) ?_
  refine v_tt (t2 := M + 13) (by omega) ?_
  refine v_abs (P := fun g => g M = .inr (10, [.int 0, .ref (M + 1), .int 0, .int (-1), .int 0, .ref (M + 2), .ref (M + 3), .ref (M + 4), .ref (M + 5), .ref (M + 6), .ref (M + 7), .ref (M + 8), .int 0, .ref (M + 9), .ref (M + 10), .ref (M + 11), .ref (M + 12), .null, .null, .null, .null, .null, .null, .null, .null, .null, .null, .null, .null, .null, .null, .null, .null, .null, .null, .null, .null, .int 0, .int 0, .int 0, .int 0, .null, .null, .int 0, .int 0, .int 0, .null, .null, .null, .null, .null, .int 0, .int 0]) ∧ (∀ k, 1 ≤ k → k ≤ 12 → g (M + k) = .inl (mKn k, mSz k, .inl (fun _ => 0))) ∧ ∀ b, b < M ∨ M + 12 < b → g b = f b) ⟨va_up_self _ _ _, fun k h1 h2 => by
    by_cases e : k = 12
    · subst e; exact (va_up_ne _ _ (by omega)).trans (va_up_self _ _ _)
    · exact (va_up_ne _ _ (by omega)).trans ((va_up_ne _ _ (by omega)).trans (a9 k h1 (by omega))), fun b hb => (va_up_ne _ _ (by omega)).trans ((va_up_ne _ _ (by omega)).trans (n9 b (by omega)))⟩ (fun g9 hf => ?_)
  clear c9 a9 n9
  obtain ⟨c9, a9, n9⟩ := hf
  refine v_aload_n dX10_init_110 rfl (by rfl) ?_
  refine v_bipush (v := nI 9) dX10_init_111 (by decide) ?_
  refine v_newI hE dX10_init_113 (by omega) (by omega) (by omega) ?_
  refine v_putF hE dX10_init_115 fX10_51 (by rfl) (by rfl) (by repeat (first | assumption | exact va_up_self _ _ _ | refine (va_up_ne _ _ (by omega)).trans ?_)) (by exact Nat.le_of_ble_eq_true rfl) (by rfl) (by rfl) (by rfl) ?_
  refine v_tt (t2 := M + 14) (by omega) ?_
  refine v_abs (P := fun g => g M = .inr (10, [.int 0, .ref (M + 1), .int 0, .int (-1), .int 0, .ref (M + 2), .ref (M + 3), .ref (M + 4), .ref (M + 5), .ref (M + 6), .ref (M + 7), .ref (M + 8), .int 0, .ref (M + 9), .ref (M + 10), .ref (M + 11), .ref (M + 12), .ref (M + 13), .null, .null, .null, .null, .null, .null, .null, .null, .null, .null, .null, .null, .null, .null, .null, .null, .null, .null, .null, .int 0, .int 0, .int 0, .int 0, .null, .null, .int 0, .int 0, .int 0, .null, .null, .null, .null, .null, .int 0, .int 0]) ∧ (∀ k, 1 ≤ k → k ≤ 13 → g (M + k) = .inl (mKn k, mSz k, .inl (fun _ => 0))) ∧ ∀ b, b < M ∨ M + 13 < b → g b = f b) ⟨va_up_self _ _ _, fun k h1 h2 => by
    by_cases e : k = 13
    · subst e; exact (va_up_ne _ _ (by omega)).trans (va_up_self _ _ _)
    · exact (va_up_ne _ _ (by omega)).trans ((va_up_ne _ _ (by omega)).trans (a9 k h1 (by omega))), fun b hb => (va_up_ne _ _ (by omega)).trans ((va_up_ne _ _ (by omega)).trans (n9 b (by omega)))⟩ (fun g9 hf => ?_)
  clear c9 a9 n9
  obtain ⟨c9, a9, n9⟩ := hf
  refine v_aload_n dX10_init_118 rfl (by rfl) ?_
  refine v_bipush (v := nI 9) dX10_init_119 (by decide) ?_
  refine v_newI hE dX10_init_121 (by omega) (by omega) (by omega) ?_
  refine v_putF hE dX10_init_123 fX10_54 (by rfl) (by rfl) (by repeat (first | assumption | exact va_up_self _ _ _ | refine (va_up_ne _ _ (by omega)).trans ?_)) (by exact Nat.le_of_ble_eq_true rfl) (by rfl) (by rfl) (by rfl) ?_
  refine v_tt (t2 := M + 15) (by omega) ?_
  refine v_abs (P := fun g => g M = .inr (10, [.int 0, .ref (M + 1), .int 0, .int (-1), .int 0, .ref (M + 2), .ref (M + 3), .ref (M + 4), .ref (M + 5), .ref (M + 6), .ref (M + 7), .ref (M + 8), .int 0, .ref (M + 9), .ref (M + 10), .ref (M + 11), .ref (M + 12), .ref (M + 13), .ref (M + 14), .null, .null, .null, .null, .null, .null, .null, .null, .null, .null, .null, .null, .null, .null, .null, .null, .null, .null, .int 0, .int 0, .int 0, .int 0, .null, .null, .int 0, .int 0, .int 0, .null, .null, .null, .null, .null, .int 0, .int 0]) ∧ (∀ k, 1 ≤ k → k ≤ 14 → g (M + k) = .inl (mKn k, mSz k, .inl (fun _ => 0))) ∧ ∀ b, b < M ∨ M + 14 < b → g b = f b) ⟨va_up_self _ _ _, fun k h1 h2 => by
    by_cases e : k = 14
    · subst e; exact (va_up_ne _ _ (by omega)).trans (va_up_self _ _ _)
    · exact (va_up_ne _ _ (by omega)).trans ((va_up_ne _ _ (by omega)).trans (a9 k h1 (by omega))), fun b hb => (va_up_ne _ _ (by omega)).trans ((va_up_ne _ _ (by omega)).trans (n9 b (by omega)))⟩ (fun g9 hf => ?_)
  clear c9 a9 n9
  obtain ⟨c9, a9, n9⟩ := hf
  refine v_aload_n dX10_init_126 rfl (by rfl) ?_
  refine v_bipush (v := nI 9) dX10_init_127 (by decide) ?_
  refine v_newI hE dX10_init_129 (by omega) (by omega) (by omega) ?_
  refine v_putF hE dX10_init_131 fX10_57 (by rfl) (by rfl) (by repeat (first | assumption | exact va_up_self _ _ _ | refine (va_up_ne _ _ (by omega)).trans ?_)) (by exact Nat.le_of_ble_eq_true rfl) (by rfl) (by rfl) (by rfl) ?_
  refine v_tt (t2 := M + 16) (by omega) ?_
  refine v_abs (P := fun g => g M = .inr (10, [.int 0, .ref (M + 1), .int 0, .int (-1), .int 0, .ref (M + 2), .ref (M + 3), .ref (M + 4), .ref (M + 5), .ref (M + 6), .ref (M + 7), .ref (M + 8), .int 0, .ref (M + 9), .ref (M + 10), .ref (M + 11), .ref (M + 12), .ref (M + 13), .ref (M + 14), .ref (M + 15), .null, .null, .null, .null, .null, .null, .null, .null, .null, .null, .null, .null, .null, .null, .null, .null, .null, .int 0, .int 0, .int 0, .int 0, .null, .null, .int 0, .int 0, .int 0, .null, .null, .null, .null, .null, .int 0, .int 0]) ∧ (∀ k, 1 ≤ k → k ≤ 15 → g (M + k) = .inl (mKn k, mSz k, .inl (fun _ => 0))) ∧ ∀ b, b < M ∨ M + 15 < b → g b = f b) ⟨va_up_self _ _ _, fun k h1 h2 => by
    by_cases e : k = 15
    · subst e; exact (va_up_ne _ _ (by omega)).trans (va_up_self _ _ _)
    · exact (va_up_ne _ _ (by omega)).trans ((va_up_ne _ _ (by omega)).trans (a9 k h1 (by omega))), fun b hb => (va_up_ne _ _ (by omega)).trans ((va_up_ne _ _ (by omega)).trans (n9 b (by omega)))⟩ (fun g9 hf => ?_)
  clear c9 a9 n9
  obtain ⟨c9, a9, n9⟩ := hf
  refine v_aload_n dX10_init_134 rfl (by rfl) ?_
  refine v_iconst (v := nI 4) dX10_init_135 (by decide) ?_
  refine v_newI hE dX10_init_136 (by omega) (by omega) (by omega) ?_
  refine v_putF hE dX10_init_138 fX10_60 (by rfl) (by rfl) (by repeat (first | assumption | exact va_up_self _ _ _ | refine (va_up_ne _ _ (by omega)).trans ?_)) (by exact Nat.le_of_ble_eq_true rfl) (by rfl) (by rfl) (by rfl) ?_
  refine v_tt (t2 := M + 17) (by omega) ?_
  refine v_abs (P := fun g => g M = .inr (10, [.int 0, .ref (M + 1), .int 0, .int (-1), .int 0, .ref (M + 2), .ref (M + 3), .ref (M + 4), .ref (M + 5), .ref (M + 6), .ref (M + 7), .ref (M + 8), .int 0, .ref (M + 9), .ref (M + 10), .ref (M + 11), .ref (M + 12), .ref (M + 13), .ref (M + 14), .ref (M + 15), .ref (M + 16), .null, .null, .null, .null, .null, .null, .null, .null, .null, .null, .null, .null, .null, .null, .null, .null, .int 0, .int 0, .int 0, .int 0, .null, .null, .int 0, .int 0, .int 0, .null, .null, .null, .null, .null, .int 0, .int 0]) ∧ (∀ k, 1 ≤ k → k ≤ 16 → g (M + k) = .inl (mKn k, mSz k, .inl (fun _ => 0))) ∧ ∀ b, b < M ∨ M + 16 < b → g b = f b) ⟨va_up_self _ _ _, fun k h1 h2 => by
    by_cases e : k = 16
    · subst e; exact (va_up_ne _ _ (by omega)).trans (va_up_self _ _ _)
    · exact (va_up_ne _ _ (by omega)).trans ((va_up_ne _ _ (by omega)).trans (a9 k h1 (by omega))), fun b hb => (va_up_ne _ _ (by omega)).trans ((va_up_ne _ _ (by omega)).trans (n9 b (by omega)))⟩ (fun g9 hf => ?_)
  clear c9 a9 n9
  obtain ⟨c9, a9, n9⟩ := hf
  refine v_aload_n dX10_init_141 rfl (by rfl) ?_
  refine v_iconst (v := nI 4) dX10_init_142 (by decide) ?_
  refine v_newI hE dX10_init_143 (by omega) (by omega) (by omega) ?_
  refine v_putF hE dX10_init_145 fX10_63 (by rfl) (by rfl) (by repeat (first | assumption | exact va_up_self _ _ _ | refine (va_up_ne _ _ (by omega)).trans ?_)) (by exact Nat.le_of_ble_eq_true rfl) (by rfl) (by rfl) (by rfl) ?_
  refine v_tt (t2 := M + 18) (by omega) ?_
  refine v_abs (P := fun g => g M = .inr (10, [.int 0, .ref (M + 1), .int 0, .int (-1), .int 0, .ref (M + 2), .ref (M + 3), .ref (M + 4), .ref (M + 5), .ref (M + 6), .ref (M + 7), .ref (M + 8), .int 0, .ref (M + 9), .ref (M + 10), .ref (M + 11), .ref (M + 12), .ref (M + 13), .ref (M + 14), .ref (M + 15), .ref (M + 16), .ref (M + 17), .null, .null, .null, .null, .null, .null, .null, .null, .null, .null, .null, .null, .null, .null, .null, .int 0, .int 0, .int 0, .int 0, .null, .null, .int 0, .int 0, .int 0, .null, .null, .null, .null, .null, .int 0, .int 0]) ∧ (∀ k, 1 ≤ k → k ≤ 17 → g (M + k) = .inl (mKn k, mSz k, .inl (fun _ => 0))) ∧ ∀ b, b < M ∨ M + 17 < b → g b = f b) ⟨va_up_self _ _ _, fun k h1 h2 => by
    by_cases e : k = 17
    · subst e; exact (va_up_ne _ _ (by omega)).trans (va_up_self _ _ _)
    · exact (va_up_ne _ _ (by omega)).trans ((va_up_ne _ _ (by omega)).trans (a9 k h1 (by omega))), fun b hb => (va_up_ne _ _ (by omega)).trans ((va_up_ne _ _ (by omega)).trans (n9 b (by omega)))⟩ (fun g9 hf => ?_)
  clear c9 a9 n9
  obtain ⟨c9, a9, n9⟩ := hf
  refine v_aload_n dX10_init_148 rfl (by rfl) ?_
  refine v_sipush (v := nI 240) dX10_init_149 (by decide) ?_
  refine v_newB hE dX10_init_152 (by omega) (by omega) (by omega) ?_
  refine v_putF hE dX10_init_154 fX10_66 (by rfl) (by rfl) (by repeat (first | assumption | exact va_up_self _ _ _ | refine (va_up_ne _ _ (by omega)).trans ?_)) (by exact Nat.le_of_ble_eq_true rfl) (by rfl) (by rfl) (by rfl) ?_
  refine v_tt (t2 := M + 19) (by omega) ?_
  refine v_abs (P := fun g => g M = .inr (10, [.int 0, .ref (M + 1), .int 0, .int (-1), .int 0, .ref (M + 2), .ref (M + 3), .ref (M + 4), .ref (M + 5), .ref (M + 6), .ref (M + 7), .ref (M + 8), .int 0, .ref (M + 9), .ref (M + 10), .ref (M + 11), .ref (M + 12), .ref (M + 13), .ref (M + 14), .ref (M + 15), .ref (M + 16), .ref (M + 17), .ref (M + 18), .null, .null, .null, .null, .null, .null, .null, .null, .null, .null, .null, .null, .null, .null, .int 0, .int 0, .int 0, .int 0, .null, .null, .int 0, .int 0, .int 0, .null, .null, .null, .null, .null, .int 0, .int 0]) ∧ (∀ k, 1 ≤ k → k ≤ 18 → g (M + k) = .inl (mKn k, mSz k, .inl (fun _ => 0))) ∧ ∀ b, b < M ∨ M + 18 < b → g b = f b) ⟨va_up_self _ _ _, fun k h1 h2 => by
    by_cases e : k = 18
    · subst e; exact (va_up_ne _ _ (by omega)).trans (va_up_self _ _ _)
    · exact (va_up_ne _ _ (by omega)).trans ((va_up_ne _ _ (by omega)).trans (a9 k h1 (by omega))), fun b hb => (va_up_ne _ _ (by omega)).trans ((va_up_ne _ _ (by omega)).trans (n9 b (by omega)))⟩ (fun g9 hf => ?_)
  clear c9 a9 n9
  obtain ⟨c9, a9, n9⟩ := hf
  refine v_aload_n dX10_init_157 rfl (by rfl) ?_
  refine v_bipush (v := nI 12) dX10_init_158 (by decide) ?_
  refine v_newI hE dX10_init_160 (by omega) (by omega) (by omega) ?_
  refine v_putF hE dX10_init_162 fX10_69 (by rfl) (by rfl) (by repeat (first | assumption | exact va_up_self _ _ _ | refine (va_up_ne _ _ (by omega)).trans ?_)) (by exact Nat.le_of_ble_eq_true rfl) (by rfl) (by rfl) (by rfl) ?_
  refine v_tt (t2 := M + 20) (by omega) ?_
  refine v_abs (P := fun g => g M = .inr (10, [.int 0, .ref (M + 1), .int 0, .int (-1), .int 0, .ref (M + 2), .ref (M + 3), .ref (M + 4), .ref (M + 5), .ref (M + 6), .ref (M + 7), .ref (M + 8), .int 0, .ref (M + 9), .ref (M + 10), .ref (M + 11), .ref (M + 12), .ref (M + 13), .ref (M + 14), .ref (M + 15), .ref (M + 16), .ref (M + 17), .ref (M + 18), .ref (M + 19), .null, .null, .null, .null, .null, .null, .null, .null, .null, .null, .null, .null, .null, .int 0, .int 0, .int 0, .int 0, .null, .null, .int 0, .int 0, .int 0, .null, .null, .null, .null, .null, .int 0, .int 0]) ∧ (∀ k, 1 ≤ k → k ≤ 19 → g (M + k) = .inl (mKn k, mSz k, .inl (fun _ => 0))) ∧ ∀ b, b < M ∨ M + 19 < b → g b = f b) ⟨va_up_self _ _ _, fun k h1 h2 => by
    by_cases e : k = 19
    · subst e; exact (va_up_ne _ _ (by omega)).trans (va_up_self _ _ _)
    · exact (va_up_ne _ _ (by omega)).trans ((va_up_ne _ _ (by omega)).trans (a9 k h1 (by omega))), fun b hb => (va_up_ne _ _ (by omega)).trans ((va_up_ne _ _ (by omega)).trans (n9 b (by omega)))⟩ (fun g9 hf => ?_)
  clear c9 a9 n9
  obtain ⟨c9, a9, n9⟩ := hf
  refine v_aload_n dX10_init_165 rfl (by rfl) ?_
  refine v_sipush (v := nI 240) dX10_init_166 (by decide) ?_
  refine v_newI hE dX10_init_169 (by omega) (by omega) (by omega) ?_
  refine v_putF hE dX10_init_171 fX10_72 (by rfl) (by rfl) (by repeat (first | assumption | exact va_up_self _ _ _ | refine (va_up_ne _ _ (by omega)).trans ?_)) (by exact Nat.le_of_ble_eq_true rfl) (by rfl) (by rfl) (by rfl) ?_
  refine v_tt (t2 := M + 21) (by omega) ?_
  refine v_abs (P := fun g => g M = .inr (10, [.int 0, .ref (M + 1), .int 0, .int (-1), .int 0, .ref (M + 2), .ref (M + 3), .ref (M + 4), .ref (M + 5), .ref (M + 6), .ref (M + 7), .ref (M + 8), .int 0, .ref (M + 9), .ref (M + 10), .ref (M + 11), .ref (M + 12), .ref (M + 13), .ref (M + 14), .ref (M + 15), .ref (M + 16), .ref (M + 17), .ref (M + 18), .ref (M + 19), .ref (M + 20), .null, .null, .null, .null, .null, .null, .null, .null, .null, .null, .null, .null, .int 0, .int 0, .int 0, .int 0, .null, .null, .int 0, .int 0, .int 0, .null, .null, .null, .null, .null, .int 0, .int 0]) ∧ (∀ k, 1 ≤ k → k ≤ 20 → g (M + k) = .inl (mKn k, mSz k, .inl (fun _ => 0))) ∧ ∀ b, b < M ∨ M + 20 < b → g b = f b) ⟨va_up_self _ _ _, fun k h1 h2 => by
    by_cases e : k = 20
    · subst e; exact (va_up_ne _ _ (by omega)).trans (va_up_self _ _ _)
    · exact (va_up_ne _ _ (by omega)).trans ((va_up_ne _ _ (by omega)).trans (a9 k h1 (by omega))), fun b hb => (va_up_ne _ _ (by omega)).trans ((va_up_ne _ _ (by omega)).trans (n9 b (by omega)))⟩ (fun g9 hf => ?_)
  clear c9 a9 n9
  obtain ⟨c9, a9, n9⟩ := hf
  refine v_aload_n dX10_init_174 rfl (by rfl) ?_
  refine v_sipush (v := nI 240) dX10_init_175 (by decide) ?_
  refine v_newI hE dX10_init_178 (by omega) (by omega) (by omega) ?_
  refine v_putF hE dX10_init_180 fX10_75 (by rfl) (by rfl) (by repeat (first | assumption | exact va_up_self _ _ _ | refine (va_up_ne _ _ (by omega)).trans ?_)) (by exact Nat.le_of_ble_eq_true rfl) (by rfl) (by rfl) (by rfl) ?_
  refine v_tt (t2 := M + 22) (by omega) ?_
  refine v_abs (P := fun g => g M = .inr (10, [.int 0, .ref (M + 1), .int 0, .int (-1), .int 0, .ref (M + 2), .ref (M + 3), .ref (M + 4), .ref (M + 5), .ref (M + 6), .ref (M + 7), .ref (M + 8), .int 0, .ref (M + 9), .ref (M + 10), .ref (M + 11), .ref (M + 12), .ref (M + 13), .ref (M + 14), .ref (M + 15), .ref (M + 16), .ref (M + 17), .ref (M + 18), .ref (M + 19), .ref (M + 20), .ref (M + 21), .null, .null, .null, .null, .null, .null, .null, .null, .null, .null, .null, .int 0, .int 0, .int 0, .int 0, .null, .null, .int 0, .int 0, .int 0, .null, .null, .null, .null, .null, .int 0, .int 0]) ∧ (∀ k, 1 ≤ k → k ≤ 21 → g (M + k) = .inl (mKn k, mSz k, .inl (fun _ => 0))) ∧ ∀ b, b < M ∨ M + 21 < b → g b = f b) ⟨va_up_self _ _ _, fun k h1 h2 => by
    by_cases e : k = 21
    · subst e; exact (va_up_ne _ _ (by omega)).trans (va_up_self _ _ _)
    · exact (va_up_ne _ _ (by omega)).trans ((va_up_ne _ _ (by omega)).trans (a9 k h1 (by omega))), fun b hb => (va_up_ne _ _ (by omega)).trans ((va_up_ne _ _ (by omega)).trans (n9 b (by omega)))⟩ (fun g9 hf => ?_)
  clear c9 a9 n9
  obtain ⟨c9, a9, n9⟩ := hf
  refine v_aload_n dX10_init_183 rfl (by rfl) ?_
  refine v_sipush (v := nI 4800) dX10_init_184 (by decide) ?_
  refine v_newB hE dX10_init_187 (by omega) (by omega) (by omega) ?_
  refine v_putF hE dX10_init_189 fX10_78 (by rfl) (by rfl) (by repeat (first | assumption | exact va_up_self _ _ _ | refine (va_up_ne _ _ (by omega)).trans ?_)) (by exact Nat.le_of_ble_eq_true rfl) (by rfl) (by rfl) (by rfl) ?_
  refine v_tt (t2 := M + 23) (by omega) ?_
  refine v_abs (P := fun g => g M = .inr (10, [.int 0, .ref (M + 1), .int 0, .int (-1), .int 0, .ref (M + 2), .ref (M + 3), .ref (M + 4), .ref (M + 5), .ref (M + 6), .ref (M + 7), .ref (M + 8), .int 0, .ref (M + 9), .ref (M + 10), .ref (M + 11), .ref (M + 12), .ref (M + 13), .ref (M + 14), .ref (M + 15), .ref (M + 16), .ref (M + 17), .ref (M + 18), .ref (M + 19), .ref (M + 20), .ref (M + 21), .ref (M + 22), .null, .null, .null, .null, .null, .null, .null, .null, .null, .null, .int 0, .int 0, .int 0, .int 0, .null, .null, .int 0, .int 0, .int 0, .null, .null, .null, .null, .null, .int 0, .int 0]) ∧ (∀ k, 1 ≤ k → k ≤ 22 → g (M + k) = .inl (mKn k, mSz k, .inl (fun _ => 0))) ∧ ∀ b, b < M ∨ M + 22 < b → g b = f b) ⟨va_up_self _ _ _, fun k h1 h2 => by
    by_cases e : k = 22
    · subst e; exact (va_up_ne _ _ (by omega)).trans (va_up_self _ _ _)
    · exact (va_up_ne _ _ (by omega)).trans ((va_up_ne _ _ (by omega)).trans (a9 k h1 (by omega))), fun b hb => (va_up_ne _ _ (by omega)).trans ((va_up_ne _ _ (by omega)).trans (n9 b (by omega)))⟩ (fun g9 hf => ?_)
  clear c9 a9 n9
  obtain ⟨c9, a9, n9⟩ := hf
  refine v_aload_n dX10_init_192 rfl (by rfl) ?_
  refine v_sipush (v := nI 240) dX10_init_193 (by decide) ?_
  refine v_newI hE dX10_init_196 (by omega) (by omega) (by omega) ?_
  refine v_putF hE dX10_init_198 fX10_81 (by rfl) (by rfl) (by repeat (first | assumption | exact va_up_self _ _ _ | refine (va_up_ne _ _ (by omega)).trans ?_)) (by exact Nat.le_of_ble_eq_true rfl) (by rfl) (by rfl) (by rfl) ?_
  refine v_tt (t2 := M + 24) (by omega) ?_
  refine v_abs (P := fun g => g M = .inr (10, [.int 0, .ref (M + 1), .int 0, .int (-1), .int 0, .ref (M + 2), .ref (M + 3), .ref (M + 4), .ref (M + 5), .ref (M + 6), .ref (M + 7), .ref (M + 8), .int 0, .ref (M + 9), .ref (M + 10), .ref (M + 11), .ref (M + 12), .ref (M + 13), .ref (M + 14), .ref (M + 15), .ref (M + 16), .ref (M + 17), .ref (M + 18), .ref (M + 19), .ref (M + 20), .ref (M + 21), .ref (M + 22), .ref (M + 23), .null, .null, .null, .null, .null, .null, .null, .null, .null, .int 0, .int 0, .int 0, .int 0, .null, .null, .int 0, .int 0, .int 0, .null, .null, .null, .null, .null, .int 0, .int 0]) ∧ (∀ k, 1 ≤ k → k ≤ 23 → g (M + k) = .inl (mKn k, mSz k, .inl (fun _ => 0))) ∧ ∀ b, b < M ∨ M + 23 < b → g b = f b) ⟨va_up_self _ _ _, fun k h1 h2 => by
    by_cases e : k = 23
    · subst e; exact (va_up_ne _ _ (by omega)).trans (va_up_self _ _ _)
    · exact (va_up_ne _ _ (by omega)).trans ((va_up_ne _ _ (by omega)).trans (a9 k h1 (by omega))), fun b hb => (va_up_ne _ _ (by omega)).trans ((va_up_ne _ _ (by omega)).trans (n9 b (by omega)))⟩ (fun g9 hf => ?_)
  clear c9 a9 n9
  obtain ⟨c9, a9, n9⟩ := hf
  refine v_aload_n dX10_init_201 rfl (by rfl) ?_
  refine v_sipush (v := nI 240) dX10_init_202 (by decide) ?_
  refine v_newI hE dX10_init_205 (by omega) (by omega) (by omega) ?_
  refine v_putF hE dX10_init_207 fX10_84 (by rfl) (by rfl) (by repeat (first | assumption | exact va_up_self _ _ _ | refine (va_up_ne _ _ (by omega)).trans ?_)) (by exact Nat.le_of_ble_eq_true rfl) (by rfl) (by rfl) (by rfl) ?_
  refine v_tt (t2 := M + 25) (by omega) ?_
  refine v_abs (P := fun g => g M = .inr (10, [.int 0, .ref (M + 1), .int 0, .int (-1), .int 0, .ref (M + 2), .ref (M + 3), .ref (M + 4), .ref (M + 5), .ref (M + 6), .ref (M + 7), .ref (M + 8), .int 0, .ref (M + 9), .ref (M + 10), .ref (M + 11), .ref (M + 12), .ref (M + 13), .ref (M + 14), .ref (M + 15), .ref (M + 16), .ref (M + 17), .ref (M + 18), .ref (M + 19), .ref (M + 20), .ref (M + 21), .ref (M + 22), .ref (M + 23), .ref (M + 24), .null, .null, .null, .null, .null, .null, .null, .null, .int 0, .int 0, .int 0, .int 0, .null, .null, .int 0, .int 0, .int 0, .null, .null, .null, .null, .null, .int 0, .int 0]) ∧ (∀ k, 1 ≤ k → k ≤ 24 → g (M + k) = .inl (mKn k, mSz k, .inl (fun _ => 0))) ∧ ∀ b, b < M ∨ M + 24 < b → g b = f b) ⟨va_up_self _ _ _, fun k h1 h2 => by
    by_cases e : k = 24
    · subst e; exact (va_up_ne _ _ (by omega)).trans (va_up_self _ _ _)
    · exact (va_up_ne _ _ (by omega)).trans ((va_up_ne _ _ (by omega)).trans (a9 k h1 (by omega))), fun b hb => (va_up_ne _ _ (by omega)).trans ((va_up_ne _ _ (by omega)).trans (n9 b (by omega)))⟩ (fun g9 hf => ?_)
  clear c9 a9 n9
  obtain ⟨c9, a9, n9⟩ := hf
  refine v_aload_n dX10_init_210 rfl (by rfl) ?_
  refine v_sipush (v := nI 24960) dX10_init_211 (by decide) ?_
  refine v_newB hE dX10_init_214 (by omega) (by omega) (by omega) ?_
  refine v_putF hE dX10_init_216 fX10_87 (by rfl) (by rfl) (by repeat (first | assumption | exact va_up_self _ _ _ | refine (va_up_ne _ _ (by omega)).trans ?_)) (by exact Nat.le_of_ble_eq_true rfl) (by rfl) (by rfl) (by rfl) ?_
  refine v_tt (t2 := M + 26) (by omega) ?_
  refine v_abs (P := fun g => g M = .inr (10, [.int 0, .ref (M + 1), .int 0, .int (-1), .int 0, .ref (M + 2), .ref (M + 3), .ref (M + 4), .ref (M + 5), .ref (M + 6), .ref (M + 7), .ref (M + 8), .int 0, .ref (M + 9), .ref (M + 10), .ref (M + 11), .ref (M + 12), .ref (M + 13), .ref (M + 14), .ref (M + 15), .ref (M + 16), .ref (M + 17), .ref (M + 18), .ref (M + 19), .ref (M + 20), .ref (M + 21), .ref (M + 22), .ref (M + 23), .ref (M + 24), .ref (M + 25), .null, .null, .null, .null, .null, .null, .null, .int 0, .int 0, .int 0, .int 0, .null, .null, .int 0, .int 0, .int 0, .null, .null, .null, .null, .null, .int 0, .int 0]) ∧ (∀ k, 1 ≤ k → k ≤ 25 → g (M + k) = .inl (mKn k, mSz k, .inl (fun _ => 0))) ∧ ∀ b, b < M ∨ M + 25 < b → g b = f b) ⟨va_up_self _ _ _, fun k h1 h2 => by
    by_cases e : k = 25
    · subst e; exact (va_up_ne _ _ (by omega)).trans (va_up_self _ _ _)
    · exact (va_up_ne _ _ (by omega)).trans ((va_up_ne _ _ (by omega)).trans (a9 k h1 (by omega))), fun b hb => (va_up_ne _ _ (by omega)).trans ((va_up_ne _ _ (by omega)).trans (n9 b (by omega)))⟩ (fun g9 hf => ?_)
  clear c9 a9 n9
  obtain ⟨c9, a9, n9⟩ := hf
  refine v_aload_n dX10_init_219 rfl (by rfl) ?_
  refine v_sipush (v := nI 960) dX10_init_220 (by decide) ?_
  refine v_newI hE dX10_init_223 (by omega) (by omega) (by omega) ?_
  refine v_putF hE dX10_init_225 fX10_90 (by rfl) (by rfl) (by repeat (first | assumption | exact va_up_self _ _ _ | refine (va_up_ne _ _ (by omega)).trans ?_)) (by exact Nat.le_of_ble_eq_true rfl) (by rfl) (by rfl) (by rfl) ?_
  refine v_tt (t2 := M + 27) (by omega) ?_
  refine v_abs (P := fun g => g M = .inr (10, [.int 0, .ref (M + 1), .int 0, .int (-1), .int 0, .ref (M + 2), .ref (M + 3), .ref (M + 4), .ref (M + 5), .ref (M + 6), .ref (M + 7), .ref (M + 8), .int 0, .ref (M + 9), .ref (M + 10), .ref (M + 11), .ref (M + 12), .ref (M + 13), .ref (M + 14), .ref (M + 15), .ref (M + 16), .ref (M + 17), .ref (M + 18), .ref (M + 19), .ref (M + 20), .ref (M + 21), .ref (M + 22), .ref (M + 23), .ref (M + 24), .ref (M + 25), .ref (M + 26), .null, .null, .null, .null, .null, .null, .int 0, .int 0, .int 0, .int 0, .null, .null, .int 0, .int 0, .int 0, .null, .null, .null, .null, .null, .int 0, .int 0]) ∧ (∀ k, 1 ≤ k → k ≤ 26 → g (M + k) = .inl (mKn k, mSz k, .inl (fun _ => 0))) ∧ ∀ b, b < M ∨ M + 26 < b → g b = f b) ⟨va_up_self _ _ _, fun k h1 h2 => by
    by_cases e : k = 26
    · subst e; exact (va_up_ne _ _ (by omega)).trans (va_up_self _ _ _)
    · exact (va_up_ne _ _ (by omega)).trans ((va_up_ne _ _ (by omega)).trans (a9 k h1 (by omega))), fun b hb => (va_up_ne _ _ (by omega)).trans ((va_up_ne _ _ (by omega)).trans (n9 b (by omega)))⟩ (fun g9 hf => ?_)
  clear c9 a9 n9
  obtain ⟨c9, a9, n9⟩ := hf
  refine v_aload_n dX10_init_228 rfl (by rfl) ?_
  refine v_sipush (v := nI 240) dX10_init_229 (by decide) ?_
  refine v_newI hE dX10_init_232 (by omega) (by omega) (by omega) ?_
  refine v_putF hE dX10_init_234 fX10_93 (by rfl) (by rfl) (by repeat (first | assumption | exact va_up_self _ _ _ | refine (va_up_ne _ _ (by omega)).trans ?_)) (by exact Nat.le_of_ble_eq_true rfl) (by rfl) (by rfl) (by rfl) ?_
  refine v_tt (t2 := M + 28) (by omega) ?_
  refine v_abs (P := fun g => g M = .inr (10, [.int 0, .ref (M + 1), .int 0, .int (-1), .int 0, .ref (M + 2), .ref (M + 3), .ref (M + 4), .ref (M + 5), .ref (M + 6), .ref (M + 7), .ref (M + 8), .int 0, .ref (M + 9), .ref (M + 10), .ref (M + 11), .ref (M + 12), .ref (M + 13), .ref (M + 14), .ref (M + 15), .ref (M + 16), .ref (M + 17), .ref (M + 18), .ref (M + 19), .ref (M + 20), .ref (M + 21), .ref (M + 22), .ref (M + 23), .ref (M + 24), .ref (M + 25), .ref (M + 26), .ref (M + 27), .null, .null, .null, .null, .null, .int 0, .int 0, .int 0, .int 0, .null, .null, .int 0, .int 0, .int 0, .null, .null, .null, .null, .null, .int 0, .int 0]) ∧ (∀ k, 1 ≤ k → k ≤ 27 → g (M + k) = .inl (mKn k, mSz k, .inl (fun _ => 0))) ∧ ∀ b, b < M ∨ M + 27 < b → g b = f b) ⟨va_up_self _ _ _, fun k h1 h2 => by
    by_cases e : k = 27
    · subst e; exact (va_up_ne _ _ (by omega)).trans (va_up_self _ _ _)
    · exact (va_up_ne _ _ (by omega)).trans ((va_up_ne _ _ (by omega)).trans (a9 k h1 (by omega))), fun b hb => (va_up_ne _ _ (by omega)).trans ((va_up_ne _ _ (by omega)).trans (n9 b (by omega)))⟩ (fun g9 hf => ?_)
  clear c9 a9 n9
  obtain ⟨c9, a9, n9⟩ := hf
  refine v_aload_n dX10_init_237 rfl (by rfl) ?_
  refine v_sipush (v := nI 240) dX10_init_238 (by decide) ?_
  refine v_newZ hE dX10_init_241 (by omega) (by omega) (by omega) ?_
  refine v_putF hE dX10_init_243 fX10_96 (by rfl) (by rfl) (by repeat (first | assumption | exact va_up_self _ _ _ | refine (va_up_ne _ _ (by omega)).trans ?_)) (by exact Nat.le_of_ble_eq_true rfl) (by rfl) (by rfl) (by rfl) ?_
  refine v_tt (t2 := M + 29) (by omega) ?_
  refine v_abs (P := fun g => g M = .inr (10, [.int 0, .ref (M + 1), .int 0, .int (-1), .int 0, .ref (M + 2), .ref (M + 3), .ref (M + 4), .ref (M + 5), .ref (M + 6), .ref (M + 7), .ref (M + 8), .int 0, .ref (M + 9), .ref (M + 10), .ref (M + 11), .ref (M + 12), .ref (M + 13), .ref (M + 14), .ref (M + 15), .ref (M + 16), .ref (M + 17), .ref (M + 18), .ref (M + 19), .ref (M + 20), .ref (M + 21), .ref (M + 22), .ref (M + 23), .ref (M + 24), .ref (M + 25), .ref (M + 26), .ref (M + 27), .ref (M + 28), .null, .null, .null, .null, .int 0, .int 0, .int 0, .int 0, .null, .null, .int 0, .int 0, .int 0, .null, .null, .null, .null, .null, .int 0, .int 0]) ∧ (∀ k, 1 ≤ k → k ≤ 28 → g (M + k) = .inl (mKn k, mSz k, .inl (fun _ => 0))) ∧ ∀ b, b < M ∨ M + 28 < b → g b = f b) ⟨va_up_self _ _ _, fun k h1 h2 => by
    by_cases e : k = 28
    · subst e; exact (va_up_ne _ _ (by omega)).trans (va_up_self _ _ _)
    · exact (va_up_ne _ _ (by omega)).trans ((va_up_ne _ _ (by omega)).trans (a9 k h1 (by omega))), fun b hb => (va_up_ne _ _ (by omega)).trans ((va_up_ne _ _ (by omega)).trans (n9 b (by omega)))⟩ (fun g9 hf => ?_)
  clear c9 a9 n9
  obtain ⟨c9, a9, n9⟩ := hf
  refine v_aload_n dX10_init_246 rfl (by rfl) ?_
  refine v_sipush (v := nI 1440) dX10_init_247 (by decide) ?_
  refine v_newI hE dX10_init_250 (by omega) (by omega) (by omega) ?_
  refine v_putF hE dX10_init_252 fX10_100 (by rfl) (by rfl) (by repeat (first | assumption | exact va_up_self _ _ _ | refine (va_up_ne _ _ (by omega)).trans ?_)) (by exact Nat.le_of_ble_eq_true rfl) (by rfl) (by rfl) (by rfl) ?_
  refine v_tt (t2 := M + 30) (by omega) ?_
  refine v_abs (P := fun g => g M = .inr (10, [.int 0, .ref (M + 1), .int 0, .int (-1), .int 0, .ref (M + 2), .ref (M + 3), .ref (M + 4), .ref (M + 5), .ref (M + 6), .ref (M + 7), .ref (M + 8), .int 0, .ref (M + 9), .ref (M + 10), .ref (M + 11), .ref (M + 12), .ref (M + 13), .ref (M + 14), .ref (M + 15), .ref (M + 16), .ref (M + 17), .ref (M + 18), .ref (M + 19), .ref (M + 20), .ref (M + 21), .ref (M + 22), .ref (M + 23), .ref (M + 24), .ref (M + 25), .ref (M + 26), .ref (M + 27), .ref (M + 28), .ref (M + 29), .null, .null, .null, .int 0, .int 0, .int 0, .int 0, .null, .null, .int 0, .int 0, .int 0, .null, .null, .null, .null, .null, .int 0, .int 0]) ∧ (∀ k, 1 ≤ k → k ≤ 29 → g (M + k) = .inl (mKn k, mSz k, .inl (fun _ => 0))) ∧ ∀ b, b < M ∨ M + 29 < b → g b = f b) ⟨va_up_self _ _ _, fun k h1 h2 => by
    by_cases e : k = 29
    · subst e; exact (va_up_ne _ _ (by omega)).trans (va_up_self _ _ _)
    · exact (va_up_ne _ _ (by omega)).trans ((va_up_ne _ _ (by omega)).trans (a9 k h1 (by omega))), fun b hb => (va_up_ne _ _ (by omega)).trans ((va_up_ne _ _ (by omega)).trans (n9 b (by omega)))⟩ (fun g9 hf => ?_)
  clear c9 a9 n9
  obtain ⟨c9, a9, n9⟩ := hf
  refine v_aload_n dX10_init_255 rfl (by rfl) ?_
  refine v_sipush (v := nI 720) dX10_init_256 (by decide) ?_
  refine v_newI hE dX10_init_259 (by omega) (by omega) (by omega) ?_
  refine v_putF hE dX10_init_261 fX10_103 (by rfl) (by rfl) (by repeat (first | assumption | exact va_up_self _ _ _ | refine (va_up_ne _ _ (by omega)).trans ?_)) (by exact Nat.le_of_ble_eq_true rfl) (by rfl) (by rfl) (by rfl) ?_
  refine v_tt (t2 := M + 31) (by omega) ?_
  refine v_abs (P := fun g => g M = .inr (10, [.int 0, .ref (M + 1), .int 0, .int (-1), .int 0, .ref (M + 2), .ref (M + 3), .ref (M + 4), .ref (M + 5), .ref (M + 6), .ref (M + 7), .ref (M + 8), .int 0, .ref (M + 9), .ref (M + 10), .ref (M + 11), .ref (M + 12), .ref (M + 13), .ref (M + 14), .ref (M + 15), .ref (M + 16), .ref (M + 17), .ref (M + 18), .ref (M + 19), .ref (M + 20), .ref (M + 21), .ref (M + 22), .ref (M + 23), .ref (M + 24), .ref (M + 25), .ref (M + 26), .ref (M + 27), .ref (M + 28), .ref (M + 29), .ref (M + 30), .null, .null, .int 0, .int 0, .int 0, .int 0, .null, .null, .int 0, .int 0, .int 0, .null, .null, .null, .null, .null, .int 0, .int 0]) ∧ (∀ k, 1 ≤ k → k ≤ 30 → g (M + k) = .inl (mKn k, mSz k, .inl (fun _ => 0))) ∧ ∀ b, b < M ∨ M + 30 < b → g b = f b) ⟨va_up_self _ _ _, fun k h1 h2 => by
    by_cases e : k = 30
    · subst e; exact (va_up_ne _ _ (by omega)).trans (va_up_self _ _ _)
    · exact (va_up_ne _ _ (by omega)).trans ((va_up_ne _ _ (by omega)).trans (a9 k h1 (by omega))), fun b hb => (va_up_ne _ _ (by omega)).trans ((va_up_ne _ _ (by omega)).trans (n9 b (by omega)))⟩ (fun g9 hf => ?_)
  clear c9 a9 n9
  obtain ⟨c9, a9, n9⟩ := hf
  refine v_aload_n dX10_init_264 rfl (by rfl) ?_
  refine v_sipush (v := nI 720) dX10_init_265 (by decide) ?_
  refine v_newZ hE dX10_init_268 (by omega) (by omega) (by omega) ?_
  refine v_putF hE dX10_init_270 fX10_106 (by rfl) (by rfl) (by repeat (first | assumption | exact va_up_self _ _ _ | refine (va_up_ne _ _ (by omega)).trans ?_)) (by exact Nat.le_of_ble_eq_true rfl) (by rfl) (by rfl) (by rfl) ?_
  refine v_tt (t2 := M + 32) (by omega) ?_
  refine v_abs (P := fun g => g M = .inr (10, [.int 0, .ref (M + 1), .int 0, .int (-1), .int 0, .ref (M + 2), .ref (M + 3), .ref (M + 4), .ref (M + 5), .ref (M + 6), .ref (M + 7), .ref (M + 8), .int 0, .ref (M + 9), .ref (M + 10), .ref (M + 11), .ref (M + 12), .ref (M + 13), .ref (M + 14), .ref (M + 15), .ref (M + 16), .ref (M + 17), .ref (M + 18), .ref (M + 19), .ref (M + 20), .ref (M + 21), .ref (M + 22), .ref (M + 23), .ref (M + 24), .ref (M + 25), .ref (M + 26), .ref (M + 27), .ref (M + 28), .ref (M + 29), .ref (M + 30), .ref (M + 31), .null, .int 0, .int 0, .int 0, .int 0, .null, .null, .int 0, .int 0, .int 0, .null, .null, .null, .null, .null, .int 0, .int 0]) ∧ (∀ k, 1 ≤ k → k ≤ 31 → g (M + k) = .inl (mKn k, mSz k, .inl (fun _ => 0))) ∧ ∀ b, b < M ∨ M + 31 < b → g b = f b) ⟨va_up_self _ _ _, fun k h1 h2 => by
    by_cases e : k = 31
    · subst e; exact (va_up_ne _ _ (by omega)).trans (va_up_self _ _ _)
    · exact (va_up_ne _ _ (by omega)).trans ((va_up_ne _ _ (by omega)).trans (a9 k h1 (by omega))), fun b hb => (va_up_ne _ _ (by omega)).trans ((va_up_ne _ _ (by omega)).trans (n9 b (by omega)))⟩ (fun g9 hf => ?_)
  clear c9 a9 n9
  obtain ⟨c9, a9, n9⟩ := hf
  refine v_aload_n dX10_init_273 rfl (by rfl) ?_
  refine v_sipush (v := nI 8200) dX10_init_274 (by decide) ?_
  refine v_newB hE dX10_init_277 (by omega) (by omega) (by omega) ?_
  refine v_putF hE dX10_init_279 fX10_109 (by rfl) (by rfl) (by repeat (first | assumption | exact va_up_self _ _ _ | refine (va_up_ne _ _ (by omega)).trans ?_)) (by exact Nat.le_of_ble_eq_true rfl) (by rfl) (by rfl) (by rfl) ?_
  refine v_tt (t2 := M + 33) (by omega) ?_
  refine v_abs (P := fun g => g M = .inr (10, [.int 0, .ref (M + 1), .int 0, .int (-1), .int 0, .ref (M + 2), .ref (M + 3), .ref (M + 4), .ref (M + 5), .ref (M + 6), .ref (M + 7), .ref (M + 8), .int 0, .ref (M + 9), .ref (M + 10), .ref (M + 11), .ref (M + 12), .ref (M + 13), .ref (M + 14), .ref (M + 15), .ref (M + 16), .ref (M + 17), .ref (M + 18), .ref (M + 19), .ref (M + 20), .ref (M + 21), .ref (M + 22), .ref (M + 23), .ref (M + 24), .ref (M + 25), .ref (M + 26), .ref (M + 27), .ref (M + 28), .ref (M + 29), .ref (M + 30), .ref (M + 31), .ref (M + 32), .int 0, .int 0, .int 0, .int 0, .null, .null, .int 0, .int 0, .int 0, .null, .null, .null, .null, .null, .int 0, .int 0]) ∧ (∀ k, 1 ≤ k → k ≤ 32 → g (M + k) = .inl (mKn k, mSz k, .inl (fun _ => 0))) ∧ ∀ b, b < M ∨ M + 32 < b → g b = f b) ⟨va_up_self _ _ _, fun k h1 h2 => by
    by_cases e : k = 32
    · subst e; exact (va_up_ne _ _ (by omega)).trans (va_up_self _ _ _)
    · exact (va_up_ne _ _ (by omega)).trans ((va_up_ne _ _ (by omega)).trans (a9 k h1 (by omega))), fun b hb => (va_up_ne _ _ (by omega)).trans ((va_up_ne _ _ (by omega)).trans (n9 b (by omega)))⟩ (fun g9 hf => ?_)
  clear c9 a9 n9
  obtain ⟨c9, a9, n9⟩ := hf
  refine v_aload_n dX10_init_282 rfl (by rfl) ?_
  refine v_sipush (v := nI 3002) dX10_init_283 (by decide) ?_
  refine v_newI hE dX10_init_286 (by omega) (by omega) (by omega) ?_
  refine v_putF hE dX10_init_288 fX10_112 (by rfl) (by rfl) (by repeat (first | assumption | exact va_up_self _ _ _ | refine (va_up_ne _ _ (by omega)).trans ?_)) (by exact Nat.le_of_ble_eq_true rfl) (by rfl) (by rfl) (by rfl) ?_
  refine v_tt (t2 := M + 34) (by omega) ?_
  refine v_abs (P := fun g => g M = .inr (10, [.int 0, .ref (M + 1), .int 0, .int (-1), .int 0, .ref (M + 2), .ref (M + 3), .ref (M + 4), .ref (M + 5), .ref (M + 6), .ref (M + 7), .ref (M + 8), .int 0, .ref (M + 9), .ref (M + 10), .ref (M + 11), .ref (M + 12), .ref (M + 13), .ref (M + 14), .ref (M + 15), .ref (M + 16), .ref (M + 17), .ref (M + 18), .ref (M + 19), .ref (M + 20), .ref (M + 21), .ref (M + 22), .ref (M + 23), .ref (M + 24), .ref (M + 25), .ref (M + 26), .ref (M + 27), .ref (M + 28), .ref (M + 29), .ref (M + 30), .ref (M + 31), .ref (M + 32), .int 0, .int 0, .int 0, .int 0, .ref (M + 33), .null, .int 0, .int 0, .int 0, .null, .null, .null, .null, .null, .int 0, .int 0]) ∧ (∀ k, 1 ≤ k → k ≤ 33 → g (M + k) = .inl (mKn k, mSz k, .inl (fun _ => 0))) ∧ ∀ b, b < M ∨ M + 33 < b → g b = f b) ⟨va_up_self _ _ _, fun k h1 h2 => by
    by_cases e : k = 33
    · subst e; exact (va_up_ne _ _ (by omega)).trans (va_up_self _ _ _)
    · exact (va_up_ne _ _ (by omega)).trans ((va_up_ne _ _ (by omega)).trans (a9 k h1 (by omega))), fun b hb => (va_up_ne _ _ (by omega)).trans ((va_up_ne _ _ (by omega)).trans (n9 b (by omega)))⟩ (fun g9 hf => ?_)
  clear c9 a9 n9
  obtain ⟨c9, a9, n9⟩ := hf
  refine v_aload_n dX10_init_291 rfl (by rfl) ?_
  refine v_sipush (v := nI 8200) dX10_init_292 (by decide) ?_
  refine v_newI hE dX10_init_295 (by omega) (by omega) (by omega) ?_
  refine v_putF hE dX10_init_297 fX10_115 (by rfl) (by rfl) (by repeat (first | assumption | exact va_up_self _ _ _ | refine (va_up_ne _ _ (by omega)).trans ?_)) (by exact Nat.le_of_ble_eq_true rfl) (by rfl) (by rfl) (by rfl) ?_
  refine v_tt (t2 := M + 35) (by omega) ?_
  refine v_abs (P := fun g => g M = .inr (10, [.int 0, .ref (M + 1), .int 0, .int (-1), .int 0, .ref (M + 2), .ref (M + 3), .ref (M + 4), .ref (M + 5), .ref (M + 6), .ref (M + 7), .ref (M + 8), .int 0, .ref (M + 9), .ref (M + 10), .ref (M + 11), .ref (M + 12), .ref (M + 13), .ref (M + 14), .ref (M + 15), .ref (M + 16), .ref (M + 17), .ref (M + 18), .ref (M + 19), .ref (M + 20), .ref (M + 21), .ref (M + 22), .ref (M + 23), .ref (M + 24), .ref (M + 25), .ref (M + 26), .ref (M + 27), .ref (M + 28), .ref (M + 29), .ref (M + 30), .ref (M + 31), .ref (M + 32), .int 0, .int 0, .int 0, .int 0, .ref (M + 33), .ref (M + 34), .int 0, .int 0, .int 0, .null, .null, .null, .null, .null, .int 0, .int 0]) ∧ (∀ k, 1 ≤ k → k ≤ 34 → g (M + k) = .inl (mKn k, mSz k, .inl (fun _ => 0))) ∧ ∀ b, b < M ∨ M + 34 < b → g b = f b) ⟨va_up_self _ _ _, fun k h1 h2 => by
    by_cases e : k = 34
    · subst e; exact (va_up_ne _ _ (by omega)).trans (va_up_self _ _ _)
    · exact (va_up_ne _ _ (by omega)).trans ((va_up_ne _ _ (by omega)).trans (a9 k h1 (by omega))), fun b hb => (va_up_ne _ _ (by omega)).trans ((va_up_ne _ _ (by omega)).trans (n9 b (by omega)))⟩ (fun g9 hf => ?_)
  clear c9 a9 n9
  obtain ⟨c9, a9, n9⟩ := hf
  refine v_aload_n dX10_init_300 rfl (by rfl) ?_
  refine v_iconst (v := nI 4) dX10_init_301 (by decide) ?_
  refine v_newI hE dX10_init_302 (by omega) (by omega) (by omega) ?_
  refine v_putF hE dX10_init_304 fX10_118 (by rfl) (by rfl) (by repeat (first | assumption | exact va_up_self _ _ _ | refine (va_up_ne _ _ (by omega)).trans ?_)) (by exact Nat.le_of_ble_eq_true rfl) (by rfl) (by rfl) (by rfl) ?_
  refine v_tt (t2 := M + 36) (by omega) ?_
  refine v_abs (P := fun g => g M = .inr (10, [.int 0, .ref (M + 1), .int 0, .int (-1), .int 0, .ref (M + 2), .ref (M + 3), .ref (M + 4), .ref (M + 5), .ref (M + 6), .ref (M + 7), .ref (M + 8), .int 0, .ref (M + 9), .ref (M + 10), .ref (M + 11), .ref (M + 12), .ref (M + 13), .ref (M + 14), .ref (M + 15), .ref (M + 16), .ref (M + 17), .ref (M + 18), .ref (M + 19), .ref (M + 20), .ref (M + 21), .ref (M + 22), .ref (M + 23), .ref (M + 24), .ref (M + 25), .ref (M + 26), .ref (M + 27), .ref (M + 28), .ref (M + 29), .ref (M + 30), .ref (M + 31), .ref (M + 32), .int 0, .int 0, .int 0, .int 0, .ref (M + 33), .ref (M + 34), .int 0, .int 0, .int 0, .ref (M + 35), .null, .null, .null, .null, .int 0, .int 0]) ∧ (∀ k, 1 ≤ k → k ≤ 35 → g (M + k) = .inl (mKn k, mSz k, .inl (fun _ => 0))) ∧ ∀ b, b < M ∨ M + 35 < b → g b = f b) ⟨va_up_self _ _ _, fun k h1 h2 => by
    by_cases e : k = 35
    · subst e; exact (va_up_ne _ _ (by omega)).trans (va_up_self _ _ _)
    · exact (va_up_ne _ _ (by omega)).trans ((va_up_ne _ _ (by omega)).trans (a9 k h1 (by omega))), fun b hb => (va_up_ne _ _ (by omega)).trans ((va_up_ne _ _ (by omega)).trans (n9 b (by omega)))⟩ (fun g9 hf => ?_)
  clear c9 a9 n9
  obtain ⟨c9, a9, n9⟩ := hf
  refine v_aload_n dX10_init_307 rfl (by rfl) ?_
  refine v_bipush (v := nI 60) dX10_init_308 (by decide) ?_
  refine v_newI hE dX10_init_310 (by omega) (by omega) (by omega) ?_
  refine v_putF hE dX10_init_312 fX10_121 (by rfl) (by rfl) (by repeat (first | assumption | exact va_up_self _ _ _ | refine (va_up_ne _ _ (by omega)).trans ?_)) (by exact Nat.le_of_ble_eq_true rfl) (by rfl) (by rfl) (by rfl) ?_
  refine v_tt (t2 := M + 37) (by omega) ?_
  refine v_abs (P := fun g => g M = .inr (10, [.int 0, .ref (M + 1), .int 0, .int (-1), .int 0, .ref (M + 2), .ref (M + 3), .ref (M + 4), .ref (M + 5), .ref (M + 6), .ref (M + 7), .ref (M + 8), .int 0, .ref (M + 9), .ref (M + 10), .ref (M + 11), .ref (M + 12), .ref (M + 13), .ref (M + 14), .ref (M + 15), .ref (M + 16), .ref (M + 17), .ref (M + 18), .ref (M + 19), .ref (M + 20), .ref (M + 21), .ref (M + 22), .ref (M + 23), .ref (M + 24), .ref (M + 25), .ref (M + 26), .ref (M + 27), .ref (M + 28), .ref (M + 29), .ref (M + 30), .ref (M + 31), .ref (M + 32), .int 0, .int 0, .int 0, .int 0, .ref (M + 33), .ref (M + 34), .int 0, .int 0, .int 0, .ref (M + 35), .ref (M + 36), .null, .null, .null, .int 0, .int 0]) ∧ (∀ k, 1 ≤ k → k ≤ 36 → g (M + k) = .inl (mKn k, mSz k, .inl (fun _ => 0))) ∧ ∀ b, b < M ∨ M + 36 < b → g b = f b) ⟨va_up_self _ _ _, fun k h1 h2 => by
    by_cases e : k = 36
    · subst e; exact (va_up_ne _ _ (by omega)).trans (va_up_self _ _ _)
    · exact (va_up_ne _ _ (by omega)).trans ((va_up_ne _ _ (by omega)).trans (a9 k h1 (by omega))), fun b hb => (va_up_ne _ _ (by omega)).trans ((va_up_ne _ _ (by omega)).trans (n9 b (by omega)))⟩ (fun g9 hf => ?_)
  clear c9 a9 n9
  obtain ⟨c9, a9, n9⟩ := hf
  refine v_aload_n dX10_init_315 rfl (by rfl) ?_
  refine v_bipush (v := nI 60) dX10_init_316 (by decide) ?_
  refine v_newI hE dX10_init_318 (by omega) (by omega) (by omega) ?_
  refine v_putF hE dX10_init_320 fX10_124 (by rfl) (by rfl) (by repeat (first | assumption | exact va_up_self _ _ _ | refine (va_up_ne _ _ (by omega)).trans ?_)) (by exact Nat.le_of_ble_eq_true rfl) (by rfl) (by rfl) (by rfl) ?_
  refine v_tt (t2 := M + 38) (by omega) ?_
  refine v_abs (P := fun g => g M = .inr (10, [.int 0, .ref (M + 1), .int 0, .int (-1), .int 0, .ref (M + 2), .ref (M + 3), .ref (M + 4), .ref (M + 5), .ref (M + 6), .ref (M + 7), .ref (M + 8), .int 0, .ref (M + 9), .ref (M + 10), .ref (M + 11), .ref (M + 12), .ref (M + 13), .ref (M + 14), .ref (M + 15), .ref (M + 16), .ref (M + 17), .ref (M + 18), .ref (M + 19), .ref (M + 20), .ref (M + 21), .ref (M + 22), .ref (M + 23), .ref (M + 24), .ref (M + 25), .ref (M + 26), .ref (M + 27), .ref (M + 28), .ref (M + 29), .ref (M + 30), .ref (M + 31), .ref (M + 32), .int 0, .int 0, .int 0, .int 0, .ref (M + 33), .ref (M + 34), .int 0, .int 0, .int 0, .ref (M + 35), .ref (M + 36), .ref (M + 37), .null, .null, .int 0, .int 0]) ∧ (∀ k, 1 ≤ k → k ≤ 37 → g (M + k) = .inl (mKn k, mSz k, .inl (fun _ => 0))) ∧ ∀ b, b < M ∨ M + 37 < b → g b = f b) ⟨va_up_self _ _ _, fun k h1 h2 => by
    by_cases e : k = 37
    · subst e; exact (va_up_ne _ _ (by omega)).trans (va_up_self _ _ _)
    · exact (va_up_ne _ _ (by omega)).trans ((va_up_ne _ _ (by omega)).trans (a9 k h1 (by omega))), fun b hb => (va_up_ne _ _ (by omega)).trans ((va_up_ne _ _ (by omega)).trans (n9 b (by omega)))⟩ (fun g9 hf => ?_)
  clear c9 a9 n9
  obtain ⟨c9, a9, n9⟩ := hf
  refine v_aload_n dX10_init_323 rfl (by rfl) ?_
  refine v_sipush (v := nI 8200) dX10_init_324 (by decide) ?_
  refine v_newB hE dX10_init_327 (by omega) (by omega) (by omega) ?_
  refine v_putF hE dX10_init_329 fX10_127 (by rfl) (by rfl) (by repeat (first | assumption | exact va_up_self _ _ _ | refine (va_up_ne _ _ (by omega)).trans ?_)) (by exact Nat.le_of_ble_eq_true rfl) (by rfl) (by rfl) (by rfl) ?_
  refine v_tt (t2 := M + 39) (by omega) ?_
  refine v_abs (P := fun g => g M = .inr (10, [.int 0, .ref (M + 1), .int 0, .int (-1), .int 0, .ref (M + 2), .ref (M + 3), .ref (M + 4), .ref (M + 5), .ref (M + 6), .ref (M + 7), .ref (M + 8), .int 0, .ref (M + 9), .ref (M + 10), .ref (M + 11), .ref (M + 12), .ref (M + 13), .ref (M + 14), .ref (M + 15), .ref (M + 16), .ref (M + 17), .ref (M + 18), .ref (M + 19), .ref (M + 20), .ref (M + 21), .ref (M + 22), .ref (M + 23), .ref (M + 24), .ref (M + 25), .ref (M + 26), .ref (M + 27), .ref (M + 28), .ref (M + 29), .ref (M + 30), .ref (M + 31), .ref (M + 32), .int 0, .int 0, .int 0, .int 0, .ref (M + 33), .ref (M + 34), .int 0, .int 0, .int 0, .ref (M + 35), .ref (M + 36), .ref (M + 37), .ref (M + 38), .null, .int 0, .int 0]) ∧ (∀ k, 1 ≤ k → k ≤ 38 → g (M + k) = .inl (mKn k, mSz k, .inl (fun _ => 0))) ∧ ∀ b, b < M ∨ M + 38 < b → g b = f b) ⟨va_up_self _ _ _, fun k h1 h2 => by
    by_cases e : k = 38
    · subst e; exact (va_up_ne _ _ (by omega)).trans (va_up_self _ _ _)
    · exact (va_up_ne _ _ (by omega)).trans ((va_up_ne _ _ (by omega)).trans (a9 k h1 (by omega))), fun b hb => (va_up_ne _ _ (by omega)).trans ((va_up_ne _ _ (by omega)).trans (n9 b (by omega)))⟩ (fun g9 hf => ?_)
  clear c9 a9 n9
  obtain ⟨c9, a9, n9⟩ := hf
  refine v_aload_n dX10_init_332 rfl (by rfl) ?_
  refine v_sipush (v := nI 8200) dX10_init_333 (by decide) ?_
  refine v_newI hE dX10_init_336 (by omega) (by omega) (by omega) ?_
  refine v_putF hE dX10_init_338 fX10_130 (by rfl) (by rfl) (by repeat (first | assumption | exact va_up_self _ _ _ | refine (va_up_ne _ _ (by omega)).trans ?_)) (by exact Nat.le_of_ble_eq_true rfl) (by rfl) (by rfl) (by rfl) ?_
  refine v_tt (t2 := M + 40) (by omega) ?_
  refine v_abs (P := fun g => g M = .inr (10, [.int 0, .ref (M + 1), .int 0, .int (-1), .int 0, .ref (M + 2), .ref (M + 3), .ref (M + 4), .ref (M + 5), .ref (M + 6), .ref (M + 7), .ref (M + 8), .int 0, .ref (M + 9), .ref (M + 10), .ref (M + 11), .ref (M + 12), .ref (M + 13), .ref (M + 14), .ref (M + 15), .ref (M + 16), .ref (M + 17), .ref (M + 18), .ref (M + 19), .ref (M + 20), .ref (M + 21), .ref (M + 22), .ref (M + 23), .ref (M + 24), .ref (M + 25), .ref (M + 26), .ref (M + 27), .ref (M + 28), .ref (M + 29), .ref (M + 30), .ref (M + 31), .ref (M + 32), .int 0, .int 0, .int 0, .int 0, .ref (M + 33), .ref (M + 34), .int 0, .int 0, .int 0, .ref (M + 35), .ref (M + 36), .ref (M + 37), .ref (M + 38), .ref (M + 39), .int 0, .int 0]) ∧ (∀ k, 1 ≤ k → k ≤ 39 → g (M + k) = .inl (mKn k, mSz k, .inl (fun _ => 0))) ∧ ∀ b, b < M ∨ M + 39 < b → g b = f b) ⟨va_up_self _ _ _, fun k h1 h2 => by
    by_cases e : k = 39
    · subst e; exact (va_up_ne _ _ (by omega)).trans (va_up_self _ _ _)
    · exact (va_up_ne _ _ (by omega)).trans ((va_up_ne _ _ (by omega)).trans (a9 k h1 (by omega))), fun b hb => (va_up_ne _ _ (by omega)).trans ((va_up_ne _ _ (by omega)).trans (n9 b (by omega)))⟩ (fun g9 hf => ?_)
  clear c9 a9 n9
  obtain ⟨c9, a9, n9⟩ := hf
  refine v_ret dX10_init_341 rfl ?_
  refine ⟨rfl, rfl, funext fun b => ?_⟩
  by_cases e : b = M
  · rw [e, mdS_M]
    exact c9
  · by_cases e2 : M < b ∧ b ≤ M + 39
    · have q1 := a9 (b - M) (by omega) (by omega)
      have q2 := mdS_A (f := f) (M := M) (k := b - M) (y := mNew) (by omega) (by omega)
      rw [show M + (b - M) = b by omega] at q1 q2
      rw [q1, q2]
      rfl
    · rw [mdS_ne (by omega)]
      exact n9 b (by omega)
