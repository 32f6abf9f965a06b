/-! Haplotype -/
abbrev hV : Type := (Nat → Nat) × (Nat → Nat) × (Nat → Nat) × (Nat → Nat) × (Nat → Nat) × Nat × Nat × Nat × Nat
abbrev hCh (v : hV) : Nat → Nat := v.1
abbrev hFr (v : hV) : Nat → Nat := v.2.1
abbrev hSz (v : hV) : Nat → Nat := v.2.2.1
abbrev hNf (v : hV) : Nat → Nat := v.2.2.2.1
abbrev hNz (v : hV) : Nat → Nat := v.2.2.2.2.1
abbrev hCc (v : hV) : Nat := v.2.2.2.2.2.1
abbrev hCt (v : hV) : Nat := v.2.2.2.2.2.2.1
abbrev hTo (v : hV) : Nat := v.2.2.2.2.2.2.2.1
abbrev hNt (v : hV) : Nat := v.2.2.2.2.2.2.2.2
abbrev iCh (v : hV) (x : Nat → Nat) : hV := (x, v.2)
abbrev iFr (v : hV) (x : Nat → Nat) : hV := (v.1, x, v.2.2)
abbrev iSz (v : hV) (x : Nat → Nat) : hV := (v.1, v.2.1, x, v.2.2.2)
abbrev iNf (v : hV) (x : Nat → Nat) : hV := (v.1, v.2.1, v.2.2.1, x, v.2.2.2.2)
abbrev iNz (v : hV) (x : Nat → Nat) : hV := (v.1, v.2.1, v.2.2.1, v.2.2.2.1, x, v.2.2.2.2.2)
abbrev iCc (v : hV) (x : Nat) : hV := (v.1, v.2.1, v.2.2.1, v.2.2.2.1, v.2.2.2.2.1, x, v.2.2.2.2.2.2)
abbrev iCt (v : hV) (x : Nat) : hV := (v.1, v.2.1, v.2.2.1, v.2.2.2.1, v.2.2.2.2.1, v.2.2.2.2.2.1, x, v.2.2.2.2.2.2.2)
abbrev iTo (v : hV) (x : Nat) : hV := (v.1, v.2.1, v.2.2.1, v.2.2.2.1, v.2.2.2.2.1, v.2.2.2.2.2.1, v.2.2.2.2.2.2.1, x, v.2.2.2.2.2.2.2.2)
abbrev iNt (v : hV) (x : Nat) : hV := (v.1, v.2.1, v.2.2.1, v.2.2.2.1, v.2.2.2.2.1, v.2.2.2.2.2.1, v.2.2.2.2.2.2.1, v.2.2.2.2.2.2.2.1, x)
def haP (f : aH) (a : Nat) (v : hV) : Prop := f a = .inr (3, [.ref (a + 1), .ref (a + 2), .ref (a + 3), .ref (a + 4), .ref (a + 5), .int (nI (hCc v)), .int (nI (hCt v)), .int (nI (hTo v)), .int (nI (hNt v))]) ∧ f (a + 1) = .inl (0, 60, .inl (fun k => nI (hCh v k))) ∧ f (a + 2) = .inl (0, 60, .inl (fun k => nI (hFr v k))) ∧ f (a + 3) = .inl (0, 60, .inl (fun k => nI (hSz v k))) ∧ f (a + 4) = .inl (0, 60, .inl (fun k => nI (hNf v k))) ∧ f (a + 5) = .inl (0, 60, .inl (fun k => nI (hNz v k)))
def haS (f : aH) (a : Nat) (v : hV) : aH := (va_up (va_up (va_up (va_up (va_up (va_up f (a + 5) (.inl (0, 60, .inl (fun k => nI (hNz v k))))) (a + 4) (.inl (0, 60, .inl (fun k => nI (hNf v k))))) (a + 3) (.inl (0, 60, .inl (fun k => nI (hSz v k))))) (a + 2) (.inl (0, 60, .inl (fun k => nI (hFr v k))))) (a + 1) (.inl (0, 60, .inl (fun k => nI (hCh v k))))) a (.inr (3, [.ref (a + 1), .ref (a + 2), .ref (a + 3), .ref (a + 4), .ref (a + 5), .int (nI (hCc v)), .int (nI (hCt v)), .int (nI (hTo v)), .int (nI (hNt v))])))
theorem haP_S (f : aH) (a : Nat) (v : hV) : haP (haS f a v) a v := ⟨va_up_self _ _ _, (va_up_ne _ _ (by omega)).trans (va_up_self _ _ _), (va_up_ne _ _ (by omega)).trans ((va_up_ne _ _ (by omega)).trans (va_up_self _ _ _)), (va_up_ne _ _ (by omega)).trans ((va_up_ne _ _ (by omega)).trans ((va_up_ne _ _ (by omega)).trans (va_up_self _ _ _))), (va_up_ne _ _ (by omega)).trans ((va_up_ne _ _ (by omega)).trans ((va_up_ne _ _ (by omega)).trans ((va_up_ne _ _ (by omega)).trans (va_up_self _ _ _)))), (va_up_ne _ _ (by omega)).trans ((va_up_ne _ _ (by omega)).trans ((va_up_ne _ _ (by omega)).trans ((va_up_ne _ _ (by omega)).trans ((va_up_ne _ _ (by omega)).trans (va_up_self _ _ _)))))⟩
theorem haS_ne {f : aH} {a b : Nat} {v : hV} (h : b < a ∨ a + 5 < b) : haS f a v b = f b := by
  unfold haS
  simp only [va_up]
  repeat rw [if_neg (by omega)]
theorem haS_ext {f f' : aH} {a : Nat} {v : hV} (h0 : f' a = .inr (3, [.ref (a + 1), .ref (a + 2), .ref (a + 3), .ref (a + 4), .ref (a + 5), .int (nI (hCc v)), .int (nI (hCt v)), .int (nI (hTo v)), .int (nI (hNt v))])) (h1 : f' (a + 1) = .inl (0, 60, .inl (fun k => nI (hCh v k)))) (h2 : f' (a + 2) = .inl (0, 60, .inl (fun k => nI (hFr v k)))) (h3 : f' (a + 3) = .inl (0, 60, .inl (fun k => nI (hSz v k)))) (h4 : f' (a + 4) = .inl (0, 60, .inl (fun k => nI (hNf v k)))) (h5 : f' (a + 5) = .inl (0, 60, .inl (fun k => nI (hNz v k)))) (hne : ∀ b, b < a ∨ a + 5 < b → f' b = f b) : f' = haS f a v := by
  funext b
  by_cases e0 : b = a
  · rw [e0, h0]; exact ((haP_S f a v).1).symm
  by_cases e1 : b = (a + 1)
  · rw [e1, h1]; exact ((haP_S f a v).2.1).symm
  by_cases e2 : b = (a + 2)
  · rw [e2, h2]; exact ((haP_S f a v).2.2.1).symm
  by_cases e3 : b = (a + 3)
  · rw [e3, h3]; exact ((haP_S f a v).2.2.2.1).symm
  by_cases e4 : b = (a + 4)
  · rw [e4, h4]; exact ((haP_S f a v).2.2.2.2.1).symm
  by_cases e5 : b = (a + 5)
  · rw [e5, h5]; exact ((haP_S f a v).2.2.2.2.2).symm
  rw [hne b (by omega), haS_ne (by omega)]
theorem haS_S {f : aH} {a : Nat} {v w : hV} : haS (haS f a v) a w = haS f a w := haS_ext (haP_S _ _ _).1 (haP_S _ _ _).2.1 (haP_S _ _ _).2.2.1 (haP_S _ _ _).2.2.2.1 (haP_S _ _ _).2.2.2.2.1 (haP_S _ _ _).2.2.2.2.2 (fun b hb => by rw [haS_ne hb, haS_ne hb])
theorem haS_id {f : aH} {a : Nat} {v : hV} (h : haP f a v) : haS f a v = f := (haS_ext h.1 h.2.1 h.2.2.1 h.2.2.2.1 h.2.2.2.2.1 h.2.2.2.2.2 (fun _ _ => rfl)).symm

set_option maxRecDepth 100000 in
set_option maxHeartbeats 4000000 in
/-- Haplotype() -/
theorem sX3_init {E : eN} (hE : eOk E) {f : aH} {t : Nat} {a : Nat} (h : f a = .inr (3, [.null, .null, .null, .null, .null, .int 0, .int 0, .int 0, .int 0])) (ht : t = a + 1) : mT E mX3_init 5 300 [.ref a] f t (fun o f' t' => o = .inl none ∧ t' = t + 5 ∧ f' = haS f a ((fun _ => 0), (fun _ => 0), (fun _ => 0), (fun _ => 0), (fun _ => 0), 0, 0, 0, 0)) := by
  refine mT_of (n := 0) (lo := [some (.ref a)]) (by decide) (by exact Nat.le_of_ble_eq_true rfl) rfl rfl ?_
  subst ht
  refine v_aload_n dX3_init_0 rfl (by rfl) ?_
  refine v_oinit hE dX3_init_1 oX3_3 (by decide) (by exact Nat.le_of_ble_eq_true rfl) ?_
  refine v_aload_n dX3_init_4 rfl (by rfl) ?_
  refine v_bipush (v := nI 60) dX3_init_5 (by decide) ?_
  refine v_newI hE dX3_init_7 (by omega) (by omega) (by omega) ?_
  refine v_putF hE dX3_init_9 fX3_9 (by rfl) (by rfl) (by repeat (first | assumption | exact va_up_self _ _ _ | refine (va_up_ne _ _ (by omega)).trans ?_)) (by exact Nat.le_of_ble_eq_true rfl) (by rfl) (by rfl) (by rfl) ?_
  refine v_aload_n dX3_init_12 rfl (by rfl) ?_
  refine v_bipush (v := nI 60) dX3_init_13 (by decide) ?_
  refine v_newI hE dX3_init_15 (by omega) (by omega) (by omega) ?_
  refine v_putF hE dX3_init_17 fX3_15 (by rfl) (by rfl) (by repeat (first | assumption | exact va_up_self _ _ _ | refine (va_up_ne _ _ (by omega)).trans ?_)) (by exact Nat.le_of_ble_eq_true rfl) (by rfl) (by rfl) (by rfl) ?_
  refine v_aload_n dX3_init_20 rfl (by rfl) ?_
  refine v_bipush (v := nI 60) dX3_init_21 (by decide) ?_
  refine v_newI hE dX3_init_23 (by omega) (by omega) (by omega) ?_
  refine v_putF hE dX3_init_25 fX3_18 (by rfl) (by rfl) (by repeat (first | assumption | exact va_up_self _ _ _ | refine (va_up_ne _ _ (by omega)).trans ?_)) (by exact Nat.le_of_ble_eq_true rfl) (by rfl) (by rfl) (by rfl) ?_
  refine v_aload_n dX3_init_28 rfl (by rfl) ?_
  refine v_bipush (v := nI 60) dX3_init_29 (by decide) ?_
  refine v_newI hE dX3_init_31 (by omega) (by omega) (by omega) ?_
  refine v_putF hE dX3_init_33 fX3_21 (by rfl) (by rfl) (by repeat (first | assumption | exact va_up_self _ _ _ | refine (va_up_ne _ _ (by omega)).trans ?_)) (by exact Nat.le_of_ble_eq_true rfl) (by rfl) (by rfl) (by rfl) ?_
  refine v_aload_n dX3_init_36 rfl (by rfl) ?_
  refine v_bipush (v := nI 60) dX3_init_37 (by decide) ?_
  refine v_newI hE dX3_init_39 (by omega) (by omega) (by omega) ?_
  refine v_putF hE dX3_init_41 fX3_24 (by rfl) (by rfl) (by repeat (first | assumption | exact va_up_self _ _ _ | refine (va_up_ne _ _ (by omega)).trans ?_)) (by exact Nat.le_of_ble_eq_true rfl) (by rfl) (by rfl) (by rfl) ?_
  refine v_ret dX3_init_44 rfl ?_
  exact ⟨rfl, rfl, haS_ext (by repeat (first | assumption | exact va_up_self _ _ _ | refine (va_up_ne _ _ (by omega)).trans ?_)) (by repeat (first | assumption | exact va_up_self _ _ _ | refine (va_up_ne _ _ (by omega)).trans ?_)) (by repeat (first | assumption | exact va_up_self _ _ _ | refine (va_up_ne _ _ (by omega)).trans ?_)) (by repeat (first | assumption | exact va_up_self _ _ _ | refine (va_up_ne _ _ (by omega)).trans ?_)) (by repeat (first | assumption | exact va_up_self _ _ _ | refine (va_up_ne _ _ (by omega)).trans ?_)) (by repeat (first | assumption | exact va_up_self _ _ _ | refine (va_up_ne _ _ (by omega)).trans ?_)) (fun b hb => by simp only [va_up]; (repeat rw [if_neg (by omega)]))⟩

set_option maxRecDepth 100000 in
set_option maxHeartbeats 4000000 in
/-- Haplotype.clear() -/
theorem sX3_clear {E : eN} (hE : eOk E) {f : aH} {t : Nat} {a : Nat} {v : hV} (h : haP f a v) : mT E mX3_clear 0 0 [.ref a] f t (fun o f' t' => o = .inl none ∧ t' = t ∧ f' = haS f a (iNt (iTo (iCt v 0) 0) 0)) := by
  refine mT_of (n := 0) (lo := [some (.ref a)]) (by decide) (by exact Nat.le_of_ble_eq_true rfl) rfl rfl ?_
  obtain ⟨h0, h1, h2, h3, h4, h5⟩ := id h
  refine v_aload_n dX3_clear_0 rfl (by rfl) ?_
  refine v_iconst (v := nI 0) dX3_clear_1 (by decide) ?_
  refine v_putf hE dX3_clear_2 fX3_27 (by repeat (first | assumption | exact va_up_self _ _ _ | refine (va_up_ne _ _ (by omega)).trans ?_)) (by exact Nat.le_of_ble_eq_true rfl) (by rfl) (by rfl) (by rfl) ?_
  refine v_aload_n dX3_clear_5 rfl (by rfl) ?_
  refine v_iconst (v := nI 0) dX3_clear_6 (by decide) ?_
  refine v_putf hE dX3_clear_7 fX3_31 (by repeat (first | assumption | exact va_up_self _ _ _ | refine (va_up_ne _ _ (by omega)).trans ?_)) (by exact Nat.le_of_ble_eq_true rfl) (by rfl) (by rfl) (by rfl) ?_
  refine v_aload_n dX3_clear_10 rfl (by rfl) ?_
  refine v_iconst (v := nI 0) dX3_clear_11 (by decide) ?_
  refine v_putf hE dX3_clear_12 fX3_34 (by repeat (first | assumption | exact va_up_self _ _ _ | refine (va_up_ne _ _ (by omega)).trans ?_)) (by exact Nat.le_of_ble_eq_true rfl) (by rfl) (by rfl) (by rfl) ?_
  refine v_ret dX3_clear_15 rfl ?_
  exact ⟨rfl, rfl, haS_ext (by repeat (first | assumption | exact va_up_self _ _ _ | refine (va_up_ne _ _ (by omega)).trans ?_)) (by repeat (first | assumption | exact va_up_self _ _ _ | refine (va_up_ne _ _ (by omega)).trans ?_)) (by repeat (first | assumption | exact va_up_self _ _ _ | refine (va_up_ne _ _ (by omega)).trans ?_)) (by repeat (first | assumption | exact va_up_self _ _ _ | refine (va_up_ne _ _ (by omega)).trans ?_)) (by repeat (first | assumption | exact va_up_self _ _ _ | refine (va_up_ne _ _ (by omega)).trans ?_)) (by repeat (first | assumption | exact va_up_self _ _ _ | refine (va_up_ne _ _ (by omega)).trans ?_)) (fun b hb => by simp only [va_up]; (repeat rw [if_neg (by omega)]))⟩

def hMovL (s l n m : Nat → Nat) (p : Nat) : Nat → Nat → Int32 → Int32
  | 0, _, x => nI p + x
  | d + 1, k, x => if p < s k then nI p + x else if p - s k < l k then (if p - s k < m k then nI (n k + (p - s k)) else -1) else hMovL s l n m p d (k + 1) (nI (n k + m k) - nI (s k) - nI (l k))
def hMov (s l n m : Nat → Nat) (c : Nat) (x : Int32) : Int32 := if nI 1 ≤ x then hMovL s l n m x.toNatClampNeg (c - 0) 0 (nI 0) else -1
def hBd (v : hV) : Prop := hCt v ≤ 60 ∧ ∀ k, hFr v k < 2 ^ 28 ∧ hSz v k < 2 ^ 28 ∧ hNf v k < 2 ^ 28 ∧ hNz v k < 2 ^ 28

set_option maxRecDepth 100000 in
set_option maxHeartbeats 4000000 in
/-- Haplotype.moved -/
theorem sX3_moved {E : eN} (hE : eOk E) {f : aH} {t : Nat} {a r1 r2 r3 r4 : Nat} {v : hV} {s l n m : Nat → Nat} {x : Int32} (h : haP f a v) (hc : hCt v ≤ 60) (q1 : f r1 = .inl (0, 60, .inl (fun k => nI (s k)))) (q2 : f r2 = .inl (0, 60, .inl (fun k => nI (l k)))) (q3 : f r3 = .inl (0, 60, .inl (fun k => nI (n k)))) (q4 : f r4 = .inl (0, 60, .inl (fun k => nI (m k)))) (hB : ∀ k, s k < 2 ^ 28 ∧ l k < 2 ^ 28 ∧ n k < 2 ^ 28 ∧ m k < 2 ^ 28) : mT E mX3_moved 0 0 [.ref a, .int x, .ref r1, .ref r2, .ref r3, .ref r4] f t (fun o f' t' => o = .inl (some (.int (hMov s l n m (hCt v) x))) ∧ t' = t ∧ f' = f) := by
  refine mT_of (n := 3) (lo := [some (.ref a), some (.int x), some (.ref r1), some (.ref r2), some (.ref r3), some (.ref r4), none, none, none]) (by decide) (by exact Nat.le_of_ble_eq_true rfl) rfl rfl ?_
  obtain ⟨h0, h1, h2, h3, h4, h5⟩ := id h
  refine v_iload_n dX3_moved_0 rfl (by rfl) ?_
  refine v_iconst (v := nI 1) dX3_moved_1 (by decide) ?_
  refine v_icmp_ge (tgt := 7) dX3_moved_2 (by decide) (fun c2 => ?_) (fun c2 => ?_)
  · refine v_iconst (v := nI 0) dX3_moved_7 (by decide) ?_
    refine v_istore dX3_moved_8 (by decide) ?_
    refine v_iconst (v := nI 0) dX3_moved_10 (by decide) ?_
    refine v_istore dX3_moved_11 (by decide) ?_
    obtain ⟨p, hp, rfl⟩ := nI_of (show ¬ x < 0 from fun q => absurd (Int32.lt_of_lt_of_le q (show (0 : Int32) ≤ nI 1 by decide)) (Int32.not_lt.mpr c2))
    have lp : ∀ (d : Nat) (k : Nat) (y : Int32) (w : Option Value), k + d = hCt v → hMov s l n m (hCt v) (nI p) = hMovL s l n m p (hCt v - k) k y → V E mX3_moved 0 0 (fun o f' t' => o = .inl (some (.int (hMov s l n m (hCt v) (nI p)))) ∧ t' = t ∧ f' = f) 13 [some (.ref a), some (.int (nI p)), some (.ref r1), some (.ref r2), some (.ref r3), some (.ref r4), some (.int y), some (.int (nI k)), w] [] f t 0 0 := by
      intro d
      induction d using Nat.strongRecOn with
      | _ d ih =>
      intro k y w hk he
      obtain ⟨m1, m2, m3, m4⟩ := hB k
      refine v_iload dX3_moved_13 (by rfl) ?_
      refine v_aload_n dX3_moved_15 rfl (by rfl) ?_
      refine v_getf hE dX3_moved_16 fX3_27 (by repeat (first | assumption | exact va_up_self _ _ _ | refine (va_up_ne _ _ (by omega)).trans ?_)) (by rfl) ?_
      refine v_icmp_geN (tgt := 99) dX3_moved_19 (by decide) (by omega) (by omega) (fun c19 => ?_) (fun c19 => ?_)
      · refine v_iload_n dX3_moved_99 rfl (by rfl) ?_
        refine v_iload dX3_moved_100 (by rfl) ?_
        refine v_iadd dX3_moved_102 ?_
        refine v_iret dX3_moved_103 rfl (by rfl) ?_
        refine ⟨congrArg (fun x => (Sum.inl (some (Value.int x)) : aO)) ?_, rfl, rfl⟩
        rw [he]
        first | (rw [show hCt v - k = 0 by omega]; rfl) | (rw [show hCt v - k = (hCt v - (k + 1)) + 1 by omega]; show _ = (if _ then _ else if _ then (if _ then _ else _) else _); first | (rw [if_pos (by omega)]; done) | (rw [if_neg (by omega), if_pos (by omega), if_pos (by omega)]; done) | (rw [if_neg (by omega), if_pos (by omega), if_neg (by omega)]; done))
      · refine v_aload_n dX3_moved_22 rfl (by rfl) ?_
        refine v_iload dX3_moved_23 (by rfl) ?_
        refine v_iald hE dX3_moved_25 (by repeat (first | assumption | exact va_up_self _ _ _ | refine (va_up_ne _ _ (by omega)).trans ?_)) (by omega) (by omega) ?_
        refine v_iload_n dX3_moved_26 rfl (by rfl) ?_
        refine v_icmp_gtN (tgt := 99) dX3_moved_27 (by decide) (by omega) (by omega) (fun c27 => ?_) (fun c27 => ?_)
        · refine v_iload_n dX3_moved_99 rfl (by rfl) ?_
          refine v_iload dX3_moved_100 (by rfl) ?_
          refine v_iadd dX3_moved_102 ?_
          refine v_iret dX3_moved_103 rfl (by rfl) ?_
          refine ⟨congrArg (fun x => (Sum.inl (some (Value.int x)) : aO)) ?_, rfl, rfl⟩
          rw [he]
          first | (rw [show hCt v - k = 0 by omega]; rfl) | (rw [show hCt v - k = (hCt v - (k + 1)) + 1 by omega]; show _ = (if _ then _ else if _ then (if _ then _ else _) else _); first | (rw [if_pos (by omega)]; done) | (rw [if_neg (by omega), if_pos (by omega), if_pos (by omega)]; done) | (rw [if_neg (by omega), if_pos (by omega), if_neg (by omega)]; done))
        · refine v_iload_n dX3_moved_30 rfl (by rfl) ?_
          refine v_aload_n dX3_moved_31 rfl (by rfl) ?_
          refine v_iload dX3_moved_32 (by rfl) ?_
          refine v_iald hE dX3_moved_34 (by repeat (first | assumption | exact va_up_self _ _ _ | refine (va_up_ne _ _ (by omega)).trans ?_)) (by omega) (by omega) ?_
          refine v_isubN dX3_moved_35 (by omega) ?_
          refine v_istore dX3_moved_36 (by decide) ?_
          refine v_iload dX3_moved_38 (by rfl) ?_
          refine v_aload_n dX3_moved_40 rfl (by rfl) ?_
          refine v_iload dX3_moved_41 (by rfl) ?_
          refine v_iald hE dX3_moved_43 (by repeat (first | assumption | exact va_up_self _ _ _ | refine (va_up_ne _ _ (by omega)).trans ?_)) (by omega) (by omega) ?_
          refine v_icmp_geN (tgt := 70) dX3_moved_44 (by decide) (by omega) (by omega) (fun c44 => ?_) (fun c44 => ?_)
          · refine v_aload dX3_moved_70 (by rfl) ?_
            refine v_iload dX3_moved_72 (by rfl) ?_
            refine v_iald hE dX3_moved_74 (by repeat (first | assumption | exact va_up_self _ _ _ | refine (va_up_ne _ _ (by omega)).trans ?_)) (by omega) (by omega) ?_
            refine v_aload dX3_moved_75 (by rfl) ?_
            refine v_iload dX3_moved_77 (by rfl) ?_
            refine v_iald hE dX3_moved_79 (by repeat (first | assumption | exact va_up_self _ _ _ | refine (va_up_ne _ _ (by omega)).trans ?_)) (by omega) (by omega) ?_
            refine v_iaddN dX3_moved_80 ?_
            refine v_aload_n dX3_moved_81 rfl (by rfl) ?_
            refine v_iload dX3_moved_82 (by rfl) ?_
            refine v_iald hE dX3_moved_84 (by repeat (first | assumption | exact va_up_self _ _ _ | refine (va_up_ne _ _ (by omega)).trans ?_)) (by omega) (by omega) ?_
            refine v_isub dX3_moved_85 ?_
            refine v_aload_n dX3_moved_86 rfl (by rfl) ?_
            refine v_iload dX3_moved_87 (by rfl) ?_
            refine v_iald hE dX3_moved_89 (by repeat (first | assumption | exact va_up_self _ _ _ | refine (va_up_ne _ _ (by omega)).trans ?_)) (by omega) (by omega) ?_
            refine v_isub dX3_moved_90 ?_
            refine v_istore dX3_moved_91 (by decide) ?_
            refine v_iincN (y := 1) dX3_moved_93 (by rfl) (by decide) (by decide) ?_
            refine v_goto (tgt := 13) dX3_moved_96 (by decide) ?_
            exact ih (d - 1) (by omega) (k + 1) _ _ (by omega) (he.trans (by rw [show hCt v - k = (hCt v - (k + 1)) + 1 by omega]; show (if _ then _ else if _ then _ else _) = _; rw [if_neg (by omega), if_neg (by omega)]))
          · refine v_iload dX3_moved_47 (by rfl) ?_
            refine v_aload dX3_moved_49 (by rfl) ?_
            refine v_iload dX3_moved_51 (by rfl) ?_
            refine v_iald hE dX3_moved_53 (by repeat (first | assumption | exact va_up_self _ _ _ | refine (va_up_ne _ _ (by omega)).trans ?_)) (by omega) (by omega) ?_
            refine v_icmp_geN (tgt := 68) dX3_moved_54 (by decide) (by omega) (by omega) (fun c54 => ?_) (fun c54 => ?_)
            · refine v_iconst (v := (-1)) dX3_moved_68 (by decide) ?_
              refine v_iret dX3_moved_69 rfl (by rfl) ?_
              refine ⟨congrArg (fun x => (Sum.inl (some (Value.int x)) : aO)) ?_, rfl, rfl⟩
              rw [he]
              first | (rw [show hCt v - k = 0 by omega]; rfl) | (rw [show hCt v - k = (hCt v - (k + 1)) + 1 by omega]; show _ = (if _ then _ else if _ then (if _ then _ else _) else _); first | (rw [if_pos (by omega)]; done) | (rw [if_neg (by omega), if_pos (by omega), if_pos (by omega)]; done) | (rw [if_neg (by omega), if_pos (by omega), if_neg (by omega)]; done))
            · refine v_aload dX3_moved_57 (by rfl) ?_
              refine v_iload dX3_moved_59 (by rfl) ?_
              refine v_iald hE dX3_moved_61 (by repeat (first | assumption | exact va_up_self _ _ _ | refine (va_up_ne _ _ (by omega)).trans ?_)) (by omega) (by omega) ?_
              refine v_iload dX3_moved_62 (by rfl) ?_
              refine v_iaddN dX3_moved_64 ?_
              refine v_goto (tgt := 69) dX3_moved_65 (by decide) ?_
              refine v_iret dX3_moved_69 rfl (by rfl) ?_
              refine ⟨congrArg (fun x => (Sum.inl (some (Value.int x)) : aO)) ?_, rfl, rfl⟩
              rw [he]
              first | (rw [show hCt v - k = 0 by omega]; rfl) | (rw [show hCt v - k = (hCt v - (k + 1)) + 1 by omega]; show _ = (if _ then _ else if _ then (if _ then _ else _) else _); first | (rw [if_pos (by omega)]; done) | (rw [if_neg (by omega), if_pos (by omega), if_pos (by omega)]; done) | (rw [if_neg (by omega), if_pos (by omega), if_neg (by omega)]; done))
    exact lp (hCt v) 0 (nI 0) none (by omega) (by unfold hMov; rw [if_pos c2, nI_clamp hp])
  · refine v_iconst (v := (-1)) dX3_moved_5 (by decide) ?_
    refine v_iret dX3_moved_6 rfl (by rfl) ?_
    refine ⟨congrArg (fun x => (Sum.inl (some (Value.int x)) : aO)) ?_, rfl, rfl⟩
    unfold hMov
    rw [if_neg c2]

def hCar (v : hV) (x : Int32) : Int32 := if x ≤ nI (hTo v) then hMov (hFr v) (hSz v) (hNf v) (hNz v) (hCt v) x else -1
set_option maxRecDepth 100000 in
set_option maxHeartbeats 4000000 in
/-- Haplotype.carriedTo -/
theorem sX3_carriedTo {E : eN} (hE : eOk E) {f : aH} {t : Nat} {a : Nat} {v : hV} {x : Int32} (h : haP f a v) (hb : hBd v) : mT E mX3_carriedTo 0 0 [.ref a, .int x] f t (fun o f' t' => o = .inl (some (.int (hCar v x))) ∧ t' = t ∧ f' = f) := by
  refine mT_of (n := 0) (lo := [some (.ref a), some (.int x)]) (by decide) (by exact Nat.le_of_ble_eq_true rfl) rfl rfl ?_
  obtain ⟨h0, h1, h2, h3, h4, h5⟩ := id h
  refine v_iload_n dX3_carriedTo_0 rfl (by rfl) ?_
  refine v_aload_n dX3_carriedTo_1 rfl (by rfl) ?_
  refine v_getf hE dX3_carriedTo_2 fX3_31 (by repeat (first | assumption | exact va_up_self _ _ _ | refine (va_up_ne _ _ (by omega)).trans ?_)) (by rfl) ?_
  refine v_icmp_le (tgt := 12) dX3_carriedTo_5 (by decide) (fun c5 => ?_) (fun c5 => ?_)
  · refine v_aload_n dX3_carriedTo_12 rfl (by rfl) ?_
    refine v_iload_n dX3_carriedTo_13 rfl (by rfl) ?_
    refine v_aload_n dX3_carriedTo_14 rfl (by rfl) ?_
    refine v_getf hE dX3_carriedTo_15 fX3_15 (by repeat (first | assumption | exact va_up_self _ _ _ | refine (va_up_ne _ _ (by omega)).trans ?_)) (by rfl) ?_
    refine v_aload_n dX3_carriedTo_18 rfl (by rfl) ?_
    refine v_getf hE dX3_carriedTo_19 fX3_18 (by repeat (first | assumption | exact va_up_self _ _ _ | refine (va_up_ne _ _ (by omega)).trans ?_)) (by rfl) ?_
    refine v_aload_n dX3_carriedTo_22 rfl (by rfl) ?_
    refine v_getf hE dX3_carriedTo_23 fX3_21 (by repeat (first | assumption | exact va_up_self _ _ _ | refine (va_up_ne _ _ (by omega)).trans ?_)) (by rfl) ?_
    refine v_aload_n dX3_carriedTo_26 rfl (by rfl) ?_
    refine v_getf hE dX3_carriedTo_27 fX3_24 (by repeat (first | assumption | exact va_up_self _ _ _ | refine (va_up_ne _ _ (by omega)).trans ?_)) (by rfl) ?_
    refine w_callV hE dX3_carriedTo_30 kX3_88 (by repeat (first | assumption | exact va_up_self _ _ _ | refine (va_up_ne _ _ (by omega)).trans ?_)) (by rfl) (by rfl) (sX3_moved hE h hb.1 h2 h3 h4 h5 (fun k => ⟨(hb.2 k).1, (hb.2 k).2.1, (hb.2 k).2.2.1, (hb.2 k).2.2.2⟩)) rfl (by decide) (by decide) (by exact Nat.le_of_ble_eq_true rfl) (by omega) (by omega) (fun v9 g9 u9 h9 => ?_) (fun _ _ _ h => by cases h.1)
    obtain ⟨hv9, hu9, hg9⟩ := h9
    replace hu9 := hu9.symm
    replace hg9 := hg9.symm
    subst hu9
    subst hg9
    cases hv9
    refine v_iret dX3_carriedTo_33 rfl (by rfl) ?_
    refine ⟨congrArg (fun x => (Sum.inl (some (Value.int x)) : aO)) ?_, rfl, rfl⟩
    unfold hCar
    first | rw [if_pos c5] | rw [if_neg c5]
  · refine v_iconst (v := (-1)) dX3_carriedTo_8 (by decide) ?_
    refine v_goto (tgt := 33) dX3_carriedTo_9 (by decide) ?_
    refine v_iret dX3_carriedTo_33 rfl (by rfl) ?_
    refine ⟨congrArg (fun x => (Sum.inl (some (Value.int x)) : aO)) ?_, rfl, rfl⟩
    unfold hCar
    first | rw [if_pos c5] | rw [if_neg c5]

def hBac (v : hV) (x : Int32) : Int32 := if x ≤ nI (hNt v) then hMov (hNf v) (hNz v) (hFr v) (hSz v) (hCt v) x else -1
set_option maxRecDepth 100000 in
set_option maxHeartbeats 4000000 in
/-- Haplotype.backTo -/
theorem sX3_backTo {E : eN} (hE : eOk E) {f : aH} {t : Nat} {a : Nat} {v : hV} {x : Int32} (h : haP f a v) (hb : hBd v) : mT E mX3_backTo 0 0 [.ref a, .int x] f t (fun o f' t' => o = .inl (some (.int (hBac v x))) ∧ t' = t ∧ f' = f) := by
  refine mT_of (n := 0) (lo := [some (.ref a), some (.int x)]) (by decide) (by exact Nat.le_of_ble_eq_true rfl) rfl rfl ?_
  obtain ⟨h0, h1, h2, h3, h4, h5⟩ := id h
  refine v_iload_n dX3_backTo_0 rfl (by rfl) ?_
  refine v_aload_n dX3_backTo_1 rfl (by rfl) ?_
  refine v_getf hE dX3_backTo_2 fX3_34 (by repeat (first | assumption | exact va_up_self _ _ _ | refine (va_up_ne _ _ (by omega)).trans ?_)) (by rfl) ?_
  refine v_icmp_le (tgt := 12) dX3_backTo_5 (by decide) (fun c5 => ?_) (fun c5 => ?_)
  · refine v_aload_n dX3_backTo_12 rfl (by rfl) ?_
    refine v_iload_n dX3_backTo_13 rfl (by rfl) ?_
    refine v_aload_n dX3_backTo_14 rfl (by rfl) ?_
    refine v_getf hE dX3_backTo_15 fX3_21 (by repeat (first | assumption | exact va_up_self _ _ _ | refine (va_up_ne _ _ (by omega)).trans ?_)) (by rfl) ?_
    refine v_aload_n dX3_backTo_18 rfl (by rfl) ?_
    refine v_getf hE dX3_backTo_19 fX3_24 (by repeat (first | assumption | exact va_up_self _ _ _ | refine (va_up_ne _ _ (by omega)).trans ?_)) (by rfl) ?_
    refine v_aload_n dX3_backTo_22 rfl (by rfl) ?_
    refine v_getf hE dX3_backTo_23 fX3_15 (by repeat (first | assumption | exact va_up_self _ _ _ | refine (va_up_ne _ _ (by omega)).trans ?_)) (by rfl) ?_
    refine v_aload_n dX3_backTo_26 rfl (by rfl) ?_
    refine v_getf hE dX3_backTo_27 fX3_18 (by repeat (first | assumption | exact va_up_self _ _ _ | refine (va_up_ne _ _ (by omega)).trans ?_)) (by rfl) ?_
    refine w_callV hE dX3_backTo_30 kX3_88 (by repeat (first | assumption | exact va_up_self _ _ _ | refine (va_up_ne _ _ (by omega)).trans ?_)) (by rfl) (by rfl) (sX3_moved hE h hb.1 h4 h5 h2 h3 (fun k => ⟨(hb.2 k).2.2.1, (hb.2 k).2.2.2, (hb.2 k).1, (hb.2 k).2.1⟩)) rfl (by decide) (by decide) (by exact Nat.le_of_ble_eq_true rfl) (by omega) (by omega) (fun v9 g9 u9 h9 => ?_) (fun _ _ _ h => by cases h.1)
    obtain ⟨hv9, hu9, hg9⟩ := h9
    replace hu9 := hu9.symm
    replace hg9 := hg9.symm
    subst hu9
    subst hg9
    cases hv9
    refine v_iret dX3_backTo_33 rfl (by rfl) ?_
    refine ⟨congrArg (fun x => (Sum.inl (some (Value.int x)) : aO)) ?_, rfl, rfl⟩
    unfold hBac
    first | rw [if_pos c5] | rw [if_neg c5]
  · refine v_iconst (v := (-1)) dX3_backTo_8 (by decide) ?_
    refine v_goto (tgt := 33) dX3_backTo_9 (by decide) ?_
    refine v_iret dX3_backTo_33 rfl (by rfl) ?_
    refine ⟨congrArg (fun x => (Sum.inl (some (Value.int x)) : aO)) ?_, rfl, rfl⟩
    unfold hBac
    first | rw [if_pos c5] | rw [if_neg c5]

def eAltC (q i : Nat) : Nat → Nat → eV → eV
  | 0, _, y => y
  | d + 1, c, y => eAltC q i d (c + 1) (if eCall y i c ≤ 0 then y else wCa y (upd (eCa y) (i * 2 + c) (if eCall y i c = nI q then nI 1 else nI 0)))
def eAltS (q : Nat) : Nat → Nat → eV → eV
  | 0, _, y => y
  | d + 1, i, y => eAltS q d (i + 1) (eAltC q i (eCn y i - 0) 0 y)
def eTake (v w : eV) (q m : Nat) : eV := eAltS q (m - 0) 0 (wRo (eCopyR (eCopy v w) 1 w q) 2)

set_option maxRecDepth 100000 in
set_option maxHeartbeats 4000000 in
/-- Entry.takeAlt -/
theorem sX0_takeAlt {E : eN} (hE : eOk E) {f : aH} {t : Nat} {a b q n : Nat} {v w : eV} (h : enP f a v) (hv : enOk v) (hb : enP f b w) (hw : enOk w) (hd : b + 6 < a ∨ a + 6 < b) (hq : q < 4) (hn : n ≤ 3) : mT E mX0_takeAlt 0 0 [.ref a, .ref b, .int (nI q), .int (nI n)] f t (fun o f' t' => o = .inl none ∧ t' = t ∧ f' = enS f a (eTake v w q n)) := by
  refine mT_of (n := 3) (lo := [some (.ref a), some (.ref b), some (.int (nI q)), some (.int (nI n)), none, none, none]) (by decide) (by exact Nat.le_of_ble_eq_true rfl) rfl rfl ?_
  obtain ⟨h0, h1, h2, h3, h4, h5, h6⟩ := id h
  obtain ⟨k0, k1, k2, k3⟩ := id hv
  obtain ⟨g0, g1, g2, g3, g4, g5, g6⟩ := id hb
  obtain ⟨q0, q1, q2, q3⟩ := id hw
  have lp : ∀ (di : Nat) (i : Nat) (y : eV) (z5 z6 : Option Value), i + di = n → enOk y → eTake v w q n = eAltS q (n - i) i y → V E mX0_takeAlt 0 0 (fun o f' t' => o = .inl none ∧ t' = t ∧ f' = enS f a (eTake v w q n)) 20 [some (.ref a), some (.ref b), some (.int (nI q)), some (.int (nI n)), some (.int (nI i)), z5, z6] [] (enS f a y) t 0 0 := by
    intro di
    induction di using Nat.strongRecOn with
    | _ di ihi =>
    intro i y z5 z6 hi hy he
    obtain ⟨e0, e1, e2, e3, e4, e5, e6⟩ := enP_S f a y
    obtain ⟨y0, y1, y2, y3⟩ := id hy
    have y4 := y2 i
    have lq : i < n → ∀ (d : Nat) (c : Nat) (x : eV) (z6 : Option Value), c + d = eCn y i → enOk x → eCn x = eCn y → eTake v w q n = eAltS q (n - (i + 1)) (i + 1) (eAltC q i (eCn y i - c) c x) → V E mX0_takeAlt 0 0 (fun o f' t' => o = .inl none ∧ t' = t ∧ f' = enS f a (eTake v w q n)) 29 [some (.ref a), some (.ref b), some (.int (nI q)), some (.int (nI n)), some (.int (nI i)), some (.int (nI c)), z6] [] (enS f a x) t 0 0 := by
      intro hi2 d
      induction d using Nat.strongRecOn with
      | _ d ih =>
      intro c x z6 hc hx hxn hxe
      obtain ⟨e0, e1, e2, e3, e4, e5, e6⟩ := enP_S f a x
      obtain ⟨x0, x1, x2, x3⟩ := id hx
      have x4 := x2 i
      have hxn2 := congrFun hxn i
      refine v_iload dX0_takeAlt_29 (by rfl) ?_
      refine v_aload_n dX0_takeAlt_31 rfl (by rfl) ?_
      refine v_getf hE dX0_takeAlt_32 fX0_24 (by repeat (first | assumption | exact va_up_self _ _ _ | refine (va_up_ne _ _ (by omega)).trans ?_)) (by rfl) ?_
      refine v_iload dX0_takeAlt_35 (by rfl) ?_
      refine v_iald hE dX0_takeAlt_37 (by repeat (first | assumption | exact va_up_self _ _ _ | refine (va_up_ne _ _ (by omega)).trans ?_)) (by omega) (by omega) ?_
      refine v_icmp_geN (tgt := 81) dX0_takeAlt_38 (by decide) (by omega) (by omega) (fun c38 => ?_) (fun c38 => ?_)
      · refine v_iincN (y := 1) dX0_takeAlt_81 (by rfl) (by decide) (by decide) ?_
        refine v_goto (tgt := 20) dX0_takeAlt_84 (by decide) ?_
        exact ihi (di - 1) (by omega) (i + 1) x (some (.int (nI c))) z6 (by omega) hx (hxe.trans (by rw [show eCn y i - c = 0 by omega]; rfl))
      · refine v_aload_n dX0_takeAlt_41 rfl (by rfl) ?_
        refine v_iload dX0_takeAlt_42 (by rfl) ?_
        refine v_iload dX0_takeAlt_44 (by rfl) ?_
        refine w_callV hE dX0_takeAlt_46 kX0_129 (by repeat (first | assumption | exact va_up_self _ _ _ | refine (va_up_ne _ _ (by omega)).trans ?_)) (by rfl) (by rfl) (sX0_callAt hE (enP_S f a x) hx (by omega) (by omega)) rfl (by decide) (by decide) (by exact Nat.le_of_ble_eq_true rfl) (by omega) (by omega) (fun v9 g9 u9 h9 => ?_) (fun _ _ _ h => by cases h.1)
        obtain ⟨hv9, hu9, hg9⟩ := h9
        replace hu9 := hu9.symm
        replace hg9 := hg9.symm
        subst hu9
        subst hg9
        cases hv9
        refine v_istore dX0_takeAlt_49 (by decide) ?_
        refine v_iload dX0_takeAlt_51 (by rfl) ?_
        refine v_if_le (tgt := 75) dX0_takeAlt_53 (by decide) (fun c53 => ?_) (fun c53 => ?_)
        · refine v_iincN (y := 1) dX0_takeAlt_75 (by rfl) (by decide) (by decide) ?_
          refine v_goto (tgt := 29) dX0_takeAlt_78 (by decide) ?_
          refine ih (d - 1) (by omega) (c + 1) _ (some (.int (eCall x i c))) (by omega) ⟨x0, x1, x2, x3⟩ hxn (hxe.trans (by rw [show eCn y i - c = (eCn y i - (c + 1)) + 1 by omega]; show eAltS q _ _ (eAltC q i _ (c + 1) (if _ then _ else _)) = _; first | rw [if_pos c53] | rw [if_neg c53, if_pos c64] | rw [if_neg c53, if_neg c64]))
        · refine v_aload_n dX0_takeAlt_56 rfl (by rfl) ?_
          refine v_iload dX0_takeAlt_57 (by rfl) ?_
          refine v_iload dX0_takeAlt_59 (by rfl) ?_
          refine v_iload dX0_takeAlt_61 (by rfl) ?_
          refine v_iload_n dX0_takeAlt_63 rfl (by rfl) ?_
          refine v_icmp_ne (tgt := 71) dX0_takeAlt_64 (by decide) (fun c64 => ?_) (fun c64 => ?_)
          · refine v_iconst (v := nI 0) dX0_takeAlt_71 (by decide) ?_
            refine w_callV hE dX0_takeAlt_72 kX0_65 (by repeat (first | assumption | exact va_up_self _ _ _ | refine (va_up_ne _ _ (by omega)).trans ?_)) (by rfl) (by rfl) (sX0_setCall hE (enP_S f a x) hx (by omega) (by omega)) rfl (by decide) (by decide) (by exact Nat.le_of_ble_eq_true rfl) (by omega) (by omega) (fun v9 g9 u9 h9 => ?_) (fun _ _ _ h => by cases h.1)
            obtain ⟨hv9, hu9, hg9⟩ := h9
            replace hu9 := hu9.symm
            replace hg9 := hg9.symm
            subst hu9
            subst hg9
            cases hv9
            refine v_hp enS_S ?_
            refine v_iincN (y := 1) dX0_takeAlt_75 (by rfl) (by decide) (by decide) ?_
            refine v_goto (tgt := 29) dX0_takeAlt_78 (by decide) ?_
            refine ih (d - 1) (by omega) (c + 1) _ (some (.int (eCall x i c))) (by omega) ⟨x0, x1, x2, x3⟩ hxn (hxe.trans (by rw [show eCn y i - c = (eCn y i - (c + 1)) + 1 by omega]; show eAltS q _ _ (eAltC q i _ (c + 1) (if _ then _ else _)) = _; first | rw [if_pos c53] | rw [if_neg c53, if_pos c64] | rw [if_neg c53, if_neg c64]))
          · refine v_iconst (v := nI 1) dX0_takeAlt_67 (by decide) ?_
            refine v_goto (tgt := 72) dX0_takeAlt_68 (by decide) ?_
            refine w_callV hE dX0_takeAlt_72 kX0_65 (by repeat (first | assumption | exact va_up_self _ _ _ | refine (va_up_ne _ _ (by omega)).trans ?_)) (by rfl) (by rfl) (sX0_setCall hE (enP_S f a x) hx (by omega) (by omega)) rfl (by decide) (by decide) (by exact Nat.le_of_ble_eq_true rfl) (by omega) (by omega) (fun v9 g9 u9 h9 => ?_) (fun _ _ _ h => by cases h.1)
            obtain ⟨hv9, hu9, hg9⟩ := h9
            replace hu9 := hu9.symm
            replace hg9 := hg9.symm
            subst hu9
            subst hg9
            cases hv9
            refine v_hp enS_S ?_
            refine v_iincN (y := 1) dX0_takeAlt_75 (by rfl) (by decide) (by decide) ?_
            refine v_goto (tgt := 29) dX0_takeAlt_78 (by decide) ?_
            refine ih (d - 1) (by omega) (c + 1) _ (some (.int (eCall x i c))) (by omega) ⟨x0, x1, x2, x3⟩ hxn (hxe.trans (by rw [show eCn y i - c = (eCn y i - (c + 1)) + 1 by omega]; show eAltS q _ _ (eAltC q i _ (c + 1) (if _ then _ else _)) = _; first | rw [if_pos c53] | rw [if_neg c53, if_pos c64] | rw [if_neg c53, if_neg c64]))
    refine v_iload dX0_takeAlt_20 (by rfl) ?_
    refine v_iload_n dX0_takeAlt_22 rfl (by rfl) ?_
    refine v_icmp_geN (tgt := 87) dX0_takeAlt_23 (by decide) (by omega) (by omega) (fun c23 => ?_) (fun c23 => ?_)
    · refine v_ret dX0_takeAlt_87 rfl ?_
      refine ⟨rfl, rfl, ?_⟩
      rw [he, show n - i = 0 by omega]
      rfl
    · refine v_iconst (v := nI 0) dX0_takeAlt_26 (by decide) ?_
      refine v_istore dX0_takeAlt_27 (by decide) ?_
      exact lq (by omega) (eCn y i) 0 y z6 (by omega) hy rfl (he.trans (by rw [show n - i = (n - (i + 1)) + 1 by omega]; rfl))
  refine v_aload_n dX0_takeAlt_0 rfl (by rfl) ?_
  refine v_aload_n dX0_takeAlt_1 rfl (by rfl) ?_
  refine w_callV hE dX0_takeAlt_2 kX0_123 (by repeat (first | assumption | exact va_up_self _ _ _ | refine (va_up_ne _ _ (by omega)).trans ?_)) (by rfl) (by rfl) (sX0_copyFrom hE h hv hb hw hd) rfl (by decide) (by decide) (by exact Nat.le_of_ble_eq_true rfl) (by omega) (by omega) (fun v9 g9 u9 h9 => ?_) (fun _ _ _ h => by cases h.1)
  obtain ⟨hv9, hu9, hg9⟩ := h9
  replace hu9 := hu9.symm
  replace hg9 := hg9.symm
  subst hu9
  subst hg9
  cases hv9
  refine v_aload_n dX0_takeAlt_5 rfl (by rfl) ?_
  refine v_iconst (v := nI 1) dX0_takeAlt_6 (by decide) ?_
  refine v_aload_n dX0_takeAlt_7 rfl (by rfl) ?_
  refine v_iload_n dX0_takeAlt_8 rfl (by rfl) ?_
  refine w_callV hE dX0_takeAlt_9 kX0_126 (by repeat (first | assumption | exact va_up_self _ _ _ | refine (va_up_ne _ _ (by omega)).trans ?_)) (by rfl) (by rfl) (sX0_copyRow hE (enP_S f a (eCopy v w)) (eCopy_ok hv hw) (en_enS hb hd) hw hd (by omega) hq) rfl (by decide) (by decide) (by exact Nat.le_of_ble_eq_true rfl) (by omega) (by omega) (fun v9 g9 u9 h9 => ?_) (fun _ _ _ h => by cases h.1)
  obtain ⟨hv9, hu9, hg9⟩ := h9
  replace hu9 := hu9.symm
  replace hg9 := hg9.symm
  subst hu9
  subst hg9
  cases hv9
  refine v_hp enS_S ?_
  obtain ⟨e0, e1, e2, e3, e4, e5, e6⟩ := enP_S f a (eCopyR (eCopy v w) 1 w q)
  refine v_aload_n dX0_takeAlt_12 rfl (by rfl) ?_
  refine v_iconst (v := nI 2) dX0_takeAlt_13 (by decide) ?_
  refine v_putf hE dX0_takeAlt_14 fX0_41 (by repeat (first | assumption | exact va_up_self _ _ _ | refine (va_up_ne _ _ (by omega)).trans ?_)) (by exact Nat.le_of_ble_eq_true rfl) (by rfl) (by rfl) (by rfl) ?_
  refine v_hp (show _ = enS f a (wRo (eCopyR (eCopy v w) 1 w q) 2) from enS_ext (by repeat (first | assumption | exact va_up_self _ _ _ | refine (va_up_ne _ _ (by omega)).trans ?_)) (by repeat (first | assumption | exact va_up_self _ _ _ | refine (va_up_ne _ _ (by omega)).trans ?_)) (by repeat (first | assumption | exact va_up_self _ _ _ | refine (va_up_ne _ _ (by omega)).trans ?_)) (by repeat (first | assumption | exact va_up_self _ _ _ | refine (va_up_ne _ _ (by omega)).trans ?_)) (by repeat (first | assumption | exact va_up_self _ _ _ | refine (va_up_ne _ _ (by omega)).trans ?_)) (by repeat (first | assumption | exact va_up_self _ _ _ | refine (va_up_ne _ _ (by omega)).trans ?_)) (by repeat (first | assumption | exact va_up_self _ _ _ | refine (va_up_ne _ _ (by omega)).trans ?_)) (fun b hb => by simp only [va_up]; (repeat rw [if_neg (by omega)]); exact enS_ne hb)) ?_
  refine v_iconst (v := nI 0) dX0_takeAlt_17 (by decide) ?_
  refine v_istore dX0_takeAlt_18 (by decide) ?_
  exact lp n 0 _ _ _ (by omega) ⟨(by show 2 ≤ 4; omega), (eCopyR_ok (eCopy_ok hv hw) hw).2⟩ rfl
