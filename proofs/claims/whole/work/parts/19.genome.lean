/-! Genome: names, letters, starts, sizes, widths, places in the text, how many, how many letters -/
abbrev gV : Type := nV × (Nat → Int32) × (Nat → Nat) × (Nat → Nat) × (Nat → Nat) × (Nat → Int32) × Nat × Nat
abbrev gLe (v : gV) : Nat → Int32 := v.2.1
abbrev gSt (v : gV) : Nat → Nat := v.2.2.1
abbrev gSz (v : gV) : Nat → Nat := v.2.2.2.1
abbrev gWi (v : gV) : Nat → Nat := v.2.2.2.2.1
abbrev gTp (v : gV) : Nat → Int32 := v.2.2.2.2.2.1
abbrev gCt (v : gV) : Nat := v.2.2.2.2.2.2.1
abbrev gTo (v : gV) : Nat := v.2.2.2.2.2.2.2

def gnP (f : aH) (a : Nat) (v : gV) : Prop := f a = .inr (1, [.ref (a + 1), .ref (a + 4), .ref (a + 5), .ref (a + 6), .ref (a + 7), .ref (a + 8), .int (nI (gCt v)), .int (nI (gTo v))]) ∧ f (a + 1) = .inr (5, [.int (nI 8), .ref (a + 1 + 1), .ref (a + 1 + 2), .int (nI v.1.1)]) ∧ f (a + 2) = .inl (0, 8 * 20, .inl v.1.2.1) ∧ f (a + 3) = .inl (0, 8, .inl (fun k => nI (v.1.2.2 k))) ∧ f (a + 4) = .inl (0, 3000, .inl (gLe v)) ∧ f (a + 5) = .inl (0, 8, .inl (fun k => nI (gSt v k))) ∧ f (a + 6) = .inl (0, 8, .inl (fun k => nI (gSz v k))) ∧ f (a + 7) = .inl (0, 8, .inl (fun k => nI (gWi v k))) ∧ f (a + 8) = .inl (0, 8, .inl (gTp v))
def gnS (f : aH) (a : Nat) (v : gV) : aH := (va_up (va_up (va_up (va_up (va_up (va_up (va_up (va_up (va_up f (a + 8) (.inl (0, 8, .inl (gTp v)))) (a + 7) (.inl (0, 8, .inl (fun k => nI (gWi v k))))) (a + 6) (.inl (0, 8, .inl (fun k => nI (gSz v k))))) (a + 5) (.inl (0, 8, .inl (fun k => nI (gSt v k))))) (a + 4) (.inl (0, 3000, .inl (gLe v)))) (a + 3) (.inl (0, 8, .inl (fun k => nI (v.1.2.2 k))))) (a + 2) (.inl (0, 8 * 20, .inl v.1.2.1))) (a + 1) (.inr (5, [.int (nI 8), .ref (a + 1 + 1), .ref (a + 1 + 2), .int (nI v.1.1)]))) a (.inr (1, [.ref (a + 1), .ref (a + 4), .ref (a + 5), .ref (a + 6), .ref (a + 7), .ref (a + 8), .int (nI (gCt v)), .int (nI (gTo v))])))
theorem gnP_S (f : aH) (a : Nat) (v : gV) : gnP (gnS f a v) a v := ⟨va_up_self _ _ _, (va_up_ne _ _ (by omega)).trans (va_up_self _ _ _), (va_up_ne _ _ (by omega)).trans ((va_up_ne _ _ (by omega)).trans (va_up_self _ _ _)), (va_up_ne _ _ (by omega)).trans ((va_up_ne _ _ (by omega)).trans ((va_up_ne _ _ (by omega)).trans (va_up_self _ _ _))), (va_up_ne _ _ (by omega)).trans ((va_up_ne _ _ (by omega)).trans ((va_up_ne _ _ (by omega)).trans ((va_up_ne _ _ (by omega)).trans (va_up_self _ _ _)))), (va_up_ne _ _ (by omega)).trans ((va_up_ne _ _ (by omega)).trans ((va_up_ne _ _ (by omega)).trans ((va_up_ne _ _ (by omega)).trans ((va_up_ne _ _ (by omega)).trans (va_up_self _ _ _))))), (va_up_ne _ _ (by omega)).trans ((va_up_ne _ _ (by omega)).trans ((va_up_ne _ _ (by omega)).trans ((va_up_ne _ _ (by omega)).trans ((va_up_ne _ _ (by omega)).trans ((va_up_ne _ _ (by omega)).trans (va_up_self _ _ _)))))), (va_up_ne _ _ (by omega)).trans ((va_up_ne _ _ (by omega)).trans ((va_up_ne _ _ (by omega)).trans ((va_up_ne _ _ (by omega)).trans ((va_up_ne _ _ (by omega)).trans ((va_up_ne _ _ (by omega)).trans ((va_up_ne _ _ (by omega)).trans (va_up_self _ _ _))))))), (va_up_ne _ _ (by omega)).trans ((va_up_ne _ _ (by omega)).trans ((va_up_ne _ _ (by omega)).trans ((va_up_ne _ _ (by omega)).trans ((va_up_ne _ _ (by omega)).trans ((va_up_ne _ _ (by omega)).trans ((va_up_ne _ _ (by omega)).trans ((va_up_ne _ _ (by omega)).trans (va_up_self _ _ _))))))))⟩
theorem gnS_ne {f : aH} {a b : Nat} {v : gV} (h : b < a ∨ a + 8 < b) : gnS f a v b = f b := by
  unfold gnS
  simp only [va_up]
  repeat rw [if_neg (by omega)]
theorem gnS_ext {f f' : aH} {a : Nat} {v : gV} (h0 : f' a = .inr (1, [.ref (a + 1), .ref (a + 4), .ref (a + 5), .ref (a + 6), .ref (a + 7), .ref (a + 8), .int (nI (gCt v)), .int (nI (gTo v))])) (h1 : f' (a + 1) = .inr (5, [.int (nI 8), .ref (a + 1 + 1), .ref (a + 1 + 2), .int (nI v.1.1)])) (h2 : f' (a + 2) = .inl (0, 8 * 20, .inl v.1.2.1)) (h3 : f' (a + 3) = .inl (0, 8, .inl (fun k => nI (v.1.2.2 k)))) (h4 : f' (a + 4) = .inl (0, 3000, .inl (gLe v))) (h5 : f' (a + 5) = .inl (0, 8, .inl (fun k => nI (gSt v k)))) (h6 : f' (a + 6) = .inl (0, 8, .inl (fun k => nI (gSz v k)))) (h7 : f' (a + 7) = .inl (0, 8, .inl (fun k => nI (gWi v k)))) (h8 : f' (a + 8) = .inl (0, 8, .inl (gTp v))) (hne : ∀ b, b < a ∨ a + 8 < b → f' b = f b) : f' = gnS f a v := by
  funext b
  by_cases e0 : b = a
  · rw [e0, h0]; exact ((gnP_S f a v).1).symm
  by_cases e1 : b = (a + 1)
  · rw [e1, h1]; exact ((gnP_S f a v).2.1).symm
  by_cases e2 : b = (a + 2)
  · rw [e2, h2]; exact ((gnP_S f a v).2.2.1).symm
  by_cases e3 : b = (a + 3)
  · rw [e3, h3]; exact ((gnP_S f a v).2.2.2.1).symm
  by_cases e4 : b = (a + 4)
  · rw [e4, h4]; exact ((gnP_S f a v).2.2.2.2.1).symm
  by_cases e5 : b = (a + 5)
  · rw [e5, h5]; exact ((gnP_S f a v).2.2.2.2.2.1).symm
  by_cases e6 : b = (a + 6)
  · rw [e6, h6]; exact ((gnP_S f a v).2.2.2.2.2.2.1).symm
  by_cases e7 : b = (a + 7)
  · rw [e7, h7]; exact ((gnP_S f a v).2.2.2.2.2.2.2.1).symm
  by_cases e8 : b = (a + 8)
  · rw [e8, h8]; exact ((gnP_S f a v).2.2.2.2.2.2.2.2).symm
  rw [hne b (by omega), gnS_ne (by omega)]
theorem gnS_S {f : aH} {a : Nat} {v w : gV} : gnS (gnS f a v) a w = gnS f a w := gnS_ext (gnP_S _ _ _).1 (gnP_S _ _ _).2.1 (gnP_S _ _ _).2.2.1 (gnP_S _ _ _).2.2.2.1 (gnP_S _ _ _).2.2.2.2.1 (gnP_S _ _ _).2.2.2.2.2.1 (gnP_S _ _ _).2.2.2.2.2.2.1 (gnP_S _ _ _).2.2.2.2.2.2.2.1 (gnP_S _ _ _).2.2.2.2.2.2.2.2 (fun b hb => by rw [gnS_ne hb, gnS_ne hb])
theorem gnS_id {f : aH} {a : Nat} {v : gV} (h : gnP f a v) : gnS f a v = f := (gnS_ext h.1 h.2.1 h.2.2.1 h.2.2.2.1 h.2.2.2.2.1 h.2.2.2.2.2.1 h.2.2.2.2.2.2.1 h.2.2.2.2.2.2.2.1 h.2.2.2.2.2.2.2.2 (fun _ _ => rfl)).symm

theorem gn_nm {f : aH} {a : Nat} {v : gV} (h : gnP f a v) : nmP 8 f (a + 1) v.1 := ⟨h.2.1, h.2.2.1, h.2.2.2.1⟩
theorem gn_set {f : aH} {a : Nat} {v : gV} {w : nV} (h : gnP f a v) : nmS 8 f (a + 1) w = gnS f a (w, v.2) := by
  obtain ⟨h0, h1, h2, h3, h4, h5, h6, h7, h8⟩ := h
  obtain ⟨e0, e1, e2⟩ := nmP_S 8 f (a + 1) w
  refine gnS_ext ?_ e0 e1 e2 ?_ ?_ ?_ ?_ ?_ ?_
  · rw [nmS_ne (by omega)]; exact h0
  · rw [nmS_ne (by omega)]; exact h4
  · rw [nmS_ne (by omega)]; exact h5
  · rw [nmS_ne (by omega)]; exact h6
  · rw [nmS_ne (by omega)]; exact h7
  · rw [nmS_ne (by omega)]; exact h8
  · intro b hb; exact nmS_ne (by omega)
def gOk (v : gV) : Prop := nOk 8 v.1 ∧ v.1.1 = gCt v ∧ gTo v ≤ 3000 ∧ ∀ s, s < gCt v → gSt v s + gSz v s ≤ gTo v
def gnOpen (v : gV) : gV := if gCt v < 8 then (nmNew 8 v.1, gLe v, va_up (gSt v) (gCt v) (gTo v), va_up (gSz v) (gCt v) 0, va_up (gWi v) (gCt v) 0, upd (gTp v) (gCt v) (-1), gCt v + 1, gTo v) else v
def gnAdd (v : gV) (x y : Int32) : gV := if gTo v < 3000 then (v.1, upd (gLe v) (gTo v) x, gSt v, va_up (gSz v) (gCt v - 1) (gSz v (gCt v - 1) + 1), gWi v, if gSz v (gCt v - 1) = 0 then upd (gTp v) (gCt v - 1) y else gTp v, gCt v, gTo v + 1) else v
def gnWidth (v : gV) (w : Nat) : gV := (v.1, gLe v, gSt v, gSz v, va_up (gWi v) (gCt v - 1) w, gTp v, gCt v, gTo v)
def gnHas (v : gV) (s : Nat) : Bool := decide (s < gCt v)
def gnSz (v : gV) (s : Nat) : Nat := if s < gCt v then gSz v s else 0
def gnLet (v : gV) (s p : Nat) : Int32 := if s < gCt v ∧ 1 ≤ p ∧ p ≤ gSz v s then gLe v (gSt v s + p - 1) else -1
theorem gnLet_in {v : gV} {s p : Nat} (h1 : s < gCt v) (h2 : 1 ≤ p) (h3 : p ≤ gSz v s) : gnLet v s p = gLe v (gSt v s + p - 1) := if_pos ⟨h1, h2, h3⟩
theorem gnLet_out {v : gV} {s p : Nat} (h : ¬ (s < gCt v ∧ 1 ≤ p ∧ p ≤ gSz v s)) : gnLet v s p = -1 := if_neg h
theorem gnOpen_ok {v : gV} (h : gOk v) : gOk (gnOpen v) := by
  obtain ⟨h1, h2, h3, h4⟩ := h
  unfold gnOpen
  split
  · rename_i hc
    refine ⟨nmNew_ok h1, ?_, h3, fun s hs => ?_⟩
    · show (nmNew 8 v.1).1 = gCt v + 1
      unfold nmNew
      rw [if_pos (by omega)]
      show v.1.1 + 1 = _
      omega
    · show va_up (gSt v) (gCt v) (gTo v) s + va_up (gSz v) (gCt v) 0 s ≤ gTo v
      have hs : s < gCt v + 1 := hs
      unfold va_up
      by_cases e : s = gCt v
      · rw [if_pos e, if_pos e]; omega
      · rw [if_neg e, if_neg e]; exact h4 s (by omega)
  · exact ⟨h1, h2, h3, h4⟩
theorem gnAdd_ok {v : gV} {x y : Int32} (h : gOk v) : gOk (gnAdd v x y) := by
  obtain ⟨h1, h2, h3, h4⟩ := h
  unfold gnAdd
  split
  · refine ⟨h1, h2, by show gTo v + 1 ≤ 3000; omega, fun s hs => ?_⟩
    show gSt v s + va_up (gSz v) (gCt v - 1) (gSz v (gCt v - 1) + 1) s ≤ gTo v + 1
    have h5 := h4 s hs
    unfold va_up
    by_cases e : s = gCt v - 1
    · rw [if_pos e, ← e]; omega
    · rw [if_neg e]; omega
  · exact ⟨h1, h2, h3, h4⟩
theorem gnWidth_ok {v : gV} {w : Nat} (h : gOk v) : gOk (gnWidth v w) := h

set_option maxRecDepth 100000 in
set_option maxHeartbeats 4000000 in
/-- Genome() -/
theorem sX1_init {E : eN} (hE : eOk E) {f : aH} {t : Nat} {a : Nat} (h : f a = .inr (1, [.null, .null, .null, .null, .null, .null, .int 0, .int 0])) (ht : t = a + 1) : mT E mX1_init 8 3204 [.ref a] f t (fun o f' t' => o = .inl none ∧ t' = t + 8 ∧ f' = gnS f a ((0, (fun _ => 0), (fun _ => 0)), (fun _ => 0), (fun _ => 0), (fun _ => 0), (fun _ => 0), (fun _ => 0), 0, 0)) := by
  refine mT_of (n := 0) (lo := [some (.ref a)]) (by decide) (by exact Nat.le_of_ble_eq_true rfl) rfl rfl ?_
  subst ht
  refine v_aload_n dX1_init_0 rfl (by rfl) ?_
  refine v_oinit hE dX1_init_1 oX1_3 (by decide) (by exact Nat.le_of_ble_eq_true rfl) ?_
  refine v_aload_n dX1_init_4 rfl (by rfl) ?_
  refine v_new hE (ci := 5) (N := 4) (fs := [.int 0, .null, .null, .int 0]) dX1_init_5 nX1_9 rfl (by decide) (by omega) (by omega) ?_
  refine v_dup dX1_init_8 rfl ?_
  refine v_bipush (v := nI 8) dX1_init_9 (by decide) ?_
  refine w_callI hE dX1_init_11 kX1_11 rfl (by rfl) (sX5_init hE (a := a + 1) (L := 8) (va_up_self _ _ _) (by omega) rfl) rfl (fun _ _ _ h => by cases h.1) (by decide) (by decide) (by exact Nat.le_of_ble_eq_true rfl) (by omega) (by omega) (fun v9 g9 u9 h9 => ?_)
  obtain ⟨hv, rfl, rfl⟩ := h9
  cases hv
  obtain ⟨e0, e1, e2⟩ := nmP_S 8 (va_up f (a + 1) (Sum.inr (5, [.int 0, .null, .null, .int 0]))) (a + 1) (0, (fun _ => 0), (fun _ => 0))
  have e3 : nmS 8 (va_up f (a + 1) (Sum.inr (5, [.int 0, .null, .null, .int 0]))) (a + 1) (0, (fun _ => 0), (fun _ => 0)) a = f a := by rw [nmS_ne (by omega), va_up_ne _ _ (by omega)]
  rw [h] at e3
  refine v_putF hE dX1_init_14 fX1_14 (by rfl) (by rfl) (by repeat (first | assumption | exact va_up_self _ _ _ | refine (va_up_ne _ _ (by omega)).trans ?_)) (by exact Nat.le_of_ble_eq_true rfl) (by rfl) (by rfl) (by rfl) ?_
  refine v_aload_n dX1_init_17 rfl (by rfl) ?_
  refine v_sipush (v := nI 3000) dX1_init_18 (by decide) ?_
  refine v_newI hE dX1_init_21 (by omega) (by omega) (by omega) ?_
  refine v_putF hE dX1_init_23 fX1_20 (by rfl) (by rfl) (by repeat (first | assumption | exact va_up_self _ _ _ | refine (va_up_ne _ _ (by omega)).trans ?_)) (by exact Nat.le_of_ble_eq_true rfl) (by rfl) (by rfl) (by rfl) ?_
  refine v_aload_n dX1_init_26 rfl (by rfl) ?_
  refine v_bipush (v := nI 8) dX1_init_27 (by decide) ?_
  refine v_newI hE dX1_init_29 (by omega) (by omega) (by omega) ?_
  refine v_putF hE dX1_init_31 fX1_24 (by rfl) (by rfl) (by repeat (first | assumption | exact va_up_self _ _ _ | refine (va_up_ne _ _ (by omega)).trans ?_)) (by exact Nat.le_of_ble_eq_true rfl) (by rfl) (by rfl) (by rfl) ?_
  refine v_aload_n dX1_init_34 rfl (by rfl) ?_
  refine v_bipush (v := nI 8) dX1_init_35 (by decide) ?_
  refine v_newI hE dX1_init_37 (by omega) (by omega) (by omega) ?_
  refine v_putF hE dX1_init_39 fX1_27 (by rfl) (by rfl) (by repeat (first | assumption | exact va_up_self _ _ _ | refine (va_up_ne _ _ (by omega)).trans ?_)) (by exact Nat.le_of_ble_eq_true rfl) (by rfl) (by rfl) (by rfl) ?_
  refine v_aload_n dX1_init_42 rfl (by rfl) ?_
  refine v_bipush (v := nI 8) dX1_init_43 (by decide) ?_
  refine v_newI hE dX1_init_45 (by omega) (by omega) (by omega) ?_
  refine v_putF hE dX1_init_47 fX1_30 (by rfl) (by rfl) (by repeat (first | assumption | exact va_up_self _ _ _ | refine (va_up_ne _ _ (by omega)).trans ?_)) (by exact Nat.le_of_ble_eq_true rfl) (by rfl) (by rfl) (by rfl) ?_
  refine v_aload_n dX1_init_50 rfl (by rfl) ?_
  refine v_bipush (v := nI 8) dX1_init_51 (by decide) ?_
  refine v_newI hE dX1_init_53 (by omega) (by omega) (by omega) ?_
  refine v_putF hE dX1_init_55 fX1_33 (by rfl) (by rfl) (by repeat (first | assumption | exact va_up_self _ _ _ | refine (va_up_ne _ _ (by omega)).trans ?_)) (by exact Nat.le_of_ble_eq_true rfl) (by rfl) (by rfl) (by rfl) ?_
  refine v_ret dX1_init_58 rfl ?_
  refine ⟨rfl, rfl, gnS_ext (by repeat (first | assumption | exact va_up_self _ _ _ | refine (va_up_ne _ _ (by omega)).trans ?_)) (by repeat (first | assumption | exact va_up_self _ _ _ | refine (va_up_ne _ _ (by omega)).trans ?_)) (by repeat (first | assumption | exact va_up_self _ _ _ | refine (va_up_ne _ _ (by omega)).trans ?_)) (by repeat (first | assumption | exact va_up_self _ _ _ | refine (va_up_ne _ _ (by omega)).trans ?_)) (by repeat (first | assumption | exact va_up_self _ _ _ | refine (va_up_ne _ _ (by omega)).trans ?_)) (by repeat (first | assumption | exact va_up_self _ _ _ | refine (va_up_ne _ _ (by omega)).trans ?_)) (by repeat (first | assumption | exact va_up_self _ _ _ | refine (va_up_ne _ _ (by omega)).trans ?_)) (by repeat (first | assumption | exact va_up_self _ _ _ | refine (va_up_ne _ _ (by omega)).trans ?_)) (by repeat (first | assumption | exact va_up_self _ _ _ | refine (va_up_ne _ _ (by omega)).trans ?_)) (fun b hb => by simp only [va_up]; (repeat rw [if_neg (by omega)]); rw [nmS_ne (by omega), va_up_ne _ _ (by omega)])⟩

set_option maxRecDepth 100000 in
set_option maxHeartbeats 4000000 in
/-- Genome.clear() -/
theorem sX1_clear {E : eN} (hE : eOk E) {f : aH} {t : Nat} {a : Nat} {v : gV} (h : gnP f a v) (hv : gOk v) : mT E mX1_clear 0 0 [.ref a] f t (fun o f' t' => o = .inl none ∧ t' = t ∧ f' = gnS f a ((0, v.1.2), gLe v, gSt v, gSz v, gWi v, gTp v, 0, 0)) := by
  refine mT_of (n := 0) (lo := [some (.ref a)]) (by decide) (by exact Nat.le_of_ble_eq_true rfl) rfl rfl ?_
  obtain ⟨h0, h1, h2, h3, h4, h5, h6, h7, h8⟩ := id h
  obtain ⟨⟨k0, k1, k2⟩, k3, k4, k5⟩ := id hv
  refine v_aload_n dX1_clear_0 rfl (by rfl) ?_
  refine v_getf hE dX1_clear_1 fX1_14 (by repeat (first | assumption | exact va_up_self _ _ _ | refine (va_up_ne _ _ (by omega)).trans ?_)) (by rfl) ?_
  refine w_callV hE dX1_clear_4 kX1_36 (by repeat (first | assumption | exact va_up_self _ _ _ | refine (va_up_ne _ _ (by omega)).trans ?_)) (by rfl) (by rfl) (sX5_clear hE (gn_nm h) hv.1) rfl (by decide) (by decide) (by exact Nat.le_of_ble_eq_true rfl) (by omega) (by omega) (fun v9 g9 u9 h9 => ?_) (fun _ _ _ h => by cases h.1)
  obtain ⟨hv, rfl, rfl⟩ := h9
  cases hv
  refine v_hp (gn_set h) ?_
  obtain ⟨e0, e1, e2, e3, e4, e5, e6, e7, e8⟩ := gnP_S f a ((0, v.1.2), v.2)
  have qc : gCt ((0, v.1.2), v.2) = gCt v := rfl
  have qt : gTo ((0, v.1.2), v.2) = gTo v := rfl
  refine v_aload_n dX1_clear_7 rfl (by rfl) ?_
  refine v_iconst (v := nI 0) dX1_clear_8 (by decide) ?_
  refine v_putf hE dX1_clear_9 fX1_39 (by repeat (first | assumption | exact va_up_self _ _ _ | refine (va_up_ne _ _ (by omega)).trans ?_)) (by exact Nat.le_of_ble_eq_true rfl) (by rfl) (by rfl) (by rfl) ?_
  refine v_aload_n dX1_clear_12 rfl (by rfl) ?_
  refine v_iconst (v := nI 0) dX1_clear_13 (by decide) ?_
  refine v_putf hE dX1_clear_14 fX1_43 (by repeat (first | assumption | exact va_up_self _ _ _ | refine (va_up_ne _ _ (by omega)).trans ?_)) (by exact Nat.le_of_ble_eq_true rfl) (by rfl) (by rfl) (by rfl) ?_
  refine v_ret dX1_clear_17 rfl ?_
  exact ⟨rfl, rfl, gnS_ext (by repeat (first | assumption | exact va_up_self _ _ _ | refine (va_up_ne _ _ (by omega)).trans ?_)) (by repeat (first | assumption | exact va_up_self _ _ _ | refine (va_up_ne _ _ (by omega)).trans ?_)) (by repeat (first | assumption | exact va_up_self _ _ _ | refine (va_up_ne _ _ (by omega)).trans ?_)) (by repeat (first | assumption | exact va_up_self _ _ _ | refine (va_up_ne _ _ (by omega)).trans ?_)) (by repeat (first | assumption | exact va_up_self _ _ _ | refine (va_up_ne _ _ (by omega)).trans ?_)) (by repeat (first | assumption | exact va_up_self _ _ _ | refine (va_up_ne _ _ (by omega)).trans ?_)) (by repeat (first | assumption | exact va_up_self _ _ _ | refine (va_up_ne _ _ (by omega)).trans ?_)) (by repeat (first | assumption | exact va_up_self _ _ _ | refine (va_up_ne _ _ (by omega)).trans ?_)) (by repeat (first | assumption | exact va_up_self _ _ _ | refine (va_up_ne _ _ (by omega)).trans ?_)) (fun b hb => by simp only [va_up]; (repeat rw [if_neg (by omega)]); exact gnS_ne hb)⟩

set_option maxRecDepth 100000 in
set_option maxHeartbeats 4000000 in
/-- Genome: one more -/
theorem sX1_open {E : eN} (hE : eOk E) {f : aH} {t : Nat} {a : Nat} {v : gV} (h : gnP f a v) (hv : gOk v) : mT E mX1_open 0 0 [.ref a] f t (fun o f' t' => o = .inl none ∧ t' = t ∧ f' = gnS f a (gnOpen v)) := by
  refine mT_of (n := 0) (lo := [some (.ref a)]) (by decide) (by exact Nat.le_of_ble_eq_true rfl) rfl rfl ?_
  obtain ⟨h0, h1, h2, h3, h4, h5, h6, h7, h8⟩ := id h
  obtain ⟨⟨k0, k1, k2⟩, k3, k4, k5⟩ := id hv
  refine v_aload_n dX1_open_0 rfl (by rfl) ?_
  refine v_getf hE dX1_open_1 fX1_39 (by repeat (first | assumption | exact va_up_self _ _ _ | refine (va_up_ne _ _ (by omega)).trans ?_)) (by rfl) ?_
  refine v_bipush (v := nI 8) dX1_open_4 (by decide) ?_
  refine v_icmp_geN (tgt := 69) dX1_open_6 (by decide) (by omega) (by omega) (fun c6 => ?_) (fun c6 => ?_)
  · refine v_ret dX1_open_69 rfl ?_
    refine ⟨rfl, rfl, ?_⟩
    unfold gnOpen
    first | (rw [if_neg (by omega)]; exact (gnS_id h).symm) | (rw [if_pos (by omega)]; exact gnS_ext (by repeat (first | assumption | exact va_up_self _ _ _ | refine (va_up_ne _ _ (by omega)).trans ?_)) (by repeat (first | assumption | exact va_up_self _ _ _ | refine (va_up_ne _ _ (by omega)).trans ?_)) (by repeat (first | assumption | exact va_up_self _ _ _ | refine (va_up_ne _ _ (by omega)).trans ?_)) (by repeat (first | assumption | exact va_up_self _ _ _ | refine (va_up_ne _ _ (by omega)).trans ?_)) (by repeat (first | assumption | exact va_up_self _ _ _ | refine (va_up_ne _ _ (by omega)).trans ?_)) (by repeat (first | assumption | exact va_up_self _ _ _ | refine (va_up_ne _ _ (by omega)).trans ?_)) (by repeat (first | assumption | exact va_up_self _ _ _ | refine (va_up_ne _ _ (by omega)).trans ?_)) (by repeat (first | assumption | exact va_up_self _ _ _ | refine (va_up_ne _ _ (by omega)).trans ?_)) (by repeat (first | assumption | exact va_up_self _ _ _ | refine (va_up_ne _ _ (by omega)).trans ?_)) (fun b hb => by simp only [va_up]; (repeat rw [if_neg (by omega)]); exact gnS_ne hb))
  · refine v_aload_n dX1_open_9 rfl (by rfl) ?_
    refine v_getf hE dX1_open_10 fX1_14 (by repeat (first | assumption | exact va_up_self _ _ _ | refine (va_up_ne _ _ (by omega)).trans ?_)) (by rfl) ?_
    refine w_callV hE dX1_open_13 kX1_46 (by repeat (first | assumption | exact va_up_self _ _ _ | refine (va_up_ne _ _ (by omega)).trans ?_)) (by rfl) (by rfl) (sX5_open hE (gn_nm h) hv.1) rfl (by decide) (by decide) (by exact Nat.le_of_ble_eq_true rfl) (by omega) (by omega) (fun v9 g9 u9 h9 => ?_) (fun _ _ _ h => by cases h.1)
    obtain ⟨hv, rfl, rfl⟩ := h9
    cases hv
    refine v_hp (gn_set h) ?_
    obtain ⟨e0, e1, e2, e3, e4, e5, e6, e7, e8⟩ := gnP_S f a (nmNew 8 v.1, v.2)
    have qc : gCt (nmNew 8 v.1, v.2) = gCt v := rfl
    have qt : gTo (nmNew 8 v.1, v.2) = gTo v := rfl
    refine v_aload_n dX1_open_16 rfl (by rfl) ?_
    refine v_getf hE dX1_open_17 fX1_24 (by repeat (first | assumption | exact va_up_self _ _ _ | refine (va_up_ne _ _ (by omega)).trans ?_)) (by rfl) ?_
    refine v_aload_n dX1_open_20 rfl (by rfl) ?_
    refine v_getf hE dX1_open_21 fX1_39 (by repeat (first | assumption | exact va_up_self _ _ _ | refine (va_up_ne _ _ (by omega)).trans ?_)) (by rfl) ?_
    refine v_aload_n dX1_open_24 rfl (by rfl) ?_
    refine v_getf hE dX1_open_25 fX1_43 (by repeat (first | assumption | exact va_up_self _ _ _ | refine (va_up_ne _ _ (by omega)).trans ?_)) (by rfl) ?_
    refine v_iast hE dX1_open_28 (by repeat (first | assumption | exact va_up_self _ _ _ | refine (va_up_ne _ _ (by omega)).trans ?_)) (by omega) (by omega) ?_
    rw [upd_nI]
    refine v_aload_n dX1_open_29 rfl (by rfl) ?_
    refine v_getf hE dX1_open_30 fX1_27 (by repeat (first | assumption | exact va_up_self _ _ _ | refine (va_up_ne _ _ (by omega)).trans ?_)) (by rfl) ?_
    refine v_aload_n dX1_open_33 rfl (by rfl) ?_
    refine v_getf hE dX1_open_34 fX1_39 (by repeat (first | assumption | exact va_up_self _ _ _ | refine (va_up_ne _ _ (by omega)).trans ?_)) (by rfl) ?_
    refine v_iconst (v := nI 0) dX1_open_37 (by decide) ?_
    refine v_iast hE dX1_open_38 (by repeat (first | assumption | exact va_up_self _ _ _ | refine (va_up_ne _ _ (by omega)).trans ?_)) (by omega) (by omega) ?_
    rw [upd_nI]
    refine v_aload_n dX1_open_39 rfl (by rfl) ?_
    refine v_getf hE dX1_open_40 fX1_30 (by repeat (first | assumption | exact va_up_self _ _ _ | refine (va_up_ne _ _ (by omega)).trans ?_)) (by rfl) ?_
    refine v_aload_n dX1_open_43 rfl (by rfl) ?_
    refine v_getf hE dX1_open_44 fX1_39 (by repeat (first | assumption | exact va_up_self _ _ _ | refine (va_up_ne _ _ (by omega)).trans ?_)) (by rfl) ?_
    refine v_iconst (v := nI 0) dX1_open_47 (by decide) ?_
    refine v_iast hE dX1_open_48 (by repeat (first | assumption | exact va_up_self _ _ _ | refine (va_up_ne _ _ (by omega)).trans ?_)) (by omega) (by omega) ?_
    rw [upd_nI]
    refine v_aload_n dX1_open_49 rfl (by rfl) ?_
    refine v_getf hE dX1_open_50 fX1_33 (by repeat (first | assumption | exact va_up_self _ _ _ | refine (va_up_ne _ _ (by omega)).trans ?_)) (by rfl) ?_
    refine v_aload_n dX1_open_53 rfl (by rfl) ?_
    refine v_getf hE dX1_open_54 fX1_39 (by repeat (first | assumption | exact va_up_self _ _ _ | refine (va_up_ne _ _ (by omega)).trans ?_)) (by rfl) ?_
    refine v_iconst (v := (-1)) dX1_open_57 (by decide) ?_
    refine v_iast hE dX1_open_58 (by repeat (first | assumption | exact va_up_self _ _ _ | refine (va_up_ne _ _ (by omega)).trans ?_)) (by omega) (by omega) ?_
    refine v_aload_n dX1_open_59 rfl (by rfl) ?_
    refine v_dup dX1_open_60 rfl ?_
    refine v_getf hE dX1_open_61 fX1_39 (by repeat (first | assumption | exact va_up_self _ _ _ | refine (va_up_ne _ _ (by omega)).trans ?_)) (by rfl) ?_
    refine v_iconst (v := nI 1) dX1_open_64 (by decide) ?_
    refine v_iaddN dX1_open_65 ?_
    refine v_putf hE dX1_open_66 fX1_39 (by repeat (first | assumption | exact va_up_self _ _ _ | refine (va_up_ne _ _ (by omega)).trans ?_)) (by exact Nat.le_of_ble_eq_true rfl) (by rfl) (by rfl) (by rfl) ?_
    refine v_ret dX1_open_69 rfl ?_
    refine ⟨rfl, rfl, ?_⟩
    unfold gnOpen
    first | (rw [if_neg (by omega)]; exact (gnS_id h).symm) | (rw [if_pos (by omega)]; exact gnS_ext (by repeat (first | assumption | exact va_up_self _ _ _ | refine (va_up_ne _ _ (by omega)).trans ?_)) (by repeat (first | assumption | exact va_up_self _ _ _ | refine (va_up_ne _ _ (by omega)).trans ?_)) (by repeat (first | assumption | exact va_up_self _ _ _ | refine (va_up_ne _ _ (by omega)).trans ?_)) (by repeat (first | assumption | exact va_up_self _ _ _ | refine (va_up_ne _ _ (by omega)).trans ?_)) (by repeat (first | assumption | exact va_up_self _ _ _ | refine (va_up_ne _ _ (by omega)).trans ?_)) (by repeat (first | assumption | exact va_up_self _ _ _ | refine (va_up_ne _ _ (by omega)).trans ?_)) (by repeat (first | assumption | exact va_up_self _ _ _ | refine (va_up_ne _ _ (by omega)).trans ?_)) (by repeat (first | assumption | exact va_up_self _ _ _ | refine (va_up_ne _ _ (by omega)).trans ?_)) (by repeat (first | assumption | exact va_up_self _ _ _ | refine (va_up_ne _ _ (by omega)).trans ?_)) (fun b hb => by simp only [va_up]; (repeat rw [if_neg (by omega)]); exact gnS_ne hb))

set_option maxRecDepth 100000 in
set_option maxHeartbeats 4000000 in
/-- Genome.addLetter(x, y) -/
theorem sX1_addLetter {E : eN} (hE : eOk E) {f : aH} {t : Nat} {a : Nat} {v : gV} {x y : Int32} (h : gnP f a v) (hv : gOk v) (hc : 0 < gCt v) : mT E mX1_addLetter 0 0 [.ref a, .int x, .int y] f t (fun o f' t' => o = .inl none ∧ t' = t ∧ f' = gnS f a (gnAdd v x y)) := by
  refine mT_of (n := 1) (lo := [some (.ref a), some (.int x), some (.int y), none]) (by decide) (by exact Nat.le_of_ble_eq_true rfl) rfl rfl ?_
  obtain ⟨h0, h1, h2, h3, h4, h5, h6, h7, h8⟩ := id h
  obtain ⟨⟨k0, k1, k2⟩, k3, k4, k5⟩ := id hv
  have k6 := k5 (gCt v - 1) (by omega)
  refine v_aload_n dX1_addLetter_0 rfl (by rfl) ?_
  refine v_getf hE dX1_addLetter_1 fX1_39 (by repeat (first | assumption | exact va_up_self _ _ _ | refine (va_up_ne _ _ (by omega)).trans ?_)) (by rfl) ?_
  refine v_iconst (v := nI 1) dX1_addLetter_4 (by decide) ?_
  refine v_isubN dX1_addLetter_5 (by omega) ?_
  refine v_istore_n dX1_addLetter_6 rfl (by decide) ?_
  refine v_iload_n dX1_addLetter_7 rfl (by rfl) ?_
  refine v_if_lt (tgt := 67) dX1_addLetter_8 (by decide) (fun c8 => ?_) (fun c8 => ?_)
  · exact absurd c8 (nI_pos (by omega))
  · refine v_aload_n dX1_addLetter_11 rfl (by rfl) ?_
    refine v_getf hE dX1_addLetter_12 fX1_43 (by repeat (first | assumption | exact va_up_self _ _ _ | refine (va_up_ne _ _ (by omega)).trans ?_)) (by rfl) ?_
    refine v_sipush (v := nI 3000) dX1_addLetter_15 (by decide) ?_
    refine v_icmp_geN (tgt := 67) dX1_addLetter_18 (by decide) (by omega) (by omega) (fun c18 => ?_) (fun c18 => ?_)
    · first | rw [upd_nI] | skip
      refine v_ret dX1_addLetter_67 rfl ?_
      refine ⟨rfl, rfl, ?_⟩
      unfold gnAdd
      first | (rw [if_neg (by omega)]; exact (gnS_id h).symm) | (rw [if_pos (by omega), if_neg (by omega)]; exact gnS_ext (by repeat (first | assumption | exact va_up_self _ _ _ | refine (va_up_ne _ _ (by omega)).trans ?_)) (by repeat (first | assumption | exact va_up_self _ _ _ | refine (va_up_ne _ _ (by omega)).trans ?_)) (by repeat (first | assumption | exact va_up_self _ _ _ | refine (va_up_ne _ _ (by omega)).trans ?_)) (by repeat (first | assumption | exact va_up_self _ _ _ | refine (va_up_ne _ _ (by omega)).trans ?_)) (by repeat (first | assumption | exact va_up_self _ _ _ | refine (va_up_ne _ _ (by omega)).trans ?_)) (by repeat (first | assumption | exact va_up_self _ _ _ | refine (va_up_ne _ _ (by omega)).trans ?_)) (by repeat (first | assumption | exact va_up_self _ _ _ | refine (va_up_ne _ _ (by omega)).trans ?_)) (by repeat (first | assumption | exact va_up_self _ _ _ | refine (va_up_ne _ _ (by omega)).trans ?_)) (by repeat (first | assumption | exact va_up_self _ _ _ | refine (va_up_ne _ _ (by omega)).trans ?_)) (fun b hb => by simp only [va_up]; (repeat rw [if_neg (by omega)]))) | (rw [if_pos (by omega), if_pos (by omega)]; exact gnS_ext (by repeat (first | assumption | exact va_up_self _ _ _ | refine (va_up_ne _ _ (by omega)).trans ?_)) (by repeat (first | assumption | exact va_up_self _ _ _ | refine (va_up_ne _ _ (by omega)).trans ?_)) (by repeat (first | assumption | exact va_up_self _ _ _ | refine (va_up_ne _ _ (by omega)).trans ?_)) (by repeat (first | assumption | exact va_up_self _ _ _ | refine (va_up_ne _ _ (by omega)).trans ?_)) (by repeat (first | assumption | exact va_up_self _ _ _ | refine (va_up_ne _ _ (by omega)).trans ?_)) (by repeat (first | assumption | exact va_up_self _ _ _ | refine (va_up_ne _ _ (by omega)).trans ?_)) (by repeat (first | assumption | exact va_up_self _ _ _ | refine (va_up_ne _ _ (by omega)).trans ?_)) (by repeat (first | assumption | exact va_up_self _ _ _ | refine (va_up_ne _ _ (by omega)).trans ?_)) (by repeat (first | assumption | exact va_up_self _ _ _ | refine (va_up_ne _ _ (by omega)).trans ?_)) (fun b hb => by simp only [va_up]; (repeat rw [if_neg (by omega)])))
    · refine v_aload_n dX1_addLetter_21 rfl (by rfl) ?_
      refine v_getf hE dX1_addLetter_22 fX1_27 (by repeat (first | assumption | exact va_up_self _ _ _ | refine (va_up_ne _ _ (by omega)).trans ?_)) (by rfl) ?_
      refine v_iload_n dX1_addLetter_25 rfl (by rfl) ?_
      refine v_iald hE dX1_addLetter_26 (by repeat (first | assumption | exact va_up_self _ _ _ | refine (va_up_ne _ _ (by omega)).trans ?_)) (by omega) (by omega) ?_
      refine v_if_neN (tgt := 37) dX1_addLetter_27 (by decide) (by omega) (fun c27 => ?_) (fun c27 => ?_)
      · refine v_aload_n dX1_addLetter_37 rfl (by rfl) ?_
        refine v_getf hE dX1_addLetter_38 fX1_20 (by repeat (first | assumption | exact va_up_self _ _ _ | refine (va_up_ne _ _ (by omega)).trans ?_)) (by rfl) ?_
        refine v_aload_n dX1_addLetter_41 rfl (by rfl) ?_
        refine v_getf hE dX1_addLetter_42 fX1_43 (by repeat (first | assumption | exact va_up_self _ _ _ | refine (va_up_ne _ _ (by omega)).trans ?_)) (by rfl) ?_
        refine v_iload_n dX1_addLetter_45 rfl (by rfl) ?_
        refine v_iast hE dX1_addLetter_46 (by repeat (first | assumption | exact va_up_self _ _ _ | refine (va_up_ne _ _ (by omega)).trans ?_)) (by omega) (by omega) ?_
        refine v_aload_n dX1_addLetter_47 rfl (by rfl) ?_
        refine v_dup dX1_addLetter_48 rfl ?_
        refine v_getf hE dX1_addLetter_49 fX1_43 (by repeat (first | assumption | exact va_up_self _ _ _ | refine (va_up_ne _ _ (by omega)).trans ?_)) (by rfl) ?_
        refine v_iconst (v := nI 1) dX1_addLetter_52 (by decide) ?_
        refine v_iaddN dX1_addLetter_53 ?_
        refine v_putf hE dX1_addLetter_54 fX1_43 (by repeat (first | assumption | exact va_up_self _ _ _ | refine (va_up_ne _ _ (by omega)).trans ?_)) (by exact Nat.le_of_ble_eq_true rfl) (by rfl) (by rfl) (by rfl) ?_
        refine v_aload_n dX1_addLetter_57 rfl (by rfl) ?_
        refine v_getf hE dX1_addLetter_58 fX1_27 (by repeat (first | assumption | exact va_up_self _ _ _ | refine (va_up_ne _ _ (by omega)).trans ?_)) (by rfl) ?_
        refine v_iload_n dX1_addLetter_61 rfl (by rfl) ?_
        refine v_dup2 dX1_addLetter_62 rfl rfl ?_
        refine v_iald hE dX1_addLetter_63 (by repeat (first | assumption | exact va_up_self _ _ _ | refine (va_up_ne _ _ (by omega)).trans ?_)) (by omega) (by omega) ?_
        refine v_iconst (v := nI 1) dX1_addLetter_64 (by decide) ?_
        refine v_iaddN dX1_addLetter_65 ?_
        refine v_iast hE dX1_addLetter_66 (by repeat (first | assumption | exact va_up_self _ _ _ | refine (va_up_ne _ _ (by omega)).trans ?_)) (by omega) (by omega) ?_
        first | rw [upd_nI] | skip
        refine v_ret dX1_addLetter_67 rfl ?_
        refine ⟨rfl, rfl, ?_⟩
        unfold gnAdd
        first | (rw [if_neg (by omega)]; exact (gnS_id h).symm) | (rw [if_pos (by omega), if_neg (by omega)]; exact gnS_ext (by repeat (first | assumption | exact va_up_self _ _ _ | refine (va_up_ne _ _ (by omega)).trans ?_)) (by repeat (first | assumption | exact va_up_self _ _ _ | refine (va_up_ne _ _ (by omega)).trans ?_)) (by repeat (first | assumption | exact va_up_self _ _ _ | refine (va_up_ne _ _ (by omega)).trans ?_)) (by repeat (first | assumption | exact va_up_self _ _ _ | refine (va_up_ne _ _ (by omega)).trans ?_)) (by repeat (first | assumption | exact va_up_self _ _ _ | refine (va_up_ne _ _ (by omega)).trans ?_)) (by repeat (first | assumption | exact va_up_self _ _ _ | refine (va_up_ne _ _ (by omega)).trans ?_)) (by repeat (first | assumption | exact va_up_self _ _ _ | refine (va_up_ne _ _ (by omega)).trans ?_)) (by repeat (first | assumption | exact va_up_self _ _ _ | refine (va_up_ne _ _ (by omega)).trans ?_)) (by repeat (first | assumption | exact va_up_self _ _ _ | refine (va_up_ne _ _ (by omega)).trans ?_)) (fun b hb => by simp only [va_up]; (repeat rw [if_neg (by omega)]))) | (rw [if_pos (by omega), if_pos (by omega)]; exact gnS_ext (by repeat (first | assumption | exact va_up_self _ _ _ | refine (va_up_ne _ _ (by omega)).trans ?_)) (by repeat (first | assumption | exact va_up_self _ _ _ | refine (va_up_ne _ _ (by omega)).trans ?_)) (by repeat (first | assumption | exact va_up_self _ _ _ | refine (va_up_ne _ _ (by omega)).trans ?_)) (by repeat (first | assumption | exact va_up_self _ _ _ | refine (va_up_ne _ _ (by omega)).trans ?_)) (by repeat (first | assumption | exact va_up_self _ _ _ | refine (va_up_ne _ _ (by omega)).trans ?_)) (by repeat (first | assumption | exact va_up_self _ _ _ | refine (va_up_ne _ _ (by omega)).trans ?_)) (by repeat (first | assumption | exact va_up_self _ _ _ | refine (va_up_ne _ _ (by omega)).trans ?_)) (by repeat (first | assumption | exact va_up_self _ _ _ | refine (va_up_ne _ _ (by omega)).trans ?_)) (by repeat (first | assumption | exact va_up_self _ _ _ | refine (va_up_ne _ _ (by omega)).trans ?_)) (fun b hb => by simp only [va_up]; (repeat rw [if_neg (by omega)])))
      · refine v_aload_n dX1_addLetter_30 rfl (by rfl) ?_
        refine v_getf hE dX1_addLetter_31 fX1_33 (by repeat (first | assumption | exact va_up_self _ _ _ | refine (va_up_ne _ _ (by omega)).trans ?_)) (by rfl) ?_
        refine v_iload_n dX1_addLetter_34 rfl (by rfl) ?_
        refine v_iload_n dX1_addLetter_35 rfl (by rfl) ?_
        refine v_iast hE dX1_addLetter_36 (by repeat (first | assumption | exact va_up_self _ _ _ | refine (va_up_ne _ _ (by omega)).trans ?_)) (by omega) (by omega) ?_
        refine v_aload_n dX1_addLetter_37 rfl (by rfl) ?_
        refine v_getf hE dX1_addLetter_38 fX1_20 (by repeat (first | assumption | exact va_up_self _ _ _ | refine (va_up_ne _ _ (by omega)).trans ?_)) (by rfl) ?_
        refine v_aload_n dX1_addLetter_41 rfl (by rfl) ?_
        refine v_getf hE dX1_addLetter_42 fX1_43 (by repeat (first | assumption | exact va_up_self _ _ _ | refine (va_up_ne _ _ (by omega)).trans ?_)) (by rfl) ?_
        refine v_iload_n dX1_addLetter_45 rfl (by rfl) ?_
        refine v_iast hE dX1_addLetter_46 (by repeat (first | assumption | exact va_up_self _ _ _ | refine (va_up_ne _ _ (by omega)).trans ?_)) (by omega) (by omega) ?_
        refine v_aload_n dX1_addLetter_47 rfl (by rfl) ?_
        refine v_dup dX1_addLetter_48 rfl ?_
        refine v_getf hE dX1_addLetter_49 fX1_43 (by repeat (first | assumption | exact va_up_self _ _ _ | refine (va_up_ne _ _ (by omega)).trans ?_)) (by rfl) ?_
        refine v_iconst (v := nI 1) dX1_addLetter_52 (by decide) ?_
        refine v_iaddN dX1_addLetter_53 ?_
        refine v_putf hE dX1_addLetter_54 fX1_43 (by repeat (first | assumption | exact va_up_self _ _ _ | refine (va_up_ne _ _ (by omega)).trans ?_)) (by exact Nat.le_of_ble_eq_true rfl) (by rfl) (by rfl) (by rfl) ?_
        refine v_aload_n dX1_addLetter_57 rfl (by rfl) ?_
        refine v_getf hE dX1_addLetter_58 fX1_27 (by repeat (first | assumption | exact va_up_self _ _ _ | refine (va_up_ne _ _ (by omega)).trans ?_)) (by rfl) ?_
        refine v_iload_n dX1_addLetter_61 rfl (by rfl) ?_
        refine v_dup2 dX1_addLetter_62 rfl rfl ?_
        refine v_iald hE dX1_addLetter_63 (by repeat (first | assumption | exact va_up_self _ _ _ | refine (va_up_ne _ _ (by omega)).trans ?_)) (by omega) (by omega) ?_
        refine v_iconst (v := nI 1) dX1_addLetter_64 (by decide) ?_
        refine v_iaddN dX1_addLetter_65 ?_
        refine v_iast hE dX1_addLetter_66 (by repeat (first | assumption | exact va_up_self _ _ _ | refine (va_up_ne _ _ (by omega)).trans ?_)) (by omega) (by omega) ?_
        first | rw [upd_nI] | skip
        refine v_ret dX1_addLetter_67 rfl ?_
        refine ⟨rfl, rfl, ?_⟩
        unfold gnAdd
        first | (rw [if_neg (by omega)]; exact (gnS_id h).symm) | (rw [if_pos (by omega), if_neg (by omega)]; exact gnS_ext (by repeat (first | assumption | exact va_up_self _ _ _ | refine (va_up_ne _ _ (by omega)).trans ?_)) (by repeat (first | assumption | exact va_up_self _ _ _ | refine (va_up_ne _ _ (by omega)).trans ?_)) (by repeat (first | assumption | exact va_up_self _ _ _ | refine (va_up_ne _ _ (by omega)).trans ?_)) (by repeat (first | assumption | exact va_up_self _ _ _ | refine (va_up_ne _ _ (by omega)).trans ?_)) (by repeat (first | assumption | exact va_up_self _ _ _ | refine (va_up_ne _ _ (by omega)).trans ?_)) (by repeat (first | assumption | exact va_up_self _ _ _ | refine (va_up_ne _ _ (by omega)).trans ?_)) (by repeat (first | assumption | exact va_up_self _ _ _ | refine (va_up_ne _ _ (by omega)).trans ?_)) (by repeat (first | assumption | exact va_up_self _ _ _ | refine (va_up_ne _ _ (by omega)).trans ?_)) (by repeat (first | assumption | exact va_up_self _ _ _ | refine (va_up_ne _ _ (by omega)).trans ?_)) (fun b hb => by simp only [va_up]; (repeat rw [if_neg (by omega)]))) | (rw [if_pos (by omega), if_pos (by omega)]; exact gnS_ext (by repeat (first | assumption | exact va_up_self _ _ _ | refine (va_up_ne _ _ (by omega)).trans ?_)) (by repeat (first | assumption | exact va_up_self _ _ _ | refine (va_up_ne _ _ (by omega)).trans ?_)) (by repeat (first | assumption | exact va_up_self _ _ _ | refine (va_up_ne _ _ (by omega)).trans ?_)) (by repeat (first | assumption | exact va_up_self _ _ _ | refine (va_up_ne _ _ (by omega)).trans ?_)) (by repeat (first | assumption | exact va_up_self _ _ _ | refine (va_up_ne _ _ (by omega)).trans ?_)) (by repeat (first | assumption | exact va_up_self _ _ _ | refine (va_up_ne _ _ (by omega)).trans ?_)) (by repeat (first | assumption | exact va_up_self _ _ _ | refine (va_up_ne _ _ (by omega)).trans ?_)) (by repeat (first | assumption | exact va_up_self _ _ _ | refine (va_up_ne _ _ (by omega)).trans ?_)) (by repeat (first | assumption | exact va_up_self _ _ _ | refine (va_up_ne _ _ (by omega)).trans ?_)) (fun b hb => by simp only [va_up]; (repeat rw [if_neg (by omega)])))

set_option maxRecDepth 100000 in
set_option maxHeartbeats 4000000 in
/-- Genome.setWidth(w) -/
theorem sX1_setWidth {E : eN} (hE : eOk E) {f : aH} {t : Nat} {a w : Nat} {v : gV} (h : gnP f a v) (hv : gOk v) (hc : 0 < gCt v) : mT E mX1_setWidth 0 0 [.ref a, .int (nI w)] f t (fun o f' t' => o = .inl none ∧ t' = t ∧ f' = gnS f a (gnWidth v w)) := by
  refine mT_of (n := 0) (lo := [some (.ref a), some (.int (nI w))]) (by decide) (by exact Nat.le_of_ble_eq_true rfl) rfl rfl ?_
  obtain ⟨h0, h1, h2, h3, h4, h5, h6, h7, h8⟩ := id h
  obtain ⟨⟨k0, k1, k2⟩, k3, k4, k5⟩ := id hv
  refine v_aload_n dX1_setWidth_0 rfl (by rfl) ?_
  refine v_getf hE dX1_setWidth_1 fX1_39 (by repeat (first | assumption | exact va_up_self _ _ _ | refine (va_up_ne _ _ (by omega)).trans ?_)) (by rfl) ?_
  refine v_if_leN (tgt := 19) dX1_setWidth_4 (by decide) (by omega) (fun c4 => ?_) (fun c4 => ?_)
  · exact absurd c4 (by omega)
  · refine v_aload_n dX1_setWidth_7 rfl (by rfl) ?_
    refine v_getf hE dX1_setWidth_8 fX1_30 (by repeat (first | assumption | exact va_up_self _ _ _ | refine (va_up_ne _ _ (by omega)).trans ?_)) (by rfl) ?_
    refine v_aload_n dX1_setWidth_11 rfl (by rfl) ?_
    refine v_getf hE dX1_setWidth_12 fX1_39 (by repeat (first | assumption | exact va_up_self _ _ _ | refine (va_up_ne _ _ (by omega)).trans ?_)) (by rfl) ?_
    refine v_iconst (v := nI 1) dX1_setWidth_15 (by decide) ?_
    refine v_isubN dX1_setWidth_16 (by omega) ?_
    refine v_iload_n dX1_setWidth_17 rfl (by rfl) ?_
    refine v_iast hE dX1_setWidth_18 (by repeat (first | assumption | exact va_up_self _ _ _ | refine (va_up_ne _ _ (by omega)).trans ?_)) (by omega) (by omega) ?_
    rw [upd_nI]
    refine v_ret dX1_setWidth_19 rfl ?_
    exact ⟨rfl, rfl, gnS_ext (by repeat (first | assumption | exact va_up_self _ _ _ | refine (va_up_ne _ _ (by omega)).trans ?_)) (by repeat (first | assumption | exact va_up_self _ _ _ | refine (va_up_ne _ _ (by omega)).trans ?_)) (by repeat (first | assumption | exact va_up_self _ _ _ | refine (va_up_ne _ _ (by omega)).trans ?_)) (by repeat (first | assumption | exact va_up_self _ _ _ | refine (va_up_ne _ _ (by omega)).trans ?_)) (by repeat (first | assumption | exact va_up_self _ _ _ | refine (va_up_ne _ _ (by omega)).trans ?_)) (by repeat (first | assumption | exact va_up_self _ _ _ | refine (va_up_ne _ _ (by omega)).trans ?_)) (by repeat (first | assumption | exact va_up_self _ _ _ | refine (va_up_ne _ _ (by omega)).trans ?_)) (by repeat (first | assumption | exact va_up_self _ _ _ | refine (va_up_ne _ _ (by omega)).trans ?_)) (by repeat (first | assumption | exact va_up_self _ _ _ | refine (va_up_ne _ _ (by omega)).trans ?_)) (fun b hb => by simp only [va_up]; (repeat rw [if_neg (by omega)]))⟩

set_option maxRecDepth 100000 in
set_option maxHeartbeats 4000000 in
/-- Genome.has(s) -/
theorem sX1_has {E : eN} (hE : eOk E) {f : aH} {t : Nat} {a s : Nat} {v : gV} (h : gnP f a v) (hv : gOk v) (hs : s < 2 ^ 30) : mT E mX1_has 0 0 [.ref a, .int (nI s)] f t (fun o f' t' => o = .inl (some (.int (bI (gnHas v s)))) ∧ t' = t ∧ f' = f) := by
  refine mT_of (n := 0) (lo := [some (.ref a), some (.int (nI s))]) (by decide) (by exact Nat.le_of_ble_eq_true rfl) rfl rfl ?_
  obtain ⟨h0, h1, h2, h3, h4, h5, h6, h7, h8⟩ := id h
  obtain ⟨⟨k0, k1, k2⟩, k3, k4, k5⟩ := id hv
  refine v_iload_n dX1_has_0 rfl (by rfl) ?_
  refine v_if_lt (tgt := 16) dX1_has_1 (by decide) (fun c1 => ?_) (fun c1 => ?_)
  · exact absurd c1 (nI_pos (by omega))
  · refine v_iload_n dX1_has_4 rfl (by rfl) ?_
    refine v_aload_n dX1_has_5 rfl (by rfl) ?_
    refine v_getf hE dX1_has_6 fX1_39 (by repeat (first | assumption | exact va_up_self _ _ _ | refine (va_up_ne _ _ (by omega)).trans ?_)) (by rfl) ?_
    refine v_icmp_geN (tgt := 16) dX1_has_9 (by decide) (by omega) (by omega) (fun c9 => ?_) (fun c9 => ?_)
    · refine v_iconst (v := nI 0) dX1_has_16 (by decide) ?_
      refine v_iret dX1_has_17 rfl (by rfl) ?_
      refine ⟨congrArg (fun x => (Sum.inl (some (Value.int x)) : aO)) ?_, rfl, rfl⟩
      first | exact bI_t (decide_eq_true (by assumption)) | exact bI_f (decide_eq_false (by omega))
    · refine v_iconst (v := nI 1) dX1_has_12 (by decide) ?_
      refine v_goto (tgt := 17) dX1_has_13 (by decide) ?_
      refine v_iret dX1_has_17 rfl (by rfl) ?_
      refine ⟨congrArg (fun x => (Sum.inl (some (Value.int x)) : aO)) ?_, rfl, rfl⟩
      first | exact bI_t (decide_eq_true (by assumption)) | exact bI_f (decide_eq_false (by omega))

set_option maxRecDepth 100000 in
set_option maxHeartbeats 4000000 in
/-- Genome.sizeOf(s) -/
theorem sX1_sizeOf {E : eN} (hE : eOk E) {f : aH} {t : Nat} {a s : Nat} {v : gV} (h : gnP f a v) (hv : gOk v) (hs : s < 2 ^ 30) : mT E mX1_sizeOf 0 0 [.ref a, .int (nI s)] f t (fun o f' t' => o = .inl (some (.int (nI (gnSz v s)))) ∧ t' = t ∧ f' = f) := by
  refine mT_of (n := 0) (lo := [some (.ref a), some (.int (nI s))]) (by decide) (by exact Nat.le_of_ble_eq_true rfl) rfl rfl ?_
  obtain ⟨h0, h1, h2, h3, h4, h5, h6, h7, h8⟩ := id h
  obtain ⟨⟨k0, k1, k2⟩, k3, k4, k5⟩ := id hv
  refine v_aload_n dX1_sizeOf_0 rfl (by rfl) ?_
  refine v_iload_n dX1_sizeOf_1 rfl (by rfl) ?_
  refine w_callV hE dX1_sizeOf_2 kX1_49 (by repeat (first | assumption | exact va_up_self _ _ _ | refine (va_up_ne _ _ (by omega)).trans ?_)) (by rfl) (by rfl) (sX1_has hE h hv (by omega)) rfl (by decide) (by decide) (by exact Nat.le_of_ble_eq_true rfl) (by omega) (by omega) (fun v9 g9 u9 h9 => ?_) (fun _ _ _ h => by cases h.1)
  obtain ⟨hv, rfl, rfl⟩ := h9
  cases hv
  refine v_if_eqB (tgt := 17) dX1_sizeOf_5 (by decide) (fun c5 => ?_) (fun c5 => ?_)
  · refine v_iconst (v := nI 0) dX1_sizeOf_17 (by decide) ?_
    refine v_iret dX1_sizeOf_18 rfl (by rfl) ?_
    refine ⟨congrArg (fun x => (Sum.inl (some (Value.int x)) : aO)) ?_, rfl, rfl⟩
    unfold gnSz
    first | rw [if_pos (by assumption)] | rw [if_neg (of_decide_eq_false c5)]
  · have c6 : s < gCt v := of_decide_eq_true c5
    refine v_aload_n dX1_sizeOf_8 rfl (by rfl) ?_
    refine v_getf hE dX1_sizeOf_9 fX1_27 (by repeat (first | assumption | exact va_up_self _ _ _ | refine (va_up_ne _ _ (by omega)).trans ?_)) (by rfl) ?_
    refine v_iload_n dX1_sizeOf_12 rfl (by rfl) ?_
    refine v_iald hE dX1_sizeOf_13 (by repeat (first | assumption | exact va_up_self _ _ _ | refine (va_up_ne _ _ (by omega)).trans ?_)) (by omega) (by omega) ?_
    refine v_goto (tgt := 18) dX1_sizeOf_14 (by decide) ?_
    refine v_iret dX1_sizeOf_18 rfl (by rfl) ?_
    refine ⟨congrArg (fun x => (Sum.inl (some (Value.int x)) : aO)) ?_, rfl, rfl⟩
    unfold gnSz
    first | rw [if_pos (by assumption)] | rw [if_neg (of_decide_eq_false c5)]

set_option maxRecDepth 100000 in
set_option maxHeartbeats 4000000 in
/-- Genome.letterAt(s, p) -/
theorem sX1_letterAt {E : eN} (hE : eOk E) {f : aH} {t : Nat} {a s p : Nat} {v : gV} (h : gnP f a v) (hv : gOk v) (hs : s < 2 ^ 30) (hp : p < 2 ^ 31) : mT E mX1_letterAt 0 0 [.ref a, .int (nI s), .int (nI p)] f t (fun o f' t' => o = .inl (some (.int (gnLet v s p))) ∧ t' = t ∧ f' = f) := by
  refine mT_of (n := 0) (lo := [some (.ref a), some (.int (nI s)), some (.int (nI p))]) (by decide) (by exact Nat.le_of_ble_eq_true rfl) rfl rfl ?_
  obtain ⟨h0, h1, h2, h3, h4, h5, h6, h7, h8⟩ := id h
  obtain ⟨⟨k0, k1, k2⟩, k3, k4, k5⟩ := id hv
  refine v_aload_n dX1_letterAt_0 rfl (by rfl) ?_
  refine v_iload_n dX1_letterAt_1 rfl (by rfl) ?_
  refine w_callV hE dX1_letterAt_2 kX1_49 (by repeat (first | assumption | exact va_up_self _ _ _ | refine (va_up_ne _ _ (by omega)).trans ?_)) (by rfl) (by rfl) (sX1_has hE h hv (by omega)) rfl (by decide) (by decide) (by exact Nat.le_of_ble_eq_true rfl) (by omega) (by omega) (fun v9 g9 u9 h9 => ?_) (fun _ _ _ h => by cases h.1)
  obtain ⟨hv, rfl, rfl⟩ := h9
  cases hv
  refine v_if_eqB (tgt := 41) dX1_letterAt_5 (by decide) (fun c5 => ?_) (fun c5 => ?_)
  · refine v_iconst (v := (-1)) dX1_letterAt_41 (by decide) ?_
    refine v_iret dX1_letterAt_42 rfl (by rfl) ?_
    refine ⟨congrArg (fun x => (Sum.inl (some (Value.int x)) : aO)) ?_, rfl, rfl⟩
    first | exact (gnLet_in (by assumption) (by assumption) (by assumption)).symm | exact (gnLet_out (fun q => absurd q.1 (of_decide_eq_false c5))).symm | exact (gnLet_out (fun q => by omega)).symm
  · have c6 : s < gCt v := of_decide_eq_true c5
    have k6 := k5 s c6
    refine v_iload_n dX1_letterAt_8 rfl (by rfl) ?_
    refine v_iconst (v := nI 1) dX1_letterAt_9 (by decide) ?_
    refine v_icmp_ltN (tgt := 41) dX1_letterAt_10 (by decide) (by omega) (by omega) (fun c10 => ?_) (fun c10 => ?_)
    · refine v_iconst (v := (-1)) dX1_letterAt_41 (by decide) ?_
      refine v_iret dX1_letterAt_42 rfl (by rfl) ?_
      refine ⟨congrArg (fun x => (Sum.inl (some (Value.int x)) : aO)) ?_, rfl, rfl⟩
      first | exact (gnLet_in (by assumption) (by assumption) (by assumption)).symm | exact (gnLet_out (fun q => absurd q.1 (of_decide_eq_false c5))).symm | exact (gnLet_out (fun q => by omega)).symm
    · refine v_iload_n dX1_letterAt_13 rfl (by rfl) ?_
      refine v_aload_n dX1_letterAt_14 rfl (by rfl) ?_
      refine v_getf hE dX1_letterAt_15 fX1_27 (by repeat (first | assumption | exact va_up_self _ _ _ | refine (va_up_ne _ _ (by omega)).trans ?_)) (by rfl) ?_
      refine v_iload_n dX1_letterAt_18 rfl (by rfl) ?_
      refine v_iald hE dX1_letterAt_19 (by repeat (first | assumption | exact va_up_self _ _ _ | refine (va_up_ne _ _ (by omega)).trans ?_)) (by omega) (by omega) ?_
      refine v_icmp_gtN (tgt := 41) dX1_letterAt_20 (by decide) (by omega) (by omega) (fun c20 => ?_) (fun c20 => ?_)
      · refine v_iconst (v := (-1)) dX1_letterAt_41 (by decide) ?_
        refine v_iret dX1_letterAt_42 rfl (by rfl) ?_
        refine ⟨congrArg (fun x => (Sum.inl (some (Value.int x)) : aO)) ?_, rfl, rfl⟩
        first | exact (gnLet_in (by assumption) (by assumption) (by assumption)).symm | exact (gnLet_out (fun q => absurd q.1 (of_decide_eq_false c5))).symm | exact (gnLet_out (fun q => by omega)).symm
      · refine v_aload_n dX1_letterAt_23 rfl (by rfl) ?_
        refine v_getf hE dX1_letterAt_24 fX1_20 (by repeat (first | assumption | exact va_up_self _ _ _ | refine (va_up_ne _ _ (by omega)).trans ?_)) (by rfl) ?_
        refine v_aload_n dX1_letterAt_27 rfl (by rfl) ?_
        refine v_getf hE dX1_letterAt_28 fX1_24 (by repeat (first | assumption | exact va_up_self _ _ _ | refine (va_up_ne _ _ (by omega)).trans ?_)) (by rfl) ?_
        refine v_iload_n dX1_letterAt_31 rfl (by rfl) ?_
        refine v_iald hE dX1_letterAt_32 (by repeat (first | assumption | exact va_up_self _ _ _ | refine (va_up_ne _ _ (by omega)).trans ?_)) (by omega) (by omega) ?_
        refine v_iload_n dX1_letterAt_33 rfl (by rfl) ?_
        refine v_iaddN dX1_letterAt_34 ?_
        refine v_iconst (v := nI 1) dX1_letterAt_35 (by decide) ?_
        refine v_isubN dX1_letterAt_36 (by omega) ?_
        refine v_iald hE dX1_letterAt_37 (by repeat (first | assumption | exact va_up_self _ _ _ | refine (va_up_ne _ _ (by omega)).trans ?_)) (by omega) (by omega) ?_
        refine v_goto (tgt := 42) dX1_letterAt_38 (by decide) ?_
        refine v_iret dX1_letterAt_42 rfl (by rfl) ?_
        refine ⟨congrArg (fun x => (Sum.inl (some (Value.int x)) : aO)) ?_, rfl, rfl⟩
        first | exact (gnLet_in (by assumption) (by assumption) (by assumption)).symm | exact (gnLet_out (fun q => absurd q.1 (of_decide_eq_false c5))).symm | exact (gnLet_out (fun q => by omega)).symm

set_option maxRecDepth 100000 in
set_option maxHeartbeats 4000000 in
/-- Genome.writeLetters(s, p, q, words) -/
theorem sX1_writeLetters {E : eN} (hE : eOk E) {f : aH} {t : Nat} {a b s p q : Nat} {v : gV} {u : tS} (h : gnP f a v) (hv : gOk v) (hb : oP f b u) (hs : s < gCt v) (hd : b + 1 < a ∨ a + 8 < b) (hp : 1 ≤ p) (hpq : p ≤ q) (hq : q ≤ gSz v s + 1) : mT E mX1_writeLetters 0 0 [.ref a, .int (nI s), .int (nI p), .int (nI q), .ref b] f t (fun o f' t' => o = .inl none ∧ t' = t ∧ f' = oS f b (tAdds u (prt (gLe v) (q - p) (gSt v s + p - 1)))) := by
  refine mT_of (n := 0) (lo := [some (.ref a), some (.int (nI s)), some (.int (nI p)), some (.int (nI q)), some (.ref b)]) (by decide) (by exact Nat.le_of_ble_eq_true rfl) rfl rfl ?_
  obtain ⟨h0, h1, h2, h3, h4, h5, h6, h7, h8⟩ := id h
  obtain ⟨⟨k0, k1, k2⟩, k3, k4, k5⟩ := id hv
  obtain ⟨⟨g1, g2⟩, g3⟩ := id hb
  have k6 := k5 s hs
  refine v_aload_n dX1_writeLetters_0 rfl (by rfl) ?_
  refine v_iload_n dX1_writeLetters_1 rfl (by rfl) ?_
  refine w_callV hE dX1_writeLetters_2 kX1_49 (by repeat (first | assumption | exact va_up_self _ _ _ | refine (va_up_ne _ _ (by omega)).trans ?_)) (by rfl) (by rfl) (sX1_has hE h hv (by omega)) rfl (by decide) (by decide) (by exact Nat.le_of_ble_eq_true rfl) (by omega) (by omega) (fun v9 g9 u9 h9 => ?_) (fun _ _ _ h => by cases h.1)
  obtain ⟨hv, rfl, rfl⟩ := h9
  cases hv
  refine v_if_eqB (tgt := 30) dX1_writeLetters_5 (by decide) (fun c5 => ?_) (fun c5 => ?_)
  · exact absurd hs (of_decide_eq_false c5)
  · refine v_aload dX1_writeLetters_8 (by rfl) ?_
    refine v_aload_n dX1_writeLetters_10 rfl (by rfl) ?_
    refine v_getf hE dX1_writeLetters_11 fX1_20 (by repeat (first | assumption | exact va_up_self _ _ _ | refine (va_up_ne _ _ (by omega)).trans ?_)) (by rfl) ?_
    refine v_aload_n dX1_writeLetters_14 rfl (by rfl) ?_
    refine v_getf hE dX1_writeLetters_15 fX1_24 (by repeat (first | assumption | exact va_up_self _ _ _ | refine (va_up_ne _ _ (by omega)).trans ?_)) (by rfl) ?_
    refine v_iload_n dX1_writeLetters_18 rfl (by rfl) ?_
    refine v_iald hE dX1_writeLetters_19 (by repeat (first | assumption | exact va_up_self _ _ _ | refine (va_up_ne _ _ (by omega)).trans ?_)) (by omega) (by omega) ?_
    refine v_iload_n dX1_writeLetters_20 rfl (by rfl) ?_
    refine v_iaddN dX1_writeLetters_21 ?_
    refine v_iconst (v := nI 1) dX1_writeLetters_22 (by decide) ?_
    refine v_isubN dX1_writeLetters_23 (by omega) ?_
    refine v_iload_n dX1_writeLetters_24 rfl (by rfl) ?_
    refine v_iload_n dX1_writeLetters_25 rfl (by rfl) ?_
    refine v_isubN dX1_writeLetters_26 (by omega) ?_
    refine w_callV hE dX1_writeLetters_27 kX1_53 (by repeat (first | assumption | exact va_up_self _ _ _ | refine (va_up_ne _ _ (by omega)).trans ?_)) (by rfl) (by rfl) (sX6_addPart hE hb h4 (by omega) (by omega) (by omega) (by omega) (by omega)) rfl (by decide) (by decide) (by exact Nat.le_of_ble_eq_true rfl) (by omega) (by omega) (fun v9 g9 u9 h9 => ?_) (fun _ _ _ h => by cases h.1)
    obtain ⟨hv, rfl, rfl⟩ := h9
    cases hv
    refine v_ret dX1_writeLetters_30 rfl ?_
    refine ⟨rfl, rfl, ?_⟩
    rw [show min (gSt v s + p - 1 + (q - p)) 3000 - (gSt v s + p - 1) = q - p by omega]
