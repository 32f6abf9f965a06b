def shX (a i x : Nat) : Prop := ∃ k, k < i ∧ x = a + 5 + 7 * k
theorem shX_ap (a i : Nat) : apA (shX a i) := fun x y ⟨j, _, h1⟩ ⟨k, _, h2⟩ h => by omega
abbrev shCi (a i : Nat) : aC := .inl (4, 60, .inr (.inr (.inr (.inr (fun k => if k < i then some (a + 5 + 7 * k) else none)))))
theorem shCi_s {a i : Nat} : va_up (fun k => if k < i then some (a + 5 + 7 * k) else none) i (some (a + 5 + 7 * i)) = fun k => if k < i + 1 then some (a + 5 + 7 * k) else none := by
  funext k
  by_cases q : k = i
  · subst q; rw [va_up_self, if_pos (by omega)]
  · rw [va_up_ne _ _ q]
    by_cases r : k < i
    · rw [if_pos r, if_pos (by omega)]
    · rw [if_neg r, if_neg (by omega)]
theorem shI_s {F : aH} {a i : Nat} {c d e : aC} {W : Nat → eV} : va_up (enS (va_up (va_up (esS F (shX a i) W) (a + 1) c) (a + 5 + 7 * i) d) (a + 5 + 7 * i) (W (a + 5 + 7 * i))) (a + 1) e = va_up (esS F (shX a (i + 1)) W) (a + 1) e := by
  funext b
  by_cases q : b = a + 1
  · rw [q, va_up_self, va_up_self]
  · rw [va_up_ne _ _ q, va_up_ne _ _ q]
    by_cases r : a + 5 + 7 * i ≤ b ∧ b ≤ a + 5 + 7 * i + 6
    · rw [esS_in (shX_ap a (i + 1)) ⟨i, by omega, rfl⟩ r.1 r.2]
      exact enS_in r.1 r.2
    · rw [enS_ne (by omega), va_up_ne _ _ (by omega), va_up_ne _ _ q]
      by_cases hB : esB (shX a i) b
      · obtain ⟨x, ⟨k, hk, hx⟩, h1, h2⟩ := hB
        rw [esS_in (shX_ap a i) ⟨k, hk, hx⟩ h1 h2, esS_in (shX_ap a (i + 1)) ⟨k, by omega, hx⟩ h1 h2]
      · have hN : ¬ esB (shX a (i + 1)) b := fun ⟨x, ⟨k, hk, hx⟩, h1, h2⟩ => by
          by_cases z : k = i
          · subst z; omega
          · exact hB ⟨x, ⟨k, by omega, hx⟩, h1, h2⟩
        rw [esS_no hB, esS_no hN]
theorem shI_0 {F : aH} {a : Nat} {W : Nat → eV} (h : F (a + 1) = .inl (4, 60, .inr (.inr (.inr (.inr (fun _ => none)))))) : F = va_up (esS F (shX a 0) W) (a + 1) (shCi a 0) := by
  have e1 : esS F (shX a 0) W = F := by
    funext b
    exact esS_no (fun ⟨x, ⟨k, hk, _⟩, _⟩ => absurd hk (Nat.not_lt_zero _))
  rw [e1]
  exact (va_up_id (h.trans (by rfl))).symm

set_option maxRecDepth 100000 in
set_option maxHeartbeats 4000000 in
/-- Sheet() -/
theorem sX7_init {E : eN} (hE : eOk E) {f : aH} {t : Nat} {a : Nat} (h : f a = .inr (7, [.null, .null, .int 0])) (ht : t = a + 1) : mT E mX7_init 424 8887 [.ref a] f t (fun o f' t' => o = .inl none ∧ t' = t + 424 ∧ seP f' (shX a 60) (fun _ => eZ) a ((fun i => a + 5 + 7 * i), (0, (fun _ => 0), (fun _ => 0)), 0) ∧ ∀ b, b < a ∨ a + 424 < b → f' b = f b) := by
  refine mT_of (n := 1) (lo := [some (.ref a), none]) (by decide) (by exact Nat.le_of_ble_eq_true rfl) rfl rfl ?_
  subst ht
  have lp : ∀ F : aH, F a = .inr (7, [.ref (a + 1), .ref (a + 2), .int (nI 0)]) → nmP 3 F (a + 2) (0, (fun _ => 0), (fun _ => 0)) → (∀ b, b < a ∨ a + 424 < b → F b = f b) → ∀ (d : Nat) (i s bc bs : Nat), i + d = 60 → s = a + 5 + 7 * i → 7 * d ≤ bc → 146 * d ≤ bs → V E mX7_init 424 8887 (fun o f' t' => o = .inl none ∧ t' = a + 1 + 424 ∧ seP f' (shX a 60) (fun _ => eZ) a ((fun i => a + 5 + 7 * i), (0, (fun _ => 0), (fun _ => 0)), 0) ∧ ∀ b, b < a ∨ a + 424 < b → f' b = f b) 27 [some (.ref a), some (.int (nI i))] [] (va_up (esS F (shX a i) (fun _ => eZ)) (a + 1) (shCi a i)) s bc bs := by
    intro F hF0 hF2 hFn d
    induction d using Nat.strongRecOn with
    | _ d ih =>
    intro i s bc bs hi hs hbc hbs
    subst hs
    refine v_iload_n dX7_init_27 rfl (by rfl) ?_
    refine v_bipush (v := nI 60) dX7_init_28 (by decide) ?_
    refine v_icmp_geN (tgt := 52) dX7_init_30 (by decide) (by omega) (by omega) (fun c30 => ?_) (fun c30 => ?_)
    · refine v_ret dX7_init_52 rfl ?_
      have hi60 : i = 60 := by omega
      subst hi60
      refine ⟨rfl, by omega, ⟨⟨(by repeat (first | assumption | exact va_up_self _ _ _ | refine (va_up_ne _ _ (by omega)).trans ?_ | refine (enS_ne (by omega)).trans ?_ | refine (esS_ne (fun x ⟨k, hk, hx⟩ => by omega)).trans ?_)), va_up_self _ _ _, (by refine (va_up_ne _ _ (by omega)).trans ((esS_ne (fun x ⟨k, hk, hx⟩ => by omega)).trans hF2.1)), (by refine (va_up_ne _ _ (by omega)).trans ((esS_ne (fun x ⟨k, hk, hx⟩ => by omega)).trans hF2.2.1)), (by refine (va_up_ne _ _ (by omega)).trans ((esS_ne (fun x ⟨k, hk, hx⟩ => by omega)).trans hF2.2.2))⟩, fun x hx => ?_⟩, fun b hb => ?_⟩
      · obtain ⟨k, hk, hx2⟩ := id hx
        exact en_up (esP_S (shX_ap a 60) x hx) (by omega)
      · refine (va_up_ne _ _ (by omega)).trans ((esS_ne (fun x ⟨k, hk, hx⟩ => by omega)).trans (hFn b hb))
    · refine v_aload_n dX7_init_33 rfl (by rfl) ?_
      refine v_getf hE dX7_init_34 fX7_11 (by repeat (first | assumption | exact va_up_self _ _ _ | refine (va_up_ne _ _ (by omega)).trans ?_ | refine (enS_ne (by omega)).trans ?_ | refine (esS_ne (fun x ⟨k, hk, hx⟩ => by omega)).trans ?_)) (by rfl) ?_
      refine v_iload_n dX7_init_37 rfl (by rfl) ?_
      refine v_new hE (ci := 0) (N := 14) (fs := [.null, .null, .null, .null, .null, .null, .int 0, .int 0, .int 0, .int 0, .int 0, .int 0, .int 0, .int 0]) dX7_init_38 nX7_9 rfl (by decide) (by omega) (by omega) ?_
      refine v_dup dX7_init_41 rfl ?_
      refine w_callI hE dX7_init_42 kX7_26 rfl (by rfl) (sX0_init hE (va_up_self _ _ _) rfl) rfl (fun _ _ _ h => by cases h.1) (by decide) (by decide) (by exact Nat.le_of_ble_eq_true rfl) (by omega) (by omega) (fun v9 g9 u9 h9 => ?_)
      obtain ⟨hv9, hu9, hg9⟩ := h9
      replace hu9 := hu9.symm
      replace hg9 := hg9.symm
      subst hu9
      subst hg9
      cases hv9
      refine v_aastE hE dX7_init_45 (by repeat (first | assumption | exact va_up_self _ _ _ | refine (va_up_ne _ _ (by omega)).trans ?_ | refine (enS_ne (by omega)).trans ?_ | refine (esS_ne (fun x ⟨k, hk, hx⟩ => by omega)).trans ?_)) (enP_S _ _ _).1 (by omega) (by omega) ?_
      rw [shCi_s]
      refine v_hp (shI_s (W := fun _ => eZ)) ?_
      refine v_iincN (y := 1) dX7_init_46 (by rfl) (by decide) (by decide) ?_
      refine v_goto (tgt := 27) dX7_init_49 (by decide) ?_
      exact ih (d - 1) (by omega) (i + 1) _ _ _ (by omega) (by omega) (by omega) (by omega)
  refine v_aload_n dX7_init_0 rfl (by rfl) ?_
  refine v_oinit hE dX7_init_1 oX7_3 (by decide) (by exact Nat.le_of_ble_eq_true rfl) ?_
  refine v_aload_n dX7_init_4 rfl (by rfl) ?_
  refine v_bipush (v := nI 60) dX7_init_5 (by decide) ?_
  refine v_anewE hE dX7_init_7 (mem_at (j := 247) (by decide +kernel)) (by omega) (by omega) (by omega) ?_
  refine v_putF hE dX7_init_10 fX7_11 (by rfl) (by rfl) (by repeat (first | assumption | exact va_up_self _ _ _ | refine (va_up_ne _ _ (by omega)).trans ?_ | refine (nmS_ne (by omega)).trans ?_)) (by exact Nat.le_of_ble_eq_true rfl) (by rfl) (by rfl) (by rfl) ?_
  refine v_aload_n dX7_init_13 rfl (by rfl) ?_
  refine v_new hE (ci := 5) (N := 4) (fs := [.int 0, .null, .null, .int 0]) dX7_init_14 nX7_17 rfl (by decide) (by omega) (by omega) ?_
  refine v_dup dX7_init_17 rfl ?_
  refine v_iconst (v := nI 3) dX7_init_18 (by decide) ?_
  refine w_callI hE dX7_init_19 kX7_19 rfl (by rfl) (sX5_init hE (L := 3) (va_up_self _ _ _) (by omega) rfl) rfl (fun _ _ _ h => by cases h.1) (by decide) (by decide) (by exact Nat.le_of_ble_eq_true rfl) (by omega) (by omega) (fun v9 g9 u9 h9 => ?_)
  obtain ⟨hv9, hu9, hg9⟩ := h9
  replace hu9 := hu9.symm
  replace hg9 := hg9.symm
  subst hu9
  subst hg9
  cases hv9
  refine v_putF hE dX7_init_22 fX7_22 (by rfl) (by rfl) (by repeat (first | assumption | exact va_up_self _ _ _ | refine (va_up_ne _ _ (by omega)).trans ?_ | refine (nmS_ne (by omega)).trans ?_)) (by exact Nat.le_of_ble_eq_true rfl) (by rfl) (by rfl) (by rfl) ?_
  refine v_iconst (v := nI 0) dX7_init_25 (by decide) ?_
  refine v_istore_n dX7_init_26 rfl (by decide) ?_
  refine v_hp (shI_0 (a := a) (W := fun _ => eZ) (by repeat (first | assumption | exact va_up_self _ _ _ | refine (va_up_ne _ _ (by omega)).trans ?_ | refine (nmS_ne (by omega)).trans ?_))) ?_
  refine lp _ ?_ ?_ ?_ 60 0 _ _ _ (by omega) (by omega) (by omega) (by omega)
  · exact (by repeat (first | assumption | exact va_up_self _ _ _ | refine (va_up_ne _ _ (by omega)).trans ?_ | refine (nmS_ne (by omega)).trans ?_))
  · exact ⟨(va_up_ne _ _ (by omega)).trans (nmP_S 3 _ (a + 2) _).1, (va_up_ne _ _ (by omega)).trans (nmP_S 3 _ (a + 2) _).2.1, (va_up_ne _ _ (by omega)).trans (nmP_S 3 _ (a + 2) _).2.2⟩
  · exact (fun b hb => by (repeat (first | refine (va_up_ne _ _ (by omega)).trans ?_ | refine (nmS_ne (by omega)).trans ?_)); rfl)
