section ABS
variable {E : eN} {I : mR} {mc ms : Nat} {Q : aP} {pc : Nat} {lo : List (Option Value)} {st : List Value} {f : aH} {t bc bs : Nat}
theorem v_abs {P : aH → Prop} (h : P f) (k : ∀ g, P g → V E I mc ms Q pc lo st g t bc bs) : V E I mc ms Q pc lo st f t bc bs := k f h
theorem v_tt {t2 : Nat} (h : t = t2) (k : V E I mc ms Q pc lo st f t2 bc bs) : V E I mc ms Q pc lo st f t bc bs := h ▸ k
end ABS
def dNA (D k : Nat) : Nat := match k with
  | 0 => D + 1
  | 1 => D + 3
  | 2 => D + 5
  | 3 => D + 7
  | 4 => D + 16
  | 5 => D + 26
  | 6 => D + 451
  | _ => D + 876
abbrev nT : tS := (0, (fun _ => 0), 0)
abbrev nG : gV := ((0, (fun _ => 0), (fun _ => 0)), (fun _ => 0), (fun _ => 0), (fun _ => 0), (fun _ => 0), (fun _ => 0), 0, 0)
abbrev nZ (a : Nat) : sV := ((fun i => a + 5 + 7 * i), (0, (fun _ => 0), (fun _ => 0)), 0)
abbrev nH : hV := ((fun _ => 0), (fun _ => 0), (fun _ => 0), (fun _ => 0), (fun _ => 0), 0, 0, 0, 0)
def dNew (D : Nat) : dV := (dNA D, (fun _ => nT), (fun _ => nG), (fun k => nZ (dNA D (5 + k))), (fun _ => eZ), (fun _ => 0), nH, -1)

set_option maxRecDepth 100000 in
set_option maxHeartbeats 4000000 in
/-- VariantDesk() -/
theorem sX9_init {E : eN} (hE : eOk E) {f : aH} {t : Nat} {D : Nat} (h : f D = .inr (9, [.null, .null, .null, .null, .null, .null, .null, .null, .null, .int 0])) (ht : t = D + 1) : mT E mX9_init 1322 57817 [.ref D] f t (fun o f' t' => o = .inl none ∧ t' = D + 1323 ∧ dkP f' D (dNew D) ∧ ∀ b, b < D → f' b = f b) := by
  refine mT_of (n := 1) (lo := [some (.ref D), none]) (by decide) (by exact Nat.le_of_ble_eq_true rfl) rfl rfl ?_
  subst ht
  have c0 := h
  refine v_aload_n dX9_init_0 rfl (by rfl) ?_
  refine v_oinit hE dX9_init_1 oX9_1 (by decide) (by exact Nat.le_of_ble_eq_true rfl) ?_
  refine v_aload_n dX9_init_4 rfl (by rfl) ?_
  refine v_new hE (ci := 6) (N := 3) (fs := [.null, .int 0, .int 0]) dX9_init_5 nX9_7 rfl (by decide) (by omega) (by omega) ?_
  refine v_dup dX9_init_8 rfl ?_
  refine w_callI hE dX9_init_9 kX9_9 rfl (by rfl) (sX6_init hE (va_up_self _ _ _) rfl) rfl (fun _ _ _ h => by cases h.1) (by decide) (by decide) (by exact Nat.le_of_ble_eq_true rfl) (by omega) (by omega) (fun v9 g9 u9 h9 => ?_)
  obtain ⟨hv9, hu9, hg9⟩ := h9
  replace hu9 := hu9.symm
  replace hg9 := hg9.symm
  subst hu9
  subst hg9
  cases hv9
  refine v_putF hE dX9_init_12 fX9_10 (by rfl) (by rfl) (by repeat (first | assumption | exact va_up_self _ _ _ | refine (va_up_ne _ _ (by omega)).trans ?_)) (by exact Nat.le_of_ble_eq_true rfl) (by rfl) (by rfl) (by rfl) ?_
  refine v_tt (t2 := D + 3) (by omega) ?_
  refine v_abs (P := fun g => g D = .inr (9, [.ref (D + 1), .null, .null, .null, .null, .null, .null, .null, .null, .int 0]) ∧ (oP g (D + 1) nT) ∧ ∀ b, b ≠ D → b ≠ D + 25 → b < D + 1 → g b = f b) ⟨va_up_self _ _ _, o_cong (oP_S (Nat.zero_le _)) (fun b q1 q2 => va_up_ne _ _ (by omega)), fun b n1 n2 n3 => (va_up_ne _ _ n1).trans ((oS_ne (by omega) (by omega)).trans (va_up_ne _ _ (by omega)))⟩ (fun f1 hf => ?_)
  obtain ⟨c1, p1, n1⟩ := hf
  refine v_aload_n dX9_init_15 rfl (by rfl) ?_
  refine v_new hE (ci := 6) (N := 3) (fs := [.null, .int 0, .int 0]) dX9_init_16 nX9_7 rfl (by decide) (by omega) (by omega) ?_
  refine v_dup dX9_init_19 rfl ?_
  refine w_callI hE dX9_init_20 kX9_9 rfl (by rfl) (sX6_init hE (va_up_self _ _ _) rfl) rfl (fun _ _ _ h => by cases h.1) (by decide) (by decide) (by exact Nat.le_of_ble_eq_true rfl) (by omega) (by omega) (fun v9 g9 u9 h9 => ?_)
  obtain ⟨hv9, hu9, hg9⟩ := h9
  replace hu9 := hu9.symm
  replace hg9 := hg9.symm
  subst hu9
  subst hg9
  cases hv9
  refine v_putf hE dX9_init_23 fX9_16 (by repeat (first | assumption | exact va_up_self _ _ _ | refine (va_up_ne _ _ (by omega)).trans ?_)) (by exact Nat.le_of_ble_eq_true rfl) (by rfl) (by rfl) (by rfl) ?_
  refine v_tt (t2 := D + 5) (by omega) ?_
  refine v_abs (P := fun g => g D = .inr (9, [.ref (D + 1), .null, .null, .null, .ref (D + 3), .null, .null, .null, .null, .int 0]) ∧ (oP g (D + 3) nT) ∧ ∀ b, b ≠ D → b ≠ D + 25 → b < D + 3 → g b = f1 b) ⟨va_up_self _ _ _, o_cong (oP_S (Nat.zero_le _)) (fun b q1 q2 => va_up_ne _ _ (by omega)), fun b n1 n2 n3 => (va_up_ne _ _ n1).trans ((oS_ne (by omega) (by omega)).trans (va_up_ne _ _ (by omega)))⟩ (fun f2 hf => ?_)
  obtain ⟨c2, p2, n2⟩ := hf
  refine v_aload_n dX9_init_26 rfl (by rfl) ?_
  refine v_new hE (ci := 6) (N := 3) (fs := [.null, .int 0, .int 0]) dX9_init_27 nX9_7 rfl (by decide) (by omega) (by omega) ?_
  refine v_dup dX9_init_30 rfl ?_
  refine w_callI hE dX9_init_31 kX9_9 rfl (by rfl) (sX6_init hE (va_up_self _ _ _) rfl) rfl (fun _ _ _ h => by cases h.1) (by decide) (by decide) (by exact Nat.le_of_ble_eq_true rfl) (by omega) (by omega) (fun v9 g9 u9 h9 => ?_)
  obtain ⟨hv9, hu9, hg9⟩ := h9
  replace hu9 := hu9.symm
  replace hg9 := hg9.symm
  subst hu9
  subst hg9
  cases hv9
  refine v_putf hE dX9_init_34 fX9_19 (by repeat (first | assumption | exact va_up_self _ _ _ | refine (va_up_ne _ _ (by omega)).trans ?_)) (by exact Nat.le_of_ble_eq_true rfl) (by rfl) (by rfl) (by rfl) ?_
  refine v_tt (t2 := D + 7) (by omega) ?_
  refine v_abs (P := fun g => g D = .inr (9, [.ref (D + 1), .null, .null, .null, .ref (D + 3), .ref (D + 5), .null, .null, .null, .int 0]) ∧ (oP g (D + 5) nT) ∧ ∀ b, b ≠ D → b ≠ D + 25 → b < D + 5 → g b = f2 b) ⟨va_up_self _ _ _, o_cong (oP_S (Nat.zero_le _)) (fun b q1 q2 => va_up_ne _ _ (by omega)), fun b n1 n2 n3 => (va_up_ne _ _ n1).trans ((oS_ne (by omega) (by omega)).trans (va_up_ne _ _ (by omega)))⟩ (fun f3 hf => ?_)
  obtain ⟨c3, p3, n3⟩ := hf
  refine v_aload_n dX9_init_37 rfl (by rfl) ?_
  refine v_new hE (ci := 1) (N := 8) (fs := [.null, .null, .null, .null, .null, .null, .int 0, .int 0]) dX9_init_38 nX9_22 rfl (by decide) (by omega) (by omega) ?_
  refine v_dup dX9_init_41 rfl ?_
  refine w_callI hE dX9_init_42 kX9_24 rfl (by rfl) (sX1_init hE (va_up_self _ _ _) rfl) rfl (fun _ _ _ h => by cases h.1) (by decide) (by decide) (by exact Nat.le_of_ble_eq_true rfl) (by omega) (by omega) (fun v9 g9 u9 h9 => ?_)
  obtain ⟨hv9, hu9, hg9⟩ := h9
  replace hu9 := hu9.symm
  replace hg9 := hg9.symm
  subst hu9
  subst hg9
  cases hv9
  refine v_putf hE dX9_init_45 fX9_25 (by repeat (first | assumption | exact va_up_self _ _ _ | refine (va_up_ne _ _ (by omega)).trans ?_)) (by exact Nat.le_of_ble_eq_true rfl) (by rfl) (by rfl) (by rfl) ?_
  refine v_tt (t2 := D + 16) (by omega) ?_
  refine v_abs (P := fun g => g D = .inr (9, [.ref (D + 1), .null, .null, .null, .ref (D + 3), .ref (D + 5), .ref (D + 7), .null, .null, .int 0]) ∧ (gnP g (D + 7) nG) ∧ ∀ b, b ≠ D → b ≠ D + 25 → b < D + 7 → g b = f3 b) ⟨va_up_self _ _ _, gn_cong (gnP_S _ _ _) (fun b q1 q2 => va_up_ne _ _ (by omega)), fun b n1 n2 n3 => (va_up_ne _ _ n1).trans ((gnS_ne (by omega)).trans (va_up_ne _ _ (by omega)))⟩ (fun f4 hf => ?_)
  obtain ⟨c4, p4, n4⟩ := hf
  refine v_aload_n dX9_init_48 rfl (by rfl) ?_
  refine v_new hE (ci := 1) (N := 8) (fs := [.null, .null, .null, .null, .null, .null, .int 0, .int 0]) dX9_init_49 nX9_22 rfl (by decide) (by omega) (by omega) ?_
  refine v_dup dX9_init_52 rfl ?_
  refine w_callI hE dX9_init_53 kX9_24 rfl (by rfl) (sX1_init hE (va_up_self _ _ _) rfl) rfl (fun _ _ _ h => by cases h.1) (by decide) (by decide) (by exact Nat.le_of_ble_eq_true rfl) (by omega) (by omega) (fun v9 g9 u9 h9 => ?_)
  obtain ⟨hv9, hu9, hg9⟩ := h9
  replace hu9 := hu9.symm
  replace hg9 := hg9.symm
  subst hu9
  subst hg9
  cases hv9
  refine v_putf hE dX9_init_56 fX9_29 (by repeat (first | assumption | exact va_up_self _ _ _ | refine (va_up_ne _ _ (by omega)).trans ?_)) (by exact Nat.le_of_ble_eq_true rfl) (by rfl) (by rfl) (by rfl) ?_
  refine v_tt (t2 := D + 25) (by omega) ?_
  refine v_abs (P := fun g => g D = .inr (9, [.ref (D + 1), .null, .null, .null, .ref (D + 3), .ref (D + 5), .ref (D + 7), .ref (D + 16), .null, .int 0]) ∧ (gnP g (D + 16) nG) ∧ ∀ b, b ≠ D → b ≠ D + 25 → b < D + 16 → g b = f4 b) ⟨va_up_self _ _ _, gn_cong (gnP_S _ _ _) (fun b q1 q2 => va_up_ne _ _ (by omega)), fun b n1 n2 n3 => (va_up_ne _ _ n1).trans ((gnS_ne (by omega)).trans (va_up_ne _ _ (by omega)))⟩ (fun f5 hf => ?_)
  obtain ⟨c5, p5, n5⟩ := hf
  refine v_aload_n dX9_init_59 rfl (by rfl) ?_
  refine v_iconst (v := nI 2) dX9_init_60 (by decide) ?_
  refine v_anewS hE dX9_init_61 (mem_at (j := 240) (by decide +kernel)) (by omega) (by omega) (by omega) ?_
  refine v_putF hE dX9_init_64 fX9_34 (by rfl) (by rfl) (by repeat (first | assumption | exact va_up_self _ _ _ | refine (va_up_ne _ _ (by omega)).trans ?_)) (by exact Nat.le_of_ble_eq_true rfl) (by rfl) (by rfl) (by rfl) ?_
  refine v_tt (t2 := D + 26) (by omega) ?_
  refine v_abs (P := fun g => g D = .inr (9, [.ref (D + 1), .ref (D + 25), .null, .null, .ref (D + 3), .ref (D + 5), .ref (D + 7), .ref (D + 16), .null, .int 0]) ∧ g (D + 25) = .inl (5, 2, .inr (.inr (.inr (.inr (fun _ => none))))) ∧ ∀ b, b ≠ D → b ≠ D + 25 → b < D + 25 → g b = f5 b) ⟨va_up_self _ _ _, (va_up_ne _ _ (by omega)).trans (va_up_self _ _ _), fun b n1 n2 n3 => (va_up_ne _ _ n1).trans (va_up_ne _ _ n2)⟩ (fun f6 hf => ?_)
  obtain ⟨c6, a6, n6⟩ := hf
  refine v_iconst (v := nI 0) dX9_init_67 (by decide) ?_
  refine v_istore_n dX9_init_68 rfl (by decide) ?_
  refine v_iload_n dX9_init_69 rfl (by rfl) ?_
  refine v_iconst (v := nI 2) dX9_init_70 (by decide) ?_
  refine v_icmp_geN (tgt := 93) dX9_init_71 (by decide) (by omega) (by omega) (fun c71 => ?_) (fun c71 => ?_)
  · exact absurd c71 (by omega)
  · refine v_aload_n dX9_init_74 rfl (by rfl) ?_
    refine v_getf hE dX9_init_75 fX9_34 (by repeat (first | assumption | exact va_up_self _ _ _ | refine (va_up_ne _ _ (by omega)).trans ?_)) (by rfl) ?_
    refine v_iload_n dX9_init_78 rfl (by rfl) ?_
    refine v_new hE (ci := 7) (N := 3) (fs := [.null, .null, .int 0]) dX9_init_79 nX9_32 rfl (by decide) (by omega) (by omega) ?_
    refine v_dup dX9_init_82 rfl ?_
    refine w_callI hE dX9_init_83 kX9_38 rfl (by rfl) (sX7_init hE (va_up_self _ _ _) rfl) rfl (fun _ _ _ h => by cases h.1) (by decide) (by decide) (by exact Nat.le_of_ble_eq_true rfl) (by omega) (by omega) (fun v9 g9 u9 h9 => ?_)
    obtain ⟨hv9, hu9, hp7, hf7⟩ := h9
    replace hu9 := hu9.symm
    subst hu9
    cases hv9
    have d7 : g9 D = .inr (9, [.ref (D + 1), .ref (D + 25), .null, .null, .ref (D + 3), .ref (D + 5), .ref (D + 7), .ref (D + 16), .null, .int 0]) := (hf7 _ (by omega)).trans ((va_up_ne _ _ (by omega)).trans c6)
    have e7 : g9 (D + 25) = .inl (5, 2, .inr (.inr (.inr (.inr (fun _ => none))))) := (hf7 _ (by omega)).trans ((va_up_ne _ _ (by omega)).trans a6)
    refine v_aastS hE dX9_init_86 e7 hp7.1.1 (by omega) (by omega) ?_
    refine v_tt (t2 := D + 451) (by omega) ?_
    refine v_abs (P := fun g => g D = .inr (9, [.ref (D + 1), .ref (D + 25), .null, .null, .ref (D + 3), .ref (D + 5), .ref (D + 7), .ref (D + 16), .null, .int 0]) ∧ g (D + 25) = .inl (5, 2, .inr (.inr (.inr (.inr (va_up (fun _ => none) 0 (some (D + 26))))))) ∧ (seP g (shX (D + 26) 60) (fun _ => eZ) (D + 26) (nZ (D + 26))) ∧ ∀ b, b ≠ D → b ≠ D + 25 → b < D + 26 → g b = f6 b) ⟨(va_up_ne _ _ (by omega)).trans d7, va_up_self _ _ _, ⟨sh_cong hp7.1 (fun b q1 q2 => va_up_ne _ _ (by omega)), fun y hy => en_cong (hp7.2 y hy) (fun b q1 q2 => va_up_ne _ _ (by obtain ⟨k, hk, e⟩ := hy; omega))⟩, fun b n1 n2 n3 => (va_up_ne _ _ n2).trans ((hf7 _ (by omega)).trans (va_up_ne _ _ (by omega)))⟩ (fun f7 hf => ?_)
    obtain ⟨c7, a7, p7, n7⟩ := hf
    refine v_iincN (y := 1) dX9_init_87 (by rfl) (by decide) (by decide) ?_
    refine v_goto (tgt := 69) dX9_init_90 (by decide) ?_
    refine v_iload_n dX9_init_69 rfl (by rfl) ?_
    refine v_iconst (v := nI 2) dX9_init_70 (by decide) ?_
    refine v_icmp_geN (tgt := 93) dX9_init_71 (by decide) (by omega) (by omega) (fun c71 => ?_) (fun c71 => ?_)
    · exact absurd c71 (by omega)
    · refine v_aload_n dX9_init_74 rfl (by rfl) ?_
      refine v_getf hE dX9_init_75 fX9_34 (by repeat (first | assumption | exact va_up_self _ _ _ | refine (va_up_ne _ _ (by omega)).trans ?_)) (by rfl) ?_
      refine v_iload_n dX9_init_78 rfl (by rfl) ?_
      refine v_new hE (ci := 7) (N := 3) (fs := [.null, .null, .int 0]) dX9_init_79 nX9_32 rfl (by decide) (by omega) (by omega) ?_
      refine v_dup dX9_init_82 rfl ?_
      refine w_callI hE dX9_init_83 kX9_38 rfl (by rfl) (sX7_init hE (va_up_self _ _ _) rfl) rfl (fun _ _ _ h => by cases h.1) (by decide) (by decide) (by exact Nat.le_of_ble_eq_true rfl) (by omega) (by omega) (fun v9 g9 u9 h9 => ?_)
      obtain ⟨hv9, hu9, hp8, hf8⟩ := h9
      replace hu9 := hu9.symm
      subst hu9
      cases hv9
      have d8 : g9 D = .inr (9, [.ref (D + 1), .ref (D + 25), .null, .null, .ref (D + 3), .ref (D + 5), .ref (D + 7), .ref (D + 16), .null, .int 0]) := (hf8 _ (by omega)).trans ((va_up_ne _ _ (by omega)).trans c7)
      have e8 : g9 (D + 25) = .inl (5, 2, .inr (.inr (.inr (.inr (va_up (fun _ => none) 0 (some (D + 26))))))) := (hf8 _ (by omega)).trans ((va_up_ne _ _ (by omega)).trans a7)
      refine v_aastS hE dX9_init_86 e8 hp8.1.1 (by omega) (by omega) ?_
      refine v_tt (t2 := D + 876) (by omega) ?_
      refine v_abs (P := fun g => g D = .inr (9, [.ref (D + 1), .ref (D + 25), .null, .null, .ref (D + 3), .ref (D + 5), .ref (D + 7), .ref (D + 16), .null, .int 0]) ∧ g (D + 25) = .inl (5, 2, .inr (.inr (.inr (.inr (va_up (va_up (fun _ => none) 0 (some (D + 26))) 1 (some (D + 451))))))) ∧ (seP g (shX (D + 451) 60) (fun _ => eZ) (D + 451) (nZ (D + 451))) ∧ ∀ b, b ≠ D → b ≠ D + 25 → b < D + 451 → g b = f7 b) ⟨(va_up_ne _ _ (by omega)).trans d8, va_up_self _ _ _, ⟨sh_cong hp8.1 (fun b q1 q2 => va_up_ne _ _ (by omega)), fun y hy => en_cong (hp8.2 y hy) (fun b q1 q2 => va_up_ne _ _ (by obtain ⟨k, hk, e⟩ := hy; omega))⟩, fun b n1 n2 n3 => (va_up_ne _ _ n2).trans ((hf8 _ (by omega)).trans (va_up_ne _ _ (by omega)))⟩ (fun f8 hf => ?_)
      obtain ⟨c8, a8, p8, n8⟩ := hf
      refine v_iincN (y := 1) dX9_init_87 (by rfl) (by decide) (by decide) ?_
      refine v_goto (tgt := 69) dX9_init_90 (by decide) ?_
      refine v_iload_n dX9_init_69 rfl (by rfl) ?_
      refine v_iconst (v := nI 2) dX9_init_70 (by decide) ?_
      refine v_icmp_geN (tgt := 93) dX9_init_71 (by decide) (by omega) (by omega) (fun c71 => ?_) (fun c71 => ?_)
      · refine v_aload_n dX9_init_93 rfl (by rfl) ?_
        refine v_new hE (ci := 7) (N := 3) (fs := [.null, .null, .int 0]) dX9_init_94 nX9_32 rfl (by decide) (by omega) (by omega) ?_
        refine v_dup dX9_init_97 rfl ?_
        refine w_callI hE dX9_init_98 kX9_38 rfl (by rfl) (sX7_init hE (va_up_self _ _ _) rfl) rfl (fun _ _ _ h => by cases h.1) (by decide) (by decide) (by exact Nat.le_of_ble_eq_true rfl) (by omega) (by omega) (fun v9 g9 u9 h9 => ?_)
        obtain ⟨hv9, hu9, hp9, hf9⟩ := h9
        replace hu9 := hu9.symm
        subst hu9
        cases hv9
        have d9 : g9 D = .inr (9, [.ref (D + 1), .ref (D + 25), .null, .null, .ref (D + 3), .ref (D + 5), .ref (D + 7), .ref (D + 16), .null, .int 0]) := (hf9 _ (by omega)).trans ((va_up_ne _ _ (by omega)).trans c8)
        refine v_putf hE dX9_init_101 fX9_39 (by repeat (first | assumption | exact va_up_self _ _ _ | refine (va_up_ne _ _ (by omega)).trans ?_)) (by exact Nat.le_of_ble_eq_true rfl) (by rfl) (by rfl) (by rfl) ?_
        refine v_tt (t2 := D + 1301) (by omega) ?_
        refine v_abs (P := fun g => g D = .inr (9, [.ref (D + 1), .ref (D + 25), .null, .null, .ref (D + 3), .ref (D + 5), .ref (D + 7), .ref (D + 16), .ref (D + 876), .int 0]) ∧ g (D + 25) = .inl (5, 2, .inr (.inr (.inr (.inr (va_up (va_up (fun _ => none) 0 (some (D + 26))) 1 (some (D + 451))))))) ∧ (seP g (shX (D + 876) 60) (fun _ => eZ) (D + 876) (nZ (D + 876))) ∧ ∀ b, b ≠ D → b ≠ D + 25 → b < D + 876 → g b = f8 b) ⟨va_up_self _ _ _, ((va_up_ne _ _ (by omega)).trans ((hf9 _ (by omega)).trans ((va_up_ne _ _ (by omega)).trans a8))), ⟨sh_cong hp9.1 (fun b q1 q2 => va_up_ne _ _ (by omega)), fun y hy => en_cong (hp9.2 y hy) (fun b q1 q2 => va_up_ne _ _ (by obtain ⟨k, hk, e⟩ := hy; omega))⟩, fun b n1 n2 n3 => (va_up_ne _ _ n1).trans ((hf9 _ (by omega)).trans (va_up_ne _ _ (by omega)))⟩ (fun f9 hf => ?_)
        obtain ⟨c9, a9, p9, n9⟩ := hf
        refine v_aload_n dX9_init_104 rfl (by rfl) ?_
        refine v_new hE (ci := 4) (N := 3) (fs := [.null, .null, .null]) dX9_init_105 nX9_43 rfl (by decide) (by omega) (by omega) ?_
        refine v_dup dX9_init_108 rfl ?_
        refine w_callI hE dX9_init_109 kX9_45 rfl (by rfl) (sX4_init hE (va_up_self _ _ _) rfl) rfl (fun _ _ _ h => by cases h.1) (by decide) (by decide) (by exact Nat.le_of_ble_eq_true rfl) (by omega) (by omega) (fun v9 g9 u9 h9 => ?_)
        obtain ⟨hv9, hu9, hp10, hf10⟩ := h9
        replace hu9 := hu9.symm
        subst hu9
        cases hv9
        have d10 : g9 D = .inr (9, [.ref (D + 1), .ref (D + 25), .null, .null, .ref (D + 3), .ref (D + 5), .ref (D + 7), .ref (D + 16), .ref (D + 876), .int 0]) := (hf10 _ (by omega)).trans ((va_up_ne _ _ (by omega)).trans c9)
        refine v_putF hE dX9_init_112 fX9_46 (by rfl) (by rfl) (by repeat (first | assumption | exact va_up_self _ _ _ | refine (va_up_ne _ _ (by omega)).trans ?_)) (by exact Nat.le_of_ble_eq_true rfl) (by rfl) (by rfl) (by rfl) ?_
        refine v_tt (t2 := D + 1317) (by omega) ?_
        refine v_abs (P := fun g => g D = .inr (9, [.ref (D + 1), .ref (D + 25), .ref (D + 1301), .null, .ref (D + 3), .ref (D + 5), .ref (D + 7), .ref (D + 16), .ref (D + 876), .int 0]) ∧ g (D + 25) = .inl (5, 2, .inr (.inr (.inr (.inr (va_up (va_up (fun _ => none) 0 (some (D + 26))) 1 (some (D + 451))))))) ∧ (joP g (D + 1301) eZ eZ (fun _ => 0)) ∧ ∀ b, b ≠ D → b ≠ D + 25 → b < D + 1301 → g b = f9 b) ⟨va_up_self _ _ _, ((va_up_ne _ _ (by omega)).trans ((hf10 _ (by omega)).trans ((va_up_ne _ _ (by omega)).trans a9))), ⟨(va_up_ne _ _ (by omega)).trans hp10.1, en_cong hp10.2.1 (fun b q1 q2 => va_up_ne _ _ (by omega)), en_cong hp10.2.2.1 (fun b q1 q2 => va_up_ne _ _ (by omega)), (va_up_ne _ _ (by omega)).trans hp10.2.2.2⟩, fun b n1 n2 n3 => (va_up_ne _ _ n1).trans ((hf10 _ (by omega)).trans (va_up_ne _ _ (by omega)))⟩ (fun f10 hf => ?_)
        obtain ⟨c10, a10, p10, n10⟩ := hf
        refine v_aload_n dX9_init_115 rfl (by rfl) ?_
        refine v_new hE (ci := 3) (N := 9) (fs := [.null, .null, .null, .null, .null, .int 0, .int 0, .int 0, .int 0]) dX9_init_116 nX9_50 rfl (by decide) (by omega) (by omega) ?_
        refine v_dup dX9_init_119 rfl ?_
        refine w_callI hE dX9_init_120 kX9_52 rfl (by rfl) (sX3_init hE (va_up_self _ _ _) rfl) rfl (fun _ _ _ h => by cases h.1) (by decide) (by decide) (by exact Nat.le_of_ble_eq_true rfl) (by omega) (by omega) (fun v9 g9 u9 h9 => ?_)
        obtain ⟨hv9, hu9, hg9⟩ := h9
        replace hu9 := hu9.symm
        replace hg9 := hg9.symm
        subst hu9
        subst hg9
        cases hv9
        refine v_putF hE dX9_init_123 fX9_53 (by rfl) (by rfl) (by repeat (first | assumption | exact va_up_self _ _ _ | refine (va_up_ne _ _ (by omega)).trans ?_)) (by exact Nat.le_of_ble_eq_true rfl) (by rfl) (by rfl) (by rfl) ?_
        refine v_tt (t2 := D + 1323) (by omega) ?_
        refine v_abs (P := fun g => g D = .inr (9, [.ref (D + 1), .ref (D + 25), .ref (D + 1301), .ref (D + 1317), .ref (D + 3), .ref (D + 5), .ref (D + 7), .ref (D + 16), .ref (D + 876), .int 0]) ∧ g (D + 25) = .inl (5, 2, .inr (.inr (.inr (.inr (va_up (va_up (fun _ => none) 0 (some (D + 26))) 1 (some (D + 451))))))) ∧ (haP g (D + 1317) nH) ∧ ∀ b, b ≠ D → b ≠ D + 25 → b < D + 1317 → g b = f10 b) ⟨va_up_self _ _ _, ((va_up_ne _ _ (by omega)).trans (((haS_ne (by omega)).trans (va_up_ne _ _ (by omega))).trans a10)), ha_cong (haP_S _ _ _) (fun b q1 q2 => va_up_ne _ _ (by omega)), fun b n1 n2 n3 => (va_up_ne _ _ n1).trans ((haS_ne (by omega)).trans (va_up_ne _ _ (by omega)))⟩ (fun f11 hf => ?_)
        obtain ⟨c11, a11, p11, n11⟩ := hf
        refine v_aload_n dX9_init_126 rfl (by rfl) ?_
        refine v_iconst (v := (-1)) dX9_init_127 (by decide) ?_
        refine v_putf hE dX9_init_128 fX9_57 (by repeat (first | assumption | exact va_up_self _ _ _ | refine (va_up_ne _ _ (by omega)).trans ?_)) (by exact Nat.le_of_ble_eq_true rfl) (by rfl) (by rfl) (by rfl) ?_
        refine v_abs (P := fun g => g D = .inr (9, [.ref (D + 1), .ref (D + 25), .ref (D + 1301), .ref (D + 1317), .ref (D + 3), .ref (D + 5), .ref (D + 7), .ref (D + 16), .ref (D + 876), .int (-1)]) ∧ g (D + 25) = .inl (5, 2, .inr (.inr (.inr (.inr (va_up (va_up (fun _ => none) 0 (some (D + 26))) 1 (some (D + 451))))))) ∧ ∀ b, b ≠ D → g b = f11 b) ⟨va_up_self _ _ _, (va_up_ne _ _ (by omega)).trans a11, fun b n1 => va_up_ne _ _ n1⟩ (fun fz hf => ?_)
        obtain ⟨cz, az, nz⟩ := hf
        refine v_ret dX9_init_131 rfl ?_
        refine ⟨rfl, rfl, ⟨cz, ?_, ?_, ?_, ?_, ?_, ?_, ?_, ?_⟩, ?_⟩
        · refine az.trans ?_
          refine congrArg (fun g => (.inl (5, 2, .inr (.inr (.inr (.inr g)))) : aC)) (funext fun k => ?_)
          by_cases e0 : k = 0
          · subst e0; rfl
          · by_cases e1 : k = 1
            · subst e1; rfl
            · rw [va_up_ne _ _ e1, va_up_ne _ _ e0, if_neg (by omega)]
        · intro i hi
          rcases (show i = 0 ∨ i = 1 ∨ i = 2 by omega) with e | e | e <;> subst e
          · exact (o_cong p1 (fun b q1 q2 => ((((((((((nz b (by omega)).trans (n11 b (by omega) (by omega) (by omega))).trans (n10 b (by omega) (by omega) (by omega))).trans (n9 b (by omega) (by omega) (by omega))).trans (n8 b (by omega) (by omega) (by omega))).trans (n7 b (by omega) (by omega) (by omega))).trans (n6 b (by omega) (by omega) (by omega))).trans (n5 b (by omega) (by omega) (by omega))).trans (n4 b (by omega) (by omega) (by omega))).trans (n3 b (by omega) (by omega) (by omega))).trans (n2 b (by omega) (by omega) (by omega))) : oP _ (D + 1) nT)
          · exact (o_cong p2 (fun b q1 q2 => (((((((((nz b (by omega)).trans (n11 b (by omega) (by omega) (by omega))).trans (n10 b (by omega) (by omega) (by omega))).trans (n9 b (by omega) (by omega) (by omega))).trans (n8 b (by omega) (by omega) (by omega))).trans (n7 b (by omega) (by omega) (by omega))).trans (n6 b (by omega) (by omega) (by omega))).trans (n5 b (by omega) (by omega) (by omega))).trans (n4 b (by omega) (by omega) (by omega))).trans (n3 b (by omega) (by omega) (by omega))) : oP _ (D + 3) nT)
          · exact (o_cong p3 (fun b q1 q2 => ((((((((nz b (by omega)).trans (n11 b (by omega) (by omega) (by omega))).trans (n10 b (by omega) (by omega) (by omega))).trans (n9 b (by omega) (by omega) (by omega))).trans (n8 b (by omega) (by omega) (by omega))).trans (n7 b (by omega) (by omega) (by omega))).trans (n6 b (by omega) (by omega) (by omega))).trans (n5 b (by omega) (by omega) (by omega))).trans (n4 b (by omega) (by omega) (by omega))) : oP _ (D + 5) nT)
        · intro i hi
          rcases (show i = 0 ∨ i = 1 by omega) with e | e <;> subst e
          · exact (gn_cong p4 (fun b q1 q2 => (((((((nz b (by omega)).trans (n11 b (by omega) (by omega) (by omega))).trans (n10 b (by omega) (by omega) (by omega))).trans (n9 b (by omega) (by omega) (by omega))).trans (n8 b (by omega) (by omega) (by omega))).trans (n7 b (by omega) (by omega) (by omega))).trans (n6 b (by omega) (by omega) (by omega))).trans (n5 b (by omega) (by omega) (by omega))) : gnP _ (D + 7) nG)
          · exact (gn_cong p5 (fun b q1 q2 => ((((((nz b (by omega)).trans (n11 b (by omega) (by omega) (by omega))).trans (n10 b (by omega) (by omega) (by omega))).trans (n9 b (by omega) (by omega) (by omega))).trans (n8 b (by omega) (by omega) (by omega))).trans (n7 b (by omega) (by omega) (by omega))).trans (n6 b (by omega) (by omega) (by omega))) : gnP _ (D + 16) nG)
        · intro i hi
          rcases (show i = 0 ∨ i = 1 ∨ i = 2 by omega) with e | e | e <;> subst e
          · exact (sh_cong p7.1 (fun b q1 q2 => ((((nz b (by omega)).trans (n11 b (by omega) (by omega) (by omega))).trans (n10 b (by omega) (by omega) (by omega))).trans (n9 b (by omega) (by omega) (by omega))).trans (n8 b (by omega) (by omega) (by omega))) : shP _ (D + 26) (nZ (D + 26)))
          · exact (sh_cong p8.1 (fun b q1 q2 => (((nz b (by omega)).trans (n11 b (by omega) (by omega) (by omega))).trans (n10 b (by omega) (by omega) (by omega))).trans (n9 b (by omega) (by omega) (by omega))) : shP _ (D + 451) (nZ (D + 451)))
          · exact (sh_cong p9.1 (fun b q1 q2 => ((nz b (by omega)).trans (n11 b (by omega) (by omega) (by omega))).trans (n10 b (by omega) (by omega) (by omega))) : shP _ (D + 876) (nZ (D + 876)))
        · intro y hy
          have hy2 := dX_in hy
          rcases hy with ⟨i, h1, h2⟩ | ⟨i, h1, h2⟩ | ⟨i, h1, h2⟩ | h2 | h2
          · exact (en_cong (p7.2 y ⟨i, h1, by omega⟩) (fun b q1 q2 => ((((nz b (by omega)).trans (n11 b (by omega) (by omega) (by omega))).trans (n10 b (by omega) (by omega) (by omega))).trans (n9 b (by omega) (by omega) (by omega))).trans (n8 b (by omega) (by omega) (by omega))) : enP _ y eZ)
          · exact (en_cong (p8.2 y ⟨i, h1, by omega⟩) (fun b q1 q2 => (((nz b (by omega)).trans (n11 b (by omega) (by omega) (by omega))).trans (n10 b (by omega) (by omega) (by omega))).trans (n9 b (by omega) (by omega) (by omega))) : enP _ y eZ)
          · exact (en_cong (p9.2 y ⟨i, h1, by omega⟩) (fun b q1 q2 => ((nz b (by omega)).trans (n11 b (by omega) (by omega) (by omega))).trans (n10 b (by omega) (by omega) (by omega))) : enP _ y eZ)
          · subst h2
            exact (en_cong p10.2.1 (fun b q1 q2 => (nz b (by omega)).trans (n11 b (by omega) (by omega) (by omega))) : enP _ (D + 1301 + 1) eZ)
          · subst h2
            exact (en_cong p10.2.2.1 (fun b q1 q2 => (nz b (by omega)).trans (n11 b (by omega) (by omega) (by omega))) : enP _ (D + 1301 + 8) eZ)
        · have b : True := trivial
          exact ((fun b (q : b = D + 1301) => ((nz b (by omega)).trans (n11 b (by omega) (by omega) (by omega)) : _ = f10 b)) (D + 1301) rfl).trans p10.1
        · exact ((fun b (q : b = D + 1301 + 15) => ((nz b (by omega)).trans (n11 b (by omega) (by omega) (by omega)) : _ = f10 b)) (D + 1301 + 15) rfl).trans p10.2.2.2
        · exact ha_cong p11 (fun b q1 q2 => nz b (by omega))
        · intro b hb
          by_cases hb2 : b < D
          · exact (((((((((((nz b (by omega)).trans (n11 b (by omega) (by omega) (by omega))).trans (n10 b (by omega) (by omega) (by omega))).trans (n9 b (by omega) (by omega) (by omega))).trans (n8 b (by omega) (by omega) (by omega))).trans (n7 b (by omega) (by omega) (by omega))).trans (n6 b (by omega) (by omega) (by omega))).trans (n5 b (by omega) (by omega) (by omega))).trans (n4 b (by omega) (by omega) (by omega))).trans (n3 b (by omega) (by omega) (by omega))).trans (n2 b (by omega) (by omega) (by omega))).trans (n1 b (by omega) (by omega) (by omega))
          · exact absurd hb hb2
      · exact absurd c71 (by omega)
