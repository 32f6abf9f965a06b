def frP (W : Nat → eV) (e : Nat → Nat) (y i : Nat) : Bool := decide (ePr (W (e i)) = -1) && (eWith (W (e i)) (W y) && eAllR (W (e i)) (W y))
def frL (W : Nat → eV) (e : Nat → Nat) (n y : Nat) : Int32 := fndB (frP W e y) (n - 0) 0
def prL1 (e : Nat → Nat) : Nat → Nat → (Nat → eV) → (Nat → eV)
  | 0, _, U => U
  | d + 1, i, U => prL1 e d (i + 1) (va_up U (e i) (wPr (U (e i)) (-1)))
def prL2 (e u : Nat → Nat) (n : Nat) : Nat → Nat → (Nat → eV) → Nat → (Nat → eV) × Nat
  | 0, _, U, c => (U, c)
  | d + 1, j, U, c => if frL U e n (u j) = -1 then prL2 e u n d (j + 1) (va_up U (u j) (wPr (U (u j)) (frL U e n (u j)))) c
    else prL2 e u n d (j + 1) (va_up (va_up U (u j) (wPr (U (u j)) (frL U e n (u j)))) (e (frL U e n (u j)).toNatClampNeg) (wPr (va_up U (u j) (wPr (U (u j)) (frL U e n (u j))) (e (frL U e n (u j)).toNatClampNeg)) (nI j))) (c + 1)
def prW (W : Nat → eV) (v w : sV) : (Nat → eV) × Nat := prL2 v.1 w.1 v.2.2 (w.2.2 - 0) 0 (prL1 v.1 (v.2.2 - 0) 0 W) 0
theorem wPr_ok {v : eV} {x : Int32} (h : enOk v) : enOk (wPr v x) := h

set_option maxRecDepth 100000 in
set_option maxHeartbeats 4000000 in
/-- Sheet.firstFreeLike -/
theorem sX7_firstFreeLike {E : eN} (hE : eOk E) {f : aH} {t : Nat} {a y : Nat} {X : Nat → Prop} {W : Nat → eV} {v : sV} (h : seP f X W a v) (hv : shOk v) (hW : ∀ z, X z → enOk (W z)) (hX : ∀ i, i < 60 → X (v.1 i)) (hy : X y) : mT E mX7_firstFreeLike 0 0 [.ref a, .ref y] f t (fun o f' t' => o = .inl (some (.int (frL W v.1 v.2.2 y))) ∧ t' = t ∧ f' = f) := by
  refine mT_of (n := 2) (lo := [some (.ref a), some (.ref y), none, none]) (by decide) (by exact Nat.le_of_ble_eq_true rfl) rfl rfl ?_
  have k1 := hv.2
  obtain ⟨p0, p1, p2, p3, p4⟩ := id h.1
  have lp : ∀ (d : Nat) (i : Nat) (z : Option Value), i + d = v.2.2 → frL W v.1 v.2.2 y = fndB (frP W v.1 y) (v.2.2 - i) i → V E mX7_firstFreeLike 0 0 (fun o f' t' => o = .inl (some (.int (frL W v.1 v.2.2 y))) ∧ t' = t ∧ f' = f) 2 [some (.ref a), some (.ref y), some (.int (nI i)), z] [] f t 0 0 := by
    intro d
    induction d using Nat.strongRecOn with
    | _ d ih =>
    intro i z hi he
    refine v_iload_n dX7_firstFreeLike_2 rfl (by rfl) ?_
    refine v_aload_n dX7_firstFreeLike_3 rfl (by rfl) ?_
    refine v_getf hE dX7_firstFreeLike_4 fX7_27 (by repeat (first | assumption | exact va_up_self _ _ _ | refine (va_up_ne _ _ (by omega)).trans ?_)) (by rfl) ?_
    refine v_icmp_geN (tgt := 49) dX7_firstFreeLike_7 (by decide) (by omega) (by omega) (fun c7 => ?_) (fun c7 => ?_)
    · refine v_iconst (v := (-1)) dX7_firstFreeLike_49 (by decide) ?_
      refine v_iret dX7_firstFreeLike_50 rfl (by first | rfl | exact nar_bI) ?_
      refine ⟨congrArg (fun x => (Sum.inl (some (Value.int x)) : aO)) ?_, rfl, rfl⟩
      rw [he]
      first | exact (fndB_0 (by omega)).symm | exact (fndB_t (by omega) (by unfold frP; rw [decide_eq_true c22, c30, c38]; rfl)).symm
    · obtain ⟨x0, x1, x2, x3, x4, x5, x6⟩ := h.2 _ (hX i (by omega))
      refine v_aload_n dX7_firstFreeLike_10 rfl (by rfl) ?_
      refine v_getf hE dX7_firstFreeLike_11 fX7_11 (by repeat (first | assumption | exact va_up_self _ _ _ | refine (va_up_ne _ _ (by omega)).trans ?_)) (by rfl) ?_
      refine v_iload_n dX7_firstFreeLike_14 rfl (by rfl) ?_
      refine v_aaldC hE dX7_firstFreeLike_15 (by repeat (first | assumption | exact va_up_self _ _ _ | refine (va_up_ne _ _ (by omega)).trans ?_)) (by omega) ?_
      refine v_astore_n dX7_firstFreeLike_16 rfl (by decide) ?_
      refine v_aload_n dX7_firstFreeLike_17 rfl (by rfl) ?_
      refine v_getf hE dX7_firstFreeLike_18 fX7_93 (by repeat (first | assumption | exact va_up_self _ _ _ | refine (va_up_ne _ _ (by omega)).trans ?_)) (by rfl) ?_
      refine v_iconst (v := (-1)) dX7_firstFreeLike_21 (by decide) ?_
      refine v_icmp_ne (tgt := 43) dX7_firstFreeLike_22 (by decide) (fun c22 => ?_) (fun c22 => ?_)
      · refine v_iincN (y := 1) dX7_firstFreeLike_43 (by rfl) (by decide) (by decide) ?_
        refine v_goto (tgt := 2) dX7_firstFreeLike_46 (by decide) ?_
        exact ih (d - 1) (by omega) (i + 1) _ (by omega) (he.trans (fndB_s (by omega) (by unfold frP; first | (rw [decide_eq_false c22]; rfl) | (rw [c30, Bool.false_and, Bool.and_false]; done) | (rw [c38, Bool.and_false, Bool.and_false]; done))))
      · refine v_aload_n dX7_firstFreeLike_25 rfl (by rfl) ?_
        refine v_aload_n dX7_firstFreeLike_26 rfl (by rfl) ?_
        refine w_callV hE dX7_firstFreeLike_27 kX7_100 (by repeat (first | assumption | exact va_up_self _ _ _ | refine (va_up_ne _ _ (by omega)).trans ?_)) (by rfl) (by rfl) (sX0_standsWith hE (h.2 _ (hX i (by omega))) (hW _ (hX i (by omega))) (h.2 y hy) (hW y hy)) rfl (by decide) (by decide) (by exact Nat.le_of_ble_eq_true rfl) (by omega) (by omega) (fun v9 g9 u9 h9 => ?_) (fun _ _ _ h => by cases h.1)
        obtain ⟨hv9, hu9, hg9⟩ := h9
        replace hu9 := hu9.symm
        replace hg9 := hg9.symm
        subst hu9
        subst hg9
        cases hv9
        refine v_if_eqB (tgt := 43) dX7_firstFreeLike_30 (by decide) (fun c30 => ?_) (fun c30 => ?_)
        · refine v_iincN (y := 1) dX7_firstFreeLike_43 (by rfl) (by decide) (by decide) ?_
          refine v_goto (tgt := 2) dX7_firstFreeLike_46 (by decide) ?_
          exact ih (d - 1) (by omega) (i + 1) _ (by omega) (he.trans (fndB_s (by omega) (by unfold frP; first | (rw [decide_eq_false c22]; rfl) | (rw [c30, Bool.false_and, Bool.and_false]; done) | (rw [c38, Bool.and_false, Bool.and_false]; done))))
        · refine v_aload_n dX7_firstFreeLike_33 rfl (by rfl) ?_
          refine v_aload_n dX7_firstFreeLike_34 rfl (by rfl) ?_
          refine w_callV hE dX7_firstFreeLike_35 kX7_103 (by repeat (first | assumption | exact va_up_self _ _ _ | refine (va_up_ne _ _ (by omega)).trans ?_)) (by rfl) (by rfl) (sX0_hasAllRowsOf hE (h.2 _ (hX i (by omega))) (hW _ (hX i (by omega))) (h.2 y hy) (hW y hy)) rfl (by decide) (by decide) (by exact Nat.le_of_ble_eq_true rfl) (by omega) (by omega) (fun v9 g9 u9 h9 => ?_) (fun _ _ _ h => by cases h.1)
          obtain ⟨hv9, hu9, hg9⟩ := h9
          replace hu9 := hu9.symm
          replace hg9 := hg9.symm
          subst hu9
          subst hg9
          cases hv9
          refine v_if_eqB (tgt := 43) dX7_firstFreeLike_38 (by decide) (fun c38 => ?_) (fun c38 => ?_)
          · refine v_iincN (y := 1) dX7_firstFreeLike_43 (by rfl) (by decide) (by decide) ?_
            refine v_goto (tgt := 2) dX7_firstFreeLike_46 (by decide) ?_
            exact ih (d - 1) (by omega) (i + 1) _ (by omega) (he.trans (fndB_s (by omega) (by unfold frP; first | (rw [decide_eq_false c22]; rfl) | (rw [c30, Bool.false_and, Bool.and_false]; done) | (rw [c38, Bool.and_false, Bool.and_false]; done))))
          · refine v_iload_n dX7_firstFreeLike_41 rfl (by rfl) ?_
            refine v_iret dX7_firstFreeLike_42 rfl (by first | rfl | exact nar_bI) ?_
            refine ⟨congrArg (fun x => (Sum.inl (some (Value.int x)) : aO)) ?_, rfl, rfl⟩
            rw [he]
            first | exact (fndB_0 (by omega)).symm | exact (fndB_t (by omega) (by unfold frP; rw [decide_eq_true c22, c30, c38]; rfl)).symm
  refine v_iconst (v := nI 0) dX7_firstFreeLike_0 (by decide) ?_
  refine v_istore_n dX7_firstFreeLike_1 rfl (by decide) ?_
  exact lp v.2.2 0 none (by omega) rfl

set_option maxRecDepth 100000 in
set_option maxHeartbeats 4000000 in
/-- Sheet.pairWith -/
theorem sX7_pairWith {E : eN} (hE : eOk E) {f : aH} {t : Nat} {a b : Nat} {X : Nat → Prop} {W : Nat → eV} {v w : sV} (hA : seA X a) (h : seP f X W a v) (hv : shOk v) (hW : ∀ z, X z → enOk (W z)) (hX : ∀ i, i < 60 → X (v.1 i)) (hb : shP f b w) (hw : shOk w) (hAb : ∀ x, X x → x + 6 < b ∨ b + 4 < x) (hab : b + 4 < a ∨ a + 4 < b) (hXw : ∀ i, i < 60 → X (w.1 i)) (hdis : ∀ i j, i < 60 → j < 60 → v.1 i ≠ w.1 j) : mT E mX7_pairWith 0 0 [.ref a, .ref b] f t (fun o f' t' => o = .inl (some (.int (nI (prW W v w).2))) ∧ t' = t ∧ f' = seS f X (prW W v w).1 a v) := by
  refine mT_of (n := 3) (lo := [some (.ref a), some (.ref b), none, none, none]) (by decide) (by exact Nat.le_of_ble_eq_true rfl) rfl rfl ?_
  have k1 := hv.2
  have k2 := hw.2
  have l2 : ∀ (d : Nat) (j : Nat) (U : Nat → eV) (c : Nat) (z : Option Value), j + d = w.2.2 → c ≤ j → (∀ z, X z → enOk (U z)) → prW W v w = prL2 v.1 w.1 v.2.2 (w.2.2 - j) j U c → V E mX7_pairWith 0 0 (fun o f' t' => o = .inl (some (.int (nI (prW W v w).2))) ∧ t' = t ∧ f' = seS f X (prW W v w).1 a v) 30 [some (.ref a), some (.ref b), some (.int (nI c)), some (.int (nI j)), z] [] (seS f X U a v) t 0 0 := by
    intro d
    induction d using Nat.strongRecOn with
    | _ d ih =>
    intro j U c z hj hc hU he
    obtain ⟨p0, p1, p2, p3, p4⟩ := (seP_S (f := f) (W := U) (v := v) hA).1
    obtain ⟨q0, q1, q2, q3, q4⟩ := sh_seS (W := U) (v := v) hb hAb hab
    refine v_iload_n dX7_pairWith_30 rfl (by rfl) ?_
    refine v_aload_n dX7_pairWith_31 rfl (by rfl) ?_
    refine v_getf hE dX7_pairWith_32 fX7_27 (by repeat (first | assumption | exact va_up_self _ _ _ | refine (va_up_ne _ _ (by omega)).trans ?_)) (by rfl) ?_
    refine v_icmp_geN (tgt := 87) dX7_pairWith_35 (by decide) (by omega) (by omega) (fun c35 => ?_) (fun c35 => ?_)
    · refine v_iload_n dX7_pairWith_87 rfl (by rfl) ?_
      refine v_iret dX7_pairWith_88 rfl (by first | rfl | exact nar_bI) ?_
      refine ⟨congrArg (fun x => (Sum.inl (some (Value.int x)) : aO)) ?_, rfl, ?_⟩ <;> (rw [he, show w.2.2 - j = 0 by omega]; rfl)
    · obtain ⟨x0, x1, x2, x3, x4, x5, x6⟩ := (seP_S (f := f) (W := U) (v := v) hA).2 _ (hXw j (by omega))
      refine v_aload_n dX7_pairWith_38 rfl (by rfl) ?_
      refine v_aload_n dX7_pairWith_39 rfl (by rfl) ?_
      refine v_getf hE dX7_pairWith_40 fX7_11 (by repeat (first | assumption | exact va_up_self _ _ _ | refine (va_up_ne _ _ (by omega)).trans ?_)) (by rfl) ?_
      refine v_iload_n dX7_pairWith_43 rfl (by rfl) ?_
      refine v_aaldC hE dX7_pairWith_44 (by repeat (first | assumption | exact va_up_self _ _ _ | refine (va_up_ne _ _ (by omega)).trans ?_)) (by omega) ?_
      refine w_callV hE dX7_pairWith_45 kX7_96 (by repeat (first | assumption | exact va_up_self _ _ _ | refine (va_up_ne _ _ (by omega)).trans ?_)) (by rfl) (by rfl) (sX7_firstFreeLike hE (seP_S hA) hv hU hX (hXw j (by omega))) rfl (by decide) (by decide) (by exact Nat.le_of_ble_eq_true rfl) (by omega) (by omega) (fun v9 g9 u9 h9 => ?_) (fun _ _ _ h => by cases h.1)
      obtain ⟨hv9, hu9, hg9⟩ := h9
      replace hu9 := hu9.symm
      replace hg9 := hg9.symm
      subst hu9
      subst hg9
      cases hv9
      refine v_istore dX7_pairWith_48 (by decide) ?_
      refine v_aload_n dX7_pairWith_50 rfl (by rfl) ?_
      refine v_getf hE dX7_pairWith_51 fX7_11 (by repeat (first | assumption | exact va_up_self _ _ _ | refine (va_up_ne _ _ (by omega)).trans ?_)) (by rfl) ?_
      refine v_iload_n dX7_pairWith_54 rfl (by rfl) ?_
      refine v_aaldC hE dX7_pairWith_55 (by repeat (first | assumption | exact va_up_self _ _ _ | refine (va_up_ne _ _ (by omega)).trans ?_)) (by omega) ?_
      refine v_iload dX7_pairWith_56 (by rfl) ?_
      refine v_putf hE dX7_pairWith_58 fX7_93 (by repeat (first | assumption | exact va_up_self _ _ _ | refine (va_up_ne _ _ (by omega)).trans ?_)) (by exact Nat.le_of_ble_eq_true rfl) (by rfl) (by rfl) (by rfl) ?_
      refine v_hp (show _ = enS (seS f X U a v) (w.1 j) (wPr (U (w.1 j)) (frL U v.1 v.2.2 (w.1 j))) from enS_ext (by repeat (first | assumption | exact va_up_self _ _ _ | refine (va_up_ne _ _ (by omega)).trans ?_)) (by repeat (first | assumption | exact va_up_self _ _ _ | refine (va_up_ne _ _ (by omega)).trans ?_)) (by repeat (first | assumption | exact va_up_self _ _ _ | refine (va_up_ne _ _ (by omega)).trans ?_)) (by repeat (first | assumption | exact va_up_self _ _ _ | refine (va_up_ne _ _ (by omega)).trans ?_)) (by repeat (first | assumption | exact va_up_self _ _ _ | refine (va_up_ne _ _ (by omega)).trans ?_)) (by repeat (first | assumption | exact va_up_self _ _ _ | refine (va_up_ne _ _ (by omega)).trans ?_)) (by repeat (first | assumption | exact va_up_self _ _ _ | refine (va_up_ne _ _ (by omega)).trans ?_)) (fun b hb => va_up_ne _ _ (by omega))) ?_
      refine v_hp (seS_up hA (hXw j (by omega))) ?_
      obtain ⟨r0, r1, r2, r3, r4⟩ := (seP_S (f := f) (W := (va_up U (w.1 j) (wPr (U (w.1 j)) (frL U v.1 v.2.2 (w.1 j))))) (v := v) hA).1
      refine v_iload dX7_pairWith_61 (by rfl) ?_
      refine v_iconst (v := (-1)) dX7_pairWith_63 (by decide) ?_
      refine v_icmp_eq (tgt := 81) dX7_pairWith_64 (by decide) (fun c64 => ?_) (fun c64 => ?_)
      · refine v_iincN (y := 1) dX7_pairWith_81 (by rfl) (by decide) (by decide) ?_
        refine v_goto (tgt := 30) dX7_pairWith_84 (by decide) ?_
        exact ih (d - 1) (by omega) (j + 1) _ _ _ (by omega) (by omega) (upW_ok hU (wPr_ok (hU _ (hXw j (by omega))))) (he.trans (by rw [show w.2.2 - j = (w.2.2 - (j + 1)) + 1 by omega]; show (if _ then _ else _) = _; exact if_pos c64))
      · obtain ⟨q, hq1, hq2, hq3, hq4⟩ := fndB_r _ _ c64
        change frL U v.1 v.2.2 (w.1 j) = nI q at hq3
        obtain ⟨s0, s1, s2, s3, s4, s5, s6⟩ := (seP_S (f := f) (W := (va_up U (w.1 j) (wPr (U (w.1 j)) (frL U v.1 v.2.2 (w.1 j))))) (v := v) hA).2 _ (hX q (by omega))
        refine v_aload_n dX7_pairWith_67 rfl (by rfl) ?_
        refine v_getf hE dX7_pairWith_68 fX7_11 (by repeat (first | assumption | exact va_up_self _ _ _ | refine (va_up_ne _ _ (by omega)).trans ?_)) (by rfl) ?_
        refine v_iload dX7_pairWith_71 (by rfl) ?_
        refine v_eqi hq3 ?_
        refine v_aaldC hE dX7_pairWith_73 (by repeat (first | assumption | exact va_up_self _ _ _ | refine (va_up_ne _ _ (by omega)).trans ?_)) (by omega) ?_
        refine v_iload_n dX7_pairWith_74 rfl (by rfl) ?_
        refine v_putf hE dX7_pairWith_75 fX7_93 (by repeat (first | assumption | exact va_up_self _ _ _ | refine (va_up_ne _ _ (by omega)).trans ?_)) (by exact Nat.le_of_ble_eq_true rfl) (by rfl) (by rfl) (by rfl) ?_
        refine v_hp (show _ = enS (seS f X (va_up U (w.1 j) (wPr (U (w.1 j)) (frL U v.1 v.2.2 (w.1 j)))) a v) (v.1 q) (wPr ((va_up U (w.1 j) (wPr (U (w.1 j)) (frL U v.1 v.2.2 (w.1 j)))) (v.1 q)) (nI j)) from enS_ext (by repeat (first | assumption | exact va_up_self _ _ _ | refine (va_up_ne _ _ (by omega)).trans ?_)) (by repeat (first | assumption | exact va_up_self _ _ _ | refine (va_up_ne _ _ (by omega)).trans ?_)) (by repeat (first | assumption | exact va_up_self _ _ _ | refine (va_up_ne _ _ (by omega)).trans ?_)) (by repeat (first | assumption | exact va_up_self _ _ _ | refine (va_up_ne _ _ (by omega)).trans ?_)) (by repeat (first | assumption | exact va_up_self _ _ _ | refine (va_up_ne _ _ (by omega)).trans ?_)) (by repeat (first | assumption | exact va_up_self _ _ _ | refine (va_up_ne _ _ (by omega)).trans ?_)) (by repeat (first | assumption | exact va_up_self _ _ _ | refine (va_up_ne _ _ (by omega)).trans ?_)) (fun b hb => va_up_ne _ _ (by omega))) ?_
        refine v_hp (seS_up hA (hX q (by omega))) ?_
        refine v_iincN (y := 1) dX7_pairWith_78 (by rfl) (by decide) (by decide) ?_
        refine v_iincN (y := 1) dX7_pairWith_81 (by rfl) (by decide) (by decide) ?_
        refine v_goto (tgt := 30) dX7_pairWith_84 (by decide) ?_
        exact ih (d - 1) (by omega) (j + 1) _ _ _ (by omega) (by omega) (upW_ok (upW_ok hU (wPr_ok (hU _ (hXw j (by omega))))) (wPr_ok (upW_ok hU (wPr_ok (hU _ (hXw j (by omega)))) _ (hX q (by omega))))) (he.trans (by rw [show w.2.2 - j = (w.2.2 - (j + 1)) + 1 by omega]; show (if _ then _ else _) = _; rw [if_neg c64, hq3, nI_clamp (by omega)]))
  have l1 : ∀ (d : Nat) (i : Nat) (U : Nat → eV), i + d = v.2.2 → (∀ z, X z → enOk (U z)) → prL1 v.1 (v.2.2 - 0) 0 W = prL1 v.1 (v.2.2 - i) i U → V E mX7_pairWith 0 0 (fun o f' t' => o = .inl (some (.int (nI (prW W v w).2))) ∧ t' = t ∧ f' = seS f X (prW W v w).1 a v) 2 [some (.ref a), some (.ref b), some (.int (nI i)), none, none] [] (seS f X U a v) t 0 0 := by
    intro d
    induction d using Nat.strongRecOn with
    | _ d ih =>
    intro i U hi hU he
    obtain ⟨p0, p1, p2, p3, p4⟩ := (seP_S (f := f) (W := U) (v := v) hA).1
    obtain ⟨q0, q1, q2, q3, q4⟩ := sh_seS (W := U) (v := v) hb hAb hab
    refine v_iload_n dX7_pairWith_2 rfl (by rfl) ?_
    refine v_aload_n dX7_pairWith_3 rfl (by rfl) ?_
    refine v_getf hE dX7_pairWith_4 fX7_27 (by repeat (first | assumption | exact va_up_self _ _ _ | refine (va_up_ne _ _ (by omega)).trans ?_)) (by rfl) ?_
    refine v_icmp_geN (tgt := 26) dX7_pairWith_7 (by decide) (by omega) (by omega) (fun c7 => ?_) (fun c7 => ?_)
    · refine v_iconst (v := nI 0) dX7_pairWith_26 (by decide) ?_
      refine v_istore_n dX7_pairWith_27 rfl (by decide) ?_
      refine v_iconst (v := nI 0) dX7_pairWith_28 (by decide) ?_
      refine v_istore_n dX7_pairWith_29 rfl (by decide) ?_
      exact l2 w.2.2 0 U 0 none (by omega) (by omega) hU (by unfold prW; rw [he, show v.2.2 - i = 0 by omega]; rfl)
    · obtain ⟨x0, x1, x2, x3, x4, x5, x6⟩ := (seP_S (f := f) (W := U) (v := v) hA).2 _ (hX i (by omega))
      refine v_aload_n dX7_pairWith_10 rfl (by rfl) ?_
      refine v_getf hE dX7_pairWith_11 fX7_11 (by repeat (first | assumption | exact va_up_self _ _ _ | refine (va_up_ne _ _ (by omega)).trans ?_)) (by rfl) ?_
      refine v_iload_n dX7_pairWith_14 rfl (by rfl) ?_
      refine v_aaldC hE dX7_pairWith_15 (by repeat (first | assumption | exact va_up_self _ _ _ | refine (va_up_ne _ _ (by omega)).trans ?_)) (by omega) ?_
      refine v_iconst (v := (-1)) dX7_pairWith_16 (by decide) ?_
      refine v_putf hE dX7_pairWith_17 fX7_93 (by repeat (first | assumption | exact va_up_self _ _ _ | refine (va_up_ne _ _ (by omega)).trans ?_)) (by exact Nat.le_of_ble_eq_true rfl) (by rfl) (by rfl) (by rfl) ?_
      refine v_hp (show _ = enS (seS f X U a v) (v.1 i) (wPr (U (v.1 i)) (-1)) from enS_ext (by repeat (first | assumption | exact va_up_self _ _ _ | refine (va_up_ne _ _ (by omega)).trans ?_)) (by repeat (first | assumption | exact va_up_self _ _ _ | refine (va_up_ne _ _ (by omega)).trans ?_)) (by repeat (first | assumption | exact va_up_self _ _ _ | refine (va_up_ne _ _ (by omega)).trans ?_)) (by repeat (first | assumption | exact va_up_self _ _ _ | refine (va_up_ne _ _ (by omega)).trans ?_)) (by repeat (first | assumption | exact va_up_self _ _ _ | refine (va_up_ne _ _ (by omega)).trans ?_)) (by repeat (first | assumption | exact va_up_self _ _ _ | refine (va_up_ne _ _ (by omega)).trans ?_)) (by repeat (first | assumption | exact va_up_self _ _ _ | refine (va_up_ne _ _ (by omega)).trans ?_)) (fun b hb => va_up_ne _ _ (by omega))) ?_
      refine v_hp (seS_up hA (hX i (by omega))) ?_
      refine v_iincN (y := 1) dX7_pairWith_20 (by rfl) (by decide) (by decide) ?_
      refine v_goto (tgt := 2) dX7_pairWith_23 (by decide) ?_
      exact ih (d - 1) (by omega) (i + 1) _ (by omega) (upW_ok hU (wPr_ok (hU _ (hX i (by omega))))) (he.trans (by rw [show v.2.2 - i = (v.2.2 - (i + 1)) + 1 by omega]; rfl))
  refine v_hp (seS_id hA h).symm ?_
  refine v_iconst (v := nI 0) dX7_pairWith_0 (by decide) ?_
  refine v_istore_n dX7_pairWith_1 rfl (by decide) ?_
  exact l1 v.2.2 0 W (by omega) hW rfl
