theorem gnP_ne {f : aH} {a c : Nat} {e : aC} {g : gV} (h : gnP f c g) (hd : a < c ∨ c + 8 < a) : gnP (va_up f a e) c g := by
  obtain ⟨h0, h1, h2, h3, h4, h5, h6, h7, h8⟩ := h
  refine ⟨?_, ?_, ?_, ?_, ?_, ?_, ?_, ?_, ?_⟩ <;> (rw [va_up_ne _ _ (by omega)]; assumption)
set_option maxRecDepth 100000 in
set_option maxHeartbeats 4000000 in
/-- GenomeReader.endLetterLine -/
theorem sX2_endLetterLine {E : eN} (hE : eOk E) {f : aH} {t : Nat} {a c tp : Nat} {v : rV} {g : gV} (h : rgP tp c f a v g) (hg : gOk g) (hb : rB v) (hd : a < c ∨ c + 8 < a) (hc : 0 < gCt g) : mT E mX2_endLetterLine 0 0 [.ref a] f t (fun o f' t' => o = .inl none ∧ t' = t ∧ f' = rgS tp c f a (rEndL v g).1 (rEndL v g).2) := by
  refine mT_of (n := 0) (lo := [some (.ref a)]) (by decide) (by exact Nat.le_of_ble_eq_true rfl) rfl rfl ?_
  obtain ⟨h9, h0, h1, h2, h3, h4, h5, h6, h7, h8⟩ := id h
  obtain ⟨⟨k0, k1, k2⟩, k3, k4, k5⟩ := id hg
  obtain ⟨b0, b1, b2, b3, b4, b5, b6, b7, b8⟩ := id hb
  refine v_aload_n dX2_endLetterLine_0 rfl (by rfl) ?_
  refine v_getf hE dX2_endLetterLine_1 fX2_106 (by repeat (first | assumption | exact va_up_self _ _ _ | refine (va_up_ne _ _ (by omega)).trans ?_)) (by rfl) ?_
  refine v_if_neN (tgt := 26) dX2_endLetterLine_4 (by decide) (by omega) (fun c4 => ?_) (fun c4 => ?_)
  · refine v_aload_n dX2_endLetterLine_26 rfl (by rfl) ?_
    refine v_aload_n dX2_endLetterLine_27 rfl (by rfl) ?_
    refine v_getf hE dX2_endLetterLine_28 fX2_109 (by repeat (first | assumption | exact va_up_self _ _ _ | refine (va_up_ne _ _ (by omega)).trans ?_)) (by rfl) ?_
    refine v_putf hE dX2_endLetterLine_31 fX2_112 (by repeat (first | assumption | exact va_up_self _ _ _ | refine (va_up_ne _ _ (by omega)).trans ?_)) (by exact Nat.le_of_ble_eq_true rfl) (by rfl) (by rfl) (by rfl) ?_
    refine v_aload_n dX2_endLetterLine_34 rfl (by rfl) ?_
    refine v_iconst (v := nI 0) dX2_endLetterLine_35 (by decide) ?_
    refine v_putf hE dX2_endLetterLine_36 fX2_109 (by repeat (first | assumption | exact va_up_self _ _ _ | refine (va_up_ne _ _ (by omega)).trans ?_)) (by exact Nat.le_of_ble_eq_true rfl) (by rfl) (by rfl) (by rfl) ?_
    refine v_aload_n dX2_endLetterLine_39 rfl (by rfl) ?_
    refine v_iconst (v := nI 5) dX2_endLetterLine_40 (by decide) ?_
    refine v_putf hE dX2_endLetterLine_41 fX2_19 (by repeat (first | assumption | exact va_up_self _ _ _ | refine (va_up_ne _ _ (by omega)).trans ?_)) (by exact Nat.le_of_ble_eq_true rfl) (by rfl) (by rfl) (by rfl) ?_
    refine v_ret dX2_endLetterLine_44 rfl ?_
    refine ⟨rfl, rfl, ?_⟩
    unfold rEndL
    first | (rw [if_pos (by assumption)]; exact rgS_ext hd (by repeat (first | assumption | exact va_up_self _ _ _ | refine (va_up_ne _ _ (by omega)).trans ?_)) ⟨(by repeat (first | assumption | exact va_up_self _ _ _ | refine (va_up_ne _ _ (by omega)).trans ?_)), (by repeat (first | assumption | exact va_up_self _ _ _ | refine (va_up_ne _ _ (by omega)).trans ?_)), (by repeat (first | assumption | exact va_up_self _ _ _ | refine (va_up_ne _ _ (by omega)).trans ?_)), (by repeat (first | assumption | exact va_up_self _ _ _ | refine (va_up_ne _ _ (by omega)).trans ?_)), (by repeat (first | assumption | exact va_up_self _ _ _ | refine (va_up_ne _ _ (by omega)).trans ?_)), (by repeat (first | assumption | exact va_up_self _ _ _ | refine (va_up_ne _ _ (by omega)).trans ?_)), (by repeat (first | assumption | exact va_up_self _ _ _ | refine (va_up_ne _ _ (by omega)).trans ?_)), (by repeat (first | assumption | exact va_up_self _ _ _ | refine (va_up_ne _ _ (by omega)).trans ?_)), (by repeat (first | assumption | exact va_up_self _ _ _ | refine (va_up_ne _ _ (by omega)).trans ?_))⟩ (fun b h1 h2 => by simp only [va_up]; (repeat rw [if_neg (by omega)]); exact rgS_ne h1 h2)) | (rw [if_neg (by assumption)]; exact rgS_ext hd (by repeat (first | assumption | exact va_up_self _ _ _ | refine (va_up_ne _ _ (by omega)).trans ?_)) ⟨(by repeat (first | assumption | exact va_up_self _ _ _ | refine (va_up_ne _ _ (by omega)).trans ?_)), (by repeat (first | assumption | exact va_up_self _ _ _ | refine (va_up_ne _ _ (by omega)).trans ?_)), (by repeat (first | assumption | exact va_up_self _ _ _ | refine (va_up_ne _ _ (by omega)).trans ?_)), (by repeat (first | assumption | exact va_up_self _ _ _ | refine (va_up_ne _ _ (by omega)).trans ?_)), (by repeat (first | assumption | exact va_up_self _ _ _ | refine (va_up_ne _ _ (by omega)).trans ?_)), (by repeat (first | assumption | exact va_up_self _ _ _ | refine (va_up_ne _ _ (by omega)).trans ?_)), (by repeat (first | assumption | exact va_up_self _ _ _ | refine (va_up_ne _ _ (by omega)).trans ?_)), (by repeat (first | assumption | exact va_up_self _ _ _ | refine (va_up_ne _ _ (by omega)).trans ?_)), (by repeat (first | assumption | exact va_up_self _ _ _ | refine (va_up_ne _ _ (by omega)).trans ?_))⟩ (fun b h1 h2 => by simp only [va_up]; (repeat rw [if_neg (by omega)])))
  · refine v_aload_n dX2_endLetterLine_7 rfl (by rfl) ?_
    refine v_aload_n dX2_endLetterLine_8 rfl (by rfl) ?_
    refine v_getf hE dX2_endLetterLine_9 fX2_109 (by repeat (first | assumption | exact va_up_self _ _ _ | refine (va_up_ne _ _ (by omega)).trans ?_)) (by rfl) ?_
    refine v_putf hE dX2_endLetterLine_12 fX2_106 (by repeat (first | assumption | exact va_up_self _ _ _ | refine (va_up_ne _ _ (by omega)).trans ?_)) (by exact Nat.le_of_ble_eq_true rfl) (by rfl) (by rfl) (by rfl) ?_
    refine v_aload_n dX2_endLetterLine_15 rfl (by rfl) ?_
    refine v_getf hE dX2_endLetterLine_16 fX2_15 (by repeat (first | assumption | exact va_up_self _ _ _ | refine (va_up_ne _ _ (by omega)).trans ?_)) (by rfl) ?_
    refine v_aload_n dX2_endLetterLine_19 rfl (by rfl) ?_
    refine v_getf hE dX2_endLetterLine_20 fX2_106 (by repeat (first | assumption | exact va_up_self _ _ _ | refine (va_up_ne _ _ (by omega)).trans ?_)) (by rfl) ?_
    refine w_callV hE dX2_endLetterLine_23 kX2_118 (by repeat (first | assumption | exact va_up_self _ _ _ | refine (va_up_ne _ _ (by omega)).trans ?_)) (by rfl) (by rfl) (sX1_setWidth hE (gnP_ne h.2 hd) hg hc) rfl (by decide) (by decide) (by exact Nat.le_of_ble_eq_true rfl) (by omega) (by omega) (fun v9 g9 u9 h9 => ?_) (fun _ _ _ h => by cases h.1)
    obtain ⟨hv9, hu9, hg9⟩ := h9
    replace hu9 := hu9.symm
    replace hg9 := hg9.symm
    subst hu9
    subst hg9
    cases hv9
    refine v_hp (show _ = rgS tp c f a (pWi v (rLs v)) (gnWidth g (rLs v)) from (congrArg (fun z => gnS z c (gnWidth g (rLs v))) (rg_v (w := pWi v (rLs v)) hd h)).trans ((rg_g hd (rgP_S hd)).trans (rgS_S hd))) ?_
    have z0 := (rgP_S (f := f) (a := a) (tp := tp) (v := pWi v (rLs v)) (g := gnWidth g (rLs v)) hd).1
    obtain ⟨z1, z2, z3, z4, z5, z6, z7, z8, z9⟩ := (rgP_S (f := f) (a := a) (tp := tp) (v := pWi v (rLs v)) (g := gnWidth g (rLs v)) hd).2
    refine v_aload_n dX2_endLetterLine_26 rfl (by rfl) ?_
    refine v_aload_n dX2_endLetterLine_27 rfl (by rfl) ?_
    refine v_getf hE dX2_endLetterLine_28 fX2_109 (by repeat (first | assumption | exact va_up_self _ _ _ | refine (va_up_ne _ _ (by omega)).trans ?_)) (by rfl) ?_
    refine v_putf hE dX2_endLetterLine_31 fX2_112 (by repeat (first | assumption | exact va_up_self _ _ _ | refine (va_up_ne _ _ (by omega)).trans ?_)) (by exact Nat.le_of_ble_eq_true rfl) (by rfl) (by rfl) (by rfl) ?_
    refine v_aload_n dX2_endLetterLine_34 rfl (by rfl) ?_
    refine v_iconst (v := nI 0) dX2_endLetterLine_35 (by decide) ?_
    refine v_putf hE dX2_endLetterLine_36 fX2_109 (by repeat (first | assumption | exact va_up_self _ _ _ | refine (va_up_ne _ _ (by omega)).trans ?_)) (by exact Nat.le_of_ble_eq_true rfl) (by rfl) (by rfl) (by rfl) ?_
    refine v_aload_n dX2_endLetterLine_39 rfl (by rfl) ?_
    refine v_iconst (v := nI 5) dX2_endLetterLine_40 (by decide) ?_
    refine v_putf hE dX2_endLetterLine_41 fX2_19 (by repeat (first | assumption | exact va_up_self _ _ _ | refine (va_up_ne _ _ (by omega)).trans ?_)) (by exact Nat.le_of_ble_eq_true rfl) (by rfl) (by rfl) (by rfl) ?_
    refine v_ret dX2_endLetterLine_44 rfl ?_
    refine ⟨rfl, rfl, ?_⟩
    unfold rEndL
    first | (rw [if_pos (by assumption)]; exact rgS_ext hd (by repeat (first | assumption | exact va_up_self _ _ _ | refine (va_up_ne _ _ (by omega)).trans ?_)) ⟨(by repeat (first | assumption | exact va_up_self _ _ _ | refine (va_up_ne _ _ (by omega)).trans ?_)), (by repeat (first | assumption | exact va_up_self _ _ _ | refine (va_up_ne _ _ (by omega)).trans ?_)), (by repeat (first | assumption | exact va_up_self _ _ _ | refine (va_up_ne _ _ (by omega)).trans ?_)), (by repeat (first | assumption | exact va_up_self _ _ _ | refine (va_up_ne _ _ (by omega)).trans ?_)), (by repeat (first | assumption | exact va_up_self _ _ _ | refine (va_up_ne _ _ (by omega)).trans ?_)), (by repeat (first | assumption | exact va_up_self _ _ _ | refine (va_up_ne _ _ (by omega)).trans ?_)), (by repeat (first | assumption | exact va_up_self _ _ _ | refine (va_up_ne _ _ (by omega)).trans ?_)), (by repeat (first | assumption | exact va_up_self _ _ _ | refine (va_up_ne _ _ (by omega)).trans ?_)), (by repeat (first | assumption | exact va_up_self _ _ _ | refine (va_up_ne _ _ (by omega)).trans ?_))⟩ (fun b h1 h2 => by simp only [va_up]; (repeat rw [if_neg (by omega)]); exact rgS_ne h1 h2)) | (rw [if_neg (by assumption)]; exact rgS_ext hd (by repeat (first | assumption | exact va_up_self _ _ _ | refine (va_up_ne _ _ (by omega)).trans ?_)) ⟨(by repeat (first | assumption | exact va_up_self _ _ _ | refine (va_up_ne _ _ (by omega)).trans ?_)), (by repeat (first | assumption | exact va_up_self _ _ _ | refine (va_up_ne _ _ (by omega)).trans ?_)), (by repeat (first | assumption | exact va_up_self _ _ _ | refine (va_up_ne _ _ (by omega)).trans ?_)), (by repeat (first | assumption | exact va_up_self _ _ _ | refine (va_up_ne _ _ (by omega)).trans ?_)), (by repeat (first | assumption | exact va_up_self _ _ _ | refine (va_up_ne _ _ (by omega)).trans ?_)), (by repeat (first | assumption | exact va_up_self _ _ _ | refine (va_up_ne _ _ (by omega)).trans ?_)), (by repeat (first | assumption | exact va_up_self _ _ _ | refine (va_up_ne _ _ (by omega)).trans ?_)), (by repeat (first | assumption | exact va_up_self _ _ _ | refine (va_up_ne _ _ (by omega)).trans ?_)), (by repeat (first | assumption | exact va_up_self _ _ _ | refine (va_up_ne _ _ (by omega)).trans ?_))⟩ (fun b h1 h2 => by simp only [va_up]; (repeat rw [if_neg (by omega)])))

set_option maxRecDepth 100000 in
set_option maxHeartbeats 4000000 in
/-- GenomeReader: one more sequence -/
theorem sX2_openSequence {E : eN} (hE : eOk E) {f : aH} {t : Nat} {a c tp : Nat} {v : rV} {g : gV} (h : rgP tp c f a v g) (hg : gOk g) (hb : rB v) (hd : a < c ∨ c + 8 < a) : mT E mX2_openSequence 0 0 [.ref a] f t (fun o f' t' => o = .inl (some (.int (bI (rOpen v g).1))) ∧ t' = t ∧ f' = rgS tp c f a (rOpen v g).2.1 (rOpen v g).2.2) := by
  refine mT_of (n := 0) (lo := [some (.ref a)]) (by decide) (by exact Nat.le_of_ble_eq_true rfl) rfl rfl ?_
  obtain ⟨h9, h0, h1, h2, h3, h4, h5, h6, h7, h8⟩ := id h
  obtain ⟨⟨k0, k1, k2⟩, k3, k4, k5⟩ := id hg
  obtain ⟨b0, b1, b2, b3, b4, b5, b6, b7, b8⟩ := id hb
  refine v_aload_n dX2_openSequence_0 rfl (by rfl) ?_
  refine v_getf hE dX2_openSequence_1 fX2_15 (by repeat (first | assumption | exact va_up_self _ _ _ | refine (va_up_ne _ _ (by omega)).trans ?_)) (by rfl) ?_
  refine v_getf hE dX2_openSequence_4 fX2_74 (by repeat (first | assumption | exact va_up_self _ _ _ | refine (va_up_ne _ _ (by omega)).trans ?_)) (by rfl) ?_
  refine v_bipush (v := nI 8) dX2_openSequence_7 (by decide) ?_
  refine v_icmp_neN (tgt := 18) dX2_openSequence_9 (by decide) (by omega) (by omega) (fun c9 => ?_) (fun c9 => ?_)
  · refine v_aload_n dX2_openSequence_18 rfl (by rfl) ?_
    refine v_getf hE dX2_openSequence_19 fX2_15 (by repeat (first | assumption | exact va_up_self _ _ _ | refine (va_up_ne _ _ (by omega)).trans ?_)) (by rfl) ?_
    refine w_callV hE dX2_openSequence_22 kX2_77 (by repeat (first | assumption | exact va_up_self _ _ _ | refine (va_up_ne _ _ (by omega)).trans ?_)) (by rfl) (by rfl) (sX1_open hE h.2 hg) rfl (by decide) (by decide) (by exact Nat.le_of_ble_eq_true rfl) (by omega) (by omega) (fun v9 g9 u9 h9 => ?_) (fun _ _ _ h => by cases h.1)
    obtain ⟨hv9, hu9, hg9⟩ := h9
    replace hu9 := hu9.symm
    replace hg9 := hg9.symm
    subst hu9
    subst hg9
    cases hv9
    refine v_hp (rg_g hd h) ?_
    have z0 := (rgP_S (f := f) (a := a) (tp := tp) (v := v) (g := gnOpen g) hd).1
    obtain ⟨z1, z2, z3, z4, z5, z6, z7, z8, z9⟩ := (rgP_S (f := f) (a := a) (tp := tp) (v := v) (g := gnOpen g) hd).2
    refine v_aload_n dX2_openSequence_25 rfl (by rfl) ?_
    refine v_iconst (v := nI 0) dX2_openSequence_26 (by decide) ?_
    refine v_putf hE dX2_openSequence_27 fX2_80 (by repeat (first | assumption | exact va_up_self _ _ _ | refine (va_up_ne _ _ (by omega)).trans ?_)) (by exact Nat.le_of_ble_eq_true rfl) (by rfl) (by rfl) (by rfl) ?_
    refine v_aload_n dX2_openSequence_30 rfl (by rfl) ?_
    refine v_aload_n dX2_openSequence_31 rfl (by rfl) ?_
    refine v_getf hE dX2_openSequence_32 fX2_33 (by repeat (first | assumption | exact va_up_self _ _ _ | refine (va_up_ne _ _ (by omega)).trans ?_)) (by rfl) ?_
    refine v_iconst (v := nI 1) dX2_openSequence_35 (by decide) ?_
    refine v_iaddN dX2_openSequence_36 ?_
    refine v_putf hE dX2_openSequence_37 fX2_83 (by repeat (first | assumption | exact va_up_self _ _ _ | refine (va_up_ne _ _ (by omega)).trans ?_)) (by exact Nat.le_of_ble_eq_true rfl) (by rfl) (by rfl) (by rfl) ?_
    refine v_aload_n dX2_openSequence_40 rfl (by rfl) ?_
    refine v_iconst (v := nI 1) dX2_openSequence_41 (by decide) ?_
    refine v_putf hE dX2_openSequence_42 fX2_19 (by repeat (first | assumption | exact va_up_self _ _ _ | refine (va_up_ne _ _ (by omega)).trans ?_)) (by exact Nat.le_of_ble_eq_true rfl) (by rfl) (by rfl) (by rfl) ?_
    refine v_iconst (v := nI 1) dX2_openSequence_45 (by decide) ?_
    refine v_iret dX2_openSequence_46 rfl (by rfl) ?_
    unfold rOpen
    first | (rw [if_pos (by assumption)]; exact ⟨rfl, rfl, rfl⟩) | (rw [if_neg (by assumption)]; exact ⟨rfl, rfl, rgS_ext hd (by repeat (first | assumption | exact va_up_self _ _ _ | refine (va_up_ne _ _ (by omega)).trans ?_)) ⟨(by repeat (first | assumption | exact va_up_self _ _ _ | refine (va_up_ne _ _ (by omega)).trans ?_)), (by repeat (first | assumption | exact va_up_self _ _ _ | refine (va_up_ne _ _ (by omega)).trans ?_)), (by repeat (first | assumption | exact va_up_self _ _ _ | refine (va_up_ne _ _ (by omega)).trans ?_)), (by repeat (first | assumption | exact va_up_self _ _ _ | refine (va_up_ne _ _ (by omega)).trans ?_)), (by repeat (first | assumption | exact va_up_self _ _ _ | refine (va_up_ne _ _ (by omega)).trans ?_)), (by repeat (first | assumption | exact va_up_self _ _ _ | refine (va_up_ne _ _ (by omega)).trans ?_)), (by repeat (first | assumption | exact va_up_self _ _ _ | refine (va_up_ne _ _ (by omega)).trans ?_)), (by repeat (first | assumption | exact va_up_self _ _ _ | refine (va_up_ne _ _ (by omega)).trans ?_)), (by repeat (first | assumption | exact va_up_self _ _ _ | refine (va_up_ne _ _ (by omega)).trans ?_))⟩ (fun b h1 h2 => by simp only [va_up]; (repeat rw [if_neg (by omega)]); exact rgS_ne h1 h2)⟩)
  · refine v_aload_n dX2_openSequence_12 rfl (by rfl) ?_
    refine v_iconst (v := nI 3) dX2_openSequence_13 (by decide) ?_
    refine w_callV hE dX2_openSequence_14 kX2_43 (by repeat (first | assumption | exact va_up_self _ _ _ | refine (va_up_ne _ _ (by omega)).trans ?_)) (by rfl) (by rfl) (sX2_fail hE h hg hb hd) rfl (by decide) (by decide) (by exact Nat.le_of_ble_eq_true rfl) (by omega) (by omega) (fun v9 g9 u9 h9 => ?_) (fun _ _ _ h => by cases h.1)
    obtain ⟨hv9, hu9, hg9⟩ := h9
    replace hu9 := hu9.symm
    replace hg9 := hg9.symm
    subst hu9
    subst hg9
    cases hv9
    refine v_iret dX2_openSequence_17 rfl (by rfl) ?_
    unfold rOpen
    first | (rw [if_pos (by assumption)]; exact ⟨rfl, rfl, rfl⟩) | (rw [if_neg (by assumption)]; exact ⟨rfl, rfl, rgS_ext hd (by repeat (first | assumption | exact va_up_self _ _ _ | refine (va_up_ne _ _ (by omega)).trans ?_)) ⟨(by repeat (first | assumption | exact va_up_self _ _ _ | refine (va_up_ne _ _ (by omega)).trans ?_)), (by repeat (first | assumption | exact va_up_self _ _ _ | refine (va_up_ne _ _ (by omega)).trans ?_)), (by repeat (first | assumption | exact va_up_self _ _ _ | refine (va_up_ne _ _ (by omega)).trans ?_)), (by repeat (first | assumption | exact va_up_self _ _ _ | refine (va_up_ne _ _ (by omega)).trans ?_)), (by repeat (first | assumption | exact va_up_self _ _ _ | refine (va_up_ne _ _ (by omega)).trans ?_)), (by repeat (first | assumption | exact va_up_self _ _ _ | refine (va_up_ne _ _ (by omega)).trans ?_)), (by repeat (first | assumption | exact va_up_self _ _ _ | refine (va_up_ne _ _ (by omega)).trans ?_)), (by repeat (first | assumption | exact va_up_self _ _ _ | refine (va_up_ne _ _ (by omega)).trans ?_)), (by repeat (first | assumption | exact va_up_self _ _ _ | refine (va_up_ne _ _ (by omega)).trans ?_))⟩ (fun b h1 h2 => by simp only [va_up]; (repeat rw [if_neg (by omega)]); exact rgS_ne h1 h2)⟩)

set_option maxRecDepth 100000 in
set_option maxHeartbeats 4000000 in
/-- GenomeReader.endNameLine -/
theorem sX2_endNameLine {E : eN} (hE : eOk E) {f : aH} {t : Nat} {a c tp : Nat} {v : rV} {g : gV} (h : rgP tp c f a v g) (hg : gOk g) (hb : rB v) (hd : a < c ∨ c + 8 < a) (hc : 0 < gCt g) : mT E mX2_endNameLine 0 0 [.ref a] f t (fun o f' t' => o = .inl (some (.int (bI (rEndN v g).1))) ∧ t' = t ∧ f' = rgS tp c f a (rEndN v g).2.1 (rEndN v g).2.2) := by
  refine mT_of (n := 1) (lo := [some (.ref a), none]) (by decide) (by exact Nat.le_of_ble_eq_true rfl) rfl rfl ?_
  obtain ⟨h9, h0, h1, h2, h3, h4, h5, h6, h7, h8⟩ := id h
  obtain ⟨⟨k0, k1, k2⟩, k3, k4, k5⟩ := id hg
  obtain ⟨b0, b1, b2, b3, b4, b5, b6, b7, b8⟩ := id hb
  refine v_aload_n dX2_endNameLine_0 rfl (by rfl) ?_
  refine v_getf hE dX2_endNameLine_1 fX2_15 (by repeat (first | assumption | exact va_up_self _ _ _ | refine (va_up_ne _ _ (by omega)).trans ?_)) (by rfl) ?_
  refine v_getf hE dX2_endNameLine_4 fX2_74 (by repeat (first | assumption | exact va_up_self _ _ _ | refine (va_up_ne _ _ (by omega)).trans ?_)) (by rfl) ?_
  refine v_iconst (v := nI 1) dX2_endNameLine_7 (by decide) ?_
  refine v_isubN dX2_endNameLine_8 (by omega) ?_
  refine v_istore_n dX2_endNameLine_9 rfl (by decide) ?_
  refine v_aload_n dX2_endNameLine_10 rfl (by rfl) ?_
  refine v_getf hE dX2_endNameLine_11 fX2_15 (by repeat (first | assumption | exact va_up_self _ _ _ | refine (va_up_ne _ _ (by omega)).trans ?_)) (by rfl) ?_
  refine v_getf hE dX2_endNameLine_14 fX2_89 (by repeat (first | assumption | exact va_up_self _ _ _ | refine (va_up_ne _ _ (by omega)).trans ?_)) (by rfl) ?_
  refine v_aload_n dX2_endNameLine_17 rfl (by rfl) ?_
  refine v_getf hE dX2_endNameLine_18 fX2_15 (by repeat (first | assumption | exact va_up_self _ _ _ | refine (va_up_ne _ _ (by omega)).trans ?_)) (by rfl) ?_
  refine v_getf hE dX2_endNameLine_21 fX2_89 (by repeat (first | assumption | exact va_up_self _ _ _ | refine (va_up_ne _ _ (by omega)).trans ?_)) (by rfl) ?_
  refine v_iload_n dX2_endNameLine_24 rfl (by rfl) ?_
  refine w_callV hE dX2_endNameLine_25 kX2_102 (by repeat (first | assumption | exact va_up_self _ _ _ | refine (va_up_ne _ _ (by omega)).trans ?_)) (by rfl) (by rfl) (sX5_indexOf hE (gn_nm h.2) hg.1 (gn_nm h.2) hg.1 (j := gCt g - 1) (by omega)) rfl (by decide) (by decide) (by exact Nat.le_of_ble_eq_true rfl) (by omega) (by omega) (fun v9 g9 u9 h9 => ?_) (fun _ _ _ h => by cases h.1)
  obtain ⟨hv9, hu9, hg9⟩ := h9
  replace hu9 := hu9.symm
  replace hg9 := hg9.symm
  subst hu9
  subst hg9
  cases hv9
  refine v_iload_n dX2_endNameLine_28 rfl (by rfl) ?_
  refine v_icmp_eq (tgt := 47) dX2_endNameLine_29 (by decide) (fun c29 => ?_) (fun c29 => ?_)
  · refine v_aload_n dX2_endNameLine_47 rfl (by rfl) ?_
    refine v_iconst (v := nI 0) dX2_endNameLine_48 (by decide) ?_
    refine v_putf hE dX2_endNameLine_49 fX2_106 (by repeat (first | assumption | exact va_up_self _ _ _ | refine (va_up_ne _ _ (by omega)).trans ?_)) (by exact Nat.le_of_ble_eq_true rfl) (by rfl) (by rfl) (by rfl) ?_
    refine v_aload_n dX2_endNameLine_52 rfl (by rfl) ?_
    refine v_iconst (v := nI 0) dX2_endNameLine_53 (by decide) ?_
    refine v_putf hE dX2_endNameLine_54 fX2_109 (by repeat (first | assumption | exact va_up_self _ _ _ | refine (va_up_ne _ _ (by omega)).trans ?_)) (by exact Nat.le_of_ble_eq_true rfl) (by rfl) (by rfl) (by rfl) ?_
    refine v_aload_n dX2_endNameLine_57 rfl (by rfl) ?_
    refine v_iconst (v := nI 0) dX2_endNameLine_58 (by decide) ?_
    refine v_putf hE dX2_endNameLine_59 fX2_112 (by repeat (first | assumption | exact va_up_self _ _ _ | refine (va_up_ne _ _ (by omega)).trans ?_)) (by exact Nat.le_of_ble_eq_true rfl) (by rfl) (by rfl) (by rfl) ?_
    refine v_aload_n dX2_endNameLine_62 rfl (by rfl) ?_
    refine v_iconst (v := nI 3) dX2_endNameLine_63 (by decide) ?_
    refine v_putf hE dX2_endNameLine_64 fX2_19 (by repeat (first | assumption | exact va_up_self _ _ _ | refine (va_up_ne _ _ (by omega)).trans ?_)) (by exact Nat.le_of_ble_eq_true rfl) (by rfl) (by rfl) (by rfl) ?_
    refine v_iconst (v := nI 1) dX2_endNameLine_67 (by decide) ?_
    refine v_iret dX2_endNameLine_68 rfl (by rfl) ?_
    unfold rEndN
    first | (rw [if_pos c29]; exact ⟨rfl, rfl, rgS_ext hd (by repeat (first | assumption | exact va_up_self _ _ _ | refine (va_up_ne _ _ (by omega)).trans ?_)) ⟨(by repeat (first | assumption | exact va_up_self _ _ _ | refine (va_up_ne _ _ (by omega)).trans ?_)), (by repeat (first | assumption | exact va_up_self _ _ _ | refine (va_up_ne _ _ (by omega)).trans ?_)), (by repeat (first | assumption | exact va_up_self _ _ _ | refine (va_up_ne _ _ (by omega)).trans ?_)), (by repeat (first | assumption | exact va_up_self _ _ _ | refine (va_up_ne _ _ (by omega)).trans ?_)), (by repeat (first | assumption | exact va_up_self _ _ _ | refine (va_up_ne _ _ (by omega)).trans ?_)), (by repeat (first | assumption | exact va_up_self _ _ _ | refine (va_up_ne _ _ (by omega)).trans ?_)), (by repeat (first | assumption | exact va_up_self _ _ _ | refine (va_up_ne _ _ (by omega)).trans ?_)), (by repeat (first | assumption | exact va_up_self _ _ _ | refine (va_up_ne _ _ (by omega)).trans ?_)), (by repeat (first | assumption | exact va_up_self _ _ _ | refine (va_up_ne _ _ (by omega)).trans ?_))⟩ (fun b h1 h2 => by simp only [va_up]; (repeat rw [if_neg (by omega)]))⟩) | (rw [if_neg c29]; exact ⟨rfl, rfl, rgS_ext hd (by repeat (first | assumption | exact va_up_self _ _ _ | refine (va_up_ne _ _ (by omega)).trans ?_)) ⟨(by repeat (first | assumption | exact va_up_self _ _ _ | refine (va_up_ne _ _ (by omega)).trans ?_)), (by repeat (first | assumption | exact va_up_self _ _ _ | refine (va_up_ne _ _ (by omega)).trans ?_)), (by repeat (first | assumption | exact va_up_self _ _ _ | refine (va_up_ne _ _ (by omega)).trans ?_)), (by repeat (first | assumption | exact va_up_self _ _ _ | refine (va_up_ne _ _ (by omega)).trans ?_)), (by repeat (first | assumption | exact va_up_self _ _ _ | refine (va_up_ne _ _ (by omega)).trans ?_)), (by repeat (first | assumption | exact va_up_self _ _ _ | refine (va_up_ne _ _ (by omega)).trans ?_)), (by repeat (first | assumption | exact va_up_self _ _ _ | refine (va_up_ne _ _ (by omega)).trans ?_)), (by repeat (first | assumption | exact va_up_self _ _ _ | refine (va_up_ne _ _ (by omega)).trans ?_)), (by repeat (first | assumption | exact va_up_self _ _ _ | refine (va_up_ne _ _ (by omega)).trans ?_))⟩ (fun b h1 h2 => by simp only [va_up]; (repeat rw [if_neg (by omega)]))⟩)
  · refine v_aload_n dX2_endNameLine_32 rfl (by rfl) ?_
    refine v_iconst (v := nI 4) dX2_endNameLine_33 (by decide) ?_
    refine v_putf hE dX2_endNameLine_34 fX2_46 (by repeat (first | assumption | exact va_up_self _ _ _ | refine (va_up_ne _ _ (by omega)).trans ?_)) (by exact Nat.le_of_ble_eq_true rfl) (by rfl) (by rfl) (by rfl) ?_
    refine v_aload_n dX2_endNameLine_37 rfl (by rfl) ?_
    refine v_aload_n dX2_endNameLine_38 rfl (by rfl) ?_
    refine v_getf hE dX2_endNameLine_39 fX2_83 (by repeat (first | assumption | exact va_up_self _ _ _ | refine (va_up_ne _ _ (by omega)).trans ?_)) (by rfl) ?_
    refine v_putf hE dX2_endNameLine_42 fX2_49 (by repeat (first | assumption | exact va_up_self _ _ _ | refine (va_up_ne _ _ (by omega)).trans ?_)) (by exact Nat.le_of_ble_eq_true rfl) (by rfl) (by rfl) (by rfl) ?_
    refine v_iconst (v := nI 0) dX2_endNameLine_45 (by decide) ?_
    refine v_iret dX2_endNameLine_46 rfl (by rfl) ?_
    unfold rEndN
    first | (rw [if_pos c29]; exact ⟨rfl, rfl, rgS_ext hd (by repeat (first | assumption | exact va_up_self _ _ _ | refine (va_up_ne _ _ (by omega)).trans ?_)) ⟨(by repeat (first | assumption | exact va_up_self _ _ _ | refine (va_up_ne _ _ (by omega)).trans ?_)), (by repeat (first | assumption | exact va_up_self _ _ _ | refine (va_up_ne _ _ (by omega)).trans ?_)), (by repeat (first | assumption | exact va_up_self _ _ _ | refine (va_up_ne _ _ (by omega)).trans ?_)), (by repeat (first | assumption | exact va_up_self _ _ _ | refine (va_up_ne _ _ (by omega)).trans ?_)), (by repeat (first | assumption | exact va_up_self _ _ _ | refine (va_up_ne _ _ (by omega)).trans ?_)), (by repeat (first | assumption | exact va_up_self _ _ _ | refine (va_up_ne _ _ (by omega)).trans ?_)), (by repeat (first | assumption | exact va_up_self _ _ _ | refine (va_up_ne _ _ (by omega)).trans ?_)), (by repeat (first | assumption | exact va_up_self _ _ _ | refine (va_up_ne _ _ (by omega)).trans ?_)), (by repeat (first | assumption | exact va_up_self _ _ _ | refine (va_up_ne _ _ (by omega)).trans ?_))⟩ (fun b h1 h2 => by simp only [va_up]; (repeat rw [if_neg (by omega)]))⟩) | (rw [if_neg c29]; exact ⟨rfl, rfl, rgS_ext hd (by repeat (first | assumption | exact va_up_self _ _ _ | refine (va_up_ne _ _ (by omega)).trans ?_)) ⟨(by repeat (first | assumption | exact va_up_self _ _ _ | refine (va_up_ne _ _ (by omega)).trans ?_)), (by repeat (first | assumption | exact va_up_self _ _ _ | refine (va_up_ne _ _ (by omega)).trans ?_)), (by repeat (first | assumption | exact va_up_self _ _ _ | refine (va_up_ne _ _ (by omega)).trans ?_)), (by repeat (first | assumption | exact va_up_self _ _ _ | refine (va_up_ne _ _ (by omega)).trans ?_)), (by repeat (first | assumption | exact va_up_self _ _ _ | refine (va_up_ne _ _ (by omega)).trans ?_)), (by repeat (first | assumption | exact va_up_self _ _ _ | refine (va_up_ne _ _ (by omega)).trans ?_)), (by repeat (first | assumption | exact va_up_self _ _ _ | refine (va_up_ne _ _ (by omega)).trans ?_)), (by repeat (first | assumption | exact va_up_self _ _ _ | refine (va_up_ne _ _ (by omega)).trans ?_)), (by repeat (first | assumption | exact va_up_self _ _ _ | refine (va_up_ne _ _ (by omega)).trans ?_))⟩ (fun b h1 h2 => by simp only [va_up]; (repeat rw [if_neg (by omega)]))⟩)

set_option maxRecDepth 100000 in
set_option maxHeartbeats 4000000 in
/-- GenomeReader.takeInName -/
theorem sX2_takeInName {E : eN} (hE : eOk E) {f : aH} {t : Nat} {a c tp : Nat} {v : rV} {g : gV} {x : Int32} (h : rgP tp c f a v g) (hg : gOk g) (hb : rB v) (hd : a < c ∨ c + 8 < a) (hc : 0 < gCt g) : mT E mX2_takeInName 0 0 [.ref a, .int x] f t (fun o f' t' => o = .inl (some (.int (bI (rName v g x).1))) ∧ t' = t ∧ f' = rgS tp c f a (rName v g x).2.1 (rName v g x).2.2) := by
  refine mT_of (n := 0) (lo := [some (.ref a), some (.int x)]) (by decide) (by exact Nat.le_of_ble_eq_true rfl) rfl rfl ?_
  obtain ⟨h9, h0, h1, h2, h3, h4, h5, h6, h7, h8⟩ := id h
  obtain ⟨⟨k0, k1, k2⟩, k3, k4, k5⟩ := id hg
  obtain ⟨b0, b1, b2, b3, b4, b5, b6, b7, b8⟩ := id hb
  refine v_iload_n dX2_takeInName_0 rfl (by rfl) ?_
  refine w_callS hE dX2_takeInName_1 kX2_86 (by rfl) (sX2_isNameOctet hE) rfl (by decide) (by decide) (by exact Nat.le_of_ble_eq_true rfl) (by omega) (by omega) (fun v9 g9 u9 h9 => ?_) (fun _ _ _ h => by cases h.1)
  obtain ⟨hv9, hu9, hg9⟩ := h9
  replace hu9 := hu9.symm
  replace hg9 := hg9.symm
  subst hu9
  subst hg9
  cases hv9
  refine v_if_eqB (tgt := 45) dX2_takeInName_4 (by decide) (fun c4 => ?_) (fun c4 => ?_)
  · refine v_aload_n dX2_takeInName_45 rfl (by rfl) ?_
    refine v_getf hE dX2_takeInName_46 fX2_80 (by repeat (first | assumption | exact va_up_self _ _ _ | refine (va_up_ne _ _ (by omega)).trans ?_)) (by rfl) ?_
    refine v_if_neN (tgt := 58) dX2_takeInName_49 (by decide) (by omega) (fun c49 => ?_) (fun c49 => ?_)
    · refine v_iload_n dX2_takeInName_58 rfl (by rfl) ?_
      refine v_bipush (v := nI 10) dX2_takeInName_59 (by decide) ?_
      refine v_icmp_ne (tgt := 69) dX2_takeInName_61 (by decide) (fun c61 => ?_) (fun c61 => ?_)
      · refine v_aload_n dX2_takeInName_69 rfl (by rfl) ?_
        refine v_iconst (v := nI 2) dX2_takeInName_70 (by decide) ?_
        refine v_putf hE dX2_takeInName_71 fX2_19 (by repeat (first | assumption | exact va_up_self _ _ _ | refine (va_up_ne _ _ (by omega)).trans ?_)) (by exact Nat.le_of_ble_eq_true rfl) (by rfl) (by rfl) (by rfl) ?_
        refine v_hp (rg_v (w := pSt v 2) hd h) ?_
        refine v_iload_n dX2_takeInName_74 rfl (by rfl) ?_
        refine v_bipush (v := nI 32) dX2_takeInName_75 (by decide) ?_
        refine v_icmp_eq (tgt := 88) dX2_takeInName_77 (by decide) (fun c77 => ?_) (fun c77 => ?_)
        · refine v_iconst (v := nI 1) dX2_takeInName_88 (by decide) ?_
          refine v_goto (tgt := 93) dX2_takeInName_89 (by decide) ?_
          refine v_iret dX2_takeInName_93 rfl (by rfl) ?_
          unfold rName
          first | (rw [if_pos c4, if_pos c13]; exact ⟨rfl, rfl, rfl⟩) | (rw [if_pos c4, if_neg c13]; exact ⟨rfl, rfl, rgS_ext hd (by repeat (first | assumption | exact va_up_self _ _ _ | refine (va_up_ne _ _ (by omega)).trans ?_)) ⟨(by repeat (first | assumption | exact va_up_self _ _ _ | refine (va_up_ne _ _ (by omega)).trans ?_)), (by repeat (first | assumption | exact va_up_self _ _ _ | refine (va_up_ne _ _ (by omega)).trans ?_)), (by repeat (first | assumption | exact va_up_self _ _ _ | refine (va_up_ne _ _ (by omega)).trans ?_)), (by repeat (first | assumption | exact va_up_self _ _ _ | refine (va_up_ne _ _ (by omega)).trans ?_)), (by repeat (first | assumption | exact va_up_self _ _ _ | refine (va_up_ne _ _ (by omega)).trans ?_)), (by repeat (first | assumption | exact va_up_self _ _ _ | refine (va_up_ne _ _ (by omega)).trans ?_)), (by repeat (first | assumption | exact va_up_self _ _ _ | refine (va_up_ne _ _ (by omega)).trans ?_)), (by repeat (first | assumption | exact va_up_self _ _ _ | refine (va_up_ne _ _ (by omega)).trans ?_)), (by repeat (first | assumption | exact va_up_self _ _ _ | refine (va_up_ne _ _ (by omega)).trans ?_))⟩ (fun b h1 h2 => by simp only [va_up]; (repeat rw [if_neg (by omega)]); exact rgS_ne h1 h2)⟩) | (rw [if_neg (by rw [c4]; decide), if_pos c49]; exact ⟨rfl, rfl, rfl⟩) | (rw [if_neg (by rw [c4]; decide), if_neg c49, if_pos c61]; exact ⟨rfl, rfl, rfl⟩) | (rw [if_neg (by rw [c4]; decide), if_neg c49, if_neg c61, if_pos c77]; exact ⟨rfl, rfl, rfl⟩) | (rw [if_neg (by rw [c4]; decide), if_neg c49, if_neg c61, if_neg c77]; exact ⟨rfl, rfl, rfl⟩)
        · refine v_aload_n dX2_takeInName_80 rfl (by rfl) ?_
          refine v_iconst (v := nI 2) dX2_takeInName_81 (by decide) ?_
          refine w_callV hE dX2_takeInName_82 kX2_43 (by repeat (first | assumption | exact va_up_self _ _ _ | refine (va_up_ne _ _ (by omega)).trans ?_)) (by rfl) (by rfl) (sX2_fail hE (rgP_S hd) hg ⟨(by show 2 < 2 ^ 28; decide), b1, b2, b3, b4, b5, b6, b7, b8⟩ hd) rfl (by decide) (by decide) (by exact Nat.le_of_ble_eq_true rfl) (by omega) (by omega) (fun v9 g9 u9 h9 => ?_) (fun _ _ _ h => by cases h.1)
          obtain ⟨hv9, hu9, hg9⟩ := h9
          replace hu9 := hu9.symm
          replace hg9 := hg9.symm
          subst hu9
          subst hg9
          cases hv9
          refine v_hp (rgS_S hd) ?_
          refine v_if_eqB (tgt := 92) dX2_takeInName_85 (by decide) (fun c85 => ?_) (fun c85 => ?_)
          · refine v_iconst (v := nI 0) dX2_takeInName_92 (by decide) ?_
            refine v_iret dX2_takeInName_93 rfl (by rfl) ?_
            unfold rName
            first | (rw [if_pos c4, if_pos c13]; exact ⟨rfl, rfl, rfl⟩) | (rw [if_pos c4, if_neg c13]; exact ⟨rfl, rfl, rgS_ext hd (by repeat (first | assumption | exact va_up_self _ _ _ | refine (va_up_ne _ _ (by omega)).trans ?_)) ⟨(by repeat (first | assumption | exact va_up_self _ _ _ | refine (va_up_ne _ _ (by omega)).trans ?_)), (by repeat (first | assumption | exact va_up_self _ _ _ | refine (va_up_ne _ _ (by omega)).trans ?_)), (by repeat (first | assumption | exact va_up_self _ _ _ | refine (va_up_ne _ _ (by omega)).trans ?_)), (by repeat (first | assumption | exact va_up_self _ _ _ | refine (va_up_ne _ _ (by omega)).trans ?_)), (by repeat (first | assumption | exact va_up_self _ _ _ | refine (va_up_ne _ _ (by omega)).trans ?_)), (by repeat (first | assumption | exact va_up_self _ _ _ | refine (va_up_ne _ _ (by omega)).trans ?_)), (by repeat (first | assumption | exact va_up_self _ _ _ | refine (va_up_ne _ _ (by omega)).trans ?_)), (by repeat (first | assumption | exact va_up_self _ _ _ | refine (va_up_ne _ _ (by omega)).trans ?_)), (by repeat (first | assumption | exact va_up_self _ _ _ | refine (va_up_ne _ _ (by omega)).trans ?_))⟩ (fun b h1 h2 => by simp only [va_up]; (repeat rw [if_neg (by omega)]); exact rgS_ne h1 h2)⟩) | (rw [if_neg (by rw [c4]; decide), if_pos c49]; exact ⟨rfl, rfl, rfl⟩) | (rw [if_neg (by rw [c4]; decide), if_neg c49, if_pos c61]; exact ⟨rfl, rfl, rfl⟩) | (rw [if_neg (by rw [c4]; decide), if_neg c49, if_neg c61, if_pos c77]; exact ⟨rfl, rfl, rfl⟩) | (rw [if_neg (by rw [c4]; decide), if_neg c49, if_neg c61, if_neg c77]; exact ⟨rfl, rfl, rfl⟩)
          · exact absurd c85 (by decide)
      · refine v_aload_n dX2_takeInName_64 rfl (by rfl) ?_
        refine w_callV hE dX2_takeInName_65 kX2_99 (by repeat (first | assumption | exact va_up_self _ _ _ | refine (va_up_ne _ _ (by omega)).trans ?_)) (by rfl) (by rfl) (sX2_endNameLine hE h hg hb hd hc) rfl (by decide) (by decide) (by exact Nat.le_of_ble_eq_true rfl) (by omega) (by omega) (fun v9 g9 u9 h9 => ?_) (fun _ _ _ h => by cases h.1)
        obtain ⟨hv9, hu9, hg9⟩ := h9
        replace hu9 := hu9.symm
        replace hg9 := hg9.symm
        subst hu9
        subst hg9
        cases hv9
        refine v_iret dX2_takeInName_68 rfl nar_bI ?_
        unfold rName
        first | (rw [if_pos c4, if_pos c13]; exact ⟨rfl, rfl, rfl⟩) | (rw [if_pos c4, if_neg c13]; exact ⟨rfl, rfl, rgS_ext hd (by repeat (first | assumption | exact va_up_self _ _ _ | refine (va_up_ne _ _ (by omega)).trans ?_)) ⟨(by repeat (first | assumption | exact va_up_self _ _ _ | refine (va_up_ne _ _ (by omega)).trans ?_)), (by repeat (first | assumption | exact va_up_self _ _ _ | refine (va_up_ne _ _ (by omega)).trans ?_)), (by repeat (first | assumption | exact va_up_self _ _ _ | refine (va_up_ne _ _ (by omega)).trans ?_)), (by repeat (first | assumption | exact va_up_self _ _ _ | refine (va_up_ne _ _ (by omega)).trans ?_)), (by repeat (first | assumption | exact va_up_self _ _ _ | refine (va_up_ne _ _ (by omega)).trans ?_)), (by repeat (first | assumption | exact va_up_self _ _ _ | refine (va_up_ne _ _ (by omega)).trans ?_)), (by repeat (first | assumption | exact va_up_self _ _ _ | refine (va_up_ne _ _ (by omega)).trans ?_)), (by repeat (first | assumption | exact va_up_self _ _ _ | refine (va_up_ne _ _ (by omega)).trans ?_)), (by repeat (first | assumption | exact va_up_self _ _ _ | refine (va_up_ne _ _ (by omega)).trans ?_))⟩ (fun b h1 h2 => by simp only [va_up]; (repeat rw [if_neg (by omega)]); exact rgS_ne h1 h2)⟩) | (rw [if_neg (by rw [c4]; decide), if_pos c49]; exact ⟨rfl, rfl, rfl⟩) | (rw [if_neg (by rw [c4]; decide), if_neg c49, if_pos c61]; exact ⟨rfl, rfl, rfl⟩) | (rw [if_neg (by rw [c4]; decide), if_neg c49, if_neg c61, if_pos c77]; exact ⟨rfl, rfl, rfl⟩) | (rw [if_neg (by rw [c4]; decide), if_neg c49, if_neg c61, if_neg c77]; exact ⟨rfl, rfl, rfl⟩)
    · refine v_aload_n dX2_takeInName_52 rfl (by rfl) ?_
      refine v_iconst (v := nI 2) dX2_takeInName_53 (by decide) ?_
      refine w_callV hE dX2_takeInName_54 kX2_43 (by repeat (first | assumption | exact va_up_self _ _ _ | refine (va_up_ne _ _ (by omega)).trans ?_)) (by rfl) (by rfl) (sX2_fail hE h hg hb hd) rfl (by decide) (by decide) (by exact Nat.le_of_ble_eq_true rfl) (by omega) (by omega) (fun v9 g9 u9 h9 => ?_) (fun _ _ _ h => by cases h.1)
      obtain ⟨hv9, hu9, hg9⟩ := h9
      replace hu9 := hu9.symm
      replace hg9 := hg9.symm
      subst hu9
      subst hg9
      cases hv9
      refine v_iret dX2_takeInName_57 rfl (by rfl) ?_
      unfold rName
      first | (rw [if_pos c4, if_pos c13]; exact ⟨rfl, rfl, rfl⟩) | (rw [if_pos c4, if_neg c13]; exact ⟨rfl, rfl, rgS_ext hd (by repeat (first | assumption | exact va_up_self _ _ _ | refine (va_up_ne _ _ (by omega)).trans ?_)) ⟨(by repeat (first | assumption | exact va_up_self _ _ _ | refine (va_up_ne _ _ (by omega)).trans ?_)), (by repeat (first | assumption | exact va_up_self _ _ _ | refine (va_up_ne _ _ (by omega)).trans ?_)), (by repeat (first | assumption | exact va_up_self _ _ _ | refine (va_up_ne _ _ (by omega)).trans ?_)), (by repeat (first | assumption | exact va_up_self _ _ _ | refine (va_up_ne _ _ (by omega)).trans ?_)), (by repeat (first | assumption | exact va_up_self _ _ _ | refine (va_up_ne _ _ (by omega)).trans ?_)), (by repeat (first | assumption | exact va_up_self _ _ _ | refine (va_up_ne _ _ (by omega)).trans ?_)), (by repeat (first | assumption | exact va_up_self _ _ _ | refine (va_up_ne _ _ (by omega)).trans ?_)), (by repeat (first | assumption | exact va_up_self _ _ _ | refine (va_up_ne _ _ (by omega)).trans ?_)), (by repeat (first | assumption | exact va_up_self _ _ _ | refine (va_up_ne _ _ (by omega)).trans ?_))⟩ (fun b h1 h2 => by simp only [va_up]; (repeat rw [if_neg (by omega)]); exact rgS_ne h1 h2)⟩) | (rw [if_neg (by rw [c4]; decide), if_pos c49]; exact ⟨rfl, rfl, rfl⟩) | (rw [if_neg (by rw [c4]; decide), if_neg c49, if_pos c61]; exact ⟨rfl, rfl, rfl⟩) | (rw [if_neg (by rw [c4]; decide), if_neg c49, if_neg c61, if_pos c77]; exact ⟨rfl, rfl, rfl⟩) | (rw [if_neg (by rw [c4]; decide), if_neg c49, if_neg c61, if_neg c77]; exact ⟨rfl, rfl, rfl⟩)
  · refine v_aload_n dX2_takeInName_7 rfl (by rfl) ?_
    refine v_getf hE dX2_takeInName_8 fX2_80 (by repeat (first | assumption | exact va_up_self _ _ _ | refine (va_up_ne _ _ (by omega)).trans ?_)) (by rfl) ?_
    refine v_bipush (v := nI 20) dX2_takeInName_11 (by decide) ?_
    refine v_icmp_neN (tgt := 22) dX2_takeInName_13 (by decide) (by omega) (by omega) (fun c13 => ?_) (fun c13 => ?_)
    · refine v_aload_n dX2_takeInName_22 rfl (by rfl) ?_
      refine v_getf hE dX2_takeInName_23 fX2_15 (by repeat (first | assumption | exact va_up_self _ _ _ | refine (va_up_ne _ _ (by omega)).trans ?_)) (by rfl) ?_
      refine v_getf hE dX2_takeInName_26 fX2_89 (by repeat (first | assumption | exact va_up_self _ _ _ | refine (va_up_ne _ _ (by omega)).trans ?_)) (by rfl) ?_
      refine v_iload_n dX2_takeInName_29 rfl (by rfl) ?_
      refine w_callV hE dX2_takeInName_30 kX2_93 (by repeat (first | assumption | exact va_up_self _ _ _ | refine (va_up_ne _ _ (by omega)).trans ?_)) (by rfl) (by rfl) (sX5_add hE (gn_nm h.2) hg.1 (by omega)) rfl (by decide) (by decide) (by exact Nat.le_of_ble_eq_true rfl) (by omega) (by omega) (fun v9 g9 u9 h9 => ?_) (fun _ _ _ h => by cases h.1)
      obtain ⟨hv9, hu9, hg9⟩ := h9
      replace hu9 := hu9.symm
      replace hg9 := hg9.symm
      subst hu9
      subst hg9
      cases hv9
      refine v_hp ((gn_set h.2).trans (rg_g hd h)) ?_
      have z0 := (rgP_S (f := f) (a := a) (tp := tp) (v := v) (g := (nmAdd g.1 x, g.2)) hd).1
      obtain ⟨z1, z2, z3, z4, z5, z6, z7, z8, z9⟩ := (rgP_S (f := f) (a := a) (tp := tp) (v := v) (g := (nmAdd g.1 x, g.2)) hd).2
      refine v_aload_n dX2_takeInName_33 rfl (by rfl) ?_
      refine v_dup dX2_takeInName_34 rfl ?_
      refine v_getf hE dX2_takeInName_35 fX2_80 (by repeat (first | assumption | exact va_up_self _ _ _ | refine (va_up_ne _ _ (by omega)).trans ?_)) (by rfl) ?_
      refine v_iconst (v := nI 1) dX2_takeInName_38 (by decide) ?_
      refine v_iaddN dX2_takeInName_39 ?_
      refine v_putf hE dX2_takeInName_40 fX2_80 (by repeat (first | assumption | exact va_up_self _ _ _ | refine (va_up_ne _ _ (by omega)).trans ?_)) (by exact Nat.le_of_ble_eq_true rfl) (by rfl) (by rfl) (by rfl) ?_
      refine v_iconst (v := nI 1) dX2_takeInName_43 (by decide) ?_
      refine v_iret dX2_takeInName_44 rfl (by rfl) ?_
      unfold rName
      first | (rw [if_pos c4, if_pos c13]; exact ⟨rfl, rfl, rfl⟩) | (rw [if_pos c4, if_neg c13]; exact ⟨rfl, rfl, rgS_ext hd (by repeat (first | assumption | exact va_up_self _ _ _ | refine (va_up_ne _ _ (by omega)).trans ?_)) ⟨(by repeat (first | assumption | exact va_up_self _ _ _ | refine (va_up_ne _ _ (by omega)).trans ?_)), (by repeat (first | assumption | exact va_up_self _ _ _ | refine (va_up_ne _ _ (by omega)).trans ?_)), (by repeat (first | assumption | exact va_up_self _ _ _ | refine (va_up_ne _ _ (by omega)).trans ?_)), (by repeat (first | assumption | exact va_up_self _ _ _ | refine (va_up_ne _ _ (by omega)).trans ?_)), (by repeat (first | assumption | exact va_up_self _ _ _ | refine (va_up_ne _ _ (by omega)).trans ?_)), (by repeat (first | assumption | exact va_up_self _ _ _ | refine (va_up_ne _ _ (by omega)).trans ?_)), (by repeat (first | assumption | exact va_up_self _ _ _ | refine (va_up_ne _ _ (by omega)).trans ?_)), (by repeat (first | assumption | exact va_up_self _ _ _ | refine (va_up_ne _ _ (by omega)).trans ?_)), (by repeat (first | assumption | exact va_up_self _ _ _ | refine (va_up_ne _ _ (by omega)).trans ?_))⟩ (fun b h1 h2 => by simp only [va_up]; (repeat rw [if_neg (by omega)]); exact rgS_ne h1 h2)⟩) | (rw [if_neg (by rw [c4]; decide), if_pos c49]; exact ⟨rfl, rfl, rfl⟩) | (rw [if_neg (by rw [c4]; decide), if_neg c49, if_pos c61]; exact ⟨rfl, rfl, rfl⟩) | (rw [if_neg (by rw [c4]; decide), if_neg c49, if_neg c61, if_pos c77]; exact ⟨rfl, rfl, rfl⟩) | (rw [if_neg (by rw [c4]; decide), if_neg c49, if_neg c61, if_neg c77]; exact ⟨rfl, rfl, rfl⟩)
    · refine v_aload_n dX2_takeInName_16 rfl (by rfl) ?_
      refine v_iconst (v := nI 3) dX2_takeInName_17 (by decide) ?_
      refine w_callV hE dX2_takeInName_18 kX2_43 (by repeat (first | assumption | exact va_up_self _ _ _ | refine (va_up_ne _ _ (by omega)).trans ?_)) (by rfl) (by rfl) (sX2_fail hE h hg hb hd) rfl (by decide) (by decide) (by exact Nat.le_of_ble_eq_true rfl) (by omega) (by omega) (fun v9 g9 u9 h9 => ?_) (fun _ _ _ h => by cases h.1)
      obtain ⟨hv9, hu9, hg9⟩ := h9
      replace hu9 := hu9.symm
      replace hg9 := hg9.symm
      subst hu9
      subst hg9
      cases hv9
      refine v_iret dX2_takeInName_21 rfl (by rfl) ?_
      unfold rName
      first | (rw [if_pos c4, if_pos c13]; exact ⟨rfl, rfl, rfl⟩) | (rw [if_pos c4, if_neg c13]; exact ⟨rfl, rfl, rgS_ext hd (by repeat (first | assumption | exact va_up_self _ _ _ | refine (va_up_ne _ _ (by omega)).trans ?_)) ⟨(by repeat (first | assumption | exact va_up_self _ _ _ | refine (va_up_ne _ _ (by omega)).trans ?_)), (by repeat (first | assumption | exact va_up_self _ _ _ | refine (va_up_ne _ _ (by omega)).trans ?_)), (by repeat (first | assumption | exact va_up_self _ _ _ | refine (va_up_ne _ _ (by omega)).trans ?_)), (by repeat (first | assumption | exact va_up_self _ _ _ | refine (va_up_ne _ _ (by omega)).trans ?_)), (by repeat (first | assumption | exact va_up_self _ _ _ | refine (va_up_ne _ _ (by omega)).trans ?_)), (by repeat (first | assumption | exact va_up_self _ _ _ | refine (va_up_ne _ _ (by omega)).trans ?_)), (by repeat (first | assumption | exact va_up_self _ _ _ | refine (va_up_ne _ _ (by omega)).trans ?_)), (by repeat (first | assumption | exact va_up_self _ _ _ | refine (va_up_ne _ _ (by omega)).trans ?_)), (by repeat (first | assumption | exact va_up_self _ _ _ | refine (va_up_ne _ _ (by omega)).trans ?_))⟩ (fun b h1 h2 => by simp only [va_up]; (repeat rw [if_neg (by omega)]); exact rgS_ne h1 h2)⟩) | (rw [if_neg (by rw [c4]; decide), if_pos c49]; exact ⟨rfl, rfl, rfl⟩) | (rw [if_neg (by rw [c4]; decide), if_neg c49, if_pos c61]; exact ⟨rfl, rfl, rfl⟩) | (rw [if_neg (by rw [c4]; decide), if_neg c49, if_neg c61, if_pos c77]; exact ⟨rfl, rfl, rfl⟩) | (rw [if_neg (by rw [c4]; decide), if_neg c49, if_neg c61, if_neg c77]; exact ⟨rfl, rfl, rfl⟩)

set_option maxRecDepth 100000 in
set_option maxHeartbeats 4000000 in
/-- GenomeReader.takeInRemark -/
theorem sX2_takeInRemark {E : eN} (hE : eOk E) {f : aH} {t : Nat} {a c tp : Nat} {v : rV} {g : gV} {x : Int32} (h : rgP tp c f a v g) (hg : gOk g) (hb : rB v) (hd : a < c ∨ c + 8 < a) (hc : 0 < gCt g) : mT E mX2_takeInRemark 0 0 [.ref a, .int x] f t (fun o f' t' => o = .inl (some (.int (bI (rRem v g x).1))) ∧ t' = t ∧ f' = rgS tp c f a (rRem v g x).2.1 (rRem v g x).2.2) := by
  refine mT_of (n := 0) (lo := [some (.ref a), some (.int x)]) (by decide) (by exact Nat.le_of_ble_eq_true rfl) rfl rfl ?_
  obtain ⟨h9, h0, h1, h2, h3, h4, h5, h6, h7, h8⟩ := id h
  obtain ⟨⟨k0, k1, k2⟩, k3, k4, k5⟩ := id hg
  obtain ⟨b0, b1, b2, b3, b4, b5, b6, b7, b8⟩ := id hb
  refine v_iload_n dX2_takeInRemark_0 rfl (by rfl) ?_
  refine v_bipush (v := nI 10) dX2_takeInRemark_1 (by decide) ?_
  refine v_icmp_ne (tgt := 11) dX2_takeInRemark_3 (by decide) (fun c3 => ?_) (fun c3 => ?_)
  · refine v_iload_n dX2_takeInRemark_11 rfl (by rfl) ?_
    refine v_bipush (v := nI 32) dX2_takeInRemark_12 (by decide) ?_
    refine v_icmp_lt (tgt := 23) dX2_takeInRemark_14 (by decide) (fun c14 => ?_) (fun c14 => ?_)
    · refine v_aload_n dX2_takeInRemark_23 rfl (by rfl) ?_
      refine v_iconst (v := nI 2) dX2_takeInRemark_24 (by decide) ?_
      refine w_callV hE dX2_takeInRemark_25 kX2_43 (by repeat (first | assumption | exact va_up_self _ _ _ | refine (va_up_ne _ _ (by omega)).trans ?_)) (by rfl) (by rfl) (sX2_fail hE h hg hb hd) rfl (by decide) (by decide) (by exact Nat.le_of_ble_eq_true rfl) (by omega) (by omega) (fun v9 g9 u9 h9 => ?_) (fun _ _ _ h => by cases h.1)
      obtain ⟨hv9, hu9, hg9⟩ := h9
      replace hu9 := hu9.symm
      replace hg9 := hg9.symm
      subst hu9
      subst hg9
      cases hv9
      refine v_if_eqB (tgt := 35) dX2_takeInRemark_28 (by decide) (fun c28 => ?_) (fun c28 => ?_)
      · refine v_iconst (v := nI 0) dX2_takeInRemark_35 (by decide) ?_
        refine v_iret dX2_takeInRemark_36 rfl (by rfl) ?_
        unfold rRem
        first | (rw [if_pos c3]; exact ⟨rfl, rfl, rfl⟩) | (rw [if_neg c3, if_pos (Or.inl c14)]; exact ⟨rfl, rfl, rfl⟩) | (rw [if_neg c3, if_pos (Or.inr c20)]; exact ⟨rfl, rfl, rfl⟩) | (rw [if_neg c3, if_neg (fun q => q.elim c14 (fun z => z c20))]; exact ⟨rfl, rfl, (rgS_id hd h).symm⟩)
      · exact absurd c28 (by decide)
    · refine v_iload_n dX2_takeInRemark_17 rfl (by rfl) ?_
      refine v_bipush (v := nI 126) dX2_takeInRemark_18 (by decide) ?_
      refine v_icmp_le (tgt := 31) dX2_takeInRemark_20 (by decide) (fun c20 => ?_) (fun c20 => ?_)
      · refine v_iconst (v := nI 1) dX2_takeInRemark_31 (by decide) ?_
        refine v_goto (tgt := 36) dX2_takeInRemark_32 (by decide) ?_
        refine v_iret dX2_takeInRemark_36 rfl (by rfl) ?_
        unfold rRem
        first | (rw [if_pos c3]; exact ⟨rfl, rfl, rfl⟩) | (rw [if_neg c3, if_pos (Or.inl c14)]; exact ⟨rfl, rfl, rfl⟩) | (rw [if_neg c3, if_pos (Or.inr c20)]; exact ⟨rfl, rfl, rfl⟩) | (rw [if_neg c3, if_neg (fun q => q.elim c14 (fun z => z c20))]; exact ⟨rfl, rfl, (rgS_id hd h).symm⟩)
      · refine v_aload_n dX2_takeInRemark_23 rfl (by rfl) ?_
        refine v_iconst (v := nI 2) dX2_takeInRemark_24 (by decide) ?_
        refine w_callV hE dX2_takeInRemark_25 kX2_43 (by repeat (first | assumption | exact va_up_self _ _ _ | refine (va_up_ne _ _ (by omega)).trans ?_)) (by rfl) (by rfl) (sX2_fail hE h hg hb hd) rfl (by decide) (by decide) (by exact Nat.le_of_ble_eq_true rfl) (by omega) (by omega) (fun v9 g9 u9 h9 => ?_) (fun _ _ _ h => by cases h.1)
        obtain ⟨hv9, hu9, hg9⟩ := h9
        replace hu9 := hu9.symm
        replace hg9 := hg9.symm
        subst hu9
        subst hg9
        cases hv9
        refine v_if_eqB (tgt := 35) dX2_takeInRemark_28 (by decide) (fun c28 => ?_) (fun c28 => ?_)
        · refine v_iconst (v := nI 0) dX2_takeInRemark_35 (by decide) ?_
          refine v_iret dX2_takeInRemark_36 rfl (by rfl) ?_
          unfold rRem
          first | (rw [if_pos c3]; exact ⟨rfl, rfl, rfl⟩) | (rw [if_neg c3, if_pos (Or.inl c14)]; exact ⟨rfl, rfl, rfl⟩) | (rw [if_neg c3, if_pos (Or.inr c20)]; exact ⟨rfl, rfl, rfl⟩) | (rw [if_neg c3, if_neg (fun q => q.elim c14 (fun z => z c20))]; exact ⟨rfl, rfl, (rgS_id hd h).symm⟩)
        · exact absurd c28 (by decide)
  · refine v_aload_n dX2_takeInRemark_6 rfl (by rfl) ?_
    refine w_callV hE dX2_takeInRemark_7 kX2_99 (by repeat (first | assumption | exact va_up_self _ _ _ | refine (va_up_ne _ _ (by omega)).trans ?_)) (by rfl) (by rfl) (sX2_endNameLine hE h hg hb hd hc) rfl (by decide) (by decide) (by exact Nat.le_of_ble_eq_true rfl) (by omega) (by omega) (fun v9 g9 u9 h9 => ?_) (fun _ _ _ h => by cases h.1)
    obtain ⟨hv9, hu9, hg9⟩ := h9
    replace hu9 := hu9.symm
    replace hg9 := hg9.symm
    subst hu9
    subst hg9
    cases hv9
    refine v_iret dX2_takeInRemark_10 rfl nar_bI ?_
    unfold rRem
    first | (rw [if_pos c3]; exact ⟨rfl, rfl, rfl⟩) | (rw [if_neg c3, if_pos (Or.inl c14)]; exact ⟨rfl, rfl, rfl⟩) | (rw [if_neg c3, if_pos (Or.inr c20)]; exact ⟨rfl, rfl, rfl⟩) | (rw [if_neg c3, if_neg (fun q => q.elim c14 (fun z => z c20))]; exact ⟨rfl, rfl, (rgS_id hd h).symm⟩)

set_option maxRecDepth 100000 in
set_option maxHeartbeats 4000000 in
/-- GenomeReader.takeInLetters -/
theorem sX2_takeInLetters {E : eN} (hE : eOk E) {f : aH} {t : Nat} {a c tp : Nat} {v : rV} {g : gV} {x : Int32} (h : rgP tp c f a v g) (hg : gOk g) (hb : rB v) (hd : a < c ∨ c + 8 < a) (hc : 0 < gCt g) : mT E mX2_takeInLetters 0 0 [.ref a, .int x] f t (fun o f' t' => o = .inl (some (.int (bI (rLett v g x).1))) ∧ t' = t ∧ f' = rgS tp c f a (rLett v g x).2.1 (rLett v g x).2.2) := by
  refine mT_of (n := 1) (lo := [some (.ref a), some (.int x), none]) (by decide) (by exact Nat.le_of_ble_eq_true rfl) rfl rfl ?_
  obtain ⟨h9, h0, h1, h2, h3, h4, h5, h6, h7, h8⟩ := id h
  obtain ⟨⟨k0, k1, k2⟩, k3, k4, k5⟩ := id hg
  obtain ⟨b0, b1, b2, b3, b4, b5, b6, b7, b8⟩ := id hb
  refine v_iload_n dX2_takeInLetters_0 rfl (by rfl) ?_
  refine v_bipush (v := nI 10) dX2_takeInLetters_1 (by decide) ?_
  refine v_icmp_ne (tgt := 12) dX2_takeInLetters_3 (by decide) (fun c3 => ?_) (fun c3 => ?_)
  · refine v_iload_n dX2_takeInLetters_12 rfl (by rfl) ?_
    refine w_callSN hE dX2_takeInLetters_13 kX2_68 (by rfl) (sX9_letterOf hE) rfl (fun _ _ _ h => by cases h.1) (by decide) (by decide) (by exact Nat.le_of_ble_eq_true rfl) (by omega) (by omega) (fun v9 g9 u9 h9 => ?_)
    obtain ⟨hv9, hu9, hg9⟩ := h9
    replace hu9 := hu9.symm
    replace hg9 := hg9.symm
    subst hu9
    subst hg9
    cases hv9
    refine v_istore_n dX2_takeInLetters_16 rfl (by decide) ?_
    refine v_iload_n dX2_takeInLetters_17 rfl (by rfl) ?_
    refine v_iconst (v := (-1)) dX2_takeInLetters_18 (by decide) ?_
    refine v_icmp_ne (tgt := 30) dX2_takeInLetters_19 (by decide) (fun c19 => ?_) (fun c19 => ?_)
    · refine v_aload_n dX2_takeInLetters_30 rfl (by rfl) ?_
      refine v_iload_n dX2_takeInLetters_31 rfl (by rfl) ?_
      refine w_callV hE dX2_takeInLetters_32 kX2_71 (by repeat (first | assumption | exact va_up_self _ _ _ | refine (va_up_ne _ _ (by omega)).trans ?_)) (by rfl) (by rfl) (sX2_takeLetter hE h hg hb hd hc) rfl (by decide) (by decide) (by exact Nat.le_of_ble_eq_true rfl) (by omega) (by omega) (fun v9 g9 u9 h9 => ?_) (fun _ _ _ h => by cases h.1)
      obtain ⟨hv9, hu9, hg9⟩ := h9
      replace hu9 := hu9.symm
      replace hg9 := hg9.symm
      subst hu9
      subst hg9
      cases hv9
      refine v_iret dX2_takeInLetters_35 rfl (by first | rfl | exact nar_bI) ?_
      unfold rLett
      first | (rw [if_pos c3]; exact ⟨rfl, rfl, rfl⟩) | (rw [if_neg c3, if_pos c19]; exact ⟨rfl, rfl, rfl⟩) | (rw [if_neg c3, if_neg c19]; exact ⟨rfl, rfl, rfl⟩)
    · refine v_aload_n dX2_takeInLetters_22 rfl (by rfl) ?_
      refine v_iconst (v := nI 2) dX2_takeInLetters_23 (by decide) ?_
      refine w_callV hE dX2_takeInLetters_24 kX2_43 (by repeat (first | assumption | exact va_up_self _ _ _ | refine (va_up_ne _ _ (by omega)).trans ?_)) (by rfl) (by rfl) (sX2_fail hE h hg hb hd) rfl (by decide) (by decide) (by exact Nat.le_of_ble_eq_true rfl) (by omega) (by omega) (fun v9 g9 u9 h9 => ?_) (fun _ _ _ h => by cases h.1)
      obtain ⟨hv9, hu9, hg9⟩ := h9
      replace hu9 := hu9.symm
      replace hg9 := hg9.symm
      subst hu9
      subst hg9
      cases hv9
      refine v_goto (tgt := 35) dX2_takeInLetters_27 (by decide) ?_
      refine v_iret dX2_takeInLetters_35 rfl (by first | rfl | exact nar_bI) ?_
      unfold rLett
      first | (rw [if_pos c3]; exact ⟨rfl, rfl, rfl⟩) | (rw [if_neg c3, if_pos c19]; exact ⟨rfl, rfl, rfl⟩) | (rw [if_neg c3, if_neg c19]; exact ⟨rfl, rfl, rfl⟩)
  · refine v_aload_n dX2_takeInLetters_6 rfl (by rfl) ?_
    refine w_callV hE dX2_takeInLetters_7 kX2_115 (by repeat (first | assumption | exact va_up_self _ _ _ | refine (va_up_ne _ _ (by omega)).trans ?_)) (by rfl) (by rfl) (sX2_endLetterLine hE h hg hb hd hc) rfl (by decide) (by decide) (by exact Nat.le_of_ble_eq_true rfl) (by omega) (by omega) (fun v9 g9 u9 h9 => ?_) (fun _ _ _ h => by cases h.1)
    obtain ⟨hv9, hu9, hg9⟩ := h9
    replace hu9 := hu9.symm
    replace hg9 := hg9.symm
    subst hu9
    subst hg9
    cases hv9
    refine v_iconst (v := nI 1) dX2_takeInLetters_10 (by decide) ?_
    refine v_iret dX2_takeInLetters_11 rfl (by rfl) ?_
    unfold rLett
    first | (rw [if_pos c3]; exact ⟨rfl, rfl, rfl⟩) | (rw [if_neg c3, if_pos c19]; exact ⟨rfl, rfl, rfl⟩) | (rw [if_neg c3, if_neg c19]; exact ⟨rfl, rfl, rfl⟩)

set_option maxRecDepth 100000 in
set_option maxHeartbeats 4000000 in
/-- GenomeReader.takeAtLineStart -/
theorem sX2_takeAtLineStart {E : eN} (hE : eOk E) {f : aH} {t : Nat} {a c tp : Nat} {v : rV} {g : gV} {x : Int32} (h : rgP tp c f a v g) (hg : gOk g) (hb : rB v) (hd : a < c ∨ c + 8 < a) (hc : rSt v ≠ 0 → 0 < gCt g) : mT E mX2_takeAtLineStart 0 0 [.ref a, .int x] f t (fun o f' t' => o = .inl (some (.int (bI (rLine v g x).1))) ∧ t' = t ∧ f' = rgS tp c f a (rLine v g x).2.1 (rLine v g x).2.2) := by
  refine mT_of (n := 0) (lo := [some (.ref a), some (.int x)]) (by decide) (by exact Nat.le_of_ble_eq_true rfl) rfl rfl ?_
  obtain ⟨h9, h0, h1, h2, h3, h4, h5, h6, h7, h8⟩ := id h
  obtain ⟨⟨k0, k1, k2⟩, k3, k4, k5⟩ := id hg
  obtain ⟨b0, b1, b2, b3, b4, b5, b6, b7, b8⟩ := id hb
  refine v_iload_n dX2_takeAtLineStart_0 rfl (by rfl) ?_
  refine v_bipush (v := nI 62) dX2_takeAtLineStart_1 (by decide) ?_
  refine v_icmp_ne (tgt := 19) dX2_takeAtLineStart_3 (by decide) (fun c3 => ?_) (fun c3 => ?_)
  · refine v_iload_n dX2_takeAtLineStart_19 rfl (by rfl) ?_
    refine w_callSN hE dX2_takeAtLineStart_20 kX2_68 (by rfl) (sX9_letterOf hE) rfl (fun _ _ _ h => by cases h.1) (by decide) (by decide) (by exact Nat.le_of_ble_eq_true rfl) (by omega) (by omega) (fun v9 g9 u9 h9 => ?_)
    obtain ⟨hv9, hu9, hg9⟩ := h9
    replace hu9 := hu9.symm
    replace hg9 := hg9.symm
    subst hu9
    subst hg9
    cases hv9
    refine v_iconst (v := (-1)) dX2_takeAtLineStart_23 (by decide) ?_
    refine v_icmp_eq (tgt := 43) dX2_takeAtLineStart_24 (by decide) (fun c24 => ?_) (fun c24 => ?_)
    · refine v_aload_n dX2_takeAtLineStart_43 rfl (by rfl) ?_
      refine v_iconst (v := nI 2) dX2_takeAtLineStart_44 (by decide) ?_
      refine w_callV hE dX2_takeAtLineStart_45 kX2_43 (by repeat (first | assumption | exact va_up_self _ _ _ | refine (va_up_ne _ _ (by omega)).trans ?_)) (by rfl) (by rfl) (sX2_fail hE h hg hb hd) rfl (by decide) (by decide) (by exact Nat.le_of_ble_eq_true rfl) (by omega) (by omega) (fun v9 g9 u9 h9 => ?_) (fun _ _ _ h => by cases h.1)
      obtain ⟨hv9, hu9, hg9⟩ := h9
      replace hu9 := hu9.symm
      replace hg9 := hg9.symm
      subst hu9
      subst hg9
      cases hv9
      refine v_iret dX2_takeAtLineStart_48 rfl (by rfl) ?_
      unfold rLine
      first | (rw [if_pos ⟨c3, c11⟩]; exact ⟨rfl, rfl, rfl⟩) | (rw [if_neg (fun q => by first | exact c3 q.1 | exact q.2 c11), if_pos ⟨c24, c31⟩]; exact ⟨rfl, rfl, rfl⟩) | (rw [if_neg (fun q => by first | exact c3 q.1 | exact q.2 c11), if_neg (fun q => by first | exact q.1 c24 | exact q.2 c31)]; exact ⟨rfl, rfl, rfl⟩)
    · refine v_aload_n dX2_takeAtLineStart_27 rfl (by rfl) ?_
      refine v_getf hE dX2_takeAtLineStart_28 fX2_19 (by repeat (first | assumption | exact va_up_self _ _ _ | refine (va_up_ne _ _ (by omega)).trans ?_)) (by rfl) ?_
      refine v_if_eqN (tgt := 43) dX2_takeAtLineStart_31 (by decide) (by omega) (fun c31 => ?_) (fun c31 => ?_)
      · refine v_aload_n dX2_takeAtLineStart_43 rfl (by rfl) ?_
        refine v_iconst (v := nI 2) dX2_takeAtLineStart_44 (by decide) ?_
        refine w_callV hE dX2_takeAtLineStart_45 kX2_43 (by repeat (first | assumption | exact va_up_self _ _ _ | refine (va_up_ne _ _ (by omega)).trans ?_)) (by rfl) (by rfl) (sX2_fail hE h hg hb hd) rfl (by decide) (by decide) (by exact Nat.le_of_ble_eq_true rfl) (by omega) (by omega) (fun v9 g9 u9 h9 => ?_) (fun _ _ _ h => by cases h.1)
        obtain ⟨hv9, hu9, hg9⟩ := h9
        replace hu9 := hu9.symm
        replace hg9 := hg9.symm
        subst hu9
        subst hg9
        cases hv9
        refine v_iret dX2_takeAtLineStart_48 rfl (by rfl) ?_
        unfold rLine
        first | (rw [if_pos ⟨c3, c11⟩]; exact ⟨rfl, rfl, rfl⟩) | (rw [if_neg (fun q => by first | exact c3 q.1 | exact q.2 c11), if_pos ⟨c24, c31⟩]; exact ⟨rfl, rfl, rfl⟩) | (rw [if_neg (fun q => by first | exact c3 q.1 | exact q.2 c11), if_neg (fun q => by first | exact q.1 c24 | exact q.2 c31)]; exact ⟨rfl, rfl, rfl⟩)
      · refine v_aload_n dX2_takeAtLineStart_34 rfl (by rfl) ?_
        refine v_iload_n dX2_takeAtLineStart_35 rfl (by rfl) ?_
        refine w_callSN hE dX2_takeAtLineStart_36 kX2_68 (by rfl) (sX9_letterOf hE) rfl (fun _ _ _ h => by cases h.1) (by decide) (by decide) (by exact Nat.le_of_ble_eq_true rfl) (by omega) (by omega) (fun v9 g9 u9 h9 => ?_)
        obtain ⟨hv9, hu9, hg9⟩ := h9
        replace hu9 := hu9.symm
        replace hg9 := hg9.symm
        subst hu9
        subst hg9
        cases hv9
        refine w_callV hE dX2_takeAtLineStart_39 kX2_71 (by repeat (first | assumption | exact va_up_self _ _ _ | refine (va_up_ne _ _ (by omega)).trans ?_)) (by rfl) (by rfl) (sX2_takeLetter hE h hg hb hd (hc (by assumption))) rfl (by decide) (by decide) (by exact Nat.le_of_ble_eq_true rfl) (by omega) (by omega) (fun v9 g9 u9 h9 => ?_) (fun _ _ _ h => by cases h.1)
        obtain ⟨hv9, hu9, hg9⟩ := h9
        replace hu9 := hu9.symm
        replace hg9 := hg9.symm
        subst hu9
        subst hg9
        cases hv9
        refine v_iret dX2_takeAtLineStart_42 rfl nar_bI ?_
        unfold rLine
        first | (rw [if_pos ⟨c3, c11⟩]; exact ⟨rfl, rfl, rfl⟩) | (rw [if_neg (fun q => by first | exact c3 q.1 | exact q.2 c11), if_pos ⟨c24, c31⟩]; exact ⟨rfl, rfl, rfl⟩) | (rw [if_neg (fun q => by first | exact c3 q.1 | exact q.2 c11), if_neg (fun q => by first | exact q.1 c24 | exact q.2 c31)]; exact ⟨rfl, rfl, rfl⟩)
  · refine v_aload_n dX2_takeAtLineStart_6 rfl (by rfl) ?_
    refine v_getf hE dX2_takeAtLineStart_7 fX2_19 (by repeat (first | assumption | exact va_up_self _ _ _ | refine (va_up_ne _ _ (by omega)).trans ?_)) (by rfl) ?_
    refine v_iconst (v := nI 3) dX2_takeAtLineStart_10 (by decide) ?_
    refine v_icmp_eqN (tgt := 19) dX2_takeAtLineStart_11 (by decide) (by omega) (by omega) (fun c11 => ?_) (fun c11 => ?_)
    · refine v_iload_n dX2_takeAtLineStart_19 rfl (by rfl) ?_
      refine w_callSN hE dX2_takeAtLineStart_20 kX2_68 (by rfl) (sX9_letterOf hE) rfl (fun _ _ _ h => by cases h.1) (by decide) (by decide) (by exact Nat.le_of_ble_eq_true rfl) (by omega) (by omega) (fun v9 g9 u9 h9 => ?_)
      obtain ⟨hv9, hu9, hg9⟩ := h9
      replace hu9 := hu9.symm
      replace hg9 := hg9.symm
      subst hu9
      subst hg9
      cases hv9
      refine v_iconst (v := (-1)) dX2_takeAtLineStart_23 (by decide) ?_
      refine v_icmp_eq (tgt := 43) dX2_takeAtLineStart_24 (by decide) (fun c24 => ?_) (fun c24 => ?_)
      · refine v_aload_n dX2_takeAtLineStart_43 rfl (by rfl) ?_
        refine v_iconst (v := nI 2) dX2_takeAtLineStart_44 (by decide) ?_
        refine w_callV hE dX2_takeAtLineStart_45 kX2_43 (by repeat (first | assumption | exact va_up_self _ _ _ | refine (va_up_ne _ _ (by omega)).trans ?_)) (by rfl) (by rfl) (sX2_fail hE h hg hb hd) rfl (by decide) (by decide) (by exact Nat.le_of_ble_eq_true rfl) (by omega) (by omega) (fun v9 g9 u9 h9 => ?_) (fun _ _ _ h => by cases h.1)
        obtain ⟨hv9, hu9, hg9⟩ := h9
        replace hu9 := hu9.symm
        replace hg9 := hg9.symm
        subst hu9
        subst hg9
        cases hv9
        refine v_iret dX2_takeAtLineStart_48 rfl (by rfl) ?_
        unfold rLine
        first | (rw [if_pos ⟨c3, c11⟩]; exact ⟨rfl, rfl, rfl⟩) | (rw [if_neg (fun q => by first | exact c3 q.1 | exact q.2 c11), if_pos ⟨c24, c31⟩]; exact ⟨rfl, rfl, rfl⟩) | (rw [if_neg (fun q => by first | exact c3 q.1 | exact q.2 c11), if_neg (fun q => by first | exact q.1 c24 | exact q.2 c31)]; exact ⟨rfl, rfl, rfl⟩)
      · refine v_aload_n dX2_takeAtLineStart_27 rfl (by rfl) ?_
        refine v_getf hE dX2_takeAtLineStart_28 fX2_19 (by repeat (first | assumption | exact va_up_self _ _ _ | refine (va_up_ne _ _ (by omega)).trans ?_)) (by rfl) ?_
        refine v_if_eqN (tgt := 43) dX2_takeAtLineStart_31 (by decide) (by omega) (fun c31 => ?_) (fun c31 => ?_)
        · refine v_aload_n dX2_takeAtLineStart_43 rfl (by rfl) ?_
          refine v_iconst (v := nI 2) dX2_takeAtLineStart_44 (by decide) ?_
          refine w_callV hE dX2_takeAtLineStart_45 kX2_43 (by repeat (first | assumption | exact va_up_self _ _ _ | refine (va_up_ne _ _ (by omega)).trans ?_)) (by rfl) (by rfl) (sX2_fail hE h hg hb hd) rfl (by decide) (by decide) (by exact Nat.le_of_ble_eq_true rfl) (by omega) (by omega) (fun v9 g9 u9 h9 => ?_) (fun _ _ _ h => by cases h.1)
          obtain ⟨hv9, hu9, hg9⟩ := h9
          replace hu9 := hu9.symm
          replace hg9 := hg9.symm
          subst hu9
          subst hg9
          cases hv9
          refine v_iret dX2_takeAtLineStart_48 rfl (by rfl) ?_
          unfold rLine
          first | (rw [if_pos ⟨c3, c11⟩]; exact ⟨rfl, rfl, rfl⟩) | (rw [if_neg (fun q => by first | exact c3 q.1 | exact q.2 c11), if_pos ⟨c24, c31⟩]; exact ⟨rfl, rfl, rfl⟩) | (rw [if_neg (fun q => by first | exact c3 q.1 | exact q.2 c11), if_neg (fun q => by first | exact q.1 c24 | exact q.2 c31)]; exact ⟨rfl, rfl, rfl⟩)
        · refine v_aload_n dX2_takeAtLineStart_34 rfl (by rfl) ?_
          refine v_iload_n dX2_takeAtLineStart_35 rfl (by rfl) ?_
          refine w_callSN hE dX2_takeAtLineStart_36 kX2_68 (by rfl) (sX9_letterOf hE) rfl (fun _ _ _ h => by cases h.1) (by decide) (by decide) (by exact Nat.le_of_ble_eq_true rfl) (by omega) (by omega) (fun v9 g9 u9 h9 => ?_)
          obtain ⟨hv9, hu9, hg9⟩ := h9
          replace hu9 := hu9.symm
          replace hg9 := hg9.symm
          subst hu9
          subst hg9
          cases hv9
          refine w_callV hE dX2_takeAtLineStart_39 kX2_71 (by repeat (first | assumption | exact va_up_self _ _ _ | refine (va_up_ne _ _ (by omega)).trans ?_)) (by rfl) (by rfl) (sX2_takeLetter hE h hg hb hd (hc (by assumption))) rfl (by decide) (by decide) (by exact Nat.le_of_ble_eq_true rfl) (by omega) (by omega) (fun v9 g9 u9 h9 => ?_) (fun _ _ _ h => by cases h.1)
          obtain ⟨hv9, hu9, hg9⟩ := h9
          replace hu9 := hu9.symm
          replace hg9 := hg9.symm
          subst hu9
          subst hg9
          cases hv9
          refine v_iret dX2_takeAtLineStart_42 rfl nar_bI ?_
          unfold rLine
          first | (rw [if_pos ⟨c3, c11⟩]; exact ⟨rfl, rfl, rfl⟩) | (rw [if_neg (fun q => by first | exact c3 q.1 | exact q.2 c11), if_pos ⟨c24, c31⟩]; exact ⟨rfl, rfl, rfl⟩) | (rw [if_neg (fun q => by first | exact c3 q.1 | exact q.2 c11), if_neg (fun q => by first | exact q.1 c24 | exact q.2 c31)]; exact ⟨rfl, rfl, rfl⟩)
    · refine v_aload_n dX2_takeAtLineStart_14 rfl (by rfl) ?_
      refine w_callV hE dX2_takeAtLineStart_15 kX2_64 (by repeat (first | assumption | exact va_up_self _ _ _ | refine (va_up_ne _ _ (by omega)).trans ?_)) (by rfl) (by rfl) (sX2_openSequence hE h hg hb hd) rfl (by decide) (by decide) (by exact Nat.le_of_ble_eq_true rfl) (by omega) (by omega) (fun v9 g9 u9 h9 => ?_) (fun _ _ _ h => by cases h.1)
      obtain ⟨hv9, hu9, hg9⟩ := h9
      replace hu9 := hu9.symm
      replace hg9 := hg9.symm
      subst hu9
      subst hg9
      cases hv9
      refine v_iret dX2_takeAtLineStart_18 rfl nar_bI ?_
      unfold rLine
      first | (rw [if_pos ⟨c3, c11⟩]; exact ⟨rfl, rfl, rfl⟩) | (rw [if_neg (fun q => by first | exact c3 q.1 | exact q.2 c11), if_pos ⟨c24, c31⟩]; exact ⟨rfl, rfl, rfl⟩) | (rw [if_neg (fun q => by first | exact c3 q.1 | exact q.2 c11), if_neg (fun q => by first | exact q.1 c24 | exact q.2 c31)]; exact ⟨rfl, rfl, rfl⟩)

set_option maxRecDepth 100000 in
set_option maxHeartbeats 4000000 in
/-- GenomeReader.take -/
theorem sX2_take {E : eN} (hE : eOk E) {f : aH} {t : Nat} {a c tp : Nat} {v : rV} {g : gV} {x : Int32} (h : rgP tp c f a v g) (hg : gOk g) (hb : rB v) (hd : a < c ∨ c + 8 < a) (hc : rSt v ≠ 0 → 0 < gCt g) : mT E mX2_take 0 0 [.ref a, .int x] f t (fun o f' t' => o = .inl (some (.int (bI (rTake v g x).1))) ∧ t' = t ∧ f' = rgS tp c f a (rTake v g x).2.1 (rTake v g x).2.2) := by
  refine mT_of (n := 0) (lo := [some (.ref a), some (.int x)]) (by decide) (by exact Nat.le_of_ble_eq_true rfl) rfl rfl ?_
  obtain ⟨h9, h0, h1, h2, h3, h4, h5, h6, h7, h8⟩ := id h
  obtain ⟨⟨k0, k1, k2⟩, k3, k4, k5⟩ := id hg
  obtain ⟨b0, b1, b2, b3, b4, b5, b6, b7, b8⟩ := id hb
  refine v_aload_n dX2_take_0 rfl (by rfl) ?_
  refine v_getf hE dX2_take_1 fX2_19 (by repeat (first | assumption | exact va_up_self _ _ _ | refine (va_up_ne _ _ (by omega)).trans ?_)) (by rfl) ?_
  by_cases e1 : rSt v = 1
  · refine v_eqi (y := nI 1) (congrArg nI e1) ?_
    refine v_tableIn (off := 32) (tgt := 36) dX2_take_4 (by decide) (by decide) (by decide) (by decide) ?_
    refine v_aload_n dX2_take_36 rfl (by rfl) ?_
    refine v_iload_n dX2_take_37 rfl (by rfl) ?_
    refine w_callV hE dX2_take_38 kX2_52 (by repeat (first | assumption | exact va_up_self _ _ _ | refine (va_up_ne _ _ (by omega)).trans ?_)) (by rfl) (by rfl) (sX2_takeInName hE h hg hb hd (hc (by omega))) rfl (by decide) (by decide) (by exact Nat.le_of_ble_eq_true rfl) (by omega) (by omega) (fun v9 g9 u9 h9 => ?_) (fun _ _ _ h => by cases h.1)
    obtain ⟨hv9, hu9, hg9⟩ := h9
    replace hu9 := hu9.symm
    replace hg9 := hg9.symm
    subst hu9
    subst hg9
    cases hv9
    refine v_iret dX2_take_41 rfl nar_bI ?_
    unfold rTake
    rw [if_pos e1]
    exact ⟨rfl, rfl, rfl⟩
  by_cases e2 : rSt v = 2
  · refine v_eqi (y := nI 2) (congrArg nI e2) ?_
    refine v_tableIn (off := 38) (tgt := 42) dX2_take_4 (by decide) (by decide) (by decide) (by decide) ?_
    refine v_aload_n dX2_take_42 rfl (by rfl) ?_
    refine v_iload_n dX2_take_43 rfl (by rfl) ?_
    refine w_callV hE dX2_take_44 kX2_55 (by repeat (first | assumption | exact va_up_self _ _ _ | refine (va_up_ne _ _ (by omega)).trans ?_)) (by rfl) (by rfl) (sX2_takeInRemark hE h hg hb hd (hc (by omega))) rfl (by decide) (by decide) (by exact Nat.le_of_ble_eq_true rfl) (by omega) (by omega) (fun v9 g9 u9 h9 => ?_) (fun _ _ _ h => by cases h.1)
    obtain ⟨hv9, hu9, hg9⟩ := h9
    replace hu9 := hu9.symm
    replace hg9 := hg9.symm
    subst hu9
    subst hg9
    cases hv9
    refine v_iret dX2_take_47 rfl nar_bI ?_
    unfold rTake
    rw [if_neg e1, if_pos e2]
    exact ⟨rfl, rfl, rfl⟩
  by_cases e4 : rSt v = 4
  · refine v_eqi (y := nI 4) (congrArg nI e4) ?_
    refine v_tableIn (off := 44) (tgt := 48) dX2_take_4 (by decide) (by decide) (by decide) (by decide) ?_
    refine v_aload_n dX2_take_48 rfl (by rfl) ?_
    refine v_iload_n dX2_take_49 rfl (by rfl) ?_
    refine w_callV hE dX2_take_50 kX2_58 (by repeat (first | assumption | exact va_up_self _ _ _ | refine (va_up_ne _ _ (by omega)).trans ?_)) (by rfl) (by rfl) (sX2_takeInLetters hE h hg hb hd (hc (by omega))) rfl (by decide) (by decide) (by exact Nat.le_of_ble_eq_true rfl) (by omega) (by omega) (fun v9 g9 u9 h9 => ?_) (fun _ _ _ h => by cases h.1)
    obtain ⟨hv9, hu9, hg9⟩ := h9
    replace hu9 := hu9.symm
    replace hg9 := hg9.symm
    subst hu9
    subst hg9
    cases hv9
    refine v_iret dX2_take_53 rfl nar_bI ?_
    unfold rTake
    rw [if_neg e1, if_neg e2, if_pos e4]
    exact ⟨rfl, rfl, rfl⟩
  by_cases e3 : rSt v = 3
  · refine v_eqi (y := nI 3) (congrArg nI e3) ?_
    refine v_tableIn (off := 50) (tgt := 54) dX2_take_4 (by decide) (by decide) (by decide) (by decide) ?_
    refine v_aload_n dX2_take_54 rfl (by rfl) ?_
    refine v_iload_n dX2_take_55 rfl (by rfl) ?_
    refine w_callV hE dX2_take_56 kX2_61 (by repeat (first | assumption | exact va_up_self _ _ _ | refine (va_up_ne _ _ (by omega)).trans ?_)) (by rfl) (by rfl) (sX2_takeAtLineStart hE h hg hb hd hc) rfl (by decide) (by decide) (by exact Nat.le_of_ble_eq_true rfl) (by omega) (by omega) (fun v9 g9 u9 h9 => ?_) (fun _ _ _ h => by cases h.1)
    obtain ⟨hv9, hu9, hg9⟩ := h9
    replace hu9 := hu9.symm
    replace hg9 := hg9.symm
    subst hu9
    subst hg9
    cases hv9
    refine v_iret dX2_take_59 rfl nar_bI ?_
    unfold rTake
    rw [if_neg e1, if_neg e2, if_neg e4]
    exact ⟨rfl, rfl, rfl⟩
  refine v_tableOut (tgt := 54) dX2_take_4 (by rw [nI_toInt (by omega)]; omega) (by decide) ?_
  refine v_aload_n dX2_take_54 rfl (by rfl) ?_
  refine v_iload_n dX2_take_55 rfl (by rfl) ?_
  refine w_callV hE dX2_take_56 kX2_61 (by repeat (first | assumption | exact va_up_self _ _ _ | refine (va_up_ne _ _ (by omega)).trans ?_)) (by rfl) (by rfl) (sX2_takeAtLineStart hE h hg hb hd hc) rfl (by decide) (by decide) (by exact Nat.le_of_ble_eq_true rfl) (by omega) (by omega) (fun v9 g9 u9 h9 => ?_) (fun _ _ _ h => by cases h.1)
  obtain ⟨hv9, hu9, hg9⟩ := h9
  replace hu9 := hu9.symm
  replace hg9 := hg9.symm
  subst hu9
  subst hg9
  cases hv9
  refine v_iret dX2_take_59 rfl nar_bI ?_
  unfold rTake
  rw [if_neg e1, if_neg e2, if_neg e4]
  exact ⟨rfl, rfl, rfl⟩
