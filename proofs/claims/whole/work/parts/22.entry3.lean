theorem cpy_nI {s u : Nat → Nat} {i j n : Nat} : va_cpy (fun k => nI (s k)) (fun k => nI (u k)) i j n = fun k => nI (va_cpy s u i j n k) := by
  funext k
  unfold va_cpy
  split <;> rfl
theorem va_up_le {s : Nat → Nat} {i x m : Nat} (h : ∀ k, s k ≤ m) (hx : x ≤ m) : ∀ k, va_up s i x k ≤ m := fun k => by
  unfold va_up
  split
  · exact hx
  · exact h k
theorem va_cpy_le {s u : Nat → Nat} {i j n m : Nat} (h : ∀ k, s k ≤ m) (h2 : ∀ k, u k ≤ m) : ∀ k, va_cpy s u i j n k ≤ m := fun k => by
  unfold va_cpy
  split
  · exact h _
  · exact h2 _
theorem eAddL_ok {v : eV} {r : Nat} {x : Int32} (h : enOk v) : enOk (eAddL v r x) := by
  unfold eAddL
  split
  · exact ⟨h.1, va_up_le h.2.1 (by omega), h.2.2⟩
  · exact h
theorem eAddL_ro {v : eV} {r : Nat} {x : Int32} : eRo (eAddL v r x) = eRo v := by
  unfold eAddL
  split <;> rfl
theorem eHead_ok {v w : eV} (h : enOk v) (hw : enOk w) : enOk (eHead v w) := ⟨h.1, h.2.1, h.2.2.1, hw.2.2.2⟩
theorem eCopyC_ok {v w : eV} {i j : Nat} (h : enOk v) (hw : enOk w) : enOk (eCopyC v i w j) := ⟨h.1, h.2.1, va_up_le h.2.2.1 (hw.2.2.1 j), h.2.2.2⟩
theorem eNoC_ok {v : eV} {i : Nat} (h : enOk v) : enOk (eNoC v i) := ⟨h.1, h.2.1, va_up_le h.2.2.1 (by omega), h.2.2.2⟩
theorem eCopyR_ok {v w : eV} {r q : Nat} (h : enOk v) (hw : enOk w) : enOk (eCopyR v r w q) := ⟨h.1, va_up_le h.2.1 (hw.2.1 q), h.2.2⟩
def eBody (v w : eV) : eV := wRo (wRs (wLe (eHead v w) (va_cpy (eLe w) (eLe v) 0 0 96)) (va_cpy (eRs w) (eRs v) 0 0 4)) (eRo w)
theorem eBody_ok {v w : eV} (h : enOk v) (hw : enOk w) : enOk (eBody v w) := ⟨hw.1, va_cpy_le hw.2.1 h.2.1, h.2.2.1, hw.2.2.2⟩
def eCopy (v w : eV) : eV := eCopyC (eCopyC (eCopyC (eBody v w) 0 w 0) (0 + 1) w (0 + 1)) (0 + 1 + 1) w (0 + 1 + 1)
theorem eCopy_ok {v w : eV} (h : enOk v) (hw : enOk w) : enOk (eCopy v w) := eCopyC_ok (eCopyC_ok (eCopyC_ok (eBody_ok h hw) hw) hw) hw
theorem en_enS {f : aH} {a b : Nat} {v w : eV} (h : enP f b w) (hd : b + 6 < a ∨ a + 6 < b) : enP (enS f a v) b w := by
  obtain ⟨h0, h1, h2, h3, h4, h5, h6⟩ := h
  refine ⟨?_, ?_, ?_, ?_, ?_, ?_, ?_⟩ <;> (rw [enS_ne (by omega)]; assumption)

set_option maxRecDepth 100000 in
set_option maxHeartbeats 4000000 in
/-- Entry.copyCalls, of one record with itself -/
theorem sX0_copyCalls_self {E : eN} (hE : eOk E) {f : aH} {t : Nat} {a i j : Nat} {v : eV} (h : enP f a v) (hv : enOk v) (hi : i < 3) (hj : j < 3) : mT E mX0_copyCalls 0 0 [.ref a, .int (nI i), .ref a, .int (nI j)] f t (fun o f' t' => o = .inl none ∧ t' = t ∧ f' = enS f a (eCopyC v i v j)) := by
  refine mT_of (n := 1) (lo := [some (.ref a), some (.int (nI i)), some (.ref a), some (.int (nI j)), none]) (by decide) (by exact Nat.le_of_ble_eq_true rfl) rfl rfl ?_
  obtain ⟨h0, h1, h2, h3, h4, h5, h6⟩ := id h
  obtain ⟨k0, k1, k2, k3⟩ := id hv
  refine v_iconst (v := nI 0) dX0_copyCalls_0 (by decide) ?_
  refine v_istore dX0_copyCalls_1 (by decide) ?_
  skip
  refine v_iload dX0_copyCalls_3 (by rfl) ?_
  refine v_iconst (v := nI 2) dX0_copyCalls_5 (by decide) ?_
  refine v_icmp_geN (tgt := 37) dX0_copyCalls_6 (by decide) (by omega) (by omega) (fun c6 => ?_) (fun c6 => ?_)
  · exact absurd c6 (by omega)
  · refine v_aload_n dX0_copyCalls_9 rfl (by rfl) ?_
    refine v_getf hE dX0_copyCalls_10 fX0_21 (by repeat (first | assumption | exact va_up_self _ _ _ | refine (va_up_ne _ _ (by omega)).trans ?_)) (by rfl) ?_
    refine v_iload_n dX0_copyCalls_13 rfl (by rfl) ?_
    refine v_iconst (v := nI 2) dX0_copyCalls_14 (by decide) ?_
    refine v_imulN dX0_copyCalls_15 ?_
    refine v_iload dX0_copyCalls_16 (by rfl) ?_
    refine v_iaddN dX0_copyCalls_18 ?_
    refine v_aload_n dX0_copyCalls_19 rfl (by rfl) ?_
    refine v_getf hE dX0_copyCalls_20 fX0_21 (by repeat (first | assumption | exact va_up_self _ _ _ | refine (va_up_ne _ _ (by omega)).trans ?_)) (by rfl) ?_
    refine v_iload_n dX0_copyCalls_23 rfl (by rfl) ?_
    refine v_iconst (v := nI 2) dX0_copyCalls_24 (by decide) ?_
    refine v_imulN dX0_copyCalls_25 ?_
    refine v_iload dX0_copyCalls_26 (by rfl) ?_
    refine v_iaddN dX0_copyCalls_28 ?_
    refine v_iald hE dX0_copyCalls_29 (by repeat (first | assumption | exact va_up_self _ _ _ | refine (va_up_ne _ _ (by omega)).trans ?_)) (by omega) (by omega) ?_
    first | refine v_eqi (pk_un (by omega)) ?_ | skip
    refine v_iast hE dX0_copyCalls_30 (by repeat (first | assumption | exact va_up_self _ _ _ | refine (va_up_ne _ _ (by omega)).trans ?_)) (by omega) (by omega) ?_
    refine v_iincN (y := 1) dX0_copyCalls_31 (by rfl) (by decide) (by decide) ?_
    refine v_goto (tgt := 3) dX0_copyCalls_34 (by decide) ?_
    refine v_iload dX0_copyCalls_3 (by rfl) ?_
    refine v_iconst (v := nI 2) dX0_copyCalls_5 (by decide) ?_
    refine v_icmp_geN (tgt := 37) dX0_copyCalls_6 (by decide) (by omega) (by omega) (fun c6 => ?_) (fun c6 => ?_)
    · exact absurd c6 (by omega)
    · refine v_aload_n dX0_copyCalls_9 rfl (by rfl) ?_
      refine v_getf hE dX0_copyCalls_10 fX0_21 (by repeat (first | assumption | exact va_up_self _ _ _ | refine (va_up_ne _ _ (by omega)).trans ?_)) (by rfl) ?_
      refine v_iload_n dX0_copyCalls_13 rfl (by rfl) ?_
      refine v_iconst (v := nI 2) dX0_copyCalls_14 (by decide) ?_
      refine v_imulN dX0_copyCalls_15 ?_
      refine v_iload dX0_copyCalls_16 (by rfl) ?_
      refine v_iaddN dX0_copyCalls_18 ?_
      refine v_aload_n dX0_copyCalls_19 rfl (by rfl) ?_
      refine v_getf hE dX0_copyCalls_20 fX0_21 (by repeat (first | assumption | exact va_up_self _ _ _ | refine (va_up_ne _ _ (by omega)).trans ?_)) (by rfl) ?_
      refine v_iload_n dX0_copyCalls_23 rfl (by rfl) ?_
      refine v_iconst (v := nI 2) dX0_copyCalls_24 (by decide) ?_
      refine v_imulN dX0_copyCalls_25 ?_
      refine v_iload dX0_copyCalls_26 (by rfl) ?_
      refine v_iaddN dX0_copyCalls_28 ?_
      refine v_iald hE dX0_copyCalls_29 (by repeat (first | assumption | exact va_up_self _ _ _ | refine (va_up_ne _ _ (by omega)).trans ?_)) (by omega) (by omega) ?_
      first | refine v_eqi (pk_un (by omega)) ?_ | skip
      refine v_iast hE dX0_copyCalls_30 (by repeat (first | assumption | exact va_up_self _ _ _ | refine (va_up_ne _ _ (by omega)).trans ?_)) (by omega) (by omega) ?_
      refine v_iincN (y := 1) dX0_copyCalls_31 (by rfl) (by decide) (by decide) ?_
      refine v_goto (tgt := 3) dX0_copyCalls_34 (by decide) ?_
      refine v_iload dX0_copyCalls_3 (by rfl) ?_
      refine v_iconst (v := nI 2) dX0_copyCalls_5 (by decide) ?_
      refine v_icmp_geN (tgt := 37) dX0_copyCalls_6 (by decide) (by omega) (by omega) (fun c6 => ?_) (fun c6 => ?_)
      · refine v_aload_n dX0_copyCalls_37 rfl (by rfl) ?_
        refine v_getf hE dX0_copyCalls_38 fX0_24 (by repeat (first | assumption | exact va_up_self _ _ _ | refine (va_up_ne _ _ (by omega)).trans ?_)) (by rfl) ?_
        refine v_iload_n dX0_copyCalls_41 rfl (by rfl) ?_
        refine v_aload_n dX0_copyCalls_42 rfl (by rfl) ?_
        refine v_getf hE dX0_copyCalls_43 fX0_24 (by repeat (first | assumption | exact va_up_self _ _ _ | refine (va_up_ne _ _ (by omega)).trans ?_)) (by rfl) ?_
        refine v_iload_n dX0_copyCalls_46 rfl (by rfl) ?_
        refine v_iald hE dX0_copyCalls_47 (by repeat (first | assumption | exact va_up_self _ _ _ | refine (va_up_ne _ _ (by omega)).trans ?_)) (by omega) (by omega) ?_
        refine v_iast hE dX0_copyCalls_48 (by repeat (first | assumption | exact va_up_self _ _ _ | refine (va_up_ne _ _ (by omega)).trans ?_)) (by omega) (by omega) ?_
        rw [upd_nI]
        refine v_aload_n dX0_copyCalls_49 rfl (by rfl) ?_
        refine v_getf hE dX0_copyCalls_50 fX0_27 (by repeat (first | assumption | exact va_up_self _ _ _ | refine (va_up_ne _ _ (by omega)).trans ?_)) (by rfl) ?_
        refine v_iload_n dX0_copyCalls_53 rfl (by rfl) ?_
        refine v_aload_n dX0_copyCalls_54 rfl (by rfl) ?_
        refine v_getf hE dX0_copyCalls_55 fX0_27 (by repeat (first | assumption | exact va_up_self _ _ _ | refine (va_up_ne _ _ (by omega)).trans ?_)) (by rfl) ?_
        refine v_iload_n dX0_copyCalls_58 rfl (by rfl) ?_
        refine v_zald hE dX0_copyCalls_59 (by repeat (first | assumption | exact va_up_self _ _ _ | refine (va_up_ne _ _ (by omega)).trans ?_)) (by omega) (by omega) ?_
        refine v_zast hE dX0_copyCalls_60 (by repeat (first | assumption | exact va_up_self _ _ _ | refine (va_up_ne _ _ (by omega)).trans ?_)) (by omega) (by omega) ?_
        rw [upd_bI]
        refine v_ret dX0_copyCalls_61 rfl ?_
        exact ⟨rfl, rfl, enS_ext (by repeat (first | assumption | exact va_up_self _ _ _ | refine (va_up_ne _ _ (by omega)).trans ?_)) (by repeat (first | assumption | exact va_up_self _ _ _ | refine (va_up_ne _ _ (by omega)).trans ?_)) (by repeat (first | assumption | exact va_up_self _ _ _ | refine (va_up_ne _ _ (by omega)).trans ?_)) (by repeat (first | assumption | exact va_up_self _ _ _ | refine (va_up_ne _ _ (by omega)).trans ?_)) (by repeat (first | assumption | exact va_up_self _ _ _ | refine (va_up_ne _ _ (by omega)).trans ?_)) (by repeat (first | assumption | exact va_up_self _ _ _ | refine (va_up_ne _ _ (by omega)).trans ?_)) (by repeat (first | assumption | exact va_up_self _ _ _ | refine (va_up_ne _ _ (by omega)).trans ?_)) (fun b hb => by simp only [va_up]; (repeat rw [if_neg (by omega)]))⟩
      · exact absurd c6 (by omega)

set_option maxRecDepth 100000 in
set_option maxHeartbeats 4000000 in
/-- Entry.copyFrom -/
theorem sX0_copyFrom {E : eN} (hE : eOk E) {f : aH} {t : Nat} {a b : Nat} {v w : eV} (h : enP f a v) (hv : enOk v) (hb : enP f b w) (hw : enOk w) (hd : b + 6 < a ∨ a + 6 < b) : mT E mX0_copyFrom 0 0 [.ref a, .ref b] f t (fun o f' t' => o = .inl none ∧ t' = t ∧ f' = enS f a (eCopy v w)) := by
  refine mT_of (n := 1) (lo := [some (.ref a), some (.ref b), none]) (by decide) (by exact Nat.le_of_ble_eq_true rfl) rfl rfl ?_
  obtain ⟨h0, h1, h2, h3, h4, h5, h6⟩ := id h
  obtain ⟨k0, k1, k2, k3⟩ := id hv
  obtain ⟨g0, g1, g2, g3, g4, g5, g6⟩ := id hb
  obtain ⟨q0, q1, q2, q3⟩ := id hw
  refine v_aload_n dX0_copyFrom_0 rfl (by rfl) ?_
  refine v_aload_n dX0_copyFrom_1 rfl (by rfl) ?_
  refine w_callV hE dX0_copyFrom_2 kX0_31 (by repeat (first | assumption | exact va_up_self _ _ _ | refine (va_up_ne _ _ (by omega)).trans ?_)) (by rfl) (by rfl) (sX0_copyHead hE h hv hb hw hd) rfl (by decide) (by decide) (by exact Nat.le_of_ble_eq_true rfl) (by omega) (by omega) (fun v9 g9 u9 h9 => ?_) (fun _ _ _ h => by cases h.1)
  obtain ⟨hv, rfl, rfl⟩ := h9
  cases hv
  obtain ⟨e0, e1, e2, e3, e4, e5, e6⟩ := enP_S f a (eHead v w)
  refine v_aload_n dX0_copyFrom_5 rfl (by rfl) ?_
  refine v_getf hE dX0_copyFrom_6 fX0_15 (by repeat (first | assumption | exact va_up_self _ _ _ | refine (va_up_ne _ _ (by omega)).trans ?_)) (by rfl) ?_
  refine v_iconst (v := nI 0) dX0_copyFrom_9 (by decide) ?_
  refine v_aload_n dX0_copyFrom_10 rfl (by rfl) ?_
  refine v_getf hE dX0_copyFrom_11 fX0_15 (by repeat (first | assumption | exact va_up_self _ _ _ | refine (va_up_ne _ _ (by omega)).trans ?_)) (by rfl) ?_
  refine v_iconst (v := nI 0) dX0_copyFrom_14 (by decide) ?_
  refine v_aload_n dX0_copyFrom_15 rfl (by rfl) ?_
  refine v_getf hE dX0_copyFrom_16 fX0_15 (by repeat (first | assumption | exact va_up_self _ _ _ | refine (va_up_ne _ _ (by omega)).trans ?_)) (by rfl) ?_
  refine v_alen hE (k := 0) dX0_copyFrom_19 (by decide) (by repeat (first | assumption | exact va_up_self _ _ _ | refine (va_up_ne _ _ (by omega)).trans ?_)) ?_
  refine v_acopy hE dX0_copyFrom_20 aX0_35 (by decide) (by exact Nat.le_of_ble_eq_true rfl) (by repeat (first | assumption | exact va_up_self _ _ _ | refine (va_up_ne _ _ (by omega)).trans ?_)) (by repeat (first | assumption | exact va_up_self _ _ _ | refine (va_up_ne _ _ (by omega)).trans ?_)) (by omega) (by omega) (by omega) (by omega) (by omega) ?_
  refine v_aload_n dX0_copyFrom_23 rfl (by rfl) ?_
  refine v_getf hE dX0_copyFrom_24 fX0_18 (by repeat (first | assumption | exact va_up_self _ _ _ | refine (va_up_ne _ _ (by omega)).trans ?_)) (by rfl) ?_
  refine v_iconst (v := nI 0) dX0_copyFrom_27 (by decide) ?_
  refine v_aload_n dX0_copyFrom_28 rfl (by rfl) ?_
  refine v_getf hE dX0_copyFrom_29 fX0_18 (by repeat (first | assumption | exact va_up_self _ _ _ | refine (va_up_ne _ _ (by omega)).trans ?_)) (by rfl) ?_
  refine v_iconst (v := nI 0) dX0_copyFrom_32 (by decide) ?_
  refine v_iconst (v := nI 4) dX0_copyFrom_33 (by decide) ?_
  refine v_acopy hE dX0_copyFrom_34 aX0_35 (by decide) (by exact Nat.le_of_ble_eq_true rfl) (by repeat (first | assumption | exact va_up_self _ _ _ | refine (va_up_ne _ _ (by omega)).trans ?_)) (by repeat (first | assumption | exact va_up_self _ _ _ | refine (va_up_ne _ _ (by omega)).trans ?_)) (by omega) (by omega) (by omega) (by omega) (by omega) ?_
  rw [cpy_nI]
  refine v_aload_n dX0_copyFrom_37 rfl (by rfl) ?_
  refine v_aload_n dX0_copyFrom_38 rfl (by rfl) ?_
  refine v_getf hE dX0_copyFrom_39 fX0_41 (by repeat (first | assumption | exact va_up_self _ _ _ | refine (va_up_ne _ _ (by omega)).trans ?_)) (by rfl) ?_
  refine v_putf hE dX0_copyFrom_42 fX0_41 (by repeat (first | assumption | exact va_up_self _ _ _ | refine (va_up_ne _ _ (by omega)).trans ?_)) (by exact Nat.le_of_ble_eq_true rfl) (by rfl) (by rfl) (by rfl) ?_
  refine v_iconst (v := nI 0) dX0_copyFrom_45 (by decide) ?_
  refine v_istore_n dX0_copyFrom_46 rfl (by decide) ?_
  refine v_hp (show _ = enS f a (eBody v w) from enS_ext (by repeat (first | assumption | exact va_up_self _ _ _ | refine (va_up_ne _ _ (by omega)).trans ?_)) (by repeat (first | assumption | exact va_up_self _ _ _ | refine (va_up_ne _ _ (by omega)).trans ?_)) (by repeat (first | assumption | exact va_up_self _ _ _ | refine (va_up_ne _ _ (by omega)).trans ?_)) (by repeat (first | assumption | exact va_up_self _ _ _ | refine (va_up_ne _ _ (by omega)).trans ?_)) (by repeat (first | assumption | exact va_up_self _ _ _ | refine (va_up_ne _ _ (by omega)).trans ?_)) (by repeat (first | assumption | exact va_up_self _ _ _ | refine (va_up_ne _ _ (by omega)).trans ?_)) (by repeat (first | assumption | exact va_up_self _ _ _ | refine (va_up_ne _ _ (by omega)).trans ?_)) (fun b hb => by simp only [va_up]; (repeat rw [if_neg (by omega)]); exact enS_ne hb)) ?_
  clear e0 e1 e2 e3 e4 e5 e6
  refine v_iload_n dX0_copyFrom_47 rfl (by rfl) ?_
  refine v_iconst (v := nI 3) dX0_copyFrom_48 (by decide) ?_
  refine v_icmp_geN (tgt := 65) dX0_copyFrom_49 (by decide) (by omega) (by omega) (fun c49 => ?_) (fun c49 => ?_)
  · exact absurd c49 (by omega)
  · refine v_aload_n dX0_copyFrom_52 rfl (by rfl) ?_
    refine v_iload_n dX0_copyFrom_53 rfl (by rfl) ?_
    refine v_aload_n dX0_copyFrom_54 rfl (by rfl) ?_
    refine v_iload_n dX0_copyFrom_55 rfl (by rfl) ?_
    refine w_callV hE dX0_copyFrom_56 kX0_45 (by repeat (first | assumption | exact va_up_self _ _ _ | refine (va_up_ne _ _ (by omega)).trans ?_)) (by rfl) (by rfl) (sX0_copyCalls hE (enP_S f a _) (by first | exact eBody_ok hv hw | exact eCopyC_ok (eBody_ok hv hw) hw | exact eCopyC_ok (eCopyC_ok (eBody_ok hv hw) hw) hw) (en_enS hb hd) hw hd (by omega) (by omega)) rfl (by decide) (by decide) (by exact Nat.le_of_ble_eq_true rfl) (by omega) (by omega) (fun v9 g9 u9 h9 => ?_) (fun _ _ _ h => by cases h.1)
    obtain ⟨hv, rfl, rfl⟩ := h9
    cases hv
    refine v_hp enS_S ?_
    refine v_iincN (y := 1) dX0_copyFrom_59 (by rfl) (by decide) (by decide) ?_
    refine v_goto (tgt := 47) dX0_copyFrom_62 (by decide) ?_
    refine v_iload_n dX0_copyFrom_47 rfl (by rfl) ?_
    refine v_iconst (v := nI 3) dX0_copyFrom_48 (by decide) ?_
    refine v_icmp_geN (tgt := 65) dX0_copyFrom_49 (by decide) (by omega) (by omega) (fun c49 => ?_) (fun c49 => ?_)
    · exact absurd c49 (by omega)
    · refine v_aload_n dX0_copyFrom_52 rfl (by rfl) ?_
      refine v_iload_n dX0_copyFrom_53 rfl (by rfl) ?_
      refine v_aload_n dX0_copyFrom_54 rfl (by rfl) ?_
      refine v_iload_n dX0_copyFrom_55 rfl (by rfl) ?_
      refine w_callV hE dX0_copyFrom_56 kX0_45 (by repeat (first | assumption | exact va_up_self _ _ _ | refine (va_up_ne _ _ (by omega)).trans ?_)) (by rfl) (by rfl) (sX0_copyCalls hE (enP_S f a _) (by first | exact eBody_ok hv hw | exact eCopyC_ok (eBody_ok hv hw) hw | exact eCopyC_ok (eCopyC_ok (eBody_ok hv hw) hw) hw) (en_enS hb hd) hw hd (by omega) (by omega)) rfl (by decide) (by decide) (by exact Nat.le_of_ble_eq_true rfl) (by omega) (by omega) (fun v9 g9 u9 h9 => ?_) (fun _ _ _ h => by cases h.1)
      obtain ⟨hv, rfl, rfl⟩ := h9
      cases hv
      refine v_hp enS_S ?_
      refine v_iincN (y := 1) dX0_copyFrom_59 (by rfl) (by decide) (by decide) ?_
      refine v_goto (tgt := 47) dX0_copyFrom_62 (by decide) ?_
      refine v_iload_n dX0_copyFrom_47 rfl (by rfl) ?_
      refine v_iconst (v := nI 3) dX0_copyFrom_48 (by decide) ?_
      refine v_icmp_geN (tgt := 65) dX0_copyFrom_49 (by decide) (by omega) (by omega) (fun c49 => ?_) (fun c49 => ?_)
      · exact absurd c49 (by omega)
      · refine v_aload_n dX0_copyFrom_52 rfl (by rfl) ?_
        refine v_iload_n dX0_copyFrom_53 rfl (by rfl) ?_
        refine v_aload_n dX0_copyFrom_54 rfl (by rfl) ?_
        refine v_iload_n dX0_copyFrom_55 rfl (by rfl) ?_
        refine w_callV hE dX0_copyFrom_56 kX0_45 (by repeat (first | assumption | exact va_up_self _ _ _ | refine (va_up_ne _ _ (by omega)).trans ?_)) (by rfl) (by rfl) (sX0_copyCalls hE (enP_S f a _) (by first | exact eBody_ok hv hw | exact eCopyC_ok (eBody_ok hv hw) hw | exact eCopyC_ok (eCopyC_ok (eBody_ok hv hw) hw) hw) (en_enS hb hd) hw hd (by omega) (by omega)) rfl (by decide) (by decide) (by exact Nat.le_of_ble_eq_true rfl) (by omega) (by omega) (fun v9 g9 u9 h9 => ?_) (fun _ _ _ h => by cases h.1)
        obtain ⟨hv, rfl, rfl⟩ := h9
        cases hv
        refine v_hp enS_S ?_
        refine v_iincN (y := 1) dX0_copyFrom_59 (by rfl) (by decide) (by decide) ?_
        refine v_goto (tgt := 47) dX0_copyFrom_62 (by decide) ?_
        refine v_iload_n dX0_copyFrom_47 rfl (by rfl) ?_
        refine v_iconst (v := nI 3) dX0_copyFrom_48 (by decide) ?_
        refine v_icmp_geN (tgt := 65) dX0_copyFrom_49 (by decide) (by omega) (by omega) (fun c49 => ?_) (fun c49 => ?_)
        · refine v_ret dX0_copyFrom_65 rfl ?_
          exact ⟨rfl, rfl, rfl⟩
        · exact absurd c49 (by omega)

/-- letters k, k+1 .. of w's first row come behind row r -/
def eRchL (w : eV) (r : Nat) : Nat → Nat → eV → eV
  | 0, _, y => y
  | d + 1, k, y => eRchL w r d (k + 1) (eAddL y r (eLet w 0 (nI k)))
def eRchR (w : eV) (k : Nat) : Nat → Nat → eV → eV
  | 0, _, y => y
  | d + 1, r, y => eRchR w k d (r + 1) (eRchL w r (eRs w 0 - k) k y)
def eRch (v w : eV) : eV := eRchR w (eRs v 0) (eRo v - 0) 0 v

set_option maxRecDepth 100000 in
set_option maxHeartbeats 4000000 in
/-- Entry.reachAsFarAs -/
theorem sX0_reachAsFarAs {E : eN} (hE : eOk E) {f : aH} {t : Nat} {a b : Nat} {v w : eV} (h : enP f a v) (hv : enOk v) (hb : enP f b w) (hw : enOk w) (hd : b + 6 < a ∨ a + 6 < b) : mT E mX0_reachAsFarAs 0 0 [.ref a, .ref b] f t (fun o f' t' => o = .inl none ∧ t' = t ∧ f' = enS f a (eRch v w)) := by
  refine mT_of (n := 3) (lo := [some (.ref a), some (.ref b), none, none, none]) (by decide) (by exact Nat.le_of_ble_eq_true rfl) rfl rfl ?_
  obtain ⟨h0, h1, h2, h3, h4, h5, h6⟩ := id h
  obtain ⟨k0, k1, k2, k3⟩ := id hv
  obtain ⟨g0, g1, g2, g3, g4, g5, g6⟩ := id hb
  obtain ⟨q0, q1, q2, q3⟩ := id hw
  have k4 := k1 0
  have q4 := q1 0
  have lp : ∀ (dr r : Nat) (y : eV) (z : Option Value), r + dr = eRo v → enOk y → eRo y = eRo v → eRch v w = eRchR w (eRs v 0) (eRo v - r) r y → V E mX0_reachAsFarAs 0 0 (fun o f' t' => o = .inl none ∧ t' = t ∧ f' = enS f a (eRch v w)) 9 [some (.ref a), some (.ref b), some (.int (nI (eRs v 0))), some (.int (nI r)), z] [] (enS f a y) t 0 0 := by
    intro dr
    induction dr using Nat.strongRecOn with
    | _ dr ihr =>
    intro r y z hr hy hro he
    have hrv : r < eRo v → r < 4 := fun q => by omega
    obtain ⟨e0, e1, e2, e3, e4, e5, e6⟩ := enP_S f a y
    have lp1 : r < eRo v → ∀ (d k : Nat) (y : eV), k + d = max (eRs v 0) (eRs w 0) → eRs v 0 ≤ k → enOk y → eRo y = eRo v → eRch v w = eRchR w (eRs v 0) (eRo v - (r + 1)) (r + 1) (eRchL w r (eRs w 0 - k) k y) → V E mX0_reachAsFarAs 0 0 (fun o f' t' => o = .inl none ∧ t' = t ∧ f' = enS f a (eRch v w)) 20 [some (.ref a), some (.ref b), some (.int (nI (eRs v 0))), some (.int (nI r)), some (.int (nI k))] [] (enS f a y) t 0 0 := by
      intro hr5
      have hr6 := hrv hr5
      have lp2 : ∀ (d : Nat) (k : Nat) (y : eV), k + d = max (eRs v 0) (eRs w 0) → eRs v 0 ≤ k → enOk y → eRo y = eRo v → eRch v w = eRchR w (eRs v 0) (eRo v - (r + 1)) (r + 1) (eRchL w r (eRs w 0 - k) k y) → V E mX0_reachAsFarAs 0 0 (fun o f' t' => o = .inl none ∧ t' = t ∧ f' = enS f a (eRch v w)) 20 [some (.ref a), some (.ref b), some (.int (nI (eRs v 0))), some (.int (nI r)), some (.int (nI k))] [] (enS f a y) t 0 0 := by
        intro d
        induction d using Nat.strongRecOn with
        | _ d ih =>
        intro k y hk hk0 hy hro he
        obtain ⟨e0, e1, e2, e3, e4, e5, e6⟩ := enP_S f a y
        obtain ⟨y0, y1, y2, y3⟩ := id hy
        refine v_iload dX0_reachAsFarAs_20 (by rfl) ?_
        refine v_aload_n dX0_reachAsFarAs_22 rfl (by rfl) ?_
        refine v_getf hE dX0_reachAsFarAs_23 fX0_18 (by repeat (first | assumption | exact va_up_self _ _ _ | refine (va_up_ne _ _ (by omega)).trans ?_)) (by rfl) ?_
        refine v_iconst (v := nI 0) dX0_reachAsFarAs_26 (by decide) ?_
        refine v_iald hE dX0_reachAsFarAs_27 (by repeat (first | assumption | exact va_up_self _ _ _ | refine (va_up_ne _ _ (by omega)).trans ?_)) (by omega) (by omega) ?_
        refine v_icmp_geN (tgt := 49) dX0_reachAsFarAs_28 (by decide) (by omega) (by omega) (fun c28 => ?_) (fun c28 => ?_)
        · refine v_iincN (y := 1) dX0_reachAsFarAs_49 (by rfl) (by decide) (by decide) ?_
          refine v_goto (tgt := 9) dX0_reachAsFarAs_52 (by decide) ?_
          exact ihr (dr - 1) (by omega) (r + 1) y (some (.int (nI k))) (by omega) hy hro (he.trans (by rw [show eRs w 0 - k = 0 by omega]; rfl))
        · refine v_aload_n dX0_reachAsFarAs_31 rfl (by rfl) ?_
          refine v_iload_n dX0_reachAsFarAs_32 rfl (by rfl) ?_
          refine v_aload_n dX0_reachAsFarAs_33 rfl (by rfl) ?_
          refine v_iconst (v := nI 0) dX0_reachAsFarAs_34 (by decide) ?_
          refine v_iload dX0_reachAsFarAs_35 (by rfl) ?_
          refine w_callV hE dX0_reachAsFarAs_37 kX0_69 (by repeat (first | assumption | exact va_up_self _ _ _ | refine (va_up_ne _ _ (by omega)).trans ?_)) (by rfl) (by rfl) (sX0_letterAt hE (en_enS hb hd) hw (by omega)) rfl (by decide) (by decide) (by exact Nat.le_of_ble_eq_true rfl) (by omega) (by omega) (fun v9 g9 u9 h9 => ?_) (fun _ _ _ h => by cases h.1)
          obtain ⟨hv, rfl, rfl⟩ := h9
          cases hv
          refine w_callV hE dX0_reachAsFarAs_40 kX0_119 (by repeat (first | assumption | exact va_up_self _ _ _ | refine (va_up_ne _ _ (by omega)).trans ?_)) (by rfl) (by rfl) (sX0_addLetter hE (enP_S f a y) hy (by omega)) rfl (by decide) (by decide) (by exact Nat.le_of_ble_eq_true rfl) (by omega) (by omega) (fun v9 g9 u9 h9 => ?_) (fun _ _ _ h => by cases h.1)
          obtain ⟨hv, rfl, rfl⟩ := h9
          cases hv
          refine v_hp enS_S ?_
          refine v_iincN (y := 1) dX0_reachAsFarAs_43 (by rfl) (by decide) (by decide) ?_
          refine v_goto (tgt := 20) dX0_reachAsFarAs_46 (by decide) ?_
          exact ih (d - 1) (by omega) (k + 1) _ (by omega) (by omega) (eAddL_ok hy) (eAddL_ro.trans hro) (he.trans (by rw [show eRs w 0 - k = (eRs w 0 - (k + 1)) + 1 by omega]; rfl))
      exact lp2
    refine v_iload_n dX0_reachAsFarAs_9 rfl (by rfl) ?_
    refine v_aload_n dX0_reachAsFarAs_10 rfl (by rfl) ?_
    refine v_getf hE dX0_reachAsFarAs_11 fX0_41 (by repeat (first | assumption | exact va_up_self _ _ _ | refine (va_up_ne _ _ (by omega)).trans ?_)) (by rfl) ?_
    refine v_icmp_geN (tgt := 55) dX0_reachAsFarAs_14 (by decide) (by omega) (by omega) (fun c14 => ?_) (fun c14 => ?_)
    · refine v_ret dX0_reachAsFarAs_55 rfl ?_
      refine ⟨rfl, rfl, ?_⟩
      rw [he, show eRo v - r = 0 by omega]
      rfl
    · refine v_iload_n dX0_reachAsFarAs_17 rfl (by rfl) ?_
      refine v_istore dX0_reachAsFarAs_18 (by decide) ?_
      exact lp1 (by omega) (max (eRs v 0) (eRs w 0) - eRs v 0) (eRs v 0) y (by omega) (by omega) hy hro (he.trans (by rw [show eRo v - r = (eRo v - (r + 1)) + 1 by omega]; rfl))
  refine v_aload_n dX0_reachAsFarAs_0 rfl (by rfl) ?_
  refine v_getf hE dX0_reachAsFarAs_1 fX0_18 (by repeat (first | assumption | exact va_up_self _ _ _ | refine (va_up_ne _ _ (by omega)).trans ?_)) (by rfl) ?_
  refine v_iconst (v := nI 0) dX0_reachAsFarAs_4 (by decide) ?_
  refine v_iald hE dX0_reachAsFarAs_5 (by repeat (first | assumption | exact va_up_self _ _ _ | refine (va_up_ne _ _ (by omega)).trans ?_)) (by omega) (by omega) ?_
  refine v_istore_n dX0_reachAsFarAs_6 rfl (by decide) ?_
  refine v_iconst (v := nI 0) dX0_reachAsFarAs_7 (by decide) ?_
  refine v_istore_n dX0_reachAsFarAs_8 rfl (by decide) ?_
  refine v_hp (enS_id h).symm ?_
  exact lp (eRo v) 0 v none (by omega) hv rfl rfl

def eSame (v w : eV) (g : gV) (s p q : Nat) : Bool := allB (fun x => decide (eAft v g s p x = eAft w g s q x)) (max (p + eRs v 1) (q + eRs w 1) - min p q) (min p q)
def eMean (v w : eV) (g : gV) (s p q : Nat) : Bool := decide (eRo v = 2) && (decide (eRo w = 2) && (decide (eSq v = eSq w) && (decide (nI (eRs v 1) - nI (eRs v 0) = nI (eRs w 1) - nI (eRs w 0)) && eSame v w g s p q)))

set_option maxRecDepth 100000 in
set_option maxHeartbeats 4000000 in
/-- Entry.meansSameAs -/
theorem sX0_meansSameAs {E : eN} (hE : eOk E) {f : aH} {t : Nat} {a b c s p q : Nat} {v w : eV} {g : gV} (h : enP f a v) (hv : enOk v) (hb : enP f b w) (hw : enOk w) (hg : gnP f c g) (hgo : gOk g) (hs : eSq v = nI s) (hp : ePl v = nI p) (hs2 : eSq v = eSq w → eSq w = nI s) (hq : ePl w = nI q) (bs : s < 2 ^ 30) (bp : p < 2 ^ 28) (bq : q < 2 ^ 28) : mT E mX0_meansSameAs 0 0 [.ref a, .ref b, .ref c] f t (fun o f' t' => o = .inl (some (.int (bI (eMean v w g s p q)))) ∧ t' = t ∧ f' = f) := by
  refine mT_of (n := 3) (lo := [some (.ref a), some (.ref b), some (.ref c), none, none, none]) (by decide) (by exact Nat.le_of_ble_eq_true rfl) rfl rfl ?_
  obtain ⟨h0, h1, h2, h3, h4, h5, h6⟩ := id h
  obtain ⟨k0, k1, k2, k3⟩ := id hv
  obtain ⟨g0, g1, g2, g3, g4, g5, g6⟩ := id hb
  obtain ⟨q0, q1, q2, q3⟩ := id hw
  rw [hp] at h0
  rw [hq] at g0
  have k4 := k1 1
  have q4 := q1 1
  have k5 := k1 0
  have q5 := q1 0
  have lp : eSq w = nI s → eMean v w g s p q = eSame v w g s p q → ∀ (d : Nat) (x : Nat), x + d = max (min p q) (max (p + eRs v 1) (q + eRs w 1)) → min p q ≤ x → eSame v w g s p q = allB (fun x => decide (eAft v g s p x = eAft w g s q x)) (max (p + eRs v 1) (q + eRs w 1) - x) x → V E mX0_meansSameAs 0 0 (fun o f' t' => o = .inl (some (.int (bI (eMean v w g s p q)))) ∧ t' = t ∧ f' = f) 82 [some (.ref a), some (.ref b), some (.ref c), some (.int (nI (min p q))), some (.int (nI (max (p + eRs v 1) (q + eRs w 1)))), some (.int (nI x))] [] f t 0 0 := by
    intro hsw hm d
    induction d using Nat.strongRecOn with
    | _ d ih =>
    intro x hx hx0 he
    refine v_iload dX0_meansSameAs_82 (by rfl) ?_
    refine v_iload dX0_meansSameAs_84 (by rfl) ?_
    refine v_icmp_geN (tgt := 114) dX0_meansSameAs_86 (by decide) (by omega) (by omega) (fun c86 => ?_) (fun c86 => ?_)
    · refine v_iconst (v := nI 1) dX0_meansSameAs_114 (by decide) ?_
      refine v_iret dX0_meansSameAs_115 rfl (by rfl) ?_
      first | exact ⟨congrArg (fun x => (Sum.inl (some (Value.int x)) : aO)) (bI_t (hm.trans (he.trans (allB_0 (by omega))))), rfl, rfl⟩ | exact ⟨congrArg (fun x => (Sum.inl (some (Value.int x)) : aO)) (bI_f (hm.trans (he.trans (allB_f c86 (decide_eq_false c103))))), rfl, rfl⟩
    · refine v_aload_n dX0_meansSameAs_89 rfl (by rfl) ?_
      refine v_iload dX0_meansSameAs_90 (by rfl) ?_
      refine v_aload_n dX0_meansSameAs_92 rfl (by rfl) ?_
      refine w_callV hE dX0_meansSameAs_93 kX0_138 (by repeat (first | assumption | exact va_up_self _ _ _ | refine (va_up_ne _ _ (by omega)).trans ?_)) (by rfl) (by rfl) (sX0_letterAfter hE h hv hg hgo hs hp bs (by omega) (by omega)) rfl (by decide) (by decide) (by exact Nat.le_of_ble_eq_true rfl) (by omega) (by omega) (fun v9 g9 u9 h9 => ?_) (fun _ _ _ h => by cases h.1)
      obtain ⟨hv, rfl, rfl⟩ := h9
      cases hv
      refine v_aload_n dX0_meansSameAs_96 rfl (by rfl) ?_
      refine v_iload dX0_meansSameAs_97 (by rfl) ?_
      refine v_aload_n dX0_meansSameAs_99 rfl (by rfl) ?_
      refine w_callV hE dX0_meansSameAs_100 kX0_138 (by repeat (first | assumption | exact va_up_self _ _ _ | refine (va_up_ne _ _ (by omega)).trans ?_)) (by rfl) (by rfl) (sX0_letterAfter hE hb hw hg hgo hsw hq bs (by omega) (by omega)) rfl (by decide) (by decide) (by exact Nat.le_of_ble_eq_true rfl) (by omega) (by omega) (fun v9 g9 u9 h9 => ?_) (fun _ _ _ h => by cases h.1)
      obtain ⟨hv, rfl, rfl⟩ := h9
      cases hv
      refine v_icmp_eq (tgt := 108) dX0_meansSameAs_103 (by decide) (fun c103 => ?_) (fun c103 => ?_)
      · refine v_iincN (y := 1) dX0_meansSameAs_108 (by rfl) (by decide) (by decide) ?_
        refine v_goto (tgt := 82) dX0_meansSameAs_111 (by decide) ?_
        exact ih (d - 1) (by omega) (x + 1) (by omega) (by omega) (he.trans (allB_s c86 (decide_eq_true c103)))
      · refine v_iconst (v := nI 0) dX0_meansSameAs_106 (by decide) ?_
        refine v_iret dX0_meansSameAs_107 rfl (by rfl) ?_
        first | exact ⟨congrArg (fun x => (Sum.inl (some (Value.int x)) : aO)) (bI_t (hm.trans (he.trans (allB_0 (by omega))))), rfl, rfl⟩ | exact ⟨congrArg (fun x => (Sum.inl (some (Value.int x)) : aO)) (bI_f (hm.trans (he.trans (allB_f c86 (decide_eq_false c103))))), rfl, rfl⟩
  refine v_aload_n dX0_meansSameAs_0 rfl (by rfl) ?_
  refine v_getf hE dX0_meansSameAs_1 fX0_41 (by repeat (first | assumption | exact va_up_self _ _ _ | refine (va_up_ne _ _ (by omega)).trans ?_)) (by rfl) ?_
  refine v_iconst (v := nI 2) dX0_meansSameAs_4 (by decide) ?_
  refine v_icmp_neN (tgt := 38) dX0_meansSameAs_5 (by decide) (by omega) (by omega) (fun c5 => ?_) (fun c5 => ?_)
  · refine v_iconst (v := nI 0) dX0_meansSameAs_38 (by decide) ?_
    refine v_iret dX0_meansSameAs_39 rfl (by rfl) ?_
    refine ⟨congrArg (fun x => (Sum.inl (some (Value.int x)) : aO)) (bI_f ?_), rfl, rfl⟩
    unfold eMean
    first | (rw [decide_eq_false (p := eRo v = 2) (by assumption)]; rfl) | (rw [decide_eq_false (p := eRo w = 2) (by assumption), Bool.false_and, Bool.and_false]) | (rw [decide_eq_false (p := eSq v = eSq w) (by assumption), Bool.false_and, Bool.and_false, Bool.and_false]) | (rw [decide_eq_false (p := nI (eRs v 1) - nI (eRs v 0) = nI (eRs w 1) - nI (eRs w 0)) (by assumption), Bool.false_and, Bool.and_false, Bool.and_false, Bool.and_false])
  · refine v_aload_n dX0_meansSameAs_8 rfl (by rfl) ?_
    refine v_getf hE dX0_meansSameAs_9 fX0_41 (by repeat (first | assumption | exact va_up_self _ _ _ | refine (va_up_ne _ _ (by omega)).trans ?_)) (by rfl) ?_
    refine v_iconst (v := nI 2) dX0_meansSameAs_12 (by decide) ?_
    refine v_icmp_neN (tgt := 38) dX0_meansSameAs_13 (by decide) (by omega) (by omega) (fun c13 => ?_) (fun c13 => ?_)
    · refine v_iconst (v := nI 0) dX0_meansSameAs_38 (by decide) ?_
      refine v_iret dX0_meansSameAs_39 rfl (by rfl) ?_
      refine ⟨congrArg (fun x => (Sum.inl (some (Value.int x)) : aO)) (bI_f ?_), rfl, rfl⟩
      unfold eMean
      first | (rw [decide_eq_false (p := eRo v = 2) (by assumption)]; rfl) | (rw [decide_eq_false (p := eRo w = 2) (by assumption), Bool.false_and, Bool.and_false]) | (rw [decide_eq_false (p := eSq v = eSq w) (by assumption), Bool.false_and, Bool.and_false, Bool.and_false]) | (rw [decide_eq_false (p := nI (eRs v 1) - nI (eRs v 0) = nI (eRs w 1) - nI (eRs w 0)) (by assumption), Bool.false_and, Bool.and_false, Bool.and_false, Bool.and_false])
    · refine v_aload_n dX0_meansSameAs_16 rfl (by rfl) ?_
      refine v_getf hE dX0_meansSameAs_17 fX0_49 (by repeat (first | assumption | exact va_up_self _ _ _ | refine (va_up_ne _ _ (by omega)).trans ?_)) (by rfl) ?_
      refine v_aload_n dX0_meansSameAs_20 rfl (by rfl) ?_
      refine v_getf hE dX0_meansSameAs_21 fX0_49 (by repeat (first | assumption | exact va_up_self _ _ _ | refine (va_up_ne _ _ (by omega)).trans ?_)) (by rfl) ?_
      refine v_icmp_ne (tgt := 38) dX0_meansSameAs_24 (by decide) (fun c24 => ?_) (fun c24 => ?_)
      · refine v_iconst (v := nI 0) dX0_meansSameAs_38 (by decide) ?_
        refine v_iret dX0_meansSameAs_39 rfl (by rfl) ?_
        refine ⟨congrArg (fun x => (Sum.inl (some (Value.int x)) : aO)) (bI_f ?_), rfl, rfl⟩
        unfold eMean
        first | (rw [decide_eq_false (p := eRo v = 2) (by assumption)]; rfl) | (rw [decide_eq_false (p := eRo w = 2) (by assumption), Bool.false_and, Bool.and_false]) | (rw [decide_eq_false (p := eSq v = eSq w) (by assumption), Bool.false_and, Bool.and_false, Bool.and_false]) | (rw [decide_eq_false (p := nI (eRs v 1) - nI (eRs v 0) = nI (eRs w 1) - nI (eRs w 0)) (by assumption), Bool.false_and, Bool.and_false, Bool.and_false, Bool.and_false])
      · refine v_aload_n dX0_meansSameAs_27 rfl (by rfl) ?_
        refine w_callV hE dX0_meansSameAs_28 kX0_132 (by repeat (first | assumption | exact va_up_self _ _ _ | refine (va_up_ne _ _ (by omega)).trans ?_)) (by rfl) (by rfl) (sX0_growth hE h hv) rfl (by decide) (by decide) (by exact Nat.le_of_ble_eq_true rfl) (by omega) (by omega) (fun v9 g9 u9 h9 => ?_) (fun _ _ _ h => by cases h.1)
        obtain ⟨hv, rfl, rfl⟩ := h9
        cases hv
        refine v_aload_n dX0_meansSameAs_31 rfl (by rfl) ?_
        refine w_callV hE dX0_meansSameAs_32 kX0_132 (by repeat (first | assumption | exact va_up_self _ _ _ | refine (va_up_ne _ _ (by omega)).trans ?_)) (by rfl) (by rfl) (sX0_growth hE hb hw) rfl (by decide) (by decide) (by exact Nat.le_of_ble_eq_true rfl) (by omega) (by omega) (fun v9 g9 u9 h9 => ?_) (fun _ _ _ h => by cases h.1)
        obtain ⟨hv, rfl, rfl⟩ := h9
        cases hv
        refine v_icmp_eq (tgt := 40) dX0_meansSameAs_35 (by decide) (fun c35 => ?_) (fun c35 => ?_)
        · have hsw := hs2 c24
          refine v_aload_n dX0_meansSameAs_40 rfl (by rfl) ?_
          refine v_getf hE dX0_meansSameAs_41 fX0_52 (by repeat (first | assumption | exact va_up_self _ _ _ | refine (va_up_ne _ _ (by omega)).trans ?_)) (by rfl) ?_
          refine v_aload_n dX0_meansSameAs_44 rfl (by rfl) ?_
          refine v_getf hE dX0_meansSameAs_45 fX0_52 (by repeat (first | assumption | exact va_up_self _ _ _ | refine (va_up_ne _ _ (by omega)).trans ?_)) (by rfl) ?_
          refine v_minN hE dX0_meansSameAs_48 qX0_99 (by decide) (by exact Nat.le_of_ble_eq_true rfl) (by omega) (by omega) ?_
          refine v_istore_n dX0_meansSameAs_51 rfl (by decide) ?_
          refine v_aload_n dX0_meansSameAs_52 rfl (by rfl) ?_
          refine v_getf hE dX0_meansSameAs_53 fX0_52 (by repeat (first | assumption | exact va_up_self _ _ _ | refine (va_up_ne _ _ (by omega)).trans ?_)) (by rfl) ?_
          refine v_aload_n dX0_meansSameAs_56 rfl (by rfl) ?_
          refine v_getf hE dX0_meansSameAs_57 fX0_18 (by repeat (first | assumption | exact va_up_self _ _ _ | refine (va_up_ne _ _ (by omega)).trans ?_)) (by rfl) ?_
          refine v_iconst (v := nI 1) dX0_meansSameAs_60 (by decide) ?_
          refine v_iald hE dX0_meansSameAs_61 (by repeat (first | assumption | exact va_up_self _ _ _ | refine (va_up_ne _ _ (by omega)).trans ?_)) (by omega) (by omega) ?_
          refine v_iaddN dX0_meansSameAs_62 ?_
          refine v_aload_n dX0_meansSameAs_63 rfl (by rfl) ?_
          refine v_getf hE dX0_meansSameAs_64 fX0_52 (by repeat (first | assumption | exact va_up_self _ _ _ | refine (va_up_ne _ _ (by omega)).trans ?_)) (by rfl) ?_
          refine v_aload_n dX0_meansSameAs_67 rfl (by rfl) ?_
          refine v_getf hE dX0_meansSameAs_68 fX0_18 (by repeat (first | assumption | exact va_up_self _ _ _ | refine (va_up_ne _ _ (by omega)).trans ?_)) (by rfl) ?_
          refine v_iconst (v := nI 1) dX0_meansSameAs_71 (by decide) ?_
          refine v_iald hE dX0_meansSameAs_72 (by repeat (first | assumption | exact va_up_self _ _ _ | refine (va_up_ne _ _ (by omega)).trans ?_)) (by omega) (by omega) ?_
          refine v_iaddN dX0_meansSameAs_73 ?_
          refine v_maxN hE dX0_meansSameAs_74 qX0_135 (by decide) (by exact Nat.le_of_ble_eq_true rfl) (by omega) (by omega) ?_
          refine v_istore dX0_meansSameAs_77 (by decide) ?_
          refine v_iload_n dX0_meansSameAs_79 rfl (by rfl) ?_
          refine v_istore dX0_meansSameAs_80 (by decide) ?_
          exact lp hsw (by unfold eMean; rw [decide_eq_true c5, decide_eq_true c13, decide_eq_true c24, decide_eq_true c35]; rfl) (max (min p q) (max (p + eRs v 1) (q + eRs w 1)) - min p q) (min p q) (by omega) (by omega) rfl
        · refine v_iconst (v := nI 0) dX0_meansSameAs_38 (by decide) ?_
          refine v_iret dX0_meansSameAs_39 rfl (by rfl) ?_
          refine ⟨congrArg (fun x => (Sum.inl (some (Value.int x)) : aO)) (bI_f ?_), rfl, rfl⟩
          unfold eMean
          first | (rw [decide_eq_false (p := eRo v = 2) (by assumption)]; rfl) | (rw [decide_eq_false (p := eRo w = 2) (by assumption), Bool.false_and, Bool.and_false]) | (rw [decide_eq_false (p := eSq v = eSq w) (by assumption), Bool.false_and, Bool.and_false, Bool.and_false]) | (rw [decide_eq_false (p := nI (eRs v 1) - nI (eRs v 0) = nI (eRs w 1) - nI (eRs w 0)) (by assumption), Bool.false_and, Bool.and_false, Bool.and_false, Bool.and_false])
