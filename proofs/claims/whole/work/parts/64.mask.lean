theorem in_ix1 {q : Int32} {n : Nat} (hn : n + 1 < 2 ^ 31) : mIn q (nI 0) (nI n) = (ix (n + 1) q).isSome := by
  by_cases h : 0 ≤ q ∧ q < nI (n + 1)
  · obtain ⟨k, h1, h2, h3⟩ := ix_some (Int32.not_lt.mpr h.1) h.2 hn
    rw [h3, h2, mIn_of (Nat.zero_le _) (by omega) (by omega)]
    rfl
  · rw [ix_none (by by_cases h0 : q < 0; exact Or.inl h0; exact Or.inr (fun z => h ⟨Int32.not_lt.mp h0, z⟩))]
    cases hb : mIn q (nI 0) (nI n) with
    | false => rfl
    | true =>
      obtain ⟨k, h1, h2, h3⟩ := mIn_nat hb (by decide) (by omega)
      exact absurd ⟨by rw [h3]; exact nI_pos' (by omega), by rw [h3]; exact nI_lt (by omega) hn⟩ h
theorem nI_s1 {n : Nat} : nI (n + 1) - nI 1 = nI n := by
  rw [← nI_add]
  exact Int32.add_sub_cancel _ _
theorem in_ix {q : Int32} {n : Nat} (hn : n < 2 ^ 31) : mIn q (nI 0) (nI n - nI 1) = (ix n q).isSome := by
  cases n with
  | zero =>
    rw [ix_none (by by_cases h0 : q < 0; exact Or.inl h0; exact Or.inr h0)]
    cases hb : mIn q (nI 0) (nI 0 - nI 1) with
    | false => rfl
    | true =>
      unfold mIn at hb
      rw [Bool.and_eq_true, decide_eq_true_eq, decide_eq_true_eq] at hb
      exact absurd (Int32.le_trans hb.1 hb.2) (by decide)
  | succ n => rw [nI_s1]; exact in_ix1 hn
/-- the model's record r is the record w, with n samples -/
def mE (y : mV) (r : Nat) (w : eV) (n : Nat) : Prop := y.1 20 r = eSq w ∧ y.1 21 r = ePl w ∧ y.1 23 r = nI (eIz w) ∧ (∀ k, k < eIz w → y.1 22 (20 * r + k) = eId w k) ∧ y.1 24 r = nI (eRo w - 1) ∧ 1 ≤ eRo w ∧ (∀ q, q < eRo w → y.1 26 (4 * r + q) = nI (eRs w q) ∧ ∀ k, k < eRs w q → y.1 25 (26 * (4 * r + q) + k) = eLe w (q * 24 + k)) ∧ y.1 27 r = eQu w ∧ y.1 28 r = bI (ePa w) ∧ ∀ s, s < n → y.1 30 (3 * r + s) = nI (eCn w s) ∧ y.1 31 (3 * r + s) = bI (ePh w s) ∧ ∀ c, c < eCn w s → y.1 29 (6 * r + 2 * s + c) = eCa w (s * 2 + c)
/-- the model's table i is the sheet z -/
def mTb (y : mV) (i : Nat) (z : sV) (W : Nat → eV) : Prop := y.1 16 i = nI z.2.2 ∧ y.1 17 i = nI z.2.1.1 ∧ (∀ s, s < z.2.1.1 → y.1 19 (3 * i + s) = nI (z.2.1.2.2 s) ∧ ∀ k, k < z.2.1.2.2 s → y.1 18 (20 * (3 * i + s) + k) = z.2.1.2.1 (s * 20 + k)) ∧ ∀ k, k < z.2.2 → mE y (60 * i + k) (W (z.1 k)) z.2.1.1
def mOu (y : mV) (u : tS) : Prop := y.2 37 = nI u.1 ∧ u.1 ≤ 8000 ∧ ∀ k, k < u.1 → u.2.1 k = y.1 32 k &&& nI 255
def mHp (y : mV) (h : hV) : Prop := ∃ (b : Bool) (n m : Nat), y.2 38 = bI b ∧ y.2 39 = nI n ∧ n ≤ 3000 ∧ y.2 40 = nI m ∧ m ≤ 8000 ∧ (∀ q, hCar h q = if b = true ∧ mIn q (nI 1) (nI n) = true then y.1 33 q.toNatClampNeg else -1) ∧ ∀ q, hBac h q = if b = true ∧ mIn q (nI 1) (nI m) = true then y.1 34 q.toNatClampNeg else -1
/-- letters and names are of small octets -/
def gLv (g : gV) : Prop := (∀ k, k < gTo g → ∃ c, c < 128 ∧ gLe g k = nI c) ∧ ∀ s k, s < gCt g → k < g.1.2.2 s → ∃ c, c < 128 ∧ g.1.2.1 (s * 20 + k) = nI c
/-- no two other rows are alike -/
def eDs (w : eV) : Prop := ∀ p q, 1 ≤ p → p < q → q < eRo w → eRs w p = eRs w q → ¬ ∀ k, k < eRs w p → eLe w (p * 24 + k) = eLe w (q * 24 + k)
/-- letters and id are small octets, and no two other rows are alike -/
def eLv (w : eV) : Prop := (∀ q k, q < eRo w → k < eRs w q → ∃ c, c < 128 ∧ eLe w (q * 24 + k) = nI c) ∧ (∀ k, k < eIz w → ∃ c, c < 128 ∧ eId w k = nI c) ∧ eDs w
def dLv (x : dV) : Prop := gLv (dG x 0) ∧ ∀ i, i < 2 → (∀ s k, s < (dZ x i).2.1.1 → k < (dZ x i).2.1.2.2 s → ∃ c, c < 128 ∧ (dZ x i).2.1.2.1 (s * 20 + k) = nI c) ∧ ∀ k, k < (dZ x i).2.2 → eLv (dW x ((dZ x i).1 k))
/-- the model y is the desk x -/
def mRel (x : dV) (y : mV) : Prop := aNw y.1 ∧ mTp y (dT x 0) ∧ mGn y (dG x 0) ∧ (∀ i, i < 2 → mTb y i (dZ x i) (dW x)) ∧ mOu y (dT x 1) ∧ mHp y (dH x) ∧ y.2 3 = dF x ∧ dLv x

theorem ix_r {n k : Nat} {q : Int32} (h : ix n q = some k) (hn : n < 2 ^ 31) : k < n ∧ q = nI k := by
  unfold ix at h
  split at h
  · rename_i hc
    obtain ⟨j, h1, h2, h3⟩ := ix_some (Int32.not_lt.mpr hc.1) hc.2 hn
    cases h
    rw [h2, nI_clamp (by omega)]
    exact ⟨h1, rfl⟩
  · cases h
set_option maxRecDepth 100000 in
set_option maxHeartbeats 4000000 in
/-- model: carried -/
theorem sX10_carried {E : eN} (hE : eOk E) {f : aH} {t : Nat} {M D : Nat} {y : mV} {x : dV} {q : Int32} (hR : mRel x y) (hI : dOk D x) : mT E mX10_carried 0 0 [.ref M, .int q] (mdS f M y) t (fun o f' t' => o = .inl (some (.int (hCar (dH x) q))) ∧ t' = t ∧ f' = mdS f M (y.1, va_up y.2 0 (nI 0))) := by
  refine mT_of (n := 0) (lo := [some (.ref M), some (.int q)]) (by decide) (by exact Nat.le_of_ble_eq_true rfl) rfl rfl ?_
  obtain ⟨-, -, -, -, -, ⟨b, n, m, h1, h2, h3, h4, h5, h6, h7⟩, -⟩ := id hR
  refine v_aload_n dX10_carried_0 rfl (by rfl) ?_
  refine v_iconst (v := nI 0) dX10_carried_1 (by decide) ?_
  refine m_put hE (j := 0) dX10_carried_2 fX10_133 (by exact Nat.le_of_ble_eq_true rfl) (by rfl) (by rfl) (by rfl) (by rfl) ?_
  refine v_aload_n dX10_carried_5 rfl (by rfl) ?_
  refine v_getf hE dX10_carried_6 fX10_186 mdS_M (by rfl) ?_
  refine v_eqi (y := bI b) h1 ?_
  refine v_if_eqB (tgt := 33) dX10_carried_9 (by decide) (fun c9 => ?_) (fun c9 => ?_)
  · refine v_iconst (v := (-1)) dX10_carried_33 (by decide) ?_
    refine v_iret dX10_carried_34 rfl (by first | rfl | exact nar_bI) ?_
    refine ⟨congrArg (fun x => (Sum.inl (some (Value.int x)) : aO)) ?_, rfl, rfl⟩
    rw [h6]
    first
      | (rw [if_pos ⟨c9, c21⟩, hq])
      | (rw [if_neg (fun z => absurd z.1 (by rw [c9]; decide))])
      | (rw [if_neg (fun z => absurd z.2 (by rw [c21]; decide))])
  · refine v_iload_n dX10_carried_12 rfl (by rfl) ?_
    refine v_iconst (v := nI 1) dX10_carried_13 (by decide) ?_
    refine v_aload_n dX10_carried_14 rfl (by rfl) ?_
    refine v_getf hE dX10_carried_15 fX10_376 mdS_M (by rfl) ?_
    refine v_eqi (y := nI n) h2 ?_
    refine w_callS hE dX10_carried_18 kX10_136 (by rfl) (sX10_in hE) rfl (by decide) (by decide) (by exact Nat.le_of_ble_eq_true rfl) (by omega) (by omega) (fun v9 g9 u9 h9 => ?_) (fun _ _ _ h => by cases h.1)
    obtain ⟨hv9, hu9, hg9⟩ := h9
    replace hu9 := hu9.symm
    replace hg9 := hg9.symm
    subst hu9
    subst hg9
    cases hv9
    refine v_if_eqB (tgt := 33) dX10_carried_21 (by decide) (fun c21 => ?_) (fun c21 => ?_)
    · refine v_iconst (v := (-1)) dX10_carried_33 (by decide) ?_
      refine v_iret dX10_carried_34 rfl (by first | rfl | exact nar_bI) ?_
      refine ⟨congrArg (fun x => (Sum.inl (some (Value.int x)) : aO)) ?_, rfl, rfl⟩
      rw [h6]
      first
        | (rw [if_pos ⟨c9, c21⟩, hq])
        | (rw [if_neg (fun z => absurd z.1 (by rw [c9]; decide))])
        | (rw [if_neg (fun z => absurd z.2 (by rw [c21]; decide))])
    · obtain ⟨k, k1, k2, k3⟩ := mIn_nat c21 (by decide) (by omega)
      have hq : q.toNatClampNeg = k := by rw [k3, nI_clamp (by omega)]
      subst k3
      refine v_aload_n dX10_carried_24 rfl (by rfl) ?_
      refine v_getf hE dX10_carried_25 fX10_112 mdS_M (by rfl) ?_
      refine v_iload_n dX10_carried_28 rfl (by rfl) ?_
      refine m_iald hE (k := 33) dX10_carried_29 (by decide) (by decide) rfl (show _ < 3002 by omega) (by omega) ?_
      refine v_goto (tgt := 34) dX10_carried_30 (by decide) ?_
      refine v_iret dX10_carried_34 rfl (by first | rfl | exact nar_bI) ?_
      refine ⟨congrArg (fun x => (Sum.inl (some (Value.int x)) : aO)) ?_, rfl, rfl⟩
      rw [h6]
      first
        | (rw [if_pos ⟨c9, c21⟩, hq])
        | (rw [if_neg (fun z => absurd z.1 (by rw [c9]; decide))])
        | (rw [if_neg (fun z => absurd z.2 (by rw [c21]; decide))])

set_option maxRecDepth 100000 in
set_option maxHeartbeats 4000000 in
/-- model: back -/
theorem sX10_back {E : eN} (hE : eOk E) {f : aH} {t : Nat} {M D : Nat} {y : mV} {x : dV} {q : Int32} (hR : mRel x y) (hI : dOk D x) : mT E mX10_back 0 0 [.ref M, .int q] (mdS f M y) t (fun o f' t' => o = .inl (some (.int (hBac (dH x) q))) ∧ t' = t ∧ f' = mdS f M (y.1, va_up y.2 0 (nI 0))) := by
  refine mT_of (n := 0) (lo := [some (.ref M), some (.int q)]) (by decide) (by exact Nat.le_of_ble_eq_true rfl) rfl rfl ?_
  obtain ⟨-, -, -, -, -, ⟨b, n, m, h1, h2, h3, h4, h5, h6, h7⟩, -⟩ := id hR
  refine v_aload_n dX10_back_0 rfl (by rfl) ?_
  refine v_iconst (v := nI 0) dX10_back_1 (by decide) ?_
  refine m_put hE (j := 0) dX10_back_2 fX10_133 (by exact Nat.le_of_ble_eq_true rfl) (by rfl) (by rfl) (by rfl) (by rfl) ?_
  refine v_aload_n dX10_back_5 rfl (by rfl) ?_
  refine v_getf hE dX10_back_6 fX10_186 mdS_M (by rfl) ?_
  refine v_eqi (y := bI b) h1 ?_
  refine v_if_eqB (tgt := 33) dX10_back_9 (by decide) (fun c9 => ?_) (fun c9 => ?_)
  · refine v_iconst (v := (-1)) dX10_back_33 (by decide) ?_
    refine v_iret dX10_back_34 rfl (by first | rfl | exact nar_bI) ?_
    refine ⟨congrArg (fun x => (Sum.inl (some (Value.int x)) : aO)) ?_, rfl, rfl⟩
    rw [h7]
    first
      | (rw [if_pos ⟨c9, c21⟩, hq])
      | (rw [if_neg (fun z => absurd z.1 (by rw [c9]; decide))])
      | (rw [if_neg (fun z => absurd z.2 (by rw [c21]; decide))])
  · refine v_iload_n dX10_back_12 rfl (by rfl) ?_
    refine v_iconst (v := nI 1) dX10_back_13 (by decide) ?_
    refine v_aload_n dX10_back_14 rfl (by rfl) ?_
    refine v_getf hE dX10_back_15 fX10_379 mdS_M (by rfl) ?_
    refine v_eqi (y := nI m) h4 ?_
    refine w_callS hE dX10_back_18 kX10_136 (by rfl) (sX10_in hE) rfl (by decide) (by decide) (by exact Nat.le_of_ble_eq_true rfl) (by omega) (by omega) (fun v9 g9 u9 h9 => ?_) (fun _ _ _ h => by cases h.1)
    obtain ⟨hv9, hu9, hg9⟩ := h9
    replace hu9 := hu9.symm
    replace hg9 := hg9.symm
    subst hu9
    subst hg9
    cases hv9
    refine v_if_eqB (tgt := 33) dX10_back_21 (by decide) (fun c21 => ?_) (fun c21 => ?_)
    · refine v_iconst (v := (-1)) dX10_back_33 (by decide) ?_
      refine v_iret dX10_back_34 rfl (by first | rfl | exact nar_bI) ?_
      refine ⟨congrArg (fun x => (Sum.inl (some (Value.int x)) : aO)) ?_, rfl, rfl⟩
      rw [h7]
      first
        | (rw [if_pos ⟨c9, c21⟩, hq])
        | (rw [if_neg (fun z => absurd z.1 (by rw [c9]; decide))])
        | (rw [if_neg (fun z => absurd z.2 (by rw [c21]; decide))])
    · obtain ⟨k, k1, k2, k3⟩ := mIn_nat c21 (by decide) (by omega)
      have hq : q.toNatClampNeg = k := by rw [k3, nI_clamp (by omega)]
      subst k3
      refine v_aload_n dX10_back_24 rfl (by rfl) ?_
      refine v_getf hE dX10_back_25 fX10_115 mdS_M (by rfl) ?_
      refine v_iload_n dX10_back_28 rfl (by rfl) ?_
      refine m_iald hE (k := 34) dX10_back_29 (by decide) (by decide) rfl (show _ < 8200 by omega) (by omega) ?_
      refine v_goto (tgt := 34) dX10_back_30 (by decide) ?_
      refine v_iret dX10_back_34 rfl (by first | rfl | exact nar_bI) ?_
      refine ⟨congrArg (fun x => (Sum.inl (some (Value.int x)) : aO)) ?_, rfl, rfl⟩
      rw [h7]
      first
        | (rw [if_pos ⟨c9, c21⟩, hq])
        | (rw [if_neg (fun z => absurd z.1 (by rw [c9]; decide))])
        | (rw [if_neg (fun z => absurd z.2 (by rw [c21]; decide))])

set_option maxRecDepth 100000 in
set_option maxHeartbeats 4000000 in
/-- model: out -/
theorem sX10_out {E : eN} (hE : eOk E) {f : aH} {t : Nat} {M D : Nat} {y : mV} {x : dV} {q : Int32} (hR : mRel x y) (hI : dOk D x) : mT E mX10_out 0 0 [.ref M, .int q] (mdS f M y) t (fun o f' t' => o = .inl (some (.int (ocAt (dT x 1).1 (dT x 1).2.1 q))) ∧ t' = t ∧ f' = mdS f M (y.1, va_up y.2 0 (nI 0))) := by
  refine mT_of (n := 0) (lo := [some (.ref M), some (.int q)]) (by decide) (by exact Nat.le_of_ble_eq_true rfl) rfl rfl ?_
  obtain ⟨-, -, -, -, ⟨h1, h2, h3⟩, -, -⟩ := id hR
  refine v_aload_n dX10_out_0 rfl (by rfl) ?_
  refine v_iconst (v := nI 0) dX10_out_1 (by decide) ?_
  refine m_put hE (j := 0) dX10_out_2 fX10_133 (by exact Nat.le_of_ble_eq_true rfl) (by rfl) (by rfl) (by rfl) (by rfl) ?_
  refine v_iload_n dX10_out_5 rfl (by rfl) ?_
  refine v_iconst (v := nI 0) dX10_out_6 (by decide) ?_
  refine v_aload_n dX10_out_7 rfl (by rfl) ?_
  refine v_getf hE dX10_out_8 fX10_382 mdS_M (by rfl) ?_
  refine v_eqi (y := nI (dT x 1).1) h1 ?_
  refine v_iconst (v := nI 1) dX10_out_11 (by decide) ?_
  refine v_isub dX10_out_12 ?_
  refine w_callS hE dX10_out_13 kX10_136 (by rfl) (sX10_in hE) rfl (by decide) (by decide) (by exact Nat.le_of_ble_eq_true rfl) (by omega) (by omega) (fun v9 g9 u9 h9 => ?_) (fun _ _ _ h => by cases h.1)
  obtain ⟨hv9, hu9, hg9⟩ := h9
  replace hu9 := hu9.symm
  replace hg9 := hg9.symm
  subst hu9
  subst hg9
  cases hv9
  rw [in_ix (n := (dT x 1).1) (by omega)]
  refine v_if_eqB (tgt := 32) dX10_out_16 (by decide) (fun c16 => ?_) (fun c16 => ?_)
  · refine v_iconst (v := (-1)) dX10_out_32 (by decide) ?_
    refine v_iret dX10_out_33 rfl (by first | rfl | exact nar_bI) ?_
    refine ⟨congrArg (fun x => (Sum.inl (some (Value.int x)) : aO)) ?_, rfl, rfl⟩
    first
      | (exact (h3 k k2).symm.trans (ocAt_in k2 h2).symm)
      | (unfold ocAt; unfold ix at c16; split at c16; (· cases c16); (· rename_i hh; rw [if_neg hh]))
  · obtain ⟨k, k1⟩ := Option.isSome_iff_exists.mp c16
    obtain ⟨k2, k3⟩ := ix_r k1 (by omega)
    subst k3
    refine v_aload_n dX10_out_19 rfl (by rfl) ?_
    refine v_getf hE dX10_out_20 fX10_109 mdS_M (by rfl) ?_
    refine v_iload_n dX10_out_23 rfl (by rfl) ?_
    refine m_bald hE (k := 32) dX10_out_24 (by decide) (by decide) rfl (show _ < 8200 by omega) (by omega) ?_
    refine v_sipush (v := nI 255) dX10_out_25 (by decide) ?_
    refine v_iand dX10_out_28 ?_
    refine v_goto (tgt := 33) dX10_out_29 (by decide) ?_
    refine v_iret dX10_out_33 rfl (by first | rfl | exact nar_bI) ?_
    refine ⟨congrArg (fun x => (Sum.inl (some (Value.int x)) : aO)) ?_, rfl, rfl⟩
    first
      | (exact (h3 k k2).symm.trans (ocAt_in k2 h2).symm)
      | (unfold ocAt; unfold ix at c16; split at c16; (· cases c16); (· rename_i hh; rw [if_neg hh]))

theorem nI_n {a b : Nat} (h : a ≠ b) (ha : a < 2 ^ 31) (hb : b < 2 ^ 31) : ¬ nI a = nI b := fun e => h (nI_inj e ha hb)
theorem ix_nI {n k : Nat} (h : k < n) (hn : n < 2 ^ 31) : ix n (nI k) = some k := by
  unfold ix
  rw [if_pos ⟨nI_pos' (by omega), nI_lt h hn⟩, nI_clamp (by omega)]
set_option maxRecDepth 100000 in
set_option maxHeartbeats 4000000 in
/-- model: sequence -/
theorem sX10_sequence {E : eN} (hE : eOk E) {f : aH} {t : Nat} {M D : Nat} {y : mV} {x : dV} {q w : Int32} (hR : mRel x y) (hI : dOk D x) : mT E mX10_sequence 0 0 [.ref M, .int q, .int w] (mdS f M y) t (fun o f' t' => o = .inl (some (.int ((aSeq x q w).getD (nI 0)))) ∧ t' = t ∧ f' = mdS f M (y.1, va_up y.2 0 (bI (aSeq x q w).isNone))) := by
  refine mT_of (n := 0) (lo := [some (.ref M), some (.int q), some (.int w)]) (by decide) (by exact Nat.le_of_ble_eq_true rfl) rfl rfl ?_
  have hG := hR.2.2.1
  have hgo := hI.2.1 0 (by omega)
  have hgc := hgo.1.1
  have hg1 := hgo.2.1
  have hgt := hgo.2.2.1
  refine v_aload_n dX10_sequence_0 rfl (by rfl) ?_
  refine v_iload_n dX10_sequence_1 rfl (by rfl) ?_
  refine v_iconst (v := nI 0) dX10_sequence_2 (by decide) ?_
  refine v_aload_n dX10_sequence_3 rfl (by rfl) ?_
  refine v_getf hE dX10_sequence_4 fX10_183 mdS_M (by rfl) ?_
  refine v_eqi (y := nI (gCt (dG x 0))) hG.1 ?_
  refine v_iconst (v := nI 1) dX10_sequence_7 (by decide) ?_
  refine v_isub dX10_sequence_8 ?_
  refine w_callS hE dX10_sequence_9 kX10_136 (by rfl) (sX10_in hE) rfl (by decide) (by decide) (by exact Nat.le_of_ble_eq_true rfl) (by omega) (by omega) (fun v9 g9 u9 h9 => ?_) (fun _ _ _ h => by cases h.1)
  obtain ⟨hv9, hu9, hg9⟩ := h9
  replace hu9 := hu9.symm
  replace hg9 := hg9.symm
  subst hu9
  subst hg9
  cases hv9
  rw [in_ix (n := gCt (dG x 0)) (by omega)]
  refine v_if_eqB (tgt := 28) dX10_sequence_12 (by decide) (fun c12 => ?_) (fun c12 => ?_)
  · refine v_iconst (v := bI false) dX10_sequence_28 (by decide) ?_
    refine w_callV hE dX10_sequence_29 kX10_143 mdS_M (by rfl) (by rfl) (sX10_goes hE) rfl (by decide) (by decide) (by exact Nat.le_of_ble_eq_true rfl) (by omega) (by omega) (fun v9 g9 u9 h9 => ?_) (fun _ _ _ h => by cases h.1)
    obtain ⟨hv9, hu9, hg9⟩ := h9
    replace hu9 := hu9.symm
    subst hu9
    subst hg9
    cases hv9
    refine v_if_neN (tgt := 37) dX10_sequence_32 (by decide) (by omega) (fun c32 => ?_) (fun c32 => ?_)
    · exact absurd c32 (by decide)
    · refine v_iconst (v := nI 0) dX10_sequence_35 (by decide) ?_
      refine v_iret dX10_sequence_36 rfl (by first | rfl | exact nar_bI) ?_
      have hA : aSeq x q w = none := by
        unfold aSeq
        split
        · rfl
        · rename_i k hk
          first
            | (exfalso; rw [hk] at c12; exact Bool.noConfusion c12)
            | (have hw : ∀ j, j < 4 → w ≠ nI j := fun j hj e => by (rw [e, ix_nI hj (by omega)] at c21; cases c21)
               rw [if_neg (hw 0 (by omega)), if_neg (hw 1 (by omega)), if_neg (hw 2 (by omega)), if_neg (hw 3 (by omega))])
      rw [hA]
      exact ⟨rfl, rfl, rfl⟩
  · refine v_iload_n dX10_sequence_15 rfl (by rfl) ?_
    refine v_iconst (v := nI 0) dX10_sequence_16 (by decide) ?_
    refine v_iconst (v := nI 3) dX10_sequence_17 (by decide) ?_
    refine w_callS hE dX10_sequence_18 kX10_136 (by rfl) (sX10_in hE) rfl (by decide) (by decide) (by exact Nat.le_of_ble_eq_true rfl) (by omega) (by omega) (fun v9 g9 u9 h9 => ?_) (fun _ _ _ h => by cases h.1)
    obtain ⟨hv9, hu9, hg9⟩ := h9
    replace hu9 := hu9.symm
    replace hg9 := hg9.symm
    subst hu9
    subst hg9
    cases hv9
    rw [in_ix1 (n := 3) (by omega)]
    refine v_if_eqB (tgt := 28) dX10_sequence_21 (by decide) (fun c21 => ?_) (fun c21 => ?_)
    · refine v_iconst (v := bI false) dX10_sequence_28 (by decide) ?_
      refine w_callV hE dX10_sequence_29 kX10_143 mdS_M (by rfl) (by rfl) (sX10_goes hE) rfl (by decide) (by decide) (by exact Nat.le_of_ble_eq_true rfl) (by omega) (by omega) (fun v9 g9 u9 h9 => ?_) (fun _ _ _ h => by cases h.1)
      obtain ⟨hv9, hu9, hg9⟩ := h9
      replace hu9 := hu9.symm
      subst hu9
      subst hg9
      cases hv9
      refine v_if_neN (tgt := 37) dX10_sequence_32 (by decide) (by omega) (fun c32 => ?_) (fun c32 => ?_)
      · exact absurd c32 (by decide)
      · refine v_iconst (v := nI 0) dX10_sequence_35 (by decide) ?_
        refine v_iret dX10_sequence_36 rfl (by first | rfl | exact nar_bI) ?_
        have hA : aSeq x q w = none := by
          unfold aSeq
          split
          · rfl
          · rename_i k hk
            first
              | (exfalso; rw [hk] at c12; exact Bool.noConfusion c12)
              | (have hw : ∀ j, j < 4 → w ≠ nI j := fun j hj e => by (rw [e, ix_nI hj (by omega)] at c21; cases c21)
                 rw [if_neg (hw 0 (by omega)), if_neg (hw 1 (by omega)), if_neg (hw 2 (by omega)), if_neg (hw 3 (by omega))])
        rw [hA]
        exact ⟨rfl, rfl, rfl⟩
    · refine v_iconst (v := bI true) dX10_sequence_24 (by decide) ?_
      refine v_goto (tgt := 29) dX10_sequence_25 (by decide) ?_
      refine w_callV hE dX10_sequence_29 kX10_143 mdS_M (by rfl) (by rfl) (sX10_goes hE) rfl (by decide) (by decide) (by exact Nat.le_of_ble_eq_true rfl) (by omega) (by omega) (fun v9 g9 u9 h9 => ?_) (fun _ _ _ h => by cases h.1)
      obtain ⟨hv9, hu9, hg9⟩ := h9
      replace hu9 := hu9.symm
      subst hu9
      subst hg9
      cases hv9
      refine v_if_neN (tgt := 37) dX10_sequence_32 (by decide) (by omega) (fun c32 => ?_) (fun c32 => ?_)
      · obtain ⟨k, hk⟩ := Option.isSome_iff_exists.mp c12
        obtain ⟨k2, k3⟩ := ix_r hk (by omega)
        subst k3
        obtain ⟨m, hm⟩ := Option.isSome_iff_exists.mp c21
        obtain ⟨m2, m3⟩ := ix_r hm (by omega)
        subst m3
        obtain ⟨gf1, gf2, gf3, gf4, gf5, gf6⟩ := hG.2.1 k k2
        refine v_iload_n dX10_sequence_37 rfl (by rfl) ?_
        refine v_if_neN (tgt := 50) dX10_sequence_38 (by decide) (by omega) (fun c38 => ?_) (fun c38 => ?_)
        · refine v_iload_n dX10_sequence_50 rfl (by rfl) ?_
          refine v_iconst (v := nI 1) dX10_sequence_51 (by decide) ?_
          refine v_icmp_neN (tgt := 64) dX10_sequence_52 (by decide) (by omega) (by omega) (fun c52 => ?_) (fun c52 => ?_)
          · refine v_iload_n dX10_sequence_64 rfl (by rfl) ?_
            refine v_iconst (v := nI 2) dX10_sequence_65 (by decide) ?_
            refine v_icmp_neN (tgt := 78) dX10_sequence_66 (by decide) (by omega) (by omega) (fun c66 => ?_) (fun c66 => ?_)
            · refine v_aload_n dX10_sequence_78 rfl (by rfl) ?_
              refine v_getf hE dX10_sequence_79 fX10_20 mdS_M (by rfl) ?_
              refine v_iload_n dX10_sequence_82 rfl (by rfl) ?_
              refine m_iald hE (k := 3) dX10_sequence_83 (by decide) (by decide) rfl (show _ < 9 by omega) (by omega) ?_
              refine v_iret dX10_sequence_84 rfl (by first | rfl | exact nar_bI) ?_
              first
                | (have hA : aSeq x (nI k) (nI m) = some (y.1 6 k) := by
                     unfold aSeq; rw [hk]; show (if _ then _ else if _ then _ else if _ then _ else if _ then _ else none) = _; rw [if_pos (congrArg nI (show m = 0 by omega)), gf4]
                   rw [hA]; exact ⟨rfl, rfl, rfl⟩)
                | (have hA : aSeq x (nI k) (nI m) = some (y.1 7 k) := by
                     unfold aSeq; rw [hk]; show (if _ then _ else if _ then _ else if _ then _ else if _ then _ else none) = _; rw [if_neg (nI_n (show m ≠ 0 by omega) (by omega) (by omega)), if_pos (congrArg nI (show m = 1 by omega)), gf5]
                   rw [hA]; exact ⟨rfl, rfl, rfl⟩)
                | (have hA : aSeq x (nI k) (nI m) = some (y.1 8 k) := by
                     unfold aSeq; rw [hk]; show (if _ then _ else if _ then _ else if _ then _ else if _ then _ else none) = _; rw [if_neg (nI_n (show m ≠ 0 by omega) (by omega) (by omega)), if_neg (nI_n (show m ≠ 1 by omega) (by omega) (by omega)), if_pos (congrArg nI (show m = 2 by omega)), gf6]
                   rw [hA]; exact ⟨rfl, rfl, rfl⟩)
                | (have hA : aSeq x (nI k) (nI m) = some (y.1 3 k) := by
                     unfold aSeq; rw [hk]; show (if _ then _ else if _ then _ else if _ then _ else if _ then _ else none) = _; rw [if_neg (nI_n (show m ≠ 0 by omega) (by omega) (by omega)), if_neg (nI_n (show m ≠ 1 by omega) (by omega) (by omega)), if_neg (nI_n (show m ≠ 2 by omega) (by omega) (by omega)), if_pos (congrArg nI (show m = 3 by omega)), gf1]; unfold nmSz; rw [if_pos (by omega)]
                   rw [hA]; exact ⟨rfl, rfl, rfl⟩)
            · refine v_aload_n dX10_sequence_69 rfl (by rfl) ?_
              refine v_getf hE dX10_sequence_70 fX10_36 mdS_M (by rfl) ?_
              refine v_iload_n dX10_sequence_73 rfl (by rfl) ?_
              refine m_iald hE (k := 8) dX10_sequence_74 (by decide) (by decide) rfl (show _ < 9 by omega) (by omega) ?_
              refine v_goto (tgt := 84) dX10_sequence_75 (by decide) ?_
              refine v_iret dX10_sequence_84 rfl (by first | rfl | exact nar_bI) ?_
              first
                | (have hA : aSeq x (nI k) (nI m) = some (y.1 6 k) := by
                     unfold aSeq; rw [hk]; show (if _ then _ else if _ then _ else if _ then _ else if _ then _ else none) = _; rw [if_pos (congrArg nI (show m = 0 by omega)), gf4]
                   rw [hA]; exact ⟨rfl, rfl, rfl⟩)
                | (have hA : aSeq x (nI k) (nI m) = some (y.1 7 k) := by
                     unfold aSeq; rw [hk]; show (if _ then _ else if _ then _ else if _ then _ else if _ then _ else none) = _; rw [if_neg (nI_n (show m ≠ 0 by omega) (by omega) (by omega)), if_pos (congrArg nI (show m = 1 by omega)), gf5]
                   rw [hA]; exact ⟨rfl, rfl, rfl⟩)
                | (have hA : aSeq x (nI k) (nI m) = some (y.1 8 k) := by
                     unfold aSeq; rw [hk]; show (if _ then _ else if _ then _ else if _ then _ else if _ then _ else none) = _; rw [if_neg (nI_n (show m ≠ 0 by omega) (by omega) (by omega)), if_neg (nI_n (show m ≠ 1 by omega) (by omega) (by omega)), if_pos (congrArg nI (show m = 2 by omega)), gf6]
                   rw [hA]; exact ⟨rfl, rfl, rfl⟩)
                | (have hA : aSeq x (nI k) (nI m) = some (y.1 3 k) := by
                     unfold aSeq; rw [hk]; show (if _ then _ else if _ then _ else if _ then _ else if _ then _ else none) = _; rw [if_neg (nI_n (show m ≠ 0 by omega) (by omega) (by omega)), if_neg (nI_n (show m ≠ 1 by omega) (by omega) (by omega)), if_neg (nI_n (show m ≠ 2 by omega) (by omega) (by omega)), if_pos (congrArg nI (show m = 3 by omega)), gf1]; unfold nmSz; rw [if_pos (by omega)]
                   rw [hA]; exact ⟨rfl, rfl, rfl⟩)
          · refine v_aload_n dX10_sequence_55 rfl (by rfl) ?_
            refine v_getf hE dX10_sequence_56 fX10_33 mdS_M (by rfl) ?_
            refine v_iload_n dX10_sequence_59 rfl (by rfl) ?_
            refine m_iald hE (k := 7) dX10_sequence_60 (by decide) (by decide) rfl (show _ < 9 by omega) (by omega) ?_
            refine v_goto (tgt := 84) dX10_sequence_61 (by decide) ?_
            refine v_iret dX10_sequence_84 rfl (by first | rfl | exact nar_bI) ?_
            first
              | (have hA : aSeq x (nI k) (nI m) = some (y.1 6 k) := by
                   unfold aSeq; rw [hk]; show (if _ then _ else if _ then _ else if _ then _ else if _ then _ else none) = _; rw [if_pos (congrArg nI (show m = 0 by omega)), gf4]
                 rw [hA]; exact ⟨rfl, rfl, rfl⟩)
              | (have hA : aSeq x (nI k) (nI m) = some (y.1 7 k) := by
                   unfold aSeq; rw [hk]; show (if _ then _ else if _ then _ else if _ then _ else if _ then _ else none) = _; rw [if_neg (nI_n (show m ≠ 0 by omega) (by omega) (by omega)), if_pos (congrArg nI (show m = 1 by omega)), gf5]
                 rw [hA]; exact ⟨rfl, rfl, rfl⟩)
              | (have hA : aSeq x (nI k) (nI m) = some (y.1 8 k) := by
                   unfold aSeq; rw [hk]; show (if _ then _ else if _ then _ else if _ then _ else if _ then _ else none) = _; rw [if_neg (nI_n (show m ≠ 0 by omega) (by omega) (by omega)), if_neg (nI_n (show m ≠ 1 by omega) (by omega) (by omega)), if_pos (congrArg nI (show m = 2 by omega)), gf6]
                 rw [hA]; exact ⟨rfl, rfl, rfl⟩)
              | (have hA : aSeq x (nI k) (nI m) = some (y.1 3 k) := by
                   unfold aSeq; rw [hk]; show (if _ then _ else if _ then _ else if _ then _ else if _ then _ else none) = _; rw [if_neg (nI_n (show m ≠ 0 by omega) (by omega) (by omega)), if_neg (nI_n (show m ≠ 1 by omega) (by omega) (by omega)), if_neg (nI_n (show m ≠ 2 by omega) (by omega) (by omega)), if_pos (congrArg nI (show m = 3 by omega)), gf1]; unfold nmSz; rw [if_pos (by omega)]
                 rw [hA]; exact ⟨rfl, rfl, rfl⟩)
        · refine v_aload_n dX10_sequence_41 rfl (by rfl) ?_
          refine v_getf hE dX10_sequence_42 fX10_30 mdS_M (by rfl) ?_
          refine v_iload_n dX10_sequence_45 rfl (by rfl) ?_
          refine m_iald hE (k := 6) dX10_sequence_46 (by decide) (by decide) rfl (show _ < 9 by omega) (by omega) ?_
          refine v_goto (tgt := 84) dX10_sequence_47 (by decide) ?_
          refine v_iret dX10_sequence_84 rfl (by first | rfl | exact nar_bI) ?_
          first
            | (have hA : aSeq x (nI k) (nI m) = some (y.1 6 k) := by
                 unfold aSeq; rw [hk]; show (if _ then _ else if _ then _ else if _ then _ else if _ then _ else none) = _; rw [if_pos (congrArg nI (show m = 0 by omega)), gf4]
               rw [hA]; exact ⟨rfl, rfl, rfl⟩)
            | (have hA : aSeq x (nI k) (nI m) = some (y.1 7 k) := by
                 unfold aSeq; rw [hk]; show (if _ then _ else if _ then _ else if _ then _ else if _ then _ else none) = _; rw [if_neg (nI_n (show m ≠ 0 by omega) (by omega) (by omega)), if_pos (congrArg nI (show m = 1 by omega)), gf5]
               rw [hA]; exact ⟨rfl, rfl, rfl⟩)
            | (have hA : aSeq x (nI k) (nI m) = some (y.1 8 k) := by
                 unfold aSeq; rw [hk]; show (if _ then _ else if _ then _ else if _ then _ else if _ then _ else none) = _; rw [if_neg (nI_n (show m ≠ 0 by omega) (by omega) (by omega)), if_neg (nI_n (show m ≠ 1 by omega) (by omega) (by omega)), if_pos (congrArg nI (show m = 2 by omega)), gf6]
               rw [hA]; exact ⟨rfl, rfl, rfl⟩)
            | (have hA : aSeq x (nI k) (nI m) = some (y.1 3 k) := by
                 unfold aSeq; rw [hk]; show (if _ then _ else if _ then _ else if _ then _ else if _ then _ else none) = _; rw [if_neg (nI_n (show m ≠ 0 by omega) (by omega) (by omega)), if_neg (nI_n (show m ≠ 1 by omega) (by omega) (by omega)), if_neg (nI_n (show m ≠ 2 by omega) (by omega) (by omega)), if_pos (congrArg nI (show m = 3 by omega)), gf1]; unfold nmSz; rw [if_pos (by omega)]
               rw [hA]; exact ⟨rfl, rfl, rfl⟩)
      · exact absurd c32 (by decide)
