/-- the model's tape is the text u -/
def mTp (y : mV) (u : tS) : Prop := y.2 2 = nI u.1 ∧ u.1 ≤ 8000 ∧ ∀ k, k < u.1 → u.2.1 k = y.1 1 k &&& nI 255
def mIn (v a b : Int32) : Bool := decide (a ≤ v) && decide (v ≤ b)
def mOct (u : tS) (k : Nat) : Int32 := ocAt u.1 u.2.1 (nI k)
def mSgn (k : Nat) : Nat := match k with
  | 0 => 20
  | 1 => 38
  | 2 => 6
  | 3 => 4
  | 4 => 2
  | _ => 1
def mTx (k : Nat) : List Nat := match k with
  | 0 => tx3
  | 1 => tx5
  | 2 => tx6
  | 3 => tx8
  | 4 => tx9
  | _ => tx7

set_option maxRecDepth 100000 in
set_option maxHeartbeats 4000000 in
/-- model: thrown -/
theorem sX10_thrown {E : eN} (hE : eOk E) {f : aH} {t : Nat} {M : Nat} {y : mV}  : mT E mX10_thrown 0 0 [.ref M] (mdS f M y) t (fun o f' t' => o = .inl (some (.int (y.2 0))) ∧ t' = t ∧ f' = mdS f M y) := by
  refine mT_of (n := 0) (lo := [some (.ref M)]) (by decide) (by exact Nat.le_of_ble_eq_true rfl) rfl rfl ?_
  refine v_aload_n dX10_thrown_0 rfl (by rfl) ?_
  refine v_getf hE dX10_thrown_1 fX10_133 mdS_M (by rfl) ?_
  refine v_iret dX10_thrown_4 rfl (by first | rfl | exact nar_bI) ?_
  exact ⟨rfl, rfl, rfl⟩

set_option maxRecDepth 100000 in
set_option maxHeartbeats 4000000 in
/-- model: place -/
theorem sX10_place {E : eN} (hE : eOk E) {f : aH} {t : Nat} {M : Nat} {y : mV}  : mT E mX10_place 0 0 [.ref M] (mdS f M y) t (fun o f' t' => o = .inl (some (.int (y.2 3))) ∧ t' = t ∧ f' = mdS f M (y.1, va_up y.2 0 (nI 0))) := by
  refine mT_of (n := 0) (lo := [some (.ref M)]) (by decide) (by exact Nat.le_of_ble_eq_true rfl) rfl rfl ?_
  refine v_aload_n dX10_place_0 rfl (by rfl) ?_
  refine v_iconst (v := nI 0) dX10_place_1 (by decide) ?_
  refine m_put hE (j := 0) dX10_place_2 fX10_133 (by exact Nat.le_of_ble_eq_true rfl) (by rfl) (by rfl) (by rfl) (by rfl) ?_
  refine v_aload_n dX10_place_5 rfl (by rfl) ?_
  refine v_getf hE dX10_place_6 fX10_13 mdS_M (by rfl) ?_
  refine v_iret dX10_place_9 rfl (by first | rfl | exact nar_bI) ?_
  exact ⟨rfl, rfl, rfl⟩

set_option maxRecDepth 100000 in
set_option maxHeartbeats 4000000 in
/-- model: goes -/
theorem sX10_goes {E : eN} (hE : eOk E) {f : aH} {t : Nat} {M : Nat} {y : mV} {b : Bool}  : mT E mX10_goes 0 0 [.ref M, .int (bI b)] (mdS f M y) t (fun o f' t' => o = .inl (some (.int (bI b))) ∧ t' = t ∧ f' = mdS f M (y.1, va_up y.2 0 (bI (! b)))) := by
  refine mT_of (n := 0) (lo := [some (.ref M), some (.int (bI b))]) (by decide) (by exact Nat.le_of_ble_eq_true rfl) rfl rfl ?_
  refine v_aload_n dX10_goes_0 rfl (by rfl) ?_
  refine v_iload_n dX10_goes_1 rfl (by rfl) ?_
  refine v_if_eqB (tgt := 9) dX10_goes_2 (by decide) (fun c2 => ?_) (fun c2 => ?_)
  · refine v_iconst (v := nI 1) dX10_goes_9 (by decide) ?_
    refine m_put hE (j := 0) dX10_goes_10 fX10_133 (by exact Nat.le_of_ble_eq_true rfl) (by rfl) (by rfl) (by rfl) (by rfl) ?_
    refine v_iload_n dX10_goes_13 rfl (by rfl) ?_
    refine v_iret dX10_goes_14 rfl (by first | rfl | exact nar_bI) ?_
    first | (rw [c2]; exact ⟨rfl, rfl, rfl⟩)
  · refine v_iconst (v := nI 0) dX10_goes_5 (by decide) ?_
    refine v_goto (tgt := 10) dX10_goes_6 (by decide) ?_
    refine m_put hE (j := 0) dX10_goes_10 fX10_133 (by exact Nat.le_of_ble_eq_true rfl) (by rfl) (by rfl) (by rfl) (by rfl) ?_
    refine v_iload_n dX10_goes_13 rfl (by rfl) ?_
    refine v_iret dX10_goes_14 rfl (by first | rfl | exact nar_bI) ?_
    first | (rw [c2]; exact ⟨rfl, rfl, rfl⟩)

set_option maxRecDepth 100000 in
set_option maxHeartbeats 4000000 in
/-- model: in -/
theorem sX10_in {E : eN} (hE : eOk E) {f : aH} {t : Nat} {v a b : Int32}  : mT E mX10_in 0 0 [.int v, .int a, .int b] f t (fun o f' t' => o = .inl (some (.int (bI (mIn v a b)))) ∧ t' = t ∧ f' = f) := by
  refine mT_of (n := 0) (lo := [some (.int v), some (.int a), some (.int b)]) (by decide) (by exact Nat.le_of_ble_eq_true rfl) rfl rfl ?_
  refine v_iload_n dX10_in_0 rfl (by rfl) ?_
  refine v_iload_n dX10_in_1 rfl (by rfl) ?_
  refine v_icmp_lt (tgt := 14) dX10_in_2 (by decide) (fun c2 => ?_) (fun c2 => ?_)
  · refine v_iconst (v := nI 0) dX10_in_14 (by decide) ?_
    refine v_iret dX10_in_15 rfl (by first | rfl | exact nar_bI) ?_
    refine ⟨congrArg (fun x => (Sum.inl (some (Value.int x)) : aO)) ?_, rfl, rfl⟩
    unfold mIn
    simp only [← Int32.not_lt]
    simp [bI, *]
  · refine v_iload_n dX10_in_5 rfl (by rfl) ?_
    refine v_iload_n dX10_in_6 rfl (by rfl) ?_
    refine v_icmp_gt (tgt := 14) dX10_in_7 (by decide) (fun c7 => ?_) (fun c7 => ?_)
    · refine v_iconst (v := nI 0) dX10_in_14 (by decide) ?_
      refine v_iret dX10_in_15 rfl (by first | rfl | exact nar_bI) ?_
      refine ⟨congrArg (fun x => (Sum.inl (some (Value.int x)) : aO)) ?_, rfl, rfl⟩
      unfold mIn
      simp only [← Int32.not_lt]
      simp [bI, *]
    · refine v_iconst (v := nI 1) dX10_in_10 (by decide) ?_
      refine v_goto (tgt := 15) dX10_in_11 (by decide) ?_
      refine v_iret dX10_in_15 rfl (by first | rfl | exact nar_bI) ?_
      refine ⟨congrArg (fun x => (Sum.inl (some (Value.int x)) : aO)) ?_, rfl, rfl⟩
      unfold mIn
      simp only [← Int32.not_lt]
      simp [bI, *]

def mLtr (x : Int32) : Int32 := if mIn x (nI 97) (nI 122) = true then x - nI 32 else x
theorem ltr_in {x : Int32} (h : ¬ (nI 65 ≤ x ∧ x ≤ nI 116)) : ltr x = -1 := by
  have k : ∀ n : Nat, 65 ≤ n → n ≤ 116 → x ≠ nI n := fun n h1 h2 e => h (by rw [e]; exact ⟨nI_le (by omega) (by omega), nI_le (by omega) (by omega)⟩)
  unfold ltr
  rw [if_neg (k 65 (by decide) (by decide)), if_neg (k 67 (by decide) (by decide)), if_neg (k 71 (by decide) (by decide)), if_neg (k 78 (by decide) (by decide)), if_neg (k 84 (by decide) (by decide)), if_neg (k 97 (by decide) (by decide)), if_neg (k 99 (by decide) (by decide)), if_neg (k 103 (by decide) (by decide)), if_neg (k 110 (by decide) (by decide)), if_neg (k 116 (by decide) (by decide))]
set_option maxRecDepth 100000 in
set_option maxHeartbeats 4000000 in
/-- model: at -/
theorem sX10_at {E : eN} (hE : eOk E) {f : aH} {t : Nat} {M : Nat} {y : mV} {u : tS} {k : Nat} (hp : mTp y u) (hk : k < 2 ^ 31) : mT E mX10_at 0 0 [.ref M, .int (nI k)] (mdS f M y) t (fun o f' t' => o = .inl (some (.int (mOct u k))) ∧ t' = t ∧ f' = mdS f M y) := by
  refine mT_of (n := 0) (lo := [some (.ref M), some (.int (nI k))]) (by decide) (by exact Nat.le_of_ble_eq_true rfl) rfl rfl ?_
  obtain ⟨h1, h2, h3⟩ := id hp
  refine v_iload_n dX10_at_0 rfl (by rfl) ?_
  refine v_aload_n dX10_at_1 rfl (by rfl) ?_
  refine v_getf hE dX10_at_2 fX10_140 mdS_M (by rfl) ?_
  refine v_eqi (y := nI u.1) h1 ?_
  refine v_icmp_geN (tgt := 21) dX10_at_5 (by decide) (by omega) (by omega) (fun c5 => ?_) (fun c5 => ?_)
  · refine v_iconst (v := (-1)) dX10_at_21 (by decide) ?_
    refine v_iret dX10_at_22 rfl (by first | rfl | exact nar_bI) ?_
    first
      | (refine ⟨congrArg (fun x => (Sum.inl (some (Value.int x)) : aO)) ?_, rfl, rfl⟩; exact (h3 k (by omega)).symm.trans (ocAt_in (by omega) h2).symm)
      | (refine ⟨congrArg (fun x => (Sum.inl (some (Value.int x)) : aO)) ?_, rfl, rfl⟩; exact (ocAt_out (by omega) hk).symm)
  · refine v_aload_n dX10_at_8 rfl (by rfl) ?_
    refine v_getf hE dX10_at_9 fX10_7 mdS_M (by rfl) ?_
    refine v_iload_n dX10_at_12 rfl (by rfl) ?_
    refine m_bald hE (k := 1) dX10_at_13 (by decide) (by decide) rfl (show _ < 8000 by omega) (by omega) ?_
    refine v_sipush (v := nI 255) dX10_at_14 (by decide) ?_
    refine v_iand dX10_at_17 ?_
    refine v_goto (tgt := 22) dX10_at_18 (by decide) ?_
    refine v_iret dX10_at_22 rfl (by first | rfl | exact nar_bI) ?_
    first
      | (refine ⟨congrArg (fun x => (Sum.inl (some (Value.int x)) : aO)) ?_, rfl, rfl⟩; exact (h3 k (by omega)).symm.trans (ocAt_in (by omega) h2).symm)
      | (refine ⟨congrArg (fun x => (Sum.inl (some (Value.int x)) : aO)) ?_, rfl, rfl⟩; exact (ocAt_out (by omega) hk).symm)

/-- the first fault stays -/
def mBad (y : mV) (n p : Int32) : mV := if y.2 43 = 0 then (y.1, va_up (va_up y.2 43 n) 44 p) else y
set_option maxRecDepth 100000 in
set_option maxHeartbeats 4000000 in
/-- model: bad -/
theorem sX10_bad {E : eN} (hE : eOk E) {f : aH} {t : Nat} {M : Nat} {y : mV} {n p : Int32}  : mT E mX10_bad 0 0 [.ref M, .int n, .int p] (mdS f M y) t (fun o f' t' => o = .inl none ∧ t' = t ∧ f' = mdS f M (mBad y n p)) := by
  refine mT_of (n := 0) (lo := [some (.ref M), some (.int n), some (.int p)]) (by decide) (by exact Nat.le_of_ble_eq_true rfl) rfl rfl ?_
  refine v_aload_n dX10_bad_0 rfl (by rfl) ?_
  refine v_getf hE dX10_bad_1 fX10_147 mdS_M (by rfl) ?_
  refine v_if_ne (tgt := 17) dX10_bad_4 (by decide) (fun c4 => ?_) (fun c4 => ?_)
  · refine v_ret dX10_bad_17 rfl ?_
    unfold mBad
    first | (rw [if_pos c4]; exact ⟨rfl, rfl, rfl⟩) | (rw [if_neg c4]; exact ⟨rfl, rfl, rfl⟩)
  · refine v_aload_n dX10_bad_7 rfl (by rfl) ?_
    refine v_iload_n dX10_bad_8 rfl (by rfl) ?_
    refine m_put hE (j := 43) dX10_bad_9 fX10_147 (by exact Nat.le_of_ble_eq_true rfl) (by rfl) (by rfl) (by rfl) (by rfl) ?_
    refine v_aload_n dX10_bad_12 rfl (by rfl) ?_
    refine v_iload_n dX10_bad_13 rfl (by rfl) ?_
    refine m_put hE (j := 44) dX10_bad_14 fX10_150 (by exact Nat.le_of_ble_eq_true rfl) (by rfl) (by rfl) (by rfl) (by rfl) ?_
    refine v_ret dX10_bad_17 rfl ?_
    unfold mBad
    first | (rw [if_pos c4]; exact ⟨rfl, rfl, rfl⟩) | (rw [if_neg c4]; exact ⟨rfl, rfl, rfl⟩)

set_option maxRecDepth 100000 in
set_option maxHeartbeats 4000000 in
/-- model: isNameSign -/
theorem sX10_isNameSign {E : eN} (hE : eOk E) {f : aH} {t : Nat} {x : Int32}  : mT E mX10_isNameSign 0 0 [.int x] f t (fun o f' t' => o = .inl (some (.int (bI (isNm x)))) ∧ t' = t ∧ f' = f) := by
  refine mT_of (n := 0) (lo := [some (.int x)]) (by decide) (by exact Nat.le_of_ble_eq_true rfl) rfl rfl ?_
  refine v_iload_n dX10_isNameSign_0 rfl (by rfl) ?_
  refine v_bipush (v := nI 65) dX10_isNameSign_1 (by decide) ?_
  refine v_bipush (v := nI 90) dX10_isNameSign_3 (by decide) ?_
  refine w_callS hE dX10_isNameSign_5 kX10_136 (by rfl) (sX10_in hE) rfl (by decide) (by decide) (by exact Nat.le_of_ble_eq_true rfl) (by omega) (by omega) (fun v9 g9 u9 h9 => ?_) (fun _ _ _ h => by cases h.1)
  obtain ⟨hv9, hu9, hg9⟩ := h9
  replace hu9 := hu9.symm
  replace hg9 := hg9.symm
  subst hu9
  subst hg9
  cases hv9
  refine v_if_neB (tgt := 45) dX10_isNameSign_8 (by decide) (fun c8 => ?_) (fun c8 => ?_)
  · refine v_iconst (v := nI 1) dX10_isNameSign_45 (by decide) ?_
    refine v_goto (tgt := 50) dX10_isNameSign_46 (by decide) ?_
    refine v_iret dX10_isNameSign_50 rfl (by first | rfl | exact nar_bI) ?_
    refine ⟨congrArg (fun x => (Sum.inl (some (Value.int x)) : aO)) ?_, rfl, rfl⟩
    unfold isNm
    unfold mIn at *
    simp [bI, *]
  · refine v_iload_n dX10_isNameSign_11 rfl (by rfl) ?_
    refine v_bipush (v := nI 97) dX10_isNameSign_12 (by decide) ?_
    refine v_bipush (v := nI 122) dX10_isNameSign_14 (by decide) ?_
    refine w_callS hE dX10_isNameSign_16 kX10_136 (by rfl) (sX10_in hE) rfl (by decide) (by decide) (by exact Nat.le_of_ble_eq_true rfl) (by omega) (by omega) (fun v9 g9 u9 h9 => ?_) (fun _ _ _ h => by cases h.1)
    obtain ⟨hv9, hu9, hg9⟩ := h9
    replace hu9 := hu9.symm
    replace hg9 := hg9.symm
    subst hu9
    subst hg9
    cases hv9
    refine v_if_neB (tgt := 45) dX10_isNameSign_19 (by decide) (fun c19 => ?_) (fun c19 => ?_)
    · refine v_iconst (v := nI 1) dX10_isNameSign_45 (by decide) ?_
      refine v_goto (tgt := 50) dX10_isNameSign_46 (by decide) ?_
      refine v_iret dX10_isNameSign_50 rfl (by first | rfl | exact nar_bI) ?_
      refine ⟨congrArg (fun x => (Sum.inl (some (Value.int x)) : aO)) ?_, rfl, rfl⟩
      unfold isNm
      unfold mIn at *
      simp [bI, *]
    · refine v_iload_n dX10_isNameSign_22 rfl (by rfl) ?_
      refine v_bipush (v := nI 48) dX10_isNameSign_23 (by decide) ?_
      refine v_bipush (v := nI 57) dX10_isNameSign_25 (by decide) ?_
      refine w_callS hE dX10_isNameSign_27 kX10_136 (by rfl) (sX10_in hE) rfl (by decide) (by decide) (by exact Nat.le_of_ble_eq_true rfl) (by omega) (by omega) (fun v9 g9 u9 h9 => ?_) (fun _ _ _ h => by cases h.1)
      obtain ⟨hv9, hu9, hg9⟩ := h9
      replace hu9 := hu9.symm
      replace hg9 := hg9.symm
      subst hu9
      subst hg9
      cases hv9
      refine v_if_neB (tgt := 45) dX10_isNameSign_30 (by decide) (fun c30 => ?_) (fun c30 => ?_)
      · refine v_iconst (v := nI 1) dX10_isNameSign_45 (by decide) ?_
        refine v_goto (tgt := 50) dX10_isNameSign_46 (by decide) ?_
        refine v_iret dX10_isNameSign_50 rfl (by first | rfl | exact nar_bI) ?_
        refine ⟨congrArg (fun x => (Sum.inl (some (Value.int x)) : aO)) ?_, rfl, rfl⟩
        unfold isNm
        unfold mIn at *
        simp [bI, *]
      · refine v_iload_n dX10_isNameSign_33 rfl (by rfl) ?_
        refine v_bipush (v := nI 95) dX10_isNameSign_34 (by decide) ?_
        refine v_icmp_eq (tgt := 45) dX10_isNameSign_36 (by decide) (fun c36 => ?_) (fun c36 => ?_)
        · refine v_iconst (v := nI 1) dX10_isNameSign_45 (by decide) ?_
          refine v_goto (tgt := 50) dX10_isNameSign_46 (by decide) ?_
          refine v_iret dX10_isNameSign_50 rfl (by first | rfl | exact nar_bI) ?_
          refine ⟨congrArg (fun x => (Sum.inl (some (Value.int x)) : aO)) ?_, rfl, rfl⟩
          unfold isNm
          unfold mIn at *
          simp [bI, *]
        · refine v_iload_n dX10_isNameSign_39 rfl (by rfl) ?_
          refine v_bipush (v := nI 46) dX10_isNameSign_40 (by decide) ?_
          refine v_icmp_ne (tgt := 49) dX10_isNameSign_42 (by decide) (fun c42 => ?_) (fun c42 => ?_)
          · refine v_iconst (v := nI 0) dX10_isNameSign_49 (by decide) ?_
            refine v_iret dX10_isNameSign_50 rfl (by first | rfl | exact nar_bI) ?_
            refine ⟨congrArg (fun x => (Sum.inl (some (Value.int x)) : aO)) ?_, rfl, rfl⟩
            unfold isNm
            unfold mIn at *
            simp [bI, *]
          · refine v_iconst (v := nI 1) dX10_isNameSign_45 (by decide) ?_
            refine v_goto (tgt := 50) dX10_isNameSign_46 (by decide) ?_
            refine v_iret dX10_isNameSign_50 rfl (by first | rfl | exact nar_bI) ?_
            refine ⟨congrArg (fun x => (Sum.inl (some (Value.int x)) : aO)) ?_, rfl, rfl⟩
            unfold isNm
            unfold mIn at *
            simp [bI, *]

set_option maxRecDepth 100000 in
set_option maxHeartbeats 4000000 in
/-- model: sizeOf -/
theorem sX10_sizeOf {E : eN} (hE : eOk E) {f : aH} {t : Nat} {k : Nat} (hk : k < 6) : mT E mX10_sizeOf 0 0 [.int (nI k)] f t (fun o f' t' => o = .inl (some (.int (nI (mSgn k)))) ∧ t' = t ∧ f' = f) := by
  refine mT_of (n := 0) (lo := [some (.int (nI k))]) (by decide) (by exact Nat.le_of_ble_eq_true rfl) rfl rfl ?_
  refine v_iload_n dX10_sizeOf_0 rfl (by rfl) ?_
  refine v_if_neN (tgt := 9) dX10_sizeOf_1 (by decide) (by omega) (fun c1 => ?_) (fun c1 => ?_)
  · refine v_iload_n dX10_sizeOf_9 rfl (by rfl) ?_
    refine v_iconst (v := nI 1) dX10_sizeOf_10 (by decide) ?_
    refine v_icmp_neN (tgt := 19) dX10_sizeOf_11 (by decide) (by omega) (by omega) (fun c11 => ?_) (fun c11 => ?_)
    · refine v_iload_n dX10_sizeOf_19 rfl (by rfl) ?_
      refine v_iconst (v := nI 2) dX10_sizeOf_20 (by decide) ?_
      refine v_icmp_neN (tgt := 29) dX10_sizeOf_21 (by decide) (by omega) (by omega) (fun c21 => ?_) (fun c21 => ?_)
      · refine v_iload_n dX10_sizeOf_29 rfl (by rfl) ?_
        refine v_iconst (v := nI 3) dX10_sizeOf_30 (by decide) ?_
        refine v_icmp_neN (tgt := 38) dX10_sizeOf_31 (by decide) (by omega) (by omega) (fun c31 => ?_) (fun c31 => ?_)
        · refine v_iload_n dX10_sizeOf_38 rfl (by rfl) ?_
          refine v_iconst (v := nI 4) dX10_sizeOf_39 (by decide) ?_
          refine v_icmp_neN (tgt := 47) dX10_sizeOf_40 (by decide) (by omega) (by omega) (fun c40 => ?_) (fun c40 => ?_)
          · refine v_iconst (v := nI 1) dX10_sizeOf_47 (by decide) ?_
            refine v_iret dX10_sizeOf_48 rfl (by first | rfl | exact nar_bI) ?_
            refine ⟨congrArg (fun x => (Sum.inl (some (Value.int x)) : aO)) ?_, rfl, rfl⟩
            rcases (show k = 0 ∨ k = 1 ∨ k = 2 ∨ k = 3 ∨ k = 4 ∨ k = 5 by omega) with e | e | e | e | e | e <;> subst e <;> first | rfl | omega
          · refine v_iconst (v := nI 2) dX10_sizeOf_43 (by decide) ?_
            refine v_goto (tgt := 48) dX10_sizeOf_44 (by decide) ?_
            refine v_iret dX10_sizeOf_48 rfl (by first | rfl | exact nar_bI) ?_
            refine ⟨congrArg (fun x => (Sum.inl (some (Value.int x)) : aO)) ?_, rfl, rfl⟩
            rcases (show k = 0 ∨ k = 1 ∨ k = 2 ∨ k = 3 ∨ k = 4 ∨ k = 5 by omega) with e | e | e | e | e | e <;> subst e <;> first | rfl | omega
        · refine v_iconst (v := nI 4) dX10_sizeOf_34 (by decide) ?_
          refine v_goto (tgt := 48) dX10_sizeOf_35 (by decide) ?_
          refine v_iret dX10_sizeOf_48 rfl (by first | rfl | exact nar_bI) ?_
          refine ⟨congrArg (fun x => (Sum.inl (some (Value.int x)) : aO)) ?_, rfl, rfl⟩
          rcases (show k = 0 ∨ k = 1 ∨ k = 2 ∨ k = 3 ∨ k = 4 ∨ k = 5 by omega) with e | e | e | e | e | e <;> subst e <;> first | rfl | omega
      · refine v_bipush (v := nI 6) dX10_sizeOf_24 (by decide) ?_
        refine v_goto (tgt := 48) dX10_sizeOf_26 (by decide) ?_
        refine v_iret dX10_sizeOf_48 rfl (by first | rfl | exact nar_bI) ?_
        refine ⟨congrArg (fun x => (Sum.inl (some (Value.int x)) : aO)) ?_, rfl, rfl⟩
        rcases (show k = 0 ∨ k = 1 ∨ k = 2 ∨ k = 3 ∨ k = 4 ∨ k = 5 by omega) with e | e | e | e | e | e <;> subst e <;> first | rfl | omega
    · refine v_bipush (v := nI 38) dX10_sizeOf_14 (by decide) ?_
      refine v_goto (tgt := 48) dX10_sizeOf_16 (by decide) ?_
      refine v_iret dX10_sizeOf_48 rfl (by first | rfl | exact nar_bI) ?_
      refine ⟨congrArg (fun x => (Sum.inl (some (Value.int x)) : aO)) ?_, rfl, rfl⟩
      rcases (show k = 0 ∨ k = 1 ∨ k = 2 ∨ k = 3 ∨ k = 4 ∨ k = 5 by omega) with e | e | e | e | e | e <;> subst e <;> first | rfl | omega
  · refine v_bipush (v := nI 20) dX10_sizeOf_4 (by decide) ?_
    refine v_goto (tgt := 48) dX10_sizeOf_6 (by decide) ?_
    refine v_iret dX10_sizeOf_48 rfl (by first | rfl | exact nar_bI) ?_
    refine ⟨congrArg (fun x => (Sum.inl (some (Value.int x)) : aO)) ?_, rfl, rfl⟩
    rcases (show k = 0 ∨ k = 1 ∨ k = 2 ∨ k = 3 ∨ k = 4 ∨ k = 5 by omega) with e | e | e | e | e | e <;> subst e <;> first | rfl | omega

def mEi0 (j : Nat) : Int64 := if j = 0 then 2531980018488534639 else if j = 1 then 8245353644658410310 else 8517483591842660352
def mEi1 (j : Nat) : Int64 := if j = 0 then 2540954133122058576 else if j = 1 then 5715922562342015557 else if j = 2 then 5046636653528568149 else if j = 3 then 4705145908177425477 else 5911336586436345856
def mEi (k j : Nat) : Int64 := match k with
  | 0 => mEi0 j
  | 1 => mEi1 j
  | 2 => 5066358597577080832
  | 3 => 5782995012467818496
  | 4 => 5139733074736578560
  | _ => 3314649325744685056
set_option maxRecDepth 100000 in
set_option maxHeartbeats 4000000 in
/-- model: eightOf -/
theorem sX10_eightOf {E : eN} (hE : eOk E) {f : aH} {t : Nat} {k j : Nat} (hk : k < 6) (hj : j < 5) : mT E mX10_eightOf 0 0 [.int (nI k), .int (nI j)] f t (fun o f' t' => o = .inl (some (.long (mEi k j))) ∧ t' = t ∧ f' = f) := by
  refine mT_of (n := 0) (lo := [some (.int (nI k)), some (.int (nI j))]) (by decide) (by exact Nat.le_of_ble_eq_true rfl) rfl rfl ?_
  by_cases e0 : k = 0
  · subst e0
    refine v_iload_n dX10_eightOf_0 rfl (by rfl) ?_
    refine v_tableIn (off := 35) (tgt := 36) dX10_eightOf_1 (by decide) (by decide) (by decide) (by decide) ?_
    refine v_iload_n dX10_eightOf_36 rfl (by rfl) ?_
    refine v_if_neN (tgt := 46) dX10_eightOf_37 (by decide) (by omega) (fun c37 => ?_) (fun c37 => ?_)
    · refine v_iload_n dX10_eightOf_46 rfl (by rfl) ?_
      refine v_iconst (v := nI 1) dX10_eightOf_47 (by decide) ?_
      refine v_icmp_neN (tgt := 57) dX10_eightOf_48 (by decide) (by omega) (by omega) (fun c48 => ?_) (fun c48 => ?_)
      · refine v_ldc2 hE (v := 8517483591842660352) dX10_eightOf_57 (mem_at (j := 1640) (by decide +kernel)) ?_
        refine v_lret dX10_eightOf_60 rfl ?_
        refine ⟨congrArg (fun x => (Sum.inl (some (Value.long x)) : aO)) ?_, rfl, rfl⟩
        show _ = mEi0 j
        unfold mEi0
        first | rfl | (rw [if_pos (by omega)]; done) | (rw [if_neg (by omega), if_pos (by omega)]; done) | (rw [if_neg (by omega), if_neg (by omega), if_pos (by omega)]; done) | (rw [if_neg (by omega), if_neg (by omega), if_neg (by omega), if_pos (by omega)]; done) | (rw [if_neg (by omega), if_neg (by omega), if_neg (by omega), if_neg (by omega)]; done) | (rw [if_neg (by omega), if_neg (by omega)]; done)
      · refine v_ldc2 hE (v := 8245353644658410310) dX10_eightOf_51 (mem_at (j := 1639) (by decide +kernel)) ?_
        refine v_goto (tgt := 60) dX10_eightOf_54 (by decide) ?_
        refine v_lret dX10_eightOf_60 rfl ?_
        refine ⟨congrArg (fun x => (Sum.inl (some (Value.long x)) : aO)) ?_, rfl, rfl⟩
        show _ = mEi0 j
        unfold mEi0
        first | rfl | (rw [if_pos (by omega)]; done) | (rw [if_neg (by omega), if_pos (by omega)]; done) | (rw [if_neg (by omega), if_neg (by omega), if_pos (by omega)]; done) | (rw [if_neg (by omega), if_neg (by omega), if_neg (by omega), if_pos (by omega)]; done) | (rw [if_neg (by omega), if_neg (by omega), if_neg (by omega), if_neg (by omega)]; done) | (rw [if_neg (by omega), if_neg (by omega)]; done)
    · refine v_ldc2 hE (v := 2531980018488534639) dX10_eightOf_40 (mem_at (j := 1638) (by decide +kernel)) ?_
      refine v_goto (tgt := 60) dX10_eightOf_43 (by decide) ?_
      refine v_lret dX10_eightOf_60 rfl ?_
      refine ⟨congrArg (fun x => (Sum.inl (some (Value.long x)) : aO)) ?_, rfl, rfl⟩
      show _ = mEi0 j
      unfold mEi0
      first | rfl | (rw [if_pos (by omega)]; done) | (rw [if_neg (by omega), if_pos (by omega)]; done) | (rw [if_neg (by omega), if_neg (by omega), if_pos (by omega)]; done) | (rw [if_neg (by omega), if_neg (by omega), if_neg (by omega), if_pos (by omega)]; done) | (rw [if_neg (by omega), if_neg (by omega), if_neg (by omega), if_neg (by omega)]; done) | (rw [if_neg (by omega), if_neg (by omega)]; done)
  by_cases e1 : k = 1
  · subst e1
    refine v_iload_n dX10_eightOf_0 rfl (by rfl) ?_
    refine v_tableIn (off := 60) (tgt := 61) dX10_eightOf_1 (by decide) (by decide) (by decide) (by decide) ?_
    refine v_iload_n dX10_eightOf_61 rfl (by rfl) ?_
    refine v_if_neN (tgt := 71) dX10_eightOf_62 (by decide) (by omega) (fun c62 => ?_) (fun c62 => ?_)
    · refine v_iload_n dX10_eightOf_71 rfl (by rfl) ?_
      refine v_iconst (v := nI 1) dX10_eightOf_72 (by decide) ?_
      refine v_icmp_neN (tgt := 82) dX10_eightOf_73 (by decide) (by omega) (by omega) (fun c73 => ?_) (fun c73 => ?_)
      · refine v_iload_n dX10_eightOf_82 rfl (by rfl) ?_
        refine v_iconst (v := nI 2) dX10_eightOf_83 (by decide) ?_
        refine v_icmp_neN (tgt := 93) dX10_eightOf_84 (by decide) (by omega) (by omega) (fun c84 => ?_) (fun c84 => ?_)
        · refine v_iload_n dX10_eightOf_93 rfl (by rfl) ?_
          refine v_iconst (v := nI 3) dX10_eightOf_94 (by decide) ?_
          refine v_icmp_neN (tgt := 104) dX10_eightOf_95 (by decide) (by omega) (by omega) (fun c95 => ?_) (fun c95 => ?_)
          · refine v_ldc2 hE (v := 5911336586436345856) dX10_eightOf_104 (mem_at (j := 1645) (by decide +kernel)) ?_
            refine v_lret dX10_eightOf_107 rfl ?_
            refine ⟨congrArg (fun x => (Sum.inl (some (Value.long x)) : aO)) ?_, rfl, rfl⟩
            show _ = mEi1 j
            unfold mEi1
            first | rfl | (rw [if_pos (by omega)]; done) | (rw [if_neg (by omega), if_pos (by omega)]; done) | (rw [if_neg (by omega), if_neg (by omega), if_pos (by omega)]; done) | (rw [if_neg (by omega), if_neg (by omega), if_neg (by omega), if_pos (by omega)]; done) | (rw [if_neg (by omega), if_neg (by omega), if_neg (by omega), if_neg (by omega)]; done) | (rw [if_neg (by omega), if_neg (by omega)]; done)
          · refine v_ldc2 hE (v := 4705145908177425477) dX10_eightOf_98 (mem_at (j := 1644) (by decide +kernel)) ?_
            refine v_goto (tgt := 107) dX10_eightOf_101 (by decide) ?_
            refine v_lret dX10_eightOf_107 rfl ?_
            refine ⟨congrArg (fun x => (Sum.inl (some (Value.long x)) : aO)) ?_, rfl, rfl⟩
            show _ = mEi1 j
            unfold mEi1
            first | rfl | (rw [if_pos (by omega)]; done) | (rw [if_neg (by omega), if_pos (by omega)]; done) | (rw [if_neg (by omega), if_neg (by omega), if_pos (by omega)]; done) | (rw [if_neg (by omega), if_neg (by omega), if_neg (by omega), if_pos (by omega)]; done) | (rw [if_neg (by omega), if_neg (by omega), if_neg (by omega), if_neg (by omega)]; done) | (rw [if_neg (by omega), if_neg (by omega)]; done)
        · refine v_ldc2 hE (v := 5046636653528568149) dX10_eightOf_87 (mem_at (j := 1643) (by decide +kernel)) ?_
          refine v_goto (tgt := 107) dX10_eightOf_90 (by decide) ?_
          refine v_lret dX10_eightOf_107 rfl ?_
          refine ⟨congrArg (fun x => (Sum.inl (some (Value.long x)) : aO)) ?_, rfl, rfl⟩
          show _ = mEi1 j
          unfold mEi1
          first | rfl | (rw [if_pos (by omega)]; done) | (rw [if_neg (by omega), if_pos (by omega)]; done) | (rw [if_neg (by omega), if_neg (by omega), if_pos (by omega)]; done) | (rw [if_neg (by omega), if_neg (by omega), if_neg (by omega), if_pos (by omega)]; done) | (rw [if_neg (by omega), if_neg (by omega), if_neg (by omega), if_neg (by omega)]; done) | (rw [if_neg (by omega), if_neg (by omega)]; done)
      · refine v_ldc2 hE (v := 5715922562342015557) dX10_eightOf_76 (mem_at (j := 1642) (by decide +kernel)) ?_
        refine v_goto (tgt := 107) dX10_eightOf_79 (by decide) ?_
        refine v_lret dX10_eightOf_107 rfl ?_
        refine ⟨congrArg (fun x => (Sum.inl (some (Value.long x)) : aO)) ?_, rfl, rfl⟩
        show _ = mEi1 j
        unfold mEi1
        first | rfl | (rw [if_pos (by omega)]; done) | (rw [if_neg (by omega), if_pos (by omega)]; done) | (rw [if_neg (by omega), if_neg (by omega), if_pos (by omega)]; done) | (rw [if_neg (by omega), if_neg (by omega), if_neg (by omega), if_pos (by omega)]; done) | (rw [if_neg (by omega), if_neg (by omega), if_neg (by omega), if_neg (by omega)]; done) | (rw [if_neg (by omega), if_neg (by omega)]; done)
    · refine v_ldc2 hE (v := 2540954133122058576) dX10_eightOf_65 (mem_at (j := 1641) (by decide +kernel)) ?_
      refine v_goto (tgt := 107) dX10_eightOf_68 (by decide) ?_
      refine v_lret dX10_eightOf_107 rfl ?_
      refine ⟨congrArg (fun x => (Sum.inl (some (Value.long x)) : aO)) ?_, rfl, rfl⟩
      show _ = mEi1 j
      unfold mEi1
      first | rfl | (rw [if_pos (by omega)]; done) | (rw [if_neg (by omega), if_pos (by omega)]; done) | (rw [if_neg (by omega), if_neg (by omega), if_pos (by omega)]; done) | (rw [if_neg (by omega), if_neg (by omega), if_neg (by omega), if_pos (by omega)]; done) | (rw [if_neg (by omega), if_neg (by omega), if_neg (by omega), if_neg (by omega)]; done) | (rw [if_neg (by omega), if_neg (by omega)]; done)
  by_cases e2 : k = 2
  · subst e2
    refine v_iload_n dX10_eightOf_0 rfl (by rfl) ?_
    refine v_tableIn (off := 107) (tgt := 108) dX10_eightOf_1 (by decide) (by decide) (by decide) (by decide) ?_
    refine v_ldc2 hE (v := 5066358597577080832) dX10_eightOf_108 (mem_at (j := 1646) (by decide +kernel)) ?_
    refine v_lret dX10_eightOf_111 rfl ?_
    refine ⟨congrArg (fun x => (Sum.inl (some (Value.long x)) : aO)) ?_, rfl, rfl⟩
    first | rfl | (rw [if_pos (by omega)]; done) | (rw [if_neg (by omega), if_pos (by omega)]; done) | (rw [if_neg (by omega), if_neg (by omega), if_pos (by omega)]; done) | (rw [if_neg (by omega), if_neg (by omega), if_neg (by omega), if_pos (by omega)]; done) | (rw [if_neg (by omega), if_neg (by omega), if_neg (by omega), if_neg (by omega)]; done) | (rw [if_neg (by omega), if_neg (by omega)]; done)
  by_cases e3 : k = 3
  · subst e3
    refine v_iload_n dX10_eightOf_0 rfl (by rfl) ?_
    refine v_tableIn (off := 111) (tgt := 112) dX10_eightOf_1 (by decide) (by decide) (by decide) (by decide) ?_
    refine v_ldc2 hE (v := 5782995012467818496) dX10_eightOf_112 (mem_at (j := 1647) (by decide +kernel)) ?_
    refine v_lret dX10_eightOf_115 rfl ?_
    refine ⟨congrArg (fun x => (Sum.inl (some (Value.long x)) : aO)) ?_, rfl, rfl⟩
    first | rfl | (rw [if_pos (by omega)]; done) | (rw [if_neg (by omega), if_pos (by omega)]; done) | (rw [if_neg (by omega), if_neg (by omega), if_pos (by omega)]; done) | (rw [if_neg (by omega), if_neg (by omega), if_neg (by omega), if_pos (by omega)]; done) | (rw [if_neg (by omega), if_neg (by omega), if_neg (by omega), if_neg (by omega)]; done) | (rw [if_neg (by omega), if_neg (by omega)]; done)
  by_cases e4 : k = 4
  · subst e4
    refine v_iload_n dX10_eightOf_0 rfl (by rfl) ?_
    refine v_tableIn (off := 115) (tgt := 116) dX10_eightOf_1 (by decide) (by decide) (by decide) (by decide) ?_
    refine v_ldc2 hE (v := 5139733074736578560) dX10_eightOf_116 (mem_at (j := 1648) (by decide +kernel)) ?_
    refine v_lret dX10_eightOf_119 rfl ?_
    refine ⟨congrArg (fun x => (Sum.inl (some (Value.long x)) : aO)) ?_, rfl, rfl⟩
    first | rfl | (rw [if_pos (by omega)]; done) | (rw [if_neg (by omega), if_pos (by omega)]; done) | (rw [if_neg (by omega), if_neg (by omega), if_pos (by omega)]; done) | (rw [if_neg (by omega), if_neg (by omega), if_neg (by omega), if_pos (by omega)]; done) | (rw [if_neg (by omega), if_neg (by omega), if_neg (by omega), if_neg (by omega)]; done) | (rw [if_neg (by omega), if_neg (by omega)]; done)
  have e5 : k = 5 := by omega
  subst e5
  refine v_iload_n dX10_eightOf_0 rfl (by rfl) ?_
  refine v_tableOut (tgt := 120) dX10_eightOf_1 (by decide) (by decide) ?_
  refine v_ldc2 hE (v := 3314649325744685056) dX10_eightOf_120 (mem_at (j := 1649) (by decide +kernel)) ?_
  refine v_lret dX10_eightOf_123 rfl ?_
  exact ⟨rfl, rfl, rfl⟩

theorem mTx_o : ∀ k, k < 6 → ∀ i, i < mSgn k → ((mEi k (i / 8)) >>> ((nI (56 - 8 * (i % 8))).toInt64 &&& 63)).toInt32 &&& nI 255 = nI ((mTx k).getD i 0) := by decide +kernel
theorem mTx_l : ∀ k, k < 6 → (mTx k).length = mSgn k ∧ mSgn k ≤ 38 := by decide +kernel
set_option maxRecDepth 100000 in
set_option maxHeartbeats 4000000 in
/-- model: octetOf -/
theorem sX10_octetOf {E : eN} (hE : eOk E) {f : aH} {t : Nat} {k i : Nat} (hk : k < 6) (hi : i < mSgn k) : mT E mX10_octetOf 0 0 [.int (nI k), .int (nI i)] f t (fun o f' t' => o = .inl (some (.int (nI ((mTx k).getD i 0)))) ∧ t' = t ∧ f' = f) := by
  refine mT_of (n := 0) (lo := [some (.int (nI k)), some (.int (nI i))]) (by decide) (by exact Nat.le_of_ble_eq_true rfl) rfl rfl ?_
  have h38 := (mTx_l k hk).2
  refine v_iload_n dX10_octetOf_0 rfl (by rfl) ?_
  refine v_iload_n dX10_octetOf_1 rfl (by rfl) ?_
  refine v_bipush (v := nI 8) dX10_octetOf_2 (by decide) ?_
  refine v_idivN dX10_octetOf_4 (by omega) (by omega) (by omega) ?_
  refine w_callS hE dX10_octetOf_5 kX10_224 (by rfl) (sX10_eightOf hE hk (by omega)) rfl (by decide) (by decide) (by exact Nat.le_of_ble_eq_true rfl) (by omega) (by omega) (fun v9 g9 u9 h9 => ?_) (fun _ _ _ h => by cases h.1)
  obtain ⟨hv9, hu9, hg9⟩ := h9
  replace hu9 := hu9.symm
  replace hg9 := hg9.symm
  subst hu9
  subst hg9
  cases hv9
  refine v_bipush (v := nI 56) dX10_octetOf_8 (by decide) ?_
  refine v_bipush (v := nI 8) dX10_octetOf_10 (by decide) ?_
  refine v_iload_n dX10_octetOf_12 rfl (by rfl) ?_
  refine v_bipush (v := nI 8) dX10_octetOf_13 (by decide) ?_
  refine v_iremN dX10_octetOf_15 (by omega) (by omega) (by omega) ?_
  refine v_imulN dX10_octetOf_16 ?_
  refine v_isubN dX10_octetOf_17 (by omega) ?_
  refine v_lshr dX10_octetOf_18 rfl ?_
  refine v_l2i dX10_octetOf_19 rfl ?_
  refine v_sipush (v := nI 255) dX10_octetOf_20 (by decide) ?_
  refine v_iand dX10_octetOf_23 ?_
  refine v_iret dX10_octetOf_24 rfl (by first | rfl | exact nar_bI) ?_
  exact ⟨congrArg (fun x => (Sum.inl (some (Value.int x)) : aO)) (mTx_o k hk i hi), rfl, rfl⟩
