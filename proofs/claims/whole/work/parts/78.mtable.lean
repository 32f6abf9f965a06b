theorem mCS_nw {y : mV} {a s b r : Nat} (h : aNw y.1) : aNw (mCS y a s b r).1 := aNw_cp h (aNw_up h h)
def mCT (y : mV) (a b : Nat) : mV := mCS (mCS (mCS y a 0 b 0) a (0 + 1) b (0 + 1)) a (0 + 1 + 1) b (0 + 1 + 1)
theorem mCS_19 {y : mV} {a s b r : Nat} : (mCS y a s b r).1 19 = upd (y.1 19) (3 * a + s) (y.1 19 (3 * b + r)) := rfl
theorem mCS_18 {y : mV} {a s b r : Nat} : (mCS y a s b r).1 18 = mCp (y.1 18) (20 * (3 * b + r)) (20 * (3 * a + s)) 20 := rfl
theorem mCT_o {y : mV} {a b c s : Nat} (h : c ≠ a) (hs : s < 3) : (mCT y a b).1 19 (3 * c + s) = y.1 19 (3 * c + s) ∧ ∀ k, k < 20 → (mCT y a b).1 18 (20 * (3 * c + s) + k) = y.1 18 (20 * (3 * c + s) + k) := by
  unfold mCT
  constructor
  · rw [mCS_19, updN (by omega), mCS_19, updN (by omega), mCS_19, updN (by omega)]
  · intro k hk
    rw [mCS_18, mCp_o (by omega), mCS_18, mCp_o (by omega), mCS_18, mCp_o (by omega)]
theorem mCT_a {y : mV} {a b s : Nat} (h : a ≠ b) (hs : s < 3) : (mCT y a b).1 19 (3 * a + s) = y.1 19 (3 * b + s) ∧ ∀ k, k < 20 → (mCT y a b).1 18 (20 * (3 * a + s) + k) = y.1 18 (20 * (3 * b + s) + k) := by
  unfold mCT
  rcases (show s = 0 ∨ s = 1 ∨ s = 2 by omega) with e | e | e <;> subst e
  · constructor
    · rw [mCS_19, updN (by omega), mCS_19, updN (by omega), mCS_19, updS]
    · intro k hk
      rw [mCS_18, mCp_o (by omega), mCS_18, mCp_o (by omega), mCS_18, mCp_i2 (k := k) (by omega) (by omega)]
  · constructor
    · rw [mCS_19, updN (by omega), mCS_19]
      refine updS.trans ?_
      rw [mCS_19, updN (by omega)]
    · intro k hk
      rw [mCS_18, mCp_o (by omega), mCS_18, mCp_i2 (k := k) (by omega) (by omega), mCS_18, mCp_o (by omega)]
  · constructor
    · rw [mCS_19]
      refine updS.trans ?_
      rw [mCS_19, updN (by omega), mCS_19, updN (by omega)]
    · intro k hk
      rw [mCS_18, mCp_i2 (k := k) (by omega) (by omega), mCS_18, mCp_o (by omega), mCS_18, mCp_o (by omega)]
theorem mCT_k {y : mV} {a b k : Nat} (h1 : k ≠ 18) (h2 : k ≠ 19) : (mCT y a b).1 k = y.1 k := by
  unfold mCT mCS
  dsimp only
  repeat rw [va_up_ne _ _ (by omega)]
set_option maxRecDepth 100000 in
set_option maxHeartbeats 600000 in
/-- model: copyTable -/
theorem sX10_copyTable {E : eN} (hE : eOk E) {f : aH} {t : Nat} {M : Nat} {y : mV} {a b n m : Nat} {w : Nat → eV} (hO : aNw y.1) (hM : y.1 16 b = nI n) (hn : n ≤ 60) (ha : a < 4) (hb : b < 4) (hab : a ≠ b) (hw : ∀ k, k < n → mE y (60 * b + k) (w k) m) (hwo : ∀ k, k < n → enOk (w k)) (hm : m ≤ 3) : mT E mX10_copyTable 0 0 [.ref M, .int (nI a), .int (nI b)] (mdS f M y) t (fun o f' t' => o = .inl none ∧ t' = t ∧ ∃ v, f' = mdS f M v ∧ mFr (tB a) (mCT (va_up (va_up y.1 16 (upd (y.1 16) a (y.1 16 b))) 17 (upd (y.1 17) a (y.1 17 b)), y.2) a b) v ∧ ∀ j, j < n → mE v (60 * a + j) (w j) m) := by
  refine mT_of (n := 1) (lo := [some (.ref M), some (.int (nI a)), some (.int (nI b)), none]) (by decide) (by exact Nat.le_of_ble_eq_true rfl) rfl rfl ?_
  have lp : ∀ (d k : Nat) (v : mV), k + d = n → mFr (tB a) (mCT (va_up (va_up y.1 16 (upd (y.1 16) a (y.1 16 b))) 17 (upd (y.1 17) a (y.1 17 b)), y.2) a b) v → (∀ j, j < k → mE v (60 * a + j) (w j) m) → V E mX10_copyTable 0 0 (fun o f' t' => o = .inl none ∧ t' = t ∧ ∃ v, f' = mdS f M v ∧ mFr (tB a) (mCT (va_up (va_up y.1 16 (upd (y.1 16) a (y.1 16 b))) 17 (upd (y.1 17) a (y.1 17 b)), y.2) a b) v ∧ ∀ j, j < n → mE v (60 * a + j) (w j) m) 47 [some (.ref M), some (.int (nI a)), some (.int (nI b)), some (.int (nI k))] [] (mdS f M v) t 0 0 := by
    intro d
    induction d using Nat.strongRecOn with
    | _ d ih =>
    intro k v hd hv hv9
    have hMv : v.1 16 b = nI n := by
      rw [hv.2.1 16 (by omega), mCT_k (by omega) (by omega)]
      show upd (y.1 16) a (y.1 16 b) b = _
      rw [updN (by omega)]
      exact hM
    refine v_iload_n dX10_copyTable_47 rfl (by rfl) ?_
    refine v_aload_n dX10_copyTable_48 rfl (by rfl) ?_
    refine v_getf hE dX10_copyTable_49 fX10_60 mdS_M (by rfl) ?_
    refine v_iload_n dX10_copyTable_52 rfl (by rfl) ?_
    refine m_iald hE (k := 16) dX10_copyTable_53 (by decide) (by decide) rfl (show _ < 4 by omega) (by omega) ?_
    refine v_eqi (y := nI n) hMv ?_
    refine v_icmp_geN (tgt := 79) dX10_copyTable_54 (by decide) (by omega) (by omega) (fun c54 => ?_) (fun c54 => ?_)
    · refine v_ret dX10_copyTable_79 rfl ?_
      exact ⟨rfl, rfl, v, rfl, hv, fun j hj => hv9 j (by omega)⟩
    · refine v_aload_n dX10_copyTable_57 rfl (by rfl) ?_
      refine v_bipush (v := nI 60) dX10_copyTable_58 (by decide) ?_
      refine v_iload_n dX10_copyTable_60 rfl (by rfl) ?_
      refine v_imulN dX10_copyTable_61 ?_
      refine v_iload_n dX10_copyTable_62 rfl (by rfl) ?_
      refine v_iaddN dX10_copyTable_63 ?_
      refine v_bipush (v := nI 60) dX10_copyTable_64 (by decide) ?_
      refine v_iload_n dX10_copyTable_66 rfl (by rfl) ?_
      refine v_imulN dX10_copyTable_67 ?_
      refine v_iload_n dX10_copyTable_68 rfl (by rfl) ?_
      refine v_iaddN dX10_copyTable_69 ?_
      refine w_callV hE dX10_copyTable_70 kX10_197 mdS_M (by rfl) (by rfl) (sX10_copy hE hv.2.2.1 (by omega) (by omega) (by omega)) rfl (by decide) (by decide) (by exact Nat.le_of_ble_eq_true rfl) (by omega) (by omega) (fun v9 g9 u9 h9 => ?_) (fun _ _ _ h => by cases h.1)
      obtain ⟨hv9, hu9, hg9⟩ := h9
      replace hu9 := hu9.symm
      subst hu9
      subst hg9
      cases hv9
      refine v_iincN (y := 1) dX10_copyTable_73 (by rfl) (by decide) (by decide) ?_
      refine v_goto (tgt := 47) dX10_copyTable_76 (by decide) ?_
      exact ih (d - 1) (by omega) (k + 1) _ (by omega) (mFr_c hv ⟨by omega, by omega⟩) (fun j hj => by
        by_cases e : j = k
        · subst e; exact mCopy_a (hv.2.2.2 _ _ _ (fun z => by have := z.1; have := z.2; omega) (hw j (by omega)) (hwo j (by omega)) hm) (hwo j (by omega)) hm
        · exact mCopy_o (hv9 j (by omega)) (hwo j (by omega)) hm (by omega))
  refine v_aload_n dX10_copyTable_0 rfl (by rfl) ?_
  refine v_getf hE dX10_copyTable_1 fX10_60 mdS_M (by rfl) ?_
  refine v_iload_n dX10_copyTable_4 rfl (by rfl) ?_
  refine v_aload_n dX10_copyTable_5 rfl (by rfl) ?_
  refine v_getf hE dX10_copyTable_6 fX10_60 mdS_M (by rfl) ?_
  refine v_iload_n dX10_copyTable_9 rfl (by rfl) ?_
  refine m_iald hE (k := 16) dX10_copyTable_10 (by decide) (by decide) rfl (show _ < 4 by omega) (by omega) ?_
  refine v_eqi (y := y.1 16 b) rfl ?_
  refine m_iast hE (k := 16) dX10_copyTable_11 (by decide) (by decide) rfl (show _ < 4 by omega) (by omega) ?_
  refine v_aload_n dX10_copyTable_12 rfl (by rfl) ?_
  refine v_getf hE dX10_copyTable_13 fX10_63 mdS_M (by rfl) ?_
  refine v_iload_n dX10_copyTable_16 rfl (by rfl) ?_
  refine v_aload_n dX10_copyTable_17 rfl (by rfl) ?_
  refine v_getf hE dX10_copyTable_18 fX10_63 mdS_M (by rfl) ?_
  refine v_iload_n dX10_copyTable_21 rfl (by rfl) ?_
  refine m_iald hE (k := 17) dX10_copyTable_22 (by decide) (by decide) rfl (show _ < 4 by omega) (by omega) ?_
  refine v_eqi (y := y.1 17 b) rfl ?_
  refine m_iast hE (k := 17) dX10_copyTable_23 (by decide) (by decide) rfl (show _ < 4 by omega) (by omega) ?_
  refine v_iconst (v := nI 0) dX10_copyTable_24 (by decide) ?_
  refine v_istore_n dX10_copyTable_25 rfl (by decide) ?_
  refine v_iload_n dX10_copyTable_26 rfl (by rfl) ?_
  refine v_iconst (v := nI 3) dX10_copyTable_27 (by decide) ?_
  refine v_icmp_geN (tgt := 45) dX10_copyTable_28 (by decide) (by omega) (by omega) (fun c28 => ?_) (fun c28 => ?_)
  · exact absurd c28 (by omega)
  · refine v_aload_n dX10_copyTable_31 rfl (by rfl) ?_
    refine v_iload_n dX10_copyTable_32 rfl (by rfl) ?_
    refine v_iload_n dX10_copyTable_33 rfl (by rfl) ?_
    refine v_iload_n dX10_copyTable_34 rfl (by rfl) ?_
    refine v_iload_n dX10_copyTable_35 rfl (by rfl) ?_
    refine w_callV hE dX10_copyTable_36 kX10_194 mdS_M (by rfl) (by rfl) (sX10_copySample hE (aNw_i (aNw_i hO rfl) rfl) ha (by omega) hb (by omega) (by omega)) rfl (by decide) (by decide) (by exact Nat.le_of_ble_eq_true rfl) (by omega) (by omega) (fun v9 g9 u9 h9 => ?_) (fun _ _ _ h => by cases h.1)
    obtain ⟨hv9, hu9, hg9⟩ := h9
    replace hu9 := hu9.symm
    subst hu9
    subst hg9
    cases hv9
    refine v_iincN (y := 1) dX10_copyTable_39 (by rfl) (by decide) (by decide) ?_
    refine v_goto (tgt := 26) dX10_copyTable_42 (by decide) ?_
    refine v_iload_n dX10_copyTable_26 rfl (by rfl) ?_
    refine v_iconst (v := nI 3) dX10_copyTable_27 (by decide) ?_
    refine v_icmp_geN (tgt := 45) dX10_copyTable_28 (by decide) (by omega) (by omega) (fun c28 => ?_) (fun c28 => ?_)
    · exact absurd c28 (by omega)
    · refine v_aload_n dX10_copyTable_31 rfl (by rfl) ?_
      refine v_iload_n dX10_copyTable_32 rfl (by rfl) ?_
      refine v_iload_n dX10_copyTable_33 rfl (by rfl) ?_
      refine v_iload_n dX10_copyTable_34 rfl (by rfl) ?_
      refine v_iload_n dX10_copyTable_35 rfl (by rfl) ?_
      refine w_callV hE dX10_copyTable_36 kX10_194 mdS_M (by rfl) (by rfl) (sX10_copySample hE (mCS_nw (aNw_i (aNw_i hO rfl) rfl)) ha (by omega) hb (by omega) (by omega)) rfl (by decide) (by decide) (by exact Nat.le_of_ble_eq_true rfl) (by omega) (by omega) (fun v9 g9 u9 h9 => ?_) (fun _ _ _ h => by cases h.1)
      obtain ⟨hv9, hu9, hg9⟩ := h9
      replace hu9 := hu9.symm
      subst hu9
      subst hg9
      cases hv9
      refine v_iincN (y := 1) dX10_copyTable_39 (by rfl) (by decide) (by decide) ?_
      refine v_goto (tgt := 26) dX10_copyTable_42 (by decide) ?_
      refine v_iload_n dX10_copyTable_26 rfl (by rfl) ?_
      refine v_iconst (v := nI 3) dX10_copyTable_27 (by decide) ?_
      refine v_icmp_geN (tgt := 45) dX10_copyTable_28 (by decide) (by omega) (by omega) (fun c28 => ?_) (fun c28 => ?_)
      · exact absurd c28 (by omega)
      · refine v_aload_n dX10_copyTable_31 rfl (by rfl) ?_
        refine v_iload_n dX10_copyTable_32 rfl (by rfl) ?_
        refine v_iload_n dX10_copyTable_33 rfl (by rfl) ?_
        refine v_iload_n dX10_copyTable_34 rfl (by rfl) ?_
        refine v_iload_n dX10_copyTable_35 rfl (by rfl) ?_
        refine w_callV hE dX10_copyTable_36 kX10_194 mdS_M (by rfl) (by rfl) (sX10_copySample hE (mCS_nw (mCS_nw (aNw_i (aNw_i hO rfl) rfl))) ha (by omega) hb (by omega) (by omega)) rfl (by decide) (by decide) (by exact Nat.le_of_ble_eq_true rfl) (by omega) (by omega) (fun v9 g9 u9 h9 => ?_) (fun _ _ _ h => by cases h.1)
        obtain ⟨hv9, hu9, hg9⟩ := h9
        replace hu9 := hu9.symm
        subst hu9
        subst hg9
        cases hv9
        refine v_iincN (y := 1) dX10_copyTable_39 (by rfl) (by decide) (by decide) ?_
        refine v_goto (tgt := 26) dX10_copyTable_42 (by decide) ?_
        refine v_iload_n dX10_copyTable_26 rfl (by rfl) ?_
        refine v_iconst (v := nI 3) dX10_copyTable_27 (by decide) ?_
        refine v_icmp_geN (tgt := 45) dX10_copyTable_28 (by decide) (by omega) (by omega) (fun c28 => ?_) (fun c28 => ?_)
        · refine v_iconst (v := nI 0) dX10_copyTable_45 (by decide) ?_
          refine v_istore_n dX10_copyTable_46 rfl (by decide) ?_
          exact lp n 0 (mCT (va_up (va_up y.1 16 (upd (y.1 16) a (y.1 16 b))) 17 (upd (y.1 17) a (y.1 17 b)), y.2) a b) (by omega) (mFr_0 (mCS_nw (mCS_nw (mCS_nw (aNw_i (aNw_i hO rfl) rfl))))) (fun j hj => absurd hj (Nat.not_lt_zero _))
        · exact absurd c28 (by omega)
