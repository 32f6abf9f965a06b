/-- the records of table a -/
def tB (a r : Nat) : Prop := 60 * a ≤ r ∧ r < 60 * a + 60
def rkN (w : Nat → eV) (n : Nat) : Nat → Bool := fun j => decide (¬ rk w n j = j)
set_option maxRecDepth 100000 in
set_option maxHeartbeats 600000 in
/-- model: sortInto -/
theorem sX10_sortInto {E : eN} (hE : eOk E) {f : aH} {t : Nat} {M : Nat} {y : mV} {i a n m : Nat} {w : Nat → eV} (hO : aNw y.1) (hM : y.1 16 i = nI n) (hn : n ≤ 60) (hi : i < 4) (hw : ∀ k, k < n → mE y (60 * i + k) (w k) m) (hwo : ∀ k, k < n → enOk (w k)) (hm : m ≤ 3) (ha : a < 4) (hai : a ≠ i) : mT E mX10_sortInto 0 0 [.ref M, .int (nI a), .int (nI i)] (mdS f M y) t (fun o f' t' => o = .inl (some (.int (nI (cntN (rkN w n) (n - 0) 0 0)))) ∧ t' = t ∧ ∃ z, f' = mdS f M (va_up z.1 16 (upd (y.1 16) a (nI n)), z.2) ∧ mFr (tB a) y z ∧ ∀ j, j < n → mE z (60 * a + rk w n j) (w j) m) := by
  refine mT_of (n := 3) (lo := [some (.ref M), some (.int (nI a)), some (.int (nI i)), none, none, none]) (by decide) (by exact Nat.le_of_ble_eq_true rfl) rfl rfl ?_
  have lp : ∀ (d : Nat) (j c : Nat) (z : mV) (z5 : Option Value), j + d = n → c ≤ j → mFr (tB a) y z → (∀ j', j' < j → mE z (60 * a + rk w n j') (w j') m) → cntN (rkN w n) (n - 0) 0 0 = cntN (rkN w n) (n - j) j c → V E mX10_sortInto 0 0 (fun o f' t' => o = .inl (some (.int (nI (cntN (rkN w n) (n - 0) 0 0)))) ∧ t' = t ∧ ∃ z, f' = mdS f M (va_up z.1 16 (upd (y.1 16) a (nI n)), z.2) ∧ mFr (tB a) y z ∧ ∀ j, j < n → mE z (60 * a + rk w n j) (w j) m) 5 [some (.ref M), some (.int (nI a)), some (.int (nI i)), some (.int (nI c)), some (.int (nI j)), z5] [] (mdS f M z) t 0 0 := by
    intro d
    induction d using Nat.strongRecOn with
    | _ d ih =>
    intro j c z z5 hj hc hz hd9 he
    have hMz : z.1 16 i = nI n := by rw [hz.2.1 16 (by omega)]; exact hM
    have hwz : ∀ k, k < n → mE z (60 * i + k) (w k) m := fun k hk => hz.2.2.2 _ _ _ (fun q => by have := q.1; have := q.2; omega) (hw k hk) (hwo k hk) hm
    refine v_iload dX10_sortInto_5 (by rfl) ?_
    refine v_aload_n dX10_sortInto_7 rfl (by rfl) ?_
    refine v_getf hE dX10_sortInto_8 fX10_60 mdS_M (by rfl) ?_
    refine v_iload_n dX10_sortInto_11 rfl (by rfl) ?_
    refine m_iald hE (k := 16) dX10_sortInto_12 (by decide) (by decide) rfl (show _ < 4 by omega) (by omega) ?_
    refine v_eqi (y := nI n) hMz ?_
    refine v_icmp_geN (tgt := 64) dX10_sortInto_13 (by decide) (by omega) (by omega) (fun c13 => ?_) (fun c13 => ?_)
    · refine v_aload_n dX10_sortInto_64 rfl (by rfl) ?_
      refine v_getf hE dX10_sortInto_65 fX10_60 mdS_M (by rfl) ?_
      refine v_iload_n dX10_sortInto_68 rfl (by rfl) ?_
      refine v_aload_n dX10_sortInto_69 rfl (by rfl) ?_
      refine v_getf hE dX10_sortInto_70 fX10_60 mdS_M (by rfl) ?_
      refine v_iload_n dX10_sortInto_73 rfl (by rfl) ?_
      refine m_iald hE (k := 16) dX10_sortInto_74 (by decide) (by decide) rfl (show _ < 4 by omega) (by omega) ?_
      refine v_eqi (y := nI n) hMz ?_
      refine m_iast hE (k := 16) dX10_sortInto_75 (by decide) (by decide) rfl (show _ < 4 by omega) (by omega) ?_
      refine v_iload_n dX10_sortInto_76 rfl (by rfl) ?_
      refine v_iret dX10_sortInto_77 rfl (by first | rfl | exact nar_bI) ?_
      refine ⟨?_, rfl, z, ?_, hz, fun j' hj' => hd9 j' (by omega)⟩
      · rw [he, show n - j = 0 by omega]
        rfl
      · rw [hz.2.1 16 (by omega)]
    · have hrk := rk_lt (w := w) (n := n) (i := j) (by omega)
      refine v_aload_n dX10_sortInto_16 rfl (by rfl) ?_
      refine v_iload_n dX10_sortInto_17 rfl (by rfl) ?_
      refine v_iload dX10_sortInto_18 (by rfl) ?_
      refine w_callV hE dX10_sortInto_20 kX10_347 mdS_M (by rfl) (by rfl) (sX10_rank hE hMz hn hi hwz (by omega)) rfl (by decide) (by decide) (by exact Nat.le_of_ble_eq_true rfl) (by omega) (by omega) (fun v9 g9 u9 h9 => ?_) (fun _ _ _ h => by cases h.1)
      obtain ⟨hv9, hu9, hg9⟩ := h9
      replace hu9 := hu9.symm
      subst hu9
      subst hg9
      cases hv9
      refine v_istore dX10_sortInto_23 (by decide) ?_
      refine v_aload_n dX10_sortInto_25 rfl (by rfl) ?_
      refine v_bipush (v := nI 60) dX10_sortInto_26 (by decide) ?_
      refine v_iload_n dX10_sortInto_28 rfl (by rfl) ?_
      refine v_imulN dX10_sortInto_29 ?_
      refine v_iload dX10_sortInto_30 (by rfl) ?_
      refine v_iaddN dX10_sortInto_32 ?_
      refine v_bipush (v := nI 60) dX10_sortInto_33 (by decide) ?_
      refine v_iload_n dX10_sortInto_35 rfl (by rfl) ?_
      refine v_imulN dX10_sortInto_36 ?_
      refine v_iload dX10_sortInto_37 (by rfl) ?_
      refine v_iaddN dX10_sortInto_39 ?_
      refine w_callV hE dX10_sortInto_40 kX10_197 mdS_M (by rfl) (by rfl) (sX10_copy hE hz.2.2.1 (by omega) (by omega) (by omega)) rfl (by decide) (by decide) (by exact Nat.le_of_ble_eq_true rfl) (by omega) (by omega) (fun v9 g9 u9 h9 => ?_) (fun _ _ _ h => by cases h.1)
      obtain ⟨hv9, hu9, hg9⟩ := h9
      replace hu9 := hu9.symm
      subst hu9
      subst hg9
      cases hv9
      refine v_iload dX10_sortInto_43 (by rfl) ?_
      refine v_iload dX10_sortInto_45 (by rfl) ?_
      refine v_icmp_eqN (tgt := 56) dX10_sortInto_47 (by decide) (by omega) (by omega) (fun c47 => ?_) (fun c47 => ?_)
      · refine v_iload_n dX10_sortInto_56 rfl (by rfl) ?_
        refine v_istore_n dX10_sortInto_57 rfl (by decide) ?_
        refine v_iincN (y := 1) dX10_sortInto_58 (by rfl) (by decide) (by decide) ?_
        refine v_goto (tgt := 5) dX10_sortInto_61 (by decide) ?_
        first
          | exact ih (d - 1) (by omega) (j + 1) c _ _ (by omega) (by omega) (mFr_c hz ⟨by omega, by omega⟩) (fun j' hj' => by
            by_cases e : j' = j
            · subst e; exact mCopy_a (hwz j' (by omega)) (hwo j' (by omega)) hm
            · exact mCopy_o (hd9 j' (by omega)) (hwo j' (by omega)) hm (fun q => e (rk_inj (w := w) (n := n) (by omega) (by omega) (by omega)))) (he.trans (by rw [show n - j = (n - (j + 1)) + 1 by omega, cntN, if_neg (show ¬ rkN w n j = true by unfold rkN; rw [decide_eq_false (by omega)]; exact Bool.false_ne_true)]))
          | exact ih (d - 1) (by omega) (j + 1) (c + 1) _ _ (by omega) (by omega) (mFr_c hz ⟨by omega, by omega⟩) (fun j' hj' => by
            by_cases e : j' = j
            · subst e; exact mCopy_a (hwz j' (by omega)) (hwo j' (by omega)) hm
            · exact mCopy_o (hd9 j' (by omega)) (hwo j' (by omega)) hm (fun q => e (rk_inj (w := w) (n := n) (by omega) (by omega) (by omega)))) (he.trans (by rw [show n - j = (n - (j + 1)) + 1 by omega, cntN, if_pos (show rkN w n j = true from decide_eq_true (by omega))]))
      · refine v_iload_n dX10_sortInto_50 rfl (by rfl) ?_
        refine v_iconst (v := nI 1) dX10_sortInto_51 (by decide) ?_
        refine v_iaddN dX10_sortInto_52 ?_
        refine v_goto (tgt := 57) dX10_sortInto_53 (by decide) ?_
        refine v_istore_n dX10_sortInto_57 rfl (by decide) ?_
        refine v_iincN (y := 1) dX10_sortInto_58 (by rfl) (by decide) (by decide) ?_
        refine v_goto (tgt := 5) dX10_sortInto_61 (by decide) ?_
        first
          | exact ih (d - 1) (by omega) (j + 1) c _ _ (by omega) (by omega) (mFr_c hz ⟨by omega, by omega⟩) (fun j' hj' => by
            by_cases e : j' = j
            · subst e; exact mCopy_a (hwz j' (by omega)) (hwo j' (by omega)) hm
            · exact mCopy_o (hd9 j' (by omega)) (hwo j' (by omega)) hm (fun q => e (rk_inj (w := w) (n := n) (by omega) (by omega) (by omega)))) (he.trans (by rw [show n - j = (n - (j + 1)) + 1 by omega, cntN, if_neg (show ¬ rkN w n j = true by unfold rkN; rw [decide_eq_false (by omega)]; exact Bool.false_ne_true)]))
          | exact ih (d - 1) (by omega) (j + 1) (c + 1) _ _ (by omega) (by omega) (mFr_c hz ⟨by omega, by omega⟩) (fun j' hj' => by
            by_cases e : j' = j
            · subst e; exact mCopy_a (hwz j' (by omega)) (hwo j' (by omega)) hm
            · exact mCopy_o (hd9 j' (by omega)) (hwo j' (by omega)) hm (fun q => e (rk_inj (w := w) (n := n) (by omega) (by omega) (by omega)))) (he.trans (by rw [show n - j = (n - (j + 1)) + 1 by omega, cntN, if_pos (show rkN w n j = true from decide_eq_true (by omega))]))
  refine v_iconst (v := nI 0) dX10_sortInto_0 (by decide) ?_
  refine v_istore_n dX10_sortInto_1 rfl (by decide) ?_
  refine v_iconst (v := nI 0) dX10_sortInto_2 (by decide) ?_
  refine v_istore dX10_sortInto_3 (by decide) ?_
  exact lp n 0 0 y none (by omega) (by omega) (mFr_0 hO) (fun j' hj' => absurd hj' (Nat.not_lt_zero _)) rfl
