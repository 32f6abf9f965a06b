/-- record k is called there -/
def clP (w : Nat → eV) (q c s k : Nat) : Bool := decide (eSq (w k) = nI s) && decide (¬ eCall (w k) q c ≤ 0)
def nxP (w : Nat → eV) (q c s l k : Nat) : Bool := clP w q c s k && decide (¬ ePl (w k) < nI l)
def nxS (w : Nat → eV) (q c s l k : Nat) (b : Option Nat) : Option Nat := if nxP w q c s l k = true then (match b with
  | none => some k
  | some j => if ePl (w k) < ePl (w j) then some k else some j) else b
def nxL (w : Nat → eV) (q c s l : Nat) : Nat → Nat → Option Nat → Option Nat
  | 0, _, b => b
  | d + 1, k, b => nxL w q c s l d (k + 1) (nxS w q c s l k b)
def nxV (i : Nat) (b : Option Nat) : Int32 := match b with
  | none => -1
  | some j => nI (60 * i + j)
set_option maxRecDepth 100000 in
set_option maxHeartbeats 600000 in
/-- model: calledMany -/
theorem sX10_calledMany {E : eN} (hE : eOk E) {f : aH} {t : Nat} {M : Nat} {y : mV} {i n m q c s : Nat} {w : Nat → eV} (hM : y.1 16 i = nI n) (hn : n ≤ 60) (hi : i < 4) (hw : ∀ k, k < n → mE y (60 * i + k) (w k) m) (hwo : ∀ k, k < n → enOk (w k)) (hm : m ≤ 3) (hq : q < m) (hc : c < 2) : mT E mX10_calledMany 0 0 [.ref M, .int (nI i), .int (nI q), .int (nI c), .int (nI s)] (mdS f M y) t (fun o f' t' => o = .inl (some (.int (nI (cntN (clP w q c s) (n - 0) 0 0)))) ∧ t' = t ∧ f' = mdS f M y) := by
  refine mT_of (n := 3) (lo := [some (.ref M), some (.int (nI i)), some (.int (nI q)), some (.int (nI c)), some (.int (nI s)), none, none, none]) (by decide) (by exact Nat.le_of_ble_eq_true rfl) rfl rfl ?_
  have lp : ∀ (d : Nat) (k z : Nat) (z7 : Option Value), k + d = n → z ≤ k → cntN (clP w q c s) (n - 0) 0 0 = cntN (clP w q c s) (n - k) k z → V E mX10_calledMany 0 0 (fun o f' t' => o = .inl (some (.int (nI (cntN (clP w q c s) (n - 0) 0 0)))) ∧ t' = t ∧ f' = mdS f M y) 6 [some (.ref M), some (.int (nI i)), some (.int (nI q)), some (.int (nI c)), some (.int (nI s)), some (.int (nI z)), some (.int (nI k)), z7] [] (mdS f M y) t 0 0 := by
    intro d
    induction d using Nat.strongRecOn with
    | _ d ih =>
    intro k z z7 hk hz he
    refine v_iload dX10_calledMany_6 (by rfl) ?_
    refine v_aload_n dX10_calledMany_8 rfl (by rfl) ?_
    refine v_getf hE dX10_calledMany_9 fX10_60 mdS_M (by rfl) ?_
    refine v_iload_n dX10_calledMany_12 rfl (by rfl) ?_
    refine m_iald hE (k := 16) dX10_calledMany_13 (by decide) (by decide) rfl (show _ < 4 by omega) (by omega) ?_
    refine v_eqi (y := nI n) hM ?_
    refine v_icmp_geN (tgt := 66) dX10_calledMany_14 (by decide) (by omega) (by omega) (fun c14 => ?_) (fun c14 => ?_)
    · refine v_iload dX10_calledMany_66 (by rfl) ?_
      refine v_iret dX10_calledMany_68 rfl (by first | rfl | exact nar_bI) ?_
      refine ⟨congrArg (fun x => (Sum.inl (some (Value.int x)) : aO)) ?_, rfl, rfl⟩
      rw [he, show n - k = 0 by omega]
      rfl
    · refine v_bipush (v := nI 60) dX10_calledMany_17 (by decide) ?_
      refine v_iload_n dX10_calledMany_19 rfl (by rfl) ?_
      refine v_imulN dX10_calledMany_20 ?_
      refine v_iload dX10_calledMany_21 (by rfl) ?_
      refine v_iaddN dX10_calledMany_23 ?_
      refine v_istore dX10_calledMany_24 (by decide) ?_
      refine v_aload_n dX10_calledMany_26 rfl (by rfl) ?_
      refine v_getf hE dX10_calledMany_27 fX10_72 mdS_M (by rfl) ?_
      refine v_iload dX10_calledMany_30 (by rfl) ?_
      refine m_iald hE (k := 20) dX10_calledMany_32 (by decide) (by decide) rfl (show _ < 240 by omega) (by omega) ?_
      refine v_eqi (y := eSq (w k)) (hw k (by omega)).1 ?_
      refine v_iload dX10_calledMany_33 (by rfl) ?_
      refine v_icmp_ne (tgt := 56) dX10_calledMany_35 (by decide) (fun c35 => ?_) (fun c35 => ?_)
      · refine v_iload dX10_calledMany_56 (by rfl) ?_
        refine v_istore dX10_calledMany_58 (by decide) ?_
        refine v_iincN (y := 1) dX10_calledMany_60 (by rfl) (by decide) (by decide) ?_
        refine v_goto (tgt := 6) dX10_calledMany_63 (by decide) ?_
        first
          | exact ih (d - 1) (by omega) (k + 1) (z + 1) _ (by omega) (by omega) (he.trans (by rw [show n - k = (n - (k + 1)) + 1 by omega, cntN, if_pos (show clP w q c s k = true by unfold clP; rw [decide_eq_true c35, decide_eq_true c46]; rfl)]))
          | exact ih (d - 1) (by omega) (k + 1) z _ (by omega) (by omega) (he.trans (by rw [show n - k = (n - (k + 1)) + 1 by omega, cntN, if_neg (show ¬ clP w q c s k = true by unfold clP; rw [decide_eq_false c35]; exact Bool.false_ne_true)]))
          | exact ih (d - 1) (by omega) (k + 1) z _ (by omega) (by omega) (he.trans (by rw [show n - k = (n - (k + 1)) + 1 by omega, cntN, if_neg (show ¬ clP w q c s k = true by unfold clP; rw [decide_eq_false (show ¬ ¬ eCall (w k) q c ≤ 0 from fun h => h c46), Bool.and_false]; exact Bool.false_ne_true)]))
      · refine v_aload_n dX10_calledMany_38 rfl (by rfl) ?_
        refine v_iload dX10_calledMany_39 (by rfl) ?_
        refine v_iload_n dX10_calledMany_41 rfl (by rfl) ?_
        refine v_iload_n dX10_calledMany_42 rfl (by rfl) ?_
        refine w_callV hE dX10_calledMany_43 kX10_338 mdS_M (by rfl) (by rfl) (sX10_callAt hE (hw k (by omega)) (hwo k (by omega)) (by omega) hq hm hc) rfl (by decide) (by decide) (by exact Nat.le_of_ble_eq_true rfl) (by omega) (by omega) (fun v9 g9 u9 h9 => ?_) (fun _ _ _ h => by cases h.1)
        obtain ⟨hv9, hu9, hg9⟩ := h9
        replace hu9 := hu9.symm
        subst hu9
        subst hg9
        cases hv9
        refine v_if_le (tgt := 56) dX10_calledMany_46 (by decide) (fun c46 => ?_) (fun c46 => ?_)
        · refine v_iload dX10_calledMany_56 (by rfl) ?_
          refine v_istore dX10_calledMany_58 (by decide) ?_
          refine v_iincN (y := 1) dX10_calledMany_60 (by rfl) (by decide) (by decide) ?_
          refine v_goto (tgt := 6) dX10_calledMany_63 (by decide) ?_
          first
            | exact ih (d - 1) (by omega) (k + 1) (z + 1) _ (by omega) (by omega) (he.trans (by rw [show n - k = (n - (k + 1)) + 1 by omega, cntN, if_pos (show clP w q c s k = true by unfold clP; rw [decide_eq_true c35, decide_eq_true c46]; rfl)]))
            | exact ih (d - 1) (by omega) (k + 1) z _ (by omega) (by omega) (he.trans (by rw [show n - k = (n - (k + 1)) + 1 by omega, cntN, if_neg (show ¬ clP w q c s k = true by unfold clP; rw [decide_eq_false c35]; exact Bool.false_ne_true)]))
            | exact ih (d - 1) (by omega) (k + 1) z _ (by omega) (by omega) (he.trans (by rw [show n - k = (n - (k + 1)) + 1 by omega, cntN, if_neg (show ¬ clP w q c s k = true by unfold clP; rw [decide_eq_false (show ¬ ¬ eCall (w k) q c ≤ 0 from fun h => h c46), Bool.and_false]; exact Bool.false_ne_true)]))
        · refine v_iload dX10_calledMany_49 (by rfl) ?_
          refine v_iconst (v := nI 1) dX10_calledMany_51 (by decide) ?_
          refine v_iaddN dX10_calledMany_52 ?_
          refine v_goto (tgt := 58) dX10_calledMany_53 (by decide) ?_
          refine v_istore dX10_calledMany_58 (by decide) ?_
          refine v_iincN (y := 1) dX10_calledMany_60 (by rfl) (by decide) (by decide) ?_
          refine v_goto (tgt := 6) dX10_calledMany_63 (by decide) ?_
          first
            | exact ih (d - 1) (by omega) (k + 1) (z + 1) _ (by omega) (by omega) (he.trans (by rw [show n - k = (n - (k + 1)) + 1 by omega, cntN, if_pos (show clP w q c s k = true by unfold clP; rw [decide_eq_true c35, decide_eq_true c46]; rfl)]))
            | exact ih (d - 1) (by omega) (k + 1) z _ (by omega) (by omega) (he.trans (by rw [show n - k = (n - (k + 1)) + 1 by omega, cntN, if_neg (show ¬ clP w q c s k = true by unfold clP; rw [decide_eq_false c35]; exact Bool.false_ne_true)]))
            | exact ih (d - 1) (by omega) (k + 1) z _ (by omega) (by omega) (he.trans (by rw [show n - k = (n - (k + 1)) + 1 by omega, cntN, if_neg (show ¬ clP w q c s k = true by unfold clP; rw [decide_eq_false (show ¬ ¬ eCall (w k) q c ≤ 0 from fun h => h c46), Bool.and_false]; exact Bool.false_ne_true)]))
  refine v_iconst (v := nI 0) dX10_calledMany_0 (by decide) ?_
  refine v_istore dX10_calledMany_1 (by decide) ?_
  refine v_iconst (v := nI 0) dX10_calledMany_3 (by decide) ?_
  refine v_istore dX10_calledMany_4 (by decide) ?_
  exact lp n 0 0 none (by omega) (by omega) rfl

set_option maxRecDepth 100000 in
set_option maxHeartbeats 600000 in
/-- model: nextCalled -/
theorem sX10_nextCalled {E : eN} (hE : eOk E) {f : aH} {t : Nat} {M : Nat} {y : mV} {i n m q c s l : Nat} {w : Nat → eV} (hM : y.1 16 i = nI n) (hn : n ≤ 60) (hi : i < 4) (hw : ∀ k, k < n → mE y (60 * i + k) (w k) m) (hwo : ∀ k, k < n → enOk (w k)) (hm : m ≤ 3) (hq : q < m) (hc : c < 2) : mT E mX10_nextCalled 0 0 [.ref M, .int (nI i), .int (nI q), .int (nI c), .int (nI s), .int (nI l)] (mdS f M y) t (fun o f' t' => o = .inl (some (.int (nxV i (nxL w q c s l (n - 0) 0 none)))) ∧ t' = t ∧ f' = mdS f M y) := by
  refine mT_of (n := 4) (lo := [some (.ref M), some (.int (nI i)), some (.int (nI q)), some (.int (nI c)), some (.int (nI s)), some (.int (nI l)), none, none, none, none]) (by decide) (by exact Nat.le_of_ble_eq_true rfl) rfl rfl ?_
  have lp : ∀ (d k : Nat) (b : Option Nat) (z8 z9 : Option Value), k + d = n → (∀ j, b = some j → j < k) → nxL w q c s l (n - 0) 0 none = nxL w q c s l (n - k) k b → V E mX10_nextCalled 0 0 (fun o f' t' => o = .inl (some (.int (nxV i (nxL w q c s l (n - 0) 0 none)))) ∧ t' = t ∧ f' = mdS f M y) 6 [some (.ref M), some (.int (nI i)), some (.int (nI q)), some (.int (nI c)), some (.int (nI s)), some (.int (nI l)), some (.int (nxV i b)), some (.int (nI k)), z8, z9] [] (mdS f M y) t 0 0 := by
    intro d
    induction d using Nat.strongRecOn with
    | _ d ih =>
    intro k b z8 z9 hk hb he
    cases b with
    | none =>
      show V _ _ _ _ _ _ [some (.ref M), some (.int (nI i)), some (.int (nI q)), some (.int (nI c)), some (.int (nI s)), some (.int (nI l)), some (.int (-1)), some (.int (nI k)), z8, z9] _ _ _ _ _
      refine v_iload dX10_nextCalled_6 (by rfl) ?_
      refine v_aload_n dX10_nextCalled_8 rfl (by rfl) ?_
      refine v_getf hE dX10_nextCalled_9 fX10_60 mdS_M (by rfl) ?_
      refine v_iload_n dX10_nextCalled_12 rfl (by rfl) ?_
      refine m_iald hE (k := 16) dX10_nextCalled_13 (by decide) (by decide) rfl (show _ < 4 by omega) (by omega) ?_
      refine v_eqi (y := nI n) hM ?_
      refine v_icmp_geN (tgt := 111) dX10_nextCalled_14 (by decide) (by omega) (by omega) (fun c14 => ?_) (fun c14 => ?_)
      · refine v_iload dX10_nextCalled_111 (by rfl) ?_
        refine v_iret dX10_nextCalled_113 rfl (by first | rfl | exact nar_bI) ?_
        refine ⟨congrArg (fun x => (Sum.inl (some (Value.int x)) : aO)) ?_, rfl, rfl⟩
        rw [he, show n - k = 0 by omega]
        rfl
      · refine v_bipush (v := nI 60) dX10_nextCalled_17 (by decide) ?_
        refine v_iload_n dX10_nextCalled_19 rfl (by rfl) ?_
        refine v_imulN dX10_nextCalled_20 ?_
        refine v_iload dX10_nextCalled_21 (by rfl) ?_
        refine v_iaddN dX10_nextCalled_23 ?_
        refine v_istore dX10_nextCalled_24 (by decide) ?_
        refine v_aload_n dX10_nextCalled_26 rfl (by rfl) ?_
        refine v_getf hE dX10_nextCalled_27 fX10_72 mdS_M (by rfl) ?_
        refine v_iload dX10_nextCalled_30 (by rfl) ?_
        refine m_iald hE (k := 20) dX10_nextCalled_32 (by decide) (by decide) rfl (show _ < 240 by omega) (by omega) ?_
        refine v_eqi (y := eSq (w k)) (hw k (by omega)).1 ?_
        refine v_iload dX10_nextCalled_33 (by rfl) ?_
        refine v_icmp_ne (tgt := 65) dX10_nextCalled_35 (by decide) (fun c35 => ?_) (fun c35 => ?_)
        · refine v_iconst (v := nI 0) dX10_nextCalled_65 (by decide) ?_
          refine v_istore dX10_nextCalled_66 (by decide) ?_
          refine v_iload dX10_nextCalled_68 (by rfl) ?_
          refine v_if_eqN (tgt := 101) dX10_nextCalled_70 (by decide) (by omega) (fun c70 => ?_) (fun c70 => ?_)
          · refine v_iload dX10_nextCalled_101 (by rfl) ?_
            refine v_istore dX10_nextCalled_103 (by decide) ?_
            refine v_iincN (y := 1) dX10_nextCalled_105 (by rfl) (by decide) (by decide) ?_
            refine v_goto (tgt := 6) dX10_nextCalled_108 (by decide) ?_
            first
              | exact ih (d - 1) (by omega) (k + 1) none _ _ (by omega) (fun j hj => by cases hj) (he.trans (by rw [show n - k = (n - (k + 1)) + 1 by omega, nxL]; exact congrArg (nxL w q c s l _ _) (if_neg (show ¬ nxP w q c s l k = true by unfold nxP clP; rw [decide_eq_false c35]; exact Bool.false_ne_true))))
              | exact ih (d - 1) (by omega) (k + 1) none _ _ (by omega) (fun j hj => by cases hj) (he.trans (by rw [show n - k = (n - (k + 1)) + 1 by omega, nxL]; exact congrArg (nxL w q c s l _ _) (if_neg (show ¬ nxP w q c s l k = true by unfold nxP clP; rw [decide_eq_false (show ¬ ¬ eCall (w k) q c ≤ 0 from fun h => h c46), Bool.and_false]; exact Bool.false_ne_true))))
              | exact ih (d - 1) (by omega) (k + 1) none _ _ (by omega) (fun j hj => by cases hj) (he.trans (by rw [show n - k = (n - (k + 1)) + 1 by omega, nxL]; exact congrArg (nxL w q c s l _ _) (if_neg (show ¬ nxP w q c s l k = true by unfold nxP; rw [decide_eq_false (show ¬ ¬ ePl (w k) < nI l from fun h => h c58), Bool.and_false]; exact Bool.false_ne_true))))
          · exact absurd c70 (by omega)
        · refine v_aload_n dX10_nextCalled_38 rfl (by rfl) ?_
          refine v_iload dX10_nextCalled_39 (by rfl) ?_
          refine v_iload_n dX10_nextCalled_41 rfl (by rfl) ?_
          refine v_iload_n dX10_nextCalled_42 rfl (by rfl) ?_
          refine w_callV hE dX10_nextCalled_43 kX10_338 mdS_M (by rfl) (by rfl) (sX10_callAt hE (hw k (by omega)) (hwo k (by omega)) (by omega) hq hm hc) rfl (by decide) (by decide) (by exact Nat.le_of_ble_eq_true rfl) (by omega) (by omega) (fun v9 g9 u9 h9 => ?_) (fun _ _ _ h => by cases h.1)
          obtain ⟨hv9, hu9, hg9⟩ := h9
          replace hu9 := hu9.symm
          subst hu9
          subst hg9
          cases hv9
          refine v_if_le (tgt := 65) dX10_nextCalled_46 (by decide) (fun c46 => ?_) (fun c46 => ?_)
          · refine v_iconst (v := nI 0) dX10_nextCalled_65 (by decide) ?_
            refine v_istore dX10_nextCalled_66 (by decide) ?_
            refine v_iload dX10_nextCalled_68 (by rfl) ?_
            refine v_if_eqN (tgt := 101) dX10_nextCalled_70 (by decide) (by omega) (fun c70 => ?_) (fun c70 => ?_)
            · refine v_iload dX10_nextCalled_101 (by rfl) ?_
              refine v_istore dX10_nextCalled_103 (by decide) ?_
              refine v_iincN (y := 1) dX10_nextCalled_105 (by rfl) (by decide) (by decide) ?_
              refine v_goto (tgt := 6) dX10_nextCalled_108 (by decide) ?_
              first
                | exact ih (d - 1) (by omega) (k + 1) none _ _ (by omega) (fun j hj => by cases hj) (he.trans (by rw [show n - k = (n - (k + 1)) + 1 by omega, nxL]; exact congrArg (nxL w q c s l _ _) (if_neg (show ¬ nxP w q c s l k = true by unfold nxP clP; rw [decide_eq_false c35]; exact Bool.false_ne_true))))
                | exact ih (d - 1) (by omega) (k + 1) none _ _ (by omega) (fun j hj => by cases hj) (he.trans (by rw [show n - k = (n - (k + 1)) + 1 by omega, nxL]; exact congrArg (nxL w q c s l _ _) (if_neg (show ¬ nxP w q c s l k = true by unfold nxP clP; rw [decide_eq_false (show ¬ ¬ eCall (w k) q c ≤ 0 from fun h => h c46), Bool.and_false]; exact Bool.false_ne_true))))
                | exact ih (d - 1) (by omega) (k + 1) none _ _ (by omega) (fun j hj => by cases hj) (he.trans (by rw [show n - k = (n - (k + 1)) + 1 by omega, nxL]; exact congrArg (nxL w q c s l _ _) (if_neg (show ¬ nxP w q c s l k = true by unfold nxP; rw [decide_eq_false (show ¬ ¬ ePl (w k) < nI l from fun h => h c58), Bool.and_false]; exact Bool.false_ne_true))))
            · exact absurd c70 (by omega)
          · refine v_aload_n dX10_nextCalled_49 rfl (by rfl) ?_
            refine v_getf hE dX10_nextCalled_50 fX10_75 mdS_M (by rfl) ?_
            refine v_iload dX10_nextCalled_53 (by rfl) ?_
            refine m_iald hE (k := 21) dX10_nextCalled_55 (by decide) (by decide) rfl (show _ < 240 by omega) (by omega) ?_
            refine v_eqi (y := ePl (w k)) (hw k (by omega)).2.1 ?_
            refine v_iload dX10_nextCalled_56 (by rfl) ?_
            refine v_icmp_lt (tgt := 65) dX10_nextCalled_58 (by decide) (fun c58 => ?_) (fun c58 => ?_)
            · refine v_iconst (v := nI 0) dX10_nextCalled_65 (by decide) ?_
              refine v_istore dX10_nextCalled_66 (by decide) ?_
              refine v_iload dX10_nextCalled_68 (by rfl) ?_
              refine v_if_eqN (tgt := 101) dX10_nextCalled_70 (by decide) (by omega) (fun c70 => ?_) (fun c70 => ?_)
              · refine v_iload dX10_nextCalled_101 (by rfl) ?_
                refine v_istore dX10_nextCalled_103 (by decide) ?_
                refine v_iincN (y := 1) dX10_nextCalled_105 (by rfl) (by decide) (by decide) ?_
                refine v_goto (tgt := 6) dX10_nextCalled_108 (by decide) ?_
                first
                  | exact ih (d - 1) (by omega) (k + 1) none _ _ (by omega) (fun j hj => by cases hj) (he.trans (by rw [show n - k = (n - (k + 1)) + 1 by omega, nxL]; exact congrArg (nxL w q c s l _ _) (if_neg (show ¬ nxP w q c s l k = true by unfold nxP clP; rw [decide_eq_false c35]; exact Bool.false_ne_true))))
                  | exact ih (d - 1) (by omega) (k + 1) none _ _ (by omega) (fun j hj => by cases hj) (he.trans (by rw [show n - k = (n - (k + 1)) + 1 by omega, nxL]; exact congrArg (nxL w q c s l _ _) (if_neg (show ¬ nxP w q c s l k = true by unfold nxP clP; rw [decide_eq_false (show ¬ ¬ eCall (w k) q c ≤ 0 from fun h => h c46), Bool.and_false]; exact Bool.false_ne_true))))
                  | exact ih (d - 1) (by omega) (k + 1) none _ _ (by omega) (fun j hj => by cases hj) (he.trans (by rw [show n - k = (n - (k + 1)) + 1 by omega, nxL]; exact congrArg (nxL w q c s l _ _) (if_neg (show ¬ nxP w q c s l k = true by unfold nxP; rw [decide_eq_false (show ¬ ¬ ePl (w k) < nI l from fun h => h c58), Bool.and_false]; exact Bool.false_ne_true))))
              · exact absurd c70 (by omega)
            · refine v_iconst (v := nI 1) dX10_nextCalled_61 (by decide) ?_
              refine v_goto (tgt := 66) dX10_nextCalled_62 (by decide) ?_
              refine v_istore dX10_nextCalled_66 (by decide) ?_
              refine v_iload dX10_nextCalled_68 (by rfl) ?_
              refine v_if_eqN (tgt := 101) dX10_nextCalled_70 (by decide) (by omega) (fun c70 => ?_) (fun c70 => ?_)
              · exact absurd c70 (by omega)
              · refine v_iload dX10_nextCalled_73 (by rfl) ?_
                refine v_iconst (v := (-1)) dX10_nextCalled_75 (by decide) ?_
                refine v_icmp_eq (tgt := 96) dX10_nextCalled_76 (by decide) (fun c76 => ?_) (fun c76 => ?_)
                · refine v_iload dX10_nextCalled_96 (by rfl) ?_
                  refine v_goto (tgt := 103) dX10_nextCalled_98 (by decide) ?_
                  refine v_istore dX10_nextCalled_103 (by decide) ?_
                  refine v_iincN (y := 1) dX10_nextCalled_105 (by rfl) (by decide) (by decide) ?_
                  refine v_goto (tgt := 6) dX10_nextCalled_108 (by decide) ?_
                  have hnx : nxP w q c s l k = true := by
                    unfold nxP clP
                    rw [decide_eq_true c35, decide_eq_true (show ¬ eCall (w k) q c ≤ 0 from c46), decide_eq_true (show ¬ ePl (w k) < nI l from c58)]
                    rfl
                  exact ih (d - 1) (by omega) (k + 1) (some k) _ _ (by omega) (fun j hj => by cases hj; omega) (he.trans (by rw [show n - k = (n - (k + 1)) + 1 by omega, nxL]; exact congrArg (nxL w q c s l _ _) (if_pos hnx)))
                · exact absurd rfl c76
    | some b =>
      have hbk := hb b rfl
      show V _ _ _ _ _ _ [some (.ref M), some (.int (nI i)), some (.int (nI q)), some (.int (nI c)), some (.int (nI s)), some (.int (nI l)), some (.int (nI (60 * i + b))), some (.int (nI k)), z8, z9] _ _ _ _ _
      by_cases hbn : b < n
      · refine v_iload dX10_nextCalled_6 (by rfl) ?_
        refine v_aload_n dX10_nextCalled_8 rfl (by rfl) ?_
        refine v_getf hE dX10_nextCalled_9 fX10_60 mdS_M (by rfl) ?_
        refine v_iload_n dX10_nextCalled_12 rfl (by rfl) ?_
        refine m_iald hE (k := 16) dX10_nextCalled_13 (by decide) (by decide) rfl (show _ < 4 by omega) (by omega) ?_
        refine v_eqi (y := nI n) hM ?_
        refine v_icmp_geN (tgt := 111) dX10_nextCalled_14 (by decide) (by omega) (by omega) (fun c14 => ?_) (fun c14 => ?_)
        · refine v_iload dX10_nextCalled_111 (by rfl) ?_
          refine v_iret dX10_nextCalled_113 rfl (by first | rfl | exact nar_bI) ?_
          refine ⟨congrArg (fun x => (Sum.inl (some (Value.int x)) : aO)) ?_, rfl, rfl⟩
          rw [he, show n - k = 0 by omega]
          rfl
        · refine v_bipush (v := nI 60) dX10_nextCalled_17 (by decide) ?_
          refine v_iload_n dX10_nextCalled_19 rfl (by rfl) ?_
          refine v_imulN dX10_nextCalled_20 ?_
          refine v_iload dX10_nextCalled_21 (by rfl) ?_
          refine v_iaddN dX10_nextCalled_23 ?_
          refine v_istore dX10_nextCalled_24 (by decide) ?_
          refine v_aload_n dX10_nextCalled_26 rfl (by rfl) ?_
          refine v_getf hE dX10_nextCalled_27 fX10_72 mdS_M (by rfl) ?_
          refine v_iload dX10_nextCalled_30 (by rfl) ?_
          refine m_iald hE (k := 20) dX10_nextCalled_32 (by decide) (by decide) rfl (show _ < 240 by omega) (by omega) ?_
          refine v_eqi (y := eSq (w k)) (hw k (by omega)).1 ?_
          refine v_iload dX10_nextCalled_33 (by rfl) ?_
          refine v_icmp_ne (tgt := 65) dX10_nextCalled_35 (by decide) (fun c35 => ?_) (fun c35 => ?_)
          · refine v_iconst (v := nI 0) dX10_nextCalled_65 (by decide) ?_
            refine v_istore dX10_nextCalled_66 (by decide) ?_
            refine v_iload dX10_nextCalled_68 (by rfl) ?_
            refine v_if_eqN (tgt := 101) dX10_nextCalled_70 (by decide) (by omega) (fun c70 => ?_) (fun c70 => ?_)
            · refine v_iload dX10_nextCalled_101 (by rfl) ?_
              refine v_istore dX10_nextCalled_103 (by decide) ?_
              refine v_iincN (y := 1) dX10_nextCalled_105 (by rfl) (by decide) (by decide) ?_
              refine v_goto (tgt := 6) dX10_nextCalled_108 (by decide) ?_
              first
                | exact ih (d - 1) (by omega) (k + 1) (some b) _ _ (by omega) (fun j hj => by cases hj; omega) (he.trans (by rw [show n - k = (n - (k + 1)) + 1 by omega, nxL]; exact congrArg (nxL w q c s l _ _) (if_neg (show ¬ nxP w q c s l k = true by unfold nxP clP; rw [decide_eq_false c35]; exact Bool.false_ne_true))))
                | exact ih (d - 1) (by omega) (k + 1) (some b) _ _ (by omega) (fun j hj => by cases hj; omega) (he.trans (by rw [show n - k = (n - (k + 1)) + 1 by omega, nxL]; exact congrArg (nxL w q c s l _ _) (if_neg (show ¬ nxP w q c s l k = true by unfold nxP clP; rw [decide_eq_false (show ¬ ¬ eCall (w k) q c ≤ 0 from fun h => h c46), Bool.and_false]; exact Bool.false_ne_true))))
                | exact ih (d - 1) (by omega) (k + 1) (some b) _ _ (by omega) (fun j hj => by cases hj; omega) (he.trans (by rw [show n - k = (n - (k + 1)) + 1 by omega, nxL]; exact congrArg (nxL w q c s l _ _) (if_neg (show ¬ nxP w q c s l k = true by unfold nxP; rw [decide_eq_false (show ¬ ¬ ePl (w k) < nI l from fun h => h c58), Bool.and_false]; exact Bool.false_ne_true))))
            · exact absurd c70 (by omega)
          · refine v_aload_n dX10_nextCalled_38 rfl (by rfl) ?_
            refine v_iload dX10_nextCalled_39 (by rfl) ?_
            refine v_iload_n dX10_nextCalled_41 rfl (by rfl) ?_
            refine v_iload_n dX10_nextCalled_42 rfl (by rfl) ?_
            refine w_callV hE dX10_nextCalled_43 kX10_338 mdS_M (by rfl) (by rfl) (sX10_callAt hE (hw k (by omega)) (hwo k (by omega)) (by omega) hq hm hc) rfl (by decide) (by decide) (by exact Nat.le_of_ble_eq_true rfl) (by omega) (by omega) (fun v9 g9 u9 h9 => ?_) (fun _ _ _ h => by cases h.1)
            obtain ⟨hv9, hu9, hg9⟩ := h9
            replace hu9 := hu9.symm
            subst hu9
            subst hg9
            cases hv9
            refine v_if_le (tgt := 65) dX10_nextCalled_46 (by decide) (fun c46 => ?_) (fun c46 => ?_)
            · refine v_iconst (v := nI 0) dX10_nextCalled_65 (by decide) ?_
              refine v_istore dX10_nextCalled_66 (by decide) ?_
              refine v_iload dX10_nextCalled_68 (by rfl) ?_
              refine v_if_eqN (tgt := 101) dX10_nextCalled_70 (by decide) (by omega) (fun c70 => ?_) (fun c70 => ?_)
              · refine v_iload dX10_nextCalled_101 (by rfl) ?_
                refine v_istore dX10_nextCalled_103 (by decide) ?_
                refine v_iincN (y := 1) dX10_nextCalled_105 (by rfl) (by decide) (by decide) ?_
                refine v_goto (tgt := 6) dX10_nextCalled_108 (by decide) ?_
                first
                  | exact ih (d - 1) (by omega) (k + 1) (some b) _ _ (by omega) (fun j hj => by cases hj; omega) (he.trans (by rw [show n - k = (n - (k + 1)) + 1 by omega, nxL]; exact congrArg (nxL w q c s l _ _) (if_neg (show ¬ nxP w q c s l k = true by unfold nxP clP; rw [decide_eq_false c35]; exact Bool.false_ne_true))))
                  | exact ih (d - 1) (by omega) (k + 1) (some b) _ _ (by omega) (fun j hj => by cases hj; omega) (he.trans (by rw [show n - k = (n - (k + 1)) + 1 by omega, nxL]; exact congrArg (nxL w q c s l _ _) (if_neg (show ¬ nxP w q c s l k = true by unfold nxP clP; rw [decide_eq_false (show ¬ ¬ eCall (w k) q c ≤ 0 from fun h => h c46), Bool.and_false]; exact Bool.false_ne_true))))
                  | exact ih (d - 1) (by omega) (k + 1) (some b) _ _ (by omega) (fun j hj => by cases hj; omega) (he.trans (by rw [show n - k = (n - (k + 1)) + 1 by omega, nxL]; exact congrArg (nxL w q c s l _ _) (if_neg (show ¬ nxP w q c s l k = true by unfold nxP; rw [decide_eq_false (show ¬ ¬ ePl (w k) < nI l from fun h => h c58), Bool.and_false]; exact Bool.false_ne_true))))
              · exact absurd c70 (by omega)
            · refine v_aload_n dX10_nextCalled_49 rfl (by rfl) ?_
              refine v_getf hE dX10_nextCalled_50 fX10_75 mdS_M (by rfl) ?_
              refine v_iload dX10_nextCalled_53 (by rfl) ?_
              refine m_iald hE (k := 21) dX10_nextCalled_55 (by decide) (by decide) rfl (show _ < 240 by omega) (by omega) ?_
              refine v_eqi (y := ePl (w k)) (hw k (by omega)).2.1 ?_
              refine v_iload dX10_nextCalled_56 (by rfl) ?_
              refine v_icmp_lt (tgt := 65) dX10_nextCalled_58 (by decide) (fun c58 => ?_) (fun c58 => ?_)
              · refine v_iconst (v := nI 0) dX10_nextCalled_65 (by decide) ?_
                refine v_istore dX10_nextCalled_66 (by decide) ?_
                refine v_iload dX10_nextCalled_68 (by rfl) ?_
                refine v_if_eqN (tgt := 101) dX10_nextCalled_70 (by decide) (by omega) (fun c70 => ?_) (fun c70 => ?_)
                · refine v_iload dX10_nextCalled_101 (by rfl) ?_
                  refine v_istore dX10_nextCalled_103 (by decide) ?_
                  refine v_iincN (y := 1) dX10_nextCalled_105 (by rfl) (by decide) (by decide) ?_
                  refine v_goto (tgt := 6) dX10_nextCalled_108 (by decide) ?_
                  first
                    | exact ih (d - 1) (by omega) (k + 1) (some b) _ _ (by omega) (fun j hj => by cases hj; omega) (he.trans (by rw [show n - k = (n - (k + 1)) + 1 by omega, nxL]; exact congrArg (nxL w q c s l _ _) (if_neg (show ¬ nxP w q c s l k = true by unfold nxP clP; rw [decide_eq_false c35]; exact Bool.false_ne_true))))
                    | exact ih (d - 1) (by omega) (k + 1) (some b) _ _ (by omega) (fun j hj => by cases hj; omega) (he.trans (by rw [show n - k = (n - (k + 1)) + 1 by omega, nxL]; exact congrArg (nxL w q c s l _ _) (if_neg (show ¬ nxP w q c s l k = true by unfold nxP clP; rw [decide_eq_false (show ¬ ¬ eCall (w k) q c ≤ 0 from fun h => h c46), Bool.and_false]; exact Bool.false_ne_true))))
                    | exact ih (d - 1) (by omega) (k + 1) (some b) _ _ (by omega) (fun j hj => by cases hj; omega) (he.trans (by rw [show n - k = (n - (k + 1)) + 1 by omega, nxL]; exact congrArg (nxL w q c s l _ _) (if_neg (show ¬ nxP w q c s l k = true by unfold nxP; rw [decide_eq_false (show ¬ ¬ ePl (w k) < nI l from fun h => h c58), Bool.and_false]; exact Bool.false_ne_true))))
                · exact absurd c70 (by omega)
              · refine v_iconst (v := nI 1) dX10_nextCalled_61 (by decide) ?_
                refine v_goto (tgt := 66) dX10_nextCalled_62 (by decide) ?_
                refine v_istore dX10_nextCalled_66 (by decide) ?_
                refine v_iload dX10_nextCalled_68 (by rfl) ?_
                refine v_if_eqN (tgt := 101) dX10_nextCalled_70 (by decide) (by omega) (fun c70 => ?_) (fun c70 => ?_)
                · exact absurd c70 (by omega)
                · refine v_iload dX10_nextCalled_73 (by rfl) ?_
                  refine v_iconst (v := (-1)) dX10_nextCalled_75 (by decide) ?_
                  refine v_icmp_eq (tgt := 96) dX10_nextCalled_76 (by decide) (fun c76 => ?_) (fun c76 => ?_)
                  · exact absurd c76 (nI_m1 (by omega))
                  · refine v_aload_n dX10_nextCalled_79 rfl (by rfl) ?_
                    refine v_getf hE dX10_nextCalled_80 fX10_75 mdS_M (by rfl) ?_
                    refine v_iload dX10_nextCalled_83 (by rfl) ?_
                    refine m_iald hE (k := 21) dX10_nextCalled_85 (by decide) (by decide) rfl (show _ < 240 by omega) (by omega) ?_
                    refine v_eqi (y := ePl (w k)) (hw k (by omega)).2.1 ?_
                    refine v_aload_n dX10_nextCalled_86 rfl (by rfl) ?_
                    refine v_getf hE dX10_nextCalled_87 fX10_75 mdS_M (by rfl) ?_
                    refine v_iload dX10_nextCalled_90 (by rfl) ?_
                    refine m_iald hE (k := 21) dX10_nextCalled_92 (by decide) (by decide) rfl (show _ < 240 by omega) (by omega) ?_
                    refine v_eqi (y := ePl (w b)) (hw b hbn).2.1 ?_
                    refine v_icmp_ge (tgt := 101) dX10_nextCalled_93 (by decide) (fun c93 => ?_) (fun c93 => ?_)
                    · refine v_iload dX10_nextCalled_101 (by rfl) ?_
                      refine v_istore dX10_nextCalled_103 (by decide) ?_
                      refine v_iincN (y := 1) dX10_nextCalled_105 (by rfl) (by decide) (by decide) ?_
                      refine v_goto (tgt := 6) dX10_nextCalled_108 (by decide) ?_
                      have hnx : nxP w q c s l k = true := by
                        unfold nxP clP
                        rw [decide_eq_true c35, decide_eq_true (show ¬ eCall (w k) q c ≤ 0 from c46), decide_eq_true (show ¬ ePl (w k) < nI l from c58)]
                        rfl
                      exact ih (d - 1) (by omega) (k + 1) (some b) _ _ (by omega) (fun j hj => by cases hj; omega) (he.trans (by rw [show n - k = (n - (k + 1)) + 1 by omega, nxL]; exact congrArg (nxL w q c s l _ _) ((if_pos hnx).trans (if_neg (Int32.not_lt.mpr c93)))))
                    · refine v_iload dX10_nextCalled_96 (by rfl) ?_
                      refine v_goto (tgt := 103) dX10_nextCalled_98 (by decide) ?_
                      refine v_istore dX10_nextCalled_103 (by decide) ?_
                      refine v_iincN (y := 1) dX10_nextCalled_105 (by rfl) (by decide) (by decide) ?_
                      refine v_goto (tgt := 6) dX10_nextCalled_108 (by decide) ?_
                      have hnx : nxP w q c s l k = true := by
                        unfold nxP clP
                        rw [decide_eq_true c35, decide_eq_true (show ¬ eCall (w k) q c ≤ 0 from c46), decide_eq_true (show ¬ ePl (w k) < nI l from c58)]
                        rfl
                      exact ih (d - 1) (by omega) (k + 1) (some k) _ _ (by omega) (fun j hj => by cases hj; omega) (he.trans (by rw [show n - k = (n - (k + 1)) + 1 by omega, nxL]; exact congrArg (nxL w q c s l _ _) ((if_pos hnx).trans (if_pos (Int32.not_le.mp c93)))))
      · exact absurd hbk (by omega)
  refine v_iconst (v := (-1)) dX10_nextCalled_0 (by decide) ?_
  refine v_istore dX10_nextCalled_1 (by decide) ?_
  refine v_iconst (v := nI 0) dX10_nextCalled_3 (by decide) ?_
  refine v_istore dX10_nextCalled_4 (by decide) ?_
  exact lp n 0 none none none (by omega) (fun j hj => by cases hj) rfl
