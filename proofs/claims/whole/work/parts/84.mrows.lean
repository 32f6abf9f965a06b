/-- the rows of the model's record r: sizes z, letters c -/
def mRw (y : mV) (r A : Nat) (z : Nat → Nat) (c : Nat → Nat → Int32) : Prop := y.1 24 r = nI A ∧ A ≤ 3 ∧ ∀ q, q ≤ A → y.1 26 (4 * r + q) = nI (z q) ∧ 1 ≤ z q ∧ z q ≤ 25 ∧ ∀ k, k < z q → y.1 25 (26 * (4 * r + q) + k) = c q k
def rwE (z : Nat → Nat) (c : Nat → Nat → Int32) (q : Nat) : Bool := decide (c q (z q - 1) = c 0 (z 0 - 1))
def rwB (c : Nat → Nat → Int32) (q : Nat) : Bool := decide (c q 0 = c 0 0)
def rwL (z : Nat → Nat) (q : Nat) : Bool := decide (2 ≤ z q)
set_option maxRecDepth 100000 in
set_option maxHeartbeats 600000 in
/-- model: lastOf -/
theorem sX10_lastOf {E : eN} (hE : eOk E) {f : aH} {t : Nat} {M : Nat} {y : mV} {r A : Nat} {z : Nat → Nat} {c : Nat → Nat → Int32} {q : Nat} (hv : mRw y r A z c) (hr : r < 240) (hq : q ≤ A) : mT E mX10_lastOf 0 0 [.ref M, .int (nI r), .int (nI q)] (mdS f M y) t (fun o f' t' => o = .inl (some (.int (c q (z q - 1)))) ∧ t' = t ∧ f' = mdS f M y) := by
  refine mT_of (n := 0) (lo := [some (.ref M), some (.int (nI r)), some (.int (nI q))]) (by decide) (by exact Nat.le_of_ble_eq_true rfl) rfl rfl ?_
  obtain ⟨h1, h2, h3⟩ := id hv
  obtain ⟨a1, a2, a3, a4⟩ := h3 q hq
  refine v_aload_n dX10_lastOf_0 rfl (by rfl) ?_
  refine v_getf hE dX10_lastOf_1 fX10_87 mdS_M (by rfl) ?_
  refine v_bipush (v := nI 26) dX10_lastOf_4 (by decide) ?_
  refine v_iconst (v := nI 4) dX10_lastOf_6 (by decide) ?_
  refine v_iload_n dX10_lastOf_7 rfl (by rfl) ?_
  refine v_imulN dX10_lastOf_8 ?_
  refine v_iload_n dX10_lastOf_9 rfl (by rfl) ?_
  refine v_iaddN dX10_lastOf_10 ?_
  refine v_imulN dX10_lastOf_11 ?_
  refine v_aload_n dX10_lastOf_12 rfl (by rfl) ?_
  refine v_getf hE dX10_lastOf_13 fX10_90 mdS_M (by rfl) ?_
  refine v_iconst (v := nI 4) dX10_lastOf_16 (by decide) ?_
  refine v_iload_n dX10_lastOf_17 rfl (by rfl) ?_
  refine v_imulN dX10_lastOf_18 ?_
  refine v_iload_n dX10_lastOf_19 rfl (by rfl) ?_
  refine v_iaddN dX10_lastOf_20 ?_
  refine m_iald hE (k := 26) dX10_lastOf_21 (by decide) (by decide) rfl (show _ < 960 by omega) (by omega) ?_
  refine v_eqi (y := nI (z q)) a1 ?_
  refine v_iaddN dX10_lastOf_22 ?_
  refine v_iconst (v := nI 1) dX10_lastOf_23 (by decide) ?_
  refine v_isubN dX10_lastOf_24 (by omega) ?_
  refine m_bald hE (k := 25) dX10_lastOf_25 (by decide) (by decide) rfl (show _ < 24960 by omega) (by omega) ?_
  refine v_iret dX10_lastOf_26 rfl (by first | rfl | exact nar_bI) ?_
  refine ⟨congrArg (fun x => (Sum.inl (some (Value.int x)) : aO)) ?_, rfl, rfl⟩
  rw [← a4 (z q - 1) (by omega)]
  exact congrArg _ (by omega)

set_option maxRecDepth 100000 in
set_option maxHeartbeats 600000 in
/-- model: endAlike -/
theorem sX10_endAlike {E : eN} (hE : eOk E) {f : aH} {t : Nat} {M : Nat} {y : mV} {r A : Nat} {z : Nat → Nat} {c : Nat → Nat → Int32} (hv : mRw y r A z c) (hr : r < 240) : mT E mX10_endAlike 0 0 [.ref M, .int (nI r)] (mdS f M y) t (fun o f' t' => o = .inl (some (.int (bI (allB (rwE z c) (A + 1 - 1) 1)))) ∧ t' = t ∧ f' = mdS f M y) := by
  refine mT_of (n := 2) (lo := [some (.ref M), some (.int (nI r)), none, none]) (by decide) (by exact Nat.le_of_ble_eq_true rfl) rfl rfl ?_
  obtain ⟨h1, h2, h3⟩ := id hv
  have lp : ∀ (d : Nat) (q : Nat) (b9 : Bool), q + d = A + 1 → allB (rwE z c) (A + 1 - 1) 1 = (b9 && allB (rwE z c) (A + 1 - q) q) → V E mX10_endAlike 0 0 (fun o f' t' => o = .inl (some (.int (bI (allB (rwE z c) (A + 1 - 1) 1)))) ∧ t' = t ∧ f' = mdS f M y) 4 [some (.ref M), some (.int (nI r)), some (.int (bI b9)), some (.int (nI q))] [] (mdS f M y) t 0 0 := by
    intro d
    induction d using Nat.strongRecOn with
    | _ d ih =>
    intro q b9 hq he
    refine v_iload_n dX10_endAlike_4 rfl (by rfl) ?_
    refine v_aload_n dX10_endAlike_5 rfl (by rfl) ?_
    refine v_getf hE dX10_endAlike_6 fX10_84 mdS_M (by rfl) ?_
    refine v_iload_n dX10_endAlike_9 rfl (by rfl) ?_
    refine m_iald hE (k := 24) dX10_endAlike_10 (by decide) (by decide) rfl (show _ < 240 by omega) (by omega) ?_
    refine v_eqi (y := nI A) h1 ?_
    refine v_icmp_gtN (tgt := 45) dX10_endAlike_11 (by decide) (by omega) (by omega) (fun c11 => ?_) (fun c11 => ?_)
    · refine v_iload_n dX10_endAlike_45 rfl (by rfl) ?_
      refine v_iret dX10_endAlike_46 rfl (by first | rfl | exact nar_bI) ?_
      refine ⟨congrArg (fun x => (Sum.inl (some (Value.int x)) : aO)) (congrArg bI ?_), rfl, rfl⟩
      rw [he, allB_0 (by omega), Bool.and_true]
    · refine v_iload_n dX10_endAlike_14 rfl (by rfl) ?_
      refine v_if_eqB (tgt := 37) dX10_endAlike_15 (by decide) (fun c15 => ?_) (fun c15 => ?_)
      · refine v_iconst (v := nI 0) dX10_endAlike_37 (by decide) ?_
        refine v_istore_n dX10_endAlike_38 rfl (by decide) ?_
        refine v_iincN (y := 1) dX10_endAlike_39 (by rfl) (by decide) (by decide) ?_
        refine v_goto (tgt := 4) dX10_endAlike_42 (by decide) ?_
        first
          | exact ih (d - 1) (by omega) (q + 1) false (by omega) (he.trans (by rw [c15]; rfl))
          | exact ih (d - 1) (by omega) (q + 1) false (by omega) (he.trans (by rw [c15, allB_f (p := (rwE z c)) (j := A + 1) (by omega) (decide_eq_false c30)]; rfl))
      · refine v_aload_n dX10_endAlike_18 rfl (by rfl) ?_
        refine v_iload_n dX10_endAlike_19 rfl (by rfl) ?_
        refine v_iload_n dX10_endAlike_20 rfl (by rfl) ?_
        refine w_callV hE dX10_endAlike_21 kX10_309 mdS_M (by rfl) (by rfl) (sX10_lastOf hE hv hr (by omega)) rfl (by decide) (by decide) (by exact Nat.le_of_ble_eq_true rfl) (by omega) (by omega) (fun v9 g9 u9 h9 => ?_) (fun _ _ _ h => by cases h.1)
        obtain ⟨hv9, hu9, hg9⟩ := h9
        replace hu9 := hu9.symm
        subst hu9
        subst hg9
        cases hv9
        refine v_aload_n dX10_endAlike_24 rfl (by rfl) ?_
        refine v_iload_n dX10_endAlike_25 rfl (by rfl) ?_
        refine v_iconst (v := nI 0) dX10_endAlike_26 (by decide) ?_
        refine w_callV hE dX10_endAlike_27 kX10_309 mdS_M (by rfl) (by rfl) (sX10_lastOf hE hv hr (by omega)) rfl (by decide) (by decide) (by exact Nat.le_of_ble_eq_true rfl) (by omega) (by omega) (fun v9 g9 u9 h9 => ?_) (fun _ _ _ h => by cases h.1)
        obtain ⟨hv9, hu9, hg9⟩ := h9
        replace hu9 := hu9.symm
        subst hu9
        subst hg9
        cases hv9
        refine v_icmp_ne (tgt := 37) dX10_endAlike_30 (by decide) (fun c30 => ?_) (fun c30 => ?_)
        · refine v_iconst (v := nI 0) dX10_endAlike_37 (by decide) ?_
          refine v_istore_n dX10_endAlike_38 rfl (by decide) ?_
          refine v_iincN (y := 1) dX10_endAlike_39 (by rfl) (by decide) (by decide) ?_
          refine v_goto (tgt := 4) dX10_endAlike_42 (by decide) ?_
          first
            | exact ih (d - 1) (by omega) (q + 1) false (by omega) (he.trans (by rw [c15]; rfl))
            | exact ih (d - 1) (by omega) (q + 1) false (by omega) (he.trans (by rw [c15, allB_f (p := (rwE z c)) (j := A + 1) (by omega) (decide_eq_false c30)]; rfl))
        · refine v_iconst (v := nI 1) dX10_endAlike_33 (by decide) ?_
          refine v_goto (tgt := 38) dX10_endAlike_34 (by decide) ?_
          refine v_istore_n dX10_endAlike_38 rfl (by decide) ?_
          refine v_iincN (y := 1) dX10_endAlike_39 (by rfl) (by decide) (by decide) ?_
          refine v_goto (tgt := 4) dX10_endAlike_42 (by decide) ?_
          exact ih (d - 1) (by omega) (q + 1) true (by omega) (he.trans (by rw [c15, allB_s (p := (rwE z c)) (j := A + 1) (by omega) (decide_eq_true c30)]))
  refine v_iconst (v := bI true) dX10_endAlike_0 (by decide) ?_
  refine v_istore_n dX10_endAlike_1 rfl (by decide) ?_
  refine v_iconst (v := nI 1) dX10_endAlike_2 (by decide) ?_
  refine v_istore_n dX10_endAlike_3 rfl (by decide) ?_
  exact lp (A + 1 - 1) 1 true (by omega) rfl

set_option maxRecDepth 100000 in
set_option maxHeartbeats 600000 in
/-- model: beginAlike -/
theorem sX10_beginAlike {E : eN} (hE : eOk E) {f : aH} {t : Nat} {M : Nat} {y : mV} {r A : Nat} {z : Nat → Nat} {c : Nat → Nat → Int32} (hv : mRw y r A z c) (hr : r < 240) : mT E mX10_beginAlike 0 0 [.ref M, .int (nI r)] (mdS f M y) t (fun o f' t' => o = .inl (some (.int (bI (allB (rwB c) (A + 1 - 1) 1)))) ∧ t' = t ∧ f' = mdS f M y) := by
  refine mT_of (n := 2) (lo := [some (.ref M), some (.int (nI r)), none, none]) (by decide) (by exact Nat.le_of_ble_eq_true rfl) rfl rfl ?_
  obtain ⟨h1, h2, h3⟩ := id hv
  have lp : ∀ (d : Nat) (q : Nat) (b9 : Bool), q + d = A + 1 → allB (rwB c) (A + 1 - 1) 1 = (b9 && allB (rwB c) (A + 1 - q) q) → V E mX10_beginAlike 0 0 (fun o f' t' => o = .inl (some (.int (bI (allB (rwB c) (A + 1 - 1) 1)))) ∧ t' = t ∧ f' = mdS f M y) 4 [some (.ref M), some (.int (nI r)), some (.int (bI b9)), some (.int (nI q))] [] (mdS f M y) t 0 0 := by
    intro d
    induction d using Nat.strongRecOn with
    | _ d ih =>
    intro q b9 hq he
    refine v_iload_n dX10_beginAlike_4 rfl (by rfl) ?_
    refine v_aload_n dX10_beginAlike_5 rfl (by rfl) ?_
    refine v_getf hE dX10_beginAlike_6 fX10_84 mdS_M (by rfl) ?_
    refine v_iload_n dX10_beginAlike_9 rfl (by rfl) ?_
    refine m_iald hE (k := 24) dX10_beginAlike_10 (by decide) (by decide) rfl (show _ < 240 by omega) (by omega) ?_
    refine v_eqi (y := nI A) h1 ?_
    refine v_icmp_gtN (tgt := 55) dX10_beginAlike_11 (by decide) (by omega) (by omega) (fun c11 => ?_) (fun c11 => ?_)
    · refine v_iload_n dX10_beginAlike_55 rfl (by rfl) ?_
      refine v_iret dX10_beginAlike_56 rfl (by first | rfl | exact nar_bI) ?_
      refine ⟨congrArg (fun x => (Sum.inl (some (Value.int x)) : aO)) (congrArg bI ?_), rfl, rfl⟩
      rw [he, allB_0 (by omega), Bool.and_true]
    · refine v_iload_n dX10_beginAlike_14 rfl (by rfl) ?_
      refine v_if_eqB (tgt := 47) dX10_beginAlike_15 (by decide) (fun c15 => ?_) (fun c15 => ?_)
      · refine v_iconst (v := nI 0) dX10_beginAlike_47 (by decide) ?_
        refine v_istore_n dX10_beginAlike_48 rfl (by decide) ?_
        refine v_iincN (y := 1) dX10_beginAlike_49 (by rfl) (by decide) (by decide) ?_
        refine v_goto (tgt := 4) dX10_beginAlike_52 (by decide) ?_
        first
          | exact ih (d - 1) (by omega) (q + 1) false (by omega) (he.trans (by rw [c15]; rfl))
          | exact ih (d - 1) (by omega) (q + 1) false (by omega) (he.trans (by rw [c15, allB_f (p := (rwB c)) (j := A + 1) (by omega) (decide_eq_false c40)]; rfl))
      · refine v_aload_n dX10_beginAlike_18 rfl (by rfl) ?_
        refine v_getf hE dX10_beginAlike_19 fX10_87 mdS_M (by rfl) ?_
        refine v_bipush (v := nI 26) dX10_beginAlike_22 (by decide) ?_
        refine v_iconst (v := nI 4) dX10_beginAlike_24 (by decide) ?_
        refine v_iload_n dX10_beginAlike_25 rfl (by rfl) ?_
        refine v_imulN dX10_beginAlike_26 ?_
        refine v_iload_n dX10_beginAlike_27 rfl (by rfl) ?_
        refine v_iaddN dX10_beginAlike_28 ?_
        refine v_imulN dX10_beginAlike_29 ?_
        refine m_bald hE (k := 25) dX10_beginAlike_30 (by decide) (by decide) rfl (show _ < 24960 by omega) (by omega) ?_
        refine v_eqi (y := c q 0) ((h3 q (by omega)).2.2.2 0 (by have := (h3 q (by omega)).2.1; omega)) ?_
        refine v_aload_n dX10_beginAlike_31 rfl (by rfl) ?_
        refine v_getf hE dX10_beginAlike_32 fX10_87 mdS_M (by rfl) ?_
        refine v_bipush (v := nI 104) dX10_beginAlike_35 (by decide) ?_
        refine v_iload_n dX10_beginAlike_37 rfl (by rfl) ?_
        refine v_imulN dX10_beginAlike_38 ?_
        refine m_bald hE (k := 25) dX10_beginAlike_39 (by decide) (by decide) rfl (show _ < 24960 by omega) (by omega) ?_
        refine v_eqi (y := c 0 0) ((congrArg (y.1 25) (show 104 * r = 26 * (4 * r + 0) + 0 by omega)).trans ((h3 0 (by omega)).2.2.2 0 (by have := (h3 0 (by omega)).2.1; omega))) ?_
        refine v_icmp_ne (tgt := 47) dX10_beginAlike_40 (by decide) (fun c40 => ?_) (fun c40 => ?_)
        · refine v_iconst (v := nI 0) dX10_beginAlike_47 (by decide) ?_
          refine v_istore_n dX10_beginAlike_48 rfl (by decide) ?_
          refine v_iincN (y := 1) dX10_beginAlike_49 (by rfl) (by decide) (by decide) ?_
          refine v_goto (tgt := 4) dX10_beginAlike_52 (by decide) ?_
          first
            | exact ih (d - 1) (by omega) (q + 1) false (by omega) (he.trans (by rw [c15]; rfl))
            | exact ih (d - 1) (by omega) (q + 1) false (by omega) (he.trans (by rw [c15, allB_f (p := (rwB c)) (j := A + 1) (by omega) (decide_eq_false c40)]; rfl))
        · refine v_iconst (v := nI 1) dX10_beginAlike_43 (by decide) ?_
          refine v_goto (tgt := 48) dX10_beginAlike_44 (by decide) ?_
          refine v_istore_n dX10_beginAlike_48 rfl (by decide) ?_
          refine v_iincN (y := 1) dX10_beginAlike_49 (by rfl) (by decide) (by decide) ?_
          refine v_goto (tgt := 4) dX10_beginAlike_52 (by decide) ?_
          exact ih (d - 1) (by omega) (q + 1) true (by omega) (he.trans (by rw [c15, allB_s (p := (rwB c)) (j := A + 1) (by omega) (decide_eq_true c40)]))
  refine v_iconst (v := bI true) dX10_beginAlike_0 (by decide) ?_
  refine v_istore_n dX10_beginAlike_1 rfl (by decide) ?_
  refine v_iconst (v := nI 1) dX10_beginAlike_2 (by decide) ?_
  refine v_istore_n dX10_beginAlike_3 rfl (by decide) ?_
  exact lp (A + 1 - 1) 1 true (by omega) rfl

set_option maxRecDepth 100000 in
set_option maxHeartbeats 600000 in
/-- model: allLong -/
theorem sX10_allLong {E : eN} (hE : eOk E) {f : aH} {t : Nat} {M : Nat} {y : mV} {r A : Nat} {z : Nat → Nat} {c : Nat → Nat → Int32} (hv : mRw y r A z c) (hr : r < 240) : mT E mX10_allLong 0 0 [.ref M, .int (nI r)] (mdS f M y) t (fun o f' t' => o = .inl (some (.int (bI (allB (rwL z) (A + 1 - 0) 0)))) ∧ t' = t ∧ f' = mdS f M y) := by
  refine mT_of (n := 2) (lo := [some (.ref M), some (.int (nI r)), none, none]) (by decide) (by exact Nat.le_of_ble_eq_true rfl) rfl rfl ?_
  obtain ⟨h1, h2, h3⟩ := id hv
  have lp : ∀ (d : Nat) (q : Nat) (b9 : Bool), q + d = A + 1 → allB (rwL z) (A + 1 - 0) 0 = (b9 && allB (rwL z) (A + 1 - q) q) → V E mX10_allLong 0 0 (fun o f' t' => o = .inl (some (.int (bI (allB (rwL z) (A + 1 - 0) 0)))) ∧ t' = t ∧ f' = mdS f M y) 4 [some (.ref M), some (.int (nI r)), some (.int (bI b9)), some (.int (nI q))] [] (mdS f M y) t 0 0 := by
    intro d
    induction d using Nat.strongRecOn with
    | _ d ih =>
    intro q b9 hq he
    refine v_iload_n dX10_allLong_4 rfl (by rfl) ?_
    refine v_aload_n dX10_allLong_5 rfl (by rfl) ?_
    refine v_getf hE dX10_allLong_6 fX10_84 mdS_M (by rfl) ?_
    refine v_iload_n dX10_allLong_9 rfl (by rfl) ?_
    refine m_iald hE (k := 24) dX10_allLong_10 (by decide) (by decide) rfl (show _ < 240 by omega) (by omega) ?_
    refine v_eqi (y := nI A) h1 ?_
    refine v_icmp_gtN (tgt := 44) dX10_allLong_11 (by decide) (by omega) (by omega) (fun c11 => ?_) (fun c11 => ?_)
    · refine v_iload_n dX10_allLong_44 rfl (by rfl) ?_
      refine v_iret dX10_allLong_45 rfl (by first | rfl | exact nar_bI) ?_
      refine ⟨congrArg (fun x => (Sum.inl (some (Value.int x)) : aO)) (congrArg bI ?_), rfl, rfl⟩
      rw [he, allB_0 (by omega), Bool.and_true]
    · refine v_iload_n dX10_allLong_14 rfl (by rfl) ?_
      refine v_if_eqB (tgt := 36) dX10_allLong_15 (by decide) (fun c15 => ?_) (fun c15 => ?_)
      · refine v_iconst (v := nI 0) dX10_allLong_36 (by decide) ?_
        refine v_istore_n dX10_allLong_37 rfl (by decide) ?_
        refine v_iincN (y := 1) dX10_allLong_38 (by rfl) (by decide) (by decide) ?_
        refine v_goto (tgt := 4) dX10_allLong_41 (by decide) ?_
        first
          | exact ih (d - 1) (by omega) (q + 1) false (by omega) (he.trans (by rw [c15]; rfl))
          | exact ih (d - 1) (by omega) (q + 1) false (by omega) (he.trans (by rw [c15, allB_f (p := (rwL z)) (j := A + 1) (by omega) (decide_eq_false (by omega))]; rfl))
      · have hzq := (h3 q (by omega)).2.2.1
        refine v_aload_n dX10_allLong_18 rfl (by rfl) ?_
        refine v_getf hE dX10_allLong_19 fX10_90 mdS_M (by rfl) ?_
        refine v_iconst (v := nI 4) dX10_allLong_22 (by decide) ?_
        refine v_iload_n dX10_allLong_23 rfl (by rfl) ?_
        refine v_imulN dX10_allLong_24 ?_
        refine v_iload_n dX10_allLong_25 rfl (by rfl) ?_
        refine v_iaddN dX10_allLong_26 ?_
        refine m_iald hE (k := 26) dX10_allLong_27 (by decide) (by decide) rfl (show _ < 960 by omega) (by omega) ?_
        refine v_eqi (y := nI (z q)) (h3 q (by omega)).1 ?_
        refine v_iconst (v := nI 2) dX10_allLong_28 (by decide) ?_
        refine v_icmp_ltN (tgt := 36) dX10_allLong_29 (by decide) (by omega) (by omega) (fun c29 => ?_) (fun c29 => ?_)
        · refine v_iconst (v := nI 0) dX10_allLong_36 (by decide) ?_
          refine v_istore_n dX10_allLong_37 rfl (by decide) ?_
          refine v_iincN (y := 1) dX10_allLong_38 (by rfl) (by decide) (by decide) ?_
          refine v_goto (tgt := 4) dX10_allLong_41 (by decide) ?_
          first
            | exact ih (d - 1) (by omega) (q + 1) false (by omega) (he.trans (by rw [c15]; rfl))
            | exact ih (d - 1) (by omega) (q + 1) false (by omega) (he.trans (by rw [c15, allB_f (p := (rwL z)) (j := A + 1) (by omega) (decide_eq_false (by omega))]; rfl))
        · refine v_iconst (v := nI 1) dX10_allLong_32 (by decide) ?_
          refine v_goto (tgt := 37) dX10_allLong_33 (by decide) ?_
          refine v_istore_n dX10_allLong_37 rfl (by decide) ?_
          refine v_iincN (y := 1) dX10_allLong_38 (by rfl) (by decide) (by decide) ?_
          refine v_goto (tgt := 4) dX10_allLong_41 (by decide) ?_
          exact ih (d - 1) (by omega) (q + 1) true (by omega) (he.trans (by rw [c15, allB_s (p := (rwL z)) (j := A + 1) (by omega) (decide_eq_true (by omega))]))
  refine v_iconst (v := bI true) dX10_allLong_0 (by decide) ?_
  refine v_istore_n dX10_allLong_1 rfl (by decide) ?_
  refine v_iconst (v := nI 0) dX10_allLong_2 (by decide) ?_
  refine v_istore_n dX10_allLong_3 rfl (by decide) ?_
  exact lp (A + 1 - 0) 0 true (by omega) rfl
