/-! the law's methods that catch -/
theorem dkP_c {f f' : aH} {D : Nat} {x : dV} (hA : dAd D (dA x)) (h : dkP f D x) (e : ∀ b, D ≤ b → b ≤ D + 1322 → f' b = f b) : dkP f' D x := by
  obtain ⟨c0, c1, hT, hG, hZ, hW, j0, j1, hH⟩ := h
  refine ⟨(e _ (by omega) (by omega)).trans c0, (e _ (by omega) (by omega)).trans c1, fun i hi => ?_, fun i hi => ?_, fun i hi => ?_, fun y hy => ?_, (e _ (by omega) (by omega)).trans j0, (e _ (by omega) (by omega)).trans j1, ha_cong hH (fun b q1 q2 => e b (by omega) (by omega))⟩
  · have a1 := dAd_T hA hi
    exact o_cong (hT i hi) (fun b q1 q2 => e b (by omega) (by omega))
  · have a1 := dAd_G hA hi
    exact gn_cong (hG i hi) (fun b q1 q2 => e b (by omega) (by omega))
  · have a1 := dAd_Z hA hi
    exact sh_cong (hZ i hi) (fun b q1 q2 => e b (by omega) (by omega))
  · have a1 := dX_in hy
    exact en_cong (hW y hy) (fun b q1 q2 => e b (by omega) (by omega))
/-- what a method of the law that catches leaves behind: R is the class's answer and the new desk; cv: how the answer is kept -/
def lwW (D O t : Nat) (f : aH) (cv : Int32 → Int64) (R : Option Int32 × dV) : aP := fun o f' t' => o = .inl (some (.int (bI R.1.isNone))) ∧ t ≤ t' ∧ dkP f' D R.2 ∧ (∃ g' : Nat → Int64, f' O = .inl (3, 1, .inr (.inl g')) ∧ ∀ a, R.1 = some a → g' 0 = cv a) ∧ ∀ b, b < t → (b < D ∨ D + 1322 < b) → b ≠ O → f' b = f b
def c64 (a : Int32) : Int64 := a.toInt64
def cFl (a : Int32) : Int64 := if a = 0 then 0 else 1
theorem lwW_t {D O t u : Nat} {f g : aH} {cv : Int32 → Int64} {R : Option Int32 × dV} {g0 : Nat → Int64} {a : Int32} {w : Int64} (hA : dAd D (dA R.2)) (ha : R.1 = some a) (hw : w = cv a) (hd : dkF D t f g R.2) (hu : t ≤ u) (hO1 : D + 1322 < O) : lwW D O t f cv R (.inl (some (.int (bI false)))) (va_up g O (.inl (3, 1, .inr (.inl (vp_updL g0 0 w))))) u := by
  refine ⟨by rw [ha]; rfl, hu, dkP_c hA hd.1 (fun b q1 q2 => va_up_ne _ _ (by omega)), ⟨_, va_up_self _ _ _, fun b hb => ?_⟩, fun b q1 q2 q3 => (va_up_ne _ _ q3).trans (hd.2 b q1 q2)⟩
  rw [ha] at hb
  cases hb
  rw [← hw]
  simp [vp_updL]
theorem lwW_f {D O t u : Nat} {f g : aH} {cv : Int32 → Int64} {R : Option Int32 × dV} {g0 : Nat → Int64} (ha : R.1 = none) (hd : dkF D t f g R.2) (hu : t ≤ u) (hO1 : D + 1322 < O) (hO2 : O < t) (hO : f O = .inl (3, 1, .inr (.inl g0))) : lwW D O t f cv R (.inl (some (.int (bI true)))) g u := by
  refine ⟨by rw [ha]; rfl, hu, hd.1, ⟨g0, (hd.2 O hO2 (Or.inr hO1)).trans hO, fun b hb => ?_⟩, fun b q1 q2 _ => hd.2 b q1 q2⟩
  rw [ha] at hb
  cases hb
theorem lw_c13 : Cond.classLink RL 13 nIA ∈ lw_tbl := mem_at (j := 695) (by decide +kernel)
theorem lw_c19 : Cond.classLink RL 19 nIO ∈ lw_tbl := mem_at (j := 775) (by decide +kernel)
theorem lw_x13 : Cond.castable nIA nIA ∈ lw_tbl := mem_at (j := 702) (by decide +kernel)
theorem lw_x19 : Cond.castable nIO nIO ∈ lw_tbl := mem_at (j := 786) (by decide +kernel)
set_option maxRecDepth 100000 in
set_option maxHeartbeats 4000000 in
theorem sL_feed {E : eN} (hE : eOk E) {f : aH} {t D O : Nat} {x : dV} {q : Int32} {w : Int64} {g0 : Nat → Int64} (hS : eSt E) (hT : eTh E) (hI : dOk D x) (hk : dkP f D x) (ht : D + 1322 < t) (hO : f O = .inl (3, 1, .inr (.inl g0))) (hO1 : D + 1322 < O) (hO2 : O < t) : mH E mL_feed [(0, 11, 14, 13)] 1 6 [.ref D, .int q, .long w, .ref O] f t (lwW D O t f c64 (pFeed x q w)) := by
  refine mH_of (n := 1) (lo := [some (.ref D), some (.int q), some (.long w), none, some (.ref O), none]) (by decide) (by exact Nat.le_of_ble_eq_true rfl) rfl rfl ?_
  refine vh_aload dL_feed_0 (by rfl) ?_
  refine vh_iconst (v := nI 0) dL_feed_2 (by decide) ?_
  refine vh_aload_n dL_feed_3 rfl (by rfl) ?_
  refine vh_iload_n dL_feed_4 rfl (by rfl) ?_
  refine vh_lload_n dL_feed_5 rfl (by rfl) ?_
  refine vh_call hE dL_feed_6 kL_7 hk.1 (by rfl) (by rfl) (sX9_feed hE hS hT hI hk ht) rfl (by decide) (by decide) (by exact Nat.le_of_ble_eq_true rfl) (by omega) (by omega) rfl (by decide) (by decide) lw_c13 lw_x13 (fun v9 g9 u9 h9 => ?_) (fun n9 g9 u9 h9 => ?_)
  · obtain ⟨hv9, hu9, hd9⟩ := h9
    cases hR : ((pFeed x q w)).1 with
    | none =>
      exfalso
      replace hv9 : (Sum.inl v9 : aO) = dOut nIA ((pFeed x q w)).1 := hv9
      rw [hR] at hv9
      exact aO_lr (show (Sum.inl v9 : aO) = Sum.inr nIA from hv9)
    | some a =>
      replace hv9 : (Sum.inl v9 : aO) = dOut nIA ((pFeed x q w)).1 := hv9
      rw [hR] at hv9
      have hv8 : v9 = some (.int a) := Sum.inl.inj (show (Sum.inl v9 : aO) = Sum.inl (some (.int a)) from hv9)
      subst hv8
      refine vh_i2l (v := c64 a) dL_feed_9 rfl ?_
      refine vh_last hE dL_feed_10 ((hd9.2 O hO2 (Or.inr hO1)).trans hO) (i := 0) (by omega) (by omega) ?_
      refine vh_goto (tgt := 18) dL_feed_11 (by decide) ?_
      refine vh_iconst (v := bI false) dL_feed_18 (by decide) ?_
      refine vh_iret dL_feed_19 rfl rfl ?_
      exact lwW_t (dOk_fee hI).1 hR rfl hd9 hu9 hO1
  · obtain ⟨hv9, hu9, hd9⟩ := h9
    cases hR : ((pFeed x q w)).1 with
    | some a =>
      exfalso
      replace hv9 : (Sum.inr n9 : aO) = dOut nIA ((pFeed x q w)).1 := hv9
      rw [hR] at hv9
      exact aO_rl (show (Sum.inr n9 : aO) = Sum.inl (some (.int a)) from hv9)
    | none =>
      replace hv9 : (Sum.inr n9 : aO) = dOut nIA ((pFeed x q w)).1 := hv9
      rw [hR] at hv9
      refine ⟨Sum.inr.inj (show (Sum.inr n9 : aO) = Sum.inr nIA from hv9), fun q9 => ?_⟩
      refine vh_astore dL_feed_14 (by decide) ?_
      refine vh_iconst (v := bI true) dL_feed_16 (by decide) ?_
      refine vh_iret dL_feed_17 rfl rfl ?_
      exact lwW_f hR hd9 hu9 hO1 hO2 hO
set_option maxRecDepth 100000 in
set_option maxHeartbeats 4000000 in
theorem sL_read {E : eN} (hE : eOk E) {f : aH} {t D O : Nat} {x : dV} {q : Int32} {g0 : Nat → Int64} (hS : eSt E) (hT : eTh E) (hI : dOk D x) (hu8 : (dT x 0).1 ≤ 8000) (hk : dkP f D x) (ht : D + 1322 < t) (hO : f O = .inl (3, 1, .inr (.inl g0))) (hO1 : D + 1322 < O) (hO2 : O < t) : mH E mL_read [(0, 9, 12, 19)] 3 29 [.ref D, .int q, .ref O] f t (lwW D O t f c64 (pRea x q)) := by
  refine mH_of (n := 1) (lo := [some (.ref D), some (.int q), some (.ref O), none]) (by decide) (by exact Nat.le_of_ble_eq_true rfl) rfl rfl ?_
  refine vh_aload_n dL_read_0 rfl (by rfl) ?_
  refine vh_iconst (v := nI 0) dL_read_1 (by decide) ?_
  refine vh_aload_n dL_read_2 rfl (by rfl) ?_
  refine vh_iload_n dL_read_3 rfl (by rfl) ?_
  refine vh_call hE dL_read_4 kL_15 hk.1 (by rfl) (by rfl) (sX9_read hE hS hT hI hk ht) rfl (by decide) (by decide) (by exact Nat.le_of_ble_eq_true rfl) (by omega) (by omega) rfl (by decide) (by decide) lw_c19 lw_x19 (fun v9 g9 u9 h9 => ?_) (fun n9 g9 u9 h9 => ?_)
  · obtain ⟨hv9, hu9, hd9⟩ := h9
    cases hR : ((pRea x q)).1 with
    | none =>
      exfalso
      replace hv9 : (Sum.inl v9 : aO) = dOut nIO ((pRea x q)).1 := hv9
      rw [hR] at hv9
      exact aO_lr (show (Sum.inl v9 : aO) = Sum.inr nIO from hv9)
    | some a =>
      replace hv9 : (Sum.inl v9 : aO) = dOut nIO ((pRea x q)).1 := hv9
      rw [hR] at hv9
      have hv8 : v9 = some (.int a) := Sum.inl.inj (show (Sum.inl v9 : aO) = Sum.inl (some (.int a)) from hv9)
      subst hv8
      refine vh_i2l (v := c64 a) dL_read_7 rfl ?_
      refine vh_last hE dL_read_8 ((hd9.2 O hO2 (Or.inr hO1)).trans hO) (i := 0) (by omega) (by omega) ?_
      refine vh_goto (tgt := 15) dL_read_9 (by decide) ?_
      refine vh_iconst (v := bI false) dL_read_15 (by decide) ?_
      refine vh_iret dL_read_16 rfl rfl ?_
      exact lwW_t (dOk_rea hI hu8).1 hR rfl hd9 hu9 hO1
  · obtain ⟨hv9, hu9, hd9⟩ := h9
    cases hR : ((pRea x q)).1 with
    | some a =>
      exfalso
      replace hv9 : (Sum.inr n9 : aO) = dOut nIO ((pRea x q)).1 := hv9
      rw [hR] at hv9
      exact aO_rl (show (Sum.inr n9 : aO) = Sum.inl (some (.int a)) from hv9)
    | none =>
      replace hv9 : (Sum.inr n9 : aO) = dOut nIO ((pRea x q)).1 := hv9
      rw [hR] at hv9
      refine ⟨Sum.inr.inj (show (Sum.inr n9 : aO) = Sum.inr nIO from hv9), fun q9 => ?_⟩
      refine vh_astore_n dL_read_12 rfl (by decide) ?_
      refine vh_iconst (v := bI true) dL_read_13 (by decide) ?_
      refine vh_iret dL_read_14 rfl rfl ?_
      exact lwW_f hR hd9 hu9 hO1 hO2 hO
set_option maxRecDepth 100000 in
set_option maxHeartbeats 4000000 in
theorem sL_sequence {E : eN} (hE : eOk E) {f : aH} {t D O : Nat} {x : dV} {q w : Int32} {g0 : Nat → Int64} (hS : eSt E) (hT : eTh E) (hI : dOk D x) (hk : dkP f D x) (ht : D + 1322 < t) (hO : f O = .inl (3, 1, .inr (.inl g0))) (hO1 : D + 1322 < O) (hO2 : O < t) : mH E mL_sequence [(0, 10, 13, 19)] 2 12 [.ref D, .int q, .int w, .ref O] f t (lwW D O t f c64 (aSeq x q w, x)) := by
  refine mH_of (n := 1) (lo := [some (.ref D), some (.int q), some (.int w), some (.ref O), none]) (by decide) (by exact Nat.le_of_ble_eq_true rfl) rfl rfl ?_
  refine vh_aload_n dL_sequence_0 rfl (by rfl) ?_
  refine vh_iconst (v := nI 0) dL_sequence_1 (by decide) ?_
  refine vh_aload_n dL_sequence_2 rfl (by rfl) ?_
  refine vh_iload_n dL_sequence_3 rfl (by rfl) ?_
  refine vh_iload_n dL_sequence_4 rfl (by rfl) ?_
  refine vh_call hE dL_sequence_5 kL_21 hk.1 (by rfl) (by rfl) (sX9_sequence hE hS hT hI hk ht) rfl (by decide) (by decide) (by exact Nat.le_of_ble_eq_true rfl) (by omega) (by omega) rfl (by decide) (by decide) lw_c19 lw_x19 (fun v9 g9 u9 h9 => ?_) (fun n9 g9 u9 h9 => ?_)
  · obtain ⟨hv9, hu9, hd9⟩ := h9
    cases hR : ((aSeq x q w, x)).1 with
    | none =>
      exfalso
      replace hv9 : (Sum.inl v9 : aO) = dOut nIO ((aSeq x q w, x)).1 := hv9
      rw [hR] at hv9
      exact aO_lr (show (Sum.inl v9 : aO) = Sum.inr nIO from hv9)
    | some a =>
      replace hv9 : (Sum.inl v9 : aO) = dOut nIO ((aSeq x q w, x)).1 := hv9
      rw [hR] at hv9
      have hv8 : v9 = some (.int a) := Sum.inl.inj (show (Sum.inl v9 : aO) = Sum.inl (some (.int a)) from hv9)
      subst hv8
      refine vh_i2l (v := c64 a) dL_sequence_8 rfl ?_
      refine vh_last hE dL_sequence_9 ((hd9.2 O hO2 (Or.inr hO1)).trans hO) (i := 0) (by omega) (by omega) ?_
      refine vh_goto (tgt := 17) dL_sequence_10 (by decide) ?_
      refine vh_iconst (v := bI false) dL_sequence_17 (by decide) ?_
      refine vh_iret dL_sequence_18 rfl rfl ?_
      exact lwW_t hI.1 hR rfl hd9 hu9 hO1
  · obtain ⟨hv9, hu9, hd9⟩ := h9
    cases hR : ((aSeq x q w, x)).1 with
    | some a =>
      exfalso
      replace hv9 : (Sum.inr n9 : aO) = dOut nIO ((aSeq x q w, x)).1 := hv9
      rw [hR] at hv9
      exact aO_rl (show (Sum.inr n9 : aO) = Sum.inl (some (.int a)) from hv9)
    | none =>
      replace hv9 : (Sum.inr n9 : aO) = dOut nIO ((aSeq x q w, x)).1 := hv9
      rw [hR] at hv9
      refine ⟨Sum.inr.inj (show (Sum.inr n9 : aO) = Sum.inr nIO from hv9), fun q9 => ?_⟩
      refine vh_astore dL_sequence_13 (by decide) ?_
      refine vh_iconst (v := bI true) dL_sequence_15 (by decide) ?_
      refine vh_iret dL_sequence_16 rfl rfl ?_
      exact lwW_f hR hd9 hu9 hO1 hO2 hO
set_option maxRecDepth 100000 in
set_option maxHeartbeats 4000000 in
theorem sL_letter {E : eN} (hE : eOk E) {f : aH} {t D O : Nat} {x : dV} {q w : Int32} {g0 : Nat → Int64} (hS : eSt E) (hT : eTh E) (hI : dOk D x) (hk : dkP f D x) (ht : D + 1322 < t) (hO : f O = .inl (3, 1, .inr (.inl g0))) (hO1 : D + 1322 < O) (hO2 : O < t) : mH E mL_letter [(0, 10, 13, 19)] 2 12 [.ref D, .int q, .int w, .ref O] f t (lwW D O t f c64 (aLet x q w, x)) := by
  refine mH_of (n := 1) (lo := [some (.ref D), some (.int q), some (.int w), some (.ref O), none]) (by decide) (by exact Nat.le_of_ble_eq_true rfl) rfl rfl ?_
  refine vh_aload_n dL_letter_0 rfl (by rfl) ?_
  refine vh_iconst (v := nI 0) dL_letter_1 (by decide) ?_
  refine vh_aload_n dL_letter_2 rfl (by rfl) ?_
  refine vh_iload_n dL_letter_3 rfl (by rfl) ?_
  refine vh_iload_n dL_letter_4 rfl (by rfl) ?_
  refine vh_call hE dL_letter_5 kL_25 hk.1 (by rfl) (by rfl) (sX9_letter hE hS hT hI hk ht) rfl (by decide) (by decide) (by exact Nat.le_of_ble_eq_true rfl) (by omega) (by omega) rfl (by decide) (by decide) lw_c19 lw_x19 (fun v9 g9 u9 h9 => ?_) (fun n9 g9 u9 h9 => ?_)
  · obtain ⟨hv9, hu9, hd9⟩ := h9
    cases hR : ((aLet x q w, x)).1 with
    | none =>
      exfalso
      replace hv9 : (Sum.inl v9 : aO) = dOut nIO ((aLet x q w, x)).1 := hv9
      rw [hR] at hv9
      exact aO_lr (show (Sum.inl v9 : aO) = Sum.inr nIO from hv9)
    | some a =>
      replace hv9 : (Sum.inl v9 : aO) = dOut nIO ((aLet x q w, x)).1 := hv9
      rw [hR] at hv9
      have hv8 : v9 = some (.int a) := Sum.inl.inj (show (Sum.inl v9 : aO) = Sum.inl (some (.int a)) from hv9)
      subst hv8
      refine vh_i2l (v := c64 a) dL_letter_8 rfl ?_
      refine vh_last hE dL_letter_9 ((hd9.2 O hO2 (Or.inr hO1)).trans hO) (i := 0) (by omega) (by omega) ?_
      refine vh_goto (tgt := 17) dL_letter_10 (by decide) ?_
      refine vh_iconst (v := bI false) dL_letter_17 (by decide) ?_
      refine vh_iret dL_letter_18 rfl rfl ?_
      exact lwW_t hI.1 hR rfl hd9 hu9 hO1
  · obtain ⟨hv9, hu9, hd9⟩ := h9
    cases hR : ((aLet x q w, x)).1 with
    | some a =>
      exfalso
      replace hv9 : (Sum.inr n9 : aO) = dOut nIO ((aLet x q w, x)).1 := hv9
      rw [hR] at hv9
      exact aO_rl (show (Sum.inr n9 : aO) = Sum.inl (some (.int a)) from hv9)
    | none =>
      replace hv9 : (Sum.inr n9 : aO) = dOut nIO ((aLet x q w, x)).1 := hv9
      rw [hR] at hv9
      refine ⟨Sum.inr.inj (show (Sum.inr n9 : aO) = Sum.inr nIO from hv9), fun q9 => ?_⟩
      refine vh_astore dL_letter_13 (by decide) ?_
      refine vh_iconst (v := bI true) dL_letter_15 (by decide) ?_
      refine vh_iret dL_letter_16 rfl rfl ?_
      exact lwW_f hR hd9 hu9 hO1 hO2 hO
set_option maxRecDepth 100000 in
set_option maxHeartbeats 4000000 in
theorem sL_table {E : eN} (hE : eOk E) {f : aH} {t D O : Nat} {x : dV} {q w : Int32} {g0 : Nat → Int64} (hS : eSt E) (hT : eTh E) (hI : dOk D x) (hk : dkP f D x) (ht : D + 1322 < t) (hO : f O = .inl (3, 1, .inr (.inl g0))) (hO1 : D + 1322 < O) (hO2 : O < t) : mH E mL_table [(0, 10, 13, 19)] 2 12 [.ref D, .int q, .int w, .ref O] f t (lwW D O t f c64 (aTab x q w, x)) := by
  refine mH_of (n := 1) (lo := [some (.ref D), some (.int q), some (.int w), some (.ref O), none]) (by decide) (by exact Nat.le_of_ble_eq_true rfl) rfl rfl ?_
  refine vh_aload_n dL_table_0 rfl (by rfl) ?_
  refine vh_iconst (v := nI 0) dL_table_1 (by decide) ?_
  refine vh_aload_n dL_table_2 rfl (by rfl) ?_
  refine vh_iload_n dL_table_3 rfl (by rfl) ?_
  refine vh_iload_n dL_table_4 rfl (by rfl) ?_
  refine vh_call hE dL_table_5 kL_28 hk.1 (by rfl) (by rfl) (sX9_table hE hS hT hI hk ht) rfl (by decide) (by decide) (by exact Nat.le_of_ble_eq_true rfl) (by omega) (by omega) rfl (by decide) (by decide) lw_c19 lw_x19 (fun v9 g9 u9 h9 => ?_) (fun n9 g9 u9 h9 => ?_)
  · obtain ⟨hv9, hu9, hd9⟩ := h9
    cases hR : ((aTab x q w, x)).1 with
    | none =>
      exfalso
      replace hv9 : (Sum.inl v9 : aO) = dOut nIO ((aTab x q w, x)).1 := hv9
      rw [hR] at hv9
      exact aO_lr (show (Sum.inl v9 : aO) = Sum.inr nIO from hv9)
    | some a =>
      replace hv9 : (Sum.inl v9 : aO) = dOut nIO ((aTab x q w, x)).1 := hv9
      rw [hR] at hv9
      have hv8 : v9 = some (.int a) := Sum.inl.inj (show (Sum.inl v9 : aO) = Sum.inl (some (.int a)) from hv9)
      subst hv8
      refine vh_i2l (v := c64 a) dL_table_8 rfl ?_
      refine vh_last hE dL_table_9 ((hd9.2 O hO2 (Or.inr hO1)).trans hO) (i := 0) (by omega) (by omega) ?_
      refine vh_goto (tgt := 17) dL_table_10 (by decide) ?_
      refine vh_iconst (v := bI false) dL_table_17 (by decide) ?_
      refine vh_iret dL_table_18 rfl rfl ?_
      exact lwW_t hI.1 hR rfl hd9 hu9 hO1
  · obtain ⟨hv9, hu9, hd9⟩ := h9
    cases hR : ((aTab x q w, x)).1 with
    | some a =>
      exfalso
      replace hv9 : (Sum.inr n9 : aO) = dOut nIO ((aTab x q w, x)).1 := hv9
      rw [hR] at hv9
      exact aO_rl (show (Sum.inr n9 : aO) = Sum.inl (some (.int a)) from hv9)
    | none =>
      replace hv9 : (Sum.inr n9 : aO) = dOut nIO ((aTab x q w, x)).1 := hv9
      rw [hR] at hv9
      refine ⟨Sum.inr.inj (show (Sum.inr n9 : aO) = Sum.inr nIO from hv9), fun q9 => ?_⟩
      refine vh_astore dL_table_13 (by decide) ?_
      refine vh_iconst (v := bI true) dL_table_15 (by decide) ?_
      refine vh_iret dL_table_16 rfl rfl ?_
      exact lwW_f hR hd9 hu9 hO1 hO2 hO
set_option maxRecDepth 100000 in
set_option maxHeartbeats 4000000 in
theorem sL_record {E : eN} (hE : eOk E) {f : aH} {t D O : Nat} {x : dV} {q r w : Int32} {g0 : Nat → Int64} (hS : eSt E) (hT : eTh E) (hI : dOk D x) (hk : dkP f D x) (ht : D + 1322 < t) (hO : f O = .inl (3, 1, .inr (.inl g0))) (hO1 : D + 1322 < O) (hO2 : O < t) : mH E mL_record [(0, 12, 15, 19)] 3 18 [.ref D, .int q, .int r, .int w, .ref O] f t (lwW D O t f c64 (aRec x q r w, x)) := by
  refine mH_of (n := 1) (lo := [some (.ref D), some (.int q), some (.int r), some (.int w), some (.ref O), none]) (by decide) (by exact Nat.le_of_ble_eq_true rfl) rfl rfl ?_
  refine vh_aload dL_record_0 (by rfl) ?_
  refine vh_iconst (v := nI 0) dL_record_2 (by decide) ?_
  refine vh_aload_n dL_record_3 rfl (by rfl) ?_
  refine vh_iload_n dL_record_4 rfl (by rfl) ?_
  refine vh_iload_n dL_record_5 rfl (by rfl) ?_
  refine vh_iload_n dL_record_6 rfl (by rfl) ?_
  refine vh_call hE dL_record_7 kL_31 hk.1 (by rfl) (by rfl) (sX9_record hE hS hT hI hk ht) rfl (by decide) (by decide) (by exact Nat.le_of_ble_eq_true rfl) (by omega) (by omega) rfl (by decide) (by decide) lw_c19 lw_x19 (fun v9 g9 u9 h9 => ?_) (fun n9 g9 u9 h9 => ?_)
  · obtain ⟨hv9, hu9, hd9⟩ := h9
    cases hR : ((aRec x q r w, x)).1 with
    | none =>
      exfalso
      replace hv9 : (Sum.inl v9 : aO) = dOut nIO ((aRec x q r w, x)).1 := hv9
      rw [hR] at hv9
      exact aO_lr (show (Sum.inl v9 : aO) = Sum.inr nIO from hv9)
    | some a =>
      replace hv9 : (Sum.inl v9 : aO) = dOut nIO ((aRec x q r w, x)).1 := hv9
      rw [hR] at hv9
      have hv8 : v9 = some (.int a) := Sum.inl.inj (show (Sum.inl v9 : aO) = Sum.inl (some (.int a)) from hv9)
      subst hv8
      refine vh_i2l (v := c64 a) dL_record_10 rfl ?_
      refine vh_last hE dL_record_11 ((hd9.2 O hO2 (Or.inr hO1)).trans hO) (i := 0) (by omega) (by omega) ?_
      refine vh_goto (tgt := 19) dL_record_12 (by decide) ?_
      refine vh_iconst (v := bI false) dL_record_19 (by decide) ?_
      refine vh_iret dL_record_20 rfl rfl ?_
      exact lwW_t hI.1 hR rfl hd9 hu9 hO1
  · obtain ⟨hv9, hu9, hd9⟩ := h9
    cases hR : ((aRec x q r w, x)).1 with
    | some a =>
      exfalso
      replace hv9 : (Sum.inr n9 : aO) = dOut nIO ((aRec x q r w, x)).1 := hv9
      rw [hR] at hv9
      exact aO_rl (show (Sum.inr n9 : aO) = Sum.inl (some (.int a)) from hv9)
    | none =>
      replace hv9 : (Sum.inr n9 : aO) = dOut nIO ((aRec x q r w, x)).1 := hv9
      rw [hR] at hv9
      refine ⟨Sum.inr.inj (show (Sum.inr n9 : aO) = Sum.inr nIO from hv9), fun q9 => ?_⟩
      refine vh_astore dL_record_15 (by decide) ?_
      refine vh_iconst (v := bI true) dL_record_17 (by decide) ?_
      refine vh_iret dL_record_18 rfl rfl ?_
      exact lwW_f hR hd9 hu9 hO1 hO2 hO
set_option maxRecDepth 100000 in
set_option maxHeartbeats 4000000 in
theorem sL_row {E : eN} (hE : eOk E) {f : aH} {t D O : Nat} {x : dV} {q r m p : Int32} {g0 : Nat → Int64} (hS : eSt E) (hT : eTh E) (hI : dOk D x) (hk : dkP f D x) (ht : D + 1322 < t) (hO : f O = .inl (3, 1, .inr (.inl g0))) (hO1 : D + 1322 < O) (hO2 : O < t) : mH E mL_row [(0, 14, 17, 19)] 3 18 [.ref D, .int q, .int r, .int m, .int p, .ref O] f t (lwW D O t f c64 (aRow x q r m p, x)) := by
  refine mH_of (n := 1) (lo := [some (.ref D), some (.int q), some (.int r), some (.int m), some (.int p), some (.ref O), none]) (by decide) (by exact Nat.le_of_ble_eq_true rfl) rfl rfl ?_
  refine vh_aload dL_row_0 (by rfl) ?_
  refine vh_iconst (v := nI 0) dL_row_2 (by decide) ?_
  refine vh_aload_n dL_row_3 rfl (by rfl) ?_
  refine vh_iload_n dL_row_4 rfl (by rfl) ?_
  refine vh_iload_n dL_row_5 rfl (by rfl) ?_
  refine vh_iload_n dL_row_6 rfl (by rfl) ?_
  refine vh_iload dL_row_7 (by rfl) ?_
  refine vh_call hE dL_row_9 kL_35 hk.1 (by rfl) (by rfl) (sX9_row hE hS hT hI hk ht) rfl (by decide) (by decide) (by exact Nat.le_of_ble_eq_true rfl) (by omega) (by omega) rfl (by decide) (by decide) lw_c19 lw_x19 (fun v9 g9 u9 h9 => ?_) (fun n9 g9 u9 h9 => ?_)
  · obtain ⟨hv9, hu9, hd9⟩ := h9
    cases hR : ((aRow x q r m p, x)).1 with
    | none =>
      exfalso
      replace hv9 : (Sum.inl v9 : aO) = dOut nIO ((aRow x q r m p, x)).1 := hv9
      rw [hR] at hv9
      exact aO_lr (show (Sum.inl v9 : aO) = Sum.inr nIO from hv9)
    | some a =>
      replace hv9 : (Sum.inl v9 : aO) = dOut nIO ((aRow x q r m p, x)).1 := hv9
      rw [hR] at hv9
      have hv8 : v9 = some (.int a) := Sum.inl.inj (show (Sum.inl v9 : aO) = Sum.inl (some (.int a)) from hv9)
      subst hv8
      refine vh_i2l (v := c64 a) dL_row_12 rfl ?_
      refine vh_last hE dL_row_13 ((hd9.2 O hO2 (Or.inr hO1)).trans hO) (i := 0) (by omega) (by omega) ?_
      refine vh_goto (tgt := 21) dL_row_14 (by decide) ?_
      refine vh_iconst (v := bI false) dL_row_21 (by decide) ?_
      refine vh_iret dL_row_22 rfl rfl ?_
      exact lwW_t hI.1 hR rfl hd9 hu9 hO1
  · obtain ⟨hv9, hu9, hd9⟩ := h9
    cases hR : ((aRow x q r m p, x)).1 with
    | some a =>
      exfalso
      replace hv9 : (Sum.inr n9 : aO) = dOut nIO ((aRow x q r m p, x)).1 := hv9
      rw [hR] at hv9
      exact aO_rl (show (Sum.inr n9 : aO) = Sum.inl (some (.int a)) from hv9)
    | none =>
      replace hv9 : (Sum.inr n9 : aO) = dOut nIO ((aRow x q r m p, x)).1 := hv9
      rw [hR] at hv9
      refine ⟨Sum.inr.inj (show (Sum.inr n9 : aO) = Sum.inr nIO from hv9), fun q9 => ?_⟩
      refine vh_astore dL_row_17 (by decide) ?_
      refine vh_iconst (v := bI true) dL_row_19 (by decide) ?_
      refine vh_iret dL_row_20 rfl rfl ?_
      exact lwW_f hR hd9 hu9 hO1 hO2 hO
set_option maxRecDepth 100000 in
set_option maxHeartbeats 4000000 in
theorem sL_call {E : eN} (hE : eOk E) {f : aH} {t D O : Nat} {x : dV} {q r m w : Int32} {g0 : Nat → Int64} (hS : eSt E) (hT : eTh E) (hI : dOk D x) (hk : dkP f D x) (ht : D + 1322 < t) (hO : f O = .inl (3, 1, .inr (.inl g0))) (hO1 : D + 1322 < O) (hO2 : O < t) : mH E mL_call [(0, 14, 17, 19)] 5 30 [.ref D, .int q, .int r, .int m, .int w, .ref O] f t (lwW D O t f c64 (aCal x q r m w, x)) := by
  refine mH_of (n := 1) (lo := [some (.ref D), some (.int q), some (.int r), some (.int m), some (.int w), some (.ref O), none]) (by decide) (by exact Nat.le_of_ble_eq_true rfl) rfl rfl ?_
  refine vh_aload dL_call_0 (by rfl) ?_
  refine vh_iconst (v := nI 0) dL_call_2 (by decide) ?_
  refine vh_aload_n dL_call_3 rfl (by rfl) ?_
  refine vh_iload_n dL_call_4 rfl (by rfl) ?_
  refine vh_iload_n dL_call_5 rfl (by rfl) ?_
  refine vh_iload_n dL_call_6 rfl (by rfl) ?_
  refine vh_iload dL_call_7 (by rfl) ?_
  refine vh_call hE dL_call_9 kL_39 hk.1 (by rfl) (by rfl) (sX9_call hE hS hT hI hk ht) rfl (by decide) (by decide) (by exact Nat.le_of_ble_eq_true rfl) (by omega) (by omega) rfl (by decide) (by decide) lw_c19 lw_x19 (fun v9 g9 u9 h9 => ?_) (fun n9 g9 u9 h9 => ?_)
  · obtain ⟨hv9, hu9, hd9⟩ := h9
    cases hR : ((aCal x q r m w, x)).1 with
    | none =>
      exfalso
      replace hv9 : (Sum.inl v9 : aO) = dOut nIO ((aCal x q r m w, x)).1 := hv9
      rw [hR] at hv9
      exact aO_lr (show (Sum.inl v9 : aO) = Sum.inr nIO from hv9)
    | some a =>
      replace hv9 : (Sum.inl v9 : aO) = dOut nIO ((aCal x q r m w, x)).1 := hv9
      rw [hR] at hv9
      have hv8 : v9 = some (.int a) := Sum.inl.inj (show (Sum.inl v9 : aO) = Sum.inl (some (.int a)) from hv9)
      subst hv8
      refine vh_i2l (v := c64 a) dL_call_12 rfl ?_
      refine vh_last hE dL_call_13 ((hd9.2 O hO2 (Or.inr hO1)).trans hO) (i := 0) (by omega) (by omega) ?_
      refine vh_goto (tgt := 21) dL_call_14 (by decide) ?_
      refine vh_iconst (v := bI false) dL_call_21 (by decide) ?_
      refine vh_iret dL_call_22 rfl rfl ?_
      exact lwW_t hI.1 hR rfl hd9 hu9 hO1
  · obtain ⟨hv9, hu9, hd9⟩ := h9
    cases hR : ((aCal x q r m w, x)).1 with
    | some a =>
      exfalso
      replace hv9 : (Sum.inr n9 : aO) = dOut nIO ((aCal x q r m w, x)).1 := hv9
      rw [hR] at hv9
      exact aO_rl (show (Sum.inr n9 : aO) = Sum.inl (some (.int a)) from hv9)
    | none =>
      replace hv9 : (Sum.inr n9 : aO) = dOut nIO ((aCal x q r m w, x)).1 := hv9
      rw [hR] at hv9
      refine ⟨Sum.inr.inj (show (Sum.inr n9 : aO) = Sum.inr nIO from hv9), fun q9 => ?_⟩
      refine vh_astore dL_call_17 (by decide) ?_
      refine vh_iconst (v := bI true) dL_call_19 (by decide) ?_
      refine vh_iret dL_call_20 rfl rfl ?_
      exact lwW_f hR hd9 hu9 hO1 hO2 hO
set_option maxRecDepth 100000 in
set_option maxHeartbeats 4000000 in
theorem sL_normalise {E : eN} (hE : eOk E) {f : aH} {t D O : Nat} {x : dV} {q : Int32} {g0 : Nat → Int64} (hS : eSt E) (hT : eTh E) (hI : dOk D x) (hlv : dLv x) (hk : dkP f D x) (ht : D + 1322 < t) (hO : f O = .inl (3, 1, .inr (.inl g0))) (hO1 : D + 1322 < O) (hO2 : O < t) : mH E mL_normalise [(0, 9, 12, 19)] 1 6 [.ref D, .int q, .ref O] f t (lwW D O t f c64 (pNor x q)) := by
  refine mH_of (n := 1) (lo := [some (.ref D), some (.int q), some (.ref O), none]) (by decide) (by exact Nat.le_of_ble_eq_true rfl) rfl rfl ?_
  refine vh_aload_n dL_normalise_0 rfl (by rfl) ?_
  refine vh_iconst (v := nI 0) dL_normalise_1 (by decide) ?_
  refine vh_aload_n dL_normalise_2 rfl (by rfl) ?_
  refine vh_iload_n dL_normalise_3 rfl (by rfl) ?_
  refine vh_call hE dL_normalise_4 kL_42 hk.1 (by rfl) (by rfl) (sX9_normalise hE hS hT hI hk ht) rfl (by decide) (by decide) (by exact Nat.le_of_ble_eq_true rfl) (by omega) (by omega) rfl (by decide) (by decide) lw_c19 lw_x19 (fun v9 g9 u9 h9 => ?_) (fun n9 g9 u9 h9 => ?_)
  · obtain ⟨hv9, hu9, hd9⟩ := h9
    cases hR : ((pNor x q)).1 with
    | none =>
      exfalso
      replace hv9 : (Sum.inl v9 : aO) = dOut nIO ((pNor x q)).1 := hv9
      rw [hR] at hv9
      exact aO_lr (show (Sum.inl v9 : aO) = Sum.inr nIO from hv9)
    | some a =>
      replace hv9 : (Sum.inl v9 : aO) = dOut nIO ((pNor x q)).1 := hv9
      rw [hR] at hv9
      have hv8 : v9 = some (.int a) := Sum.inl.inj (show (Sum.inl v9 : aO) = Sum.inl (some (.int a)) from hv9)
      subst hv8
      refine vh_i2l (v := c64 a) dL_normalise_7 rfl ?_
      refine vh_last hE dL_normalise_8 ((hd9.2 O hO2 (Or.inr hO1)).trans hO) (i := 0) (by omega) (by omega) ?_
      refine vh_goto (tgt := 15) dL_normalise_9 (by decide) ?_
      refine vh_iconst (v := bI false) dL_normalise_15 (by decide) ?_
      refine vh_iret dL_normalise_16 rfl rfl ?_
      exact lwW_t (dOk_nor hI hlv).1 hR rfl hd9 hu9 hO1
  · obtain ⟨hv9, hu9, hd9⟩ := h9
    cases hR : ((pNor x q)).1 with
    | some a =>
      exfalso
      replace hv9 : (Sum.inr n9 : aO) = dOut nIO ((pNor x q)).1 := hv9
      rw [hR] at hv9
      exact aO_rl (show (Sum.inr n9 : aO) = Sum.inl (some (.int a)) from hv9)
    | none =>
      replace hv9 : (Sum.inr n9 : aO) = dOut nIO ((pNor x q)).1 := hv9
      rw [hR] at hv9
      refine ⟨Sum.inr.inj (show (Sum.inr n9 : aO) = Sum.inr nIO from hv9), fun q9 => ?_⟩
      refine vh_astore_n dL_normalise_12 rfl (by decide) ?_
      refine vh_iconst (v := bI true) dL_normalise_13 (by decide) ?_
      refine vh_iret dL_normalise_14 rfl rfl ?_
      exact lwW_f hR hd9 hu9 hO1 hO2 hO
set_option maxRecDepth 100000 in
set_option maxHeartbeats 4000000 in
theorem sL_split {E : eN} (hE : eOk E) {f : aH} {t D O : Nat} {x : dV} {q : Int32} {g0 : Nat → Int64} (hS : eSt E) (hT : eTh E) (hI : dOk D x) (hk : dkP f D x) (ht : D + 1322 < t) (hO : f O = .inl (3, 1, .inr (.inl g0))) (hO1 : D + 1322 < O) (hO2 : O < t) : mH E mL_split [(0, 9, 12, 19)] 1 6 [.ref D, .int q, .ref O] f t (lwW D O t f c64 (pSpl x q)) := by
  refine mH_of (n := 1) (lo := [some (.ref D), some (.int q), some (.ref O), none]) (by decide) (by exact Nat.le_of_ble_eq_true rfl) rfl rfl ?_
  refine vh_aload_n dL_split_0 rfl (by rfl) ?_
  refine vh_iconst (v := nI 0) dL_split_1 (by decide) ?_
  refine vh_aload_n dL_split_2 rfl (by rfl) ?_
  refine vh_iload_n dL_split_3 rfl (by rfl) ?_
  refine vh_call hE dL_split_4 kL_45 hk.1 (by rfl) (by rfl) (sX9_split hE hS hT hI hk ht) rfl (by decide) (by decide) (by exact Nat.le_of_ble_eq_true rfl) (by omega) (by omega) rfl (by decide) (by decide) lw_c19 lw_x19 (fun v9 g9 u9 h9 => ?_) (fun n9 g9 u9 h9 => ?_)
  · obtain ⟨hv9, hu9, hd9⟩ := h9
    cases hR : ((pSpl x q)).1 with
    | none =>
      exfalso
      replace hv9 : (Sum.inl v9 : aO) = dOut nIO ((pSpl x q)).1 := hv9
      rw [hR] at hv9
      exact aO_lr (show (Sum.inl v9 : aO) = Sum.inr nIO from hv9)
    | some a =>
      replace hv9 : (Sum.inl v9 : aO) = dOut nIO ((pSpl x q)).1 := hv9
      rw [hR] at hv9
      have hv8 : v9 = some (.int a) := Sum.inl.inj (show (Sum.inl v9 : aO) = Sum.inl (some (.int a)) from hv9)
      subst hv8
      refine vh_i2l (v := c64 a) dL_split_7 rfl ?_
      refine vh_last hE dL_split_8 ((hd9.2 O hO2 (Or.inr hO1)).trans hO) (i := 0) (by omega) (by omega) ?_
      refine vh_goto (tgt := 15) dL_split_9 (by decide) ?_
      refine vh_iconst (v := bI false) dL_split_15 (by decide) ?_
      refine vh_iret dL_split_16 rfl rfl ?_
      exact lwW_t (dOk_spl hI).1 hR rfl hd9 hu9 hO1
  · obtain ⟨hv9, hu9, hd9⟩ := h9
    cases hR : ((pSpl x q)).1 with
    | some a =>
      exfalso
      replace hv9 : (Sum.inr n9 : aO) = dOut nIO ((pSpl x q)).1 := hv9
      rw [hR] at hv9
      exact aO_rl (show (Sum.inr n9 : aO) = Sum.inl (some (.int a)) from hv9)
    | none =>
      replace hv9 : (Sum.inr n9 : aO) = dOut nIO ((pSpl x q)).1 := hv9
      rw [hR] at hv9
      refine ⟨Sum.inr.inj (show (Sum.inr n9 : aO) = Sum.inr nIO from hv9), fun q9 => ?_⟩
      refine vh_astore_n dL_split_12 rfl (by decide) ?_
      refine vh_iconst (v := bI true) dL_split_13 (by decide) ?_
      refine vh_iret dL_split_14 rfl rfl ?_
      exact lwW_f hR hd9 hu9 hO1 hO2 hO
set_option maxRecDepth 100000 in
set_option maxHeartbeats 4000000 in
theorem sL_join {E : eN} (hE : eOk E) {f : aH} {t D O : Nat} {x : dV} {q : Int32} {g0 : Nat → Int64} (hS : eSt E) (hT : eTh E) (hI : dOk D x) (hlv : dLv x) (hk : dkP f D x) (ht : D + 1322 < t) (hO : f O = .inl (3, 1, .inr (.inl g0))) (hO1 : D + 1322 < O) (hO2 : O < t) : mH E mL_join [(0, 9, 12, 19)] 1 6 [.ref D, .int q, .ref O] f t (lwW D O t f c64 (pJoi D x q)) := by
  refine mH_of (n := 1) (lo := [some (.ref D), some (.int q), some (.ref O), none]) (by decide) (by exact Nat.le_of_ble_eq_true rfl) rfl rfl ?_
  refine vh_aload_n dL_join_0 rfl (by rfl) ?_
  refine vh_iconst (v := nI 0) dL_join_1 (by decide) ?_
  refine vh_aload_n dL_join_2 rfl (by rfl) ?_
  refine vh_iload_n dL_join_3 rfl (by rfl) ?_
  refine vh_call hE dL_join_4 kL_48 hk.1 (by rfl) (by rfl) (sX9_join hE hS hT hI hk ht) rfl (by decide) (by decide) (by exact Nat.le_of_ble_eq_true rfl) (by omega) (by omega) rfl (by decide) (by decide) lw_c19 lw_x19 (fun v9 g9 u9 h9 => ?_) (fun n9 g9 u9 h9 => ?_)
  · obtain ⟨hv9, hu9, hd9⟩ := h9
    cases hR : ((pJoi D x q)).1 with
    | none =>
      exfalso
      replace hv9 : (Sum.inl v9 : aO) = dOut nIO ((pJoi D x q)).1 := hv9
      rw [hR] at hv9
      exact aO_lr (show (Sum.inl v9 : aO) = Sum.inr nIO from hv9)
    | some a =>
      replace hv9 : (Sum.inl v9 : aO) = dOut nIO ((pJoi D x q)).1 := hv9
      rw [hR] at hv9
      have hv8 : v9 = some (.int a) := Sum.inl.inj (show (Sum.inl v9 : aO) = Sum.inl (some (.int a)) from hv9)
      subst hv8
      refine vh_i2l (v := c64 a) dL_join_7 rfl ?_
      refine vh_last hE dL_join_8 ((hd9.2 O hO2 (Or.inr hO1)).trans hO) (i := 0) (by omega) (by omega) ?_
      refine vh_goto (tgt := 15) dL_join_9 (by decide) ?_
      refine vh_iconst (v := bI false) dL_join_15 (by decide) ?_
      refine vh_iret dL_join_16 rfl rfl ?_
      exact lwW_t (dOk_joi hI hlv).1 hR rfl hd9 hu9 hO1
  · obtain ⟨hv9, hu9, hd9⟩ := h9
    cases hR : ((pJoi D x q)).1 with
    | some a =>
      exfalso
      replace hv9 : (Sum.inr n9 : aO) = dOut nIO ((pJoi D x q)).1 := hv9
      rw [hR] at hv9
      exact aO_rl (show (Sum.inr n9 : aO) = Sum.inl (some (.int a)) from hv9)
    | none =>
      replace hv9 : (Sum.inr n9 : aO) = dOut nIO ((pJoi D x q)).1 := hv9
      rw [hR] at hv9
      refine ⟨Sum.inr.inj (show (Sum.inr n9 : aO) = Sum.inr nIO from hv9), fun q9 => ?_⟩
      refine vh_astore_n dL_join_12 rfl (by decide) ?_
      refine vh_iconst (v := bI true) dL_join_13 (by decide) ?_
      refine vh_iret dL_join_14 rfl rfl ?_
      exact lwW_f hR hd9 hu9 hO1 hO2 hO
set_option maxRecDepth 100000 in
set_option maxHeartbeats 4000000 in
theorem sL_sort {E : eN} (hE : eOk E) {f : aH} {t D O : Nat} {x : dV} {q : Int32} {g0 : Nat → Int64} (hS : eSt E) (hT : eTh E) (hI : dOk D x) (hk : dkP f D x) (ht : D + 1322 < t) (hO : f O = .inl (3, 1, .inr (.inl g0))) (hO1 : D + 1322 < O) (hO2 : O < t) : mH E mL_sort [(0, 9, 12, 19)] 1 6 [.ref D, .int q, .ref O] f t (lwW D O t f c64 (pSor x q)) := by
  refine mH_of (n := 1) (lo := [some (.ref D), some (.int q), some (.ref O), none]) (by decide) (by exact Nat.le_of_ble_eq_true rfl) rfl rfl ?_
  refine vh_aload_n dL_sort_0 rfl (by rfl) ?_
  refine vh_iconst (v := nI 0) dL_sort_1 (by decide) ?_
  refine vh_aload_n dL_sort_2 rfl (by rfl) ?_
  refine vh_iload_n dL_sort_3 rfl (by rfl) ?_
  refine vh_call hE dL_sort_4 kL_51 hk.1 (by rfl) (by rfl) (sX9_sort hE hS hT hI hk ht) rfl (by decide) (by decide) (by exact Nat.le_of_ble_eq_true rfl) (by omega) (by omega) rfl (by decide) (by decide) lw_c19 lw_x19 (fun v9 g9 u9 h9 => ?_) (fun n9 g9 u9 h9 => ?_)
  · obtain ⟨hv9, hu9, hd9⟩ := h9
    cases hR : ((pSor x q)).1 with
    | none =>
      exfalso
      replace hv9 : (Sum.inl v9 : aO) = dOut nIO ((pSor x q)).1 := hv9
      rw [hR] at hv9
      exact aO_lr (show (Sum.inl v9 : aO) = Sum.inr nIO from hv9)
    | some a =>
      replace hv9 : (Sum.inl v9 : aO) = dOut nIO ((pSor x q)).1 := hv9
      rw [hR] at hv9
      have hv8 : v9 = some (.int a) := Sum.inl.inj (show (Sum.inl v9 : aO) = Sum.inl (some (.int a)) from hv9)
      subst hv8
      refine vh_i2l (v := c64 a) dL_sort_7 rfl ?_
      refine vh_last hE dL_sort_8 ((hd9.2 O hO2 (Or.inr hO1)).trans hO) (i := 0) (by omega) (by omega) ?_
      refine vh_goto (tgt := 15) dL_sort_9 (by decide) ?_
      refine vh_iconst (v := bI false) dL_sort_15 (by decide) ?_
      refine vh_iret dL_sort_16 rfl rfl ?_
      exact lwW_t (dOk_sor hI).1 hR rfl hd9 hu9 hO1
  · obtain ⟨hv9, hu9, hd9⟩ := h9
    cases hR : ((pSor x q)).1 with
    | some a =>
      exfalso
      replace hv9 : (Sum.inr n9 : aO) = dOut nIO ((pSor x q)).1 := hv9
      rw [hR] at hv9
      exact aO_rl (show (Sum.inr n9 : aO) = Sum.inl (some (.int a)) from hv9)
    | none =>
      replace hv9 : (Sum.inr n9 : aO) = dOut nIO ((pSor x q)).1 := hv9
      rw [hR] at hv9
      refine ⟨Sum.inr.inj (show (Sum.inr n9 : aO) = Sum.inr nIO from hv9), fun q9 => ?_⟩
      refine vh_astore_n dL_sort_12 rfl (by decide) ?_
      refine vh_iconst (v := bI true) dL_sort_13 (by decide) ?_
      refine vh_iret dL_sort_14 rfl rfl ?_
      exact lwW_f hR hd9 hu9 hO1 hO2 hO
set_option maxRecDepth 100000 in
set_option maxHeartbeats 4000000 in
theorem sL_apply {E : eN} (hE : eOk E) {f : aH} {t D O : Nat} {x : dV} {q r m p : Int32} {g0 : Nat → Int64} (hS : eSt E) (hT : eTh E) (hI : dOk D x) (hk : dkP f D x) (ht : D + 1322 < t) (hO : f O = .inl (3, 1, .inr (.inl g0))) (hO1 : D + 1322 < O) (hO2 : O < t) : mH E mL_apply [(0, 14, 17, 19)] 5 30 [.ref D, .int q, .int r, .int m, .int p, .ref O] f t (lwW D O t f c64 (pApp x q r m p)) := by
  refine mH_of (n := 1) (lo := [some (.ref D), some (.int q), some (.int r), some (.int m), some (.int p), some (.ref O), none]) (by decide) (by exact Nat.le_of_ble_eq_true rfl) rfl rfl ?_
  refine vh_aload dL_apply_0 (by rfl) ?_
  refine vh_iconst (v := nI 0) dL_apply_2 (by decide) ?_
  refine vh_aload_n dL_apply_3 rfl (by rfl) ?_
  refine vh_iload_n dL_apply_4 rfl (by rfl) ?_
  refine vh_iload_n dL_apply_5 rfl (by rfl) ?_
  refine vh_iload_n dL_apply_6 rfl (by rfl) ?_
  refine vh_iload dL_apply_7 (by rfl) ?_
  refine vh_call hE dL_apply_9 kL_54 hk.1 (by rfl) (by rfl) (sX9_apply hE hS hT hI hk ht) rfl (by decide) (by decide) (by exact Nat.le_of_ble_eq_true rfl) (by omega) (by omega) rfl (by decide) (by decide) lw_c19 lw_x19 (fun v9 g9 u9 h9 => ?_) (fun n9 g9 u9 h9 => ?_)
  · obtain ⟨hv9, hu9, hd9⟩ := h9
    cases hR : ((pApp x q r m p)).1 with
    | none =>
      exfalso
      replace hv9 : (Sum.inl v9 : aO) = dOut nIO ((pApp x q r m p)).1 := hv9
      rw [hR] at hv9
      exact aO_lr (show (Sum.inl v9 : aO) = Sum.inr nIO from hv9)
    | some a =>
      replace hv9 : (Sum.inl v9 : aO) = dOut nIO ((pApp x q r m p)).1 := hv9
      rw [hR] at hv9
      have hv8 : v9 = some (.int a) := Sum.inl.inj (show (Sum.inl v9 : aO) = Sum.inl (some (.int a)) from hv9)
      subst hv8
      refine vh_i2l (v := c64 a) dL_apply_12 rfl ?_
      refine vh_last hE dL_apply_13 ((hd9.2 O hO2 (Or.inr hO1)).trans hO) (i := 0) (by omega) (by omega) ?_
      refine vh_goto (tgt := 21) dL_apply_14 (by decide) ?_
      refine vh_iconst (v := bI false) dL_apply_21 (by decide) ?_
      refine vh_iret dL_apply_22 rfl rfl ?_
      exact lwW_t (dOk_app hI).1 hR rfl hd9 hu9 hO1
  · obtain ⟨hv9, hu9, hd9⟩ := h9
    cases hR : ((pApp x q r m p)).1 with
    | some a =>
      exfalso
      replace hv9 : (Sum.inr n9 : aO) = dOut nIO ((pApp x q r m p)).1 := hv9
      rw [hR] at hv9
      exact aO_rl (show (Sum.inr n9 : aO) = Sum.inl (some (.int a)) from hv9)
    | none =>
      replace hv9 : (Sum.inr n9 : aO) = dOut nIO ((pApp x q r m p)).1 := hv9
      rw [hR] at hv9
      refine ⟨Sum.inr.inj (show (Sum.inr n9 : aO) = Sum.inr nIO from hv9), fun q9 => ?_⟩
      refine vh_astore dL_apply_17 (by decide) ?_
      refine vh_iconst (v := bI true) dL_apply_19 (by decide) ?_
      refine vh_iret dL_apply_20 rfl rfl ?_
      exact lwW_f hR hd9 hu9 hO1 hO2 hO
set_option maxRecDepth 100000 in
set_option maxHeartbeats 4000000 in
theorem sL_same {E : eN} (hE : eOk E) {f : aH} {t D O : Nat} {x : dV} {q r m p : Int32} {g0 : Nat → Int64} (hS : eSt E) (hT : eTh E) (hI : dOk D x) (hk : dkP f D x) (ht : D + 1322 < t) (hO : f O = .inl (3, 1, .inr (.inl g0))) (hO1 : D + 1322 < O) (hO2 : O < t) : mH E mL_same [(0, 21, 24, 19)] 4 24 [.ref D, .int q, .int r, .int m, .int p, .ref O] f t (lwW D O t f cFl (aSam x q r m p, x)) := by
  refine mH_of (n := 1) (lo := [some (.ref D), some (.int q), some (.int r), some (.int m), some (.int p), some (.ref O), none]) (by decide) (by exact Nat.le_of_ble_eq_true rfl) rfl rfl ?_
  refine vh_aload dL_same_0 (by rfl) ?_
  refine vh_iconst (v := nI 0) dL_same_2 (by decide) ?_
  refine vh_aload_n dL_same_3 rfl (by rfl) ?_
  refine vh_iload_n dL_same_4 rfl (by rfl) ?_
  refine vh_iload_n dL_same_5 rfl (by rfl) ?_
  refine vh_iload_n dL_same_6 rfl (by rfl) ?_
  refine vh_iload dL_same_7 (by rfl) ?_
  refine vh_call hE dL_same_9 kL_57 hk.1 (by rfl) (by rfl) (sX9_same hE hS hT hI hk ht) rfl (by decide) (by decide) (by exact Nat.le_of_ble_eq_true rfl) (by omega) (by omega) rfl (by decide) (by decide) lw_c19 lw_x19 (fun v9 g9 u9 h9 => ?_) (fun n9 g9 u9 h9 => ?_)
  · obtain ⟨hv9, hu9, hd9⟩ := h9
    cases hR : ((aSam x q r m p, x)).1 with
    | none =>
      exfalso
      replace hv9 : (Sum.inl v9 : aO) = dOut nIO ((aSam x q r m p, x)).1 := hv9
      rw [hR] at hv9
      exact aO_lr (show (Sum.inl v9 : aO) = Sum.inr nIO from hv9)
    | some a =>
      replace hv9 : (Sum.inl v9 : aO) = dOut nIO ((aSam x q r m p, x)).1 := hv9
      rw [hR] at hv9
      have hv8 : v9 = some (.int a) := Sum.inl.inj (show (Sum.inl v9 : aO) = Sum.inl (some (.int a)) from hv9)
      subst hv8
      refine vh_if_eq (tgt := 19) dL_same_12 (by decide) (fun c12 => ?_) (fun c12 => ?_)
      · refine vh_lconst (v := 0) dL_same_19 (by decide) ?_
        refine vh_last hE dL_same_20 ((hd9.2 O hO2 (Or.inr hO1)).trans hO) (i := 0) (by omega) (by omega) ?_
        refine vh_goto (tgt := 28) dL_same_21 (by decide) ?_
        refine vh_iconst (v := bI false) dL_same_28 (by decide) ?_
        refine vh_iret dL_same_29 rfl rfl ?_
        exact lwW_t hI.1 hR (show (0 : Int64) = cFl a by unfold cFl; rw [if_pos c12]) hd9 hu9 hO1
      · refine vh_lconst (v := 1) dL_same_15 (by decide) ?_
        refine vh_goto (tgt := 20) dL_same_16 (by decide) ?_
        refine vh_last hE dL_same_20 ((hd9.2 O hO2 (Or.inr hO1)).trans hO) (i := 0) (by omega) (by omega) ?_
        refine vh_goto (tgt := 28) dL_same_21 (by decide) ?_
        refine vh_iconst (v := bI false) dL_same_28 (by decide) ?_
        refine vh_iret dL_same_29 rfl rfl ?_
        exact lwW_t hI.1 hR (show (1 : Int64) = cFl a by unfold cFl; rw [if_neg c12]) hd9 hu9 hO1
  · obtain ⟨hv9, hu9, hd9⟩ := h9
    cases hR : ((aSam x q r m p, x)).1 with
    | some a =>
      exfalso
      replace hv9 : (Sum.inr n9 : aO) = dOut nIO ((aSam x q r m p, x)).1 := hv9
      rw [hR] at hv9
      exact aO_rl (show (Sum.inr n9 : aO) = Sum.inl (some (.int a)) from hv9)
    | none =>
      replace hv9 : (Sum.inr n9 : aO) = dOut nIO ((aSam x q r m p, x)).1 := hv9
      rw [hR] at hv9
      refine ⟨Sum.inr.inj (show (Sum.inr n9 : aO) = Sum.inr nIO from hv9), fun q9 => ?_⟩
      refine vh_astore dL_same_24 (by decide) ?_
      refine vh_iconst (v := bI true) dL_same_26 (by decide) ?_
      refine vh_iret dL_same_27 rfl rfl ?_
      exact lwW_f hR hd9 hu9 hO1 hO2 hO
set_option maxRecDepth 100000 in
set_option maxHeartbeats 4000000 in
theorem sL_write {E : eN} (hE : eOk E) {f : aH} {t D O : Nat} {x : dV} {q : Int32} {g0 : Nat → Int64} (hS : eSt E) (hT : eTh E) (hI : dOk D x) (hk : dkP f D x) (ht : D + 1322 < t) (hO : f O = .inl (3, 1, .inr (.inl g0))) (hO1 : D + 1322 < O) (hO2 : O < t) : mH E mL_write [(0, 9, 12, 19)] 1 6 [.ref D, .int q, .ref O] f t (lwW D O t f c64 (pWri x q)) := by
  refine mH_of (n := 1) (lo := [some (.ref D), some (.int q), some (.ref O), none]) (by decide) (by exact Nat.le_of_ble_eq_true rfl) rfl rfl ?_
  refine vh_aload_n dL_write_0 rfl (by rfl) ?_
  refine vh_iconst (v := nI 0) dL_write_1 (by decide) ?_
  refine vh_aload_n dL_write_2 rfl (by rfl) ?_
  refine vh_iload_n dL_write_3 rfl (by rfl) ?_
  refine vh_call hE dL_write_4 kL_61 hk.1 (by rfl) (by rfl) (sX9_write hE hS hT hI hk ht) rfl (by decide) (by decide) (by exact Nat.le_of_ble_eq_true rfl) (by omega) (by omega) rfl (by decide) (by decide) lw_c19 lw_x19 (fun v9 g9 u9 h9 => ?_) (fun n9 g9 u9 h9 => ?_)
  · obtain ⟨hv9, hu9, hd9⟩ := h9
    cases hR : ((pWri x q)).1 with
    | none =>
      exfalso
      replace hv9 : (Sum.inl v9 : aO) = dOut nIO ((pWri x q)).1 := hv9
      rw [hR] at hv9
      exact aO_lr (show (Sum.inl v9 : aO) = Sum.inr nIO from hv9)
    | some a =>
      replace hv9 : (Sum.inl v9 : aO) = dOut nIO ((pWri x q)).1 := hv9
      rw [hR] at hv9
      have hv8 : v9 = some (.int a) := Sum.inl.inj (show (Sum.inl v9 : aO) = Sum.inl (some (.int a)) from hv9)
      subst hv8
      refine vh_i2l (v := c64 a) dL_write_7 rfl ?_
      refine vh_last hE dL_write_8 ((hd9.2 O hO2 (Or.inr hO1)).trans hO) (i := 0) (by omega) (by omega) ?_
      refine vh_goto (tgt := 15) dL_write_9 (by decide) ?_
      refine vh_iconst (v := bI false) dL_write_15 (by decide) ?_
      refine vh_iret dL_write_16 rfl rfl ?_
      exact lwW_t (dOk_wri hI).1 hR rfl hd9 hu9 hO1
  · obtain ⟨hv9, hu9, hd9⟩ := h9
    cases hR : ((pWri x q)).1 with
    | some a =>
      exfalso
      replace hv9 : (Sum.inr n9 : aO) = dOut nIO ((pWri x q)).1 := hv9
      rw [hR] at hv9
      exact aO_rl (show (Sum.inr n9 : aO) = Sum.inl (some (.int a)) from hv9)
    | none =>
      replace hv9 : (Sum.inr n9 : aO) = dOut nIO ((pWri x q)).1 := hv9
      rw [hR] at hv9
      refine ⟨Sum.inr.inj (show (Sum.inr n9 : aO) = Sum.inr nIO from hv9), fun q9 => ?_⟩
      refine vh_astore_n dL_write_12 rfl (by decide) ?_
      refine vh_iconst (v := bI true) dL_write_13 (by decide) ?_
      refine vh_iret dL_write_14 rfl rfl ?_
      exact lwW_f hR hd9 hu9 hO1 hO2 hO
