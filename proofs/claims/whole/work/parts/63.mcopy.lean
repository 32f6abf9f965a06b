theorem updN {g : Nat → Int32} {i j : Nat} {x : Int32} (h : j ≠ i) : upd g i x j = g j := if_neg h
theorem updS {g : Nat → Int32} {i : Nat} {x : Int32} : upd g i x i = x := if_pos rfl
/-- bytes are bytes, truths truths, and calls no more than 3 -/
def aNw (A : Nat → Nat → Int32) : Prop := (∀ k i, mKn k = 2 → vp_nar .byte (A k i) = A k i) ∧ (∀ k i, mKn k = 1 → vp_nar .boolean (A k i) = A k i) ∧ ∀ k i, k = 29 ∨ k = 35 → A k i ≤ nI 3
/-- n cells from sp on, copied to dp -/
def mCp (g : Nat → Int32) (sp dp n : Nat) : Nat → Int32 := fun i => if dp ≤ i ∧ i < dp + n then g (sp + (i - dp)) else g i
theorem mCp_0 {g : Nat → Int32} {sp dp : Nat} : mCp g sp dp 0 = g := funext fun i => if_neg (by omega)
theorem mCp_o {g : Nat → Int32} {sp dp n i : Nat} (h : i < dp ∨ dp + n ≤ i) : mCp g sp dp n i = g i := if_neg (by omega)
theorem mCp_i {g : Nat → Int32} {sp dp n k : Nat} (h : k < n) : mCp g sp dp n (dp + k) = g (sp + k) := by
  unfold mCp
  rw [if_pos ⟨by omega, by omega⟩, show dp + k - dp = k by omega]
theorem mCp_s {g : Nat → Int32} {sp dp n : Nat} : upd (mCp g sp dp n) (dp + n) (g (sp + n)) = mCp g sp dp (n + 1) := by
  funext i
  by_cases e : i = dp + n
  · subst e
    rw [updS, mCp_i (by omega)]
  · rw [updN e]
    unfold mCp
    by_cases h : dp ≤ i ∧ i < dp + n
    · rw [if_pos h, if_pos ⟨h.1, by omega⟩]
    · rw [if_neg h, if_neg (by omega)]
theorem md_c {f : aH} {M : Nat} {a b : Nat → Nat → Int32} {s : Nat → Int32} (h : a = b) : mdS f M (a, s) = mdS f M (b, s) := by rw [h]
theorem nar_0 : vp_nar .boolean (nI 0) = nI 0 := by decide
theorem nar_1 : vp_nar .boolean (nI 1) = nI 1 := by decide

/-- the model's reference is the genome g -/
def mGn (y : mV) (g : gV) : Prop := y.2 4 = nI (gCt g) ∧ (∀ s, s < gCt g → y.1 3 s = nI (g.1.2.2 s) ∧ (∀ k, k < g.1.2.2 s → y.1 2 (20 * s + k) = g.1.2.1 (s * 20 + k)) ∧ y.1 5 s = nI (gSt g s) ∧ y.1 6 s = nI (gSz g s) ∧ y.1 7 s = gTp g s ∧ y.1 8 s = nI (gWi g s)) ∧ ∀ k, k < gTo g → y.1 4 k = gLe g k
set_option maxRecDepth 100000 in
set_option maxHeartbeats 600000 in
/-- model: refAt -/
theorem sX10_refAt {E : eN} (hE : eOk E) {f : aH} {t : Nat} {M : Nat} {y : mV} {g : gV} {s p : Nat} (hg : mGn y g) (hgo : gOk g) (hs : s < gCt g) (hp1 : 1 ≤ p) (hp2 : p ≤ gSz g s) : mT E mX10_refAt 0 0 [.ref M, .int (nI s), .int (nI p)] (mdS f M y) t (fun o f' t' => o = .inl (some (.int (gnLet g s p))) ∧ t' = t ∧ f' = mdS f M y) := by
  refine mT_of (n := 0) (lo := [some (.ref M), some (.int (nI s)), some (.int (nI p))]) (by decide) (by exact Nat.le_of_ble_eq_true rfl) rfl rfl ?_
  have k1 := hgo.2.2.1
  have k2 := hgo.2.2.2 s hs
  have k3 := hgo.1.1
  have k4 := hgo.2.1
  obtain ⟨-, h2, h3⟩ := id hg
  obtain ⟨-, -, h4, -⟩ := h2 s hs
  refine v_aload_n dX10_refAt_0 rfl (by rfl) ?_
  refine v_getf hE dX10_refAt_1 fX10_24 mdS_M (by rfl) ?_
  refine v_aload_n dX10_refAt_4 rfl (by rfl) ?_
  refine v_getf hE dX10_refAt_5 fX10_27 mdS_M (by rfl) ?_
  refine v_iload_n dX10_refAt_8 rfl (by rfl) ?_
  refine m_iald hE (k := 5) dX10_refAt_9 (by decide) (by decide) rfl (show _ < 9 by omega) (by omega) ?_
  refine v_eqi (y := nI (gSt g s)) h4 ?_
  refine v_iload_n dX10_refAt_10 rfl (by rfl) ?_
  refine v_iaddN dX10_refAt_11 ?_
  refine v_iconst (v := nI 1) dX10_refAt_12 (by decide) ?_
  refine v_isubN dX10_refAt_13 (by omega) ?_
  refine m_bald hE (k := 4) dX10_refAt_14 (by decide) (by decide) rfl (show _ < 3001 by omega) (by omega) ?_
  refine v_iret dX10_refAt_15 rfl (by first | rfl | exact nar_bI) ?_
  refine ⟨congrArg (fun x => (Sum.inl (some (Value.int x)) : aO)) ?_, rfl, rfl⟩
  unfold gnLet
  rw [if_pos ⟨hs, hp1, hp2⟩]
  exact h3 _ (by omega)

def mNC (y : mV) (a s : Nat) : mV := (va_up (va_up (va_up y.1 30 (upd (y.1 30) (3 * a + s) (nI 1))) 31 (upd (y.1 31) (3 * a + s) (nI 0))) 29 (upd (upd (y.1 29) (6 * a + 2 * s) (-1)) (6 * a + 2 * s + 1) (-1)), y.2)
def mCC (y : mV) (a s b r : Nat) : mV := (va_up (va_up (va_up y.1 30 (upd (y.1 30) (3 * a + s) (y.1 30 (3 * b + r)))) 31 (upd (y.1 31) (3 * a + s) (y.1 31 (3 * b + r)))) 29 (upd (upd (y.1 29) (6 * a + 2 * s + 0) (y.1 29 (6 * b + 2 * r + 0))) (6 * a + 2 * s + (0 + 1)) (y.1 29 (6 * b + 2 * r + (0 + 1)))), y.2)
set_option maxRecDepth 100000 in
set_option maxHeartbeats 600000 in
/-- model: noCalls -/
theorem sX10_noCalls {E : eN} (hE : eOk E) {f : aH} {t : Nat} {M : Nat} {y : mV} {a s : Nat} (ha : a < 240) (hs : s < 3) : mT E mX10_noCalls 0 0 [.ref M, .int (nI a), .int (nI s)] (mdS f M y) t (fun o f' t' => o = .inl none ∧ t' = t ∧ f' = mdS f M (mNC y a s)) := by
  refine mT_of (n := 0) (lo := [some (.ref M), some (.int (nI a)), some (.int (nI s))]) (by decide) (by exact Nat.le_of_ble_eq_true rfl) rfl rfl ?_
  refine v_aload_n dX10_noCalls_0 rfl (by rfl) ?_
  refine v_getf hE dX10_noCalls_1 fX10_103 mdS_M (by rfl) ?_
  refine v_iconst (v := nI 3) dX10_noCalls_4 (by decide) ?_
  refine v_iload_n dX10_noCalls_5 rfl (by rfl) ?_
  refine v_imulN dX10_noCalls_6 ?_
  refine v_iload_n dX10_noCalls_7 rfl (by rfl) ?_
  refine v_iaddN dX10_noCalls_8 ?_
  refine v_iconst (v := nI 1) dX10_noCalls_9 (by decide) ?_
  refine m_iast hE (k := 30) dX10_noCalls_10 (by decide) (by decide) rfl (show _ < 720 by omega) (by omega) ?_
  refine v_aload_n dX10_noCalls_11 rfl (by rfl) ?_
  refine v_getf hE dX10_noCalls_12 fX10_106 mdS_M (by rfl) ?_
  refine v_iconst (v := nI 3) dX10_noCalls_15 (by decide) ?_
  refine v_iload_n dX10_noCalls_16 rfl (by rfl) ?_
  refine v_imulN dX10_noCalls_17 ?_
  refine v_iload_n dX10_noCalls_18 rfl (by rfl) ?_
  refine v_iaddN dX10_noCalls_19 ?_
  refine v_iconst (v := nI 0) dX10_noCalls_20 (by decide) ?_
  refine m_zast hE (k := 31) dX10_noCalls_21 (by decide) (by decide) rfl (show _ < 720 by omega) (by omega) ?_
  rw [nar_0]
  refine v_aload_n dX10_noCalls_22 rfl (by rfl) ?_
  refine v_getf hE dX10_noCalls_23 fX10_100 mdS_M (by rfl) ?_
  refine v_bipush (v := nI 6) dX10_noCalls_26 (by decide) ?_
  refine v_iload_n dX10_noCalls_28 rfl (by rfl) ?_
  refine v_imulN dX10_noCalls_29 ?_
  refine v_iconst (v := nI 2) dX10_noCalls_30 (by decide) ?_
  refine v_iload_n dX10_noCalls_31 rfl (by rfl) ?_
  refine v_imulN dX10_noCalls_32 ?_
  refine v_iaddN dX10_noCalls_33 ?_
  refine v_iconst (v := (-1)) dX10_noCalls_34 (by decide) ?_
  refine m_iast hE (k := 29) dX10_noCalls_35 (by decide) (by decide) rfl (show _ < 1440 by omega) (by omega) ?_
  refine v_aload_n dX10_noCalls_36 rfl (by rfl) ?_
  refine v_getf hE dX10_noCalls_37 fX10_100 mdS_M (by rfl) ?_
  refine v_bipush (v := nI 6) dX10_noCalls_40 (by decide) ?_
  refine v_iload_n dX10_noCalls_42 rfl (by rfl) ?_
  refine v_imulN dX10_noCalls_43 ?_
  refine v_iconst (v := nI 2) dX10_noCalls_44 (by decide) ?_
  refine v_iload_n dX10_noCalls_45 rfl (by rfl) ?_
  refine v_imulN dX10_noCalls_46 ?_
  refine v_iaddN dX10_noCalls_47 ?_
  refine v_iconst (v := nI 1) dX10_noCalls_48 (by decide) ?_
  refine v_iaddN dX10_noCalls_49 ?_
  refine v_iconst (v := (-1)) dX10_noCalls_50 (by decide) ?_
  refine m_iast hE (k := 29) dX10_noCalls_51 (by decide) (by decide) rfl (show _ < 1440 by omega) (by omega) ?_
  refine v_ret dX10_noCalls_52 rfl ?_
  exact ⟨rfl, rfl, md_c va_up_up⟩

set_option maxRecDepth 100000 in
set_option maxHeartbeats 600000 in
/-- model: copyCalls -/
theorem sX10_copyCalls {E : eN} (hE : eOk E) {f : aH} {t : Nat} {M : Nat} {y : mV} {a s b r : Nat} (hO : aNw y.1) (ha : a < 240) (hs : s < 3) (hb : b < 240) (hr : r < 3) : mT E mX10_copyCalls 0 0 [.ref M, .int (nI a), .int (nI s), .int (nI b), .int (nI r)] (mdS f M y) t (fun o f' t' => o = .inl none ∧ t' = t ∧ f' = mdS f M (mCC y a s b r)) := by
  refine mT_of (n := 1) (lo := [some (.ref M), some (.int (nI a)), some (.int (nI s)), some (.int (nI b)), some (.int (nI r)), none]) (by decide) (by exact Nat.le_of_ble_eq_true rfl) rfl rfl ?_
  refine v_aload_n dX10_copyCalls_0 rfl (by rfl) ?_
  refine v_getf hE dX10_copyCalls_1 fX10_103 mdS_M (by rfl) ?_
  refine v_iconst (v := nI 3) dX10_copyCalls_4 (by decide) ?_
  refine v_iload_n dX10_copyCalls_5 rfl (by rfl) ?_
  refine v_imulN dX10_copyCalls_6 ?_
  refine v_iload_n dX10_copyCalls_7 rfl (by rfl) ?_
  refine v_iaddN dX10_copyCalls_8 ?_
  refine v_aload_n dX10_copyCalls_9 rfl (by rfl) ?_
  refine v_getf hE dX10_copyCalls_10 fX10_103 mdS_M (by rfl) ?_
  refine v_iconst (v := nI 3) dX10_copyCalls_13 (by decide) ?_
  refine v_iload_n dX10_copyCalls_14 rfl (by rfl) ?_
  refine v_imulN dX10_copyCalls_15 ?_
  refine v_iload dX10_copyCalls_16 (by rfl) ?_
  refine v_iaddN dX10_copyCalls_18 ?_
  refine m_iald hE (k := 30) dX10_copyCalls_19 (by decide) (by decide) rfl (show _ < 720 by omega) (by omega) ?_
  refine v_eqi (y := y.1 30 (3 * b + r)) rfl ?_
  refine m_iast hE (k := 30) dX10_copyCalls_20 (by decide) (by decide) rfl (show _ < 720 by omega) (by omega) ?_
  refine v_aload_n dX10_copyCalls_21 rfl (by rfl) ?_
  refine v_getf hE dX10_copyCalls_22 fX10_106 mdS_M (by rfl) ?_
  refine v_iconst (v := nI 3) dX10_copyCalls_25 (by decide) ?_
  refine v_iload_n dX10_copyCalls_26 rfl (by rfl) ?_
  refine v_imulN dX10_copyCalls_27 ?_
  refine v_iload_n dX10_copyCalls_28 rfl (by rfl) ?_
  refine v_iaddN dX10_copyCalls_29 ?_
  refine v_aload_n dX10_copyCalls_30 rfl (by rfl) ?_
  refine v_getf hE dX10_copyCalls_31 fX10_106 mdS_M (by rfl) ?_
  refine v_iconst (v := nI 3) dX10_copyCalls_34 (by decide) ?_
  refine v_iload_n dX10_copyCalls_35 rfl (by rfl) ?_
  refine v_imulN dX10_copyCalls_36 ?_
  refine v_iload dX10_copyCalls_37 (by rfl) ?_
  refine v_iaddN dX10_copyCalls_39 ?_
  refine m_zald hE (k := 31) dX10_copyCalls_40 (by decide) (by decide) rfl (show _ < 720 by omega) (by omega) ?_
  refine v_eqi (y := y.1 31 (3 * b + r)) rfl ?_
  refine m_zast hE (k := 31) dX10_copyCalls_41 (by decide) (by decide) rfl (show _ < 720 by omega) (by omega) ?_
  rw [hO.2.1 31 _ rfl]
  refine v_iconst (v := nI 0) dX10_copyCalls_42 (by decide) ?_
  refine v_istore dX10_copyCalls_43 (by decide) ?_
  refine v_iload dX10_copyCalls_45 (by rfl) ?_
  refine v_iconst (v := nI 2) dX10_copyCalls_47 (by decide) ?_
  refine v_icmp_geN (tgt := 90) dX10_copyCalls_48 (by decide) (by omega) (by omega) (fun c48 => ?_) (fun c48 => ?_)
  · exact absurd c48 (by omega)
  · refine v_aload_n dX10_copyCalls_51 rfl (by rfl) ?_
    refine v_getf hE dX10_copyCalls_52 fX10_100 mdS_M (by rfl) ?_
    refine v_bipush (v := nI 6) dX10_copyCalls_55 (by decide) ?_
    refine v_iload_n dX10_copyCalls_57 rfl (by rfl) ?_
    refine v_imulN dX10_copyCalls_58 ?_
    refine v_iconst (v := nI 2) dX10_copyCalls_59 (by decide) ?_
    refine v_iload_n dX10_copyCalls_60 rfl (by rfl) ?_
    refine v_imulN dX10_copyCalls_61 ?_
    refine v_iaddN dX10_copyCalls_62 ?_
    refine v_iload dX10_copyCalls_63 (by rfl) ?_
    refine v_iaddN dX10_copyCalls_65 ?_
    refine v_aload_n dX10_copyCalls_66 rfl (by rfl) ?_
    refine v_getf hE dX10_copyCalls_67 fX10_100 mdS_M (by rfl) ?_
    refine v_bipush (v := nI 6) dX10_copyCalls_70 (by decide) ?_
    refine v_iload_n dX10_copyCalls_72 rfl (by rfl) ?_
    refine v_imulN dX10_copyCalls_73 ?_
    refine v_iconst (v := nI 2) dX10_copyCalls_74 (by decide) ?_
    refine v_iload dX10_copyCalls_75 (by rfl) ?_
    refine v_imulN dX10_copyCalls_77 ?_
    refine v_iaddN dX10_copyCalls_78 ?_
    refine v_iload dX10_copyCalls_79 (by rfl) ?_
    refine v_iaddN dX10_copyCalls_81 ?_
    refine m_iald hE (k := 29) dX10_copyCalls_82 (by decide) (by decide) rfl (show _ < 1440 by omega) (by omega) ?_
    refine v_eqi (y := y.1 29 (6 * b + 2 * r + 0)) rfl ?_
    refine m_iast hE (k := 29) dX10_copyCalls_83 (by decide) (by decide) rfl (show _ < 1440 by omega) (by omega) ?_
    refine v_iincN (y := 1) dX10_copyCalls_84 (by rfl) (by decide) (by decide) ?_
    refine v_goto (tgt := 45) dX10_copyCalls_87 (by decide) ?_
    refine v_iload dX10_copyCalls_45 (by rfl) ?_
    refine v_iconst (v := nI 2) dX10_copyCalls_47 (by decide) ?_
    refine v_icmp_geN (tgt := 90) dX10_copyCalls_48 (by decide) (by omega) (by omega) (fun c48 => ?_) (fun c48 => ?_)
    · exact absurd c48 (by omega)
    · refine v_aload_n dX10_copyCalls_51 rfl (by rfl) ?_
      refine v_getf hE dX10_copyCalls_52 fX10_100 mdS_M (by rfl) ?_
      refine v_bipush (v := nI 6) dX10_copyCalls_55 (by decide) ?_
      refine v_iload_n dX10_copyCalls_57 rfl (by rfl) ?_
      refine v_imulN dX10_copyCalls_58 ?_
      refine v_iconst (v := nI 2) dX10_copyCalls_59 (by decide) ?_
      refine v_iload_n dX10_copyCalls_60 rfl (by rfl) ?_
      refine v_imulN dX10_copyCalls_61 ?_
      refine v_iaddN dX10_copyCalls_62 ?_
      refine v_iload dX10_copyCalls_63 (by rfl) ?_
      refine v_iaddN dX10_copyCalls_65 ?_
      refine v_aload_n dX10_copyCalls_66 rfl (by rfl) ?_
      refine v_getf hE dX10_copyCalls_67 fX10_100 mdS_M (by rfl) ?_
      refine v_bipush (v := nI 6) dX10_copyCalls_70 (by decide) ?_
      refine v_iload_n dX10_copyCalls_72 rfl (by rfl) ?_
      refine v_imulN dX10_copyCalls_73 ?_
      refine v_iconst (v := nI 2) dX10_copyCalls_74 (by decide) ?_
      refine v_iload dX10_copyCalls_75 (by rfl) ?_
      refine v_imulN dX10_copyCalls_77 ?_
      refine v_iaddN dX10_copyCalls_78 ?_
      refine v_iload dX10_copyCalls_79 (by rfl) ?_
      refine v_iaddN dX10_copyCalls_81 ?_
      refine m_iald hE (k := 29) dX10_copyCalls_82 (by decide) (by decide) rfl (show _ < 1440 by omega) (by omega) ?_
      refine v_eqi (y := y.1 29 (6 * b + 2 * r + (0 + 1))) (updN (by omega)) ?_
      refine m_iast hE (k := 29) dX10_copyCalls_83 (by decide) (by decide) rfl (show _ < 1440 by omega) (by omega) ?_
      refine v_iincN (y := 1) dX10_copyCalls_84 (by rfl) (by decide) (by decide) ?_
      refine v_goto (tgt := 45) dX10_copyCalls_87 (by decide) ?_
      refine v_iload dX10_copyCalls_45 (by rfl) ?_
      refine v_iconst (v := nI 2) dX10_copyCalls_47 (by decide) ?_
      refine v_icmp_geN (tgt := 90) dX10_copyCalls_48 (by decide) (by omega) (by omega) (fun c48 => ?_) (fun c48 => ?_)
      · refine v_ret dX10_copyCalls_90 rfl ?_
        exact ⟨rfl, rfl, md_c va_up_up⟩
      · exact absurd c48 (by omega)

def mCS (y : mV) (a s b r : Nat) : mV := (va_up (va_up y.1 19 (upd (y.1 19) (3 * a + s) (y.1 19 (3 * b + r)))) 18 (mCp (y.1 18) (20 * (3 * b + r)) (20 * (3 * a + s)) 20), y.2)
set_option maxRecDepth 100000 in
set_option maxHeartbeats 600000 in
/-- model: copySample -/
theorem sX10_copySample {E : eN} (hE : eOk E) {f : aH} {t : Nat} {M : Nat} {y : mV} {a s b r : Nat} (hO : aNw y.1) (ha : a < 4) (hs : s < 3) (hb : b < 4) (hr : r < 3) (hab : 3 * a + s ≠ 3 * b + r) : mT E mX10_copySample 0 0 [.ref M, .int (nI a), .int (nI s), .int (nI b), .int (nI r)] (mdS f M y) t (fun o f' t' => o = .inl none ∧ t' = t ∧ f' = mdS f M (mCS y a s b r)) := by
  refine mT_of (n := 1) (lo := [some (.ref M), some (.int (nI a)), some (.int (nI s)), some (.int (nI b)), some (.int (nI r)), none]) (by decide) (by exact Nat.le_of_ble_eq_true rfl) rfl rfl ?_
  have lp : ∀ (d : Nat) (k : Nat), k + d = 20 → V E mX10_copySample 0 0 (fun o f' t' => o = .inl none ∧ t' = t ∧ f' = mdS f M (mCS y a s b r)) 24 [some (.ref M), some (.int (nI a)), some (.int (nI s)), some (.int (nI b)), some (.int (nI r)), some (.int (nI k))] [] (mdS f M (va_up (va_up y.1 19 (upd (y.1 19) (3 * a + s) (y.1 19 (3 * b + r)))) 18 (mCp (y.1 18) (20 * (3 * b + r)) (20 * (3 * a + s)) k), y.2)) t 0 0 := by
    intro d
    induction d using Nat.strongRecOn with
    | _ d ih =>
    intro k hk
    refine v_iload dX10_copySample_24 (by rfl) ?_
    refine v_bipush (v := nI 20) dX10_copySample_26 (by decide) ?_
    refine v_icmp_geN (tgt := 70) dX10_copySample_28 (by decide) (by omega) (by omega) (fun c28 => ?_) (fun c28 => ?_)
    · refine v_ret dX10_copySample_70 rfl ?_
      refine ⟨rfl, rfl, md_c ?_⟩
      rw [show k = 20 by omega]
    · refine v_aload_n dX10_copySample_31 rfl (by rfl) ?_
      refine v_getf hE dX10_copySample_32 fX10_66 mdS_M (by rfl) ?_
      refine v_bipush (v := nI 20) dX10_copySample_35 (by decide) ?_
      refine v_iconst (v := nI 3) dX10_copySample_37 (by decide) ?_
      refine v_iload_n dX10_copySample_38 rfl (by rfl) ?_
      refine v_imulN dX10_copySample_39 ?_
      refine v_iload_n dX10_copySample_40 rfl (by rfl) ?_
      refine v_iaddN dX10_copySample_41 ?_
      refine v_imulN dX10_copySample_42 ?_
      refine v_iload dX10_copySample_43 (by rfl) ?_
      refine v_iaddN dX10_copySample_45 ?_
      refine v_aload_n dX10_copySample_46 rfl (by rfl) ?_
      refine v_getf hE dX10_copySample_47 fX10_66 mdS_M (by rfl) ?_
      refine v_bipush (v := nI 20) dX10_copySample_50 (by decide) ?_
      refine v_iconst (v := nI 3) dX10_copySample_52 (by decide) ?_
      refine v_iload_n dX10_copySample_53 rfl (by rfl) ?_
      refine v_imulN dX10_copySample_54 ?_
      refine v_iload dX10_copySample_55 (by rfl) ?_
      refine v_iaddN dX10_copySample_57 ?_
      refine v_imulN dX10_copySample_58 ?_
      refine v_iload dX10_copySample_59 (by rfl) ?_
      refine v_iaddN dX10_copySample_61 ?_
      refine m_bald hE (k := 18) dX10_copySample_62 (by decide) (by decide) rfl (show _ < 240 by omega) (by omega) ?_
      refine v_eqi (y := y.1 18 (20 * (3 * b + r) + k)) (mCp_o (by omega)) ?_
      refine m_bast hE (k := 18) dX10_copySample_63 (by decide) (by decide) rfl (show _ < 240 by omega) (by omega) ?_
      rw [hO.1 18 _ rfl]
      refine v_iincN (y := 1) dX10_copySample_64 (by rfl) (by decide) (by decide) ?_
      refine v_goto (tgt := 24) dX10_copySample_67 (by decide) ?_
      refine v_hp (show _ = mdS f M (va_up (va_up y.1 19 (upd (y.1 19) (3 * a + s) (y.1 19 (3 * b + r)))) 18 (mCp (y.1 18) (20 * (3 * b + r)) (20 * (3 * a + s)) (k + 1)), y.2) from md_c (va_up_up.trans (congrArg (va_up (va_up y.1 19 (upd (y.1 19) (3 * a + s) (y.1 19 (3 * b + r)))) 18) mCp_s))) ?_
      exact ih (d - 1) (by omega) (k + 1) (by omega)
  refine v_aload_n dX10_copySample_0 rfl (by rfl) ?_
  refine v_getf hE dX10_copySample_1 fX10_69 mdS_M (by rfl) ?_
  refine v_iconst (v := nI 3) dX10_copySample_4 (by decide) ?_
  refine v_iload_n dX10_copySample_5 rfl (by rfl) ?_
  refine v_imulN dX10_copySample_6 ?_
  refine v_iload_n dX10_copySample_7 rfl (by rfl) ?_
  refine v_iaddN dX10_copySample_8 ?_
  refine v_aload_n dX10_copySample_9 rfl (by rfl) ?_
  refine v_getf hE dX10_copySample_10 fX10_69 mdS_M (by rfl) ?_
  refine v_iconst (v := nI 3) dX10_copySample_13 (by decide) ?_
  refine v_iload_n dX10_copySample_14 rfl (by rfl) ?_
  refine v_imulN dX10_copySample_15 ?_
  refine v_iload dX10_copySample_16 (by rfl) ?_
  refine v_iaddN dX10_copySample_18 ?_
  refine m_iald hE (k := 19) dX10_copySample_19 (by decide) (by decide) rfl (show _ < 12 by omega) (by omega) ?_
  refine v_eqi (y := y.1 19 (3 * b + r)) rfl ?_
  refine m_iast hE (k := 19) dX10_copySample_20 (by decide) (by decide) rfl (show _ < 12 by omega) (by omega) ?_
  refine v_iconst (v := nI 0) dX10_copySample_21 (by decide) ?_
  refine v_istore dX10_copySample_22 (by decide) ?_
  refine v_hp (show _ = mdS f M (va_up (va_up y.1 19 (upd (y.1 19) (3 * a + s) (y.1 19 (3 * b + r)))) 18 (mCp (y.1 18) (20 * (3 * b + r)) (20 * (3 * a + s)) 0), y.2) from md_c (by rw [mCp_0]; exact (va_up_id rfl).symm)) ?_
  exact lp 20 0 (by omega)

def mCopy (y : mV) (a b : Nat) : mV := ((va_up (va_up (va_up (va_up (va_up (va_up (va_up (va_up (va_up (va_up (va_up (va_up y.1 20 (upd (y.1 20) a (y.1 20 b))) 21 (upd (y.1 21) a (y.1 21 b))) 23 (upd (y.1 23) a (y.1 23 b))) 22 (mCp (y.1 22) (20 * b) (20 * a) 20)) 24 (upd (y.1 24) a (y.1 24 b))) 26 (mCp (y.1 26) (4 * b) (4 * a) 4)) 25 (mCp (y.1 25) (104 * b) (104 * a) 104)) 27 (upd (y.1 27) a (y.1 27 b))) 28 (upd (y.1 28) a (y.1 28 b))) 30 (mCp (y.1 30) (3 * b) (3 * a) 3)) 31 (mCp (y.1 31) (3 * b) (3 * a) 3)) 29 (mCp (y.1 29) (6 * b) (6 * a) (2 * 3))), y.2)
theorem aNw_1 {A : Nat → Nat → Int32} {k : Nat} {g : Nat → Int32} (h : aNw A) (h2 : mKn k = 2 → ∀ i, vp_nar .byte (g i) = g i) (h1 : mKn k = 1 → ∀ i, vp_nar .boolean (g i) = g i) (h3 : k = 29 ∨ k = 35 → ∀ i, g i ≤ nI 3 := by exact fun q9 => absurd q9 (by decide)) : aNw (va_up A k g) := by
  refine ⟨?_, ?_, ?_⟩
  · intro j i hj
    by_cases e : j = k
    · subst e; rw [va_up_self]; exact h2 hj i
    · rw [va_up_ne _ _ e]; exact h.1 j i hj
  · intro j i hj
    by_cases e : j = k
    · subst e; rw [va_up_self]; exact h1 hj i
    · rw [va_up_ne _ _ e]; exact h.2.1 j i hj
  · intro j i hj
    by_cases e : j = k
    · subst e; rw [va_up_self]; exact h3 hj i
    · rw [va_up_ne _ _ e]; exact h.2.2 j i hj
theorem aNw_i {A : Nat → Nat → Int32} {k : Nat} {g : Nat → Int32} (h : aNw A) (h0 : mKn k = 0) (h3 : ¬ (k = 29 ∨ k = 35) := by decide) : aNw (va_up A k g) := aNw_1 h (fun z => by rw [h0] at z; cases z) (fun z => by rw [h0] at z; cases z) (fun z => absurd z h3)
theorem mCp_nar {g : Nat → Int32} {sp dp n : Nat} {ty : FieldType} (h : ∀ i, vp_nar ty (g i) = g i) : ∀ i, vp_nar ty (mCp g sp dp n i) = mCp g sp dp n i := by
  intro i
  unfold mCp
  split <;> exact h _
theorem upd_nar {g : Nat → Int32} {i : Nat} {x : Int32} {ty : FieldType} (h : ∀ i, vp_nar ty (g i) = g i) (hx : vp_nar ty x = x) : ∀ j, vp_nar ty (upd g i x j) = upd g i x j := by
  intro j
  unfold upd
  split
  · exact hx
  · exact h j
theorem aNw_cp {A B : Nat → Nat → Int32} {k sp dp n : Nat} (h : aNw A) (hz : aNw B) : aNw (va_up B k (mCp (A k) sp dp n)) := aNw_1 hz (fun hk => mCp_nar (fun i => h.1 k i hk)) (fun hk => mCp_nar (fun i => h.2.1 k i hk)) (fun hk i => by unfold mCp; split <;> exact h.2.2 k _ hk)
theorem aNw_up {A B : Nat → Nat → Int32} {k i m : Nat} (h : aNw A) (hz : aNw B) : aNw (va_up B k (upd (A k) i (A k m))) := aNw_1 hz (fun hk => upd_nar (fun i => h.1 k i hk) (h.1 k m hk)) (fun hk => upd_nar (fun i => h.2.1 k i hk) (h.2.1 k m hk)) (fun hk i => by unfold upd; split <;> exact h.2.2 k _ hk)
set_option maxRecDepth 100000 in
set_option maxHeartbeats 600000 in
/-- model: copy -/
theorem sX10_copy {E : eN} (hE : eOk E) {f : aH} {t : Nat} {M : Nat} {y : mV} {a b : Nat} (hO : aNw y.1) (ha : a < 240) (hb : b < 240) (hab : a ≠ b) : mT E mX10_copy 0 0 [.ref M, .int (nI a), .int (nI b)] (mdS f M y) t (fun o f' t' => o = .inl none ∧ t' = t ∧ f' = mdS f M (mCopy y a b)) := by
  refine mT_of (n := 2) (lo := [some (.ref M), some (.int (nI a)), some (.int (nI b)), none, none]) (by decide) (by exact Nat.le_of_ble_eq_true rfl) rfl rfl ?_
  have l3 : ∀ (d : Nat) (s : Nat) (z4 : Option Value), s + d = 3 → V E mX10_copy 0 0 (fun o f' t' => o = .inl none ∧ t' = t ∧ f' = mdS f M (mCopy y a b)) 191 [some (.ref M), some (.int (nI a)), some (.int (nI b)), some (.int (nI s)), z4] [] (mdS f M ((va_up (va_up (va_up (va_up (va_up (va_up (va_up (va_up (va_up (va_up (va_up (va_up y.1 20 (upd (y.1 20) a (y.1 20 b))) 21 (upd (y.1 21) a (y.1 21 b))) 23 (upd (y.1 23) a (y.1 23 b))) 22 (mCp (y.1 22) (20 * b) (20 * a) 20)) 24 (upd (y.1 24) a (y.1 24 b))) 26 (mCp (y.1 26) (4 * b) (4 * a) 4)) 25 (mCp (y.1 25) (104 * b) (104 * a) 104)) 27 (upd (y.1 27) a (y.1 27 b))) 28 (upd (y.1 28) a (y.1 28 b))) 30 (mCp (y.1 30) (3 * b) (3 * a) s)) 31 (mCp (y.1 31) (3 * b) (3 * a) s)) 29 (mCp (y.1 29) (6 * b) (6 * a) (2 * s))), y.2)) t 0 0 := by
    intro d
    induction d using Nat.strongRecOn with
    | _ d ih =>
    intro s z4 hs
    have hOK : aNw (va_up (va_up (va_up (va_up (va_up (va_up (va_up (va_up (va_up (va_up (va_up (va_up y.1 20 (upd (y.1 20) a (y.1 20 b))) 21 (upd (y.1 21) a (y.1 21 b))) 23 (upd (y.1 23) a (y.1 23 b))) 22 (mCp (y.1 22) (20 * b) (20 * a) 20)) 24 (upd (y.1 24) a (y.1 24 b))) 26 (mCp (y.1 26) (4 * b) (4 * a) 4)) 25 (mCp (y.1 25) (104 * b) (104 * a) 104)) 27 (upd (y.1 27) a (y.1 27 b))) 28 (upd (y.1 28) a (y.1 28 b))) 30 (mCp (y.1 30) (3 * b) (3 * a) s)) 31 (mCp (y.1 31) (3 * b) (3 * a) s)) 29 (mCp (y.1 29) (6 * b) (6 * a) (2 * s))) := by
      refine aNw_cp hO (aNw_cp hO (aNw_cp hO (aNw_up hO (aNw_up hO (aNw_cp hO (aNw_cp hO (aNw_up hO (aNw_cp hO (aNw_up hO (aNw_up hO (aNw_up hO hO)))))))))))
    refine v_iload_n dX10_copy_191 rfl (by rfl) ?_
    refine v_iconst (v := nI 3) dX10_copy_192 (by decide) ?_
    refine v_icmp_geN (tgt := 210) dX10_copy_193 (by decide) (by omega) (by omega) (fun c193 => ?_) (fun c193 => ?_)
    · refine v_ret dX10_copy_210 rfl ?_
      refine ⟨rfl, rfl, md_c ?_⟩
      rw [show s = 3 by omega]
    · refine v_aload_n dX10_copy_196 rfl (by rfl) ?_
      refine v_iload_n dX10_copy_197 rfl (by rfl) ?_
      refine v_iload_n dX10_copy_198 rfl (by rfl) ?_
      refine v_iload_n dX10_copy_199 rfl (by rfl) ?_
      refine v_iload_n dX10_copy_200 rfl (by rfl) ?_
      refine w_callV hE dX10_copy_201 kX10_190 mdS_M (by rfl) (by rfl) (sX10_copyCalls hE (y := ((va_up (va_up (va_up (va_up (va_up (va_up (va_up (va_up (va_up (va_up (va_up (va_up y.1 20 (upd (y.1 20) a (y.1 20 b))) 21 (upd (y.1 21) a (y.1 21 b))) 23 (upd (y.1 23) a (y.1 23 b))) 22 (mCp (y.1 22) (20 * b) (20 * a) 20)) 24 (upd (y.1 24) a (y.1 24 b))) 26 (mCp (y.1 26) (4 * b) (4 * a) 4)) 25 (mCp (y.1 25) (104 * b) (104 * a) 104)) 27 (upd (y.1 27) a (y.1 27 b))) 28 (upd (y.1 28) a (y.1 28 b))) 30 (mCp (y.1 30) (3 * b) (3 * a) s)) 31 (mCp (y.1 31) (3 * b) (3 * a) s)) 29 (mCp (y.1 29) (6 * b) (6 * a) (2 * s))), y.2)) hOK ha (by omega) hb (by omega)) rfl (by decide) (by decide) (by exact Nat.le_of_ble_eq_true rfl) (by omega) (by omega) (fun v9 g9 u9 h9 => ?_) (fun _ _ _ h => by cases h.1)
      obtain ⟨hv9, hu9, hg9⟩ := h9
      replace hu9 := hu9.symm
      subst hu9
      subst hg9
      cases hv9
      refine v_iincN (y := 1) dX10_copy_204 (by rfl) (by decide) (by decide) ?_
      refine v_goto (tgt := 191) dX10_copy_207 (by decide) ?_
      refine v_hp (show _ = mdS f M ((va_up (va_up (va_up (va_up (va_up (va_up (va_up (va_up (va_up (va_up (va_up (va_up y.1 20 (upd (y.1 20) a (y.1 20 b))) 21 (upd (y.1 21) a (y.1 21 b))) 23 (upd (y.1 23) a (y.1 23 b))) 22 (mCp (y.1 22) (20 * b) (20 * a) 20)) 24 (upd (y.1 24) a (y.1 24 b))) 26 (mCp (y.1 26) (4 * b) (4 * a) 4)) 25 (mCp (y.1 25) (104 * b) (104 * a) 104)) 27 (upd (y.1 27) a (y.1 27 b))) 28 (upd (y.1 28) a (y.1 28 b))) 30 (mCp (y.1 30) (3 * b) (3 * a) (s + 1))) 31 (mCp (y.1 31) (3 * b) (3 * a) (s + 1))) 29 (mCp (y.1 29) (6 * b) (6 * a) (2 * (s + 1)))), y.2) from md_c (by
        funext k9
        by_cases e29 : k9 = 29
        · subst e29
          show upd (upd (mCp (y.1 29) (6 * b) (6 * a) (2 * s)) (6 * a + 2 * s + 0) (mCp (y.1 29) (6 * b) (6 * a) (2 * s) (6 * b + 2 * s + 0))) (6 * a + 2 * s + (0 + 1)) (mCp (y.1 29) (6 * b) (6 * a) (2 * s) (6 * b + 2 * s + (0 + 1))) = mCp (y.1 29) (6 * b) (6 * a) (2 * (s + 1))
          rw [mCp_o (by omega), mCp_o (by omega)]
          have q1 := mCp_s (g := y.1 29) (sp := 6 * b) (dp := 6 * a) (n := 2 * s)
          have q2 := mCp_s (g := y.1 29) (sp := 6 * b) (dp := 6 * a) (n := 2 * s + 1)
          rw [show 6 * a + 2 * s + 0 = 6 * a + 2 * s from rfl, show 6 * b + 2 * s + 0 = 6 * b + 2 * s from rfl, q1, show 6 * a + 2 * s + (0 + 1) = 6 * a + (2 * s + 1) from rfl, show 6 * b + 2 * s + (0 + 1) = 6 * b + (2 * s + 1) from rfl, q2]
          rfl
        · by_cases e31 : k9 = 31
          · subst e31
            show upd (mCp (y.1 31) (3 * b) (3 * a) s) (3 * a + s) (mCp (y.1 31) (3 * b) (3 * a) s (3 * b + s)) = mCp (y.1 31) (3 * b) (3 * a) (s + 1)
            rw [mCp_o (by omega), mCp_s]
          · by_cases e30 : k9 = 30
            · subst e30
              show upd (mCp (y.1 30) (3 * b) (3 * a) s) (3 * a + s) (mCp (y.1 30) (3 * b) (3 * a) s (3 * b + s)) = mCp (y.1 30) (3 * b) (3 * a) (s + 1)
              rw [mCp_o (by omega), mCp_s]
            · rw [va_up_ne _ _ e29, va_up_ne _ _ e31, va_up_ne _ _ e30, va_up_ne _ _ e29, va_up_ne _ _ e31, va_up_ne _ _ e30]
              dsimp only
              rw [va_up_ne _ _ e29, va_up_ne _ _ e31, va_up_ne _ _ e30])) ?_
      exact ih (d - 1) (by omega) (s + 1) _ (by omega)
  have l2 : ∀ (d : Nat) (r : Nat) (z4 : Option Value), r + d = 4 → V E mX10_copy 0 0 (fun o f' t' => o = .inl none ∧ t' = t ∧ f' = mdS f M (mCopy y a b)) 86 [some (.ref M), some (.int (nI a)), some (.int (nI b)), some (.int (nI r)), z4] [] (mdS f M ((va_up (va_up (va_up (va_up (va_up (va_up (va_up y.1 20 (upd (y.1 20) a (y.1 20 b))) 21 (upd (y.1 21) a (y.1 21 b))) 23 (upd (y.1 23) a (y.1 23 b))) 22 (mCp (y.1 22) (20 * b) (20 * a) 20)) 24 (upd (y.1 24) a (y.1 24 b))) 26 (mCp (y.1 26) (4 * b) (4 * a) r)) 25 (mCp (y.1 25) (104 * b) (104 * a) (26 * r))), y.2)) t 0 0 := by
    intro d
    induction d using Nat.strongRecOn with
    | _ d ih =>
    intro r z4 hr
    have li : r < 4 → ∀ (d2 : Nat) (k : Nat), k + d2 = 26 → V E mX10_copy 0 0 (fun o f' t' => o = .inl none ∧ t' = t ∧ f' = mdS f M (mCopy y a b)) 114 [some (.ref M), some (.int (nI a)), some (.int (nI b)), some (.int (nI r)), some (.int (nI k))] [] (mdS f M ((va_up (va_up (va_up (va_up (va_up (va_up (va_up y.1 20 (upd (y.1 20) a (y.1 20 b))) 21 (upd (y.1 21) a (y.1 21 b))) 23 (upd (y.1 23) a (y.1 23 b))) 22 (mCp (y.1 22) (20 * b) (20 * a) 20)) 24 (upd (y.1 24) a (y.1 24 b))) 26 (mCp (y.1 26) (4 * b) (4 * a) (r + 1))) 25 (mCp (y.1 25) (104 * b) (104 * a) (26 * r + k))), y.2)) t 0 0 := by
      intro hr4 d2
      induction d2 using Nat.strongRecOn with
      | _ d2 ih2 =>
      intro k hk
      refine v_iload dX10_copy_114 (by rfl) ?_
      refine v_bipush (v := nI 26) dX10_copy_116 (by decide) ?_
      refine v_icmp_geN (tgt := 159) dX10_copy_118 (by decide) (by omega) (by omega) (fun c118 => ?_) (fun c118 => ?_)
      · refine v_iincN (y := 1) dX10_copy_159 (by rfl) (by decide) (by decide) ?_
        refine v_goto (tgt := 86) dX10_copy_162 (by decide) ?_
        refine v_hp (show _ = mdS f M ((va_up (va_up (va_up (va_up (va_up (va_up (va_up y.1 20 (upd (y.1 20) a (y.1 20 b))) 21 (upd (y.1 21) a (y.1 21 b))) 23 (upd (y.1 23) a (y.1 23 b))) 22 (mCp (y.1 22) (20 * b) (20 * a) 20)) 24 (upd (y.1 24) a (y.1 24 b))) 26 (mCp (y.1 26) (4 * b) (4 * a) (r + 1))) 25 (mCp (y.1 25) (104 * b) (104 * a) (26 * (r + 1)))), y.2) from by rw [show 26 * r + k = 26 * (r + 1) by omega]) ?_
        exact ih (d - 1) (by omega) (r + 1) _ (by omega)
      · refine v_aload_n dX10_copy_121 rfl (by rfl) ?_
        refine v_getf hE dX10_copy_122 fX10_87 mdS_M (by rfl) ?_
        refine v_bipush (v := nI 26) dX10_copy_125 (by decide) ?_
        refine v_iconst (v := nI 4) dX10_copy_127 (by decide) ?_
        refine v_iload_n dX10_copy_128 rfl (by rfl) ?_
        refine v_imulN dX10_copy_129 ?_
        refine v_iload_n dX10_copy_130 rfl (by rfl) ?_
        refine v_iaddN dX10_copy_131 ?_
        refine v_imulN dX10_copy_132 ?_
        refine v_iload dX10_copy_133 (by rfl) ?_
        refine v_iaddN dX10_copy_135 ?_
        refine v_aload_n dX10_copy_136 rfl (by rfl) ?_
        refine v_getf hE dX10_copy_137 fX10_87 mdS_M (by rfl) ?_
        refine v_bipush (v := nI 26) dX10_copy_140 (by decide) ?_
        refine v_iconst (v := nI 4) dX10_copy_142 (by decide) ?_
        refine v_iload_n dX10_copy_143 rfl (by rfl) ?_
        refine v_imulN dX10_copy_144 ?_
        refine v_iload_n dX10_copy_145 rfl (by rfl) ?_
        refine v_iaddN dX10_copy_146 ?_
        refine v_imulN dX10_copy_147 ?_
        refine v_iload dX10_copy_148 (by rfl) ?_
        refine v_iaddN dX10_copy_150 ?_
        refine m_bald hE (k := 25) dX10_copy_151 (by decide) (by decide) rfl (show _ < 24960 by omega) (by omega) ?_
        refine v_eqi (y := y.1 25 (104 * b + (26 * r + k))) ((mCp_o (by omega)).trans (congrArg (y.1 25) (by omega))) ?_
        refine m_bast hE (k := 25) dX10_copy_152 (by decide) (by decide) rfl (show _ < 24960 by omega) (by omega) ?_
        rw [hO.1 25 _ rfl]
        refine v_iincN (y := 1) dX10_copy_153 (by rfl) (by decide) (by decide) ?_
        refine v_goto (tgt := 114) dX10_copy_156 (by decide) ?_
        refine v_hp (show _ = mdS f M ((va_up (va_up (va_up (va_up (va_up (va_up (va_up y.1 20 (upd (y.1 20) a (y.1 20 b))) 21 (upd (y.1 21) a (y.1 21 b))) 23 (upd (y.1 23) a (y.1 23 b))) 22 (mCp (y.1 22) (20 * b) (20 * a) 20)) 24 (upd (y.1 24) a (y.1 24 b))) 26 (mCp (y.1 26) (4 * b) (4 * a) (r + 1))) 25 (mCp (y.1 25) (104 * b) (104 * a) (26 * r + (k + 1)))), y.2) from md_c (va_up_up.trans (congrArg (va_up _ 25) ((congrArg (fun i => upd (mCp (y.1 25) (104 * b) (104 * a) (26 * r + k)) i (y.1 25 (104 * b + (26 * r + k)))) (by omega)).trans mCp_s)))) ?_
        exact ih2 (d2 - 1) (by omega) (k + 1) (by omega)
    refine v_iload_n dX10_copy_86 rfl (by rfl) ?_
    refine v_iconst (v := nI 4) dX10_copy_87 (by decide) ?_
    refine v_icmp_geN (tgt := 165) dX10_copy_88 (by decide) (by omega) (by omega) (fun c88 => ?_) (fun c88 => ?_)
    · refine v_aload_n dX10_copy_165 rfl (by rfl) ?_
      refine v_getf hE dX10_copy_166 fX10_93 mdS_M (by rfl) ?_
      refine v_iload_n dX10_copy_169 rfl (by rfl) ?_
      refine v_aload_n dX10_copy_170 rfl (by rfl) ?_
      refine v_getf hE dX10_copy_171 fX10_93 mdS_M (by rfl) ?_
      refine v_iload_n dX10_copy_174 rfl (by rfl) ?_
      refine m_iald hE (k := 27) dX10_copy_175 (by decide) (by decide) rfl (show _ < 240 by omega) (by omega) ?_
      refine v_eqi (y := y.1 27 b) rfl ?_
      refine m_iast hE (k := 27) dX10_copy_176 (by decide) (by decide) rfl (show _ < 240 by omega) (by omega) ?_
      refine v_aload_n dX10_copy_177 rfl (by rfl) ?_
      refine v_getf hE dX10_copy_178 fX10_96 mdS_M (by rfl) ?_
      refine v_iload_n dX10_copy_181 rfl (by rfl) ?_
      refine v_aload_n dX10_copy_182 rfl (by rfl) ?_
      refine v_getf hE dX10_copy_183 fX10_96 mdS_M (by rfl) ?_
      refine v_iload_n dX10_copy_186 rfl (by rfl) ?_
      refine m_zald hE (k := 28) dX10_copy_187 (by decide) (by decide) rfl (show _ < 240 by omega) (by omega) ?_
      refine v_eqi (y := y.1 28 b) rfl ?_
      refine m_zast hE (k := 28) dX10_copy_188 (by decide) (by decide) rfl (show _ < 240 by omega) (by omega) ?_
      rw [hO.2.1 28 _ rfl]
      refine v_iconst (v := nI 0) dX10_copy_189 (by decide) ?_
      refine v_istore_n dX10_copy_190 rfl (by decide) ?_
      refine v_hp (show _ = mdS f M ((va_up (va_up (va_up (va_up (va_up (va_up (va_up (va_up (va_up (va_up (va_up (va_up y.1 20 (upd (y.1 20) a (y.1 20 b))) 21 (upd (y.1 21) a (y.1 21 b))) 23 (upd (y.1 23) a (y.1 23 b))) 22 (mCp (y.1 22) (20 * b) (20 * a) 20)) 24 (upd (y.1 24) a (y.1 24 b))) 26 (mCp (y.1 26) (4 * b) (4 * a) 4)) 25 (mCp (y.1 25) (104 * b) (104 * a) 104)) 27 (upd (y.1 27) a (y.1 27 b))) 28 (upd (y.1 28) a (y.1 28 b))) 30 (mCp (y.1 30) (3 * b) (3 * a) 0)) 31 (mCp (y.1 31) (3 * b) (3 * a) 0)) 29 (mCp (y.1 29) (6 * b) (6 * a) (2 * 0))), y.2) from md_c ?_) ?_
      · rw [show 2 * 0 = 0 from rfl, mCp_0, mCp_0, mCp_0, show r = 4 by omega]
        exact (va_up_id rfl).symm.trans (congrArg (fun z => va_up z 29 (y.1 29)) ((va_up_id rfl).symm.trans (congrArg (fun z => va_up z 31 (y.1 31)) (va_up_id rfl).symm)))
      · exact l3 3 0 _ (by omega)
    · refine v_aload_n dX10_copy_91 rfl (by rfl) ?_
      refine v_getf hE dX10_copy_92 fX10_90 mdS_M (by rfl) ?_
      refine v_iconst (v := nI 4) dX10_copy_95 (by decide) ?_
      refine v_iload_n dX10_copy_96 rfl (by rfl) ?_
      refine v_imulN dX10_copy_97 ?_
      refine v_iload_n dX10_copy_98 rfl (by rfl) ?_
      refine v_iaddN dX10_copy_99 ?_
      refine v_aload_n dX10_copy_100 rfl (by rfl) ?_
      refine v_getf hE dX10_copy_101 fX10_90 mdS_M (by rfl) ?_
      refine v_iconst (v := nI 4) dX10_copy_104 (by decide) ?_
      refine v_iload_n dX10_copy_105 rfl (by rfl) ?_
      refine v_imulN dX10_copy_106 ?_
      refine v_iload_n dX10_copy_107 rfl (by rfl) ?_
      refine v_iaddN dX10_copy_108 ?_
      refine m_iald hE (k := 26) dX10_copy_109 (by decide) (by decide) rfl (show _ < 960 by omega) (by omega) ?_
      refine v_eqi (y := y.1 26 (4 * b + r)) (mCp_o (by omega)) ?_
      refine m_iast hE (k := 26) dX10_copy_110 (by decide) (by decide) rfl (show _ < 960 by omega) (by omega) ?_
      refine v_iconst (v := nI 0) dX10_copy_111 (by decide) ?_
      refine v_istore dX10_copy_112 (by decide) ?_
      refine v_hp (show _ = mdS f M ((va_up (va_up (va_up (va_up (va_up (va_up (va_up y.1 20 (upd (y.1 20) a (y.1 20 b))) 21 (upd (y.1 21) a (y.1 21 b))) 23 (upd (y.1 23) a (y.1 23 b))) 22 (mCp (y.1 22) (20 * b) (20 * a) 20)) 24 (upd (y.1 24) a (y.1 24 b))) 26 (mCp (y.1 26) (4 * b) (4 * a) (r + 1))) 25 (mCp (y.1 25) (104 * b) (104 * a) (26 * r + 0))), y.2) from md_c ?_) ?_
      · funext k9
        by_cases e26 : k9 = 26
        · subst e26
          exact mCp_s
        · rw [va_up_ne _ _ e26]
          by_cases e25 : k9 = 25
          · subst e25
            rfl
          · dsimp only
            rw [va_up_ne _ _ e25, va_up_ne _ _ e25, va_up_ne _ _ e26, va_up_ne _ _ e26]
      · exact li (by omega) 26 0 (by omega)
  have l1 : ∀ (d : Nat) (k : Nat) (z4 : Option Value), k + d = 20 → V E mX10_copy 0 0 (fun o f' t' => o = .inl none ∧ t' = t ∧ f' = mdS f M (mCopy y a b)) 38 [some (.ref M), some (.int (nI a)), some (.int (nI b)), some (.int (nI k)), z4] [] (mdS f M ((va_up (va_up (va_up (va_up y.1 20 (upd (y.1 20) a (y.1 20 b))) 21 (upd (y.1 21) a (y.1 21 b))) 23 (upd (y.1 23) a (y.1 23 b))) 22 (mCp (y.1 22) (20 * b) (20 * a) k)), y.2)) t 0 0 := by
    intro d
    induction d using Nat.strongRecOn with
    | _ d ih =>
    intro k z4 hk
    refine v_iload_n dX10_copy_38 rfl (by rfl) ?_
    refine v_bipush (v := nI 20) dX10_copy_39 (by decide) ?_
    refine v_icmp_geN (tgt := 72) dX10_copy_41 (by decide) (by omega) (by omega) (fun c41 => ?_) (fun c41 => ?_)
    · refine v_aload_n dX10_copy_72 rfl (by rfl) ?_
      refine v_getf hE dX10_copy_73 fX10_84 mdS_M (by rfl) ?_
      refine v_iload_n dX10_copy_76 rfl (by rfl) ?_
      refine v_aload_n dX10_copy_77 rfl (by rfl) ?_
      refine v_getf hE dX10_copy_78 fX10_84 mdS_M (by rfl) ?_
      refine v_iload_n dX10_copy_81 rfl (by rfl) ?_
      refine m_iald hE (k := 24) dX10_copy_82 (by decide) (by decide) rfl (show _ < 240 by omega) (by omega) ?_
      refine v_eqi (y := y.1 24 b) rfl ?_
      refine m_iast hE (k := 24) dX10_copy_83 (by decide) (by decide) rfl (show _ < 240 by omega) (by omega) ?_
      refine v_iconst (v := nI 0) dX10_copy_84 (by decide) ?_
      refine v_istore_n dX10_copy_85 rfl (by decide) ?_
      refine v_hp (show _ = mdS f M ((va_up (va_up (va_up (va_up (va_up (va_up (va_up y.1 20 (upd (y.1 20) a (y.1 20 b))) 21 (upd (y.1 21) a (y.1 21 b))) 23 (upd (y.1 23) a (y.1 23 b))) 22 (mCp (y.1 22) (20 * b) (20 * a) 20)) 24 (upd (y.1 24) a (y.1 24 b))) 26 (mCp (y.1 26) (4 * b) (4 * a) 0)) 25 (mCp (y.1 25) (104 * b) (104 * a) (26 * 0))), y.2) from md_c ?_) ?_
      · rw [show 26 * 0 = 0 from rfl, mCp_0, mCp_0, show k = 20 by omega]
        exact (va_up_id rfl).symm.trans (congrArg (fun z => va_up z 25 (y.1 25)) (va_up_id rfl).symm)
      · exact l2 4 0 _ (by omega)
    · refine v_aload_n dX10_copy_44 rfl (by rfl) ?_
      refine v_getf hE dX10_copy_45 fX10_78 mdS_M (by rfl) ?_
      refine v_bipush (v := nI 20) dX10_copy_48 (by decide) ?_
      refine v_iload_n dX10_copy_50 rfl (by rfl) ?_
      refine v_imulN dX10_copy_51 ?_
      refine v_iload_n dX10_copy_52 rfl (by rfl) ?_
      refine v_iaddN dX10_copy_53 ?_
      refine v_aload_n dX10_copy_54 rfl (by rfl) ?_
      refine v_getf hE dX10_copy_55 fX10_78 mdS_M (by rfl) ?_
      refine v_bipush (v := nI 20) dX10_copy_58 (by decide) ?_
      refine v_iload_n dX10_copy_60 rfl (by rfl) ?_
      refine v_imulN dX10_copy_61 ?_
      refine v_iload_n dX10_copy_62 rfl (by rfl) ?_
      refine v_iaddN dX10_copy_63 ?_
      refine m_bald hE (k := 22) dX10_copy_64 (by decide) (by decide) rfl (show _ < 4800 by omega) (by omega) ?_
      refine v_eqi (y := y.1 22 (20 * b + k)) (mCp_o (by omega)) ?_
      refine m_bast hE (k := 22) dX10_copy_65 (by decide) (by decide) rfl (show _ < 4800 by omega) (by omega) ?_
      rw [hO.1 22 _ rfl]
      refine v_iincN (y := 1) dX10_copy_66 (by rfl) (by decide) (by decide) ?_
      refine v_goto (tgt := 38) dX10_copy_69 (by decide) ?_
      refine v_hp (show _ = mdS f M ((va_up (va_up (va_up (va_up y.1 20 (upd (y.1 20) a (y.1 20 b))) 21 (upd (y.1 21) a (y.1 21 b))) 23 (upd (y.1 23) a (y.1 23 b))) 22 (mCp (y.1 22) (20 * b) (20 * a) (k + 1))), y.2) from md_c (va_up_up.trans (congrArg (va_up _ 22) mCp_s))) ?_
      exact ih (d - 1) (by omega) (k + 1) _ (by omega)
  refine v_aload_n dX10_copy_0 rfl (by rfl) ?_
  refine v_getf hE dX10_copy_1 fX10_72 mdS_M (by rfl) ?_
  refine v_iload_n dX10_copy_4 rfl (by rfl) ?_
  refine v_aload_n dX10_copy_5 rfl (by rfl) ?_
  refine v_getf hE dX10_copy_6 fX10_72 mdS_M (by rfl) ?_
  refine v_iload_n dX10_copy_9 rfl (by rfl) ?_
  refine m_iald hE (k := 20) dX10_copy_10 (by decide) (by decide) rfl (show _ < 240 by omega) (by omega) ?_
  refine v_eqi (y := y.1 20 b) rfl ?_
  refine m_iast hE (k := 20) dX10_copy_11 (by decide) (by decide) rfl (show _ < 240 by omega) (by omega) ?_
  refine v_aload_n dX10_copy_12 rfl (by rfl) ?_
  refine v_getf hE dX10_copy_13 fX10_75 mdS_M (by rfl) ?_
  refine v_iload_n dX10_copy_16 rfl (by rfl) ?_
  refine v_aload_n dX10_copy_17 rfl (by rfl) ?_
  refine v_getf hE dX10_copy_18 fX10_75 mdS_M (by rfl) ?_
  refine v_iload_n dX10_copy_21 rfl (by rfl) ?_
  refine m_iald hE (k := 21) dX10_copy_22 (by decide) (by decide) rfl (show _ < 240 by omega) (by omega) ?_
  refine v_eqi (y := y.1 21 b) rfl ?_
  refine m_iast hE (k := 21) dX10_copy_23 (by decide) (by decide) rfl (show _ < 240 by omega) (by omega) ?_
  refine v_aload_n dX10_copy_24 rfl (by rfl) ?_
  refine v_getf hE dX10_copy_25 fX10_81 mdS_M (by rfl) ?_
  refine v_iload_n dX10_copy_28 rfl (by rfl) ?_
  refine v_aload_n dX10_copy_29 rfl (by rfl) ?_
  refine v_getf hE dX10_copy_30 fX10_81 mdS_M (by rfl) ?_
  refine v_iload_n dX10_copy_33 rfl (by rfl) ?_
  refine m_iald hE (k := 23) dX10_copy_34 (by decide) (by decide) rfl (show _ < 240 by omega) (by omega) ?_
  refine v_eqi (y := y.1 23 b) rfl ?_
  refine m_iast hE (k := 23) dX10_copy_35 (by decide) (by decide) rfl (show _ < 240 by omega) (by omega) ?_
  refine v_iconst (v := nI 0) dX10_copy_36 (by decide) ?_
  refine v_istore_n dX10_copy_37 rfl (by decide) ?_
  refine v_hp (show _ = mdS f M ((va_up (va_up (va_up (va_up y.1 20 (upd (y.1 20) a (y.1 20 b))) 21 (upd (y.1 21) a (y.1 21 b))) 23 (upd (y.1 23) a (y.1 23 b))) 22 (mCp (y.1 22) (20 * b) (20 * a) 0)), y.2) from md_c ?_) ?_
  · rw [mCp_0]
    exact (va_up_id rfl).symm
  · exact l1 20 0 none (by omega)
