theorem eLet_i2 {w : eV} {r k : Nat} (h : k < eRs w r) (hr : eRs w r ≤ 24) : eLet w r (nI k) = eLe w (r * 24 + k) := by
  unfold eLet
  rw [if_pos (show 0 ≤ nI k ∧ nI k < nI (eRs w r) from ⟨nI_pos' (by omega), nI_lt h (by omega)⟩), nI_clamp (n := k) (by omega)]
theorem mSR_eq {y : mV} {a b r q n m : Nat} {w v : eV} (hw : mE y a w n) (hv : mE y b v m) (hwo : enOk w) (hvo : enOk v) (hr : r < eRo w) (hq : q < eRo v) : mSR y (4 * a + r) (4 * b + q) (eRs w r) = eRowIs w r v q := by
  obtain ⟨a1, a2⟩ := hw.2.2.2.2.2.2.1 r hr
  obtain ⟨b1, b2⟩ := hv.2.2.2.2.2.2.1 q hq
  have h1 := hwo.2.1 r
  have h2 := hvo.2.1 q
  unfold mSR eRowIs
  rw [b1]
  by_cases e : eRs w r = eRs v q
  · rw [decide_eq_true (congrArg nI e), decide_eq_true e, Bool.true_and, Bool.true_and]
    apply bool_eq
    rw [allB_iff, allB_iff]
    constructor <;> intro h k k1 k2
    · have := of_decide_eq_true (h k k1 k2)
      exact decide_eq_true (by rw [eLet_i2 (by omega) h1, eLet_i2 (by omega) h2, ← a2 k (by omega), ← b2 k (by omega)]; exact this)
    · have := of_decide_eq_true (h k k1 k2)
      rw [eLet_i2 (by omega) h1, eLet_i2 (by omega) h2, ← a2 k (by omega), ← b2 k (by omega)] at this
      exact decide_eq_true this
  · rw [decide_eq_false e, decide_eq_false (nI_n e (by omega) (by omega)), Bool.false_and, Bool.false_and]
def mBf (y : mV) (a b : Nat) : Bool := decide (y.1 20 a < y.1 20 b) || (decide (y.1 20 a = y.1 20 b) && decide (y.1 21 a < y.1 21 b))
theorem mBf_eq {y : mV} {a b n m : Nat} {w v : eV} (hw : mE y a w n) (hv : mE y b v m) : mBf y a b = eBeh v w := by
  unfold mBf eBeh
  rw [hw.1, hv.1, hw.2.1, hv.2.1, show decide (eSq w = eSq v) = decide (eSq v = eSq w) from by simp only [eq_comm]]
set_option maxRecDepth 100000 in
set_option maxHeartbeats 4000000 in
/-- model: isBefore -/
theorem sX10_isBefore {E : eN} (hE : eOk E) {f : aH} {t : Nat} {M : Nat} {y : mV} {a b : Nat} (ha : a < 240) (hb : b < 240) : mT E mX10_isBefore 0 0 [.ref M, .int (nI a), .int (nI b)] (mdS f M y) t (fun o f' t' => o = .inl (some (.int (bI (mBf y a b)))) ∧ t' = t ∧ f' = mdS f M y) := by
  refine mT_of (n := 0) (lo := [some (.ref M), some (.int (nI a)), some (.int (nI b))]) (by decide) (by exact Nat.le_of_ble_eq_true rfl) rfl rfl ?_
  refine v_aload_n dX10_isBefore_0 rfl (by rfl) ?_
  refine v_getf hE dX10_isBefore_1 fX10_72 mdS_M (by rfl) ?_
  refine v_iload_n dX10_isBefore_4 rfl (by rfl) ?_
  refine m_iald hE (k := 20) dX10_isBefore_5 (by decide) (by decide) rfl (show _ < 240 by omega) (by omega) ?_
  refine v_aload_n dX10_isBefore_6 rfl (by rfl) ?_
  refine v_getf hE dX10_isBefore_7 fX10_72 mdS_M (by rfl) ?_
  refine v_iload_n dX10_isBefore_10 rfl (by rfl) ?_
  refine m_iald hE (k := 20) dX10_isBefore_11 (by decide) (by decide) rfl (show _ < 240 by omega) (by omega) ?_
  refine v_icmp_lt (tgt := 45) dX10_isBefore_12 (by decide) (fun c12 => ?_) (fun c12 => ?_)
  · refine v_iconst (v := nI 1) dX10_isBefore_45 (by decide) ?_
    refine v_goto (tgt := 50) dX10_isBefore_46 (by decide) ?_
    refine v_iret dX10_isBefore_50 rfl (by first | rfl | exact nar_bI) ?_
    refine ⟨congrArg (fun x => (Sum.inl (some (Value.int x)) : aO)) ?_, rfl, rfl⟩
    unfold mBf
    first
      | (rw [decide_eq_true c12]; rfl)
      | (rw [decide_eq_false c12, decide_eq_false c27]; rfl)
      | (rw [decide_eq_false c12, decide_eq_true c27, decide_eq_false (Int32.not_lt.mpr c42)]; rfl)
      | (rw [decide_eq_false c12, decide_eq_true c27, decide_eq_true (Int32.not_le.mp c42)]; rfl)
  · refine v_aload_n dX10_isBefore_15 rfl (by rfl) ?_
    refine v_getf hE dX10_isBefore_16 fX10_72 mdS_M (by rfl) ?_
    refine v_iload_n dX10_isBefore_19 rfl (by rfl) ?_
    refine m_iald hE (k := 20) dX10_isBefore_20 (by decide) (by decide) rfl (show _ < 240 by omega) (by omega) ?_
    refine v_aload_n dX10_isBefore_21 rfl (by rfl) ?_
    refine v_getf hE dX10_isBefore_22 fX10_72 mdS_M (by rfl) ?_
    refine v_iload_n dX10_isBefore_25 rfl (by rfl) ?_
    refine m_iald hE (k := 20) dX10_isBefore_26 (by decide) (by decide) rfl (show _ < 240 by omega) (by omega) ?_
    refine v_icmp_ne (tgt := 49) dX10_isBefore_27 (by decide) (fun c27 => ?_) (fun c27 => ?_)
    · refine v_iconst (v := nI 0) dX10_isBefore_49 (by decide) ?_
      refine v_iret dX10_isBefore_50 rfl (by first | rfl | exact nar_bI) ?_
      refine ⟨congrArg (fun x => (Sum.inl (some (Value.int x)) : aO)) ?_, rfl, rfl⟩
      unfold mBf
      first
        | (rw [decide_eq_true c12]; rfl)
        | (rw [decide_eq_false c12, decide_eq_false c27]; rfl)
        | (rw [decide_eq_false c12, decide_eq_true c27, decide_eq_false (Int32.not_lt.mpr c42)]; rfl)
        | (rw [decide_eq_false c12, decide_eq_true c27, decide_eq_true (Int32.not_le.mp c42)]; rfl)
    · refine v_aload_n dX10_isBefore_30 rfl (by rfl) ?_
      refine v_getf hE dX10_isBefore_31 fX10_75 mdS_M (by rfl) ?_
      refine v_iload_n dX10_isBefore_34 rfl (by rfl) ?_
      refine m_iald hE (k := 21) dX10_isBefore_35 (by decide) (by decide) rfl (show _ < 240 by omega) (by omega) ?_
      refine v_aload_n dX10_isBefore_36 rfl (by rfl) ?_
      refine v_getf hE dX10_isBefore_37 fX10_75 mdS_M (by rfl) ?_
      refine v_iload_n dX10_isBefore_40 rfl (by rfl) ?_
      refine m_iald hE (k := 21) dX10_isBefore_41 (by decide) (by decide) rfl (show _ < 240 by omega) (by omega) ?_
      refine v_icmp_ge (tgt := 49) dX10_isBefore_42 (by decide) (fun c42 => ?_) (fun c42 => ?_)
      · refine v_iconst (v := nI 0) dX10_isBefore_49 (by decide) ?_
        refine v_iret dX10_isBefore_50 rfl (by first | rfl | exact nar_bI) ?_
        refine ⟨congrArg (fun x => (Sum.inl (some (Value.int x)) : aO)) ?_, rfl, rfl⟩
        unfold mBf
        first
          | (rw [decide_eq_true c12]; rfl)
          | (rw [decide_eq_false c12, decide_eq_false c27]; rfl)
          | (rw [decide_eq_false c12, decide_eq_true c27, decide_eq_false (Int32.not_lt.mpr c42)]; rfl)
          | (rw [decide_eq_false c12, decide_eq_true c27, decide_eq_true (Int32.not_le.mp c42)]; rfl)
      · refine v_iconst (v := nI 1) dX10_isBefore_45 (by decide) ?_
        refine v_goto (tgt := 50) dX10_isBefore_46 (by decide) ?_
        refine v_iret dX10_isBefore_50 rfl (by first | rfl | exact nar_bI) ?_
        refine ⟨congrArg (fun x => (Sum.inl (some (Value.int x)) : aO)) ?_, rfl, rfl⟩
        unfold mBf
        first
          | (rw [decide_eq_true c12]; rfl)
          | (rw [decide_eq_false c12, decide_eq_false c27]; rfl)
          | (rw [decide_eq_false c12, decide_eq_true c27, decide_eq_false (Int32.not_lt.mpr c42)]; rfl)
          | (rw [decide_eq_false c12, decide_eq_true c27, decide_eq_true (Int32.not_le.mp c42)]; rfl)

set_option maxRecDepth 100000 in
set_option maxHeartbeats 4000000 in
/-- model: sameRecord -/
theorem sX10_sameRecord {E : eN} (hE : eOk E) {f : aH} {t : Nat} {M : Nat} {y : mV} {a b n m : Nat} {w v : eV} (hw : mE y a w n) (hv : mE y b v m) (hwo : enOk w) (hvo : enOk v) (ha : a < 240) (hb : b < 240) : mT E mX10_sameRecord 0 0 [.ref M, .int (nI a), .int (nI b)] (mdS f M y) t (fun o f' t' => o = .inl (some (.int (bI (eWith w v && eAllR w v)))) ∧ t' = t ∧ f' = mdS f M y) := by
  refine mT_of (n := 2) (lo := [some (.ref M), some (.int (nI a)), some (.int (nI b)), none, none]) (by decide) (by exact Nat.le_of_ble_eq_true rfl) rfl rfl ?_
  have hr4 := hwo.1
  have hr5 := hvo.1
  obtain ⟨v1, v2, v3, v4, v5, v6, v7, v8, v9, v10⟩ := id hv
  obtain ⟨w1, w2, w3, w4, w5, w6, w7, w8, w9, w10⟩ := id hw
  have lp : ∀ (d : Nat) (k : Nat) (b9 : Bool), k + d = eRo w → (∀ z : Bool, b9 = true → eRo w = eRo v) → (eWith w v && eAllR w v) = (b9 && allB (fun r => eRowIs w r v r) (eRo w - k) k) → V E mX10_sameRecord 0 0 (fun o f' t' => o = .inl (some (.int (bI (eWith w v && eAllR w v)))) ∧ t' = t ∧ f' = mdS f M y) 54 [some (.ref M), some (.int (nI a)), some (.int (nI b)), some (.int (bI b9)), some (.int (nI k))] [] (mdS f M y) t 0 0 := by
    intro d
    induction d using Nat.strongRecOn with
    | _ d ih =>
    intro k b9 hk hal he
    obtain ⟨w1, w2, w3, w4, w5, w6, w7, w8, w9, w10⟩ := id hw
    refine v_iload dX10_sameRecord_54 (by rfl) ?_
    refine v_aload_n dX10_sameRecord_56 rfl (by rfl) ?_
    refine v_getf hE dX10_sameRecord_57 fX10_84 mdS_M (by rfl) ?_
    refine v_iload_n dX10_sameRecord_60 rfl (by rfl) ?_
    refine m_iald hE (k := 24) dX10_sameRecord_61 (by decide) (by decide) rfl (show _ < 240 by omega) (by omega) ?_
    refine v_eqi (y := nI (eRo w - 1)) w5 ?_
    refine v_icmp_gtN (tgt := 86) dX10_sameRecord_62 (by decide) (by omega) (by omega) (fun c62 => ?_) (fun c62 => ?_)
    · refine v_iload_n dX10_sameRecord_86 rfl (by rfl) ?_
      refine v_iret dX10_sameRecord_87 rfl (by first | rfl | exact nar_bI) ?_
      refine ⟨congrArg (fun x => (Sum.inl (some (Value.int x)) : aO)) (congrArg bI ?_), rfl, rfl⟩
      rw [he]
      first | (rw [c66]; rfl) | (rw [allB_0 (by omega), Bool.and_true])
    · refine v_iload_n dX10_sameRecord_65 rfl (by rfl) ?_
      refine v_if_eqB (tgt := 86) dX10_sameRecord_66 (by decide) (fun c66 => ?_) (fun c66 => ?_)
      · refine v_iload_n dX10_sameRecord_86 rfl (by rfl) ?_
        refine v_iret dX10_sameRecord_87 rfl (by first | rfl | exact nar_bI) ?_
        refine ⟨congrArg (fun x => (Sum.inl (some (Value.int x)) : aO)) (congrArg bI ?_), rfl, rfl⟩
        rw [he]
        first | (rw [c66]; rfl) | (rw [allB_0 (by omega), Bool.and_true])
      · have hk2 := hal b9 c66
        refine v_aload_n dX10_sameRecord_69 rfl (by rfl) ?_
        refine v_iload_n dX10_sameRecord_70 rfl (by rfl) ?_
        refine v_iload dX10_sameRecord_71 (by rfl) ?_
        refine v_iload_n dX10_sameRecord_73 rfl (by rfl) ?_
        refine v_iload dX10_sameRecord_74 (by rfl) ?_
        refine w_callV hE dX10_sameRecord_76 kX10_258 mdS_M (by rfl) (by rfl) (sX10_sameRow hE (n := eRs w k) (w7 k (by omega)).1 (by have := hwo.2.1 k; omega) ha (by omega) hb (by omega)) rfl (by decide) (by decide) (by exact Nat.le_of_ble_eq_true rfl) (by omega) (by omega) (fun v9 g9 u9 h9 => ?_) (fun _ _ _ h => by cases h.1)
        obtain ⟨hv9, hu9, hg9⟩ := h9
        replace hu9 := hu9.symm
        subst hu9
        subst hg9
        cases hv9
        rw [mSR_eq hw hv hwo hvo (by omega) (by omega)]
        refine v_istore_n dX10_sameRecord_79 rfl (by decide) ?_
        refine v_iincN (y := 1) dX10_sameRecord_80 (by rfl) (by decide) (by decide) ?_
        refine v_goto (tgt := 54) dX10_sameRecord_83 (by decide) ?_
        exact ih (d - 1) (by omega) (k + 1) _ (by omega) (fun z _ => hk2) (he.trans (by
          rw [c66, Bool.true_and]
          cases hh : eRowIs w k v k with
          | true => rw [allB_s (p := fun r => eRowIs w r v r) (j := eRo w) (by omega) hh, Bool.true_and]
          | false => rw [allB_f (p := fun r => eRowIs w r v r) (j := eRo w) (by omega) hh, Bool.false_and]))
  refine v_aload_n dX10_sameRecord_0 rfl (by rfl) ?_
  refine v_getf hE dX10_sameRecord_1 fX10_72 mdS_M (by rfl) ?_
  refine v_iload_n dX10_sameRecord_4 rfl (by rfl) ?_
  refine m_iald hE (k := 20) dX10_sameRecord_5 (by decide) (by decide) rfl (show _ < 240 by omega) (by omega) ?_
  refine v_aload_n dX10_sameRecord_6 rfl (by rfl) ?_
  refine v_getf hE dX10_sameRecord_7 fX10_72 mdS_M (by rfl) ?_
  refine v_iload_n dX10_sameRecord_10 rfl (by rfl) ?_
  refine m_iald hE (k := 20) dX10_sameRecord_11 (by decide) (by decide) rfl (show _ < 240 by omega) (by omega) ?_
  refine v_icmp_ne (tgt := 49) dX10_sameRecord_12 (by decide) (fun c12 => ?_) (fun c12 => ?_)
  · refine v_iconst (v := nI 0) dX10_sameRecord_49 (by decide) ?_
    refine v_istore_n dX10_sameRecord_50 rfl (by decide) ?_
    refine v_iconst (v := nI 0) dX10_sameRecord_51 (by decide) ?_
    refine v_istore dX10_sameRecord_52 (by decide) ?_
    first
      | exact lp (eRo w) 0 true (by omega) (fun _ _ => by have := nI_inj (w5.symm.trans (c42.trans v5)) (by omega) (by omega); omega) (by
          unfold eWith eAllR
          rw [decide_eq_true (show eSq w = eSq v from w1.symm.trans (c12.trans v1)), decide_eq_true (show ePl w = ePl v from w2.symm.trans (c27.trans v2)), decide_eq_true (show eRo w = eRo v from by have := nI_inj (w5.symm.trans (c42.trans v5)) (by omega) (by omega); omega)]
          rfl)
      | exact lp (eRo w) 0 false (by omega) (fun _ z => by cases z) (by
          unfold eWith
          rw [decide_eq_false (show ¬ eSq w = eSq v from fun z => c12 (w1.trans (z.trans v1.symm)))]
          rfl)
      | exact lp (eRo w) 0 false (by omega) (fun _ z => by cases z) (by
          unfold eWith
          rw [decide_eq_false (show ¬ ePl w = ePl v from fun z => c27 (w2.trans (z.trans v2.symm))), Bool.and_false]
          rfl)
      | exact lp (eRo w) 0 false (by omega) (fun _ z => by cases z) (by
          unfold eAllR
          rw [decide_eq_false (show ¬ eRo w = eRo v from fun z => c42 (w5.trans ((congrArg (fun z => nI (z - 1)) z).trans v5.symm))), Bool.false_and, Bool.and_false])
  · refine v_aload_n dX10_sameRecord_15 rfl (by rfl) ?_
    refine v_getf hE dX10_sameRecord_16 fX10_75 mdS_M (by rfl) ?_
    refine v_iload_n dX10_sameRecord_19 rfl (by rfl) ?_
    refine m_iald hE (k := 21) dX10_sameRecord_20 (by decide) (by decide) rfl (show _ < 240 by omega) (by omega) ?_
    refine v_aload_n dX10_sameRecord_21 rfl (by rfl) ?_
    refine v_getf hE dX10_sameRecord_22 fX10_75 mdS_M (by rfl) ?_
    refine v_iload_n dX10_sameRecord_25 rfl (by rfl) ?_
    refine m_iald hE (k := 21) dX10_sameRecord_26 (by decide) (by decide) rfl (show _ < 240 by omega) (by omega) ?_
    refine v_icmp_ne (tgt := 49) dX10_sameRecord_27 (by decide) (fun c27 => ?_) (fun c27 => ?_)
    · refine v_iconst (v := nI 0) dX10_sameRecord_49 (by decide) ?_
      refine v_istore_n dX10_sameRecord_50 rfl (by decide) ?_
      refine v_iconst (v := nI 0) dX10_sameRecord_51 (by decide) ?_
      refine v_istore dX10_sameRecord_52 (by decide) ?_
      first
        | exact lp (eRo w) 0 true (by omega) (fun _ _ => by have := nI_inj (w5.symm.trans (c42.trans v5)) (by omega) (by omega); omega) (by
            unfold eWith eAllR
            rw [decide_eq_true (show eSq w = eSq v from w1.symm.trans (c12.trans v1)), decide_eq_true (show ePl w = ePl v from w2.symm.trans (c27.trans v2)), decide_eq_true (show eRo w = eRo v from by have := nI_inj (w5.symm.trans (c42.trans v5)) (by omega) (by omega); omega)]
            rfl)
        | exact lp (eRo w) 0 false (by omega) (fun _ z => by cases z) (by
            unfold eWith
            rw [decide_eq_false (show ¬ eSq w = eSq v from fun z => c12 (w1.trans (z.trans v1.symm)))]
            rfl)
        | exact lp (eRo w) 0 false (by omega) (fun _ z => by cases z) (by
            unfold eWith
            rw [decide_eq_false (show ¬ ePl w = ePl v from fun z => c27 (w2.trans (z.trans v2.symm))), Bool.and_false]
            rfl)
        | exact lp (eRo w) 0 false (by omega) (fun _ z => by cases z) (by
            unfold eAllR
            rw [decide_eq_false (show ¬ eRo w = eRo v from fun z => c42 (w5.trans ((congrArg (fun z => nI (z - 1)) z).trans v5.symm))), Bool.false_and, Bool.and_false])
    · refine v_aload_n dX10_sameRecord_30 rfl (by rfl) ?_
      refine v_getf hE dX10_sameRecord_31 fX10_84 mdS_M (by rfl) ?_
      refine v_iload_n dX10_sameRecord_34 rfl (by rfl) ?_
      refine m_iald hE (k := 24) dX10_sameRecord_35 (by decide) (by decide) rfl (show _ < 240 by omega) (by omega) ?_
      refine v_aload_n dX10_sameRecord_36 rfl (by rfl) ?_
      refine v_getf hE dX10_sameRecord_37 fX10_84 mdS_M (by rfl) ?_
      refine v_iload_n dX10_sameRecord_40 rfl (by rfl) ?_
      refine m_iald hE (k := 24) dX10_sameRecord_41 (by decide) (by decide) rfl (show _ < 240 by omega) (by omega) ?_
      refine v_icmp_ne (tgt := 49) dX10_sameRecord_42 (by decide) (fun c42 => ?_) (fun c42 => ?_)
      · refine v_iconst (v := nI 0) dX10_sameRecord_49 (by decide) ?_
        refine v_istore_n dX10_sameRecord_50 rfl (by decide) ?_
        refine v_iconst (v := nI 0) dX10_sameRecord_51 (by decide) ?_
        refine v_istore dX10_sameRecord_52 (by decide) ?_
        first
          | exact lp (eRo w) 0 true (by omega) (fun _ _ => by have := nI_inj (w5.symm.trans (c42.trans v5)) (by omega) (by omega); omega) (by
              unfold eWith eAllR
              rw [decide_eq_true (show eSq w = eSq v from w1.symm.trans (c12.trans v1)), decide_eq_true (show ePl w = ePl v from w2.symm.trans (c27.trans v2)), decide_eq_true (show eRo w = eRo v from by have := nI_inj (w5.symm.trans (c42.trans v5)) (by omega) (by omega); omega)]
              rfl)
          | exact lp (eRo w) 0 false (by omega) (fun _ z => by cases z) (by
              unfold eWith
              rw [decide_eq_false (show ¬ eSq w = eSq v from fun z => c12 (w1.trans (z.trans v1.symm)))]
              rfl)
          | exact lp (eRo w) 0 false (by omega) (fun _ z => by cases z) (by
              unfold eWith
              rw [decide_eq_false (show ¬ ePl w = ePl v from fun z => c27 (w2.trans (z.trans v2.symm))), Bool.and_false]
              rfl)
          | exact lp (eRo w) 0 false (by omega) (fun _ z => by cases z) (by
              unfold eAllR
              rw [decide_eq_false (show ¬ eRo w = eRo v from fun z => c42 (w5.trans ((congrArg (fun z => nI (z - 1)) z).trans v5.symm))), Bool.false_and, Bool.and_false])
      · refine v_iconst (v := nI 1) dX10_sameRecord_45 (by decide) ?_
        refine v_goto (tgt := 50) dX10_sameRecord_46 (by decide) ?_
        refine v_istore_n dX10_sameRecord_50 rfl (by decide) ?_
        refine v_iconst (v := nI 0) dX10_sameRecord_51 (by decide) ?_
        refine v_istore dX10_sameRecord_52 (by decide) ?_
        first
          | exact lp (eRo w) 0 true (by omega) (fun _ _ => by have := nI_inj (w5.symm.trans (c42.trans v5)) (by omega) (by omega); omega) (by
              unfold eWith eAllR
              rw [decide_eq_true (show eSq w = eSq v from w1.symm.trans (c12.trans v1)), decide_eq_true (show ePl w = ePl v from w2.symm.trans (c27.trans v2)), decide_eq_true (show eRo w = eRo v from by have := nI_inj (w5.symm.trans (c42.trans v5)) (by omega) (by omega); omega)]
              rfl)
          | exact lp (eRo w) 0 false (by omega) (fun _ z => by cases z) (by
              unfold eWith
              rw [decide_eq_false (show ¬ eSq w = eSq v from fun z => c12 (w1.trans (z.trans v1.symm)))]
              rfl)
          | exact lp (eRo w) 0 false (by omega) (fun _ z => by cases z) (by
              unfold eWith
              rw [decide_eq_false (show ¬ ePl w = ePl v from fun z => c27 (w2.trans (z.trans v2.symm))), Bool.and_false]
              rfl)
          | exact lp (eRo w) 0 false (by omega) (fun _ z => by cases z) (by
              unfold eAllR
              rw [decide_eq_false (show ¬ eRo w = eRo v from fun z => c42 (w5.trans ((congrArg (fun z => nI (z - 1)) z).trans v5.symm))), Bool.false_and, Bool.and_false])

/-- a record as the desk keeps it, of the genome g -/
def eGs (w : eV) (g : gV) (s p : Nat) : Prop := eSq w = nI s ∧ ePl w = nI p ∧ s < gCt g ∧ 1 ≤ p ∧ p + eRs w 0 ≤ gSz g s + 1
set_option maxRecDepth 100000 in
set_option maxHeartbeats 4000000 in
/-- model: lengthWith -/
theorem sX10_lengthWith {E : eN} (hE : eOk E) {f : aH} {t : Nat} {M : Nat} {y : mV} {r n s p : Nat} {w : eV} {g : gV} (hw : mE y r w n) (hwo : enOk w) (hg : mGn y g) (hgo : gOk g) (hs : eGs w g s p) (hr : r < 240) (h2 : 1 < eRo w) : mT E mX10_lengthWith 0 0 [.ref M, .int (nI r)] (mdS f M y) t (fun o f' t' => o = .inl (some (.int (nI (gSz g s - eRs w 0 + eRs w 1)))) ∧ t' = t ∧ f' = mdS f M y) := by
  refine mT_of (n := 0) (lo := [some (.ref M), some (.int (nI r))]) (by decide) (by exact Nat.le_of_ble_eq_true rfl) rfl rfl ?_
  have k1 := hgo.2.2.1
  have k2 := hgo.2.2.2 s hs.2.2.1
  have k3 := hgo.1.1
  have k4 := hgo.2.1
  obtain ⟨w1, w2, w3, w4, w5, w6, w7, w8, w9, w10⟩ := id hw
  obtain ⟨s1, s2, s3, s4, s5⟩ := id hs
  have r0 := hwo.2.1 0
  have r1 := hwo.2.1 1
  obtain ⟨q0, -⟩ := w7 0 (by omega)
  obtain ⟨q1, q2⟩ := w7 1 (by omega)
  have hgS := (hg.2.1 s s3).2.2.2.1
  refine v_aload_n dX10_lengthWith_0 rfl (by rfl) ?_
  refine v_getf hE dX10_lengthWith_1 fX10_30 mdS_M (by rfl) ?_
  refine v_aload_n dX10_lengthWith_4 rfl (by rfl) ?_
  refine v_getf hE dX10_lengthWith_5 fX10_72 mdS_M (by rfl) ?_
  refine v_iload_n dX10_lengthWith_8 rfl (by rfl) ?_
  refine m_iald hE (k := 20) dX10_lengthWith_9 (by decide) (by decide) rfl (show _ < 240 by omega) (by omega) ?_
  refine v_eqi (y := nI s) (w1.trans s1) ?_
  refine m_iald hE (k := 6) dX10_lengthWith_10 (by decide) (by decide) rfl (show _ < 9 by omega) (by omega) ?_
  refine v_eqi (y := nI (gSz g s)) hgS ?_
  refine v_aload_n dX10_lengthWith_11 rfl (by rfl) ?_
  refine v_getf hE dX10_lengthWith_12 fX10_90 mdS_M (by rfl) ?_
  refine v_iconst (v := nI 4) dX10_lengthWith_15 (by decide) ?_
  refine v_iload_n dX10_lengthWith_16 rfl (by rfl) ?_
  refine v_imulN dX10_lengthWith_17 ?_
  refine m_iald hE (k := 26) dX10_lengthWith_18 (by decide) (by decide) rfl (show _ < 960 by omega) (by omega) ?_
  refine v_eqi (y := nI (eRs w 0)) q0 ?_
  refine v_isubN dX10_lengthWith_19 (by omega) ?_
  refine v_aload_n dX10_lengthWith_20 rfl (by rfl) ?_
  refine v_getf hE dX10_lengthWith_21 fX10_90 mdS_M (by rfl) ?_
  refine v_iconst (v := nI 4) dX10_lengthWith_24 (by decide) ?_
  refine v_iload_n dX10_lengthWith_25 rfl (by rfl) ?_
  refine v_imulN dX10_lengthWith_26 ?_
  refine v_iconst (v := nI 1) dX10_lengthWith_27 (by decide) ?_
  refine v_iaddN dX10_lengthWith_28 ?_
  refine m_iald hE (k := 26) dX10_lengthWith_29 (by decide) (by decide) rfl (show _ < 960 by omega) (by omega) ?_
  refine v_eqi (y := nI (eRs w 1)) q1 ?_
  refine v_iaddN dX10_lengthWith_30 ?_
  refine v_iret dX10_lengthWith_31 rfl (by first | rfl | exact nar_bI) ?_
  exact ⟨rfl, rfl, rfl⟩

theorem sub_nI {a b : Nat} (h : b ≤ a) : nI a - nI b = nI (a - b) := by
  have : nI a = nI (a - b) + nI b := by rw [nI_add, show a - b + b = a by omega]
  rw [this]
  exact Int32.add_sub_cancel _ _
theorem sub_lt0 {a b : Nat} (h : a < b) (hb : b < 2 ^ 30) : ¬ 0 ≤ nI a - nI b := by
  intro z
  have h1 := Int32.le_iff_toInt_le.mp z
  rw [Int32.toInt_sub, nI_toInt (by omega), nI_toInt (by omega)] at h1
  rw [Int.bmod_eq_of_le (by omega) (by omega)] at h1
  have h0 : (0 : Int32).toInt = 0 := by decide
  rw [h0] at h1
  omega
set_option maxRecDepth 100000 in
set_option maxHeartbeats 4000000 in
/-- model: letterWith -/
theorem sX10_letterWith {E : eN} (hE : eOk E) {f : aH} {t : Nat} {M : Nat} {y : mV} {r n s p k : Nat} {w : eV} {g : gV} (hw : mE y r w n) (hwo : enOk w) (hg : mGn y g) (hgo : gOk g) (hs : eGs w g s p) (hr : r < 240) (h2 : 1 < eRo w) (hk1 : 1 ≤ k) (hk2 : k ≤ gSz g s - eRs w 0 + eRs w 1) : mT E mX10_letterWith 0 0 [.ref M, .int (nI r), .int (nI k)] (mdS f M y) t (fun o f' t' => o = .inl (some (.int (eAft w g s p k))) ∧ t' = t ∧ f' = mdS f M y) := by
  refine mT_of (n := 2) (lo := [some (.ref M), some (.int (nI r)), some (.int (nI k)), none, none]) (by decide) (by exact Nat.le_of_ble_eq_true rfl) rfl rfl ?_
  have k1 := hgo.2.2.1
  have k2 := hgo.2.2.2 s hs.2.2.1
  have k3 := hgo.1.1
  have k4 := hgo.2.1
  obtain ⟨w1, w2, w3, w4, w5, w6, w7, w8, w9, w10⟩ := id hw
  obtain ⟨s1, s2, s3, s4, s5⟩ := id hs
  have r0 := hwo.2.1 0
  have r1 := hwo.2.1 1
  obtain ⟨q0, -⟩ := w7 0 (by omega)
  obtain ⟨q1, q2⟩ := w7 1 (by omega)
  have hgS := (hg.2.1 s s3).2.2.2.1
  refine v_iload_n dX10_letterWith_0 rfl (by rfl) ?_
  refine v_aload_n dX10_letterWith_1 rfl (by rfl) ?_
  refine v_getf hE dX10_letterWith_2 fX10_75 mdS_M (by rfl) ?_
  refine v_iload_n dX10_letterWith_5 rfl (by rfl) ?_
  refine m_iald hE (k := 21) dX10_letterWith_6 (by decide) (by decide) rfl (show _ < 240 by omega) (by omega) ?_
  refine v_eqi (y := nI p) (w2.trans s2) ?_
  refine v_isub dX10_letterWith_7 ?_
  by_cases hlt : k < p
  · refine v_istore_n dX10_letterWith_8 rfl (by decide) ?_
    refine v_iload_n dX10_letterWith_9 rfl (by rfl) ?_
    refine v_if_ge (tgt := 25) dX10_letterWith_10 (by decide) (fun c10 => absurd c10 (sub_lt0 hlt (by omega))) (fun c10 => ?_)
    refine v_aload_n dX10_letterWith_13 rfl (by rfl) ?_
    refine v_aload_n dX10_letterWith_14 rfl (by rfl) ?_
    refine v_getf hE dX10_letterWith_15 fX10_72 mdS_M (by rfl) ?_
    refine v_iload_n dX10_letterWith_18 rfl (by rfl) ?_
    refine m_iald hE (k := 20) dX10_letterWith_19 (by decide) (by decide) rfl (show _ < 240 by omega) (by omega) ?_
    refine v_eqi (y := nI s) (w1.trans s1) ?_
    refine v_iload_n dX10_letterWith_20 rfl (by rfl) ?_
    refine w_callV hE dX10_letterWith_21 kX10_255 mdS_M (by rfl) (by rfl) (sX10_refAt hE hg hgo s3 hk1 (by omega)) rfl (by decide) (by decide) (by exact Nat.le_of_ble_eq_true rfl) (by omega) (by omega) (fun v9 g9 u9 h9 => ?_) (fun _ _ _ h => by cases h.1)
    obtain ⟨hv9, hu9, hg9⟩ := h9
    replace hu9 := hu9.symm
    subst hu9
    subst hg9
    cases hv9
    refine v_iret dX10_letterWith_24 rfl (by first | rfl | exact nar_bI) ?_
    refine ⟨congrArg (fun x => (Sum.inl (some (Value.int x)) : aO)) ?_, rfl, rfl⟩
    unfold eAft
    rw [if_pos hlt]
  · rw [show nI k - nI p = nI (k - p) from sub_nI (by omega)]
    refine v_istore_n dX10_letterWith_8 rfl (by decide) ?_
    refine v_iload_n dX10_letterWith_9 rfl (by rfl) ?_
    refine v_if_ge (tgt := 25) dX10_letterWith_10 (by decide) (fun c10 => ?_) (fun c10 => absurd (nI_pos' (by omega)) c10)
    refine v_aload_n dX10_letterWith_25 rfl (by rfl) ?_
    refine v_getf hE dX10_letterWith_26 fX10_90 mdS_M (by rfl) ?_
    refine v_iconst (v := nI 4) dX10_letterWith_29 (by decide) ?_
    refine v_iload_n dX10_letterWith_30 rfl (by rfl) ?_
    refine v_imulN dX10_letterWith_31 ?_
    refine v_iconst (v := nI 1) dX10_letterWith_32 (by decide) ?_
    refine v_iaddN dX10_letterWith_33 ?_
    refine m_iald hE (k := 26) dX10_letterWith_34 (by decide) (by decide) rfl (show _ < 960 by omega) (by omega) ?_
    refine v_eqi (y := nI (eRs w 1)) q1 ?_
    refine v_istore dX10_letterWith_35 (by decide) ?_
    refine v_iload_n dX10_letterWith_37 rfl (by rfl) ?_
    refine v_iload dX10_letterWith_38 (by rfl) ?_
    refine v_icmp_geN (tgt := 61) dX10_letterWith_40 (by decide) (by omega) (by omega) (fun c40 => ?_) (fun c40 => ?_)
    · refine v_aload_n dX10_letterWith_61 rfl (by rfl) ?_
      refine v_aload_n dX10_letterWith_62 rfl (by rfl) ?_
      refine v_getf hE dX10_letterWith_63 fX10_72 mdS_M (by rfl) ?_
      refine v_iload_n dX10_letterWith_66 rfl (by rfl) ?_
      refine m_iald hE (k := 20) dX10_letterWith_67 (by decide) (by decide) rfl (show _ < 240 by omega) (by omega) ?_
      refine v_eqi (y := nI s) (w1.trans s1) ?_
      refine v_aload_n dX10_letterWith_68 rfl (by rfl) ?_
      refine v_getf hE dX10_letterWith_69 fX10_75 mdS_M (by rfl) ?_
      refine v_iload_n dX10_letterWith_72 rfl (by rfl) ?_
      refine m_iald hE (k := 21) dX10_letterWith_73 (by decide) (by decide) rfl (show _ < 240 by omega) (by omega) ?_
      refine v_eqi (y := nI p) (w2.trans s2) ?_
      refine v_aload_n dX10_letterWith_74 rfl (by rfl) ?_
      refine v_getf hE dX10_letterWith_75 fX10_90 mdS_M (by rfl) ?_
      refine v_iconst (v := nI 4) dX10_letterWith_78 (by decide) ?_
      refine v_iload_n dX10_letterWith_79 rfl (by rfl) ?_
      refine v_imulN dX10_letterWith_80 ?_
      refine m_iald hE (k := 26) dX10_letterWith_81 (by decide) (by decide) rfl (show _ < 960 by omega) (by omega) ?_
      refine v_eqi (y := nI (eRs w 0)) q0 ?_
      refine v_iaddN dX10_letterWith_82 ?_
      refine v_iload_n dX10_letterWith_83 rfl (by rfl) ?_
      refine v_iaddN dX10_letterWith_84 ?_
      refine v_iload dX10_letterWith_85 (by rfl) ?_
      refine v_isubN dX10_letterWith_87 (by omega) ?_
      refine w_callV hE dX10_letterWith_88 kX10_255 mdS_M (by rfl) (by rfl) (sX10_refAt hE hg hgo s3 (by omega) (by omega)) rfl (by decide) (by decide) (by exact Nat.le_of_ble_eq_true rfl) (by omega) (by omega) (fun v9 g9 u9 h9 => ?_) (fun _ _ _ h => by cases h.1)
      obtain ⟨hv9, hu9, hg9⟩ := h9
      replace hu9 := hu9.symm
      subst hu9
      subst hg9
      cases hv9
      refine v_iret dX10_letterWith_91 rfl (by first | rfl | exact nar_bI) ?_
      refine ⟨congrArg (fun x => (Sum.inl (some (Value.int x)) : aO)) ?_, rfl, rfl⟩
      unfold eAft
      rw [if_neg hlt]
      first
        | (rw [if_pos (by omega), eLet_i2 (by omega) r1]; exact q2 (k - p) (by omega))
        | (rw [if_neg (by omega), show p + eRs w 0 + (k - p) - eRs w 1 = k + eRs w 0 - eRs w 1 by omega])
    · refine v_aload_n dX10_letterWith_43 rfl (by rfl) ?_
      refine v_getf hE dX10_letterWith_44 fX10_87 mdS_M (by rfl) ?_
      refine v_bipush (v := nI 26) dX10_letterWith_47 (by decide) ?_
      refine v_iconst (v := nI 4) dX10_letterWith_49 (by decide) ?_
      refine v_iload_n dX10_letterWith_50 rfl (by rfl) ?_
      refine v_imulN dX10_letterWith_51 ?_
      refine v_iconst (v := nI 1) dX10_letterWith_52 (by decide) ?_
      refine v_iaddN dX10_letterWith_53 ?_
      refine v_imulN dX10_letterWith_54 ?_
      refine v_iload_n dX10_letterWith_55 rfl (by rfl) ?_
      refine v_iaddN dX10_letterWith_56 ?_
      refine m_bald hE (k := 25) dX10_letterWith_57 (by decide) (by decide) rfl (show _ < 24960 by omega) (by omega) ?_
      refine v_goto (tgt := 91) dX10_letterWith_58 (by decide) ?_
      refine v_iret dX10_letterWith_91 rfl (by first | rfl | exact nar_bI) ?_
      refine ⟨congrArg (fun x => (Sum.inl (some (Value.int x)) : aO)) ?_, rfl, rfl⟩
      unfold eAft
      rw [if_neg hlt]
      first
        | (rw [if_pos (by omega), eLet_i2 (by omega) r1]; exact q2 (k - p) (by omega))
        | (rw [if_neg (by omega), show p + eRs w 0 + (k - p) - eRs w 1 = k + eRs w 0 - eRs w 1 by omega])
