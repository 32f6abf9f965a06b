/-! reading a row -/
def rwP (u : tS) (k : Nat) : Bool := decide (¬ ltr (mOct u k) = -1)
def rwOk (u : tS) (i j : Nat) : Bool := mIn (nI (j - i)) (nI 1) (nI 24) && allB (rwP u) (j - i) i
theorem in24 {i j : Nat} (hj : j - i < 2 ^ 31) : mIn (nI (j - i)) (nI 1) (nI 24) = true ↔ (i < j ∧ j - i ≤ 24) := by
  unfold mIn
  rw [Bool.and_eq_true, decide_eq_true_eq, decide_eq_true_eq]
  constructor
  · rintro ⟨a, b⟩
    have := nI_le_n a (by decide) hj
    have := nI_le_n b hj (by decide)
    omega
  · rintro ⟨a, b⟩
    exact ⟨nI_le (by omega) hj, nI_le (by omega) (by decide)⟩
theorem qRowL_f {u : tS} {r : Nat} : ∀ (d k : Nat) (w : eV), eRs w r + d ≤ 24 → (qRowL u r d k w).1 = allB (rwP u) d k ∧ ((qRowL u r d k w).1 = true → ∃ L : Nat → Int32, (qRowL u r d k w).2 = wRo (wRs (wLe w L) (va_up (eRs w) r (eRs w r + d))) (r + 1) ∧ ∀ j, L j = if r * 24 + eRs w r ≤ j ∧ j < r * 24 + eRs w r + d then ltr (mOct u (k + (j - (r * 24 + eRs w r)))) else eLe w j) := by
  intro d
  induction d with
  | zero =>
    intro k w h
    refine ⟨rfl, fun _ => ⟨eLe w, ?_, fun j => (if_neg (by omega)).symm⟩⟩
    show wRo w (r + 1) = wRo (wRs (wLe w (eLe w)) (va_up (eRs w) r (eRs w r))) (r + 1)
    rw [va_up_id rfl]
  | succ d ih =>
    intro k w h
    have e : qRowL u r (d + 1) k w = if ltr (mOct u k) = -1 then (false, w) else qRowL u r d (k + 1) (eAddL w r (ltr (mOct u k))) := rfl
    have e2 : allB (rwP u) (d + 1) k = (rwP u k && allB (rwP u) d (k + 1)) := rfl
    rw [e, e2]
    unfold rwP
    by_cases c : ltr (mOct u k) = -1
    · rw [if_pos c, decide_eq_false (fun z => z c), Bool.false_and]
      exact ⟨rfl, fun q => Bool.noConfusion q⟩
    · rw [if_neg c, decide_eq_true c, Bool.true_and]
      have e0 : eAddL w r (ltr (mOct u k)) = wRs (wLe w (upd (eLe w) (r * 24 + eRs w r) (ltr (mOct u k)))) (va_up (eRs w) r (eRs w r + 1)) := if_pos (by omega)
      have e3 : eRs (wRs (wLe w (upd (eLe w) (r * 24 + eRs w r) (ltr (mOct u k)))) (va_up (eRs w) r (eRs w r + 1))) r = eRs w r + 1 := va_up_self _ _ _
      rw [e0]
      obtain ⟨a1, a2⟩ := ih (k + 1) (wRs (wLe w (upd (eLe w) (r * 24 + eRs w r) (ltr (mOct u k)))) (va_up (eRs w) r (eRs w r + 1))) (by rw [e3]; omega)
      refine ⟨a1, fun q => ?_⟩
      obtain ⟨L, b1, b2⟩ := a2 q
      rw [e3] at b1 b2
      refine ⟨L, ?_, fun j => ?_⟩
      · rw [b1]
        show wRo (wRs (wLe w L) (va_up (va_up (eRs w) r (eRs w r + 1)) r (eRs w r + 1 + d))) (r + 1) = _
        rw [va_up_up, show eRs w r + 1 + d = eRs w r + (d + 1) by omega]
      · rw [b2 j]
        show (if r * 24 + (eRs w r + 1) ≤ j ∧ j < r * 24 + (eRs w r + 1) + d then ltr (mOct u (k + 1 + (j - (r * 24 + (eRs w r + 1))))) else upd (eLe w) (r * 24 + eRs w r) (ltr (mOct u k)) j) = _
        by_cases c1 : j = r * 24 + eRs w r
        · subst c1
          rw [if_neg (by omega), updS, if_pos (by omega), Nat.sub_self, Nat.add_zero]
        · by_cases c2 : r * 24 + (eRs w r + 1) ≤ j ∧ j < r * 24 + (eRs w r + 1) + d
          · rw [if_pos c2, if_pos (by omega), show k + 1 + (j - (r * 24 + (eRs w r + 1))) = k + (j - (r * 24 + eRs w r)) by omega]
          · rw [if_neg c2, if_neg (by omega), updN c1]
theorem qRow_f {u : tS} {r i j : Nat} {w : eV} (hr : r < 4) (hj : j - i < 2 ^ 31) : (qRow u r i j w).1 = rwOk u i j ∧ (rwOk u i j = true → ∃ L : Nat → Int32, (qRow u r i j w).2 = wRo (wRs (wLe w L) (va_up (eRs w) r (j - i))) (r + 1) ∧ ∀ k, L k = if r * 24 ≤ k ∧ k < r * 24 + (j - i) then ltr (mOct u (i + (k - r * 24))) else eLe w k) := by
  unfold qRow rwOk
  by_cases c : i < j ∧ j - i ≤ 24
  · rw [if_neg (by omega), (in24 hj).mpr c, Bool.true_and]
    have e3 : eRs (wRs w (va_up (eRs w) r 0)) r = 0 := va_up_self _ _ _
    obtain ⟨a1, a2⟩ := qRowL_f (u := u) (r := r) (j - i) i (wRs w (va_up (eRs w) r 0)) (by rw [e3]; omega)
    refine ⟨a1, fun q => ?_⟩
    obtain ⟨L, b1, b2⟩ := a2 (a1.trans q)
    rw [e3] at b1 b2
    refine ⟨L, ?_, fun k => ?_⟩
    · rw [b1]
      show wRo (wRs (wLe w L) (va_up (va_up (eRs w) r 0) r (0 + (j - i)))) (r + 1) = _
      rw [va_up_up, Nat.zero_add]
    · rw [b2 k, Nat.add_zero]
  · rw [if_pos (by omega), Bool.eq_false_iff.mpr (fun q => c ((in24 hj).mp q)), Bool.false_and]
    exact ⟨rfl, fun q => Bool.noConfusion q⟩
/-- only row q of record r has changed -/
def rRw (r q : Nat) (y z : mV) : Prop := z.2 = y.2 ∧ (∀ k, k ≠ 25 → k ≠ 26 → z.1 k = y.1 k) ∧ (∀ i, i ≠ 4 * r + q → z.1 26 i = y.1 26 i) ∧ (∀ i, i < 26 * (4 * r + q) ∨ 26 * (4 * r + q) + 26 ≤ i → z.1 25 i = y.1 25 i) ∧ aNw z.1
theorem rRw_r {r q : Nat} {y : mV} (h : aNw y.1) : rRw r q y y := ⟨rfl, fun _ _ _ => rfl, fun _ _ => rfl, fun _ _ => rfl, h⟩
theorem rRw_5 {r q i : Nat} {y z : mV} {x : Int32} (h : rRw r q y z) (hi : 26 * (4 * r + q) ≤ i ∧ i < 26 * (4 * r + q) + 26) (hx : vp_nar .byte x = x) : rRw r q y (va_up z.1 25 (upd (z.1 25) i x), z.2) := by
  obtain ⟨h1, h2, h3, h4, h5⟩ := h
  refine ⟨h1, fun k a b => (va_up_ne _ _ a).trans (h2 k a b), h3, fun j hj => ?_, aNw_1 h5 (fun _ => upd_nar (fun i => h5.1 25 i rfl) hx) (fun q => by cases q)⟩
  show upd (z.1 25) i x j = _
  rw [updN (by omega)]
  exact h4 j hj
theorem rRw_6 {r q : Nat} {y z : mV} {x : Int32} (h : rRw r q y z) : rRw r q y (va_up z.1 26 (upd (z.1 26) (4 * r + q) x), z.2) := by
  obtain ⟨h1, h2, h3, h4, h5⟩ := h
  refine ⟨h1, fun k a b => (va_up_ne _ _ b).trans (h2 k a b), fun j hj => ?_, h4, aNw_i h5 rfl⟩
  show upd (z.1 26) (4 * r + q) x j = _
  rw [updN hj]
  exact h3 j hj
set_option maxRecDepth 100000 in
set_option maxHeartbeats 1500000 in
/-- model: readRow -/
theorem sX10_readRow {E : eN} (hE : eOk E) {f : aH} {t : Nat} {M : Nat} {y : mV} {u : tS} {r q i j : Nat} (hp : mTp y u) (hO : aNw y.1) (hr : r < 240) (hq : q < 4) (hij : i ≤ j) (hj : j < 2 ^ 28) : mT E mX10_readRow 0 0 [.ref M, .int (nI r), .int (nI q), .int (nI i), .int (nI j)] (mdS f M y) t (fun o f' t' => o = .inl (some (.int (bI (rwOk u i j)))) ∧ t' = t ∧ ∃ y', f' = mdS f M y' ∧ rRw r q y y' ∧ (rwOk u i j = true → rwA y' r q (j - i) (fun k => ltr (mOct u (i + k))))) := by
  refine mT_of (n := 2) (lo := [some (.ref M), some (.int (nI r)), some (.int (nI q)), some (.int (nI i)), some (.int (nI j)), none, none]) (by decide) (by exact Nat.le_of_ble_eq_true rfl) rfl rfl ?_
  have ex0 : rwOk u i j = false → ∀ (v : mV) (k : Nat), rRw r q y v → V E mX10_readRow 0 0 (fun o f' t' => o = .inl (some (.int (bI (rwOk u i j)))) ∧ t' = t ∧ ∃ y', f' = mdS f M y' ∧ rRw r q y y' ∧ (rwOk u i j = true → rwA y' r q (j - i) (fun k => ltr (mOct u (i + k))))) 81 [some (.ref M), some (.int (nI r)), some (.int (nI q)), some (.int (nI i)), some (.int (nI j)), some (.int (nI 0)), some (.int (nI k))] [] (mdS f M v) t 0 0 := by
    intro hno v k hv
    refine v_aload_n dX10_readRow_81 rfl (by rfl) ?_
    refine v_getf hE dX10_readRow_82 fX10_90 mdS_M (by rfl) ?_
    refine v_iconst (v := nI 4) dX10_readRow_85 (by decide) ?_
    refine v_iload_n dX10_readRow_86 rfl (by rfl) ?_
    refine v_imulN dX10_readRow_87 ?_
    refine v_iload_n dX10_readRow_88 rfl (by rfl) ?_
    refine v_iaddN dX10_readRow_89 ?_
    refine v_iload dX10_readRow_90 (by rfl) ?_
    refine v_if_eqN (tgt := 102) dX10_readRow_92 (by decide) (by omega) (fun c92 => ?_) (fun c92 => ?_)
    · refine v_iconst (v := nI 0) dX10_readRow_102 (by decide) ?_
      refine m_iast hE (k := 26) dX10_readRow_103 (by decide) (by decide) rfl (show _ < 960 by omega) (by omega) ?_
      refine v_iload dX10_readRow_104 (by rfl) ?_
      refine v_iret dX10_readRow_106 rfl (by first | rfl | exact nar_bI) ?_
      refine ⟨congrArg (fun x => (Sum.inl (some (Value.int x)) : aO)) (bI_f hno), rfl, _, rfl, rRw_6 hv, fun z => ?_⟩
      rw [hno] at z
      exact Bool.noConfusion z
    · exact absurd rfl c92
  have lp : i < j → j - i ≤ 24 → ∀ (d k : Nat) (v : mV), k + d = j → i ≤ k → rRw r q y v → (∀ k', k' < k - i → v.1 25 (26 * (4 * r + q) + k') = ltr (mOct u (i + k'))) → allB (rwP u) (j - i) i = allB (rwP u) (j - k) k → V E mX10_readRow 0 0 (fun o f' t' => o = .inl (some (.int (bI (rwOk u i j)))) ∧ t' = t ∧ ∃ y', f' = mdS f M y' ∧ rRw r q y y' ∧ (rwOk u i j = true → rwA y' r q (j - i) (fun k => ltr (mOct u (i + k))))) 15 [some (.ref M), some (.int (nI r)), some (.int (nI q)), some (.int (nI i)), some (.int (nI j)), some (.int (nI 1)), some (.int (nI k))] [] (mdS f M v) t 0 0 := by
    intro hij2 h24 d
    induction d using Nat.strongRecOn with
    | _ d ih =>
    intro k v hd hik hv hcel he
    refine v_iload dX10_readRow_15 (by rfl) ?_
    refine v_iload dX10_readRow_17 (by rfl) ?_
    refine v_icmp_geN (tgt := 81) dX10_readRow_19 (by decide) (by omega) (by omega) (fun c19 => ?_) (fun c19 => ?_)
    · refine v_aload_n dX10_readRow_81 rfl (by rfl) ?_
      refine v_getf hE dX10_readRow_82 fX10_90 mdS_M (by rfl) ?_
      refine v_iconst (v := nI 4) dX10_readRow_85 (by decide) ?_
      refine v_iload_n dX10_readRow_86 rfl (by rfl) ?_
      refine v_imulN dX10_readRow_87 ?_
      refine v_iload_n dX10_readRow_88 rfl (by rfl) ?_
      refine v_iaddN dX10_readRow_89 ?_
      refine v_iload dX10_readRow_90 (by rfl) ?_
      refine v_if_eqN (tgt := 102) dX10_readRow_92 (by decide) (by omega) (fun c92 => ?_) (fun c92 => ?_)
      · exact absurd c92 (by decide)
      · refine v_iload dX10_readRow_95 (by rfl) ?_
        refine v_iload_n dX10_readRow_97 rfl (by rfl) ?_
        refine v_isubN dX10_readRow_98 (by omega) ?_
        refine v_goto (tgt := 103) dX10_readRow_99 (by decide) ?_
        refine m_iast hE (k := 26) dX10_readRow_103 (by decide) (by decide) rfl (show _ < 960 by omega) (by omega) ?_
        refine v_iload dX10_readRow_104 (by rfl) ?_
        refine v_iret dX10_readRow_106 rfl (by first | rfl | exact nar_bI) ?_
        have hyes : rwOk u i j = true := by
          unfold rwOk
          rw [he, allB_0 (by omega), (in24 (by omega)).mpr (by omega)]
          rfl
        refine ⟨congrArg (fun x => (Sum.inl (some (Value.int x)) : aO)) (bI_t hyes), rfl, _, rfl, rRw_6 hv, fun _ => ⟨updS, fun k' hk' => ?_⟩⟩
        exact hcel k' (by omega)
    · refine v_iload dX10_readRow_22 (by rfl) ?_
      refine v_if_eqN (tgt := 81) dX10_readRow_24 (by decide) (by omega) (fun c24 => ?_) (fun c24 => ?_)
      · exact absurd c24 (by decide)
      · have hpv : mTp v u := ⟨by rw [hv.1]; exact hp.1, hp.2.1, by rw [hv.2.1 1 (by decide) (by decide)]; exact hp.2.2⟩
        refine v_aload_n dX10_readRow_27 rfl (by rfl) ?_
        refine v_iload dX10_readRow_28 (by rfl) ?_
        refine w_callV hE dX10_readRow_30 kX10_156 mdS_M (by rfl) (by rfl) (sX10_at hE (y := v) (u := u) hpv (by omega)) rfl (by decide) (by decide) (by exact Nat.le_of_ble_eq_true rfl) (by omega) (by omega) (fun v9 g9 u9 h9 => ?_) (fun _ _ _ h => by cases h.1)
        obtain ⟨hv9, hu9, hg9⟩ := h9
        replace hu9 := hu9.symm
        subst hu9
        subst hg9
        cases hv9
        refine w_callS hE dX10_readRow_33 kX10_174 (by rfl) (sX10_letterOf hE) rfl (by decide) (by decide) (by exact Nat.le_of_ble_eq_true rfl) (by omega) (by omega) (fun v9 g9 u9 h9 => ?_) (fun _ _ _ h => by cases h.1)
        obtain ⟨hv9, hu9, hg9⟩ := h9
        replace hu9 := hu9.symm
        replace hg9 := hg9.symm
        subst hu9
        subst hg9
        cases hv9
        refine v_iconst (v := (-1)) dX10_readRow_36 (by decide) ?_
        refine v_icmp_eq (tgt := 44) dX10_readRow_37 (by decide) (fun c37 => ?_) (fun c37 => ?_)
        · refine v_iconst (v := nI 0) dX10_readRow_44 (by decide) ?_
          refine v_istore dX10_readRow_45 (by decide) ?_
          refine v_aload_n dX10_readRow_47 rfl (by rfl) ?_
          refine v_getf hE dX10_readRow_48 fX10_87 mdS_M (by rfl) ?_
          refine v_bipush (v := nI 26) dX10_readRow_51 (by decide) ?_
          refine v_iconst (v := nI 4) dX10_readRow_53 (by decide) ?_
          refine v_iload_n dX10_readRow_54 rfl (by rfl) ?_
          refine v_imulN dX10_readRow_55 ?_
          refine v_iload_n dX10_readRow_56 rfl (by rfl) ?_
          refine v_iaddN dX10_readRow_57 ?_
          refine v_imulN dX10_readRow_58 ?_
          refine v_iload dX10_readRow_59 (by rfl) ?_
          refine v_iaddN dX10_readRow_61 ?_
          refine v_iload_n dX10_readRow_62 rfl (by rfl) ?_
          refine v_isubN dX10_readRow_63 (by omega) ?_
          refine v_aload_n dX10_readRow_64 rfl (by rfl) ?_
          refine v_iload dX10_readRow_65 (by rfl) ?_
          refine w_callV hE dX10_readRow_67 kX10_156 mdS_M (by rfl) (by rfl) (sX10_at hE (y := v) (u := u) hpv (by omega)) rfl (by decide) (by decide) (by exact Nat.le_of_ble_eq_true rfl) (by omega) (by omega) (fun v9 g9 u9 h9 => ?_) (fun _ _ _ h => by cases h.1)
          obtain ⟨hv9, hu9, hg9⟩ := h9
          replace hu9 := hu9.symm
          subst hu9
          subst hg9
          cases hv9
          refine w_callS hE dX10_readRow_70 kX10_174 (by rfl) (sX10_letterOf hE) rfl (by decide) (by decide) (by exact Nat.le_of_ble_eq_true rfl) (by omega) (by omega) (fun v9 g9 u9 h9 => ?_) (fun _ _ _ h => by cases h.1)
          obtain ⟨hv9, hu9, hg9⟩ := h9
          replace hu9 := hu9.symm
          replace hg9 := hg9.symm
          subst hu9
          subst hg9
          cases hv9
          refine v_i2b dX10_readRow_73 rfl ?_
          refine m_bast hE (k := 25) dX10_readRow_74 (by decide) (by decide) rfl (show _ < 24960 by omega) (by omega) ?_
          rw [i8_nar]
          refine v_iincN (y := 1) dX10_readRow_75 (by rfl) (by decide) (by decide) ?_
          refine v_goto (tgt := 15) dX10_readRow_78 (by decide) ?_
          refine v_iload dX10_readRow_15 (by rfl) ?_
          refine v_iload dX10_readRow_17 (by rfl) ?_
          refine v_icmp_geN (tgt := 81) dX10_readRow_19 (by decide) (by omega) (by omega) (fun c19 => ?_) (fun c19 => ?_)
          · exact ex0 (by
              unfold rwOk
              rw [he, allB_f (p := rwP u) (j := j) (by omega) (decide_eq_false (fun z => z c37)), Bool.and_false]) _ _ (rRw_5 hv (by omega) (i8_nar _))
          · refine v_iload dX10_readRow_22 (by rfl) ?_
            refine v_if_eqN (tgt := 81) dX10_readRow_24 (by decide) (by omega) (fun c24 => ?_) (fun c24 => ?_)
            · exact ex0 (by
                unfold rwOk
                rw [he, allB_f (p := rwP u) (j := j) (by omega) (decide_eq_false (fun z => z c37)), Bool.and_false]) _ _ (rRw_5 hv (by omega) (i8_nar _))
            · exact absurd rfl c24
        · refine v_iconst (v := nI 1) dX10_readRow_40 (by decide) ?_
          refine v_goto (tgt := 45) dX10_readRow_41 (by decide) ?_
          refine v_istore dX10_readRow_45 (by decide) ?_
          refine v_aload_n dX10_readRow_47 rfl (by rfl) ?_
          refine v_getf hE dX10_readRow_48 fX10_87 mdS_M (by rfl) ?_
          refine v_bipush (v := nI 26) dX10_readRow_51 (by decide) ?_
          refine v_iconst (v := nI 4) dX10_readRow_53 (by decide) ?_
          refine v_iload_n dX10_readRow_54 rfl (by rfl) ?_
          refine v_imulN dX10_readRow_55 ?_
          refine v_iload_n dX10_readRow_56 rfl (by rfl) ?_
          refine v_iaddN dX10_readRow_57 ?_
          refine v_imulN dX10_readRow_58 ?_
          refine v_iload dX10_readRow_59 (by rfl) ?_
          refine v_iaddN dX10_readRow_61 ?_
          refine v_iload_n dX10_readRow_62 rfl (by rfl) ?_
          refine v_isubN dX10_readRow_63 (by omega) ?_
          refine v_aload_n dX10_readRow_64 rfl (by rfl) ?_
          refine v_iload dX10_readRow_65 (by rfl) ?_
          refine w_callV hE dX10_readRow_67 kX10_156 mdS_M (by rfl) (by rfl) (sX10_at hE (y := v) (u := u) hpv (by omega)) rfl (by decide) (by decide) (by exact Nat.le_of_ble_eq_true rfl) (by omega) (by omega) (fun v9 g9 u9 h9 => ?_) (fun _ _ _ h => by cases h.1)
          obtain ⟨hv9, hu9, hg9⟩ := h9
          replace hu9 := hu9.symm
          subst hu9
          subst hg9
          cases hv9
          refine w_callS hE dX10_readRow_70 kX10_174 (by rfl) (sX10_letterOf hE) rfl (by decide) (by decide) (by exact Nat.le_of_ble_eq_true rfl) (by omega) (by omega) (fun v9 g9 u9 h9 => ?_) (fun _ _ _ h => by cases h.1)
          obtain ⟨hv9, hu9, hg9⟩ := h9
          replace hu9 := hu9.symm
          replace hg9 := hg9.symm
          subst hu9
          subst hg9
          cases hv9
          refine v_i2b dX10_readRow_73 rfl ?_
          refine m_bast hE (k := 25) dX10_readRow_74 (by decide) (by decide) rfl (show _ < 24960 by omega) (by omega) ?_
          rw [i8_nar]
          refine v_iincN (y := 1) dX10_readRow_75 (by rfl) (by decide) (by decide) ?_
          refine v_goto (tgt := 15) dX10_readRow_78 (by decide) ?_
          refine ih (d - 1) (by omega) (k + 1) _ (by omega) (by omega) (rRw_5 hv (by omega) (i8_nar _)) (fun k' hk' => ?_) (he.trans (allB_s (p := rwP u) (j := j) (by omega) (decide_eq_true c37)))
          show upd (v.1 25) (26 * (4 * r + q) + k - i) _ (26 * (4 * r + q) + k') = _
          by_cases e : k' = k - i
          · rw [show 26 * (4 * r + q) + k' = 26 * (4 * r + q) + k - i by omega, updS, e, show i + (k - i) = k by omega]
            obtain ⟨c, c1, c2⟩ := ltr_c c37
            rw [c2, byt c c1]
          · rw [updN (by omega)]
            exact hcel k' (by omega)
  refine v_iload dX10_readRow_0 (by rfl) ?_
  refine v_iload_n dX10_readRow_2 rfl (by rfl) ?_
  refine v_isubN dX10_readRow_3 (by omega) ?_
  refine v_iconst (v := nI 1) dX10_readRow_4 (by decide) ?_
  refine v_bipush (v := nI 24) dX10_readRow_5 (by decide) ?_
  refine w_callS hE dX10_readRow_7 kX10_136 (by rfl) (sX10_in hE) rfl (by decide) (by decide) (by exact Nat.le_of_ble_eq_true rfl) (by omega) (by omega) (fun v9 g9 u9 h9 => ?_) (fun _ _ _ h => by cases h.1)
  obtain ⟨hv9, hu9, hg9⟩ := h9
  replace hu9 := hu9.symm
  replace hg9 := hg9.symm
  subst hu9
  subst hg9
  cases hv9
  refine v_istore dX10_readRow_10 (by decide) ?_
  refine v_iload_n dX10_readRow_12 rfl (by rfl) ?_
  refine v_istore dX10_readRow_13 (by decide) ?_
  cases hb : mIn (nI (j - i)) (nI 1) (nI 24) with
  | true =>
    obtain ⟨h1, h2⟩ := (in24 (by omega)).mp hb
    exact lp h1 h2 (j - i) i y (by omega) (Nat.le_refl _) (rRw_r hO) (fun k' hk' => by omega) rfl
  | false =>
    refine v_iload dX10_readRow_15 (by rfl) ?_
    refine v_iload dX10_readRow_17 (by rfl) ?_
    refine v_icmp_geN (tgt := 81) dX10_readRow_19 (by decide) (by omega) (by omega) (fun c19 => ?_) (fun c19 => ?_)
    · exact ex0 (by unfold rwOk; rw [hb]; rfl) y i (rRw_r hO)
    · refine v_iload dX10_readRow_22 (by rfl) ?_
      refine v_if_eqN (tgt := 81) dX10_readRow_24 (by decide) (by omega) (fun c24 => ?_) (fun c24 => ?_)
      · exact ex0 (by unfold rwOk; rw [hb]; rfl) y i (rRw_r hO)
      · exact absurd rfl c24
