/-! reading the reference's row -/
/-- what a reading leaves: no fault, or fault F at Q -/
def fO (s s2 : Nat → Int32) (F Q : Nat) : Prop := (F = 0 ∧ s2 = s) ∨ (F ≠ 0 ∧ s2 43 = nI F ∧ s2 44 = nI Q ∧ ∀ j, j ≠ 43 → j ≠ 44 → s2 j = s j)
theorem fO_b {s : Nat → Int32} {F Q : Nat} (h : F ≠ 0) : fO s (va_up (va_up s 43 (nI F)) 44 (nI Q)) F Q := Or.inr ⟨h, rfl, rfl, fun j a b => (va_up_ne _ _ b).trans (va_up_ne _ _ a)⟩
theorem mBad_n {y : mV} {n p : Int32} {F : Nat} (h : y.2 43 = nI F) (h0 : F ≠ 0) (hF : F < 100) : mBad y n p = y := if_neg (by rw [h]; exact nI_n (b := 0) h0 (by omega) (by decide))
def rfP (u : tS) (g : gV) (i s p k : Nat) : Bool := decide (gnLet g s (p + k) = ltr (mOct u (i + k)))
def rfF (u : tS) (g : gV) (i j s p : Nat) : Nat := if rwOk u i j = false then 4 else if allB (rfP u g i s p) (j - i - 0) 0 = false then 5 else 0
set_option maxRecDepth 100000 in
set_option maxHeartbeats 1500000 in
/-- model: readRef -/
theorem sX10_readRef {E : eN} (hE : eOk E) {f : aH} {t : Nat} {M : Nat} {y : mV} {u : tS} {g : gV} {r i j s p : Nat} (hp : mTp y u) (hO : aNw y.1) (hF : y.2 43 = nI 0) (hg : mGn y g) (hgo : gOk g) (hr : r < 240) (hij : i ≤ j) (hj : j < 2 ^ 28) (hs : y.1 20 r = nI s) (hpl : y.1 21 r = nI p) (hs2 : s < gCt g) (hp1 : 1 ≤ p) (hp2 : p ≤ gSz g s) : mT E mX10_readRef 0 0 [.ref M, .int (nI r), .int (nI i), .int (nI j)] (mdS f M y) t (fun o f' t' => o = .inl none ∧ t' = t ∧ ∃ y', f' = mdS f M y' ∧ rRw r 0 (y.1, y'.2) y' ∧ fO y.2 y'.2 (rfF u g i j s p) i ∧ (rfF u g i j s p = 0 → rwA y' r 0 (j - i) (fun k => ltr (mOct u (i + k))))) := by
  refine mT_of (n := 2) (lo := [some (.ref M), some (.int (nI r)), some (.int (nI i)), some (.int (nI j)), none, none]) (by decide) (by exact Nat.le_of_ble_eq_true rfl) rfl rfl ?_
  have hb1 := hgo.2.2.2 s hs2
  have hb2 := hgo.2.2.1
  have hb3 := hgo.1.1
  have hb4 := hgo.2.1
  have lpF : j - i ≤ 24 → ∀ v : mV, v.2 43 = nI 5 → v.1 20 r = nI s → v.1 21 r = nI p → mGn v g → p + (j - i) ≤ gSz g s + 1 → rwA v r 0 (j - i) (fun k => ltr (mOct u (i + k))) → ((fun o f' t' => o = .inl none ∧ t' = t ∧ ∃ y', f' = mdS f M y' ∧ rRw r 0 (y.1, y'.2) y' ∧ fO y.2 y'.2 (rfF u g i j s p) i ∧ (rfF u g i j s p = 0 → rwA y' r 0 (j - i) (fun k => ltr (mOct u (i + k))))) : aP) (Sum.inl none) (mdS f M v) t → ∀ (d k : Nat), k + d = j - i → V E mX10_readRef 0 0 (fun o f' t' => o = .inl none ∧ t' = t ∧ ∃ y', f' = mdS f M y' ∧ rRw r 0 (y.1, y'.2) y' ∧ fO y.2 y'.2 (rfF u g i j s p) i ∧ (rfF u g i j s p = 0 → rwA y' r 0 (j - i) (fun k => ltr (mOct u (i + k))))) 63 [some (.ref M), some (.int (nI r)), some (.int (nI i)), some (.int (nI j)), some (.int (nI (j - i))), some (.int (nI k))] [] (mdS f M v) t 0 0 := by
    intro h24 v hF5 h20 h21 hgv hps hrow hend d
    induction d using Nat.strongRecOn with
    | _ d ih =>
    intro k hk
    refine v_iload dX10_readRef_63 (by rfl) ?_
    refine v_iload dX10_readRef_65 (by rfl) ?_
    refine v_icmp_geN (tgt := 116) dX10_readRef_67 (by decide) (by omega) (by omega) (fun c67 => ?_) (fun c67 => ?_)
    · refine v_ret dX10_readRef_116 rfl ?_
      exact hend
    · refine v_aload_n dX10_readRef_70 rfl (by rfl) ?_
      refine v_getf hE dX10_readRef_71 fX10_87 mdS_M (by rfl) ?_
      refine v_bipush (v := nI 104) dX10_readRef_74 (by decide) ?_
      refine v_iload_n dX10_readRef_76 rfl (by rfl) ?_
      refine v_imulN dX10_readRef_77 ?_
      refine v_iload dX10_readRef_78 (by rfl) ?_
      refine v_iaddN dX10_readRef_80 ?_
      refine m_bald hE (k := 25) dX10_readRef_81 (by decide) (by decide) rfl (show _ < 24960 by omega) (by omega) ?_
      refine v_eqi (y := ltr (mOct u (i + k))) (by have := hrow.2 k (by omega); rw [show 26 * (4 * r + 0) + k = 104 * r + k by omega] at this; exact this) ?_
      refine v_aload_n dX10_readRef_82 rfl (by rfl) ?_
      refine v_aload_n dX10_readRef_83 rfl (by rfl) ?_
      refine v_getf hE dX10_readRef_84 fX10_72 mdS_M (by rfl) ?_
      refine v_iload_n dX10_readRef_87 rfl (by rfl) ?_
      refine m_iald hE (k := 20) dX10_readRef_88 (by decide) (by decide) rfl (show _ < 240 by omega) (by omega) ?_
      refine v_eqi (y := nI s) h20 ?_
      refine v_aload_n dX10_readRef_89 rfl (by rfl) ?_
      refine v_getf hE dX10_readRef_90 fX10_75 mdS_M (by rfl) ?_
      refine v_iload_n dX10_readRef_93 rfl (by rfl) ?_
      refine m_iald hE (k := 21) dX10_readRef_94 (by decide) (by decide) rfl (show _ < 240 by omega) (by omega) ?_
      refine v_eqi (y := nI p) h21 ?_
      refine v_iload dX10_readRef_95 (by rfl) ?_
      refine v_iaddN dX10_readRef_97 ?_
      refine w_callV hE dX10_readRef_98 kX10_255 mdS_M (by rfl) (by rfl) (sX10_refAt hE (y := v) (g := g) (s := s) (p := p + k) hgv hgo hs2 (by omega) (by omega)) rfl (by decide) (by decide) (by exact Nat.le_of_ble_eq_true rfl) (by omega) (by omega) (fun v9 g9 u9 h9 => ?_) (fun _ _ _ h => by cases h.1)
      obtain ⟨hv9, hu9, hg9⟩ := h9
      replace hu9 := hu9.symm
      subst hu9
      subst hg9
      cases hv9
      refine v_icmp_eq (tgt := 110) dX10_readRef_101 (by decide) (fun c101 => ?_) (fun c101 => ?_)
      · refine v_iincN (y := 1) dX10_readRef_110 (by rfl) (by decide) (by decide) ?_
        refine v_goto (tgt := 63) dX10_readRef_113 (by decide) ?_
        exact ih (d - 1) (by omega) (k + 1) (by omega)
      · refine v_aload_n dX10_readRef_104 rfl (by rfl) ?_
        refine v_iconst (v := nI 5) dX10_readRef_105 (by decide) ?_
        refine v_iload_n dX10_readRef_106 rfl (by rfl) ?_
        refine w_callV hE dX10_readRef_107 kX10_160 mdS_M (by rfl) (by rfl) (sX10_bad hE) rfl (by decide) (by decide) (by exact Nat.le_of_ble_eq_true rfl) (by omega) (by omega) (fun v9 g9 u9 h9 => ?_) (fun _ _ _ h => by cases h.1)
        obtain ⟨hv9, hu9, hg9⟩ := h9
        replace hu9 := hu9.symm
        subst hu9
        subst hg9
        cases hv9
        rw [mBad_n (F := 5) hF5 (by decide) (by decide)]
        refine v_iincN (y := 1) dX10_readRef_110 (by rfl) (by decide) (by decide) ?_
        refine v_goto (tgt := 63) dX10_readRef_113 (by decide) ?_
        exact ih (d - 1) (by omega) (k + 1) (by omega)
  have lpT : j - i ≤ 24 → rwOk u i j = true → ∀ v : mV, rRw r 0 y v → v.1 20 r = nI s → v.1 21 r = nI p → mGn v g → p + (j - i) ≤ gSz g s + 1 → rwA v r 0 (j - i) (fun k => ltr (mOct u (i + k))) → ∀ (d k : Nat), k + d = j - i → allB (rfP u g i s p) (j - i - 0) 0 = allB (rfP u g i s p) (j - i - k) k → V E mX10_readRef 0 0 (fun o f' t' => o = .inl none ∧ t' = t ∧ ∃ y', f' = mdS f M y' ∧ rRw r 0 (y.1, y'.2) y' ∧ fO y.2 y'.2 (rfF u g i j s p) i ∧ (rfF u g i j s p = 0 → rwA y' r 0 (j - i) (fun k => ltr (mOct u (i + k))))) 63 [some (.ref M), some (.int (nI r)), some (.int (nI i)), some (.int (nI j)), some (.int (nI (j - i))), some (.int (nI k))] [] (mdS f M v) t 0 0 := by
    intro h24 hyes v hv h20 h21 hgv hps hrow d
    have hFv : v.2 43 = nI 0 := by rw [hv.1]; exact hF
    induction d using Nat.strongRecOn with
    | _ d ih =>
    intro k hk he
    refine v_iload dX10_readRef_63 (by rfl) ?_
    refine v_iload dX10_readRef_65 (by rfl) ?_
    refine v_icmp_geN (tgt := 116) dX10_readRef_67 (by decide) (by omega) (by omega) (fun c67 => ?_) (fun c67 => ?_)
    · refine v_ret dX10_readRef_116 rfl ?_
      have hz : rfF u g i j s p = 0 := by
        unfold rfF
        rw [hyes, if_neg (by decide), he, allB_0 (by omega), if_neg (by decide)]
      refine ⟨rfl, rfl, v, rfl, ⟨rfl, hv.2.1, hv.2.2.1, hv.2.2.2.1, hv.2.2.2.2⟩, Or.inl ⟨hz, hv.1⟩, fun _ => hrow⟩
    · refine v_aload_n dX10_readRef_70 rfl (by rfl) ?_
      refine v_getf hE dX10_readRef_71 fX10_87 mdS_M (by rfl) ?_
      refine v_bipush (v := nI 104) dX10_readRef_74 (by decide) ?_
      refine v_iload_n dX10_readRef_76 rfl (by rfl) ?_
      refine v_imulN dX10_readRef_77 ?_
      refine v_iload dX10_readRef_78 (by rfl) ?_
      refine v_iaddN dX10_readRef_80 ?_
      refine m_bald hE (k := 25) dX10_readRef_81 (by decide) (by decide) rfl (show _ < 24960 by omega) (by omega) ?_
      refine v_eqi (y := ltr (mOct u (i + k))) (by have := hrow.2 k (by omega); rw [show 26 * (4 * r + 0) + k = 104 * r + k by omega] at this; exact this) ?_
      refine v_aload_n dX10_readRef_82 rfl (by rfl) ?_
      refine v_aload_n dX10_readRef_83 rfl (by rfl) ?_
      refine v_getf hE dX10_readRef_84 fX10_72 mdS_M (by rfl) ?_
      refine v_iload_n dX10_readRef_87 rfl (by rfl) ?_
      refine m_iald hE (k := 20) dX10_readRef_88 (by decide) (by decide) rfl (show _ < 240 by omega) (by omega) ?_
      refine v_eqi (y := nI s) h20 ?_
      refine v_aload_n dX10_readRef_89 rfl (by rfl) ?_
      refine v_getf hE dX10_readRef_90 fX10_75 mdS_M (by rfl) ?_
      refine v_iload_n dX10_readRef_93 rfl (by rfl) ?_
      refine m_iald hE (k := 21) dX10_readRef_94 (by decide) (by decide) rfl (show _ < 240 by omega) (by omega) ?_
      refine v_eqi (y := nI p) h21 ?_
      refine v_iload dX10_readRef_95 (by rfl) ?_
      refine v_iaddN dX10_readRef_97 ?_
      refine w_callV hE dX10_readRef_98 kX10_255 mdS_M (by rfl) (by rfl) (sX10_refAt hE (y := v) (g := g) (s := s) (p := p + k) hgv hgo hs2 (by omega) (by omega)) rfl (by decide) (by decide) (by exact Nat.le_of_ble_eq_true rfl) (by omega) (by omega) (fun v9 g9 u9 h9 => ?_) (fun _ _ _ h => by cases h.1)
      obtain ⟨hv9, hu9, hg9⟩ := h9
      replace hu9 := hu9.symm
      subst hu9
      subst hg9
      cases hv9
      refine v_icmp_eq (tgt := 110) dX10_readRef_101 (by decide) (fun c101 => ?_) (fun c101 => ?_)
      · refine v_iincN (y := 1) dX10_readRef_110 (by rfl) (by decide) (by decide) ?_
        refine v_goto (tgt := 63) dX10_readRef_113 (by decide) ?_
        exact ih (d - 1) (by omega) (k + 1) (by omega) (he.trans (allB_s (p := rfP u g i s p) (j := j - i) (by omega) (decide_eq_true c101.symm)))
      · refine v_aload_n dX10_readRef_104 rfl (by rfl) ?_
        refine v_iconst (v := nI 5) dX10_readRef_105 (by decide) ?_
        refine v_iload_n dX10_readRef_106 rfl (by rfl) ?_
        refine w_callV hE dX10_readRef_107 kX10_160 mdS_M (by rfl) (by rfl) (sX10_bad hE) rfl (by decide) (by decide) (by exact Nat.le_of_ble_eq_true rfl) (by omega) (by omega) (fun v9 g9 u9 h9 => ?_) (fun _ _ _ h => by cases h.1)
        obtain ⟨hv9, hu9, hg9⟩ := h9
        replace hu9 := hu9.symm
        subst hu9
        subst hg9
        cases hv9
        rw [mBad_0 hFv]
        refine v_iincN (y := 1) dX10_readRef_110 (by rfl) (by decide) (by decide) ?_
        refine v_goto (tgt := 63) dX10_readRef_113 (by decide) ?_
        have hz : rfF u g i j s p = 5 := by
          unfold rfF
          rw [hyes, if_neg (by decide), he, allB_f (p := rfP u g i s p) (j := j - i) (by omega) (decide_eq_false (fun z => c101 z.symm)), if_pos rfl]
        exact lpF h24 (v.1, va_up (va_up v.2 43 (nI 5)) 44 (nI i)) rfl h20 h21 hgv hps hrow ⟨rfl, rfl, _, rfl, ⟨rfl, hv.2.1, hv.2.2.1, hv.2.2.2.1, hv.2.2.2.2⟩, (by rw [hz, ← hv.1]; exact fO_b (by decide)), fun z => absurd (hz.symm.trans z) (by decide)⟩ (d - 1) (k + 1) (by omega)
  refine v_aload_n dX10_readRef_0 rfl (by rfl) ?_
  refine v_iload_n dX10_readRef_1 rfl (by rfl) ?_
  refine v_iconst (v := nI 0) dX10_readRef_2 (by decide) ?_
  refine v_iload_n dX10_readRef_3 rfl (by rfl) ?_
  refine v_iload_n dX10_readRef_4 rfl (by rfl) ?_
  refine w_callV hE dX10_readRef_5 kX10_252 mdS_M (by rfl) (by rfl) (sX10_readRow hE (u := u) hp hO hr (by decide) hij hj) rfl (by decide) (by decide) (by exact Nat.le_of_ble_eq_true rfl) (by omega) (by omega) (fun v9 g9 u9 h9 => ?_) (fun _ _ _ h => by cases h.1)
  obtain ⟨hv9, hu9, v, hg9, hv, hrow⟩ := h9
  replace hu9 := hu9.symm
  subst hu9
  subst hg9
  cases hv9
  have hFv : v.2 43 = nI 0 := by rw [hv.1]; exact hF
  refine v_if_neB (tgt := 18) dX10_readRef_8 (by decide) (fun c8 => ?_) (fun c8 => ?_)
  · replace hrow := hrow c8
    obtain ⟨hlt, h24⟩ := (in24 (i := i) (j := j) (by omega)).mp (by have c9 := c8; unfold rwOk at c9; rw [Bool.and_eq_true] at c9; exact c9.1)
    have h20 : v.1 20 r = nI s := by rw [hv.2.1 20 (by decide) (by decide)]; exact hs
    have h21 : v.1 21 r = nI p := by rw [hv.2.1 21 (by decide) (by decide)]; exact hpl
    have hgv : mGn v g := by
      obtain ⟨g1, g2, g3⟩ := hg
      refine ⟨by rw [hv.1]; exact g1, fun s' hs' => ?_, fun k hk => ?_⟩
      · rw [hv.2.1 3 (by decide) (by decide), hv.2.1 2 (by decide) (by decide), hv.2.1 5 (by decide) (by decide), hv.2.1 6 (by decide) (by decide), hv.2.1 7 (by decide) (by decide), hv.2.1 8 (by decide) (by decide)]
        exact g2 s' hs'
      · rw [hv.2.1 4 (by decide) (by decide)]
        exact g3 k hk
    refine v_aload_n dX10_readRef_18 rfl (by rfl) ?_
    refine v_getf hE dX10_readRef_19 fX10_90 mdS_M (by rfl) ?_
    refine v_iconst (v := nI 4) dX10_readRef_22 (by decide) ?_
    refine v_iload_n dX10_readRef_23 rfl (by rfl) ?_
    refine v_imulN dX10_readRef_24 ?_
    refine m_iald hE (k := 26) dX10_readRef_25 (by decide) (by decide) rfl (show _ < 960 by omega) (by omega) ?_
    refine v_eqi (y := nI (j - i)) hrow.1 ?_
    refine v_istore dX10_readRef_26 (by decide) ?_
    refine v_aload_n dX10_readRef_28 rfl (by rfl) ?_
    refine v_getf hE dX10_readRef_29 fX10_75 mdS_M (by rfl) ?_
    refine v_iload_n dX10_readRef_32 rfl (by rfl) ?_
    refine m_iald hE (k := 21) dX10_readRef_33 (by decide) (by decide) rfl (show _ < 240 by omega) (by omega) ?_
    refine v_eqi (y := nI p) h21 ?_
    refine v_iload dX10_readRef_34 (by rfl) ?_
    refine v_iaddN dX10_readRef_36 ?_
    refine v_iconst (v := nI 1) dX10_readRef_37 (by decide) ?_
    refine v_isubN dX10_readRef_38 (by omega) ?_
    refine v_aload_n dX10_readRef_39 rfl (by rfl) ?_
    refine v_getf hE dX10_readRef_40 fX10_30 mdS_M (by rfl) ?_
    refine v_aload_n dX10_readRef_43 rfl (by rfl) ?_
    refine v_getf hE dX10_readRef_44 fX10_72 mdS_M (by rfl) ?_
    refine v_iload_n dX10_readRef_47 rfl (by rfl) ?_
    refine m_iald hE (k := 20) dX10_readRef_48 (by decide) (by decide) rfl (show _ < 240 by omega) (by omega) ?_
    refine v_eqi (y := nI s) h20 ?_
    refine m_iald hE (k := 6) dX10_readRef_49 (by decide) (by decide) rfl (show _ < 9 by omega) (by omega) ?_
    refine v_eqi (y := nI (gSz g s)) (hgv.2.1 s hs2).2.2.2.1 ?_
    refine v_icmp_leN (tgt := 60) dX10_readRef_50 (by decide) (by omega) (by omega) (fun c50 => ?_) (fun c50 => ?_)
    · refine v_iconst (v := nI 0) dX10_readRef_60 (by decide) ?_
      refine v_istore dX10_readRef_61 (by decide) ?_
      exact lpT h24 c8 v hv h20 h21 hgv (by omega) hrow (j - i) 0 (by omega) rfl
    · refine v_aload_n dX10_readRef_53 rfl (by rfl) ?_
      refine v_iconst (v := nI 5) dX10_readRef_54 (by decide) ?_
      refine v_iload_n dX10_readRef_55 rfl (by rfl) ?_
      refine w_callV hE dX10_readRef_56 kX10_160 mdS_M (by rfl) (by rfl) (sX10_bad hE) rfl (by decide) (by decide) (by exact Nat.le_of_ble_eq_true rfl) (by omega) (by omega) (fun v9 g9 u9 h9 => ?_) (fun _ _ _ h => by cases h.1)
      obtain ⟨hv9, hu9, hg9⟩ := h9
      replace hu9 := hu9.symm
      subst hu9
      subst hg9
      cases hv9
      rw [mBad_0 hFv]
      refine v_ret dX10_readRef_59 rfl ?_
      have hz : rfF u g i j s p = 5 := by
        unfold rfF
        rw [c8, if_neg (by decide), if_pos]
        refine Bool.eq_false_iff.mpr (fun z => ?_)
        have h1 := of_decide_eq_true ((allB_iff _ _ |>.mp z) (j - i - 1) (by omega) (by omega))
        have h2 : gnLet g s (p + (j - i - 1)) = -1 := if_neg (fun q => by omega)
        have c9 := c8
        unfold rwOk at c9
        rw [Bool.and_eq_true] at c9
        have h3 := of_decide_eq_true ((allB_iff _ _ |>.mp c9.2) (i + (j - i - 1)) (by omega) (by omega))
        exact h3 (h1.symm.trans h2)
      exact ⟨rfl, rfl, _, rfl, ⟨rfl, hv.2.1, hv.2.2.1, hv.2.2.2.1, hv.2.2.2.2⟩, (by rw [hz, ← hv.1]; exact fO_b (by decide)), fun z => absurd (hz.symm.trans z) (by decide)⟩
  · refine v_aload_n dX10_readRef_11 rfl (by rfl) ?_
    refine v_iconst (v := nI 4) dX10_readRef_12 (by decide) ?_
    refine v_iload_n dX10_readRef_13 rfl (by rfl) ?_
    refine w_callV hE dX10_readRef_14 kX10_160 mdS_M (by rfl) (by rfl) (sX10_bad hE) rfl (by decide) (by decide) (by exact Nat.le_of_ble_eq_true rfl) (by omega) (by omega) (fun v9 g9 u9 h9 => ?_) (fun _ _ _ h => by cases h.1)
    obtain ⟨hv9, hu9, hg9⟩ := h9
    replace hu9 := hu9.symm
    subst hu9
    subst hg9
    cases hv9
    rw [mBad_0 hFv]
    refine v_ret dX10_readRef_17 rfl ?_
    have hz : rfF u g i j s p = 4 := by
      unfold rfF
      rw [if_pos c8]
    exact ⟨rfl, rfl, _, rfl, ⟨rfl, hv.2.1, hv.2.2.1, hv.2.2.2.1, hv.2.2.2.2⟩, (by rw [hz, ← hv.1]; exact fO_b (by decide)), fun z => absurd (hz.symm.trans z) (by decide)⟩
