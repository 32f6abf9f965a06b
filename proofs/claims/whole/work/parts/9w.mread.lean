/-! read -/
theorem mRel_rd {x x' : dV} {y z : mV} (hR : mRel x y) (h1 : ∀ k, k < 16 ∨ (31 < k ∧ k < 35) → z.1 k = y.1 k) (h2 : ∀ j, j ≠ 0 → j ≠ 2 → j ≠ 3 → j < 43 → z.2 j = y.2 j) (h3 : aNw z.1) (h4 : z.2 2 = nI 0) (eG : dG x' 0 = dG x 0) (eT1 : dT x' 1 = dT x 1) (eT0 : (dT x' 0).1 = 0) (eH : dH x' = dH x) (hF : z.2 3 = dF x') (h5 : ∀ i, i < 2 → mTb z i (dZ x' i) (dW x')) (h6 : dLv x') : mRel x' z := by
  obtain ⟨a1, ⟨b1, b2, b3⟩, ⟨c1, c2, c3⟩, a4, ⟨d1, d2, d3⟩, ⟨e1, e2, e3, f1, f2, f3, f4, f5, f6, f7⟩, a7, a8⟩ := hR
  refine ⟨h3, ⟨by rw [eT0]; exact h4, by rw [eT0]; exact Nat.zero_le _, fun k hk => absurd hk (by rw [eT0]; omega)⟩, ?_, h5, ?_, ?_, hF, h6⟩
  · rw [eG]
    refine ⟨(h2 4 (by decide) (by decide) (by decide) (by decide)).trans c1, fun s hs => ?_, fun k hk => ?_⟩
    · rw [h1 3 (by omega), h1 2 (by omega), h1 5 (by omega), h1 6 (by omega), h1 7 (by omega), h1 8 (by omega)]
      exact c2 s hs
    · rw [h1 4 (by omega)]
      exact c3 k hk
  · rw [eT1]
    refine ⟨(h2 37 (by decide) (by decide) (by decide) (by decide)).trans d1, d2, fun k hk => ?_⟩
    rw [h1 32 (by omega)]
    exact d3 k hk
  · rw [eH]
    refine ⟨e1, e2, e3, (h2 38 (by decide) (by decide) (by decide) (by decide)).trans f1, (h2 39 (by decide) (by decide) (by decide) (by decide)).trans f2, f3, (h2 40 (by decide) (by decide) (by decide) (by decide)).trans f4, f5, fun q => ?_, fun q => ?_⟩
    · rw [h1 33 (by omega)]
      exact f6 q
    · rw [h1 34 (by omega)]
      exact f7 q
theorem rTb_M {D : Nat} {x : dV} {y v : mV} {c : Nat} {W : Nat → eV} (hI : dOk D x) (hm : mTb y c (dZ x c) (dW x)) (h : rTb y v) (hc : c < 2) (hW : ∀ k, k < 60 → W ((dZ x c).1 k) = dW x ((dZ x c).1 k)) : mTb v c (dZ x c) W := by
  obtain ⟨m1, m2, m3, m4⟩ := hm
  obtain ⟨t1, t2, t3, t4, t5, t6⟩ := h
  obtain ⟨⟨s1, s2, s3⟩, s4⟩ := hI.2.2.1 c (by omega)
  refine ⟨(t2 c (by omega)).1.trans m1, (t2 c (by omega)).2.trans m2, fun s hs => ⟨(t3 _ (by omega)).trans (m3 s hs).1, fun k hk => ?_⟩, fun k hk => ?_⟩
  · have := s3 s
    rw [t4 _ (by omega)]
    exact (m3 s hs).2 k hk
  · rw [hW k (by omega)]
    exact smR_E (t6 _ (by omega)) (m4 k hk) (hI.2.2.2.1 _ (dre_X hI (show c < 3 by omega) k (by omega))) s1
/-- the tables after a table was copied from the spare one -/
theorem mCT_M {v v2 : mV} {i c : Nat} {z : sV} {W : Nat → eV} {s : Nat → Int32} (hm : mTb v c z W) (hz : shOk z) (hw : ∀ k, k < z.2.2 → enOk (W (z.1 k))) (hc : c < 2) (hi : i < 2) (hci : c ≠ i) (h : mFr (tB i) (mCT (va_up (va_up v.1 16 (upd (v.1 16) i (v.1 16 2))) 17 (upd (v.1 17) i (v.1 17 2)), s) i 2) v2) : mTb v2 c z W := by
  obtain ⟨m1, m2, m3, m4⟩ := hm
  obtain ⟨f1, f2, f3, f4⟩ := h
  obtain ⟨⟨s1, s2, s3⟩, s4⟩ := hz
  refine ⟨?_, ?_, fun r hr => ?_, fun k hk => ?_⟩
  · rw [f2 16 (by omega), mCT_k (by decide) (by decide)]
    show upd (v.1 16) i (v.1 16 2) c = _
    rw [updN hci]
    exact m1
  · rw [f2 17 (by omega), mCT_k (by decide) (by decide)]
    show upd (v.1 17) i (v.1 17 2) c = _
    rw [updN hci]
    exact m2
  · obtain ⟨n1, n2⟩ := mCT_o (y := (va_up (va_up v.1 16 (upd (v.1 16) i (v.1 16 2))) 17 (upd (v.1 17) i (v.1 17 2)), s)) (a := i) (b := 2) hci (show r < 3 by omega)
    rw [f2 19 (by omega), f2 18 (by omega)]
    refine ⟨n1.trans (m3 r hr).1, fun k hk => (n2 k (by have := s3 r; omega)).trans ((m3 r hr).2 k hk)⟩
  · exact f4 _ _ _ (fun q => by
      unfold tB at q
      omega) (show mE (mCT (va_up (va_up v.1 16 (upd (v.1 16) i (v.1 16 2))) 17 (upd (v.1 17) i (v.1 17 2)), s) i 2) (60 * c + k) (W (z.1 k)) z.2.1.1 from m4 k hk) (hw k hk) s1
theorem mCT_N {v v2 : mV} {i : Nat} {z : sV} {W : Nat → eV} {s : Nat → Int32} (hi : i < 2) (h16 : v.1 16 2 = nI z.2.2) (hn : nmH v z.2.1 z.2.1.1) (h : mFr (tB i) (mCT (va_up (va_up v.1 16 (upd (v.1 16) i (v.1 16 2))) 17 (upd (v.1 17) i (v.1 17 2)), s) i 2) v2) (hr : ∀ k, k < z.2.2 → mE v2 (60 * i + k) (W (z.1 k)) z.2.1.1) : mTb v2 i z W := by
  obtain ⟨f1, f2, f3, f4⟩ := h
  obtain ⟨n1, n2, n3, n4⟩ := hn
  refine ⟨?_, ?_, fun r hr => ?_, hr⟩
  · rw [f2 16 (by omega), mCT_k (by decide) (by decide)]
    show upd (v.1 16) i (v.1 16 2) i = _
    rw [updS]
    exact h16
  · rw [f2 17 (by omega), mCT_k (by decide) (by decide)]
    show upd (v.1 17) i (v.1 17 2) i = _
    rw [updS]
    exact n3
  · obtain ⟨q1, q2⟩ := mCT_a (y := (va_up (va_up v.1 16 (upd (v.1 16) i (v.1 16 2))) 17 (upd (v.1 17) i (v.1 17 2)), s)) (a := i) (b := 2) (show i ≠ 2 by omega) (show r < 3 by omega)
    obtain ⟨p1, p2, p3⟩ := n4 r hr
    rw [f2 19 (by omega), f2 18 (by omega)]
    exact ⟨q1.trans p1, fun k hk => (q2 k (by omega)).trans (p3 k hk).1⟩
set_option maxRecDepth 100000 in
set_option maxHeartbeats 4000000 in
/-- model: read -/
theorem sX10_read {E : eN} (hE : eOk E) {f : aH} {t : Nat} {M D : Nat} {y : mV} {x : dV} {q : Int32} (hR : mRel x y) (hI : dOk D x) : mT E mX10_read 0 0 [.ref M, .int q] (mdS f M y) t (fun o f' t' => o = .inl (some (.int ((pRea x q).1.getD (nI 0)))) ∧ t' = t ∧ mAns M f (pRea x q) f') := by
  refine mT_of (n := 0) (lo := [some (.ref M), some (.int q)]) (by decide) (by exact Nat.le_of_ble_eq_true rfl) rfl rfl ?_
  refine v_aload_n dX10_read_0 rfl (by rfl) ?_
  refine v_iload_n dX10_read_1 rfl (by rfl) ?_
  refine v_iconst (v := nI 0) dX10_read_2 (by decide) ?_
  refine v_iconst (v := nI 1) dX10_read_3 (by decide) ?_
  refine w_callS hE dX10_read_4 kX10_136 (by rfl) (sX10_in hE) rfl (by decide) (by decide) (by exact Nat.le_of_ble_eq_true rfl) (by omega) (by omega) (fun v9 g9 u9 h9 => ?_) (fun _ _ _ h => by cases h.1)
  obtain ⟨hv9, hu9, hg9⟩ := h9
  replace hu9 := hu9.symm
  replace hg9 := hg9.symm
  subst hu9
  subst hg9
  cases hv9
  rw [in_ix1 (n := 1) (by omega)]
  refine w_callV hE dX10_read_7 kX10_143 mdS_M (by rfl) (by rfl) (sX10_goes hE) rfl (by decide) (by decide) (by exact Nat.le_of_ble_eq_true rfl) (by omega) (by omega) (fun v9 g9 u9 h9 => ?_) (fun _ _ _ h => by cases h.1)
  obtain ⟨hv9, hu9, hg9⟩ := h9
  replace hu9 := hu9.symm
  subst hu9
  subst hg9
  cases hv9
  refine v_if_neB (tgt := 15) dX10_read_10 (by decide) (fun c10 => ?_) (fun c10 => ?_)
  · obtain ⟨i, hi0⟩ := Option.isSome_iff_exists.mp c10
    obtain ⟨i2, i3⟩ := ix_r hi0 (by omega)
    subst i3
    rw [c10]
    have hp := hR.2.1
    have hg := hR.2.2.1
    refine v_aload_n dX10_read_15 rfl (by rfl) ?_
    refine v_iconst (v := nI 0) dX10_read_16 (by decide) ?_
    refine m_put hE (j := 43) dX10_read_17 fX10_147 (by exact Nat.le_of_ble_eq_true rfl) (by rfl) (by rfl) (by rfl) (by rfl) ?_
    refine v_aload_n dX10_read_20 rfl (by rfl) ?_
    refine w_callV hE dX10_read_21 kX10_300 mdS_M (by rfl) (by rfl) (sX10_readTable hE (y := (y.1, va_up (va_up y.2 0 (bI (!true))) 43 (nI 0))) (u := dT x 0) (g := dG x 0) (z := dZ x 2) (W := dW x) (Xs := dX D) ⟨hp.1, hp.2.1, hp.2.2⟩ hR.1 rfl ⟨hg.1, hg.2.1, hg.2.2⟩ (hI.2.1 0 (by omega)) (fun k hk => dXs_X (hI.2.2.2.2.1.1 2 k (by omega) hk)) (fun a b ha hb e => (hI.2.2.2.2.1.2 2 a 2 b (by omega) ha (by omega) hb e).2) hI.2.2.2.1 (hI.2.2.1 2 (by omega)).1.2.2) rfl (by decide) (by decide) (by exact Nat.le_of_ble_eq_true rfl) (by omega) (by omega) (fun v9 g9 u9 h9 => ?_) (fun _ _ _ h => by cases h.1)
    obtain ⟨hv9, hu9, v, hg9, hrt, hcase⟩ := h9
    replace hu9 := hu9.symm
    subst hu9
    subst hg9
    cases hv9
    obtain ⟨b1, b2, b3, b4, b5, b6⟩ := rdR_I hI hp.2.1
    rcases hcase with ⟨r1, r2, r3, r4, r5, r6⟩ | ⟨s1, s2, s3, s4, s5, s6⟩
    · refine v_aload_n dX10_read_24 rfl (by rfl) ?_
      refine v_iconst (v := nI 0) dX10_read_25 (by decide) ?_
      refine m_put hE (j := 2) dX10_read_26 fX10_140 (by exact Nat.le_of_ble_eq_true rfl) (by rfl) (by rfl) (by rfl) (by rfl) ?_
      refine v_aload_n dX10_read_29 rfl (by rfl) ?_
      refine v_getf hE dX10_read_30 fX10_147 mdS_M (by rfl) ?_
      refine v_eqi (y := nI 0) (by show v.2 43 = nI 0; rw [r2]; rfl) ?_
      refine v_if_eqN (tgt := 50) dX10_read_33 (by decide) (by omega) (fun c33 => ?_) (fun c33 => ?_)
      · refine v_aload_n dX10_read_50 rfl (by rfl) ?_
        refine v_iload_n dX10_read_51 rfl (by rfl) ?_
        refine v_iconst (v := nI 2) dX10_read_52 (by decide) ?_
        refine w_callV hE dX10_read_53 kX10_303 mdS_M (by rfl) (by rfl) (sX10_copyTable hE (y := (v.1, va_up v.2 2 (nI 0))) (a := i) (b := 2) (n := (rdR x).2.2.2.2.2) (m := (rdR x).2.2.2.2.1.1) (w := fun k => (rdR x).2.2.1 ((dZ x 2).1 k)) hrt.2.2.2.2.1 r3 r4 (by omega) (by omega) (by omega) r6 (fun k hk => b4 _ (dXs_X (hI.2.2.2.2.1.1 2 k (by omega) (by omega)))) r5.2.1) rfl (by decide) (by decide) (by exact Nat.le_of_ble_eq_true rfl) (by omega) (by omega) (fun v9 g9 u9 h9 => ?_) (fun _ _ _ h => by cases h.1)
        obtain ⟨hv9, hu9, v2, hg9, hmf, hrec⟩ := h9
        replace hu9 := hu9.symm
        subst hu9
        subst hg9
        cases hv9
        have hTi : mTb v2 i (rdR x).2.2.2 (rdR x).2.2.1 := mCT_N (v := v) i2 r3 r5 hmf (fun k hk => by rw [b1]; exact hrec k hk)
        refine v_aload_n dX10_read_56 rfl (by rfl) ?_
        refine v_getf hE dX10_read_57 fX10_60 mdS_M (by rfl) ?_
        refine v_iload_n dX10_read_60 rfl (by rfl) ?_
        refine m_iald hE (k := 16) dX10_read_61 (by decide) (by decide) rfl (show _ < 4 by omega) (by omega) ?_
        refine v_eqi (y := nI (rdR x).2.2.2.2.2) (hTi.1) ?_
        refine v_iret dX10_read_62 rfl (by first | rfl | exact nar_bI) ?_
        have hA : pRea x (nI i) = (some (nI (rdR x).2.2.2.2.2), dSwp (rdX1 x) i) := by
          unfold pRea
          rw [hi0]
          exact if_pos r1
        rw [hA]
        have f1 : v2.2 = va_up v.2 2 (nI 0) := hmf.1
        have hzi : ∀ c, c < 2 → dZ (dSwp (rdX1 x) i) c = if c = i then (rdR x).2.2.2 else dZ x c := fun c hc => by
          show swG (va_up (dZ x) 2 (rdR x).2.2.2) i 2 c = _
          by_cases e : c = i
          · rw [if_pos e, e, swG_l (by omega), va_up_self]
          · rw [if_neg e]
            unfold swG
            rw [va_up_ne _ _ (by omega), va_up_ne _ _ e, va_up_ne _ _ (by omega)]
        refine ⟨rfl, rfl, v2, rfl, mRel_rd hR (fun k hk => ?_) (fun j j0 j2 j3 j4 => ?_) hmf.2.2.1 (by rw [f1]; rfl) rfl rfl rfl rfl ?_ (fun c hc => ?_) ⟨hR.2.2.2.2.2.2.2.1, fun c hc => ?_⟩, ?_⟩
        · rw [hmf.2.1 k (by omega), mCT_k (by omega) (by omega)]
          show va_up (va_up v.1 16 _) 17 _ k = _
          rw [va_up_ne _ _ (by omega), va_up_ne _ _ (by omega)]
          exact hrt.1 k (by omega)
        · rw [f1, va_up_ne _ _ j2, r2]
          show va_up (va_up y.2 0 _) 43 _ j = _
          rw [va_up_ne _ _ (by omega), va_up_ne _ _ j0]
        · rw [f1, va_up_ne _ _ (by decide), r2]
          exact hR.2.2.2.2.2.2.1
        · show mTb v2 c (dZ (dSwp (rdX1 x) i) c) (rdR x).2.2.1
          rw [hzi c hc]
          by_cases e : c = i
          · rw [if_pos e, e]
            exact hTi
          · rw [if_neg e]
            exact mCT_M (v := v) (rTb_M hI (hR.2.2.2.1 c hc) hrt hc (fun k hk => b5 c k hc hk)) (hI.2.2.1 c (by omega)) (fun k hk => b4 _ (dXs_X (hI.2.2.2.2.1.1 c k (by omega) (by have := (hI.2.2.1 c (by omega)).2; omega)))) hc i2 e hmf
        · show (∀ s k, s < (dZ (dSwp (rdX1 x) i) c).2.1.1 → k < (dZ (dSwp (rdX1 x) i) c).2.1.2.2 s → ∃ c', c' < 128 ∧ (dZ (dSwp (rdX1 x) i) c).2.1.2.1 (s * 20 + k) = nI c') ∧ ∀ k, k < (dZ (dSwp (rdX1 x) i) c).2.2 → eLv ((rdR x).2.2.1 ((dZ (dSwp (rdX1 x) i) c).1 k))
          rw [hzi c hc]
          by_cases e : c = i
          · rw [if_pos e]
            refine ⟨fun s k hs hk => ((r5.2.2.2 s hs).2.2 k hk).2, fun k hk => ?_⟩
            rw [b1]
            exact (b6 r1 k hk).2
          · rw [if_neg e]
            refine ⟨(hR.2.2.2.2.2.2.2.2 c hc).1, fun k hk => ?_⟩
            rw [b5 c k hc (by have := (hI.2.2.1 c (by omega)).2; omega)]
            exact (hR.2.2.2.2.2.2.2.2 c hc).2 k hk
        · rw [f1, va_up_ne _ _ (by decide), r2]
          rfl
      · exact absurd rfl c33
    · have s3 : qFa (rdR x).2.1 < 100 := s3
      refine v_aload_n dX10_read_24 rfl (by rfl) ?_
      refine v_iconst (v := nI 0) dX10_read_25 (by decide) ?_
      refine m_put hE (j := 2) dX10_read_26 fX10_140 (by exact Nat.le_of_ble_eq_true rfl) (by rfl) (by rfl) (by rfl) (by rfl) ?_
      refine v_aload_n dX10_read_29 rfl (by rfl) ?_
      refine v_getf hE dX10_read_30 fX10_147 mdS_M (by rfl) ?_
      refine v_eqi (y := nI (qFa (rdR x).2.1)) s4 ?_
      refine v_if_eqN (tgt := 50) dX10_read_33 (by decide) (by omega) (fun c33 => ?_) (fun c33 => ?_)
      · exact absurd c33 s2
      · refine v_aload_n dX10_read_36 rfl (by rfl) ?_
        refine v_aload_n dX10_read_37 rfl (by rfl) ?_
        refine v_getf hE dX10_read_38 fX10_150 mdS_M (by rfl) ?_
        refine v_eqi (y := nI (qFp (rdR x).2.1)) s5 ?_
        refine m_put hE (j := 3) dX10_read_41 fX10_13 (by exact Nat.le_of_ble_eq_true rfl) (by rfl) (by rfl) (by rfl) (by rfl) ?_
        refine v_aload_n dX10_read_44 rfl (by rfl) ?_
        refine v_getf hE dX10_read_45 fX10_147 mdS_M (by rfl) ?_
        refine v_eqi (y := nI (qFa (rdR x).2.1)) s4 ?_
        refine v_ineg dX10_read_48 ?_
        refine v_iret dX10_read_49 rfl (by first | rfl | exact nar_bI) ?_
        have hA : pRea x (nI i) = (some (- nI (qFa (rdR x).2.1)), xF (rdX1 x) (nI (qFp (rdR x).2.1))) := by
          unfold pRea
          rw [hi0]
          exact if_neg (by rw [show (rdR x).1 = false from s1]; decide)
        rw [hA]
        have hzi : ∀ c, c < 2 → va_up (dZ x) 2 (rdR x).2.2.2 c = dZ x c := fun c hc => va_up_ne _ _ (by omega)
        refine ⟨rfl, rfl, _, rfl, mRel_rd hR (fun k hk => hrt.1 k (by omega)) (fun j j0 j2 j3 j4 => ?_) hrt.2.2.2.2.1 rfl rfl rfl rfl rfl rfl (fun c hc => ?_) ⟨hR.2.2.2.2.2.2.2.1, fun c hc => ?_⟩, ?_⟩
        · show va_up (va_up v.2 2 _) 3 _ j = _
          rw [va_up_ne _ _ j3, va_up_ne _ _ j2, s6 j (by omega) (by omega)]
          show va_up (va_up y.2 0 _) 43 _ j = _
          rw [va_up_ne _ _ (by omega), va_up_ne _ _ j0]
        · show mTb (v.1, _) c (va_up (dZ x) 2 (rdR x).2.2.2 c) (rdR x).2.2.1
          rw [hzi c hc]
          exact rTb_M hI (hR.2.2.2.1 c hc) hrt hc (fun k hk => b5 c k hc hk)
        · show (∀ s k, s < (va_up (dZ x) 2 (rdR x).2.2.2 c).2.1.1 → k < (va_up (dZ x) 2 (rdR x).2.2.2 c).2.1.2.2 s → ∃ c', c' < 128 ∧ (va_up (dZ x) 2 (rdR x).2.2.2 c).2.1.2.1 (s * 20 + k) = nI c') ∧ ∀ k, k < (va_up (dZ x) 2 (rdR x).2.2.2 c).2.2 → eLv ((rdR x).2.2.1 ((va_up (dZ x) 2 (rdR x).2.2.2 c).1 k))
          rw [hzi c hc]
          refine ⟨(hR.2.2.2.2.2.2.2.2 c hc).1, fun k hk => ?_⟩
          rw [b5 c k hc (by have := (hI.2.2.1 c (by omega)).2; omega)]
          exact (hR.2.2.2.2.2.2.2.2 c hc).2 k hk
        · show v.2 0 = _
          rw [s6 0 (by decide) (by decide)]
          rfl
  · refine v_iconst (v := nI 0) dX10_read_13 (by decide) ?_
    refine v_iret dX10_read_14 rfl (by first | rfl | exact nar_bI) ?_
    have hA : pRea x q = (none, x) := by
      unfold pRea
      split
      · rfl
      · rename_i i hi
        exfalso
        rw [show ix 2 q = some i from hi] at c10
        exact Bool.noConfusion c10
    rw [hA, c10]
    exact ⟨rfl, rfl, _, rfl, mRel_0 hR, rfl⟩
