theorem eMin_dec {v : eV} (hv : ∀ k, eRs v k ≤ 24) (h1 : 1 ≤ eRo v) (hp : ∀ q, q < eRo v → 1 ≤ eRs v q) : eMin (eDec v) = eMin v - 1 := by
  obtain ⟨d1, d2, d3, d4⟩ := eDec_f (y := v)
  have hro : eRo (eDec v) = eRo v := d1.2.2.2.2.2.2.1
  have hok := (eDecL_rs (eRo v - 0) 0 v)
  have hd : ∀ k, eRs (eDec v) k ≤ 24 := fun k => by
    unfold eDec
    rw [hok k]
    have := hv k
    split <;> omega
  have a1 := eMin_le (v := eDec v) (r := 0) (by omega)
  rw [d4 0 (by omega)] at a1
  have a2 := hv 0
  have a3 := hp 0 (by omega)
  have b1 : eMin v - 1 ≤ eMin (eDec v) := (eMin_f hd (by have := eMin_24 (v := v); omega)).mpr (fun q hq => by
    rw [d4 q (by omega)]
    have := eMin_le (v := v) (r := q) (by omega)
    omega)
  have b2 : eMin (eDec v) + 1 ≤ eMin v := (eMin_f hv (by omega)).mpr (fun q hq => by
    have := eMin_le (v := eDec v) (r := q) (by omega)
    rw [d4 q hq] at this
    have := hp q hq
    omega)
  omega
theorem norm_E {y v : mV} {r m b pn : Nat} {w u : eV} (hw : mE y r w m) (hwo : enOk w) (hf : nFr r y v) (h21 : v.1 21 r = nI (pn + b)) (hrw : mRw v r (eRo w - 1) (fun q => eRs u q - b) (fun q k => eLet u q (nI (k + b)))) (hu : eRst u w) (hz : ∀ k, eRs u k ≤ 24) (hb : eBeg u = b) : mE v r (eTrim u pn) m := by
  obtain ⟨h1, h2, h3, h4, h5, h6⟩ := hf
  obtain ⟨e1, e2, e3, e4, e5, e6, e7, e8, e9, e10⟩ := hw
  obtain ⟨t1, t2, t3⟩ := eTrim_f (v := u) (p := pn) hz
  obtain ⟨u1, u2, u3, u4, u5, u6, u7, u8, u9⟩ := eRst_t t1 hu
  unfold mE
  rw [h2 20 (by decide) (by decide) (by decide), h2 22 (by decide) (by decide) (by decide), h2 23 (by decide) (by decide) (by decide), h2 24 (by decide) (by decide) (by decide), h2 27 (by decide) (by decide) (by decide), h2 28 (by decide) (by decide) (by decide), h2 29 (by decide) (by decide) (by decide), h2 30 (by decide) (by decide) (by decide), h2 31 (by decide) (by decide) (by decide), u1, u2, u3, u4, u5, u6, u7, u8, u9, t2, hb]
  refine ⟨e1, h21, e3, e4, e5, e6, fun q hq => ?_, e8, e9, e10⟩
  obtain ⟨g1, g2, g3, g4⟩ := hrw.2.2 q (by omega)
  obtain ⟨q1, q2⟩ := t3 q (by rw [hu.2.2.2.2.2.2.1]; exact hq)
  rw [q1, hb]
  refine ⟨g1, fun k hk => ?_⟩
  rw [q2 k (by rw [hb]; exact hk), g4 k hk, hb]
  show eLet u q (nI (k + b)) = _
  rw [eLet_in (by omega) (hz q)]
  exact congrArg (eLe u) (by omega)
theorem allB_c {p q : Nat → Bool} {d i : Nat} (h : ∀ j, i ≤ j → j < i + d → p j = q j) : allB p d i = allB q d i := bool_eq (by
  rw [allB_iff, allB_iff]
  exact ⟨fun z j a b => by rw [← h j a b]; exact z j a b, fun z j a b => by rw [h j a b]; exact z j a b⟩)
set_option maxRecDepth 100000 in
set_option maxHeartbeats 1500000 in
/-- model: makeNormal -/
theorem sX10_makeNormal {E : eN} (hE : eOk E) {f : aH} {t : Nat} {M : Nat} {y : mV} {r m s p : Nat} {w : eV} {g : gV} (hw : mE y r w m) (hwo : enOk w) (hpos : ePos w) (hro : 1 < eRo w) (hg : mGn y g) (hgo : gOk g) (hgl : gLv g) (hO : aNw y.1) (hr : r < 240) (hs : eSq w = nI s) (hp : ePl w = nI p) (hs2 : s < gCt g) (hp1 : 1 ≤ p) (hp2 : p + eRs w 0 ≤ gSz g s + 1) : mT E mX10_makeNormal 0 0 [.ref M, .int (nI r)] (mdS f M y) t (fun o f' t' => o = .inl (some (.int (bI (eNorm w g s p).1))) ∧ t' = t ∧ ∃ y', f' = mdS f M y' ∧ nFr r y y' ∧ mE y' r (eNorm w g s p).2 m) := by
  refine mT_of (n := 2) (lo := [some (.ref M), some (.int (nI r)), none, none]) (by decide) (by exact Nat.le_of_ble_eq_true rfl) rfl rfl ?_
  have hb1 := hgo.2.2.2 s hs2
  have hb2 := hgo.2.2.1
  have hro4 := hwo.1
  have dl : ∀ (z : Nat → Nat) (c : Nat → Nat → Int32) (v0 : mV) (z2 : Int32), aNw v0.1 → mRw v0 r (eRo w - 1) z c → (∀ q, q ≤ (eRo w - 1) → 2 ≤ z q) → (∀ v : mV, nFr r v0 v → v.1 21 = v0.1 21 → mRw v r (eRo w - 1) (fun j => z j - 1) c → ∀ z3 : Option Value, V E mX10_makeNormal 0 0 (fun o f' t' => o = .inl (some (.int (bI (eNorm w g s p).1))) ∧ t' = t ∧ ∃ y', f' = mdS f M y' ∧ nFr r y y' ∧ mE y' r (eNorm w g s p).2 m) 99 [some (.ref M), some (.int (nI r)), some (.int z2), z3] [] (mdS f M v) t 0 0) → ∀ (d q : Nat) (v : mV), q + d = (eRo w - 1) + 1 → nFr r v0 v → v.1 21 = v0.1 21 → mRw v r (eRo w - 1) (fun j => if j < q then z j - 1 else z j) c → V E mX10_makeNormal 0 0 (fun o f' t' => o = .inl (some (.int (bI (eNorm w g s p).1))) ∧ t' = t ∧ ∃ y', f' = mdS f M y' ∧ nFr r y y' ∧ mE y' r (eNorm w g s p).2 m) 69 [some (.ref M), some (.int (nI r)), some (.int z2), some (.int (nI q))] [] (mdS f M v) t 0 0 := by
    intro z c v0 z2 hO0 hv0 hz hc d
    have hA3 := hv0.2.1
    induction d using Nat.strongRecOn with
    | _ d ih =>
    intro q v hd hv h21 hrw
    refine v_iload_n dX10_makeNormal_69 rfl (by rfl) ?_
    refine v_aload_n dX10_makeNormal_70 rfl (by rfl) ?_
    refine v_getf hE dX10_makeNormal_71 fX10_84 mdS_M (by rfl) ?_
    refine v_iload_n dX10_makeNormal_74 rfl (by rfl) ?_
    refine m_iald hE (k := 24) dX10_makeNormal_75 (by decide) (by decide) rfl (show _ < 240 by omega) (by omega) ?_
    refine v_eqi (y := nI (eRo w - 1)) hrw.1 ?_
    refine v_icmp_gtN (tgt := 99) dX10_makeNormal_76 (by decide) (by omega) (by omega) (fun c76 => ?_) (fun c76 => ?_)
    · have e9 : q = (eRo w - 1) + 1 := by omega
      subst e9
      exact hc v hv h21 (mRw_z hrw (fun j hj => (if_pos (by omega)).symm)) _
    · have h26 : v.1 26 (4 * r + q) = nI (z q) := by
        have := (hrw.2.2 q (by omega)).1
        dsimp only at this
        rw [if_neg (by omega)] at this
        exact this
      have hzq := hz q (by omega)
      have hzq5 := (hv0.2.2 q (by omega)).2.2.1
      refine v_aload_n dX10_makeNormal_79 rfl (by rfl) ?_
      refine v_getf hE dX10_makeNormal_80 fX10_90 mdS_M (by rfl) ?_
      refine v_iconst (v := nI 4) dX10_makeNormal_83 (by decide) ?_
      refine v_iload_n dX10_makeNormal_84 rfl (by rfl) ?_
      refine v_imulN dX10_makeNormal_85 ?_
      refine v_iload_n dX10_makeNormal_86 rfl (by rfl) ?_
      refine v_iaddN dX10_makeNormal_87 ?_
      refine v_dup2 dX10_makeNormal_88 rfl rfl ?_
      refine m_iald hE (k := 26) dX10_makeNormal_89 (by decide) (by decide) rfl (show _ < 960 by omega) (by omega) ?_
      refine v_eqi (y := nI (z q)) h26 ?_
      refine v_iconst (v := nI 1) dX10_makeNormal_90 (by decide) ?_
      refine v_isubN dX10_makeNormal_91 (by omega) ?_
      refine m_iast hE (k := 26) dX10_makeNormal_92 (by decide) (by decide) rfl (show _ < 960 by omega) (by omega) ?_
      refine v_iincN (y := 1) dX10_makeNormal_93 (by rfl) (by decide) (by decide) ?_
      refine v_goto (tgt := 69) dX10_makeNormal_96 (by decide) ?_
      refine ih (d - 1) (by omega) (q + 1) _ (by omega) (nFr_6 hv (by omega)) (by exact h21) ⟨hrw.1, hrw.2.1, fun j hj => ?_⟩
      obtain ⟨g1, g2, g3, g4⟩ := hrw.2.2 j hj
      have hz1 := hz j hj
      have hz2 := (hv0.2.2 j hj).2.2.1
      show upd (v.1 26) (4 * r + q) (nI (z q - 1)) (4 * r + j) = _ ∧ _ ∧ _ ∧ ∀ k, _ → v.1 25 (26 * (4 * r + j) + k) = _
      by_cases e : j = q
      · subst e
        try dsimp only
        rw [updS, if_pos (by omega)]
        refine ⟨rfl, by omega, by omega, fun k hk => g4 k ?_⟩
        try dsimp only
        rw [if_neg (by omega)]
        omega
      · rw [updN (by omega)]
        dsimp only at g1 g2 g3 g4 ⊢
        by_cases e2 : j < q
        · rw [if_pos e2] at g1 g2 g3 g4
          rw [if_pos (by omega)]
          exact ⟨g1, g2, g3, g4⟩
        · rw [if_neg e2] at g1 g2 g3 g4
          rw [if_neg (by omega)]
          exact ⟨g1, g2, g3, g4⟩
  have lpC : ∀ (c1 n : Nat) (u0 : eV), eCut w g s p = (c1, u0) → eNormN w g s p = n → eRst (eMvA u0 g s p n) w → (∀ k, eRs (eMvA u0 g s p n) k ≤ 24) → ∀ (d b : Nat) (v : mV) (z3 : Option Value), b + d = eMin (eMvA u0 g s p n) → n < p + 0 → nFr r y v → v.1 21 r = nI (p - n + b) → mRw v r (eRo w - 1) (fun q => eRs (eMvA u0 g s p n) q - b) (fun q k => eLet (eMvA u0 g s p n) q (nI (k + b))) → eBeg (eMvA u0 g s p n) = eBegL (eMvA u0 g s p n) (eMin (eMvA u0 g s p n) - 1 - b) b → V E mX10_makeNormal 0 0 (fun o f' t' => o = .inl (some (.int (bI (eNorm w g s p).1))) ∧ t' = t ∧ ∃ y', f' = mdS f M y' ∧ nFr r y y' ∧ mE y' r (eNorm w g s p).2 m) 104 [some (.ref M), some (.int (nI r)), some (.int (bI (decide (0 < c1 + n + b)))), z3] [] (mdS f M v) t 0 0 := by
    intro c1 n u0 hcut hnn hu9 hz24 d
    have hm24 := eMin_24 (v := (eMvA u0 g s p n))
    induction d using Nat.strongRecOn with
    | _ d ih =>
    intro b v z3 hd hnp hv h21 hrw hB
    refine v_aload_n dX10_makeNormal_104 rfl (by rfl) ?_
    refine v_iload_n dX10_makeNormal_105 rfl (by rfl) ?_
    refine w_callV hE dX10_makeNormal_106 kX10_315 mdS_M (by rfl) (by rfl) (sX10_allLong hE hrw hr) rfl (by decide) (by decide) (by exact Nat.le_of_ble_eq_true rfl) (by omega) (by omega) (fun v9 g9 u9 h9 => ?_) (fun _ _ _ h => by cases h.1)
    obtain ⟨hv9, hu9, hg9⟩ := h9
    replace hu9 := hu9.symm
    subst hu9
    subst hg9
    cases hv9
    refine v_if_eqB (tgt := 140) dX10_makeNormal_109 (by decide) (fun c109 => ?_) (fun c109 => ?_)
    · have hbe : eBeg (eMvA u0 g s p n) = b := by
        have hm : ¬ b + 2 ≤ eMin (eMvA u0 g s p n) := fun q => by
          have : allB (rwL (fun q => eRs (eMvA u0 g s p n) q - b)) ((eRo w - 1) + 1 - 0) 0 = true := allB_iff _ _ |>.mpr (fun j _ hj => decide_eq_true (by
            have := eMin_le (v := (eMvA u0 g s p n)) (r := j) (by rw [hu9.2.2.2.2.2.2.1]; omega)
            show 2 ≤ eRs (eMvA u0 g s p n) j - b
            omega))
          rw [this] at c109
          exact Bool.noConfusion c109
        rw [hB, show eMin (eMvA u0 g s p n) - 1 - b = 0 by omega]
        rfl
      refine v_iload_n dX10_makeNormal_140 rfl (by rfl) ?_
      refine v_iret dX10_makeNormal_141 rfl (by first | rfl | exact nar_bI) ?_
      have e1 : eNorm w g s p = (decide (0 < c1 + n + b), eTrim (eMvA u0 g s p n) (p - n)) := by
        unfold eNorm eNorm2
        rw [if_pos hro, hcut, hnn]
        try dsimp only
        rw [hbe]
      rw [e1]
      exact ⟨rfl, rfl, v, rfl, hv, norm_E hw hwo hv h21 hrw hu9 hz24 hbe⟩
    · have hm : b + 2 ≤ eMin (eMvA u0 g s p n) := by
        refine (eMin_f hz24 ?_).mpr (fun q hq => ?_)
        · have h0 := of_decide_eq_true ((allB_iff _ _ |>.mp c109) 0 (by omega) (by omega))
          dsimp only at h0
          have := hz24 0
          omega
        · rw [hu9.2.2.2.2.2.2.1] at hq
          have := of_decide_eq_true ((allB_iff _ _ |>.mp c109) q (by omega) (by omega))
          dsimp only at this
          omega
      have hal : allB (rwB (fun q k => eLet (eMvA u0 g s p n) q (nI (k + b)))) ((eRo w - 1) + 1 - 1) 1 = eAlike (eMvA u0 g s p n) b := by
        unfold eAlike
        rw [hu9.2.2.2.2.2.2.1, show (eRo w - 1) + 1 - 1 = eRo w - 1 by omega]
        exact allB_c (fun j _ _ => by unfold rwB; exact decide_eq_decide.mpr (by dsimp only; rw [Nat.zero_add]))
      refine v_aload_n dX10_makeNormal_112 rfl (by rfl) ?_
      refine v_iload_n dX10_makeNormal_113 rfl (by rfl) ?_
      refine w_callV hE dX10_makeNormal_114 kX10_321 mdS_M (by rfl) (by rfl) (sX10_beginAlike hE hrw hr) rfl (by decide) (by decide) (by exact Nat.le_of_ble_eq_true rfl) (by omega) (by omega) (fun v9 g9 u9 h9 => ?_) (fun _ _ _ h => by cases h.1)
      obtain ⟨hv9, hu9, hg9⟩ := h9
      replace hu9 := hu9.symm
      subst hu9
      subst hg9
      cases hv9
      refine v_if_eqB (tgt := 140) dX10_makeNormal_117 (by decide) (fun c117 => ?_) (fun c117 => ?_)
      · have hbe : eBeg (eMvA u0 g s p n) = b := by
          rw [hB, show eMin (eMvA u0 g s p n) - 1 - b = (eMin (eMvA u0 g s p n) - 1 - (b + 1)) + 1 by omega]
          show (if eAlike (eMvA u0 g s p n) b = true then _ else b) = b
          rw [← hal, if_neg (by rw [c117]; decide)]
        refine v_iload_n dX10_makeNormal_140 rfl (by rfl) ?_
        refine v_iret dX10_makeNormal_141 rfl (by first | rfl | exact nar_bI) ?_
        have e1 : eNorm w g s p = (decide (0 < c1 + n + b), eTrim (eMvA u0 g s p n) (p - n)) := by
          unfold eNorm eNorm2
          rw [if_pos hro, hcut, hnn]
          try dsimp only
          rw [hbe]
        rw [e1]
        exact ⟨rfl, rfl, v, rfl, hv, norm_E hw hwo hv h21 hrw hu9 hz24 hbe⟩
      · refine v_aload_n dX10_makeNormal_120 rfl (by rfl) ?_
        refine v_iload_n dX10_makeNormal_121 rfl (by rfl) ?_
        refine w_callV hE dX10_makeNormal_122 kX10_324 mdS_M (by rfl) (by rfl) (sX10_fromFront hE hrw hr hv.2.2.2.2.2 (fun q hq => of_decide_eq_true ((allB_iff _ _ |>.mp c109) q (by omega) (by omega)))) rfl (by decide) (by decide) (by exact Nat.le_of_ble_eq_true rfl) (by omega) (by omega) (fun v9 g9 u9 h9 => ?_) (fun _ _ _ h => by cases h.1)
        obtain ⟨hv9, hu9, v1, hg9, hn1, h211, hrw1⟩ := h9
        replace hu9 := hu9.symm
        subst hu9
        subst hg9
        cases hv9
        refine v_aload_n dX10_makeNormal_125 rfl (by rfl) ?_
        refine v_getf hE dX10_makeNormal_126 fX10_75 mdS_M (by rfl) ?_
        refine v_iload_n dX10_makeNormal_129 rfl (by rfl) ?_
        refine v_dup2 dX10_makeNormal_130 rfl rfl ?_
        refine m_iald hE (k := 21) dX10_makeNormal_131 (by decide) (by decide) rfl (show _ < 240 by omega) (by omega) ?_
        refine v_eqi (y := nI (p - n + b)) ((congrFun h211 r).trans h21) ?_
        refine v_iconst (v := nI 1) dX10_makeNormal_132 (by decide) ?_
        refine v_iaddN dX10_makeNormal_133 ?_
        refine m_iast hE (k := 21) dX10_makeNormal_134 (by decide) (by decide) rfl (show _ < 240 by omega) (by omega) ?_
        refine v_iconst (v := nI 1) dX10_makeNormal_135 (by decide) ?_
        refine v_eqi (y := bI (decide (0 < c1 + n + (b + 1)))) (bI_t (decide_eq_true (by omega))) ?_
        refine v_istore_n dX10_makeNormal_136 rfl (by decide) ?_
        refine v_goto (tgt := 104) dX10_makeNormal_137 (by decide) ?_
        refine ih (d - 1) (by omega) (b + 1) _ _ (by omega) (by omega) (nFr_1 (nFr_t hv hn1)) ?_ ?_ ?_
        · show upd (v1.1 21) r (nI (p - n + b + 1)) r = _
          exact updS
        · refine mRw_c (mRw_z hrw1 (fun q hq => by (try dsimp only); omega)) (fun q k hq hk => ?_)
          try dsimp only
          rw [show k + 1 + b = k + (b + 1) by omega]
        · rw [hB, show eMin (eMvA u0 g s p n) - 1 - b = (eMin (eMvA u0 g s p n) - 1 - (b + 1)) + 1 by omega]
          show (if eAlike (eMvA u0 g s p n) b = true then _ else b) = _
          rw [← hal, if_pos c117]
  have lpB : ∀ (c1 : Nat) (u0 : eV), eCut w g s p = (c1, u0) → eMin u0 = 1 → eRst u0 w → (∀ k, eRs u0 k ≤ 24) → ∀ (d n : Nat) (v : mV) (z3 : Option Value), n + d = p - 1 → nFr r y v → v.1 21 r = nI (p - n) → mRw v r (eRo w - 1) (eRs u0) (fun q k => eMov u0 g s p q k n) → eSteps u0 g s p = eStepL u0 g s p (p - 1 - n) n → V E mX10_makeNormal 0 0 (fun o f' t' => o = .inl (some (.int (bI (eNorm w g s p).1))) ∧ t' = t ∧ ∃ y', f' = mdS f M y' ∧ nFr r y y' ∧ mE y' r (eNorm w g s p).2 m) 2 [some (.ref M), some (.int (nI r)), some (.int (bI (decide (0 < c1 + n)))), z3] [] (mdS f M v) t 0 0 := by
    intro c1 u0 hcut hm1 hu0 hz24 d
    induction d using Nat.strongRecOn with
    | _ d ih =>
    intro n v z3 hd hv h21 hrw hS
    refine v_aload_n dX10_makeNormal_2 rfl (by rfl) ?_
    refine v_iload_n dX10_makeNormal_3 rfl (by rfl) ?_
    refine w_callV hE dX10_makeNormal_4 kX10_312 mdS_M (by rfl) (by rfl) (sX10_endAlike hE hrw hr) rfl (by decide) (by decide) (by exact Nat.le_of_ble_eq_true rfl) (by omega) (by omega) (fun v9 g9 u9 h9 => ?_) (fun _ _ _ h => by cases h.1)
    obtain ⟨hv9, hu9, hg9⟩ := h9
    replace hu9 := hu9.symm
    subst hu9
    subst hg9
    cases hv9
    refine v_if_eqB (tgt := 104) dX10_makeNormal_7 (by decide) (fun c7 => ?_) (fun c7 => ?_)
    · have hea : allB (rwE (eRs u0) (fun q k => eMov u0 g s p q k n)) ((eRo w - 1) + 1 - 1) 1 = eEnd u0 g s p n := by
        unfold eEnd
        rw [hu0.2.2.2.2.2.2.1, show (eRo w - 1) + 1 - 1 = eRo w - 1 by omega]
        rfl
      have hes : eSteps u0 g s p = n := by
        rw [hS]
        by_cases hd0 : p - 1 - n = 0
        · rw [hd0]
          rfl
        · rw [show p - 1 - n = (p - 1 - (n + 1)) + 1 by omega]
          show (if eEnd u0 g s p n = true then _ else n) = n
          rw [← hea, if_neg (by rw [c7]; decide)]
      have hnn : eNormN w g s p = n := by
        unfold eNormN
        rw [hcut]
        try dsimp only
        rw [if_pos hm1, hes]
      obtain ⟨k1, k2, k3, k4⟩ := eMvA_f (v := u0) (g := g) (s := s) (p := p) (n := n) hz24
      exact lpC c1 n u0 hcut hnn (eRst_t k1 hu0) (by rw [k3]; exact hz24) (eMin (eMvA u0 g s p n)) 0 v _ (by omega) (by omega) hv h21 (mRw_c (mRw_z hrw (fun q hq => by rw [k3]; rfl)) (fun q k hq hk => by
        have hk : k < eRs u0 q := by rw [← k3]; exact hk
        try dsimp only
        rw [Nat.add_zero, eLet_in (by rw [k3]; exact hk) (by rw [k3]; exact hz24 q)]
        exact (k4 q k (by rw [hu0.2.2.2.2.2.2.1]; omega) hk).symm)) rfl
    · refine v_aload_n dX10_makeNormal_10 rfl (by rfl) ?_
      refine v_iload_n dX10_makeNormal_11 rfl (by rfl) ?_
      refine w_callV hE dX10_makeNormal_12 kX10_315 mdS_M (by rfl) (by rfl) (sX10_allLong hE hrw hr) rfl (by decide) (by decide) (by exact Nat.le_of_ble_eq_true rfl) (by omega) (by omega) (fun v9 g9 u9 h9 => ?_) (fun _ _ _ h => by cases h.1)
      obtain ⟨hv9, hu9, hg9⟩ := h9
      replace hu9 := hu9.symm
      subst hu9
      subst hg9
      cases hv9
      refine v_if_neB (tgt := 28) dX10_makeNormal_15 (by decide) (fun c15 => ?_) (fun c15 => ?_)
      · exfalso
        have : 2 ≤ eMin u0 := (eMin_f hz24 (by decide)).mpr (fun q hq => of_decide_eq_true ((allB_iff _ _ |>.mp c15) q (by omega) (by rw [hu0.2.2.2.2.2.2.1] at hq; omega)))
        omega
      · refine v_aload_n dX10_makeNormal_18 rfl (by rfl) ?_
        refine v_getf hE dX10_makeNormal_19 fX10_75 mdS_M (by rfl) ?_
        refine v_iload_n dX10_makeNormal_22 rfl (by rfl) ?_
        refine m_iald hE (k := 21) dX10_makeNormal_23 (by decide) (by decide) rfl (show _ < 240 by omega) (by omega) ?_
        refine v_eqi (y := nI (p - n)) h21 ?_
        refine v_iconst (v := nI 1) dX10_makeNormal_24 (by decide) ?_
        refine v_icmp_leN (tgt := 104) dX10_makeNormal_25 (by decide) (by omega) (by omega) (fun c25 => ?_) (fun c25 => ?_)
        · have hes : eSteps u0 g s p = n := by
            rw [hS]
            rw [show p - 1 - n = 0 by omega]
            rfl
          have hnn : eNormN w g s p = n := by
            unfold eNormN
            rw [hcut]
            try dsimp only
            rw [if_pos hm1, hes]
          obtain ⟨k1, k2, k3, k4⟩ := eMvA_f (v := u0) (g := g) (s := s) (p := p) (n := n) hz24
          exact lpC c1 n u0 hcut hnn (eRst_t k1 hu0) (by rw [k3]; exact hz24) (eMin (eMvA u0 g s p n)) 0 v _ (by omega) (by omega) hv h21 (mRw_c (mRw_z hrw (fun q hq => by rw [k3]; rfl)) (fun q k hq hk => by
            have hk : k < eRs u0 q := by rw [← k3]; exact hk
            try dsimp only
            rw [Nat.add_zero, eLet_in (by rw [k3]; exact hk) (by rw [k3]; exact hz24 q)]
            exact (k4 q k (by rw [hu0.2.2.2.2.2.2.1]; omega) hk).symm)) rfl
        · refine v_aload_n dX10_makeNormal_28 rfl (by rfl) ?_
          refine v_iload_n dX10_makeNormal_29 rfl (by rfl) ?_
          refine w_callV hE dX10_makeNormal_30 kX10_315 mdS_M (by rfl) (by rfl) (sX10_allLong hE hrw hr) rfl (by decide) (by decide) (by exact Nat.le_of_ble_eq_true rfl) (by omega) (by omega) (fun v9 g9 u9 h9 => ?_) (fun _ _ _ h => by cases h.1)
          obtain ⟨hv9, hu9, hg9⟩ := h9
          replace hu9 := hu9.symm
          subst hu9
          subst hg9
          cases hv9
          refine v_if_neB (tgt := 67) dX10_makeNormal_33 (by decide) (fun c33 => ?_) (fun c33 => ?_)
          · exfalso
            have : 2 ≤ eMin u0 := (eMin_f hz24 (by decide)).mpr (fun q hq => of_decide_eq_true ((allB_iff _ _ |>.mp c33) q (by omega) (by rw [hu0.2.2.2.2.2.2.1] at hq; omega)))
            omega
          · have hea : allB (rwE (eRs u0) (fun q k => eMov u0 g s p q k n)) ((eRo w - 1) + 1 - 1) 1 = eEnd u0 g s p n := by
              unfold eEnd
              rw [hu0.2.2.2.2.2.2.1, show (eRo w - 1) + 1 - 1 = eRo w - 1 by omega]
              rfl
            have h20 : v.1 20 r = nI s := by
              rw [hv.2.1 20 (by decide) (by decide) (by decide)]
              exact hw.1.trans hs
            have hn1v : nFr r y (va_up v.1 21 (upd (v.1 21) r (nI (p - n - 1))), v.2) := nFr_1 hv
            have hgv : mGn (va_up v.1 21 (upd (v.1 21) r (nI (p - n - 1))), v.2) g := by
              obtain ⟨g1, g2, g3⟩ := hg
              refine ⟨by show v.2 4 = _; rw [hv.1]; exact g1, fun s' hs' => ?_, fun k hk => ?_⟩
              · show v.1 3 s' = _ ∧ (∀ k, _ → v.1 2 (20 * s' + k) = _) ∧ v.1 5 s' = _ ∧ v.1 6 s' = _ ∧ v.1 7 s' = _ ∧ v.1 8 s' = _
                rw [hv.2.1 3 (by decide) (by decide) (by decide), hv.2.1 2 (by decide) (by decide) (by decide), hv.2.1 5 (by decide) (by decide) (by decide), hv.2.1 6 (by decide) (by decide) (by decide), hv.2.1 7 (by decide) (by decide) (by decide), hv.2.1 8 (by decide) (by decide) (by decide)]
                exact g2 s' hs'
              · show v.1 4 k = _
                rw [hv.2.1 4 (by decide) (by decide) (by decide)]
                exact g3 k hk
            have hlet : ∃ ch, ch < 128 ∧ gnLet g s (p - n - 1) = nI ch := by
              unfold gnLet
              rw [if_pos ⟨hs2, by omega, by omega⟩]
              exact hgl.1 _ (by have := hgo.2.2.2 s hs2; omega)
            refine v_aload_n dX10_makeNormal_36 rfl (by rfl) ?_
            refine v_getf hE dX10_makeNormal_37 fX10_75 mdS_M (by rfl) ?_
            refine v_iload_n dX10_makeNormal_40 rfl (by rfl) ?_
            refine v_dup2 dX10_makeNormal_41 rfl rfl ?_
            refine m_iald hE (k := 21) dX10_makeNormal_42 (by decide) (by decide) rfl (show _ < 240 by omega) (by omega) ?_
            refine v_eqi (y := nI (p - n)) h21 ?_
            refine v_iconst (v := nI 1) dX10_makeNormal_43 (by decide) ?_
            refine v_isubN dX10_makeNormal_44 (by omega) ?_
            refine m_iast hE (k := 21) dX10_makeNormal_45 (by decide) (by decide) rfl (show _ < 240 by omega) (by omega) ?_
            refine v_aload_n dX10_makeNormal_46 rfl (by rfl) ?_
            refine v_iload_n dX10_makeNormal_47 rfl (by rfl) ?_
            refine v_aload_n dX10_makeNormal_48 rfl (by rfl) ?_
            refine v_aload_n dX10_makeNormal_49 rfl (by rfl) ?_
            refine v_getf hE dX10_makeNormal_50 fX10_72 mdS_M (by rfl) ?_
            refine v_iload_n dX10_makeNormal_53 rfl (by rfl) ?_
            refine m_iald hE (k := 20) dX10_makeNormal_54 (by decide) (by decide) rfl (show _ < 240 by omega) (by omega) ?_
            refine v_eqi (y := nI s) h20 ?_
            refine v_aload_n dX10_makeNormal_55 rfl (by rfl) ?_
            refine v_getf hE dX10_makeNormal_56 fX10_75 mdS_M (by rfl) ?_
            refine v_iload_n dX10_makeNormal_59 rfl (by rfl) ?_
            refine m_iald hE (k := 21) dX10_makeNormal_60 (by decide) (by decide) rfl (show _ < 240 by omega) (by omega) ?_
            refine v_eqi (y := nI (p - n - 1)) updS ?_
            refine w_callV hE dX10_makeNormal_61 kX10_255 mdS_M (by rfl) (by rfl) (sX10_refAt hE (y := (va_up v.1 21 (upd (v.1 21) r (nI (p - n - 1))), v.2)) (g := g) (s := s) (p := p - n - 1) hgv hgo hs2 (by omega) (by omega)) rfl (by decide) (by decide) (by exact Nat.le_of_ble_eq_true rfl) (by omega) (by omega) (fun v9 g9 u9 h9 => ?_) (fun _ _ _ h => by cases h.1)
            obtain ⟨hv9, hu9, hg9⟩ := h9
            replace hu9 := hu9.symm
            subst hu9
            subst hg9
            cases hv9
            obtain ⟨ch, hch, hch2⟩ := hlet
            refine v_eqi (y := nI ch) hch2 ?_
            refine w_callV hE dX10_makeNormal_64 kX10_318 mdS_M (by rfl) (by rfl) (sX10_toFront hE (y := (va_up v.1 21 (upd (v.1 21) r (nI (p - n - 1))), v.2)) (A := (eRo w - 1)) (z := eRs u0) (c := (fun q k => eMov u0 g s p q k n)) hrw hr hn1v.2.2.2.2.2 (fun q _ => hz24 q) hch) rfl (by decide) (by decide) (by exact Nat.le_of_ble_eq_true rfl) (by omega) (by omega) (fun v9 g9 u9 h9 => ?_) (fun _ _ _ h => by cases h.1)
            obtain ⟨hv9, hu9, v2, hg9, hn2, h212, hrw2⟩ := h9
            replace hu9 := hu9.symm
            subst hu9
            subst hg9
            cases hv9
            refine v_iconst (v := nI 0) dX10_makeNormal_67 (by decide) ?_
            refine v_istore_n dX10_makeNormal_68 rfl (by decide) ?_
            refine dl (fun j => eRs u0 j + 1) (fun j k => if k = 0 then nI ch else eMov u0 g s p j (k - 1) n) v2 _ hn2.2.2.2.2.2 hrw2 (fun q hq => by have := (hrw.2.2 q hq).2.1; omega) (fun v3 hn3 h213 hrw3 z3 => ?_) ((eRo w - 1) + 1) 0 v2 (by omega) (nFr_r hn2.2.2.2.2.2) rfl (mRw_z hrw2 (fun j hj => if_neg (by omega)))
            refine v_iconst (v := nI 1) dX10_makeNormal_99 (by decide) ?_
            refine v_eqi (y := bI (decide (0 < c1 + (n + 1)))) (bI_t (decide_eq_true (by omega))) ?_
            refine v_istore_n dX10_makeNormal_100 rfl (by decide) ?_
            refine v_goto (tgt := 2) dX10_makeNormal_101 (by decide) ?_
            refine ih (d - 1) (by omega) (n + 1) _ _ (by omega) (nFr_t hn1v (nFr_t hn2 hn3)) ?_ ?_ ?_
            · rw [h213, h212]
              show upd (v.1 21) r (nI (p - n - 1)) r = _
              rw [updS]
              exact congrArg nI (by omega)
            · refine mRw_c (mRw_z hrw3 (fun j hj => by (try dsimp only); omega)) (fun j k hj hk => ?_)
              try dsimp only
              by_cases e : k = 0
              · subst e
                rw [if_pos rfl]
                unfold eMov
                rw [if_pos (by omega), ← hch2]
                exact congrArg (gnLet g s) (by omega)
              · rw [if_neg e]
                unfold eMov
                by_cases e2 : k - 1 < n
                · rw [if_pos e2, if_pos (by omega)]
                  exact congrArg (gnLet g s) (by omega)
                · rw [if_neg e2, if_neg (by omega), show k - 1 - n = k - (n + 1) by omega]
            · rw [hS, show p - 1 - n = (p - 1 - (n + 1)) + 1 by omega]
              show (if eEnd u0 g s p n = true then _ else n) = _
              rw [← hea, if_pos c7]
  have lpA : ∀ (d c1 : Nat) (u0 : eV) (v : mV) (z3 : Option Value), eMin u0 = d → nFr r y v → v.1 21 r = nI p → mRw v r (eRo w - 1) (eRs u0) (fun q k => eMov u0 g s p q k 0) → eRst u0 w → eLe u0 = eLe w → (∀ k, eRs u0 k ≤ 24) → (∀ q, q < eRo u0 → 1 ≤ eRs u0 q) → eCut w g s p = eCutL g s p (eMin u0 - 1) c1 u0 → V E mX10_makeNormal 0 0 (fun o f' t' => o = .inl (some (.int (bI (eNorm w g s p).1))) ∧ t' = t ∧ ∃ y', f' = mdS f M y' ∧ nFr r y y' ∧ mE y' r (eNorm w g s p).2 m) 2 [some (.ref M), some (.int (nI r)), some (.int (bI (decide (0 < c1)))), z3] [] (mdS f M v) t 0 0 := by
    intro d
    induction d using Nat.strongRecOn with
    | _ d ih =>
    intro c1 u0 v z3 hd hv h21 hrw hu0 hle hz24 hpos1 hC
    by_cases hm : 2 ≤ eMin u0
    · have hea : allB (rwE (eRs u0) (fun q k => eMov u0 g s p q k 0)) ((eRo w - 1) + 1 - 1) 1 = eEnd u0 g s p 0 := by
        unfold eEnd
        rw [hu0.2.2.2.2.2.2.1, show (eRo w - 1) + 1 - 1 = eRo w - 1 by omega]
        rfl
      have hlong : allB (rwL (eRs u0)) ((eRo w - 1) + 1 - 0) 0 = true := allB_iff _ _ |>.mpr (fun j _ hj => decide_eq_true (by
        have := eMin_le (v := u0) (r := j) (by rw [hu0.2.2.2.2.2.2.1]; omega)
        omega))
      refine v_aload_n dX10_makeNormal_2 rfl (by rfl) ?_
      refine v_iload_n dX10_makeNormal_3 rfl (by rfl) ?_
      refine w_callV hE dX10_makeNormal_4 kX10_312 mdS_M (by rfl) (by rfl) (sX10_endAlike hE hrw hr) rfl (by decide) (by decide) (by exact Nat.le_of_ble_eq_true rfl) (by omega) (by omega) (fun v9 g9 u9 h9 => ?_) (fun _ _ _ h => by cases h.1)
      obtain ⟨hv9, hu9, hg9⟩ := h9
      replace hu9 := hu9.symm
      subst hu9
      subst hg9
      cases hv9
      refine v_if_eqB (tgt := 104) dX10_makeNormal_7 (by decide) (fun c7 => ?_) (fun c7 => ?_)
      · have hcut : eCut w g s p = (c1, u0) := by
          rw [hC, show eMin u0 - 1 = (eMin u0 - 2) + 1 by omega]
          show (if eEnd u0 g s p 0 = true then _ else (c1, u0)) = _
          rw [← hea, if_neg (by rw [c7]; decide)]
        have hnn : eNormN w g s p = 0 := by
          unfold eNormN
          rw [hcut]
          try dsimp only
          rw [if_neg (by omega)]
        obtain ⟨k1, k2, k3, k4⟩ := eMvA_f (v := u0) (g := g) (s := s) (p := p) (n := 0) hz24
        exact lpC c1 0 u0 hcut hnn (eRst_t k1 hu0) (by rw [k3]; exact hz24) (eMin (eMvA u0 g s p 0)) 0 v _ (by omega) (by omega) hv h21 (mRw_c (mRw_z hrw (fun q hq => by rw [k3]; rfl)) (fun q k hq hk => by
          have hk : k < eRs u0 q := by rw [← k3]; exact hk
          try dsimp only
          rw [Nat.add_zero, eLet_in (by rw [k3]; exact hk) (by rw [k3]; exact hz24 q)]
          exact (k4 q k (by rw [hu0.2.2.2.2.2.2.1]; omega) hk).symm)) rfl
      · refine v_aload_n dX10_makeNormal_10 rfl (by rfl) ?_
        refine v_iload_n dX10_makeNormal_11 rfl (by rfl) ?_
        refine w_callV hE dX10_makeNormal_12 kX10_315 mdS_M (by rfl) (by rfl) (sX10_allLong hE hrw hr) rfl (by decide) (by decide) (by exact Nat.le_of_ble_eq_true rfl) (by omega) (by omega) (fun v9 g9 u9 h9 => ?_) (fun _ _ _ h => by cases h.1)
        obtain ⟨hv9, hu9, hg9⟩ := h9
        replace hu9 := hu9.symm
        subst hu9
        subst hg9
        cases hv9
        refine v_if_neB (tgt := 28) dX10_makeNormal_15 (by decide) (fun c15 => ?_) (fun c15 => ?_)
        · refine v_aload_n dX10_makeNormal_28 rfl (by rfl) ?_
          refine v_iload_n dX10_makeNormal_29 rfl (by rfl) ?_
          refine w_callV hE dX10_makeNormal_30 kX10_315 mdS_M (by rfl) (by rfl) (sX10_allLong hE hrw hr) rfl (by decide) (by decide) (by exact Nat.le_of_ble_eq_true rfl) (by omega) (by omega) (fun v9 g9 u9 h9 => ?_) (fun _ _ _ h => by cases h.1)
          obtain ⟨hv9, hu9, hg9⟩ := h9
          replace hu9 := hu9.symm
          subst hu9
          subst hg9
          cases hv9
          refine v_if_neB (tgt := 67) dX10_makeNormal_33 (by decide) (fun c33 => ?_) (fun c33 => ?_)
          · refine v_iconst (v := nI 0) dX10_makeNormal_67 (by decide) ?_
            refine v_istore_n dX10_makeNormal_68 rfl (by decide) ?_
            refine dl (eRs u0) (fun q k => eMov u0 g s p q k 0) v _ hv.2.2.2.2.2 hrw (fun q hq => by have := eMin_le (v := u0) (r := q) (by rw [hu0.2.2.2.2.2.2.1]; omega); omega) (fun v3 hn3 h213 hrw3 z3 => ?_) ((eRo w - 1) + 1) 0 v (by omega) (nFr_r hv.2.2.2.2.2) rfl (mRw_z hrw (fun j hj => if_neg (by omega)))
            refine v_iconst (v := nI 1) dX10_makeNormal_99 (by decide) ?_
            refine v_eqi (y := bI (decide (0 < c1 + 1))) (bI_t (decide_eq_true (by omega))) ?_
            refine v_istore_n dX10_makeNormal_100 rfl (by decide) ?_
            refine v_goto (tgt := 2) dX10_makeNormal_101 (by decide) ?_
            obtain ⟨d1, d2, d3, d4⟩ := eDec_f (y := u0)
            have hz24' : ∀ k, eRs (eDec u0) k ≤ 24 := fun k => by
              have := eDecL_rs (eRo u0 - 0) 0 u0 k
              unfold eDec
              rw [this]
              have := hz24 k
              split <;> omega
            have hq1 : ∀ q, q < eRo u0 → 2 ≤ eRs u0 q := fun q hq => by
              have := eMin_le (v := u0) (r := q) hq
              omega
            have hmd := eMin_dec hz24 (by rw [hu0.2.2.2.2.2.2.1]; omega) (fun q hq => by have := hq1 q hq; omega)
            refine ih (eMin (eDec u0)) (by omega) (c1 + 1) (eDec u0) _ _ rfl (nFr_t hv hn3) ((congrFun h213 r).trans h21) ?_ (eRst_t d1 hu0) (d3.trans hle) hz24' ?_ ?_
            · refine mRw_c (mRw_z hrw3 (fun j hj => d4 j (by rw [hu0.2.2.2.2.2.2.1]; omega))) (fun j k hj hk => ?_)
              have e4 := d4 j (by rw [hu0.2.2.2.2.2.2.1]; omega)
              rw [e4] at hk
              rw [eMov_0 (by omega) (hz24 j), eMov_0 (by omega) (hz24' j), d3]
            · intro q hq
              rw [d1.2.2.2.2.2.2.1] at hq
              rw [d4 q hq]
              have := hq1 q hq
              omega
            · rw [hC, show eMin u0 - 1 = (eMin (eDec u0) - 1) + 1 by omega]
              show (if eEnd u0 g s p 0 = true then _ else (c1, u0)) = _
              rw [← hea, if_pos c7]
          · exact absurd hlong (by rw [c33]; decide)
        · exact absurd hlong (by rw [c15]; decide)
    · have hm1 : eMin u0 = 1 := by
        have : 1 ≤ eMin u0 := eMin_pos hpos1
        omega
      exact lpB c1 u0 (by rw [hC, hm1]; rfl) hm1 hu0 hz24 (p - 1) 0 v z3 (by omega) hv h21 hrw rfl
  refine v_iconst (v := nI 0) dX10_makeNormal_0 (by decide) ?_
  refine v_eqi (y := bI (decide (0 < 0))) rfl ?_
  refine v_istore_n dX10_makeNormal_1 rfl (by decide) ?_
  refine lpA (eMin w) 0 w y _ rfl (nFr_r hO) (hw.2.1.trans hp) ⟨hw.2.2.2.2.1, by have := hwo.1; omega, fun q hq => ?_⟩ eRst_r rfl hwo.2.1 hpos rfl
  obtain ⟨a1, a2⟩ := hw.2.2.2.2.2.2.1 q (by omega)
  have := hwo.2.1 q
  exact ⟨a1, hpos q (by omega), by omega, fun k hk => (a2 k hk).trans (eMov_0 hk (hwo.2.1 q)).symm⟩
