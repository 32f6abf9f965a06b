theorem dEn_r {D : Nat} {x : dV} (hI : dOk D x) {q r : Int32} {e : Nat × eV} (h : dEn x q r = some e) : ∃ i k, ix 2 q = some i ∧ i < 2 ∧ q = nI i ∧ ix (dZ x i).2.2 r = some k ∧ k < (dZ x i).2.2 ∧ r = nI k ∧ e = (i, dW x ((dZ x i).1 k)) := by
  unfold dEn at h
  split at h
  · cases h
  · rename_i i hi
    obtain ⟨i1, i2⟩ := ix_r hi (by decide)
    have hz := (hI.2.2.1 i (by omega)).2
    split at h
    · cases h
    · rename_i k hk
      obtain ⟨k1, k2⟩ := ix_r hk (by omega)
      cases h
      exact ⟨i, k, hi, i1, i2, hk, k1, k2, rfl⟩
theorem bI_n0 {b : Bool} : bI b = nI 1 ∨ bI b = nI 0 := by cases b; exact Or.inr rfl; exact Or.inl rfl
set_option maxRecDepth 100000 in
set_option maxHeartbeats 4000000 in
/-- model: record -/
theorem sX10_record {E : eN} (hE : eOk E) {f : aH} {t : Nat} {M D : Nat} {y : mV} {x : dV} {q r w : Int32} (hR : mRel x y) (hI : dOk D x) : mT E mX10_record 0 0 [.ref M, .int q, .int r, .int w] (mdS f M y) t (fun o f' t' => o = .inl (some (.int ((aRec x q r w).getD (nI 0)))) ∧ t' = t ∧ f' = mdS f M (y.1, va_up y.2 0 (bI (aRec x q r w).isNone))) := by
  refine mT_of (n := 1) (lo := [some (.ref M), some (.int q), some (.int r), some (.int w), none]) (by decide) (by exact Nat.le_of_ble_eq_true rfl) rfl rfl ?_
  refine v_aload_n dX10_record_0 rfl (by rfl) ?_
  refine v_aload_n dX10_record_1 rfl (by rfl) ?_
  refine v_iload_n dX10_record_2 rfl (by rfl) ?_
  refine v_iload_n dX10_record_3 rfl (by rfl) ?_
  refine w_callV hE dX10_record_4 kX10_306 mdS_M (by rfl) (by rfl) (sX10_isRecord hE hR hI) rfl (by decide) (by decide) (by exact Nat.le_of_ble_eq_true rfl) (by omega) (by omega) (fun v9 g9 u9 h9 => ?_) (fun _ _ _ h => by cases h.1)
  obtain ⟨hv9, hu9, hg9⟩ := h9
  replace hu9 := hu9.symm
  subst hu9
  subst hg9
  cases hv9
  refine v_if_eqB (tgt := 23) dX10_record_7 (by decide) (fun c7 => ?_) (fun c7 => ?_)
  · refine v_iconst (v := bI false) dX10_record_23 (by decide) ?_
    refine w_callV hE dX10_record_24 kX10_143 mdS_M (by rfl) (by rfl) (sX10_goes hE) rfl (by decide) (by decide) (by exact Nat.le_of_ble_eq_true rfl) (by omega) (by omega) (fun v9 g9 u9 h9 => ?_) (fun _ _ _ h => by cases h.1)
    obtain ⟨hv9, hu9, hg9⟩ := h9
    replace hu9 := hu9.symm
    subst hu9
    subst hg9
    cases hv9
    refine v_if_neN (tgt := 32) dX10_record_27 (by decide) (by omega) (fun c27 => ?_) (fun c27 => ?_)
    · exact absurd c27 (by decide)
    · refine v_iconst (v := nI 0) dX10_record_30 (by decide) ?_
      refine v_iret dX10_record_31 rfl (by first | rfl | exact nar_bI) ?_
      have hA : aRec x q r w = none := by
        unfold aRec
        split
        · rfl
        · rename_i e he
          first
            | (exfalso; rw [he] at c7; exact Bool.noConfusion c7)
            | (have hw : ∀ j, j < 6 → w ≠ nI j := fun j hj e => by (rw [e, ix_nI hj (by omega)] at c16; cases c16)
               rw [if_neg (hw 0 (by omega)), if_neg (hw 1 (by omega)), if_neg (hw 2 (by omega)), if_neg (hw 3 (by omega)), if_neg (hw 4 (by omega)), if_neg (hw 5 (by omega))])
      rw [hA]
      exact ⟨rfl, rfl, rfl⟩
  · refine v_iload_n dX10_record_10 rfl (by rfl) ?_
    refine v_iconst (v := nI 0) dX10_record_11 (by decide) ?_
    refine v_iconst (v := nI 5) dX10_record_12 (by decide) ?_
    refine w_callS hE dX10_record_13 kX10_136 (by rfl) (sX10_in hE) rfl (by decide) (by decide) (by exact Nat.le_of_ble_eq_true rfl) (by omega) (by omega) (fun v9 g9 u9 h9 => ?_) (fun _ _ _ h => by cases h.1)
    obtain ⟨hv9, hu9, hg9⟩ := h9
    replace hu9 := hu9.symm
    replace hg9 := hg9.symm
    subst hu9
    subst hg9
    cases hv9
    rw [in_ix1 (n := 5) (by omega)]
    refine v_if_eqB (tgt := 23) dX10_record_16 (by decide) (fun c16 => ?_) (fun c16 => ?_)
    · refine v_iconst (v := bI false) dX10_record_23 (by decide) ?_
      refine w_callV hE dX10_record_24 kX10_143 mdS_M (by rfl) (by rfl) (sX10_goes hE) rfl (by decide) (by decide) (by exact Nat.le_of_ble_eq_true rfl) (by omega) (by omega) (fun v9 g9 u9 h9 => ?_) (fun _ _ _ h => by cases h.1)
      obtain ⟨hv9, hu9, hg9⟩ := h9
      replace hu9 := hu9.symm
      subst hu9
      subst hg9
      cases hv9
      refine v_if_neN (tgt := 32) dX10_record_27 (by decide) (by omega) (fun c27 => ?_) (fun c27 => ?_)
      · exact absurd c27 (by decide)
      · refine v_iconst (v := nI 0) dX10_record_30 (by decide) ?_
        refine v_iret dX10_record_31 rfl (by first | rfl | exact nar_bI) ?_
        have hA : aRec x q r w = none := by
          unfold aRec
          split
          · rfl
          · rename_i e he
            first
              | (exfalso; rw [he] at c7; exact Bool.noConfusion c7)
              | (have hw : ∀ j, j < 6 → w ≠ nI j := fun j hj e => by (rw [e, ix_nI hj (by omega)] at c16; cases c16)
                 rw [if_neg (hw 0 (by omega)), if_neg (hw 1 (by omega)), if_neg (hw 2 (by omega)), if_neg (hw 3 (by omega)), if_neg (hw 4 (by omega)), if_neg (hw 5 (by omega))])
        rw [hA]
        exact ⟨rfl, rfl, rfl⟩
    · refine v_iconst (v := bI true) dX10_record_19 (by decide) ?_
      refine v_goto (tgt := 24) dX10_record_20 (by decide) ?_
      refine w_callV hE dX10_record_24 kX10_143 mdS_M (by rfl) (by rfl) (sX10_goes hE) rfl (by decide) (by decide) (by exact Nat.le_of_ble_eq_true rfl) (by omega) (by omega) (fun v9 g9 u9 h9 => ?_) (fun _ _ _ h => by cases h.1)
      obtain ⟨hv9, hu9, hg9⟩ := h9
      replace hu9 := hu9.symm
      subst hu9
      subst hg9
      cases hv9
      refine v_if_neN (tgt := 32) dX10_record_27 (by decide) (by omega) (fun c27 => ?_) (fun c27 => ?_)
      · obtain ⟨e, he⟩ := Option.isSome_iff_exists.mp c7
        obtain ⟨i, k, hi0, i2, i3, hk0, k2, k3, he2⟩ := dEn_r hI he
        subst i3
        subst k3
        subst he2
        have hT := hR.2.2.2.1 i i2
        have hzo := hI.2.2.1 i (by omega)
        have hz8 := hzo.2
        have hn3 := hzo.1.1
        have hwo := hI.2.2.2.1 _ (dre_X hI (show i < 3 by omega) k (by omega))
        have hro := hwo.1
        obtain ⟨m1, m2, m3, m4, m5, m6, m7, m8, m9, m10⟩ := hT.2.2.2 k k2
        obtain ⟨m, hm⟩ := Option.isSome_iff_exists.mp c16
        obtain ⟨mm2, mm3⟩ := ix_r hm (by omega)
        subst mm3
        refine v_bipush (v := nI 60) dX10_record_32 (by decide) ?_
        refine v_iload_n dX10_record_34 rfl (by rfl) ?_
        refine v_imulN dX10_record_35 ?_
        refine v_iload_n dX10_record_36 rfl (by rfl) ?_
        refine v_iaddN dX10_record_37 ?_
        refine v_istore dX10_record_38 (by decide) ?_
        refine v_iload_n dX10_record_40 rfl (by rfl) ?_
        rcases (show m = 0 ∨ m = 1 ∨ m = 2 ∨ m = 3 ∨ m = 4 ∨ m = 5 by omega) with e9 | e9 | e9 | e9 | e9 | e9
        · subst e9
          refine v_tableIn (off := 35) (tgt := 76) dX10_record_41 (by decide) (by decide) (by decide) (by decide) ?_
          refine v_aload_n dX10_record_76 rfl (by rfl) ?_
          refine v_getf hE dX10_record_77 fX10_72 mdS_M (by rfl) ?_
          refine v_iload dX10_record_80 (by rfl) ?_
          refine m_iald hE (k := 20) dX10_record_82 (by decide) (by decide) rfl (show _ < 240 by omega) (by omega) ?_
          refine v_iret dX10_record_83 rfl (by first | rfl | exact nar_bI) ?_
          have hA : aRec x (nI i) (nI k) (nI 0) = some (y.1 20 (60 * i + k)) := by unfold aRec; rw [he]; show (if _ then _ else if _ then _ else if _ then _ else if _ then _ else if _ then _ else if _ then _ else none) = _; rw [if_pos rfl, m1]
          rw [hA]
          exact ⟨rfl, rfl, rfl⟩
        · subst e9
          refine v_tableIn (off := 43) (tgt := 84) dX10_record_41 (by decide) (by decide) (by decide) (by decide) ?_
          refine v_aload_n dX10_record_84 rfl (by rfl) ?_
          refine v_getf hE dX10_record_85 fX10_75 mdS_M (by rfl) ?_
          refine v_iload dX10_record_88 (by rfl) ?_
          refine m_iald hE (k := 21) dX10_record_90 (by decide) (by decide) rfl (show _ < 240 by omega) (by omega) ?_
          refine v_iret dX10_record_91 rfl (by first | rfl | exact nar_bI) ?_
          have hA : aRec x (nI i) (nI k) (nI 1) = some (y.1 21 (60 * i + k)) := by unfold aRec; rw [he]; show (if _ then _ else if _ then _ else if _ then _ else if _ then _ else if _ then _ else if _ then _ else none) = _; rw [if_neg (nI_n (show 1 ≠ 0 by omega) (by omega) (by omega))]; rw [if_pos rfl, m2]
          rw [hA]
          exact ⟨rfl, rfl, rfl⟩
        · subst e9
          refine v_tableIn (off := 51) (tgt := 92) dX10_record_41 (by decide) (by decide) (by decide) (by decide) ?_
          refine v_aload_n dX10_record_92 rfl (by rfl) ?_
          refine v_getf hE dX10_record_93 fX10_84 mdS_M (by rfl) ?_
          refine v_iload dX10_record_96 (by rfl) ?_
          refine m_iald hE (k := 24) dX10_record_98 (by decide) (by decide) rfl (show _ < 240 by omega) (by omega) ?_
          refine v_iret dX10_record_99 rfl (by first | rfl | exact nar_bI) ?_
          have hA : aRec x (nI i) (nI k) (nI 2) = some (y.1 24 (60 * i + k)) := by unfold aRec; rw [he]; show (if _ then _ else if _ then _ else if _ then _ else if _ then _ else if _ then _ else if _ then _ else none) = _; rw [if_neg (nI_n (show 2 ≠ 0 by omega) (by omega) (by omega))]; rw [if_neg (nI_n (show 2 ≠ 1 by omega) (by omega) (by omega))]; rw [if_pos rfl, m5]
          rw [hA]
          exact ⟨rfl, rfl, rfl⟩
        · subst e9
          refine v_tableIn (off := 59) (tgt := 100) dX10_record_41 (by decide) (by decide) (by decide) (by decide) ?_
          refine v_aload_n dX10_record_100 rfl (by rfl) ?_
          refine v_getf hE dX10_record_101 fX10_93 mdS_M (by rfl) ?_
          refine v_iload dX10_record_104 (by rfl) ?_
          refine m_iald hE (k := 27) dX10_record_106 (by decide) (by decide) rfl (show _ < 240 by omega) (by omega) ?_
          refine v_iret dX10_record_107 rfl (by first | rfl | exact nar_bI) ?_
          have hA : aRec x (nI i) (nI k) (nI 3) = some (y.1 27 (60 * i + k)) := by unfold aRec; rw [he]; show (if _ then _ else if _ then _ else if _ then _ else if _ then _ else if _ then _ else if _ then _ else none) = _; rw [if_neg (nI_n (show 3 ≠ 0 by omega) (by omega) (by omega))]; rw [if_neg (nI_n (show 3 ≠ 1 by omega) (by omega) (by omega))]; rw [if_neg (nI_n (show 3 ≠ 2 by omega) (by omega) (by omega))]; rw [if_pos rfl, m8]
          rw [hA]
          exact ⟨rfl, rfl, rfl⟩
        · subst e9
          refine v_tableIn (off := 67) (tgt := 108) dX10_record_41 (by decide) (by decide) (by decide) (by decide) ?_
          refine v_aload_n dX10_record_108 rfl (by rfl) ?_
          refine v_getf hE dX10_record_109 fX10_96 mdS_M (by rfl) ?_
          refine v_iload dX10_record_112 (by rfl) ?_
          refine m_zald hE (k := 28) dX10_record_114 (by decide) (by decide) rfl (show _ < 240 by omega) (by omega) ?_
          refine v_eqi (y := bI (ePa (dW x ((dZ x i).1 k)))) m9 ?_
          refine v_if_eqB (tgt := 122) dX10_record_115 (by decide) (fun c115 => ?_) (fun c115 => ?_)
          · refine v_iconst (v := nI 0) dX10_record_122 (by decide) ?_
            refine v_iret dX10_record_123 rfl (by first | rfl | exact nar_bI) ?_
            have hA : aRec x (nI i) (nI k) (nI 4) = some (bI (ePa (dW x ((dZ x i).1 k)))) := by unfold aRec; rw [he]; show (if _ then _ else if _ then _ else if _ then _ else if _ then _ else if _ then _ else if _ then _ else none) = _; rw [if_neg (nI_n (show 4 ≠ 0 by omega) (by omega) (by omega))]; rw [if_neg (nI_n (show 4 ≠ 1 by omega) (by omega) (by omega))]; rw [if_neg (nI_n (show 4 ≠ 2 by omega) (by omega) (by omega))]; rw [if_neg (nI_n (show 4 ≠ 3 by omega) (by omega) (by omega))]; rw [if_pos rfl]
            rw [hA, c115]
            exact ⟨rfl, rfl, rfl⟩
          · refine v_iconst (v := nI 1) dX10_record_118 (by decide) ?_
            refine v_goto (tgt := 123) dX10_record_119 (by decide) ?_
            refine v_iret dX10_record_123 rfl (by first | rfl | exact nar_bI) ?_
            have hA : aRec x (nI i) (nI k) (nI 4) = some (bI (ePa (dW x ((dZ x i).1 k)))) := by unfold aRec; rw [he]; show (if _ then _ else if _ then _ else if _ then _ else if _ then _ else if _ then _ else if _ then _ else none) = _; rw [if_neg (nI_n (show 4 ≠ 0 by omega) (by omega) (by omega))]; rw [if_neg (nI_n (show 4 ≠ 1 by omega) (by omega) (by omega))]; rw [if_neg (nI_n (show 4 ≠ 2 by omega) (by omega) (by omega))]; rw [if_neg (nI_n (show 4 ≠ 3 by omega) (by omega) (by omega))]; rw [if_pos rfl]
            rw [hA, c115]
            exact ⟨rfl, rfl, rfl⟩
        · subst e9
          refine v_tableOut (tgt := 124) dX10_record_41 (by decide) (by decide) ?_
          refine v_aload_n dX10_record_124 rfl (by rfl) ?_
          refine v_getf hE dX10_record_125 fX10_81 mdS_M (by rfl) ?_
          refine v_iload dX10_record_128 (by rfl) ?_
          refine m_iald hE (k := 23) dX10_record_130 (by decide) (by decide) rfl (show _ < 240 by omega) (by omega) ?_
          refine v_iret dX10_record_131 rfl (by first | rfl | exact nar_bI) ?_
          have hA : aRec x (nI i) (nI k) (nI 5) = some (y.1 23 (60 * i + k)) := by unfold aRec; rw [he]; show (if _ then _ else if _ then _ else if _ then _ else if _ then _ else if _ then _ else if _ then _ else none) = _; rw [if_neg (nI_n (show 5 ≠ 0 by omega) (by omega) (by omega))]; rw [if_neg (nI_n (show 5 ≠ 1 by omega) (by omega) (by omega))]; rw [if_neg (nI_n (show 5 ≠ 2 by omega) (by omega) (by omega))]; rw [if_neg (nI_n (show 5 ≠ 3 by omega) (by omega) (by omega))]; rw [if_neg (nI_n (show 5 ≠ 4 by omega) (by omega) (by omega))]; rw [if_pos rfl, m3]
          rw [hA]
          exact ⟨rfl, rfl, rfl⟩
      · exact absurd c27 (by decide)

set_option maxRecDepth 100000 in
set_option maxHeartbeats 4000000 in
/-- model: row -/
theorem sX10_row {E : eN} (hE : eOk E) {f : aH} {t : Nat} {M D : Nat} {y : mV} {x : dV} {q r m p : Int32} (hR : mRel x y) (hI : dOk D x) : mT E mX10_row 0 0 [.ref M, .int q, .int r, .int m, .int p] (mdS f M y) t (fun o f' t' => o = .inl (some (.int ((aRow x q r m p).getD (nI 0)))) ∧ t' = t ∧ f' = mdS f M (y.1, va_up y.2 0 (bI (aRow x q r m p).isNone))) := by
  refine mT_of (n := 1) (lo := [some (.ref M), some (.int q), some (.int r), some (.int m), some (.int p), none]) (by decide) (by exact Nat.le_of_ble_eq_true rfl) rfl rfl ?_
  refine v_aload_n dX10_row_0 rfl (by rfl) ?_
  refine v_aload_n dX10_row_1 rfl (by rfl) ?_
  refine v_iload_n dX10_row_2 rfl (by rfl) ?_
  refine v_iload_n dX10_row_3 rfl (by rfl) ?_
  refine w_callV hE dX10_row_4 kX10_306 mdS_M (by rfl) (by rfl) (sX10_isRecord hE hR hI) rfl (by decide) (by decide) (by exact Nat.le_of_ble_eq_true rfl) (by omega) (by omega) (fun v9 g9 u9 h9 => ?_) (fun _ _ _ h => by cases h.1)
  obtain ⟨hv9, hu9, hg9⟩ := h9
  replace hu9 := hu9.symm
  subst hu9
  subst hg9
  cases hv9
  refine v_if_eqB (tgt := 33) dX10_row_7 (by decide) (fun c7 => ?_) (fun c7 => ?_)
  · refine v_iconst (v := bI false) dX10_row_33 (by decide) ?_
    refine w_callV hE dX10_row_34 kX10_143 mdS_M (by rfl) (by rfl) (sX10_goes hE) rfl (by decide) (by decide) (by exact Nat.le_of_ble_eq_true rfl) (by omega) (by omega) (fun v9 g9 u9 h9 => ?_) (fun _ _ _ h => by cases h.1)
    obtain ⟨hv9, hu9, hg9⟩ := h9
    replace hu9 := hu9.symm
    subst hu9
    subst hg9
    cases hv9
    refine v_if_neN (tgt := 42) dX10_row_37 (by decide) (by omega) (fun c37 => ?_) (fun c37 => ?_)
    · exact absurd c37 (by decide)
    · refine v_iconst (v := nI 0) dX10_row_40 (by decide) ?_
      refine v_iret dX10_row_41 rfl (by first | rfl | exact nar_bI) ?_
      first
        | (have hA : aRow x q r m p = none := by
             unfold aRow
             split
             · rfl
             · rename_i e he
               exfalso
               rw [he] at c7
               exact Bool.noConfusion c7
           rw [hA]
           exact ⟨rfl, rfl, rfl⟩)
        | (have hA : aRow x (nI i) (nI k) m p = none := by
             unfold aRow; rw [he]; show (match ix _ _ with | none => none | some n => _) = _; 
             split
             · rfl
             · rename_i n hn
               exfalso
               rw [show ix (eRo (dW x ((dZ x i).1 k))) m = some n from hn] at c26
               exact Bool.noConfusion c26
           rw [hA]
           exact ⟨rfl, rfl, rfl⟩)
  · obtain ⟨e, he⟩ := Option.isSome_iff_exists.mp c7
    obtain ⟨i, k, hi0, i2, i3, hk0, k2, k3, he2⟩ := dEn_r hI he
    subst i3
    subst k3
    subst he2
    have hT := hR.2.2.2.1 i i2
    have hzo := hI.2.2.1 i (by omega)
    have hz8 := hzo.2
    have hn3 := hzo.1.1
    have hwo := hI.2.2.2.1 _ (dre_X hI (show i < 3 by omega) k (by omega))
    have hro := hwo.1
    obtain ⟨m1, m2, m3, m4, m5, m6, m7, m8, m9, m10⟩ := hT.2.2.2 k k2
    refine v_iload_n dX10_row_10 rfl (by rfl) ?_
    refine v_iconst (v := nI 0) dX10_row_11 (by decide) ?_
    refine v_aload_n dX10_row_12 rfl (by rfl) ?_
    refine v_getf hE dX10_row_13 fX10_84 mdS_M (by rfl) ?_
    refine v_bipush (v := nI 60) dX10_row_16 (by decide) ?_
    refine v_iload_n dX10_row_18 rfl (by rfl) ?_
    refine v_imulN dX10_row_19 ?_
    refine v_iload_n dX10_row_20 rfl (by rfl) ?_
    refine v_iaddN dX10_row_21 ?_
    refine m_iald hE (k := 24) dX10_row_22 (by decide) (by decide) rfl (show _ < 240 by omega) (by omega) ?_
    refine v_eqi (y := nI (eRo (dW x ((dZ x i).1 k)) - 1)) m5 ?_
    refine w_callS hE dX10_row_23 kX10_136 (by rfl) (sX10_in hE) rfl (by decide) (by decide) (by exact Nat.le_of_ble_eq_true rfl) (by omega) (by omega) (fun v9 g9 u9 h9 => ?_) (fun _ _ _ h => by cases h.1)
    obtain ⟨hv9, hu9, hg9⟩ := h9
    replace hu9 := hu9.symm
    replace hg9 := hg9.symm
    subst hu9
    subst hg9
    cases hv9
    rw [in_ix1 (n := eRo (dW x ((dZ x i).1 k)) - 1) (by omega), show eRo (dW x ((dZ x i).1 k)) - 1 + 1 = eRo (dW x ((dZ x i).1 k)) by omega]
    refine v_if_eqB (tgt := 33) dX10_row_26 (by decide) (fun c26 => ?_) (fun c26 => ?_)
    · refine v_iconst (v := bI false) dX10_row_33 (by decide) ?_
      refine w_callV hE dX10_row_34 kX10_143 mdS_M (by rfl) (by rfl) (sX10_goes hE) rfl (by decide) (by decide) (by exact Nat.le_of_ble_eq_true rfl) (by omega) (by omega) (fun v9 g9 u9 h9 => ?_) (fun _ _ _ h => by cases h.1)
      obtain ⟨hv9, hu9, hg9⟩ := h9
      replace hu9 := hu9.symm
      subst hu9
      subst hg9
      cases hv9
      refine v_if_neN (tgt := 42) dX10_row_37 (by decide) (by omega) (fun c37 => ?_) (fun c37 => ?_)
      · exact absurd c37 (by decide)
      · refine v_iconst (v := nI 0) dX10_row_40 (by decide) ?_
        refine v_iret dX10_row_41 rfl (by first | rfl | exact nar_bI) ?_
        first
          | (have hA : aRow x q r m p = none := by
               unfold aRow
               split
               · rfl
               · rename_i e he
                 exfalso
                 rw [he] at c7
                 exact Bool.noConfusion c7
             rw [hA]
             exact ⟨rfl, rfl, rfl⟩)
          | (have hA : aRow x (nI i) (nI k) m p = none := by
               unfold aRow; rw [he]; show (match ix _ _ with | none => none | some n => _) = _; 
               split
               · rfl
               · rename_i n hn
                 exfalso
                 rw [show ix (eRo (dW x ((dZ x i).1 k))) m = some n from hn] at c26
                 exact Bool.noConfusion c26
             rw [hA]
             exact ⟨rfl, rfl, rfl⟩)
    · refine v_iconst (v := bI true) dX10_row_29 (by decide) ?_
      refine v_goto (tgt := 34) dX10_row_30 (by decide) ?_
      refine w_callV hE dX10_row_34 kX10_143 mdS_M (by rfl) (by rfl) (sX10_goes hE) rfl (by decide) (by decide) (by exact Nat.le_of_ble_eq_true rfl) (by omega) (by omega) (fun v9 g9 u9 h9 => ?_) (fun _ _ _ h => by cases h.1)
      obtain ⟨hv9, hu9, hg9⟩ := h9
      replace hu9 := hu9.symm
      subst hu9
      subst hg9
      cases hv9
      refine v_if_neN (tgt := 42) dX10_row_37 (by decide) (by omega) (fun c37 => ?_) (fun c37 => ?_)
      · obtain ⟨n, hn⟩ := Option.isSome_iff_exists.mp c26
        obtain ⟨n2, n3⟩ := ix_r hn (by omega)
        subst n3
        have hq := m7 n n2
        have hrs := hwo.2.1 n
        refine v_iconst (v := nI 4) dX10_row_42 (by decide) ?_
        refine v_bipush (v := nI 60) dX10_row_43 (by decide) ?_
        refine v_iload_n dX10_row_45 rfl (by rfl) ?_
        refine v_imulN dX10_row_46 ?_
        refine v_iload_n dX10_row_47 rfl (by rfl) ?_
        refine v_iaddN dX10_row_48 ?_
        refine v_imulN dX10_row_49 ?_
        refine v_iload_n dX10_row_50 rfl (by rfl) ?_
        refine v_iaddN dX10_row_51 ?_
        refine v_istore dX10_row_52 (by decide) ?_
        refine v_iload dX10_row_54 (by rfl) ?_
        refine v_iconst (v := (-1)) dX10_row_56 (by decide) ?_
        refine v_icmp_ne (tgt := 70) dX10_row_57 (by decide) (fun c57 => ?_) (fun c57 => ?_)
        · refine v_iload dX10_row_70 (by rfl) ?_
          refine v_iconst (v := nI 0) dX10_row_72 (by decide) ?_
          refine v_aload_n dX10_row_73 rfl (by rfl) ?_
          refine v_getf hE dX10_row_74 fX10_90 mdS_M (by rfl) ?_
          refine v_iload dX10_row_77 (by rfl) ?_
          refine m_iald hE (k := 26) dX10_row_79 (by decide) (by decide) rfl (show _ < 960 by omega) (by omega) ?_
          refine v_eqi (y := nI (eRs (dW x ((dZ x i).1 k)) n)) hq.1 ?_
          refine v_iconst (v := nI 1) dX10_row_80 (by decide) ?_
          refine v_isub dX10_row_81 ?_
          refine w_callS hE dX10_row_82 kX10_136 (by rfl) (sX10_in hE) rfl (by decide) (by decide) (by exact Nat.le_of_ble_eq_true rfl) (by omega) (by omega) (fun v9 g9 u9 h9 => ?_) (fun _ _ _ h => by cases h.1)
          obtain ⟨hv9, hu9, hg9⟩ := h9
          replace hu9 := hu9.symm
          replace hg9 := hg9.symm
          subst hu9
          subst hg9
          cases hv9
          rw [in_ix (n := eRs (dW x ((dZ x i).1 k)) n) (by omega)]
          refine v_if_eqB (tgt := 104) dX10_row_85 (by decide) (fun c85 => ?_) (fun c85 => ?_)
          · refine v_iconst (v := (-1)) dX10_row_104 (by decide) ?_
            refine v_iret dX10_row_105 rfl (by first | rfl | exact nar_bI) ?_
            first
              | (have hA : aRow x (nI i) (nI k) (nI n) p = some (y.1 26 (4 * (60 * i + k) + n)) := by
                   unfold aRow; rw [he]; show (match ix _ _ with | none => none | some n => _) = _; rw [hn]; show (if _ then _ else _) = _; rw [if_pos c57, hq.1]
                 rw [hA]; exact ⟨rfl, rfl, rfl⟩)
              | (have hA : aRow x (nI i) (nI k) (nI n) p = some (-1) := by
                   unfold aRow; rw [he]; show (match ix _ _ with | none => none | some n => _) = _; rw [hn]; show (if _ then _ else _) = _; rw [if_neg c57]
                   unfold eLet
                   unfold ix at c85
                   split at c85
                   · exact Bool.noConfusion c85
                   · rename_i hh
                     rw [if_neg hh]
                 rw [hA]; exact ⟨rfl, rfl, rfl⟩)
              | (have hA : aRow x (nI i) (nI k) (nI n) (nI j) = some (y.1 25 (26 * (4 * (60 * i + k) + n) + j)) := by
                   unfold aRow; rw [he]; show (match ix _ _ with | none => none | some n => _) = _; rw [hn]; show (if _ then _ else _) = _; rw [if_neg c57, hq.2 j j2]
                   unfold eLet
                   rw [if_pos (show 0 ≤ nI j ∧ nI j < nI (eRs (dW x ((dZ x i).1 k)) n) from ⟨nI_pos' (by omega), nI_lt j2 (by omega)⟩), nI_clamp (n := j) (by omega)]
                 rw [hA]; exact ⟨rfl, rfl, rfl⟩)
          · obtain ⟨j, hj⟩ := Option.isSome_iff_exists.mp c85
            obtain ⟨j2, j3⟩ := ix_r hj (by omega)
            subst j3
            refine v_aload_n dX10_row_88 rfl (by rfl) ?_
            refine v_getf hE dX10_row_89 fX10_87 mdS_M (by rfl) ?_
            refine v_bipush (v := nI 26) dX10_row_92 (by decide) ?_
            refine v_iload dX10_row_94 (by rfl) ?_
            refine v_imulN dX10_row_96 ?_
            refine v_iload dX10_row_97 (by rfl) ?_
            refine v_iaddN dX10_row_99 ?_
            refine m_bald hE (k := 25) dX10_row_100 (by decide) (by decide) rfl (show _ < 24960 by omega) (by omega) ?_
            refine v_goto (tgt := 105) dX10_row_101 (by decide) ?_
            refine v_iret dX10_row_105 rfl (by first | rfl | exact nar_bI) ?_
            first
              | (have hA : aRow x (nI i) (nI k) (nI n) p = some (y.1 26 (4 * (60 * i + k) + n)) := by
                   unfold aRow; rw [he]; show (match ix _ _ with | none => none | some n => _) = _; rw [hn]; show (if _ then _ else _) = _; rw [if_pos c57, hq.1]
                 rw [hA]; exact ⟨rfl, rfl, rfl⟩)
              | (have hA : aRow x (nI i) (nI k) (nI n) p = some (-1) := by
                   unfold aRow; rw [he]; show (match ix _ _ with | none => none | some n => _) = _; rw [hn]; show (if _ then _ else _) = _; rw [if_neg c57]
                   unfold eLet
                   unfold ix at c85
                   split at c85
                   · exact Bool.noConfusion c85
                   · rename_i hh
                     rw [if_neg hh]
                 rw [hA]; exact ⟨rfl, rfl, rfl⟩)
              | (have hA : aRow x (nI i) (nI k) (nI n) (nI j) = some (y.1 25 (26 * (4 * (60 * i + k) + n) + j)) := by
                   unfold aRow; rw [he]; show (match ix _ _ with | none => none | some n => _) = _; rw [hn]; show (if _ then _ else _) = _; rw [if_neg c57, hq.2 j j2]
                   unfold eLet
                   rw [if_pos (show 0 ≤ nI j ∧ nI j < nI (eRs (dW x ((dZ x i).1 k)) n) from ⟨nI_pos' (by omega), nI_lt j2 (by omega)⟩), nI_clamp (n := j) (by omega)]
                 rw [hA]; exact ⟨rfl, rfl, rfl⟩)
        · refine v_aload_n dX10_row_60 rfl (by rfl) ?_
          refine v_getf hE dX10_row_61 fX10_90 mdS_M (by rfl) ?_
          refine v_iload dX10_row_64 (by rfl) ?_
          refine m_iald hE (k := 26) dX10_row_66 (by decide) (by decide) rfl (show _ < 960 by omega) (by omega) ?_
          refine v_goto (tgt := 105) dX10_row_67 (by decide) ?_
          refine v_iret dX10_row_105 rfl (by first | rfl | exact nar_bI) ?_
          first
            | (have hA : aRow x (nI i) (nI k) (nI n) p = some (y.1 26 (4 * (60 * i + k) + n)) := by
                 unfold aRow; rw [he]; show (match ix _ _ with | none => none | some n => _) = _; rw [hn]; show (if _ then _ else _) = _; rw [if_pos c57, hq.1]
               rw [hA]; exact ⟨rfl, rfl, rfl⟩)
            | (have hA : aRow x (nI i) (nI k) (nI n) p = some (-1) := by
                 unfold aRow; rw [he]; show (match ix _ _ with | none => none | some n => _) = _; rw [hn]; show (if _ then _ else _) = _; rw [if_neg c57]
                 unfold eLet
                 unfold ix at c85
                 split at c85
                 · exact Bool.noConfusion c85
                 · rename_i hh
                   rw [if_neg hh]
               rw [hA]; exact ⟨rfl, rfl, rfl⟩)
            | (have hA : aRow x (nI i) (nI k) (nI n) (nI j) = some (y.1 25 (26 * (4 * (60 * i + k) + n) + j)) := by
                 unfold aRow; rw [he]; show (match ix _ _ with | none => none | some n => _) = _; rw [hn]; show (if _ then _ else _) = _; rw [if_neg c57, hq.2 j j2]
                 unfold eLet
                 rw [if_pos (show 0 ≤ nI j ∧ nI j < nI (eRs (dW x ((dZ x i).1 k)) n) from ⟨nI_pos' (by omega), nI_lt j2 (by omega)⟩), nI_clamp (n := j) (by omega)]
               rw [hA]; exact ⟨rfl, rfl, rfl⟩)
      · exact absurd c37 (by decide)

set_option maxRecDepth 100000 in
set_option maxHeartbeats 4000000 in
/-- model: callAt -/
theorem sX10_callAt {E : eN} (hE : eOk E) {f : aH} {t : Nat} {M : Nat} {y : mV} {r s c n : Nat} {w : eV} (hw : mE y r w n) (hwo : enOk w) (hr : r < 240) (hs : s < n) (hn : n ≤ 3) (hc : c < 2) : mT E mX10_callAt 0 0 [.ref M, .int (nI r), .int (nI s), .int (nI c)] (mdS f M y) t (fun o f' t' => o = .inl (some (.int (eCall w s c))) ∧ t' = t ∧ f' = mdS f M y) := by
  refine mT_of (n := 0) (lo := [some (.ref M), some (.int (nI r)), some (.int (nI s)), some (.int (nI c))]) (by decide) (by exact Nat.le_of_ble_eq_true rfl) rfl rfl ?_
  obtain ⟨m1, m2, m3, m4, m5, m6, m7, m8, m9, m10⟩ := id hw
  obtain ⟨a1, a2, a3⟩ := m10 s hs
  have h2 := hwo.2.2.1 s
  refine v_iload_n dX10_callAt_0 rfl (by rfl) ?_
  refine v_aload_n dX10_callAt_1 rfl (by rfl) ?_
  refine v_getf hE dX10_callAt_2 fX10_103 mdS_M (by rfl) ?_
  refine v_iconst (v := nI 3) dX10_callAt_5 (by decide) ?_
  refine v_iload_n dX10_callAt_6 rfl (by rfl) ?_
  refine v_imulN dX10_callAt_7 ?_
  refine v_iload_n dX10_callAt_8 rfl (by rfl) ?_
  refine v_iaddN dX10_callAt_9 ?_
  refine m_iald hE (k := 30) dX10_callAt_10 (by decide) (by decide) rfl (show _ < 720 by omega) (by omega) ?_
  refine v_eqi (y := nI (eCn w s)) a1 ?_
  refine v_icmp_geN (tgt := 32) dX10_callAt_11 (by decide) (by omega) (by omega) (fun c11 => ?_) (fun c11 => ?_)
  · refine v_iconst (v := (-1)) dX10_callAt_32 (by decide) ?_
    refine v_iret dX10_callAt_33 rfl (by first | rfl | exact nar_bI) ?_
    refine ⟨congrArg (fun x => (Sum.inl (some (Value.int x)) : aO)) ?_, rfl, rfl⟩
    unfold eCall
    first | (rw [if_pos (by omega)]; exact a3 c (by omega)) | (rw [if_neg (by omega)])
  · refine v_aload_n dX10_callAt_14 rfl (by rfl) ?_
    refine v_getf hE dX10_callAt_15 fX10_100 mdS_M (by rfl) ?_
    refine v_bipush (v := nI 6) dX10_callAt_18 (by decide) ?_
    refine v_iload_n dX10_callAt_20 rfl (by rfl) ?_
    refine v_imulN dX10_callAt_21 ?_
    refine v_iconst (v := nI 2) dX10_callAt_22 (by decide) ?_
    refine v_iload_n dX10_callAt_23 rfl (by rfl) ?_
    refine v_imulN dX10_callAt_24 ?_
    refine v_iaddN dX10_callAt_25 ?_
    refine v_iload_n dX10_callAt_26 rfl (by rfl) ?_
    refine v_iaddN dX10_callAt_27 ?_
    refine m_iald hE (k := 29) dX10_callAt_28 (by decide) (by decide) rfl (show _ < 1440 by omega) (by omega) ?_
    refine v_goto (tgt := 33) dX10_callAt_29 (by decide) ?_
    refine v_iret dX10_callAt_33 rfl (by first | rfl | exact nar_bI) ?_
    refine ⟨congrArg (fun x => (Sum.inl (some (Value.int x)) : aO)) ?_, rfl, rfl⟩
    unfold eCall
    first | (rw [if_pos (by omega)]; exact a3 c (by omega)) | (rw [if_neg (by omega)])

set_option maxRecDepth 100000 in
set_option maxHeartbeats 4000000 in
/-- model: call -/
theorem sX10_call {E : eN} (hE : eOk E) {f : aH} {t : Nat} {M D : Nat} {y : mV} {x : dV} {q r m w : Int32} (hR : mRel x y) (hI : dOk D x) : mT E mX10_call 0 0 [.ref M, .int q, .int r, .int m, .int w] (mdS f M y) t (fun o f' t' => o = .inl (some (.int ((aCal x q r m w).getD (nI 0)))) ∧ t' = t ∧ f' = mdS f M (y.1, va_up y.2 0 (bI (aCal x q r m w).isNone))) := by
  refine mT_of (n := 1) (lo := [some (.ref M), some (.int q), some (.int r), some (.int m), some (.int w), none]) (by decide) (by exact Nat.le_of_ble_eq_true rfl) rfl rfl ?_
  refine v_aload_n dX10_call_0 rfl (by rfl) ?_
  refine v_aload_n dX10_call_1 rfl (by rfl) ?_
  refine v_iload_n dX10_call_2 rfl (by rfl) ?_
  refine v_iload_n dX10_call_3 rfl (by rfl) ?_
  refine w_callV hE dX10_call_4 kX10_306 mdS_M (by rfl) (by rfl) (sX10_isRecord hE hR hI) rfl (by decide) (by decide) (by exact Nat.le_of_ble_eq_true rfl) (by omega) (by omega) (fun v9 g9 u9 h9 => ?_) (fun _ _ _ h => by cases h.1)
  obtain ⟨hv9, hu9, hg9⟩ := h9
  replace hu9 := hu9.symm
  subst hu9
  subst hg9
  cases hv9
  refine v_if_eqB (tgt := 40) dX10_call_7 (by decide) (fun c7 => ?_) (fun c7 => ?_)
  · refine v_iconst (v := bI false) dX10_call_40 (by decide) ?_
    refine w_callV hE dX10_call_41 kX10_143 mdS_M (by rfl) (by rfl) (sX10_goes hE) rfl (by decide) (by decide) (by exact Nat.le_of_ble_eq_true rfl) (by omega) (by omega) (fun v9 g9 u9 h9 => ?_) (fun _ _ _ h => by cases h.1)
    obtain ⟨hv9, hu9, hg9⟩ := h9
    replace hu9 := hu9.symm
    subst hu9
    subst hg9
    cases hv9
    refine v_if_neN (tgt := 49) dX10_call_44 (by decide) (by omega) (fun c44 => ?_) (fun c44 => ?_)
    · exact absurd c44 (by decide)
    · refine v_iconst (v := nI 0) dX10_call_47 (by decide) ?_
      refine v_iret dX10_call_48 rfl (by first | rfl | exact nar_bI) ?_
      first
        | (have hA : aCal x q r m w = none := by
             unfold aCal
             split
             · rfl
             · rename_i e he
               exfalso
               rw [he] at c7
               exact Bool.noConfusion c7
           rw [hA]
           exact ⟨rfl, rfl, rfl⟩)
        | (have hA : aCal x (nI i) (nI k) m w = none := by
             unfold aCal; rw [he]; show (match ix _ _ with | none => none | some n => _) = _
             split
             · rfl
             · rename_i n hn
               exfalso
               rw [show ix (dZ x i).2.1.1 m = some n from hn] at c23
               exact Bool.noConfusion c23
           rw [hA]
           exact ⟨rfl, rfl, rfl⟩)
        | (have hw : ∀ j, j < 4 → w ≠ nI j := fun j hj e => by (rw [e, ix_nI hj (by omega)] at c33; cases c33)
           have hA : aCal x (nI i) (nI k) m w = none := by
             unfold aCal; rw [he]; show (match ix _ _ with | none => none | some n => _) = _
             split
             · rfl
             · rw [if_neg (hw 0 (by omega)), if_neg (hw 1 (by omega)), if_neg (hw 2 (by omega)), if_neg (hw 3 (by omega))]
           rw [hA]
           exact ⟨rfl, rfl, rfl⟩)
  · obtain ⟨e, he⟩ := Option.isSome_iff_exists.mp c7
    obtain ⟨i, k, hi0, i2, i3, hk0, k2, k3, he2⟩ := dEn_r hI he
    subst i3
    subst k3
    subst he2
    have hT := hR.2.2.2.1 i i2
    have hzo := hI.2.2.1 i (by omega)
    have hz8 := hzo.2
    have hn3 := hzo.1.1
    have hwo := hI.2.2.2.1 _ (dre_X hI (show i < 3 by omega) k (by omega))
    have hro := hwo.1
    obtain ⟨m1, m2, m3, m4, m5, m6, m7, m8, m9, m10⟩ := hT.2.2.2 k k2
    refine v_iload_n dX10_call_10 rfl (by rfl) ?_
    refine v_iconst (v := nI 0) dX10_call_11 (by decide) ?_
    refine v_aload_n dX10_call_12 rfl (by rfl) ?_
    refine v_getf hE dX10_call_13 fX10_63 mdS_M (by rfl) ?_
    refine v_iload_n dX10_call_16 rfl (by rfl) ?_
    refine m_iald hE (k := 17) dX10_call_17 (by decide) (by decide) rfl (show _ < 4 by omega) (by omega) ?_
    refine v_eqi (y := nI (dZ x i).2.1.1) hT.2.1 ?_
    refine v_iconst (v := nI 1) dX10_call_18 (by decide) ?_
    refine v_isub dX10_call_19 ?_
    refine w_callS hE dX10_call_20 kX10_136 (by rfl) (sX10_in hE) rfl (by decide) (by decide) (by exact Nat.le_of_ble_eq_true rfl) (by omega) (by omega) (fun v9 g9 u9 h9 => ?_) (fun _ _ _ h => by cases h.1)
    obtain ⟨hv9, hu9, hg9⟩ := h9
    replace hu9 := hu9.symm
    replace hg9 := hg9.symm
    subst hu9
    subst hg9
    cases hv9
    rw [in_ix (n := (dZ x i).2.1.1) (by omega)]
    refine v_if_eqB (tgt := 40) dX10_call_23 (by decide) (fun c23 => ?_) (fun c23 => ?_)
    · refine v_iconst (v := bI false) dX10_call_40 (by decide) ?_
      refine w_callV hE dX10_call_41 kX10_143 mdS_M (by rfl) (by rfl) (sX10_goes hE) rfl (by decide) (by decide) (by exact Nat.le_of_ble_eq_true rfl) (by omega) (by omega) (fun v9 g9 u9 h9 => ?_) (fun _ _ _ h => by cases h.1)
      obtain ⟨hv9, hu9, hg9⟩ := h9
      replace hu9 := hu9.symm
      subst hu9
      subst hg9
      cases hv9
      refine v_if_neN (tgt := 49) dX10_call_44 (by decide) (by omega) (fun c44 => ?_) (fun c44 => ?_)
      · exact absurd c44 (by decide)
      · refine v_iconst (v := nI 0) dX10_call_47 (by decide) ?_
        refine v_iret dX10_call_48 rfl (by first | rfl | exact nar_bI) ?_
        first
          | (have hA : aCal x q r m w = none := by
               unfold aCal
               split
               · rfl
               · rename_i e he
                 exfalso
                 rw [he] at c7
                 exact Bool.noConfusion c7
             rw [hA]
             exact ⟨rfl, rfl, rfl⟩)
          | (have hA : aCal x (nI i) (nI k) m w = none := by
               unfold aCal; rw [he]; show (match ix _ _ with | none => none | some n => _) = _
               split
               · rfl
               · rename_i n hn
                 exfalso
                 rw [show ix (dZ x i).2.1.1 m = some n from hn] at c23
                 exact Bool.noConfusion c23
             rw [hA]
             exact ⟨rfl, rfl, rfl⟩)
          | (have hw : ∀ j, j < 4 → w ≠ nI j := fun j hj e => by (rw [e, ix_nI hj (by omega)] at c33; cases c33)
             have hA : aCal x (nI i) (nI k) m w = none := by
               unfold aCal; rw [he]; show (match ix _ _ with | none => none | some n => _) = _
               split
               · rfl
               · rw [if_neg (hw 0 (by omega)), if_neg (hw 1 (by omega)), if_neg (hw 2 (by omega)), if_neg (hw 3 (by omega))]
             rw [hA]
             exact ⟨rfl, rfl, rfl⟩)
    · refine v_iload dX10_call_26 (by rfl) ?_
      refine v_iconst (v := nI 0) dX10_call_28 (by decide) ?_
      refine v_iconst (v := nI 3) dX10_call_29 (by decide) ?_
      refine w_callS hE dX10_call_30 kX10_136 (by rfl) (sX10_in hE) rfl (by decide) (by decide) (by exact Nat.le_of_ble_eq_true rfl) (by omega) (by omega) (fun v9 g9 u9 h9 => ?_) (fun _ _ _ h => by cases h.1)
      obtain ⟨hv9, hu9, hg9⟩ := h9
      replace hu9 := hu9.symm
      replace hg9 := hg9.symm
      subst hu9
      subst hg9
      cases hv9
      rw [in_ix1 (n := 3) (by omega)]
      refine v_if_eqB (tgt := 40) dX10_call_33 (by decide) (fun c33 => ?_) (fun c33 => ?_)
      · refine v_iconst (v := bI false) dX10_call_40 (by decide) ?_
        refine w_callV hE dX10_call_41 kX10_143 mdS_M (by rfl) (by rfl) (sX10_goes hE) rfl (by decide) (by decide) (by exact Nat.le_of_ble_eq_true rfl) (by omega) (by omega) (fun v9 g9 u9 h9 => ?_) (fun _ _ _ h => by cases h.1)
        obtain ⟨hv9, hu9, hg9⟩ := h9
        replace hu9 := hu9.symm
        subst hu9
        subst hg9
        cases hv9
        refine v_if_neN (tgt := 49) dX10_call_44 (by decide) (by omega) (fun c44 => ?_) (fun c44 => ?_)
        · exact absurd c44 (by decide)
        · refine v_iconst (v := nI 0) dX10_call_47 (by decide) ?_
          refine v_iret dX10_call_48 rfl (by first | rfl | exact nar_bI) ?_
          first
            | (have hA : aCal x q r m w = none := by
                 unfold aCal
                 split
                 · rfl
                 · rename_i e he
                   exfalso
                   rw [he] at c7
                   exact Bool.noConfusion c7
               rw [hA]
               exact ⟨rfl, rfl, rfl⟩)
            | (have hA : aCal x (nI i) (nI k) m w = none := by
                 unfold aCal; rw [he]; show (match ix _ _ with | none => none | some n => _) = _
                 split
                 · rfl
                 · rename_i n hn
                   exfalso
                   rw [show ix (dZ x i).2.1.1 m = some n from hn] at c23
                   exact Bool.noConfusion c23
               rw [hA]
               exact ⟨rfl, rfl, rfl⟩)
            | (have hw : ∀ j, j < 4 → w ≠ nI j := fun j hj e => by (rw [e, ix_nI hj (by omega)] at c33; cases c33)
               have hA : aCal x (nI i) (nI k) m w = none := by
                 unfold aCal; rw [he]; show (match ix _ _ with | none => none | some n => _) = _
                 split
                 · rfl
                 · rw [if_neg (hw 0 (by omega)), if_neg (hw 1 (by omega)), if_neg (hw 2 (by omega)), if_neg (hw 3 (by omega))]
               rw [hA]
               exact ⟨rfl, rfl, rfl⟩)
      · refine v_iconst (v := bI true) dX10_call_36 (by decide) ?_
        refine v_goto (tgt := 41) dX10_call_37 (by decide) ?_
        refine w_callV hE dX10_call_41 kX10_143 mdS_M (by rfl) (by rfl) (sX10_goes hE) rfl (by decide) (by decide) (by exact Nat.le_of_ble_eq_true rfl) (by omega) (by omega) (fun v9 g9 u9 h9 => ?_) (fun _ _ _ h => by cases h.1)
        obtain ⟨hv9, hu9, hg9⟩ := h9
        replace hu9 := hu9.symm
        subst hu9
        subst hg9
        cases hv9
        refine v_if_neN (tgt := 49) dX10_call_44 (by decide) (by omega) (fun c44 => ?_) (fun c44 => ?_)
        · obtain ⟨n, hn⟩ := Option.isSome_iff_exists.mp c23
          obtain ⟨n2, n3⟩ := ix_r hn (by omega)
          subst n3
          obtain ⟨v, hv⟩ := Option.isSome_iff_exists.mp c33
          obtain ⟨v2, v3⟩ := ix_r hv (by omega)
          subst v3
          obtain ⟨a1, a2, a3⟩ := m10 n n2
          have hcn := hwo.2.2.1 n
          refine v_iconst (v := nI 3) dX10_call_49 (by decide) ?_
          refine v_bipush (v := nI 60) dX10_call_50 (by decide) ?_
          refine v_iload_n dX10_call_52 rfl (by rfl) ?_
          refine v_imulN dX10_call_53 ?_
          refine v_iload_n dX10_call_54 rfl (by rfl) ?_
          refine v_iaddN dX10_call_55 ?_
          refine v_imulN dX10_call_56 ?_
          refine v_iload_n dX10_call_57 rfl (by rfl) ?_
          refine v_iaddN dX10_call_58 ?_
          refine v_istore dX10_call_59 (by decide) ?_
          refine v_iload dX10_call_61 (by rfl) ?_
          refine v_iconst (v := nI 2) dX10_call_63 (by decide) ?_
          refine v_icmp_neN (tgt := 77) dX10_call_64 (by decide) (by omega) (by omega) (fun c64 => ?_) (fun c64 => ?_)
          · refine v_iload dX10_call_77 (by rfl) ?_
            refine v_iconst (v := nI 3) dX10_call_79 (by decide) ?_
            refine v_icmp_neN (tgt := 101) dX10_call_80 (by decide) (by omega) (by omega) (fun c80 => ?_) (fun c80 => ?_)
            · refine v_iload dX10_call_101 (by rfl) ?_
              refine v_aload_n dX10_call_103 rfl (by rfl) ?_
              refine v_getf hE dX10_call_104 fX10_103 mdS_M (by rfl) ?_
              refine v_iload dX10_call_107 (by rfl) ?_
              refine m_iald hE (k := 30) dX10_call_109 (by decide) (by decide) rfl (show _ < 720 by omega) (by omega) ?_
              refine v_eqi (y := nI (eCn (dW x ((dZ x i).1 k)) n)) a1 ?_
              refine v_icmp_geN (tgt := 128) dX10_call_110 (by decide) (by omega) (by omega) (fun c110 => ?_) (fun c110 => ?_)
              · refine v_iconst (v := (-1)) dX10_call_128 (by decide) ?_
                refine v_iret dX10_call_129 rfl (by first | rfl | exact nar_bI) ?_
                first
                  | (have hA : aCal x (nI i) (nI k) (nI n) (nI v) = some (y.1 30 (3 * (60 * i + k) + n)) := by
                       unfold aCal; rw [he]; show (match ix _ _ with | none => none | some n => _) = _; rw [hn]; show (if _ then _ else if _ then _ else if _ then _ else if _ then _ else none) = _; rw [if_neg (nI_n (show v ≠ 0 by omega) (by omega) (by omega)), if_neg (nI_n (show v ≠ 1 by omega) (by omega) (by omega)), if_pos (congrArg nI (show v = 2 by omega)), a1]
                     rw [hA]; exact ⟨rfl, rfl, rfl⟩)
                  | (have hA : aCal x (nI i) (nI k) (nI n) (nI v) = some (bI (ePh (dW x ((dZ x i).1 k)) n)) := by
                       unfold aCal; rw [he]; show (match ix _ _ with | none => none | some n => _) = _; rw [hn]; show (if _ then _ else if _ then _ else if _ then _ else if _ then _ else none) = _; rw [if_neg (nI_n (show v ≠ 0 by omega) (by omega) (by omega)), if_neg (nI_n (show v ≠ 1 by omega) (by omega) (by omega)), if_neg (nI_n (show v ≠ 2 by omega) (by omega) (by omega)), if_pos (congrArg nI (show v = 3 by omega))]
                     rw [hA, c90]; exact ⟨rfl, rfl, rfl⟩)
                  | (have hA : aCal x (nI i) (nI k) (nI n) (nI v) = some (eCall (dW x ((dZ x i).1 k)) n v) := by
                       unfold aCal; rw [he]; show (match ix _ _ with | none => none | some n => _) = _; rw [hn]; show (if _ then _ else if _ then _ else if _ then _ else if _ then _ else none) = _; 
                       by_cases e0 : v = 0
                       · rw [if_pos (congrArg nI e0), e0]
                       · rw [if_neg (nI_n (show v ≠ 0 by omega) (by omega) (by omega)), if_pos (congrArg nI (show v = 1 by omega)), show v = 1 by omega]
                     rw [hA]
                     unfold eCall
                     first
                       | (rw [if_pos (by omega), ← a3 v (by omega), show 6 * (60 * i + k) + 2 * n + v = 2 * (3 * (60 * i + k) + n) + v by omega]; exact ⟨rfl, rfl, rfl⟩)
                       | (rw [if_neg (by omega)]; exact ⟨rfl, rfl, rfl⟩))
              · refine v_aload_n dX10_call_113 rfl (by rfl) ?_
                refine v_getf hE dX10_call_114 fX10_100 mdS_M (by rfl) ?_
                refine v_iconst (v := nI 2) dX10_call_117 (by decide) ?_
                refine v_iload dX10_call_118 (by rfl) ?_
                refine v_imulN dX10_call_120 ?_
                refine v_iload dX10_call_121 (by rfl) ?_
                refine v_iaddN dX10_call_123 ?_
                refine m_iald hE (k := 29) dX10_call_124 (by decide) (by decide) rfl (show _ < 1440 by omega) (by omega) ?_
                refine v_goto (tgt := 129) dX10_call_125 (by decide) ?_
                refine v_iret dX10_call_129 rfl (by first | rfl | exact nar_bI) ?_
                first
                  | (have hA : aCal x (nI i) (nI k) (nI n) (nI v) = some (y.1 30 (3 * (60 * i + k) + n)) := by
                       unfold aCal; rw [he]; show (match ix _ _ with | none => none | some n => _) = _; rw [hn]; show (if _ then _ else if _ then _ else if _ then _ else if _ then _ else none) = _; rw [if_neg (nI_n (show v ≠ 0 by omega) (by omega) (by omega)), if_neg (nI_n (show v ≠ 1 by omega) (by omega) (by omega)), if_pos (congrArg nI (show v = 2 by omega)), a1]
                     rw [hA]; exact ⟨rfl, rfl, rfl⟩)
                  | (have hA : aCal x (nI i) (nI k) (nI n) (nI v) = some (bI (ePh (dW x ((dZ x i).1 k)) n)) := by
                       unfold aCal; rw [he]; show (match ix _ _ with | none => none | some n => _) = _; rw [hn]; show (if _ then _ else if _ then _ else if _ then _ else if _ then _ else none) = _; rw [if_neg (nI_n (show v ≠ 0 by omega) (by omega) (by omega)), if_neg (nI_n (show v ≠ 1 by omega) (by omega) (by omega)), if_neg (nI_n (show v ≠ 2 by omega) (by omega) (by omega)), if_pos (congrArg nI (show v = 3 by omega))]
                     rw [hA, c90]; exact ⟨rfl, rfl, rfl⟩)
                  | (have hA : aCal x (nI i) (nI k) (nI n) (nI v) = some (eCall (dW x ((dZ x i).1 k)) n v) := by
                       unfold aCal; rw [he]; show (match ix _ _ with | none => none | some n => _) = _; rw [hn]; show (if _ then _ else if _ then _ else if _ then _ else if _ then _ else none) = _; 
                       by_cases e0 : v = 0
                       · rw [if_pos (congrArg nI e0), e0]
                       · rw [if_neg (nI_n (show v ≠ 0 by omega) (by omega) (by omega)), if_pos (congrArg nI (show v = 1 by omega)), show v = 1 by omega]
                     rw [hA]
                     unfold eCall
                     first
                       | (rw [if_pos (by omega), ← a3 v (by omega), show 6 * (60 * i + k) + 2 * n + v = 2 * (3 * (60 * i + k) + n) + v by omega]; exact ⟨rfl, rfl, rfl⟩)
                       | (rw [if_neg (by omega)]; exact ⟨rfl, rfl, rfl⟩))
            · refine v_aload_n dX10_call_83 rfl (by rfl) ?_
              refine v_getf hE dX10_call_84 fX10_106 mdS_M (by rfl) ?_
              refine v_iload dX10_call_87 (by rfl) ?_
              refine m_zald hE (k := 31) dX10_call_89 (by decide) (by decide) rfl (show _ < 720 by omega) (by omega) ?_
              refine v_eqi (y := bI (ePh (dW x ((dZ x i).1 k)) n)) a2 ?_
              refine v_if_eqB (tgt := 97) dX10_call_90 (by decide) (fun c90 => ?_) (fun c90 => ?_)
              · refine v_iconst (v := nI 0) dX10_call_97 (by decide) ?_
                refine v_goto (tgt := 129) dX10_call_98 (by decide) ?_
                refine v_iret dX10_call_129 rfl (by first | rfl | exact nar_bI) ?_
                first
                  | (have hA : aCal x (nI i) (nI k) (nI n) (nI v) = some (y.1 30 (3 * (60 * i + k) + n)) := by
                       unfold aCal; rw [he]; show (match ix _ _ with | none => none | some n => _) = _; rw [hn]; show (if _ then _ else if _ then _ else if _ then _ else if _ then _ else none) = _; rw [if_neg (nI_n (show v ≠ 0 by omega) (by omega) (by omega)), if_neg (nI_n (show v ≠ 1 by omega) (by omega) (by omega)), if_pos (congrArg nI (show v = 2 by omega)), a1]
                     rw [hA]; exact ⟨rfl, rfl, rfl⟩)
                  | (have hA : aCal x (nI i) (nI k) (nI n) (nI v) = some (bI (ePh (dW x ((dZ x i).1 k)) n)) := by
                       unfold aCal; rw [he]; show (match ix _ _ with | none => none | some n => _) = _; rw [hn]; show (if _ then _ else if _ then _ else if _ then _ else if _ then _ else none) = _; rw [if_neg (nI_n (show v ≠ 0 by omega) (by omega) (by omega)), if_neg (nI_n (show v ≠ 1 by omega) (by omega) (by omega)), if_neg (nI_n (show v ≠ 2 by omega) (by omega) (by omega)), if_pos (congrArg nI (show v = 3 by omega))]
                     rw [hA, c90]; exact ⟨rfl, rfl, rfl⟩)
                  | (have hA : aCal x (nI i) (nI k) (nI n) (nI v) = some (eCall (dW x ((dZ x i).1 k)) n v) := by
                       unfold aCal; rw [he]; show (match ix _ _ with | none => none | some n => _) = _; rw [hn]; show (if _ then _ else if _ then _ else if _ then _ else if _ then _ else none) = _; 
                       by_cases e0 : v = 0
                       · rw [if_pos (congrArg nI e0), e0]
                       · rw [if_neg (nI_n (show v ≠ 0 by omega) (by omega) (by omega)), if_pos (congrArg nI (show v = 1 by omega)), show v = 1 by omega]
                     rw [hA]
                     unfold eCall
                     first
                       | (rw [if_pos (by omega), ← a3 v (by omega), show 6 * (60 * i + k) + 2 * n + v = 2 * (3 * (60 * i + k) + n) + v by omega]; exact ⟨rfl, rfl, rfl⟩)
                       | (rw [if_neg (by omega)]; exact ⟨rfl, rfl, rfl⟩))
              · refine v_iconst (v := nI 1) dX10_call_93 (by decide) ?_
                refine v_goto (tgt := 129) dX10_call_94 (by decide) ?_
                refine v_iret dX10_call_129 rfl (by first | rfl | exact nar_bI) ?_
                first
                  | (have hA : aCal x (nI i) (nI k) (nI n) (nI v) = some (y.1 30 (3 * (60 * i + k) + n)) := by
                       unfold aCal; rw [he]; show (match ix _ _ with | none => none | some n => _) = _; rw [hn]; show (if _ then _ else if _ then _ else if _ then _ else if _ then _ else none) = _; rw [if_neg (nI_n (show v ≠ 0 by omega) (by omega) (by omega)), if_neg (nI_n (show v ≠ 1 by omega) (by omega) (by omega)), if_pos (congrArg nI (show v = 2 by omega)), a1]
                     rw [hA]; exact ⟨rfl, rfl, rfl⟩)
                  | (have hA : aCal x (nI i) (nI k) (nI n) (nI v) = some (bI (ePh (dW x ((dZ x i).1 k)) n)) := by
                       unfold aCal; rw [he]; show (match ix _ _ with | none => none | some n => _) = _; rw [hn]; show (if _ then _ else if _ then _ else if _ then _ else if _ then _ else none) = _; rw [if_neg (nI_n (show v ≠ 0 by omega) (by omega) (by omega)), if_neg (nI_n (show v ≠ 1 by omega) (by omega) (by omega)), if_neg (nI_n (show v ≠ 2 by omega) (by omega) (by omega)), if_pos (congrArg nI (show v = 3 by omega))]
                     rw [hA, c90]; exact ⟨rfl, rfl, rfl⟩)
                  | (have hA : aCal x (nI i) (nI k) (nI n) (nI v) = some (eCall (dW x ((dZ x i).1 k)) n v) := by
                       unfold aCal; rw [he]; show (match ix _ _ with | none => none | some n => _) = _; rw [hn]; show (if _ then _ else if _ then _ else if _ then _ else if _ then _ else none) = _; 
                       by_cases e0 : v = 0
                       · rw [if_pos (congrArg nI e0), e0]
                       · rw [if_neg (nI_n (show v ≠ 0 by omega) (by omega) (by omega)), if_pos (congrArg nI (show v = 1 by omega)), show v = 1 by omega]
                     rw [hA]
                     unfold eCall
                     first
                       | (rw [if_pos (by omega), ← a3 v (by omega), show 6 * (60 * i + k) + 2 * n + v = 2 * (3 * (60 * i + k) + n) + v by omega]; exact ⟨rfl, rfl, rfl⟩)
                       | (rw [if_neg (by omega)]; exact ⟨rfl, rfl, rfl⟩))
          · refine v_aload_n dX10_call_67 rfl (by rfl) ?_
            refine v_getf hE dX10_call_68 fX10_103 mdS_M (by rfl) ?_
            refine v_iload dX10_call_71 (by rfl) ?_
            refine m_iald hE (k := 30) dX10_call_73 (by decide) (by decide) rfl (show _ < 720 by omega) (by omega) ?_
            refine v_goto (tgt := 129) dX10_call_74 (by decide) ?_
            refine v_iret dX10_call_129 rfl (by first | rfl | exact nar_bI) ?_
            first
              | (have hA : aCal x (nI i) (nI k) (nI n) (nI v) = some (y.1 30 (3 * (60 * i + k) + n)) := by
                   unfold aCal; rw [he]; show (match ix _ _ with | none => none | some n => _) = _; rw [hn]; show (if _ then _ else if _ then _ else if _ then _ else if _ then _ else none) = _; rw [if_neg (nI_n (show v ≠ 0 by omega) (by omega) (by omega)), if_neg (nI_n (show v ≠ 1 by omega) (by omega) (by omega)), if_pos (congrArg nI (show v = 2 by omega)), a1]
                 rw [hA]; exact ⟨rfl, rfl, rfl⟩)
              | (have hA : aCal x (nI i) (nI k) (nI n) (nI v) = some (bI (ePh (dW x ((dZ x i).1 k)) n)) := by
                   unfold aCal; rw [he]; show (match ix _ _ with | none => none | some n => _) = _; rw [hn]; show (if _ then _ else if _ then _ else if _ then _ else if _ then _ else none) = _; rw [if_neg (nI_n (show v ≠ 0 by omega) (by omega) (by omega)), if_neg (nI_n (show v ≠ 1 by omega) (by omega) (by omega)), if_neg (nI_n (show v ≠ 2 by omega) (by omega) (by omega)), if_pos (congrArg nI (show v = 3 by omega))]
                 rw [hA, c90]; exact ⟨rfl, rfl, rfl⟩)
              | (have hA : aCal x (nI i) (nI k) (nI n) (nI v) = some (eCall (dW x ((dZ x i).1 k)) n v) := by
                   unfold aCal; rw [he]; show (match ix _ _ with | none => none | some n => _) = _; rw [hn]; show (if _ then _ else if _ then _ else if _ then _ else if _ then _ else none) = _; 
                   by_cases e0 : v = 0
                   · rw [if_pos (congrArg nI e0), e0]
                   · rw [if_neg (nI_n (show v ≠ 0 by omega) (by omega) (by omega)), if_pos (congrArg nI (show v = 1 by omega)), show v = 1 by omega]
                 rw [hA]
                 unfold eCall
                 first
                   | (rw [if_pos (by omega), ← a3 v (by omega), show 6 * (60 * i + k) + 2 * n + v = 2 * (3 * (60 * i + k) + n) + v by omega]; exact ⟨rfl, rfl, rfl⟩)
                   | (rw [if_neg (by omega)]; exact ⟨rfl, rfl, rfl⟩))
        · exact absurd c44 (by decide)
