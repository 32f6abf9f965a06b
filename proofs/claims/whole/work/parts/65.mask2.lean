theorem neg_20 : ∀ n, n < 21 → (- nI n).toInt = - (n : Int) := by decide +kernel
theorem neg_in {w : Int32} {n : Nat} (hn : n < 21) (h1 : w ≤ 0) (h2 : ¬ w ≤ - nI n) : ∃ j, j < n ∧ w = - nI j := by
  have e1 : w.toInt ≤ 0 := by have := Int32.le_iff_toInt_le.mp h1; simpa using this
  have e2 : - (n : Int) < w.toInt := by
    have := Int32.lt_iff_toInt_lt.mp (Int32.not_le.mp h2)
    rwa [neg_20 n hn] at this
  refine ⟨(- w.toInt).toNat, by omega, ?_⟩
  apply Int32.toInt_inj.mp
  rw [neg_20 _ (by omega)]
  omega
theorem neg_out {w : Int32} {n : Nat} (hn : n < 21) (h1 : w ≤ 0) (h2 : w ≤ - nI n) : ¬ (0 ≤ - w ∧ - w < nI n) := by
  intro ⟨h3, h4⟩
  obtain ⟨j, j1, j2, -⟩ := ix_some (Int32.not_lt.mpr h3) h4 (by omega)
  have e : w = - nI j := by rw [← j2, Int32.neg_neg]
  have e2 := Int32.le_iff_toInt_le.mp h2
  rw [e, neg_20 n hn, neg_20 j (by omega)] at e2
  omega
set_option maxRecDepth 100000 in
set_option maxHeartbeats 4000000 in
/-- model: letter -/
theorem sX10_letter {E : eN} (hE : eOk E) {f : aH} {t : Nat} {M D : Nat} {y : mV} {x : dV} {q w : Int32} (hR : mRel x y) (hI : dOk D x) : mT E mX10_letter 0 0 [.ref M, .int q, .int w] (mdS f M y) t (fun o f' t' => o = .inl (some (.int ((aLet x q w).getD (nI 0)))) ∧ t' = t ∧ f' = mdS f M (y.1, va_up y.2 0 (bI (aLet x q w).isNone))) := by
  refine mT_of (n := 0) (lo := [some (.ref M), some (.int q), some (.int w)]) (by decide) (by exact Nat.le_of_ble_eq_true rfl) rfl rfl ?_
  have hG := hR.2.2.1
  have hgo := hI.2.1 0 (by omega)
  have hgc := hgo.1.1
  have hg1 := hgo.2.1
  have hgt := hgo.2.2.1
  have hLv := hR.2.2.2.2.2.2.2.1
  refine v_aload_n dX10_letter_0 rfl (by rfl) ?_
  refine v_iload_n dX10_letter_1 rfl (by rfl) ?_
  refine v_iconst (v := nI 0) dX10_letter_2 (by decide) ?_
  refine v_aload_n dX10_letter_3 rfl (by rfl) ?_
  refine v_getf hE dX10_letter_4 fX10_183 mdS_M (by rfl) ?_
  refine v_eqi (y := nI (gCt (dG x 0))) hG.1 ?_
  refine v_iconst (v := nI 1) dX10_letter_7 (by decide) ?_
  refine v_isub dX10_letter_8 ?_
  refine w_callS hE dX10_letter_9 kX10_136 (by rfl) (sX10_in hE) rfl (by decide) (by decide) (by exact Nat.le_of_ble_eq_true rfl) (by omega) (by omega) (fun v9 g9 u9 h9 => ?_) (fun _ _ _ h => by cases h.1)
  obtain ⟨hv9, hu9, hg9⟩ := h9
  replace hu9 := hu9.symm
  replace hg9 := hg9.symm
  subst hu9
  subst hg9
  cases hv9
  rw [in_ix (n := gCt (dG x 0)) (by omega)]
  refine v_if_eqB (tgt := 47) dX10_letter_12 (by decide) (fun c12 => ?_) (fun c12 => ?_)
  · refine v_iconst (v := bI false) dX10_letter_47 (by decide) ?_
    refine w_callV hE dX10_letter_48 kX10_143 mdS_M (by rfl) (by rfl) (sX10_goes hE) rfl (by decide) (by decide) (by exact Nat.le_of_ble_eq_true rfl) (by omega) (by omega) (fun v9 g9 u9 h9 => ?_) (fun _ _ _ h => by cases h.1)
    obtain ⟨hv9, hu9, hg9⟩ := h9
    replace hu9 := hu9.symm
    subst hu9
    subst hg9
    cases hv9
    refine v_if_neN (tgt := 56) dX10_letter_51 (by decide) (by omega) (fun c51 => ?_) (fun c51 => ?_)
    · exact absurd c51 (by decide)
    · refine v_iconst (v := nI 0) dX10_letter_54 (by decide) ?_
      refine v_iret dX10_letter_55 rfl (by first | rfl | exact nar_bI) ?_
      first
        | (have hA : aLet x q w = none := by
             unfold aLet
             split
             · rfl
             · rename_i k hk
               exfalso
               rw [hk] at c12
               exact Bool.noConfusion c12
           rw [hA]
           exact ⟨rfl, rfl, rfl⟩)
        | (obtain ⟨p, hp1, hp2, hp3⟩ := pos_nI c16
           have hA : aLet x (nI k) w = none := by
             unfold aLet; rw [hk]; show (if _ then none else some _) = _
             rw [if_neg c16, hp3, nI_clamp hp2, if_pos]
             unfold gnLet
             rw [if_neg (fun z => by first | exact c26 (by rw [hp3]; exact nI_le z.2.2 (by omega)) | exact absurd (show w ≤ nI (gSz (dG x 0) k) by rw [hp3]; exact nI_le z.2.2 (by omega)) (Int32.not_le.mpr c26))]
           rw [hA]
           exact ⟨rfl, rfl, rfl⟩)
        | (have hA : aLet x (nI k) w = none := by
             unfold aLet; rw [hk]; show (if _ then none else some _) = _
             have hsz : nmSz (dG x 0).1 k = nI ((dG x 0).1.2.2 k) := if_pos (by omega)
             rw [if_pos c16, if_pos]
             unfold nmOct
             rw [hsz, if_neg (neg_out (by omega) c16 c40)]
           rw [hA]
           exact ⟨rfl, rfl, rfl⟩)
  · obtain ⟨k, hk⟩ := Option.isSome_iff_exists.mp c12
    obtain ⟨k2, k3⟩ := ix_r hk (by omega)
    subst k3
    obtain ⟨gf1, gf2, gf3, gf4, gf5, gf6⟩ := hG.2.1 k k2
    have hgs := hgo.2.2.2 k k2
    have hn20 := hgo.1.2.2 k
    refine v_iload_n dX10_letter_15 rfl (by rfl) ?_
    refine v_if_le (tgt := 32) dX10_letter_16 (by decide) (fun c16 => ?_) (fun c16 => ?_)
    · refine v_iload_n dX10_letter_32 rfl (by rfl) ?_
      refine v_aload_n dX10_letter_33 rfl (by rfl) ?_
      refine v_getf hE dX10_letter_34 fX10_20 mdS_M (by rfl) ?_
      refine v_iload_n dX10_letter_37 rfl (by rfl) ?_
      refine m_iald hE (k := 3) dX10_letter_38 (by decide) (by decide) rfl (show _ < 9 by omega) (by omega) ?_
      refine v_eqi (y := nI ((dG x 0).1.2.2 k)) gf1 ?_
      refine v_ineg dX10_letter_39 ?_
      refine v_icmp_le (tgt := 47) dX10_letter_40 (by decide) (fun c40 => ?_) (fun c40 => ?_)
      · refine v_iconst (v := bI false) dX10_letter_47 (by decide) ?_
        refine w_callV hE dX10_letter_48 kX10_143 mdS_M (by rfl) (by rfl) (sX10_goes hE) rfl (by decide) (by decide) (by exact Nat.le_of_ble_eq_true rfl) (by omega) (by omega) (fun v9 g9 u9 h9 => ?_) (fun _ _ _ h => by cases h.1)
        obtain ⟨hv9, hu9, hg9⟩ := h9
        replace hu9 := hu9.symm
        subst hu9
        subst hg9
        cases hv9
        refine v_if_neN (tgt := 56) dX10_letter_51 (by decide) (by omega) (fun c51 => ?_) (fun c51 => ?_)
        · exact absurd c51 (by decide)
        · refine v_iconst (v := nI 0) dX10_letter_54 (by decide) ?_
          refine v_iret dX10_letter_55 rfl (by first | rfl | exact nar_bI) ?_
          first
            | (have hA : aLet x q w = none := by
                 unfold aLet
                 split
                 · rfl
                 · rename_i k hk
                   exfalso
                   rw [hk] at c12
                   exact Bool.noConfusion c12
               rw [hA]
               exact ⟨rfl, rfl, rfl⟩)
            | (obtain ⟨p, hp1, hp2, hp3⟩ := pos_nI c16
               have hA : aLet x (nI k) w = none := by
                 unfold aLet; rw [hk]; show (if _ then none else some _) = _
                 rw [if_neg c16, hp3, nI_clamp hp2, if_pos]
                 unfold gnLet
                 rw [if_neg (fun z => by first | exact c26 (by rw [hp3]; exact nI_le z.2.2 (by omega)) | exact absurd (show w ≤ nI (gSz (dG x 0) k) by rw [hp3]; exact nI_le z.2.2 (by omega)) (Int32.not_le.mpr c26))]
               rw [hA]
               exact ⟨rfl, rfl, rfl⟩)
            | (have hA : aLet x (nI k) w = none := by
                 unfold aLet; rw [hk]; show (if _ then none else some _) = _
                 have hsz : nmSz (dG x 0).1 k = nI ((dG x 0).1.2.2 k) := if_pos (by omega)
                 rw [if_pos c16, if_pos]
                 unfold nmOct
                 rw [hsz, if_neg (neg_out (by omega) c16 c40)]
               rw [hA]
               exact ⟨rfl, rfl, rfl⟩)
      · refine v_iconst (v := bI true) dX10_letter_43 (by decide) ?_
        refine v_goto (tgt := 48) dX10_letter_44 (by decide) ?_
        refine w_callV hE dX10_letter_48 kX10_143 mdS_M (by rfl) (by rfl) (sX10_goes hE) rfl (by decide) (by decide) (by exact Nat.le_of_ble_eq_true rfl) (by omega) (by omega) (fun v9 g9 u9 h9 => ?_) (fun _ _ _ h => by cases h.1)
        obtain ⟨hv9, hu9, hg9⟩ := h9
        replace hu9 := hu9.symm
        subst hu9
        subst hg9
        cases hv9
        refine v_if_neN (tgt := 56) dX10_letter_51 (by decide) (by omega) (fun c51 => ?_) (fun c51 => ?_)
        · refine v_iload_n dX10_letter_56 rfl (by rfl) ?_
          refine v_if_le (tgt := 69) dX10_letter_57 (by decide) (fun c57 => ?_) (fun c57 => ?_)
          · obtain ⟨j, hj1, hj2⟩ := neg_in (n := (dG x 0).1.2.2 k) (by omega) c57 (by first | exact c40 | exact absurd c57 c16)
            refine v_aload_n dX10_letter_69 rfl (by rfl) ?_
            refine v_getf hE dX10_letter_70 fX10_17 mdS_M (by rfl) ?_
            refine v_bipush (v := nI 20) dX10_letter_73 (by decide) ?_
            refine v_iload_n dX10_letter_75 rfl (by rfl) ?_
            refine v_imulN dX10_letter_76 ?_
            refine v_iload_n dX10_letter_77 rfl (by rfl) ?_
            refine v_isub dX10_letter_78 ?_
            refine v_eqi (y := nI (20 * k + j)) (by rw [hj2, Int32.sub_neg, nI_add]) ?_
            refine m_bald hE (k := 2) dX10_letter_79 (by decide) (by decide) rfl (show _ < 180 by omega) (by omega) ?_
            refine v_iret dX10_letter_80 rfl (by first | rfl | exact nar_bI) ?_
            obtain ⟨c, c1, c2⟩ := hLv.2 k j k2 hj1
            have hoc : nmOct (dG x 0).1 k (- w) = nI c := by
              have hsz : nmSz (dG x 0).1 k = nI ((dG x 0).1.2.2 k) := if_pos (by omega)
              unfold nmOct
              rw [hj2, Int32.neg_neg, hsz, if_pos ⟨nI_pos' (by omega), nI_lt hj1 (by omega)⟩, nI_clamp (by omega)]
              exact c2
            have hA : aLet x (nI k) w = some (y.1 2 (20 * k + j)) := by
              unfold aLet; rw [hk]; show (if _ then none else some _) = _
              rw [if_pos c57, hoc, if_neg (nI_m1 (by omega)), gf2 j hj1, c2]
            rw [hA]
            exact ⟨rfl, rfl, rfl⟩
          · obtain ⟨p, hp1, hp2, hp3⟩ := pos_nI c57
            subst hp3
            have hpz : p ≤ gSz (dG x 0) k := by
              first
                | exact nI_le_n c26 (by omega) (by omega)
                | exact nI_le_n (Classical.not_not.mp c26) (by omega) (by omega)
                | exact nI_le_n (Int32.not_lt.mp c26) (by omega) (by omega)
                | exact absurd c16 c57
            refine v_aload_n dX10_letter_60 rfl (by rfl) ?_
            refine v_iload_n dX10_letter_61 rfl (by rfl) ?_
            refine v_iload_n dX10_letter_62 rfl (by rfl) ?_
            refine w_callV hE dX10_letter_63 kX10_255 mdS_M (by rfl) (by rfl) (sX10_refAt hE (y := (y.1, va_up y.2 0 (bI (! true)))) ⟨hG.1, hG.2.1, hG.2.2⟩ hgo k2 hp1 hpz) rfl (by decide) (by decide) (by exact Nat.le_of_ble_eq_true rfl) (by omega) (by omega) (fun v9 g9 u9 h9 => ?_) (fun _ _ _ h => by cases h.1)
            obtain ⟨hv9, hu9, hg9⟩ := h9
            replace hu9 := hu9.symm
            subst hu9
            subst hg9
            cases hv9
            refine v_goto (tgt := 80) dX10_letter_66 (by decide) ?_
            refine v_iret dX10_letter_80 rfl (by first | rfl | exact nar_bI) ?_
            obtain ⟨c, c1, c2⟩ := hLv.1 (gSt (dG x 0) k + p - 1) (by omega)
            have hle : gnLet (dG x 0) k p = nI c := by unfold gnLet; rw [if_pos ⟨k2, hp1, hpz⟩]; exact c2
            have hA : aLet x (nI k) (nI p) = some (gnLet (dG x 0) k p) := by
              unfold aLet; rw [hk]; show (if _ then none else some _) = _
              rw [if_neg c57, nI_clamp hp2, if_neg (by rw [hle]; exact nI_m1 (by omega))]
            rw [hA]
            exact ⟨rfl, rfl, rfl⟩
        · exact absurd c51 (by decide)
    · refine v_iload_n dX10_letter_19 rfl (by rfl) ?_
      refine v_aload_n dX10_letter_20 rfl (by rfl) ?_
      refine v_getf hE dX10_letter_21 fX10_30 mdS_M (by rfl) ?_
      refine v_iload_n dX10_letter_24 rfl (by rfl) ?_
      refine m_iald hE (k := 6) dX10_letter_25 (by decide) (by decide) rfl (show _ < 9 by omega) (by omega) ?_
      refine v_eqi (y := nI (gSz (dG x 0) k)) gf4 ?_
      refine v_icmp_gt (tgt := 47) dX10_letter_26 (by decide) (fun c26 => ?_) (fun c26 => ?_)
      · refine v_iconst (v := bI false) dX10_letter_47 (by decide) ?_
        refine w_callV hE dX10_letter_48 kX10_143 mdS_M (by rfl) (by rfl) (sX10_goes hE) rfl (by decide) (by decide) (by exact Nat.le_of_ble_eq_true rfl) (by omega) (by omega) (fun v9 g9 u9 h9 => ?_) (fun _ _ _ h => by cases h.1)
        obtain ⟨hv9, hu9, hg9⟩ := h9
        replace hu9 := hu9.symm
        subst hu9
        subst hg9
        cases hv9
        refine v_if_neN (tgt := 56) dX10_letter_51 (by decide) (by omega) (fun c51 => ?_) (fun c51 => ?_)
        · exact absurd c51 (by decide)
        · refine v_iconst (v := nI 0) dX10_letter_54 (by decide) ?_
          refine v_iret dX10_letter_55 rfl (by first | rfl | exact nar_bI) ?_
          first
            | (have hA : aLet x q w = none := by
                 unfold aLet
                 split
                 · rfl
                 · rename_i k hk
                   exfalso
                   rw [hk] at c12
                   exact Bool.noConfusion c12
               rw [hA]
               exact ⟨rfl, rfl, rfl⟩)
            | (obtain ⟨p, hp1, hp2, hp3⟩ := pos_nI c16
               have hA : aLet x (nI k) w = none := by
                 unfold aLet; rw [hk]; show (if _ then none else some _) = _
                 rw [if_neg c16, hp3, nI_clamp hp2, if_pos]
                 unfold gnLet
                 rw [if_neg (fun z => by first | exact c26 (by rw [hp3]; exact nI_le z.2.2 (by omega)) | exact absurd (show w ≤ nI (gSz (dG x 0) k) by rw [hp3]; exact nI_le z.2.2 (by omega)) (Int32.not_le.mpr c26))]
               rw [hA]
               exact ⟨rfl, rfl, rfl⟩)
            | (have hA : aLet x (nI k) w = none := by
                 unfold aLet; rw [hk]; show (if _ then none else some _) = _
                 have hsz : nmSz (dG x 0).1 k = nI ((dG x 0).1.2.2 k) := if_pos (by omega)
                 rw [if_pos c16, if_pos]
                 unfold nmOct
                 rw [hsz, if_neg (neg_out (by omega) c16 c40)]
               rw [hA]
               exact ⟨rfl, rfl, rfl⟩)
      · refine v_goto (tgt := 43) dX10_letter_29 (by decide) ?_
        refine v_iconst (v := bI true) dX10_letter_43 (by decide) ?_
        refine v_goto (tgt := 48) dX10_letter_44 (by decide) ?_
        refine w_callV hE dX10_letter_48 kX10_143 mdS_M (by rfl) (by rfl) (sX10_goes hE) rfl (by decide) (by decide) (by exact Nat.le_of_ble_eq_true rfl) (by omega) (by omega) (fun v9 g9 u9 h9 => ?_) (fun _ _ _ h => by cases h.1)
        obtain ⟨hv9, hu9, hg9⟩ := h9
        replace hu9 := hu9.symm
        subst hu9
        subst hg9
        cases hv9
        refine v_if_neN (tgt := 56) dX10_letter_51 (by decide) (by omega) (fun c51 => ?_) (fun c51 => ?_)
        · refine v_iload_n dX10_letter_56 rfl (by rfl) ?_
          refine v_if_le (tgt := 69) dX10_letter_57 (by decide) (fun c57 => ?_) (fun c57 => ?_)
          · obtain ⟨j, hj1, hj2⟩ := neg_in (n := (dG x 0).1.2.2 k) (by omega) c57 (by first | exact c40 | exact absurd c57 c16)
            refine v_aload_n dX10_letter_69 rfl (by rfl) ?_
            refine v_getf hE dX10_letter_70 fX10_17 mdS_M (by rfl) ?_
            refine v_bipush (v := nI 20) dX10_letter_73 (by decide) ?_
            refine v_iload_n dX10_letter_75 rfl (by rfl) ?_
            refine v_imulN dX10_letter_76 ?_
            refine v_iload_n dX10_letter_77 rfl (by rfl) ?_
            refine v_isub dX10_letter_78 ?_
            refine v_eqi (y := nI (20 * k + j)) (by rw [hj2, Int32.sub_neg, nI_add]) ?_
            refine m_bald hE (k := 2) dX10_letter_79 (by decide) (by decide) rfl (show _ < 180 by omega) (by omega) ?_
            refine v_iret dX10_letter_80 rfl (by first | rfl | exact nar_bI) ?_
            obtain ⟨c, c1, c2⟩ := hLv.2 k j k2 hj1
            have hoc : nmOct (dG x 0).1 k (- w) = nI c := by
              have hsz : nmSz (dG x 0).1 k = nI ((dG x 0).1.2.2 k) := if_pos (by omega)
              unfold nmOct
              rw [hj2, Int32.neg_neg, hsz, if_pos ⟨nI_pos' (by omega), nI_lt hj1 (by omega)⟩, nI_clamp (by omega)]
              exact c2
            have hA : aLet x (nI k) w = some (y.1 2 (20 * k + j)) := by
              unfold aLet; rw [hk]; show (if _ then none else some _) = _
              rw [if_pos c57, hoc, if_neg (nI_m1 (by omega)), gf2 j hj1, c2]
            rw [hA]
            exact ⟨rfl, rfl, rfl⟩
          · obtain ⟨p, hp1, hp2, hp3⟩ := pos_nI c57
            subst hp3
            have hpz : p ≤ gSz (dG x 0) k := by
              first
                | exact nI_le_n c26 (by omega) (by omega)
                | exact nI_le_n (Classical.not_not.mp c26) (by omega) (by omega)
                | exact nI_le_n (Int32.not_lt.mp c26) (by omega) (by omega)
                | exact absurd c16 c57
            refine v_aload_n dX10_letter_60 rfl (by rfl) ?_
            refine v_iload_n dX10_letter_61 rfl (by rfl) ?_
            refine v_iload_n dX10_letter_62 rfl (by rfl) ?_
            refine w_callV hE dX10_letter_63 kX10_255 mdS_M (by rfl) (by rfl) (sX10_refAt hE (y := (y.1, va_up y.2 0 (bI (! true)))) ⟨hG.1, hG.2.1, hG.2.2⟩ hgo k2 hp1 hpz) rfl (by decide) (by decide) (by exact Nat.le_of_ble_eq_true rfl) (by omega) (by omega) (fun v9 g9 u9 h9 => ?_) (fun _ _ _ h => by cases h.1)
            obtain ⟨hv9, hu9, hg9⟩ := h9
            replace hu9 := hu9.symm
            subst hu9
            subst hg9
            cases hv9
            refine v_goto (tgt := 80) dX10_letter_66 (by decide) ?_
            refine v_iret dX10_letter_80 rfl (by first | rfl | exact nar_bI) ?_
            obtain ⟨c, c1, c2⟩ := hLv.1 (gSt (dG x 0) k + p - 1) (by omega)
            have hle : gnLet (dG x 0) k p = nI c := by unfold gnLet; rw [if_pos ⟨k2, hp1, hpz⟩]; exact c2
            have hA : aLet x (nI k) (nI p) = some (gnLet (dG x 0) k p) := by
              unfold aLet; rw [hk]; show (if _ then none else some _) = _
              rw [if_neg c57, nI_clamp hp2, if_neg (by rw [hle]; exact nI_m1 (by omega))]
            rw [hA]
            exact ⟨rfl, rfl, rfl⟩
        · exact absurd c51 (by decide)

set_option maxRecDepth 100000 in
set_option maxHeartbeats 4000000 in
/-- model: table -/
theorem sX10_table {E : eN} (hE : eOk E) {f : aH} {t : Nat} {M D : Nat} {y : mV} {x : dV} {q w : Int32} (hR : mRel x y) (hI : dOk D x) : mT E mX10_table 0 0 [.ref M, .int q, .int w] (mdS f M y) t (fun o f' t' => o = .inl (some (.int ((aTab x q w).getD (nI 0)))) ∧ t' = t ∧ f' = mdS f M (y.1, va_up y.2 0 (bI (aTab x q w).isNone))) := by
  refine mT_of (n := 0) (lo := [some (.ref M), some (.int q), some (.int w)]) (by decide) (by exact Nat.le_of_ble_eq_true rfl) rfl rfl ?_
  refine v_aload_n dX10_table_0 rfl (by rfl) ?_
  refine v_iload_n dX10_table_1 rfl (by rfl) ?_
  refine v_iconst (v := nI 0) dX10_table_2 (by decide) ?_
  refine v_iconst (v := nI 1) dX10_table_3 (by decide) ?_
  refine w_callS hE dX10_table_4 kX10_136 (by rfl) (sX10_in hE) rfl (by decide) (by decide) (by exact Nat.le_of_ble_eq_true rfl) (by omega) (by omega) (fun v9 g9 u9 h9 => ?_) (fun _ _ _ h => by cases h.1)
  obtain ⟨hv9, hu9, hg9⟩ := h9
  replace hu9 := hu9.symm
  replace hg9 := hg9.symm
  subst hu9
  subst hg9
  cases hv9
  rw [in_ix1 (n := 1) (by omega)]
  refine v_if_eqB (tgt := 23) dX10_table_7 (by decide) (fun c7 => ?_) (fun c7 => ?_)
  · refine v_iconst (v := bI false) dX10_table_23 (by decide) ?_
    refine w_callV hE dX10_table_24 kX10_143 mdS_M (by rfl) (by rfl) (sX10_goes hE) rfl (by decide) (by decide) (by exact Nat.le_of_ble_eq_true rfl) (by omega) (by omega) (fun v9 g9 u9 h9 => ?_) (fun _ _ _ h => by cases h.1)
    obtain ⟨hv9, hu9, hg9⟩ := h9
    replace hu9 := hu9.symm
    subst hu9
    subst hg9
    cases hv9
    refine v_if_neN (tgt := 32) dX10_table_27 (by decide) (by omega) (fun c27 => ?_) (fun c27 => ?_)
    · exact absurd c27 (by decide)
    · refine v_iconst (v := nI 0) dX10_table_30 (by decide) ?_
      refine v_iret dX10_table_31 rfl (by first | rfl | exact nar_bI) ?_
      have hA : aTab x q w = none := by
        unfold aTab
        split
        · rfl
        · rename_i i hi
          split
          · rfl
          · rename_i m hm
            exfalso
            first
              | (rw [show ix 2 q = some i from hi] at c7; exact Bool.noConfusion c7)
              | (rw [show ix 5 w = some m from hm] at c16; exact Bool.noConfusion c16)
      rw [hA]
      exact ⟨rfl, rfl, rfl⟩
  · refine v_iload_n dX10_table_10 rfl (by rfl) ?_
    refine v_iconst (v := nI 0) dX10_table_11 (by decide) ?_
    refine v_iconst (v := nI 4) dX10_table_12 (by decide) ?_
    refine w_callS hE dX10_table_13 kX10_136 (by rfl) (sX10_in hE) rfl (by decide) (by decide) (by exact Nat.le_of_ble_eq_true rfl) (by omega) (by omega) (fun v9 g9 u9 h9 => ?_) (fun _ _ _ h => by cases h.1)
    obtain ⟨hv9, hu9, hg9⟩ := h9
    replace hu9 := hu9.symm
    replace hg9 := hg9.symm
    subst hu9
    subst hg9
    cases hv9
    rw [in_ix1 (n := 4) (by omega)]
    refine v_if_eqB (tgt := 23) dX10_table_16 (by decide) (fun c16 => ?_) (fun c16 => ?_)
    · refine v_iconst (v := bI false) dX10_table_23 (by decide) ?_
      refine w_callV hE dX10_table_24 kX10_143 mdS_M (by rfl) (by rfl) (sX10_goes hE) rfl (by decide) (by decide) (by exact Nat.le_of_ble_eq_true rfl) (by omega) (by omega) (fun v9 g9 u9 h9 => ?_) (fun _ _ _ h => by cases h.1)
      obtain ⟨hv9, hu9, hg9⟩ := h9
      replace hu9 := hu9.symm
      subst hu9
      subst hg9
      cases hv9
      refine v_if_neN (tgt := 32) dX10_table_27 (by decide) (by omega) (fun c27 => ?_) (fun c27 => ?_)
      · exact absurd c27 (by decide)
      · refine v_iconst (v := nI 0) dX10_table_30 (by decide) ?_
        refine v_iret dX10_table_31 rfl (by first | rfl | exact nar_bI) ?_
        have hA : aTab x q w = none := by
          unfold aTab
          split
          · rfl
          · rename_i i hi
            split
            · rfl
            · rename_i m hm
              exfalso
              first
                | (rw [show ix 2 q = some i from hi] at c7; exact Bool.noConfusion c7)
                | (rw [show ix 5 w = some m from hm] at c16; exact Bool.noConfusion c16)
        rw [hA]
        exact ⟨rfl, rfl, rfl⟩
    · refine v_iconst (v := bI true) dX10_table_19 (by decide) ?_
      refine v_goto (tgt := 24) dX10_table_20 (by decide) ?_
      refine w_callV hE dX10_table_24 kX10_143 mdS_M (by rfl) (by rfl) (sX10_goes hE) rfl (by decide) (by decide) (by exact Nat.le_of_ble_eq_true rfl) (by omega) (by omega) (fun v9 g9 u9 h9 => ?_) (fun _ _ _ h => by cases h.1)
      obtain ⟨hv9, hu9, hg9⟩ := h9
      replace hu9 := hu9.symm
      subst hu9
      subst hg9
      cases hv9
      refine v_if_neN (tgt := 32) dX10_table_27 (by decide) (by omega) (fun c27 => ?_) (fun c27 => ?_)
      · obtain ⟨i, hi0⟩ := Option.isSome_iff_exists.mp c7
        obtain ⟨i2, i3⟩ := ix_r hi0 (by omega)
        subst i3
        have hT := hR.2.2.2.1 i i2
        have hzo := hI.2.2.1 i (by omega)
        have hz8 := hzo.2
        have hn3 := hzo.1.1
        obtain ⟨m, hm⟩ := Option.isSome_iff_exists.mp c16
        obtain ⟨m2, m3⟩ := ix_r hm (by omega)
        subst m3
        refine v_iload_n dX10_table_32 rfl (by rfl) ?_
        refine v_if_neN (tgt := 45) dX10_table_33 (by decide) (by omega) (fun c33 => ?_) (fun c33 => ?_)
        · refine v_iload_n dX10_table_45 rfl (by rfl) ?_
          refine v_iconst (v := nI 1) dX10_table_46 (by decide) ?_
          refine v_icmp_neN (tgt := 59) dX10_table_47 (by decide) (by omega) (by omega) (fun c47 => ?_) (fun c47 => ?_)
          · refine v_iload_n dX10_table_59 rfl (by rfl) ?_
            refine v_iconst (v := nI 2) dX10_table_60 (by decide) ?_
            refine v_isubN dX10_table_61 (by omega) ?_
            refine v_aload_n dX10_table_62 rfl (by rfl) ?_
            refine v_getf hE dX10_table_63 fX10_63 mdS_M (by rfl) ?_
            refine v_iload_n dX10_table_66 rfl (by rfl) ?_
            refine m_iald hE (k := 17) dX10_table_67 (by decide) (by decide) rfl (show _ < 4 by omega) (by omega) ?_
            refine v_eqi (y := nI (dZ x i).2.1.1) hT.2.1 ?_
            refine v_icmp_geN (tgt := 86) dX10_table_68 (by decide) (by omega) (by omega) (fun c68 => ?_) (fun c68 => ?_)
            · refine v_iconst (v := (-1)) dX10_table_86 (by decide) ?_
              refine v_iret dX10_table_87 rfl (by first | rfl | exact nar_bI) ?_
              first
                | (have hA : aTab x (nI i) (nI m) = some (y.1 16 i) := by
                     unfold aTab; rw [hi0]; show (match ix 5 _ with | none => none | some m => _) = _; rw [hm]; show (if _ then _ else if _ then _ else _) = _; rw [if_pos (by omega), hT.1]
                   rw [hA]; exact ⟨rfl, rfl, rfl⟩)
                | (have hA : aTab x (nI i) (nI m) = some (y.1 17 i) := by
                     unfold aTab; rw [hi0]; show (match ix 5 _ with | none => none | some m => _) = _; rw [hm]; show (if _ then _ else if _ then _ else _) = _; rw [if_neg (by omega), if_pos (by omega), hT.2.1]
                   rw [hA]; exact ⟨rfl, rfl, rfl⟩)
                | (have hA : aTab x (nI i) (nI m) = some (y.1 19 (3 * i + m - 2)) := by
                     unfold aTab; rw [hi0]; show (match ix 5 _ with | none => none | some m => _) = _; rw [hm]; show (if _ then _ else if _ then _ else _) = _; rw [if_neg (by omega), if_neg (by omega)]
                     unfold nmSz
                     rw [if_pos (by omega), ← (hT.2.2.1 (m - 2) (by omega)).1, show 3 * i + (m - 2) = 3 * i + m - 2 by omega]
                   rw [hA]; exact ⟨rfl, rfl, rfl⟩)
                | (have hA : aTab x (nI i) (nI m) = some (-1) := by
                     unfold aTab; rw [hi0]; show (match ix 5 _ with | none => none | some m => _) = _; rw [hm]; show (if _ then _ else if _ then _ else _) = _; rw [if_neg (by omega), if_neg (by omega)]
                     unfold nmSz
                     rw [if_neg (by omega)]
                   rw [hA]; exact ⟨rfl, rfl, rfl⟩)
            · refine v_aload_n dX10_table_71 rfl (by rfl) ?_
              refine v_getf hE dX10_table_72 fX10_69 mdS_M (by rfl) ?_
              refine v_iconst (v := nI 3) dX10_table_75 (by decide) ?_
              refine v_iload_n dX10_table_76 rfl (by rfl) ?_
              refine v_imulN dX10_table_77 ?_
              refine v_iload_n dX10_table_78 rfl (by rfl) ?_
              refine v_iaddN dX10_table_79 ?_
              refine v_iconst (v := nI 2) dX10_table_80 (by decide) ?_
              refine v_isubN dX10_table_81 (by omega) ?_
              refine m_iald hE (k := 19) dX10_table_82 (by decide) (by decide) rfl (show _ < 12 by omega) (by omega) ?_
              refine v_goto (tgt := 87) dX10_table_83 (by decide) ?_
              refine v_iret dX10_table_87 rfl (by first | rfl | exact nar_bI) ?_
              first
                | (have hA : aTab x (nI i) (nI m) = some (y.1 16 i) := by
                     unfold aTab; rw [hi0]; show (match ix 5 _ with | none => none | some m => _) = _; rw [hm]; show (if _ then _ else if _ then _ else _) = _; rw [if_pos (by omega), hT.1]
                   rw [hA]; exact ⟨rfl, rfl, rfl⟩)
                | (have hA : aTab x (nI i) (nI m) = some (y.1 17 i) := by
                     unfold aTab; rw [hi0]; show (match ix 5 _ with | none => none | some m => _) = _; rw [hm]; show (if _ then _ else if _ then _ else _) = _; rw [if_neg (by omega), if_pos (by omega), hT.2.1]
                   rw [hA]; exact ⟨rfl, rfl, rfl⟩)
                | (have hA : aTab x (nI i) (nI m) = some (y.1 19 (3 * i + m - 2)) := by
                     unfold aTab; rw [hi0]; show (match ix 5 _ with | none => none | some m => _) = _; rw [hm]; show (if _ then _ else if _ then _ else _) = _; rw [if_neg (by omega), if_neg (by omega)]
                     unfold nmSz
                     rw [if_pos (by omega), ← (hT.2.2.1 (m - 2) (by omega)).1, show 3 * i + (m - 2) = 3 * i + m - 2 by omega]
                   rw [hA]; exact ⟨rfl, rfl, rfl⟩)
                | (have hA : aTab x (nI i) (nI m) = some (-1) := by
                     unfold aTab; rw [hi0]; show (match ix 5 _ with | none => none | some m => _) = _; rw [hm]; show (if _ then _ else if _ then _ else _) = _; rw [if_neg (by omega), if_neg (by omega)]
                     unfold nmSz
                     rw [if_neg (by omega)]
                   rw [hA]; exact ⟨rfl, rfl, rfl⟩)
          · refine v_aload_n dX10_table_50 rfl (by rfl) ?_
            refine v_getf hE dX10_table_51 fX10_63 mdS_M (by rfl) ?_
            refine v_iload_n dX10_table_54 rfl (by rfl) ?_
            refine m_iald hE (k := 17) dX10_table_55 (by decide) (by decide) rfl (show _ < 4 by omega) (by omega) ?_
            refine v_goto (tgt := 87) dX10_table_56 (by decide) ?_
            refine v_iret dX10_table_87 rfl (by first | rfl | exact nar_bI) ?_
            first
              | (have hA : aTab x (nI i) (nI m) = some (y.1 16 i) := by
                   unfold aTab; rw [hi0]; show (match ix 5 _ with | none => none | some m => _) = _; rw [hm]; show (if _ then _ else if _ then _ else _) = _; rw [if_pos (by omega), hT.1]
                 rw [hA]; exact ⟨rfl, rfl, rfl⟩)
              | (have hA : aTab x (nI i) (nI m) = some (y.1 17 i) := by
                   unfold aTab; rw [hi0]; show (match ix 5 _ with | none => none | some m => _) = _; rw [hm]; show (if _ then _ else if _ then _ else _) = _; rw [if_neg (by omega), if_pos (by omega), hT.2.1]
                 rw [hA]; exact ⟨rfl, rfl, rfl⟩)
              | (have hA : aTab x (nI i) (nI m) = some (y.1 19 (3 * i + m - 2)) := by
                   unfold aTab; rw [hi0]; show (match ix 5 _ with | none => none | some m => _) = _; rw [hm]; show (if _ then _ else if _ then _ else _) = _; rw [if_neg (by omega), if_neg (by omega)]
                   unfold nmSz
                   rw [if_pos (by omega), ← (hT.2.2.1 (m - 2) (by omega)).1, show 3 * i + (m - 2) = 3 * i + m - 2 by omega]
                 rw [hA]; exact ⟨rfl, rfl, rfl⟩)
              | (have hA : aTab x (nI i) (nI m) = some (-1) := by
                   unfold aTab; rw [hi0]; show (match ix 5 _ with | none => none | some m => _) = _; rw [hm]; show (if _ then _ else if _ then _ else _) = _; rw [if_neg (by omega), if_neg (by omega)]
                   unfold nmSz
                   rw [if_neg (by omega)]
                 rw [hA]; exact ⟨rfl, rfl, rfl⟩)
        · refine v_aload_n dX10_table_36 rfl (by rfl) ?_
          refine v_getf hE dX10_table_37 fX10_60 mdS_M (by rfl) ?_
          refine v_iload_n dX10_table_40 rfl (by rfl) ?_
          refine m_iald hE (k := 16) dX10_table_41 (by decide) (by decide) rfl (show _ < 4 by omega) (by omega) ?_
          refine v_goto (tgt := 87) dX10_table_42 (by decide) ?_
          refine v_iret dX10_table_87 rfl (by first | rfl | exact nar_bI) ?_
          first
            | (have hA : aTab x (nI i) (nI m) = some (y.1 16 i) := by
                 unfold aTab; rw [hi0]; show (match ix 5 _ with | none => none | some m => _) = _; rw [hm]; show (if _ then _ else if _ then _ else _) = _; rw [if_pos (by omega), hT.1]
               rw [hA]; exact ⟨rfl, rfl, rfl⟩)
            | (have hA : aTab x (nI i) (nI m) = some (y.1 17 i) := by
                 unfold aTab; rw [hi0]; show (match ix 5 _ with | none => none | some m => _) = _; rw [hm]; show (if _ then _ else if _ then _ else _) = _; rw [if_neg (by omega), if_pos (by omega), hT.2.1]
               rw [hA]; exact ⟨rfl, rfl, rfl⟩)
            | (have hA : aTab x (nI i) (nI m) = some (y.1 19 (3 * i + m - 2)) := by
                 unfold aTab; rw [hi0]; show (match ix 5 _ with | none => none | some m => _) = _; rw [hm]; show (if _ then _ else if _ then _ else _) = _; rw [if_neg (by omega), if_neg (by omega)]
                 unfold nmSz
                 rw [if_pos (by omega), ← (hT.2.2.1 (m - 2) (by omega)).1, show 3 * i + (m - 2) = 3 * i + m - 2 by omega]
               rw [hA]; exact ⟨rfl, rfl, rfl⟩)
            | (have hA : aTab x (nI i) (nI m) = some (-1) := by
                 unfold aTab; rw [hi0]; show (match ix 5 _ with | none => none | some m => _) = _; rw [hm]; show (if _ then _ else if _ then _ else _) = _; rw [if_neg (by omega), if_neg (by omega)]
                 unfold nmSz
                 rw [if_neg (by omega)]
               rw [hA]; exact ⟨rfl, rfl, rfl⟩)
      · exact absurd c27 (by decide)

set_option maxRecDepth 100000 in
set_option maxHeartbeats 4000000 in
/-- model: isRecord -/
theorem sX10_isRecord {E : eN} (hE : eOk E) {f : aH} {t : Nat} {M D : Nat} {y : mV} {x : dV} {q r : Int32} (hR : mRel x y) (hI : dOk D x) : mT E mX10_isRecord 0 0 [.ref M, .int q, .int r] (mdS f M y) t (fun o f' t' => o = .inl (some (.int (bI (dEn x q r).isSome))) ∧ t' = t ∧ f' = mdS f M y) := by
  refine mT_of (n := 0) (lo := [some (.ref M), some (.int q), some (.int r)]) (by decide) (by exact Nat.le_of_ble_eq_true rfl) rfl rfl ?_
  refine v_iload_n dX10_isRecord_0 rfl (by rfl) ?_
  refine v_iconst (v := nI 0) dX10_isRecord_1 (by decide) ?_
  refine v_iconst (v := nI 1) dX10_isRecord_2 (by decide) ?_
  refine w_callS hE dX10_isRecord_3 kX10_136 (by rfl) (sX10_in hE) rfl (by decide) (by decide) (by exact Nat.le_of_ble_eq_true rfl) (by omega) (by omega) (fun v9 g9 u9 h9 => ?_) (fun _ _ _ h => by cases h.1)
  obtain ⟨hv9, hu9, hg9⟩ := h9
  replace hu9 := hu9.symm
  replace hg9 := hg9.symm
  subst hu9
  subst hg9
  cases hv9
  rw [in_ix1 (n := 1) (by omega)]
  refine v_if_eqB (tgt := 29) dX10_isRecord_6 (by decide) (fun c6 => ?_) (fun c6 => ?_)
  · refine v_iconst (v := nI 0) dX10_isRecord_29 (by decide) ?_
    refine v_iret dX10_isRecord_30 rfl (by first | rfl | exact nar_bI) ?_
    refine ⟨congrArg (fun x => (Sum.inl (some (Value.int x)) : aO)) ?_, rfl, rfl⟩
    first
      | (have hA : dEn x q r = none := by
           unfold dEn
           split
           · rfl
           · rename_i i hi
             exfalso
             rw [show ix 2 q = some i from hi] at c6
             exact Bool.noConfusion c6
         rw [hA]; rfl)
      | (have hA : (dEn x (nI i) r).isSome = (ix (dZ x i).2.2 r).isSome := by
           unfold dEn
           rw [hi0]
           show (match ix (dZ x i).2.2 r with | none => none | some k => some (i, dW x ((dZ x i).1 k))).isSome = _
           cases ix (dZ x i).2.2 r <;> rfl
         rw [hA, c22]; rfl)
  · obtain ⟨i, hi0⟩ := Option.isSome_iff_exists.mp c6
    obtain ⟨i2, i3⟩ := ix_r hi0 (by omega)
    subst i3
    have hT := hR.2.2.2.1 i i2
    have hzo := hI.2.2.1 i (by omega)
    have hz8 := hzo.2
    have hn3 := hzo.1.1
    refine v_iload_n dX10_isRecord_9 rfl (by rfl) ?_
    refine v_iconst (v := nI 0) dX10_isRecord_10 (by decide) ?_
    refine v_aload_n dX10_isRecord_11 rfl (by rfl) ?_
    refine v_getf hE dX10_isRecord_12 fX10_60 mdS_M (by rfl) ?_
    refine v_iload_n dX10_isRecord_15 rfl (by rfl) ?_
    refine m_iald hE (k := 16) dX10_isRecord_16 (by decide) (by decide) rfl (show _ < 4 by omega) (by omega) ?_
    refine v_eqi (y := nI (dZ x i).2.2) hT.1 ?_
    refine v_iconst (v := nI 1) dX10_isRecord_17 (by decide) ?_
    refine v_isub dX10_isRecord_18 ?_
    refine w_callS hE dX10_isRecord_19 kX10_136 (by rfl) (sX10_in hE) rfl (by decide) (by decide) (by exact Nat.le_of_ble_eq_true rfl) (by omega) (by omega) (fun v9 g9 u9 h9 => ?_) (fun _ _ _ h => by cases h.1)
    obtain ⟨hv9, hu9, hg9⟩ := h9
    replace hu9 := hu9.symm
    replace hg9 := hg9.symm
    subst hu9
    subst hg9
    cases hv9
    rw [in_ix (n := (dZ x i).2.2) (by omega)]
    refine v_if_eqB (tgt := 29) dX10_isRecord_22 (by decide) (fun c22 => ?_) (fun c22 => ?_)
    · refine v_iconst (v := nI 0) dX10_isRecord_29 (by decide) ?_
      refine v_iret dX10_isRecord_30 rfl (by first | rfl | exact nar_bI) ?_
      refine ⟨congrArg (fun x => (Sum.inl (some (Value.int x)) : aO)) ?_, rfl, rfl⟩
      first
        | (have hA : dEn x q r = none := by
             unfold dEn
             split
             · rfl
             · rename_i i hi
               exfalso
               rw [show ix 2 q = some i from hi] at c6
               exact Bool.noConfusion c6
           rw [hA]; rfl)
        | (have hA : (dEn x (nI i) r).isSome = (ix (dZ x i).2.2 r).isSome := by
             unfold dEn
             rw [hi0]
             show (match ix (dZ x i).2.2 r with | none => none | some k => some (i, dW x ((dZ x i).1 k))).isSome = _
             cases ix (dZ x i).2.2 r <;> rfl
           rw [hA, c22]; rfl)
    · refine v_iconst (v := nI 1) dX10_isRecord_25 (by decide) ?_
      refine v_goto (tgt := 30) dX10_isRecord_26 (by decide) ?_
      refine v_iret dX10_isRecord_30 rfl (by first | rfl | exact nar_bI) ?_
      refine ⟨congrArg (fun x => (Sum.inl (some (Value.int x)) : aO)) ?_, rfl, rfl⟩
      first
        | (have hA : dEn x q r = none := by
             unfold dEn
             split
             · rfl
             · rename_i i hi
               exfalso
               rw [show ix 2 q = some i from hi] at c6
               exact Bool.noConfusion c6
           rw [hA]; rfl)
        | (have hA : (dEn x (nI i) r).isSome = (ix (dZ x i).2.2 r).isSome := by
             unfold dEn
             rw [hi0]
             show (match ix (dZ x i).2.2 r with | none => none | some k => some (i, dW x ((dZ x i).1 k))).isSome = _
             cases ix (dZ x i).2.2 r <;> rfl
           rw [hA, c22]; rfl)
