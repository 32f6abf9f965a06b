theorem dif_eq {a b c d : Nat} (ha : a ≤ 30) (hb : b ≤ 30) (hc : c ≤ 30) (hd : d ≤ 30) : (nI a - nI b = nI c - nI d) ↔ a + d = c + b := by
  rw [← Int32.toInt_inj, Int32.toInt_sub, Int32.toInt_sub, nI_toInt (by omega), nI_toInt (by omega), nI_toInt (by omega), nI_toInt (by omega), Int.bmod_eq_of_le (by omega) (by omega), Int.bmod_eq_of_le (by omega) (by omega)]
  omega
def mMn (w v : eV) (g : gV) (s p q : Nat) : Bool := allB (fun k => decide (eAft w g s p k = eAft v g s q k)) (gSz g s - eRs w 0 + eRs w 1 + 1 - 1) 1
theorem mMn_eq {w v : eV} {g : gV} {s p q : Nat} (hw : eGs w g s p) (hv : eGs v g s q) (he : gSz g s - eRs w 0 + eRs w 1 = gSz g s - eRs v 0 + eRs v 1) : eSame w v g s p q = mMn w v g s p q := by
  obtain ⟨w1, w2, w3, w4, w5⟩ := hw
  obtain ⟨v1, v2, v3, v4, v5⟩ := hv
  unfold eSame mMn
  apply bool_eq
  rw [allB_iff, allB_iff]
  constructor
  · intro h k k1 k2
    by_cases h1 : min p q ≤ k ∧ k < max (p + eRs w 1) (q + eRs v 1)
    · exact h k h1.1 (by omega)
    · apply decide_eq_true
      by_cases h2 : k < min p q
      · unfold eAft
        rw [if_pos (by omega), if_pos (by omega)]
      · unfold eAft
        rw [if_neg (by omega), if_neg (by omega), if_neg (by omega), if_neg (by omega), show k + eRs w 0 - eRs w 1 = k + eRs v 0 - eRs v 1 by omega]
  · intro h k k1 k2
    exact h k (by omega) (by omega)
set_option maxRecDepth 100000 in
set_option maxHeartbeats 4000000 in
/-- model: same -/
theorem sX10_same {E : eN} (hE : eOk E) {f : aH} {t : Nat} {M D : Nat} {y : mV} {x : dV} {q r m p : Int32} (hR : mRel x y) (hI : dOk D x) : mT E mX10_same 0 0 [.ref M, .int q, .int r, .int m, .int p] (mdS f M y) t (fun o f' t' => o = .inl (some (.int ((aSam x q r m p).getD (nI 0)))) ∧ t' = t ∧ f' = mdS f M (y.1, va_up y.2 0 (bI (aSam x q r m p).isNone))) := by
  refine mT_of (n := 4) (lo := [some (.ref M), some (.int q), some (.int r), some (.int m), some (.int p), none, none, none, none]) (by decide) (by exact Nat.le_of_ble_eq_true rfl) rfl rfl ?_
  have hG := hR.2.2.1
  have hgo := hI.2.1 0 (by omega)
  have hgc := hgo.1.1
  have hg1 := hgo.2.1
  have hgt := hgo.2.2.1
  refine v_aload_n dX10_same_0 rfl (by rfl) ?_
  refine v_aload_n dX10_same_1 rfl (by rfl) ?_
  refine v_iload_n dX10_same_2 rfl (by rfl) ?_
  refine v_iload_n dX10_same_3 rfl (by rfl) ?_
  refine w_callV hE dX10_same_4 kX10_306 mdS_M (by rfl) (by rfl) (sX10_isRecord hE hR hI) rfl (by decide) (by decide) (by exact Nat.le_of_ble_eq_true rfl) (by omega) (by omega) (fun v9 g9 u9 h9 => ?_) (fun _ _ _ h => by cases h.1)
  obtain ⟨hv9, hu9, hg9⟩ := h9
  replace hu9 := hu9.symm
  subst hu9
  subst hg9
  cases hv9
  refine v_if_eqB (tgt := 24) dX10_same_7 (by decide) (fun c7 => ?_) (fun c7 => ?_)
  · refine v_iconst (v := bI false) dX10_same_24 (by decide) ?_
    refine w_callV hE dX10_same_25 kX10_143 mdS_M (by rfl) (by rfl) (sX10_goes hE) rfl (by decide) (by decide) (by exact Nat.le_of_ble_eq_true rfl) (by omega) (by omega) (fun v9 g9 u9 h9 => ?_) (fun _ _ _ h => by cases h.1)
    obtain ⟨hv9, hu9, hg9⟩ := h9
    replace hu9 := hu9.symm
    subst hu9
    subst hg9
    cases hv9
    refine v_if_neN (tgt := 33) dX10_same_28 (by decide) (by omega) (fun c28 => ?_) (fun c28 => ?_)
    · exact absurd c28 (by decide)
    · refine v_iconst (v := nI 0) dX10_same_31 (by decide) ?_
      refine v_iret dX10_same_32 rfl (by first | rfl | exact nar_bI) ?_
      have hA : aSam x q r m p = none := by
        unfold aSam
        split
        · rfl
        · rename_i e he
          split
          · rfl
          · rename_i e2 he2
            exfalso
            first
              | (rw [he] at c7; exact Bool.noConfusion c7)
              | (rw [he2] at c17; exact Bool.noConfusion c17)
      rw [hA]
      exact ⟨rfl, rfl, rfl⟩
  · refine v_aload_n dX10_same_10 rfl (by rfl) ?_
    refine v_iload_n dX10_same_11 rfl (by rfl) ?_
    refine v_iload dX10_same_12 (by rfl) ?_
    refine w_callV hE dX10_same_14 kX10_306 mdS_M (by rfl) (by rfl) (sX10_isRecord hE hR hI) rfl (by decide) (by decide) (by exact Nat.le_of_ble_eq_true rfl) (by omega) (by omega) (fun v9 g9 u9 h9 => ?_) (fun _ _ _ h => by cases h.1)
    obtain ⟨hv9, hu9, hg9⟩ := h9
    replace hu9 := hu9.symm
    subst hu9
    subst hg9
    cases hv9
    refine v_if_eqB (tgt := 24) dX10_same_17 (by decide) (fun c17 => ?_) (fun c17 => ?_)
    · refine v_iconst (v := bI false) dX10_same_24 (by decide) ?_
      refine w_callV hE dX10_same_25 kX10_143 mdS_M (by rfl) (by rfl) (sX10_goes hE) rfl (by decide) (by decide) (by exact Nat.le_of_ble_eq_true rfl) (by omega) (by omega) (fun v9 g9 u9 h9 => ?_) (fun _ _ _ h => by cases h.1)
      obtain ⟨hv9, hu9, hg9⟩ := h9
      replace hu9 := hu9.symm
      subst hu9
      subst hg9
      cases hv9
      refine v_if_neN (tgt := 33) dX10_same_28 (by decide) (by omega) (fun c28 => ?_) (fun c28 => ?_)
      · exact absurd c28 (by decide)
      · refine v_iconst (v := nI 0) dX10_same_31 (by decide) ?_
        refine v_iret dX10_same_32 rfl (by first | rfl | exact nar_bI) ?_
        have hA : aSam x q r m p = none := by
          unfold aSam
          split
          · rfl
          · rename_i e he
            split
            · rfl
            · rename_i e2 he2
              exfalso
              first
                | (rw [he] at c7; exact Bool.noConfusion c7)
                | (rw [he2] at c17; exact Bool.noConfusion c17)
        rw [hA]
        exact ⟨rfl, rfl, rfl⟩
    · refine v_iconst (v := bI true) dX10_same_20 (by decide) ?_
      refine v_goto (tgt := 25) dX10_same_21 (by decide) ?_
      refine w_callV hE dX10_same_25 kX10_143 mdS_M (by rfl) (by rfl) (sX10_goes hE) rfl (by decide) (by decide) (by exact Nat.le_of_ble_eq_true rfl) (by omega) (by omega) (fun v9 g9 u9 h9 => ?_) (fun _ _ _ h => by cases h.1)
      obtain ⟨hv9, hu9, hg9⟩ := h9
      replace hu9 := hu9.symm
      subst hu9
      subst hg9
      cases hv9
      refine v_if_neN (tgt := 33) dX10_same_28 (by decide) (by omega) (fun c28 => ?_) (fun c28 => ?_)
      · obtain ⟨ea, hea⟩ := Option.isSome_iff_exists.mp c7
        obtain ⟨i, k, hi0a, i2a, i3a, hk0a, k2a, k3a, he2a⟩ := dEn_r hI hea
        subst i3a
        subst k3a
        subst he2a
        have hz8a := (hI.2.2.1 i (by omega)).2
        have hwoa := hI.2.2.2.1 _ (dre_X hI (show i < 3 by omega) k (by omega))
        have hroa := hwoa.1
        have r0a := hwoa.2.1 0
        have r1a := hwoa.2.1 1
        have hwa := (hR.2.2.2.1 i i2a).2.2.2 k k2a
        obtain ⟨⟨sa, pa, hs1a, hs2a, hs3a, hs4a, hs5a⟩, -⟩ := hI.2.2.2.2.2.1 i k i2a k2a
        have hgsa := hgo.2.2.2 sa hs3a
        have hesa : eGs (dW x ((dZ x i).1 k)) (dG x 0) sa pa := ⟨hs1a, hs2a, hs3a, hs4a, hs5a⟩
        obtain ⟨eb, heb⟩ := Option.isSome_iff_exists.mp c17
        obtain ⟨j, l, hi0b, i2b, i3b, hk0b, k2b, k3b, he2b⟩ := dEn_r hI heb
        subst i3b
        subst k3b
        subst he2b
        have hz8b := (hI.2.2.1 j (by omega)).2
        have hwob := hI.2.2.2.1 _ (dre_X hI (show j < 3 by omega) l (by omega))
        have hrob := hwob.1
        have r0b := hwob.2.1 0
        have r1b := hwob.2.1 1
        have hwb := (hR.2.2.2.1 j i2b).2.2.2 l k2b
        obtain ⟨⟨sb, pb, hs1b, hs2b, hs3b, hs4b, hs5b⟩, -⟩ := hI.2.2.2.2.2.1 j l i2b k2b
        have hgsb := hgo.2.2.2 sb hs3b
        have hesb : eGs (dW x ((dZ x j).1 l)) (dG x 0) sb pb := ⟨hs1b, hs2b, hs3b, hs4b, hs5b⟩
        have hAx : aSam x (nI i) (nI k) (nI j) (nI l) = some (bI (eMean (dW x ((dZ x i).1 k)) (dW x ((dZ x j).1 l)) (dG x 0) sa pa pb)) := by
          unfold aSam
          rw [hea]
          show (match dEn x (nI j) (nI l) with | none => none | some d => _) = _
          rw [heb]
          show some (bI (eMean _ _ _ _ _ _)) = _
          rw [hs1a, hs2a, hs2b, nI_clamp (by omega), nI_clamp (by omega), nI_clamp (by omega)]
        have hwa : mE (y.1, va_up y.2 0 (bI (! true))) (60 * i + k) (dW x ((dZ x i).1 k)) (dZ x i).2.1.1 := hwa
        have hwb : mE (y.1, va_up y.2 0 (bI (! true))) (60 * j + l) (dW x ((dZ x j).1 l)) (dZ x j).2.1.1 := hwb
        have hG : mGn (y.1, va_up y.2 0 (bI (! true))) (dG x 0) := hG
        have lp : ∀ (d : Nat) (n : Nat) (b9 : Bool), n + d = (gSz (dG x 0) sa - eRs (dW x ((dZ x i).1 k)) 0 + eRs (dW x ((dZ x i).1 k)) 1) + 1 → 1 ≤ n → (b9 = true → 1 < eRo (dW x ((dZ x i).1 k)) ∧ 1 < eRo (dW x ((dZ x j).1 l)) ∧ sa = sb ∧ (gSz (dG x 0) sa - eRs (dW x ((dZ x i).1 k)) 0 + eRs (dW x ((dZ x i).1 k)) 1) = gSz (dG x 0) sa - eRs (dW x ((dZ x j).1 l)) 0 + eRs (dW x ((dZ x j).1 l)) 1) → (eMean (dW x ((dZ x i).1 k)) (dW x ((dZ x j).1 l)) (dG x 0) sa pa pb) = (b9 && allB (fun z => decide (eAft (dW x ((dZ x i).1 k)) (dG x 0) sa pa z = eAft (dW x ((dZ x j).1 l)) (dG x 0) sa pb z)) ((gSz (dG x 0) sa - eRs (dW x ((dZ x i).1 k)) 0 + eRs (dW x ((dZ x i).1 k)) 1) + 1 - n) n) → V E mX10_same 0 0 (fun o f' t' => o = .inl (some (.int ((aSam x (nI i) (nI k) (nI j) (nI l)).getD (nI 0)))) ∧ t' = t ∧ f' = mdS f M (y.1, va_up y.2 0 (bI (aSam x (nI i) (nI k) (nI j) (nI l)).isNone))) 126 [some (.ref M), some (.int (nI i)), some (.int (nI k)), some (.int (nI j)), some (.int (nI l)), some (.int (nI (60 * i + k))), some (.int (nI (60 * j + l))), some (.int (bI b9)), some (.int (nI n))] [] (mdS f M (y.1, va_up y.2 0 (bI (! true)))) t 0 0 := by
          intro d
          induction d using Nat.strongRecOn with
          | _ d ih =>
          intro n b9 hn hn1 hb he
          refine v_iload dX10_same_126 (by rfl) ?_
          refine v_if_eqB (tgt := 174) dX10_same_128 (by decide) (fun c128 => ?_) (fun c128 => ?_)
          · refine v_iload dX10_same_174 (by rfl) ?_
            refine v_iret dX10_same_176 rfl (by first | rfl | exact nar_bI) ?_
            have hA := hAx
            rw [hA]
            refine ⟨congrArg (fun x => (Sum.inl (some (Value.int x)) : aO)) (congrArg bI ?_), rfl, rfl⟩
            rw [he]
            first | (rw [c128]; rfl) | (rw [allB_0 (p := (fun z => decide (eAft (dW x ((dZ x i).1 k)) (dG x 0) sa pa z = eAft (dW x ((dZ x j).1 l)) (dG x 0) sa pb z))) (j := (gSz (dG x 0) sa - eRs (dW x ((dZ x i).1 k)) 0 + eRs (dW x ((dZ x i).1 k)) 1) + 1) (by omega), Bool.and_true])
          · obtain ⟨f1, f2, f3, f4⟩ := hb c128
            subst f3
            refine v_iload dX10_same_131 (by rfl) ?_
            refine v_aload_n dX10_same_133 rfl (by rfl) ?_
            refine v_iload dX10_same_134 (by rfl) ?_
            refine w_callV hE dX10_same_136 kX10_385 mdS_M (by rfl) (by rfl) (sX10_lengthWith hE (y := (y.1, va_up y.2 0 (bI (! true)))) hwa hwoa hG hgo hesa (by omega) (by omega)) rfl (by decide) (by decide) (by exact Nat.le_of_ble_eq_true rfl) (by omega) (by omega) (fun v9 g9 u9 h9 => ?_) (fun _ _ _ h => by cases h.1)
            obtain ⟨hv9, hu9, hg9⟩ := h9
            replace hu9 := hu9.symm
            subst hu9
            subst hg9
            cases hv9
            refine v_icmp_gtN (tgt := 174) dX10_same_139 (by decide) (by omega) (by omega) (fun c139 => ?_) (fun c139 => ?_)
            · refine v_iload dX10_same_174 (by rfl) ?_
              refine v_iret dX10_same_176 rfl (by first | rfl | exact nar_bI) ?_
              have hA := hAx
              rw [hA]
              refine ⟨congrArg (fun x => (Sum.inl (some (Value.int x)) : aO)) (congrArg bI ?_), rfl, rfl⟩
              rw [he]
              first | (rw [c128]; rfl) | (rw [allB_0 (p := (fun z => decide (eAft (dW x ((dZ x i).1 k)) (dG x 0) sa pa z = eAft (dW x ((dZ x j).1 l)) (dG x 0) sa pb z))) (j := (gSz (dG x 0) sa - eRs (dW x ((dZ x i).1 k)) 0 + eRs (dW x ((dZ x i).1 k)) 1) + 1) (by omega), Bool.and_true])
            · refine v_aload_n dX10_same_142 rfl (by rfl) ?_
              refine v_iload dX10_same_143 (by rfl) ?_
              refine v_iload dX10_same_145 (by rfl) ?_
              refine w_callV hE dX10_same_147 kX10_388 mdS_M (by rfl) (by rfl) (sX10_letterWith hE (y := (y.1, va_up y.2 0 (bI (! true)))) hwa hwoa hG hgo hesa (by omega) (by omega) (by omega) (by omega)) rfl (by decide) (by decide) (by exact Nat.le_of_ble_eq_true rfl) (by omega) (by omega) (fun v9 g9 u9 h9 => ?_) (fun _ _ _ h => by cases h.1)
              obtain ⟨hv9, hu9, hg9⟩ := h9
              replace hu9 := hu9.symm
              subst hu9
              subst hg9
              cases hv9
              refine v_aload_n dX10_same_150 rfl (by rfl) ?_
              refine v_iload dX10_same_151 (by rfl) ?_
              refine v_iload dX10_same_153 (by rfl) ?_
              refine w_callV hE dX10_same_155 kX10_388 mdS_M (by rfl) (by rfl) (sX10_letterWith hE (y := (y.1, va_up y.2 0 (bI (! true)))) hwb hwob hG hgo hesb (by omega) (by omega) (by omega) (by omega)) rfl (by decide) (by decide) (by exact Nat.le_of_ble_eq_true rfl) (by omega) (by omega) (fun v9 g9 u9 h9 => ?_) (fun _ _ _ h => by cases h.1)
              obtain ⟨hv9, hu9, hg9⟩ := h9
              replace hu9 := hu9.symm
              subst hu9
              subst hg9
              cases hv9
              refine v_icmp_ne (tgt := 165) dX10_same_158 (by decide) (fun c158 => ?_) (fun c158 => ?_)
              · refine v_iconst (v := nI 0) dX10_same_165 (by decide) ?_
                refine v_istore dX10_same_166 (by decide) ?_
                refine v_iincN (y := 1) dX10_same_168 (by rfl) (by decide) (by decide) ?_
                refine v_goto (tgt := 126) dX10_same_171 (by decide) ?_
                first
                  | exact ih (d - 1) (by omega) (n + 1) true (by omega) (by omega) (fun _ => ⟨f1, f2, rfl, f4⟩) (he.trans (by rw [c128, Bool.true_and, Bool.true_and, allB_s (p := (fun z => decide (eAft (dW x ((dZ x i).1 k)) (dG x 0) sa pa z = eAft (dW x ((dZ x j).1 l)) (dG x 0) sa pb z))) (j := (gSz (dG x 0) sa - eRs (dW x ((dZ x i).1 k)) 0 + eRs (dW x ((dZ x i).1 k)) 1) + 1) (by omega) (decide_eq_true c158)]))
                  | exact ih (d - 1) (by omega) (n + 1) false (by omega) (by omega) (fun z => by cases z) (he.trans (by rw [c128, Bool.true_and, allB_f (p := (fun z => decide (eAft (dW x ((dZ x i).1 k)) (dG x 0) sa pa z = eAft (dW x ((dZ x j).1 l)) (dG x 0) sa pb z))) (j := (gSz (dG x 0) sa - eRs (dW x ((dZ x i).1 k)) 0 + eRs (dW x ((dZ x i).1 k)) 1) + 1) (by omega) (decide_eq_false c158)]; rfl))
              · refine v_iconst (v := nI 1) dX10_same_161 (by decide) ?_
                refine v_goto (tgt := 166) dX10_same_162 (by decide) ?_
                refine v_istore dX10_same_166 (by decide) ?_
                refine v_iincN (y := 1) dX10_same_168 (by rfl) (by decide) (by decide) ?_
                refine v_goto (tgt := 126) dX10_same_171 (by decide) ?_
                first
                  | exact ih (d - 1) (by omega) (n + 1) true (by omega) (by omega) (fun _ => ⟨f1, f2, rfl, f4⟩) (he.trans (by rw [c128, Bool.true_and, Bool.true_and, allB_s (p := (fun z => decide (eAft (dW x ((dZ x i).1 k)) (dG x 0) sa pa z = eAft (dW x ((dZ x j).1 l)) (dG x 0) sa pb z))) (j := (gSz (dG x 0) sa - eRs (dW x ((dZ x i).1 k)) 0 + eRs (dW x ((dZ x i).1 k)) 1) + 1) (by omega) (decide_eq_true c158)]))
                  | exact ih (d - 1) (by omega) (n + 1) false (by omega) (by omega) (fun z => by cases z) (he.trans (by rw [c128, Bool.true_and, allB_f (p := (fun z => decide (eAft (dW x ((dZ x i).1 k)) (dG x 0) sa pa z = eAft (dW x ((dZ x j).1 l)) (dG x 0) sa pb z))) (j := (gSz (dG x 0) sa - eRs (dW x ((dZ x i).1 k)) 0 + eRs (dW x ((dZ x i).1 k)) 1) + 1) (by omega) (decide_eq_false c158)]; rfl))
        refine v_bipush (v := nI 60) dX10_same_33 (by decide) ?_
        refine v_iload_n dX10_same_35 rfl (by rfl) ?_
        refine v_imulN dX10_same_36 ?_
        refine v_iload_n dX10_same_37 rfl (by rfl) ?_
        refine v_iaddN dX10_same_38 ?_
        refine v_istore dX10_same_39 (by decide) ?_
        refine v_bipush (v := nI 60) dX10_same_41 (by decide) ?_
        refine v_iload_n dX10_same_43 rfl (by rfl) ?_
        refine v_imulN dX10_same_44 ?_
        refine v_iload dX10_same_45 (by rfl) ?_
        refine v_iaddN dX10_same_47 ?_
        refine v_istore dX10_same_48 (by decide) ?_
        refine v_aload_n dX10_same_50 rfl (by rfl) ?_
        refine v_getf hE dX10_same_51 fX10_84 mdS_M (by rfl) ?_
        refine v_iload dX10_same_54 (by rfl) ?_
        refine m_iald hE (k := 24) dX10_same_56 (by decide) (by decide) rfl (show _ < 240 by omega) (by omega) ?_
        refine v_eqi (y := nI (eRo (dW x ((dZ x i).1 k)) - 1)) hwa.2.2.2.2.1 ?_
        refine v_iconst (v := nI 1) dX10_same_57 (by decide) ?_
        refine v_icmp_neN (tgt := 93) dX10_same_58 (by decide) (by omega) (by omega) (fun c58 => ?_) (fun c58 => ?_)
        · refine v_iconst (v := nI 0) dX10_same_93 (by decide) ?_
          refine v_istore dX10_same_94 (by decide) ?_
          refine v_iload dX10_same_96 (by rfl) ?_
          refine v_if_eqN (tgt := 120) dX10_same_98 (by decide) (by omega) (fun c98 => ?_) (fun c98 => ?_)
          · refine v_iconst (v := nI 0) dX10_same_120 (by decide) ?_
            refine v_istore dX10_same_121 (by decide) ?_
            refine v_iconst (v := nI 1) dX10_same_123 (by decide) ?_
            refine v_istore dX10_same_124 (by decide) ?_
            first
              | exact lp ((gSz (dG x 0) sa - eRs (dW x ((dZ x i).1 k)) 0 + eRs (dW x ((dZ x i).1 k)) 1)) 1 false (by omega) (by omega) (fun z => by cases z) (by unfold eMean; rw [decide_eq_false (show ¬ eRo (dW x ((dZ x i).1 k)) = 2 by omega)]; rfl)
              | exact lp ((gSz (dG x 0) sa - eRs (dW x ((dZ x i).1 k)) 0 + eRs (dW x ((dZ x i).1 k)) 1)) 1 false (by omega) (by omega) (fun z => by cases z) (by unfold eMean; rw [decide_eq_false (show ¬ eRo (dW x ((dZ x j).1 l)) = 2 by omega), Bool.false_and, Bool.and_false]; rfl)
              | exact lp ((gSz (dG x 0) sa - eRs (dW x ((dZ x i).1 k)) 0 + eRs (dW x ((dZ x i).1 k)) 1)) 1 false (by omega) (by omega) (fun z => by cases z) (by unfold eMean; rw [decide_eq_false (show ¬ eSq (dW x ((dZ x i).1 k)) = eSq (dW x ((dZ x j).1 l)) from fun z => by have := nI_inj (hs1a.symm.trans (z.trans hs1b)) (by omega) (by omega); omega), Bool.false_and, Bool.and_false, Bool.and_false]; rfl)
          · exact absurd c98 (by omega)
        · refine v_aload_n dX10_same_61 rfl (by rfl) ?_
          refine v_getf hE dX10_same_62 fX10_84 mdS_M (by rfl) ?_
          refine v_iload dX10_same_65 (by rfl) ?_
          refine m_iald hE (k := 24) dX10_same_67 (by decide) (by decide) rfl (show _ < 240 by omega) (by omega) ?_
          refine v_eqi (y := nI (eRo (dW x ((dZ x j).1 l)) - 1)) hwb.2.2.2.2.1 ?_
          refine v_iconst (v := nI 1) dX10_same_68 (by decide) ?_
          refine v_icmp_neN (tgt := 93) dX10_same_69 (by decide) (by omega) (by omega) (fun c69 => ?_) (fun c69 => ?_)
          · refine v_iconst (v := nI 0) dX10_same_93 (by decide) ?_
            refine v_istore dX10_same_94 (by decide) ?_
            refine v_iload dX10_same_96 (by rfl) ?_
            refine v_if_eqN (tgt := 120) dX10_same_98 (by decide) (by omega) (fun c98 => ?_) (fun c98 => ?_)
            · refine v_iconst (v := nI 0) dX10_same_120 (by decide) ?_
              refine v_istore dX10_same_121 (by decide) ?_
              refine v_iconst (v := nI 1) dX10_same_123 (by decide) ?_
              refine v_istore dX10_same_124 (by decide) ?_
              first
                | exact lp ((gSz (dG x 0) sa - eRs (dW x ((dZ x i).1 k)) 0 + eRs (dW x ((dZ x i).1 k)) 1)) 1 false (by omega) (by omega) (fun z => by cases z) (by unfold eMean; rw [decide_eq_false (show ¬ eRo (dW x ((dZ x i).1 k)) = 2 by omega)]; rfl)
                | exact lp ((gSz (dG x 0) sa - eRs (dW x ((dZ x i).1 k)) 0 + eRs (dW x ((dZ x i).1 k)) 1)) 1 false (by omega) (by omega) (fun z => by cases z) (by unfold eMean; rw [decide_eq_false (show ¬ eRo (dW x ((dZ x j).1 l)) = 2 by omega), Bool.false_and, Bool.and_false]; rfl)
                | exact lp ((gSz (dG x 0) sa - eRs (dW x ((dZ x i).1 k)) 0 + eRs (dW x ((dZ x i).1 k)) 1)) 1 false (by omega) (by omega) (fun z => by cases z) (by unfold eMean; rw [decide_eq_false (show ¬ eSq (dW x ((dZ x i).1 k)) = eSq (dW x ((dZ x j).1 l)) from fun z => by have := nI_inj (hs1a.symm.trans (z.trans hs1b)) (by omega) (by omega); omega), Bool.false_and, Bool.and_false, Bool.and_false]; rfl)
            · exact absurd c98 (by omega)
          · refine v_aload_n dX10_same_72 rfl (by rfl) ?_
            refine v_getf hE dX10_same_73 fX10_72 mdS_M (by rfl) ?_
            refine v_iload dX10_same_76 (by rfl) ?_
            refine m_iald hE (k := 20) dX10_same_78 (by decide) (by decide) rfl (show _ < 240 by omega) (by omega) ?_
            refine v_eqi (y := nI sa) (hwa.1.trans hs1a) ?_
            refine v_aload_n dX10_same_79 rfl (by rfl) ?_
            refine v_getf hE dX10_same_80 fX10_72 mdS_M (by rfl) ?_
            refine v_iload dX10_same_83 (by rfl) ?_
            refine m_iald hE (k := 20) dX10_same_85 (by decide) (by decide) rfl (show _ < 240 by omega) (by omega) ?_
            refine v_eqi (y := nI sb) (hwb.1.trans hs1b) ?_
            refine v_icmp_neN (tgt := 93) dX10_same_86 (by decide) (by omega) (by omega) (fun c86 => ?_) (fun c86 => ?_)
            · refine v_iconst (v := nI 0) dX10_same_93 (by decide) ?_
              refine v_istore dX10_same_94 (by decide) ?_
              refine v_iload dX10_same_96 (by rfl) ?_
              refine v_if_eqN (tgt := 120) dX10_same_98 (by decide) (by omega) (fun c98 => ?_) (fun c98 => ?_)
              · refine v_iconst (v := nI 0) dX10_same_120 (by decide) ?_
                refine v_istore dX10_same_121 (by decide) ?_
                refine v_iconst (v := nI 1) dX10_same_123 (by decide) ?_
                refine v_istore dX10_same_124 (by decide) ?_
                first
                  | exact lp ((gSz (dG x 0) sa - eRs (dW x ((dZ x i).1 k)) 0 + eRs (dW x ((dZ x i).1 k)) 1)) 1 false (by omega) (by omega) (fun z => by cases z) (by unfold eMean; rw [decide_eq_false (show ¬ eRo (dW x ((dZ x i).1 k)) = 2 by omega)]; rfl)
                  | exact lp ((gSz (dG x 0) sa - eRs (dW x ((dZ x i).1 k)) 0 + eRs (dW x ((dZ x i).1 k)) 1)) 1 false (by omega) (by omega) (fun z => by cases z) (by unfold eMean; rw [decide_eq_false (show ¬ eRo (dW x ((dZ x j).1 l)) = 2 by omega), Bool.false_and, Bool.and_false]; rfl)
                  | exact lp ((gSz (dG x 0) sa - eRs (dW x ((dZ x i).1 k)) 0 + eRs (dW x ((dZ x i).1 k)) 1)) 1 false (by omega) (by omega) (fun z => by cases z) (by unfold eMean; rw [decide_eq_false (show ¬ eSq (dW x ((dZ x i).1 k)) = eSq (dW x ((dZ x j).1 l)) from fun z => by have := nI_inj (hs1a.symm.trans (z.trans hs1b)) (by omega) (by omega); omega), Bool.false_and, Bool.and_false, Bool.and_false]; rfl)
              · exact absurd c98 (by omega)
            · refine v_iconst (v := nI 1) dX10_same_89 (by decide) ?_
              refine v_goto (tgt := 94) dX10_same_90 (by decide) ?_
              refine v_istore dX10_same_94 (by decide) ?_
              refine v_iload dX10_same_96 (by rfl) ?_
              refine v_if_eqN (tgt := 120) dX10_same_98 (by decide) (by omega) (fun c98 => ?_) (fun c98 => ?_)
              · exact absurd c98 (by omega)
              · have hsab : sa = sb := by omega
                subst hsab
                refine v_aload_n dX10_same_101 rfl (by rfl) ?_
                refine v_iload dX10_same_102 (by rfl) ?_
                refine w_callV hE dX10_same_104 kX10_385 mdS_M (by rfl) (by rfl) (sX10_lengthWith hE (y := (y.1, va_up y.2 0 (bI (! true)))) hwa hwoa hG hgo hesa (by omega) (by omega)) rfl (by decide) (by decide) (by exact Nat.le_of_ble_eq_true rfl) (by omega) (by omega) (fun v9 g9 u9 h9 => ?_) (fun _ _ _ h => by cases h.1)
                obtain ⟨hv9, hu9, hg9⟩ := h9
                replace hu9 := hu9.symm
                subst hu9
                subst hg9
                cases hv9
                refine v_aload_n dX10_same_107 rfl (by rfl) ?_
                refine v_iload dX10_same_108 (by rfl) ?_
                refine w_callV hE dX10_same_110 kX10_385 mdS_M (by rfl) (by rfl) (sX10_lengthWith hE (y := (y.1, va_up y.2 0 (bI (! true)))) hwb hwob hG hgo hesb (by omega) (by omega)) rfl (by decide) (by decide) (by exact Nat.le_of_ble_eq_true rfl) (by omega) (by omega) (fun v9 g9 u9 h9 => ?_) (fun _ _ _ h => by cases h.1)
                obtain ⟨hv9, hu9, hg9⟩ := h9
                replace hu9 := hu9.symm
                subst hu9
                subst hg9
                cases hv9
                refine v_icmp_neN (tgt := 120) dX10_same_113 (by decide) (by omega) (by omega) (fun c113 => ?_) (fun c113 => ?_)
                · refine v_iconst (v := nI 0) dX10_same_120 (by decide) ?_
                  refine v_istore dX10_same_121 (by decide) ?_
                  refine v_iconst (v := nI 1) dX10_same_123 (by decide) ?_
                  refine v_istore dX10_same_124 (by decide) ?_
                  have dq := dif_eq (a := eRs (dW x ((dZ x i).1 k)) 1) (b := eRs (dW x ((dZ x i).1 k)) 0) (c := eRs (dW x ((dZ x j).1 l)) 1) (d := eRs (dW x ((dZ x j).1 l)) 0) (by omega) (by omega) (by omega) (by omega)
                  exact lp ((gSz (dG x 0) sa - eRs (dW x ((dZ x i).1 k)) 0 + eRs (dW x ((dZ x i).1 k)) 1)) 1 false (by omega) (by omega) (fun z => by cases z) (by
                    unfold eMean
                    rw [decide_eq_true (show eRo (dW x ((dZ x i).1 k)) = 2 by omega), decide_eq_true (show eRo (dW x ((dZ x j).1 l)) = 2 by omega), decide_eq_true (show eSq (dW x ((dZ x i).1 k)) = eSq (dW x ((dZ x j).1 l)) from hs1a.trans hs1b.symm), decide_eq_false (fun z => by have := dq.mp z; omega)]
                    rfl)
                · refine v_iconst (v := nI 1) dX10_same_116 (by decide) ?_
                  refine v_goto (tgt := 121) dX10_same_117 (by decide) ?_
                  refine v_istore dX10_same_121 (by decide) ?_
                  refine v_iconst (v := nI 1) dX10_same_123 (by decide) ?_
                  refine v_istore dX10_same_124 (by decide) ?_
                  have dq := dif_eq (a := eRs (dW x ((dZ x i).1 k)) 1) (b := eRs (dW x ((dZ x i).1 k)) 0) (c := eRs (dW x ((dZ x j).1 l)) 1) (d := eRs (dW x ((dZ x j).1 l)) 0) (by omega) (by omega) (by omega) (by omega)
                  exact lp ((gSz (dG x 0) sa - eRs (dW x ((dZ x i).1 k)) 0 + eRs (dW x ((dZ x i).1 k)) 1)) 1 true (by omega) (by omega) (fun _ => ⟨by omega, by omega, rfl, by omega⟩) (by
                    unfold eMean
                    rw [decide_eq_true (show eRo (dW x ((dZ x i).1 k)) = 2 by omega), decide_eq_true (show eRo (dW x ((dZ x j).1 l)) = 2 by omega), decide_eq_true (show eSq (dW x ((dZ x i).1 k)) = eSq (dW x ((dZ x j).1 l)) from hs1a.trans hs1b.symm), decide_eq_true (dq.mpr (by omega)), mMn_eq hesa hesb (by omega)]
                    rfl)
      · exact absurd c28 (by decide)
