/-! apply -/
set_option maxRecDepth 100000 in
set_option maxHeartbeats 1000000 in
/-- apply from its loop on -/
theorem ap_100 {E : eN} (hE : eOk E) {f : aH} {t M : Nat} {y : mV} {x : dV} {D i n w s : Nat} (hR : mRel x y) (hI : dOk D x) (hi0 : ix 2 (nI i) = some i) (hn0 : ix (dZ x i).2.1.1 (nI n) = some n) (hw0 : ix 2 (nI w) = some w) (hs0 : ix (gCt (dG x 0)) (nI s) = some s) (hi : i < 2) (hn : n < (dZ x i).2.1.1) (hw : w < 2) (hs : s < gCt (dG x 0)) (hy0 : y.2 0 = bI false) : V E mX10_apply 0 0 (fun o f' t' => o = .inl (some (.int ((pApp x (nI i) (nI n) (nI w) (nI s)).1.getD (nI 0)))) ∧ t' = t ∧ mAns M f (pApp x (nI i) (nI n) (nI w) (nI s)) f') 100 [some (.ref M), some (.int (nI i)), some (.int (nI n)), some (.int (nI w)), some (.int (nI s)), some (.int (nI 1)), some (.int (nI 0)), some (.int (nxV i (nxL (fun k => dW x ((dZ x i).1 k)) n w s 1 ((dZ x i).2.2 - 0) 0 none))), none] [] (mdS f M (kS y (y.1 38) (y.1 39) ([] : List (Int32 × Int32)).length)) t 0 0 := by
  have hT := hR.2.2.2.1 i hi
  have hG := hR.2.2.1
  have hL := hR.2.2.2.2.2.2.2
  have hgo := hI.2.1 0 (by omega)
  have hgt := hgo.2.2.1
  have hgc := hgo.1.1
  have hg1 := hgo.2.1
  have hgz := hgo.2.2.2 s hs
  have hzo := hI.2.2.1 i (by omega)
  have hz8 := hzo.2
  have hm3 := hzo.1.1
  have hwo : ∀ k, k < (dZ x i).2.2 → enOk (dW x ((dZ x i).1 k)) := fun k hk => hI.2.2.2.1 _ (dre_X hI (show i < 3 by omega) k (by omega))
  obtain ⟨hch, hcn⟩ := ap_ch (n := n) (w := w) (s := s) hI hi
  have hN6 := (ap_ok hI hi hn hw hs).2.1
  have hT00 : kTl (y.1 38) (y.1 39) [] := ⟨fun k hk => absurd hk (Nat.not_lt_zero _), fun j => hR.1.1 38 j rfl⟩
  by_cases hcl : apCl x i n w s = true
  · obtain ⟨q1, q2, q3, q4, q5'⟩ := ap_Q hI hi hn hw hs hcl
    obtain ⟨l1, l2, l3⟩ := ap_len hI hi hn hw hs hcl
    have hsz : gnSz (dG x 0) s = gSz (dG x 0) s := if_pos hs
    have hv : ∀ z ∈ (apO x i n w s), (∃ c, c < 128 ∧ z.1 = nI c) ∧ (z.2 = -1 ∨ ∃ p0, 1 ≤ p0 ∧ p0 ≤ gnSz (dG x 0) s ∧ z.2 = nI p0) := apM_v (N := (apC x i n w s).2) (fun a a1 a2 => hL.1.1 _ (by omega)) (fun k hk => by
      obtain ⟨k1, k2⟩ := hch.2.1 k hk
      obtain ⟨r1, r2, r3, r4, r5, r6, r7, r8⟩ := ap_rec hI hL hi hn hs k1 k2
      exact ⟨r2, by rw [hsz]; exact r3, r8⟩) (apC x i n w s).2 0 1 (by omega) (Nat.le_refl _)
    refine ap_G hE hR hI hi hn hw hs hcl (apC x i n w s).2 0 (y.1 38) (y.1 39) [] (by omega) hT00 rfl (fun T0 U0 l0 hT0 hO0 => ?_)
    refine v_iload dX10_apply_181 (by rfl) ?_
    refine v_aload_n dX10_apply_183 rfl (by rfl) ?_
    refine v_iload_n dX10_apply_184 rfl (by rfl) ?_
    refine v_iload_n dX10_apply_185 rfl (by rfl) ?_
    refine v_iload_n dX10_apply_186 rfl (by rfl) ?_
    refine v_iload dX10_apply_187 (by rfl) ?_
    refine w_callV hE dX10_apply_189 kX10_372 mdS_M (by rfl) (by rfl) (sX10_calledMany hE (n := (dZ x i).2.2) (m := (dZ x i).2.1.1) (w := (fun k => dW x ((dZ x i).1 k))) (s := s) hT.1 hz8 (by omega) (fun k hk => hT.2.2.2 k hk) hwo hm3 hn hw) rfl (by decide) (by decide) (by exact Nat.le_of_ble_eq_true rfl) (by omega) (by omega) (fun v9 g9 u9 h9 => ?_) (fun _ _ _ h => by cases h.1)
    obtain ⟨hv9, hu9, hg9⟩ := h9
    replace hu9 := hu9.symm
    subst hu9
    subst hg9
    cases hv9
    refine v_eqi (y := nI (apC x i n w s).2) (congrArg nI hcn.symm) ?_
    refine v_icmp_geN (tgt := 197) dX10_apply_192 (by decide) (by omega) (by omega) (fun c192 => ?_) (fun c192 => ?_)
    · have q9 := (q5' (apC x i n w s).2 (Nat.le_refl _)).2
      have hNN : (apN (apE x i n w s) (apP x i n w s)) (apC x i n w s).2 ≤ gSz (dG x 0) s + 1 := by
        cases hz : (apC x i n w s).2 with
        | zero => show 1 ≤ _; omega
        | succ k =>
          have := q4 k (by omega)
          show apP x i n w s k + eRs (apE x i n w s k) 0 ≤ _
          omega
      have hNN1 : 1 ≤ (apN (apE x i n w s) (apP x i n w s)) (apC x i n w s).2 := by
        cases hz : (apC x i n w s).2 with
        | zero => exact Nat.le_refl _
        | succ k =>
          have := ((ap_ok hI hi hn hw hs).1 k (by omega)).2.1
          show 1 ≤ apP x i n w s k + _
          omega
      have hlen : l0.length ≤ 4500 := by
        have := congrArg List.length hO0
        rw [List.length_append] at this
        omega
      refine ap_B hE hG hgo hL.1 hs (gSz (dG x 0) s + 1 - (apN (apE x i n w s) (apP x i n w s)) (apC x i n w s).2) _ T0 U0 l0 (by omega) hNN1 hT0 (by omega) (fun T1 U1 hT1 => ?_)
      rw [hsz] at hO0
      rw [hO0] at hT1 ⊢
      refine v_aload_n dX10_apply_229 rfl (by rfl) ?_
      refine v_iconst (v := bI true) dX10_apply_230 (by decide) ?_
      refine m_put hE (j := 38) dX10_apply_231 fX10_186 (by exact Nat.le_of_ble_eq_true rfl) (by rfl) nar_bI fit_bI (by rfl) ?_
      refine v_aload_n dX10_apply_234 rfl (by rfl) ?_
      refine v_aload_n dX10_apply_235 rfl (by rfl) ?_
      refine v_getf hE dX10_apply_236 fX10_30 mdS_M (by rfl) ?_
      refine v_iload dX10_apply_239 (by rfl) ?_
      refine m_iald hE (k := 6) dX10_apply_241 (by decide) (by decide) rfl (show _ < 9 by omega) (by omega) ?_
      refine v_eqi (y := nI (gSz (dG x 0) s)) (hG.2.1 s hs).2.2.2.1 ?_
      refine m_put hE (j := 39) dX10_apply_242 fX10_376 (by exact Nat.le_of_ble_eq_true rfl) (by rfl) (by rfl) (by rfl) (by rfl) ?_
      refine v_aload_n dX10_apply_245 rfl (by rfl) ?_
      refine v_aload_n dX10_apply_246 rfl (by rfl) ?_
      refine v_getf hE dX10_apply_247 fX10_359 mdS_M (by rfl) ?_
      refine v_eqi (y := nI (apO x i n w s).length) rfl ?_
      refine m_put hE (j := 40) dX10_apply_250 fX10_379 (by exact Nat.le_of_ble_eq_true rfl) (by rfl) (by rfl) (by rfl) (by rfl) ?_
      refine v_iconst (v := nI 1) dX10_apply_253 (by decide) ?_
      refine v_istore dX10_apply_254 (by decide) ?_
      refine v_hp (show _ = mdS f M (va_up ((kS y T1 U1 (apO x i n w s).length).1, va_up (va_up (va_up (kS y T1 U1 (apO x i n w s).length).2 38 (bI true)) 39 (nI (gSz (dG x 0) s))) 40 (nI (apO x i n w s).length)).1 33 (((kS y T1 U1 (apO x i n w s).length).1, va_up (va_up (va_up (kS y T1 U1 (apO x i n w s).length).2 38 (bI true)) 39 (nI (gSz (dG x 0) s))) 40 (nI (apO x i n w s).length)).1 33), ((kS y T1 U1 (apO x i n w s).length).1, va_up (va_up (va_up (kS y T1 U1 (apO x i n w s).length).2 38 (bI true)) 39 (nI (gSz (dG x 0) s))) 40 (nI (apO x i n w s).length)).2) from md_c (va_up_id rfl).symm) ?_
      refine ap_Cl hE (y := ((kS y T1 U1 (apO x i n w s).length).1, va_up (va_up (va_up (kS y T1 U1 (apO x i n w s).length).2 38 (bI true)) 39 (nI (gSz (dG x 0) s))) 40 (nI (apO x i n w s).length))) (m := gSz (dG x 0) s) rfl (by omega) (gSz (dG x 0) s) 1 _ (by omega) (by omega) (fun j h1 h2 => absurd h2 (by omega)) (fun C1 hC1 => ?_)
      refine v_aload_n dX10_apply_279 rfl (by rfl) ?_
      refine v_aload_n dX10_apply_280 rfl (by rfl) ?_
      refine v_getf hE dX10_apply_281 fX10_359 mdS_M (by rfl) ?_
      refine v_eqi (y := nI (apO x i n w s).length) rfl ?_
      refine m_put hE (j := 37) dX10_apply_284 fX10_382 (by exact Nat.le_of_ble_eq_true rfl) (by rfl) (by rfl) (by rfl) (by rfl) ?_
      refine v_iconst (v := nI 0) dX10_apply_287 (by decide) ?_
      refine v_istore dX10_apply_288 (by decide) ?_
      refine v_hp (show _ = mdS f M (va_up (va_up (va_up (kS y T1 U1 (apO x i n w s).length).1 32 ((kS y T1 U1 (apO x i n w s).length).1 32)) 33 C1) 34 ((kS y T1 U1 (apO x i n w s).length).1 34), (va_up (va_up (va_up (va_up (kS y T1 U1 (apO x i n w s).length).2 38 (bI true)) 39 (nI (gSz (dG x 0) s))) 40 (nI (apO x i n w s).length)) 37 (nI (apO x i n w s).length))) from md_c (by rw [va_up_id (W := (kS y T1 U1 (apO x i n w s).length).1) rfl]; exact (va_up_id (va_up_ne _ _ (by decide))).symm)) ?_
      refine ap_Dl hE (y := ((kS y T1 U1 (apO x i n w s).length).1, (va_up (va_up (va_up (va_up (kS y T1 U1 (apO x i n w s).length).2 38 (bI true)) 39 (nI (gSz (dG x 0) s))) 40 (nI (apO x i n w s).length)) 37 (nI (apO x i n w s).length)))) (m := gSz (dG x 0) s) (l := (apO x i n w s)) rfl (by omega) (by omega) hT1 (fun k hk => ?_) (apO x i n w s).length 0 ((kS y T1 U1 (apO x i n w s).length).1 32) C1 ((kS y T1 U1 (apO x i n w s).length).1 34) (by omega) (fun j hj => absurd hj (Nat.not_lt_zero _)) (fun p p1 p2 => by rw [hC1 p p1 p2]; rfl) (fun j => hR.1.1 32 j rfl) (fun O2 C2 B2 hOB hC2 hO2 => ?_)
      · rcases (hv _ (gD_m hk)).2 with h | ⟨p0, h1, h2, h3⟩
        · exact Or.inl h
        · exact Or.inr ⟨p0, h1, by omega, h3⟩
      refine v_aload_n dX10_apply_362 rfl (by rfl) ?_
      refine v_getf hE dX10_apply_363 fX10_359 mdS_M (by rfl) ?_
      refine v_eqi (y := nI (apO x i n w s).length) rfl ?_
      refine v_iret dX10_apply_366 rfl (by first | rfl | exact nar_bI) ?_
      have hA : pApp x (nI i) (nI n) (nI w) (nI s) = (some (nI (apT x i n w s).1), xT (xH x (apZ x i n w s)) (va_up (dT x) 1 (apT x i n w s))) := by
        unfold pApp
        rw [hi0]
        show (match ix (dZ x i).2.1.1 _ with | none => (none, x) | some n => _) = _
        rw [hn0]
        show (match ix 2 _ with | none => (none, x) | some w => _) = _
        rw [hw0]
        show (match ix (gCt (dG x 0)) _ with | none => (none, x) | some k => _) = _
        rw [hs0]
        exact if_pos hcl
      rw [hA]
      refine ⟨congrArg (fun x => (Sum.inl (some (Value.int x)) : aO)) (congrArg nI l2.symm), rfl, _, rfl, mRel_ap hR (fun k hk => ?_) (fun j j1 j2 => ?_) ?_ ⟨congrArg nI l2.symm, by omega, fun k hk => ?_⟩ ⟨true, gnSz (dG x 0) s, (apO x i n w s).length, rfl, congrArg nI hsz.symm, by omega, rfl, by omega, fun q => ?_, fun q => ?_⟩, ?_⟩
      · show va_up (va_up (va_up (va_up (va_up y.1 38 T1) 39 U1) 32 O2) 33 C2) 34 B2 k = _
        rw [va_up_ne _ _ (by omega), va_up_ne _ _ (by omega), va_up_ne _ _ (by omega), va_up_ne _ _ (by omega), va_up_ne _ _ (by omega)]
      · show va_up (va_up (va_up (va_up (va_up y.2 51 _) 38 _) 39 _) 40 _) 37 _ j = _
        rw [va_up_ne _ _ (by omega), va_up_ne _ _ (by omega), va_up_ne _ _ (by omega), va_up_ne _ _ (by omega), va_up_ne _ _ (by omega)]
      · exact aNw_1 (aNw_1 (aNw_1 (aNw_1 (aNw_1 hR.1 (fun _ => hT1.2) (fun q9 => absurd q9 (by decide))) (fun q9 => absurd q9 (by decide)) (fun q9 => absurd q9 (by decide))) (fun _ => hO2) (fun q9 => absurd q9 (by decide))) (fun q9 => absurd q9 (by decide)) (fun q9 => absurd q9 (by decide))) (fun q9 => absurd q9 (by decide)) (fun q9 => absurd q9 (by decide))
      · replace hk : k < (apO x i n w s).length := by rw [l2] at hk; exact hk
        rw [l3 k hk]
        show _ = O2 k &&& nI 255
        rw [(hOB k hk).1]
        obtain ⟨⟨c, c1, c2⟩, -⟩ := hv _ (gD_m hk)
        rw [c2, a255 c c1]
      · refine (ap_car hI hi hn hw hs hcl q).trans ?_
        by_cases c : mIn q (nI 1) (nI (gnSz (dG x 0) s)) = true
        · rw [if_pos c, if_pos ⟨rfl, c⟩]
          obtain ⟨m, m1, m2, m3⟩ := mIn_nat c (by decide) (by omega)
          rw [m3, nI_clamp (n := m) (by omega)]
          exact (hC2 m m1 (by omega)).symm
        · rw [if_neg c, if_neg (fun z => c z.2)]
      · refine (ap_bac hI hi hn hw hs hcl q).trans ?_
        by_cases c : mIn q (nI 1) (nI (apO x i n w s).length) = true
        · rw [if_pos c, if_pos ⟨rfl, c⟩]
          obtain ⟨m, m1, m2, m3⟩ := mIn_nat c (by decide) (by omega)
          rw [m3, nI_clamp (n := m) (by omega)]
          have h9 := (hOB (m - 1) (by omega)).2
          rw [show m - 1 + 1 = m by omega] at h9
          exact h9.symm
        · rw [if_neg c, if_neg (fun z => c z.2)]
      · exact hy0
    · exact absurd c192 (by omega)
  · obtain ⟨A, B, A1, B1, hne, cA, cB, ab1, ab2⟩ := ap_cla hI hi (Bool.eq_false_iff.mpr hcl)
    refine ap_K hE hR hI hi hn hw hs A1 B1 hne cA cB ab1 ab2 3000 0 1 (y.1 38) (y.1 39) [] (by omega) (by omega) hT00 (Nat.le_refl _) ?_ (fun u p T0 U0 m9 hu hp hT0 => ?_)
    · have hle : cntN (nxP (fun k => dW x ((dZ x i).1 k)) n w s 1) ((dZ x i).2.2 - 0) 0 0 ≤ (apC x i n w s).2 := by
        rw [hcn]
        refine cntN_mono (fun k hk => ?_) _ _ _ _ (Nat.le_refl _)
        unfold nxP at hk
        rw [Bool.and_eq_true] at hk
        exact hk.1
      refine ⟨by omega, fun z => absurd z (by have := (ap_pl hI hi A1).2.1; omega)⟩
    refine v_iload dX10_apply_181 (by rfl) ?_
    refine v_aload_n dX10_apply_183 rfl (by rfl) ?_
    refine v_iload_n dX10_apply_184 rfl (by rfl) ?_
    refine v_iload_n dX10_apply_185 rfl (by rfl) ?_
    refine v_iload_n dX10_apply_186 rfl (by rfl) ?_
    refine v_iload dX10_apply_187 (by rfl) ?_
    refine w_callV hE dX10_apply_189 kX10_372 mdS_M (by rfl) (by rfl) (sX10_calledMany hE (n := (dZ x i).2.2) (m := (dZ x i).2.1.1) (w := (fun k => dW x ((dZ x i).1 k))) (s := s) hT.1 hz8 (by omega) (fun k hk => hT.2.2.2 k hk) hwo hm3 hn hw) rfl (by decide) (by decide) (by exact Nat.le_of_ble_eq_true rfl) (by omega) (by omega) (fun v9 g9 u9 h9 => ?_) (fun _ _ _ h => by cases h.1)
    obtain ⟨hv9, hu9, hg9⟩ := h9
    replace hu9 := hu9.symm
    subst hu9
    subst hg9
    cases hv9
    refine v_eqi (y := nI (apC x i n w s).2) (congrArg nI hcn.symm) ?_
    refine v_icmp_geN (tgt := 197) dX10_apply_192 (by decide) (by omega) (by omega) (fun c192 => ?_) (fun c192 => ?_)
    · exact absurd c192 (by omega)
    · refine v_iconst (v := (-1)) dX10_apply_195 (by decide) ?_
      refine v_iret dX10_apply_196 rfl (by first | rfl | exact nar_bI) ?_
      have hA : pApp x (nI i) (nI n) (nI w) (nI s) = (some (-1), xH x (apH x i n w s)) := by
        unfold pApp
        rw [hi0]
        show (match ix (dZ x i).2.1.1 _ with | none => (none, x) | some n => _) = _
        rw [hn0]
        show (match ix 2 _ with | none => (none, x) | some w => _) = _
        rw [hw0]
        show (match ix (gCt (dG x 0)) _ with | none => (none, x) | some k => _) = _
        rw [hs0]
        exact if_neg hcl
      rw [hA]
      refine ⟨rfl, rfl, _, rfl, mRel_ac hR (fun k hk => ?_) (fun j j1 j2 => ?_) ?_, hy0⟩
      · show va_up (va_up y.1 38 T0) 39 U0 k = _
        rw [va_up_ne _ _ (by omega), va_up_ne _ _ (by omega)]
      · show va_up y.2 51 _ j = _
        rw [va_up_ne _ _ (by omega)]
      · exact aNw_1 (aNw_1 hR.1 (fun _ => hT0) (fun q9 => absurd q9 (by decide))) (fun q9 => absurd q9 (by decide)) (fun q9 => absurd q9 (by decide))

set_option maxRecDepth 100000 in
set_option maxHeartbeats 1000000 in
/-- model: apply -/
theorem sX10_apply {E : eN} (hE : eOk E) {f : aH} {t : Nat} {M D : Nat} {y : mV} {x : dV} {q r m p : Int32} (hR : mRel x y) (hI : dOk D x) : mT E mX10_apply 0 0 [.ref M, .int q, .int r, .int m, .int p] (mdS f M y) t (fun o f' t' => o = .inl (some (.int ((pApp x q r m p).1.getD (nI 0)))) ∧ t' = t ∧ mAns M f (pApp x q r m p) f') := by
  refine mT_of (n := 4) (lo := [some (.ref M), some (.int q), some (.int r), some (.int m), some (.int p), none, none, none, none]) (by decide) (by exact Nat.le_of_ble_eq_true rfl) rfl rfl ?_
  have hG := hR.2.2.1
  have hgo := hI.2.1 0 (by omega)
  have hgc := hgo.1.1
  have hg1 := hgo.2.1
  have hgt := hgo.2.2.1
  refine v_aload_n dX10_apply_0 rfl (by rfl) ?_
  refine v_iload_n dX10_apply_1 rfl (by rfl) ?_
  refine v_iconst (v := nI 0) dX10_apply_2 (by decide) ?_
  refine v_iconst (v := nI 1) dX10_apply_3 (by decide) ?_
  refine w_callS hE dX10_apply_4 kX10_136 (by rfl) (sX10_in hE) rfl (by decide) (by decide) (by exact Nat.le_of_ble_eq_true rfl) (by omega) (by omega) (fun v9 g9 u9 h9 => ?_) (fun _ _ _ h => by cases h.1)
  obtain ⟨hv9, hu9, hg9⟩ := h9
  replace hu9 := hu9.symm
  replace hg9 := hg9.symm
  subst hu9
  subst hg9
  cases hv9
  rw [in_ix1 (n := 1) (by omega)]
  refine v_if_eqB (tgt := 67) dX10_apply_7 (by decide) (fun c7 => ?_) (fun c7 => ?_)
  · refine v_iconst (v := bI false) dX10_apply_67 (by decide) ?_
    refine w_callV hE dX10_apply_68 kX10_143 mdS_M (by rfl) (by rfl) (sX10_goes hE) rfl (by decide) (by decide) (by exact Nat.le_of_ble_eq_true rfl) (by omega) (by omega) (fun v9 g9 u9 h9 => ?_) (fun _ _ _ h => by cases h.1)
    obtain ⟨hv9, hu9, hg9⟩ := h9
    replace hu9 := hu9.symm
    subst hu9
    subst hg9
    cases hv9
    refine v_if_neN (tgt := 76) dX10_apply_71 (by decide) (by omega) (fun c71 => ?_) (fun c71 => ?_)
    · exact absurd c71 (by decide)
    · refine v_iconst (v := nI 0) dX10_apply_74 (by decide) ?_
      refine v_iret dX10_apply_75 rfl (by first | rfl | exact nar_bI) ?_
      first
        | (have hA : pApp x q r m p = (none, x) := by
             unfold pApp
             split
             · rfl
             · rename_i i hi
               exfalso
               rw [show ix 2 q = some i from hi] at c7
               exact Bool.noConfusion c7
           rw [hA]
           exact ⟨rfl, rfl, _, rfl, mRel_0 hR, rfl⟩)
        | (have hA : pApp x (nI i) r m p = (none, x) := by
             unfold pApp
             rw [hi0]
             show (match ix (dZ x i).2.1.1 r with | none => (none, x) | some n => _) = _
             split
             · rfl
             · rename_i n hn
               show (match ix 2 m with | none => (none, x) | some w => _) = _
               split
               · rfl
               · rename_i w hw
                 show (match ix (gCt (dG x 0)) p with | none => (none, x) | some k => _) = _
                 split
                 · rfl
                 · rename_i k hk
                   exfalso
                   first
                     | (rw [show ix (dZ x i).2.1.1 r = some n from hn] at c36; exact Bool.noConfusion c36)
                     | (rw [show ix 2 m = some w from hw] at c45; exact Bool.noConfusion c45)
                     | (rw [show ix (gCt (dG x 0)) p = some k from hk] at c60; exact Bool.noConfusion c60)
           rw [hA]
           exact ⟨rfl, rfl, _, rfl, mRel_0 hR, rfl⟩)
  · refine v_iload_n dX10_apply_10 rfl (by rfl) ?_
    refine v_iconst (v := nI 0) dX10_apply_11 (by decide) ?_
    refine v_aload_n dX10_apply_12 rfl (by rfl) ?_
    refine v_getf hE dX10_apply_13 fX10_63 mdS_M (by rfl) ?_
    refine v_iload_n dX10_apply_16 rfl (by rfl) ?_
    refine v_iconst (v := nI 0) dX10_apply_17 (by decide) ?_
    refine v_iconst (v := nI 1) dX10_apply_18 (by decide) ?_
    refine w_callS hE dX10_apply_19 kX10_136 (by rfl) (sX10_in hE) rfl (by decide) (by decide) (by exact Nat.le_of_ble_eq_true rfl) (by omega) (by omega) (fun v9 g9 u9 h9 => ?_) (fun _ _ _ h => by cases h.1)
    obtain ⟨hv9, hu9, hg9⟩ := h9
    replace hu9 := hu9.symm
    replace hg9 := hg9.symm
    subst hu9
    subst hg9
    cases hv9
    rw [in_ix1 (n := 1) (by omega)]
    refine v_if_eqB (tgt := 29) dX10_apply_22 (by decide) (fun c22 => ?_) (fun c22 => ?_)
    · rw [c7] at c22
      exact Bool.noConfusion c22
    · obtain ⟨i, hi0⟩ := Option.isSome_iff_exists.mp c7
      obtain ⟨i2, i3⟩ := ix_r hi0 (by omega)
      subst i3
      have hT := hR.2.2.2.1 i i2
      have hzo := hI.2.2.1 i (by omega)
      have hm3 := hzo.1.1
      refine v_iload_n dX10_apply_25 rfl (by rfl) ?_
      refine v_goto (tgt := 30) dX10_apply_26 (by decide) ?_
      refine m_iald hE (k := 17) dX10_apply_30 (by decide) (by decide) rfl (show _ < 4 by omega) (by omega) ?_
      refine v_eqi (y := nI (dZ x i).2.1.1) hT.2.1 ?_
      refine v_iconst (v := nI 1) dX10_apply_31 (by decide) ?_
      refine v_isub dX10_apply_32 ?_
      refine w_callS hE dX10_apply_33 kX10_136 (by rfl) (sX10_in hE) rfl (by decide) (by decide) (by exact Nat.le_of_ble_eq_true rfl) (by omega) (by omega) (fun v9 g9 u9 h9 => ?_) (fun _ _ _ h => by cases h.1)
      obtain ⟨hv9, hu9, hg9⟩ := h9
      replace hu9 := hu9.symm
      replace hg9 := hg9.symm
      subst hu9
      subst hg9
      cases hv9
      rw [in_ix (n := (dZ x i).2.1.1) (by omega)]
      refine v_if_eqB (tgt := 67) dX10_apply_36 (by decide) (fun c36 => ?_) (fun c36 => ?_)
      · refine v_iconst (v := bI false) dX10_apply_67 (by decide) ?_
        refine w_callV hE dX10_apply_68 kX10_143 mdS_M (by rfl) (by rfl) (sX10_goes hE) rfl (by decide) (by decide) (by exact Nat.le_of_ble_eq_true rfl) (by omega) (by omega) (fun v9 g9 u9 h9 => ?_) (fun _ _ _ h => by cases h.1)
        obtain ⟨hv9, hu9, hg9⟩ := h9
        replace hu9 := hu9.symm
        subst hu9
        subst hg9
        cases hv9
        refine v_if_neN (tgt := 76) dX10_apply_71 (by decide) (by omega) (fun c71 => ?_) (fun c71 => ?_)
        · exact absurd c71 (by decide)
        · refine v_iconst (v := nI 0) dX10_apply_74 (by decide) ?_
          refine v_iret dX10_apply_75 rfl (by first | rfl | exact nar_bI) ?_
          first
            | (have hA : pApp x q r m p = (none, x) := by
                 unfold pApp
                 split
                 · rfl
                 · rename_i i hi
                   exfalso
                   rw [show ix 2 q = some i from hi] at c7
                   exact Bool.noConfusion c7
               rw [hA]
               exact ⟨rfl, rfl, _, rfl, mRel_0 hR, rfl⟩)
            | (have hA : pApp x (nI i) r m p = (none, x) := by
                 unfold pApp
                 rw [hi0]
                 show (match ix (dZ x i).2.1.1 r with | none => (none, x) | some n => _) = _
                 split
                 · rfl
                 · rename_i n hn
                   show (match ix 2 m with | none => (none, x) | some w => _) = _
                   split
                   · rfl
                   · rename_i w hw
                     show (match ix (gCt (dG x 0)) p with | none => (none, x) | some k => _) = _
                     split
                     · rfl
                     · rename_i k hk
                       exfalso
                       first
                         | (rw [show ix (dZ x i).2.1.1 r = some n from hn] at c36; exact Bool.noConfusion c36)
                         | (rw [show ix 2 m = some w from hw] at c45; exact Bool.noConfusion c45)
                         | (rw [show ix (gCt (dG x 0)) p = some k from hk] at c60; exact Bool.noConfusion c60)
               rw [hA]
               exact ⟨rfl, rfl, _, rfl, mRel_0 hR, rfl⟩)
      · refine v_iload_n dX10_apply_39 rfl (by rfl) ?_
        refine v_iconst (v := nI 0) dX10_apply_40 (by decide) ?_
        refine v_iconst (v := nI 1) dX10_apply_41 (by decide) ?_
        refine w_callS hE dX10_apply_42 kX10_136 (by rfl) (sX10_in hE) rfl (by decide) (by decide) (by exact Nat.le_of_ble_eq_true rfl) (by omega) (by omega) (fun v9 g9 u9 h9 => ?_) (fun _ _ _ h => by cases h.1)
        obtain ⟨hv9, hu9, hg9⟩ := h9
        replace hu9 := hu9.symm
        replace hg9 := hg9.symm
        subst hu9
        subst hg9
        cases hv9
        rw [in_ix1 (n := 1) (by omega)]
        refine v_if_eqB (tgt := 67) dX10_apply_45 (by decide) (fun c45 => ?_) (fun c45 => ?_)
        · refine v_iconst (v := bI false) dX10_apply_67 (by decide) ?_
          refine w_callV hE dX10_apply_68 kX10_143 mdS_M (by rfl) (by rfl) (sX10_goes hE) rfl (by decide) (by decide) (by exact Nat.le_of_ble_eq_true rfl) (by omega) (by omega) (fun v9 g9 u9 h9 => ?_) (fun _ _ _ h => by cases h.1)
          obtain ⟨hv9, hu9, hg9⟩ := h9
          replace hu9 := hu9.symm
          subst hu9
          subst hg9
          cases hv9
          refine v_if_neN (tgt := 76) dX10_apply_71 (by decide) (by omega) (fun c71 => ?_) (fun c71 => ?_)
          · exact absurd c71 (by decide)
          · refine v_iconst (v := nI 0) dX10_apply_74 (by decide) ?_
            refine v_iret dX10_apply_75 rfl (by first | rfl | exact nar_bI) ?_
            first
              | (have hA : pApp x q r m p = (none, x) := by
                   unfold pApp
                   split
                   · rfl
                   · rename_i i hi
                     exfalso
                     rw [show ix 2 q = some i from hi] at c7
                     exact Bool.noConfusion c7
                 rw [hA]
                 exact ⟨rfl, rfl, _, rfl, mRel_0 hR, rfl⟩)
              | (have hA : pApp x (nI i) r m p = (none, x) := by
                   unfold pApp
                   rw [hi0]
                   show (match ix (dZ x i).2.1.1 r with | none => (none, x) | some n => _) = _
                   split
                   · rfl
                   · rename_i n hn
                     show (match ix 2 m with | none => (none, x) | some w => _) = _
                     split
                     · rfl
                     · rename_i w hw
                       show (match ix (gCt (dG x 0)) p with | none => (none, x) | some k => _) = _
                       split
                       · rfl
                       · rename_i k hk
                         exfalso
                         first
                           | (rw [show ix (dZ x i).2.1.1 r = some n from hn] at c36; exact Bool.noConfusion c36)
                           | (rw [show ix 2 m = some w from hw] at c45; exact Bool.noConfusion c45)
                           | (rw [show ix (gCt (dG x 0)) p = some k from hk] at c60; exact Bool.noConfusion c60)
                 rw [hA]
                 exact ⟨rfl, rfl, _, rfl, mRel_0 hR, rfl⟩)
        · refine v_iload dX10_apply_48 (by rfl) ?_
          refine v_iconst (v := nI 0) dX10_apply_50 (by decide) ?_
          refine v_aload_n dX10_apply_51 rfl (by rfl) ?_
          refine v_getf hE dX10_apply_52 fX10_183 mdS_M (by rfl) ?_
          refine v_eqi (y := nI (gCt (dG x 0))) hG.1 ?_
          refine v_iconst (v := nI 1) dX10_apply_55 (by decide) ?_
          refine v_isub dX10_apply_56 ?_
          refine w_callS hE dX10_apply_57 kX10_136 (by rfl) (sX10_in hE) rfl (by decide) (by decide) (by exact Nat.le_of_ble_eq_true rfl) (by omega) (by omega) (fun v9 g9 u9 h9 => ?_) (fun _ _ _ h => by cases h.1)
          obtain ⟨hv9, hu9, hg9⟩ := h9
          replace hu9 := hu9.symm
          replace hg9 := hg9.symm
          subst hu9
          subst hg9
          cases hv9
          rw [in_ix (n := gCt (dG x 0)) (by omega)]
          refine v_if_eqB (tgt := 67) dX10_apply_60 (by decide) (fun c60 => ?_) (fun c60 => ?_)
          · refine v_iconst (v := bI false) dX10_apply_67 (by decide) ?_
            refine w_callV hE dX10_apply_68 kX10_143 mdS_M (by rfl) (by rfl) (sX10_goes hE) rfl (by decide) (by decide) (by exact Nat.le_of_ble_eq_true rfl) (by omega) (by omega) (fun v9 g9 u9 h9 => ?_) (fun _ _ _ h => by cases h.1)
            obtain ⟨hv9, hu9, hg9⟩ := h9
            replace hu9 := hu9.symm
            subst hu9
            subst hg9
            cases hv9
            refine v_if_neN (tgt := 76) dX10_apply_71 (by decide) (by omega) (fun c71 => ?_) (fun c71 => ?_)
            · exact absurd c71 (by decide)
            · refine v_iconst (v := nI 0) dX10_apply_74 (by decide) ?_
              refine v_iret dX10_apply_75 rfl (by first | rfl | exact nar_bI) ?_
              first
                | (have hA : pApp x q r m p = (none, x) := by
                     unfold pApp
                     split
                     · rfl
                     · rename_i i hi
                       exfalso
                       rw [show ix 2 q = some i from hi] at c7
                       exact Bool.noConfusion c7
                   rw [hA]
                   exact ⟨rfl, rfl, _, rfl, mRel_0 hR, rfl⟩)
                | (have hA : pApp x (nI i) r m p = (none, x) := by
                     unfold pApp
                     rw [hi0]
                     show (match ix (dZ x i).2.1.1 r with | none => (none, x) | some n => _) = _
                     split
                     · rfl
                     · rename_i n hn
                       show (match ix 2 m with | none => (none, x) | some w => _) = _
                       split
                       · rfl
                       · rename_i w hw
                         show (match ix (gCt (dG x 0)) p with | none => (none, x) | some k => _) = _
                         split
                         · rfl
                         · rename_i k hk
                           exfalso
                           first
                             | (rw [show ix (dZ x i).2.1.1 r = some n from hn] at c36; exact Bool.noConfusion c36)
                             | (rw [show ix 2 m = some w from hw] at c45; exact Bool.noConfusion c45)
                             | (rw [show ix (gCt (dG x 0)) p = some k from hk] at c60; exact Bool.noConfusion c60)
                   rw [hA]
                   exact ⟨rfl, rfl, _, rfl, mRel_0 hR, rfl⟩)
          · refine v_iconst (v := bI true) dX10_apply_63 (by decide) ?_
            refine v_goto (tgt := 68) dX10_apply_64 (by decide) ?_
            refine w_callV hE dX10_apply_68 kX10_143 mdS_M (by rfl) (by rfl) (sX10_goes hE) rfl (by decide) (by decide) (by exact Nat.le_of_ble_eq_true rfl) (by omega) (by omega) (fun v9 g9 u9 h9 => ?_) (fun _ _ _ h => by cases h.1)
            obtain ⟨hv9, hu9, hg9⟩ := h9
            replace hu9 := hu9.symm
            subst hu9
            subst hg9
            cases hv9
            refine v_if_neN (tgt := 76) dX10_apply_71 (by decide) (by omega) (fun c71 => ?_) (fun c71 => ?_)
            · obtain ⟨n, hn0⟩ := Option.isSome_iff_exists.mp c36
              obtain ⟨n2, n3⟩ := ix_r hn0 (by omega)
              subst n3
              obtain ⟨w, hw0⟩ := Option.isSome_iff_exists.mp c45
              obtain ⟨w2, w3⟩ := ix_r hw0 (by omega)
              subst w3
              obtain ⟨s, hs0⟩ := Option.isSome_iff_exists.mp c60
              obtain ⟨s2, s3⟩ := ix_r hs0 (by omega)
              subst s3
              have hz8 := hzo.2
              have hwo : ∀ k, k < (dZ x i).2.2 → enOk (dW x ((dZ x i).1 k)) := fun k hk => hI.2.2.2.1 _ (dre_X hI (show i < 3 by omega) k (by omega))
              refine v_aload_n dX10_apply_76 rfl (by rfl) ?_
              refine v_iconst (v := nI 0) dX10_apply_77 (by decide) ?_
              refine m_put hE (j := 51) dX10_apply_78 fX10_359 (by exact Nat.le_of_ble_eq_true rfl) (by rfl) (by rfl) (by rfl) (by rfl) ?_
              refine v_iconst (v := nI 1) dX10_apply_81 (by decide) ?_
              refine v_istore dX10_apply_82 (by decide) ?_
              refine v_iconst (v := nI 0) dX10_apply_84 (by decide) ?_
              refine v_istore dX10_apply_85 (by decide) ?_
              refine v_aload_n dX10_apply_87 rfl (by rfl) ?_
              refine v_iload_n dX10_apply_88 rfl (by rfl) ?_
              refine v_iload_n dX10_apply_89 rfl (by rfl) ?_
              refine v_iload_n dX10_apply_90 rfl (by rfl) ?_
              refine v_iload dX10_apply_91 (by rfl) ?_
              refine v_iload dX10_apply_93 (by rfl) ?_
              refine w_callV hE dX10_apply_95 kX10_365 mdS_M (by rfl) (by rfl) (sX10_nextCalled hE (n := (dZ x i).2.2) (m := (dZ x i).2.1.1) (w := (fun k => dW x ((dZ x i).1 k))) (s := s) (l := 1) hT.1 hz8 (by omega) (fun k hk => hT.2.2.2 k hk) hwo hm3 n2 w2) rfl (by decide) (by decide) (by exact Nat.le_of_ble_eq_true rfl) (by omega) (by omega) (fun v9 g9 u9 h9 => ?_) (fun _ _ _ h => by cases h.1)
              obtain ⟨hv9, hu9, hg9⟩ := h9
              replace hu9 := hu9.symm
              subst hu9
              subst hg9
              cases hv9
              refine v_istore dX10_apply_98 (by decide) ?_
              refine v_hp (show _ = (mdS f M (kS (y.1, va_up y.2 0 (bI (!true))) ((y.1, va_up y.2 0 (bI (!true))).1 38) ((y.1, va_up y.2 0 (bI (!true))).1 39) ([] : List (Int32 × Int32)).length)) from md_c (show y.1 = va_up (va_up y.1 38 (y.1 38)) 39 (y.1 39) by rw [va_up_id (rfl : y.1 38 = y.1 38), va_up_id (rfl : y.1 39 = y.1 39)])) ?_
              exact ap_100 hE (y := (y.1, va_up y.2 0 (bI (!true)))) (mRel_0 hR) hI hi0 hn0 hw0 hs0 i2 n2 w2 s2 rfl
            · exact absurd c71 (by decide)
