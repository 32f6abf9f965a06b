/-! merge -/
def va9 (q : Nat → Nat → Int32) (a : Int32) : Nat → Nat → Int32 := va_up (va_up (va_up q 17 (upd (q 17) 0 a)) 16 (upd ((va_up q 17 (upd (q 17) 0 a)) 16) 1 (nI 0))) 17 (upd ((va_up (va_up q 17 (upd (q 17) 0 a)) 16 (upd ((va_up q 17 (upd (q 17) 0 a)) 16) 1 (nI 0))) 17) 1 (nI 0))
theorem va9_f {q : Nat → Nat → Int32} {a : Int32} : (∀ k, k ≠ 16 → k ≠ 17 → va9 q a k = q k) ∧ va9 q a 16 0 = q 16 0 ∧ va9 q a 17 0 = a ∧ va9 q a 16 1 = nI 0 ∧ va9 q a 17 1 = nI 0 := by
  unfold va9
  refine ⟨fun k k1 k2 => ?_, ?_, ?_, ?_, ?_⟩
  · rw [va_up_ne _ _ k2, va_up_ne _ _ k1, va_up_ne _ _ k2]
  · rw [va_up_ne _ _ (show 16 ≠ 17 by decide), va_up_self, updN (by decide), va_up_ne _ _ (show 16 ≠ 17 by decide)]
  · rw [va_up_self, updN (by decide), va_up_ne _ _ (show 17 ≠ 16 by decide), va_up_self, updS]
  · rw [va_up_ne _ _ (show 16 ≠ 17 by decide), va_up_self, updS]
  · rw [va_up_self, updS]
/-- the model behind the two sortings -/
def mgY (x : dV) (y Y : mV) : Prop := Y.1 16 = upd (upd (y.1 16) 2 (nI (dZ x 0).2.2)) 3 (nI (dZ x 1).2.2) ∧ (∀ k, k < 16 ∨ (17 ≤ k ∧ k < 20) ∨ 31 < k → Y.1 k = y.1 k) ∧ Y.2 = va_up y.2 0 (nI 0) ∧ aNw Y.1 ∧ (∀ i k, i < 2 → k < (dZ x i).2.2 → mE Y (60 * i + k) (dW x ((dZ x i).1 k)) (dZ x i).2.1.1) ∧ (∀ i, i < (dZ x 0).2.2 → mE Y (120 + (rk (fun i => dW x ((dZ x 0).1 i)) (dZ x 0).2.2 i)) (dW x ((dZ x 0).1 i)) (dZ x 0).2.1.1) ∧ ∀ j, j < (dZ x 1).2.2 → mE Y (180 + (rk (fun j => dW x ((dZ x 1).1 j)) (dZ x 1).2.2 j)) (dW x ((dZ x 1).1 j)) (dZ x 1).2.1.1
theorem mg_Y {D : Nat} {x : dV} {y z1 z2 : mV} (hI : dOk D x) (hR : mRel x y) (f1 : mFr (tB 2) (y.1, va_up y.2 0 (nI 0)) z1) (e1 : ∀ j, j < (dZ x 0).2.2 → mE z1 (60 * 2 + (rk (fun i => dW x ((dZ x 0).1 i)) (dZ x 0).2.2 j)) (dW x ((dZ x 0).1 j)) (dZ x 0).2.1.1) (f2 : mFr (tB 3) (va_up z1.1 16 (upd (y.1 16) 2 (nI (dZ x 0).2.2)), z1.2) z2) (e2 : ∀ j, j < (dZ x 1).2.2 → mE z2 (60 * 3 + (rk (fun j => dW x ((dZ x 1).1 j)) (dZ x 1).2.2 j)) (dW x ((dZ x 1).1 j)) (dZ x 1).2.1.1) : mgY x y (va_up z2.1 16 (upd ((va_up z1.1 16 (upd (y.1 16) 2 (nI (dZ x 0).2.2))) 16) 3 (nI (dZ x 1).2.2)), z2.2) := by
  have s0 := hI.2.2.1 0 (by omega)
  have s1 := hI.2.2.1 1 (by omega)
  have o0 : ∀ i, i < (dZ x 0).2.2 → enOk (dW x ((dZ x 0).1 i)) := fun i hi => hI.2.2.2.1 _ (dre_X hI (show 0 < 3 by omega) i (by have := s0.2; omega))
  refine ⟨?_, fun k hk => ?_, ?_, aNw_i f2.2.2.1 rfl, fun i k hi hk => ?_, fun i hi => ?_, fun j hj => ?_⟩
  · have e9 : (va_up z1.1 16 (upd (y.1 16) 2 (nI (dZ x 0).2.2))) 16 = upd (y.1 16) 2 (nI (dZ x 0).2.2) := va_up_self _ _ _
    rw [e9]
    show va_up z2.1 16 (upd (upd (y.1 16) 2 (nI (dZ x 0).2.2)) 3 (nI (dZ x 1).2.2)) 16 = _
    exact va_up_self _ _ _
  · show va_up z2.1 16 _ k = _
    rw [va_up_ne _ _ (by omega), f2.2.1 k (by omega)]
    show va_up z1.1 16 _ k = _
    rw [va_up_ne _ _ (by omega), f1.2.1 k (by omega)]
  · show z2.2 = _
    rw [f2.1]
    exact f1.1
  · have si := hI.2.2.1 i (by omega)
    have s60 := si.2
    have so := hI.2.2.2.1 _ (dre_X hI (show i < 3 by omega) k (by omega))
    have h1 : mE z1 (60 * i + k) (dW x ((dZ x i).1 k)) (dZ x i).2.1.1 := f1.2.2.2 _ _ _ (fun z => by have := z.1; have := z.2; omega) ((hR.2.2.2.1 i hi).2.2.2 k hk) so si.1.1
    exact f2.2.2.2 _ _ _ (fun z => by have := z.1; have := z.2; omega) h1 so si.1.1
  · have hr := rk_lt (w := (fun i => dW x ((dZ x 0).1 i))) hi
    have s60 := s0.2
    have h9 : mE z2 (60 * 2 + (rk (fun i => dW x ((dZ x 0).1 i)) (dZ x 0).2.2 i)) (dW x ((dZ x 0).1 i)) (dZ x 0).2.1.1 := f2.2.2.2 _ _ _ (fun z => by have := z.1; have := z.2; omega) (e1 i hi) (o0 i hi) s0.1.1
    exact h9
  · exact e2 j hj
set_option maxRecDepth 100000 in
set_option maxHeartbeats 4000000 in
/-- merge behind the sortings -/
theorem mg_87 {E : eN} (hE : eOk E) {f : aH} {t M : Nat} {y Y : mV} {x : dV} {D : Nat} (hR : mRel x y) (hI : dOk D x) (hcan : shCan (dZ x 0) (dZ x 1) = true) (hY : mgY x y Y) : V E mX10_merge 0 0 (fun o f' t' => o = .inl (some (.int ((pMer x).1.getD (nI 0)))) ∧ t' = t ∧ mAns M f (pMer x) f') 87 [some (.ref M), some (.int (nI (dZ x 0).2.1.1)), none, none, none, none] [] (mdS f M Y) t 0 0 := by
  obtain ⟨y16, yk, y2, yN, yr, ya, yb⟩ := id hY
  have s0 := hI.2.2.1 0 (by omega)
  have s1 := hI.2.2.1 1 (by omega)
  have h3 := sc_le hcan
  have y162 : Y.1 16 2 = nI (dZ x 0).2.2 := by rw [y16, updN (by decide), updS]
  have y163 : Y.1 16 3 = nI (dZ x 1).2.2 := by rw [y16, updS]
  have y170 : Y.1 17 0 = nI (dZ x 0).2.1.1 := (congrFun (yk 17 (by omega)) 0).trans (hR.2.2.2.1 0 (by omega)).2.1
  have y171 : Y.1 17 1 = nI (dZ x 1).2.1.1 := (congrFun (yk 17 (by omega)) 1).trans (hR.2.2.2.1 1 (by omega)).2.1
  obtain ⟨u, hu⟩ := rk_inv (fun i => dW x ((dZ x 0).1 i)) (dZ x 0).2.2
  obtain ⟨v, hv⟩ := rk_inv (fun j => dW x ((dZ x 1).1 j)) (dZ x 1).2.2
  have yu : ∀ a, a < (dZ x 0).2.2 → mE Y (120 + a) (u a) (dZ x 0).2.1.1 := fun a ha => by
    obtain ⟨i, i1, i2⟩ := rk_sur (fun i => dW x ((dZ x 0).1 i)) (dZ x 0).2.2 a ha
    subst i2
    rw [hu i i1]
    exact ya i i1
  have yv : ∀ b, b < (dZ x 1).2.2 → mE Y (180 + b) (v b) (dZ x 1).2.1.1 := fun b hb => by
    obtain ⟨j, j1, j2⟩ := rk_sur (fun j => dW x ((dZ x 1).1 j)) (dZ x 1).2.2 b hb
    subst j2
    rw [hv j j1]
    exact yb j j1
  have uo : ∀ a, a < (dZ x 0).2.2 → enOk (u a) := fun a ha => by
    obtain ⟨i, i1, i2⟩ := rk_sur (fun i => dW x ((dZ x 0).1 i)) (dZ x 0).2.2 a ha
    subst i2
    rw [hu i i1]
    exact hI.2.2.2.1 _ (dre_X hI (show 0 < 3 by omega) i (by have := s0.2; omega))
  have vo : ∀ b, b < (dZ x 1).2.2 → enOk (v b) := fun b hb => by
    obtain ⟨j, j1, j2⟩ := rk_sur (fun j => dW x ((dZ x 1).1 j)) (dZ x 1).2.2 b hb
    subst j2
    rw [hv j j1]
    exact hI.2.2.2.1 _ (dre_X hI (show 1 < 3 by omega) j (by have := s1.2; omega))
  refine v_iconst (v := nI 0) dX10_merge_87 (by decide) ?_
  refine v_istore_n dX10_merge_88 rfl (by decide) ?_
  refine v_iconst (v := nI 0) dX10_merge_89 (by decide) ?_
  refine v_istore_n dX10_merge_90 rfl (by decide) ?_
  refine v_hp (show _ = mdS f M (va_up Y.1 36 (Y.1 36), Y.2) from md_c (va_up_id rfl).symm) ?_
  refine mg_P0 hE (y := Y) y162 s0.2 (dZ x 0).2.2 0 _ (by omega) (fun j hj => absurd hj (Nat.not_lt_zero _)) (fun A0 hA0 => ?_)
  refine v_iconst (v := nI 0) dX10_merge_114 (by decide) ?_
  refine v_istore_n dX10_merge_115 rfl (by decide) ?_
  refine v_hp (show _ = (mdS f M (va_up (va_up Y.1 36 A0) 37 (Y.1 37), Y.2)) from md_c (va_up_id (va_up_ne _ _ (by decide))).symm) ?_
  refine mg_O hE (Y := Y) (u := u) (v := v) y162 y163 s0.2 s1.2 yu uo yv vo (dZ x 1).2.2 0 0 A0 (Y.1 37) (fun _ _ => False) (by omega) (gS_0 hA0) rfl (fun c A B P' hG hc => ?_)
  obtain ⟨-, ec⟩ := mg_cn hI hu hv hG
  rw [← hc] at ec
  have hcc := (mg_c1 hI).2.2.2
  have s02 := s0.2
  have s12 := s1.2
  refine v_aload_n dX10_merge_210 rfl (by rfl) ?_
  refine v_getf hE dX10_merge_211 fX10_60 mdS_M (by rfl) ?_
  refine v_iconst (v := nI 2) dX10_merge_214 (by decide) ?_
  refine m_iald hE (k := 16) dX10_merge_215 (by decide) (by decide) rfl (show _ < 4 by omega) (by omega) ?_
  refine v_eqi (y := nI (dZ x 0).2.2) y162 ?_
  refine v_aload_n dX10_merge_216 rfl (by rfl) ?_
  refine v_getf hE dX10_merge_217 fX10_60 mdS_M (by rfl) ?_
  refine v_iconst (v := nI 3) dX10_merge_220 (by decide) ?_
  refine m_iald hE (k := 16) dX10_merge_221 (by decide) (by decide) rfl (show _ < 4 by omega) (by omega) ?_
  refine v_eqi (y := nI (dZ x 1).2.2) y163 ?_
  refine v_iaddN dX10_merge_222 ?_
  refine v_iload_n dX10_merge_223 rfl (by rfl) ?_
  refine v_isubN dX10_merge_224 (by omega) ?_
  refine v_bipush (v := nI 60) dX10_merge_225 (by decide) ?_
  refine v_icmp_leN (tgt := 232) dX10_merge_227 (by decide) (by omega) (by omega) (fun c227 => ?_) (fun c227 => ?_)
  · have hz : (dZ x 0).2.2 + cntN (fun j => decide (ePr ((prW (dW x) (dZ x 0) (dZ x 1)).1 ((dZ x 1).1 j)) = -1)) (dZ x 1).2.2 0 0 ≤ 60 := by omega
    refine v_iconst (v := nI 0) dX10_merge_232 (by decide) ?_
    refine v_istore_n dX10_merge_233 rfl (by decide) ?_
    refine v_iconst (v := nI 0) dX10_merge_234 (by decide) ?_
    refine v_istore_n dX10_merge_235 rfl (by decide) ?_
    refine v_iconst (v := nI 0) dX10_merge_236 (by decide) ?_
    refine v_istore dX10_merge_237 (by decide) ?_
    obtain ⟨Y3, eY3⟩ : ∃ Y3 : mV, Y3 = (va_up (va_up Y.1 36 A) 37 B, Y.2) := ⟨_, rfl⟩
    refine v_hp (show _ = mdS f M Y3 from congrArg (mdS f M) eY3.symm) ?_
    have h36 : Y3.1 36 = A := by rw [eY3]; show va_up (va_up Y.1 36 A) 37 B 36 = A; rw [va_up_ne _ _ (by decide), va_up_self]
    have h37 : Y3.1 37 = B := by rw [eY3]; show va_up (va_up Y.1 36 A) 37 B 37 = B; exact va_up_self _ _ _
    have h3k : ∀ k, k ≠ 36 → k ≠ 37 → Y3.1 k = Y.1 k := fun k k1 k2 => by rw [eY3]; exact (va_up_ne _ _ k2).trans (va_up_ne _ _ k1)
    have h32 : Y3.2 = Y.2 := by rw [eY3]
    have hN3 : aNw Y3.1 := by rw [eY3]; exact aNw_i (aNw_i yN rfl) rfl
    clear eY3
    subst h36
    subst h37
    obtain ⟨eCn, -⟩ := mg_cn hI hu hv hG
    have e170 : Y3.1 17 0 = nI (dZ x 0).2.1.1 := (congrFun (h3k 17 (by decide) (by decide)) 0).trans y170
    have e171 : Y3.1 17 1 = nI (dZ x 1).2.1.1 := (congrFun (h3k 17 (by decide) (by decide)) 1).trans y171
    refine mg_M hE (Y := Y3) (m0 := (dZ x 0).2.1.1) (m1 := (dZ x 1).2.1.1) (u := u) (v := v) ((congrFun (h3k 16 (by decide) (by decide)) 2).trans y162) ((congrFun (h3k 16 (by decide) (by decide)) 3).trans y163) e170 e171 h3 s0.2 s1.2 (fun a ha => mE_kk (yu a ha) (fun k k1 k2 => h3k k (by omega) (by omega))) uo (fun b hb => mE_kk (yv b hb) (fun k k1 k2 => h3k k (by omega) (by omega))) vo (rk_srt (rk_sur _ _) hu) (rk_srt (rk_sur _ _) hv) (fun a ha => ?_) (by rw [eCn]; exact hz) ((dZ x 0).2.2 + (dZ x 1).2.2) 0 0 0 Y3 (by omega) ⟨mFr_0 hN3, mgI_0, rfl, fun a ha => absurd ha (Nat.not_lt_zero _), fun b hb => absurd hb (Nat.not_lt_zero _)⟩ (fun z hZ => ?_)
    · rcases hG.2.1 a ha with ⟨q1, -⟩ | ⟨b, q1, q2, -⟩
      · exact Or.inl q1
      · exact Or.inr ⟨b, q1, q2⟩
    rw [eCn] at hZ ⊢
    refine v_aload_n dX10_merge_506 rfl (by rfl) ?_
    refine v_getf hE dX10_merge_507 fX10_60 mdS_M (by rfl) ?_
    refine v_iconst (v := nI 0) dX10_merge_510 (by decide) ?_
    refine v_iload_n dX10_merge_511 rfl (by rfl) ?_
    refine m_iast hE (k := 16) dX10_merge_512 (by decide) (by decide) rfl (show _ < 4 by omega) (by omega) ?_
    refine v_iconst (v := nI 0) dX10_merge_513 (by decide) ?_
    refine v_istore dX10_merge_514 (by decide) ?_
    have z170 : (va_up z.1 16 (upd (z.1 16) 0 (nI ((dZ x 0).2.2 + cntN (fun j => decide (ePr ((prW (dW x) (dZ x 0) (dZ x 1)).1 ((dZ x 1).1 j)) = -1)) (dZ x 1).2.2 0 0))), z.2).1 17 0 = nI (dZ x 0).2.1.1 := (congrFun (hZ.1.2.1 17 (by omega)) 0).trans e170
    have z171 : (va_up z.1 16 (upd (z.1 16) 0 (nI ((dZ x 0).2.2 + cntN (fun j => decide (ePr ((prW (dW x) (dZ x 0) (dZ x 1)).1 ((dZ x 1).1 j)) = -1)) (dZ x 1).2.2 0 0))), z.2).1 17 1 = nI (dZ x 1).2.1.1 := (congrFun (hZ.1.2.1 17 (by omega)) 1).trans e171
    refine mg_Sl hE (y := (va_up z.1 16 (upd (z.1 16) 0 (nI ((dZ x 0).2.2 + cntN (fun j => decide (ePr ((prW (dW x) (dZ x 0) (dZ x 1)).1 ((dZ x 1).1 j)) = -1)) (dZ x 1).2.2 0 0))), z.2)) (m0 := (dZ x 0).2.1.1) (m1 := (dZ x 1).2.1.1) h3 z170 z171 (dZ x 1).2.1.1 0 _ (by omega) ⟨fun _ _ _ => rfl, rfl, aNw_i hZ.1.2.2.1 rfl, fun _ _ => rfl, fun _ _ => rfl, fun p hp => absurd hp (Nat.not_lt_zero _)⟩ (fun q hq => ?_)
    have q170 : q.1 17 0 = nI (dZ x 0).2.1.1 := (congrFun (hq.1 17 (by decide) (by decide)) 0).trans z170
    have q171 : q.1 17 1 = nI (dZ x 1).2.1.1 := (congrFun (hq.1 17 (by decide) (by decide)) 1).trans z171
    refine v_aload_n dX10_merge_550 rfl (by rfl) ?_
    refine v_getf hE dX10_merge_551 fX10_63 mdS_M (by rfl) ?_
    refine v_iconst (v := nI 0) dX10_merge_554 (by decide) ?_
    refine v_aload_n dX10_merge_555 rfl (by rfl) ?_
    refine v_getf hE dX10_merge_556 fX10_63 mdS_M (by rfl) ?_
    refine v_iconst (v := nI 0) dX10_merge_559 (by decide) ?_
    refine m_iald hE (k := 17) dX10_merge_560 (by decide) (by decide) rfl (show _ < 4 by omega) (by omega) ?_
    refine v_eqi (y := nI (dZ x 0).2.1.1) q170 ?_
    refine v_aload_n dX10_merge_561 rfl (by rfl) ?_
    refine v_getf hE dX10_merge_562 fX10_63 mdS_M (by rfl) ?_
    refine v_iconst (v := nI 1) dX10_merge_565 (by decide) ?_
    refine m_iald hE (k := 17) dX10_merge_566 (by decide) (by decide) rfl (show _ < 4 by omega) (by omega) ?_
    refine v_eqi (y := nI (dZ x 1).2.1.1) q171 ?_
    refine v_iaddN dX10_merge_567 ?_
    refine m_iast hE (k := 17) dX10_merge_568 (by decide) (by decide) rfl (show _ < 4 by omega) (by omega) ?_
    refine v_aload_n dX10_merge_569 rfl (by rfl) ?_
    refine v_getf hE dX10_merge_570 fX10_60 mdS_M (by rfl) ?_
    refine v_iconst (v := nI 1) dX10_merge_573 (by decide) ?_
    refine v_iconst (v := nI 0) dX10_merge_574 (by decide) ?_
    refine m_iast hE (k := 16) dX10_merge_575 (by decide) (by decide) rfl (show _ < 4 by omega) (by omega) ?_
    refine v_aload_n dX10_merge_576 rfl (by rfl) ?_
    refine v_getf hE dX10_merge_577 fX10_63 mdS_M (by rfl) ?_
    refine v_iconst (v := nI 1) dX10_merge_580 (by decide) ?_
    refine v_iconst (v := nI 0) dX10_merge_581 (by decide) ?_
    refine m_iast hE (k := 17) dX10_merge_582 (by decide) (by decide) rfl (show _ < 4 by omega) (by omega) ?_
    refine v_iload_n dX10_merge_583 rfl (by rfl) ?_
    refine v_iret dX10_merge_584 rfl (by first | rfl | exact nar_bI) ?_
    have hPM : pMer x = (some (nI (prW (dW x) (dZ x 0) (dZ x 1)).2), mgX4 x) := by
      unfold pMer
      rw [if_pos hcan, if_pos ((mg_le hI).mpr hz)]
    rw [hPM]
    refine ⟨congrArg (fun x => (Sum.inl (some (Value.int x)) : aO)) (congrArg nI ec), rfl, _, rfl, mg_end hI hR h3 hz (z := z) (q := q) (fun k hk => ?_) (fun j j1 j2 => ?_) (mg_fin hI h3 hz hu hv hG hZ) hq (fun k k1 k2 => ?_) rfl ?_ ?_ ?_ ?_ ?_, ?_⟩
    · rw [hZ.1.2.1 k (by omega), h3k k (by omega) (by omega)]
      exact yk k (by omega)
    · rw [hZ.1.1, h32, y2]
      exact va_up_ne _ _ (by omega)
    · exact (va9_f (q := q.1) (a := nI ((dZ x 0).2.1.1 + (dZ x 1).2.1.1))).1 k k1 k2
    · refine ((va9_f (q := q.1) (a := nI ((dZ x 0).2.1.1 + (dZ x 1).2.1.1))).2.1).trans ?_
      rw [hq.1 16 (by decide) (by decide)]
      show va_up z.1 16 (upd (z.1 16) 0 (nI ((dZ x 0).2.2 + cntN (fun j => decide (ePr ((prW (dW x) (dZ x 0) (dZ x 1)).1 ((dZ x 1).1 j)) = -1)) (dZ x 1).2.2 0 0))) 16 0 = _
      rw [show va_up z.1 16 (upd (z.1 16) 0 (nI ((dZ x 0).2.2 + cntN (fun j => decide (ePr ((prW (dW x) (dZ x 0) (dZ x 1)).1 ((dZ x 1).1 j)) = -1)) (dZ x 1).2.2 0 0))) 16 = upd (z.1 16) 0 (nI ((dZ x 0).2.2 + cntN (fun j => decide (ePr ((prW (dW x) (dZ x 0) (dZ x 1)).1 ((dZ x 1).1 j)) = -1)) (dZ x 1).2.2 0 0)) from va_up_self _ _ _, updS]
    · exact (va9_f (q := q.1) (a := nI ((dZ x 0).2.1.1 + (dZ x 1).2.1.1))).2.2.1
    · exact (va9_f (q := q.1) (a := nI ((dZ x 0).2.1.1 + (dZ x 1).2.1.1))).2.2.2.1
    · exact (va9_f (q := q.1) (a := nI ((dZ x 0).2.1.1 + (dZ x 1).2.1.1))).2.2.2.2
    · exact aNw_i (aNw_i (aNw_i hq.2.2.1 rfl) rfl) rfl
    · show q.2 0 = _
      rw [hq.2.1]
      show z.2 0 = _
      rw [hZ.1.1, h32, y2]
      exact va_up_self _ _ _
  · refine v_iconst (v := (-1)) dX10_merge_230 (by decide) ?_
    refine v_iret dX10_merge_231 rfl (by first | rfl | exact nar_bI) ?_
    have hz : ¬ (dZ x 0).2.2 + cntN (fun j => decide (ePr ((prW (dW x) (dZ x 0) (dZ x 1)).1 ((dZ x 1).1 j)) = -1)) (dZ x 1).2.2 0 0 ≤ 60 := by omega
    have hPM : pMer x = (some (-1), xW x (prW (dW x) (dZ x 0) (dZ x 1)).1) := by
      unfold pMer
      rw [if_pos hcan, if_neg (fun q => hz ((mg_le hI).mp q))]
    rw [hPM]
    refine ⟨rfl, rfl, _, rfl, mRel_pr hI hR (fun k hk => ?_) (fun j j1 j2 => ?_) (aNw_i (aNw_i yN rfl) rfl) (fun i hi => ?_) (fun i k hi hk => yr i k hi hk), ?_⟩
    · show va_up (va_up Y.1 36 A) 37 B k = _
      rw [va_up_ne _ _ (by omega), va_up_ne _ _ (by omega)]
      exact yk k (by omega)
    · show Y.2 j = _
      rw [y2]
      exact va_up_ne _ _ (by omega)
    · show va_up (va_up Y.1 36 A) 37 B 16 i = _
      rw [va_up_ne _ _ (by decide), va_up_ne _ _ (by decide), y16, updN (by omega), updN (by omega)]
    · show Y.2 0 = _
      rw [y2]
      exact va_up_self _ _ _

set_option maxRecDepth 100000 in
set_option maxHeartbeats 4000000 in
/-- model: merge -/
theorem sX10_merge {E : eN} (hE : eOk E) {f : aH} {t : Nat} {M D : Nat} {y : mV} {x : dV} (hR : mRel x y) (hI : dOk D x) : mT E mX10_merge 0 0 [.ref M] (mdS f M y) t (fun o f' t' => o = .inl (some (.int ((pMer x).1.getD (nI 0)))) ∧ t' = t ∧ mAns M f (pMer x) f') := by
  refine mT_of (n := 5) (lo := [some (.ref M), none, none, none, none, none]) (by decide) (by exact Nat.le_of_ble_eq_true rfl) rfl rfl ?_
  have hT0 := hR.2.2.2.1 0 (by omega)
  have hT1 := hR.2.2.2.1 1 (by omega)
  have s0 := hI.2.2.1 0 (by omega)
  have s1 := hI.2.2.1 1 (by omega)
  have k0 := s0.1.1
  have k1 := s1.1.1
  have n60 := s0.2
  have m60 := s1.2
  have o0 : ∀ i, i < (dZ x 0).2.2 → enOk (dW x ((dZ x 0).1 i)) := fun i hi => hI.2.2.2.1 _ (dre_X hI (show 0 < 3 by omega) i (by omega))
  have o1 : ∀ j, j < (dZ x 1).2.2 → enOk (dW x ((dZ x 1).1 j)) := fun j hj => hI.2.2.2.1 _ (dre_X hI (show 1 < 3 by omega) j (by omega))
  refine v_aload_n dX10_merge_0 rfl (by rfl) ?_
  refine v_iconst (v := nI 0) dX10_merge_1 (by decide) ?_
  refine m_put hE (j := 0) dX10_merge_2 fX10_133 (by exact Nat.le_of_ble_eq_true rfl) (by rfl) (by rfl) (by rfl) (by rfl) ?_
  refine v_aload_n dX10_merge_5 rfl (by rfl) ?_
  refine v_getf hE dX10_merge_6 fX10_63 mdS_M (by rfl) ?_
  refine v_iconst (v := nI 0) dX10_merge_9 (by decide) ?_
  refine m_iald hE (k := 17) dX10_merge_10 (by decide) (by decide) rfl (show _ < 4 by omega) (by omega) ?_
  refine v_eqi (y := nI (dZ x 0).2.1.1) hT0.2.1 ?_
  refine v_aload_n dX10_merge_11 rfl (by rfl) ?_
  refine v_getf hE dX10_merge_12 fX10_63 mdS_M (by rfl) ?_
  refine v_iconst (v := nI 1) dX10_merge_15 (by decide) ?_
  refine m_iald hE (k := 17) dX10_merge_16 (by decide) (by decide) rfl (show _ < 4 by omega) (by omega) ?_
  refine v_eqi (y := nI (dZ x 1).2.1.1) hT1.2.1 ?_
  refine v_iaddN dX10_merge_17 ?_
  refine v_iconst (v := nI 3) dX10_merge_18 (by decide) ?_
  refine v_icmp_leN (tgt := 24) dX10_merge_19 (by decide) (by omega) (by omega) (fun c19 => ?_) (fun c19 => ?_)
  · refine v_iconst (v := nI 0) dX10_merge_24 (by decide) ?_
    refine v_istore_n dX10_merge_25 rfl (by decide) ?_
    refine mg_N hE (y := (y.1, va_up y.2 0 (nI 0))) hT0 hT1 s0 s1 (dZ x 0).2.1.1 0 (by omega) (fun i j hi => absurd hi (Nat.not_lt_zero _)) (fun hx => ?_) (fun hno => ?_)
    · obtain ⟨i, j, i1, j1, hs⟩ := hx
      have hPM : pMer x = (some (-1), x) := by
        unfold pMer
        rw [if_neg (by rw [sc_f s0.1.1 i1 j1 hs]; decide)]
      rw [hPM]
      exact ⟨rfl, rfl, _, rfl, mRel_0 hR, rfl⟩
    refine v_aload_n dX10_merge_73 rfl (by rfl) ?_
    refine v_iconst (v := nI 2) dX10_merge_74 (by decide) ?_
    refine v_iconst (v := nI 0) dX10_merge_75 (by decide) ?_
    refine w_callV hE dX10_merge_76 kX10_350 mdS_M (by rfl) (by rfl) (sX10_sortInto hE (y := (y.1, va_up y.2 0 (nI 0))) (i := 0) (a := 2) (w := (fun i => dW x ((dZ x 0).1 i))) (m := (dZ x 0).2.1.1) hR.1 hT0.1 s0.2 (by omega) (fun k hk => hT0.2.2.2 k hk) o0 (by omega) (by omega) (by omega)) rfl (by decide) (by decide) (by exact Nat.le_of_ble_eq_true rfl) (by omega) (by omega) (fun v9 g9 u9 h9 => ?_) (fun _ _ _ h => by cases h.1)
    obtain ⟨hv9, hu9, z1, hg9, f2, e2⟩ := h9
    replace hu9 := hu9.symm
    subst hu9
    subst hg9
    cases hv9
    refine v_pop dX10_merge_79 rfl ?_
    refine v_aload_n dX10_merge_80 rfl (by rfl) ?_
    refine v_iconst (v := nI 3) dX10_merge_81 (by decide) ?_
    refine v_iconst (v := nI 1) dX10_merge_82 (by decide) ?_
    refine w_callV hE dX10_merge_83 kX10_350 mdS_M (by rfl) (by rfl) (sX10_sortInto hE (y := (va_up z1.1 16 (upd (y.1 16) 2 (nI (dZ x 0).2.2)), z1.2)) (i := 1) (a := 3) (w := (fun j => dW x ((dZ x 1).1 j))) (m := (dZ x 1).2.1.1) (aNw_i f2.2.2.1 rfl) (by show va_up z1.1 16 (upd (y.1 16) 2 (nI (dZ x 0).2.2)) 16 1 = _; rw [show va_up z1.1 16 (upd (y.1 16) 2 (nI (dZ x 0).2.2)) 16 = upd (y.1 16) 2 (nI (dZ x 0).2.2) from va_up_self _ _ _, updN (by decide)]; exact hT1.1) s1.2 (by omega) (fun k hk => f2.2.2.2 _ _ _ (fun z => by have := z.1; have := z.2; omega) (hT1.2.2.2 k hk) (o1 k hk) (by omega)) o1 (by omega) (by omega) (by omega)) rfl (by decide) (by decide) (by exact Nat.le_of_ble_eq_true rfl) (by omega) (by omega) (fun v9 g9 u9 h9 => ?_) (fun _ _ _ h => by cases h.1)
    obtain ⟨hv9, hu9, z2, hg9, f3, e3⟩ := h9
    replace hu9 := hu9.symm
    subst hu9
    subst hg9
    cases hv9
    refine v_pop dX10_merge_86 rfl ?_
    have hcan := sc_t c19 hno
    exact mg_87 hE hR hI hcan (mg_Y hI hR f2 e2 f3 e3)
  · refine v_iconst (v := (-1)) dX10_merge_22 (by decide) ?_
    refine v_iret dX10_merge_23 rfl (by first | rfl | exact nar_bI) ?_
    have hPM : pMer x = (some (-1), x) := by
      unfold pMer
      rw [if_neg (by rw [sc_3 (show ¬ (dZ x 0).2.1.1 + (dZ x 1).2.1.1 ≤ 3 by omega)]; decide)]
    rw [hPM]
    exact ⟨rfl, rfl, _, rfl, mRel_0 hR, rfl⟩
