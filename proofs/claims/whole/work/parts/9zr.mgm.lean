/-! merge: the merging -/
theorem mg_R1 {z : mV} {nn m0 m1 : Nat} {w0 w1 : eV} (h0 : mE z nn w0 m0) (h1 : ∀ p, p < m1 → mSm z nn (m0 + p) w1 p) (hw0 : enOk w0) (hw1 : enOk w1) : mE z nn (mgB m0 m1 w0 w1) (m0 + m1) := by
  obtain ⟨a1, a2, a3⟩ := mgB_f (k := m0) (m := m1) (w := w0) (u := w1)
  obtain ⟨b1, b2⟩ := mE_i.mp h0
  refine mE_i.mpr ⟨mE_b a1 b1, fun s hs => ?_⟩
  by_cases c : s < m0
  · exact mSm_e (b2 s c) (a2 s c) (hw0.2.2.1 s)
  · have h := mSm_e (h1 (s - m0) (by omega)) (a3 (s - m0) (by omega)) (hw1.2.2.1 _)
    rw [show m0 + (s - m0) = s by omega] at h
    exact h
theorem mg_R2 {z : mV} {nn m0 m1 : Nat} {w0 : eV} (h0 : mE z nn w0 m0) (h1 : ∀ p, p < m1 → mNo z nn (m0 + p)) (hw0 : enOk w0) : mE z nn (mgA m0 m1 w0) (m0 + m1) := by
  obtain ⟨a1, a2, a3⟩ := mgA_f (k := m0) (m := m1) (w := w0)
  obtain ⟨b1, b2⟩ := mE_i.mp h0
  refine mE_i.mpr ⟨mE_b a1 b1, fun s hs => ?_⟩
  by_cases c : s < m0
  · exact mSm_e (b2 s c) (a2 s c) (hw0.2.2.1 s)
  · have h := mNo_e (h1 (s - m0) (by omega)) (a3 (s - m0) (by omega))
    rw [show m0 + (s - m0) = s by omega] at h
    exact h
theorem mg_R3 {z : mV} {nn m0 m1 : Nat} {w1 : eV} (h0 : mE z nn w1 0) (h1 : ∀ p, p < m1 → mSm z nn (m0 + p) w1 p) (h2 : ∀ p, p < m0 → mNo z nn p) (hw1 : enOk w1) : mE z nn (mgC m0 m1 w1) (m0 + m1) := by
  obtain ⟨a1, a2, a3⟩ := mgC_f (k := m0) (m := m1) (u := w1)
  refine mE_i.mpr ⟨mE_b a1 h0, fun s hs => ?_⟩
  by_cases c : s < m0
  · exact mNo_e (h2 s c) (a2 s c)
  · have h := mSm_e (h1 (s - m0) (by omega)) (a3 (s - m0) (by omega)) (hw1.2.2.1 _)
    rw [show m0 + (s - m0) = s by omega] at h
    exact h
/-- what has been made when record a of the one and record b of the other sorted table is looked at -/
def mgZ (Y : mV) (n m m0 m1 : Nat) (u v : Nat → eV) (A B : Nat → Int32) (a b nn : Nat) (z : mV) : Prop :=
  mFr (fun r => r < 60) Y z ∧ mgI n m u v (fun b => decide (B b = -1)) a b ∧ nn = a + cntN (fun b => decide (B b = -1)) b 0 0 ∧ (∀ a', a' < a → poA m u v (fun b => decide (B b = -1)) a' < nn ∧ ((A a' = -1 ∧ mE z (poA m u v (fun b => decide (B b = -1)) a') (mgA m0 m1 (u a')) (m0 + m1)) ∨ ∃ b', b' < m ∧ A a' = nI b' ∧ mE z (poA m u v (fun b => decide (B b = -1)) a') (mgB m0 m1 (u a') (v b')) (m0 + m1))) ∧ ∀ b', b' < b → B b' = -1 → poB n u v (fun b => decide (B b = -1)) b' < nn ∧ mE z (poB n u v (fun b => decide (B b = -1)) b') (mgC m0 m1 (v b')) (m0 + m1)
theorem mg_ok {m0 m1 : Nat} {w w1 : eV} (h : enOk w) (h1 : enOk w1) : enOk (mgA m0 m1 w) ∧ enOk (mgB m0 m1 w w1) ∧ enOk (mgC m0 m1 w) := ⟨eNoCs_ok _ _ _ h, eMvC_ok h1 _ _ (eNoCs_ok _ _ _ h), eNoCs_ok _ _ _ (eMvS_ok _ _ h)⟩
/-- the records made before stay -/
theorem mgZ_k {Y z z2 : mV} {n m m0 m1 a b nn : Nat} {u v : Nat → eV} {A B : Nat → Int32} (h : mgZ Y n m m0 m1 u v A B a b nn z) (hf : mFr (fun r => r = nn) z z2) (h3 : m0 + m1 ≤ 3) (huo : ∀ a, a < n → enOk (u a)) (hvo : ∀ b, b < m → enOk (v b)) (hnn : nn < 60) : mFr (fun r => r < 60) Y z2 ∧ (∀ a', a' < a → poA m u v (fun b => decide (B b = -1)) a' < nn + 1 ∧ ((A a' = -1 ∧ mE z2 (poA m u v (fun b => decide (B b = -1)) a') (mgA m0 m1 (u a')) (m0 + m1)) ∨ ∃ b', b' < m ∧ A a' = nI b' ∧ mE z2 (poA m u v (fun b => decide (B b = -1)) a') (mgB m0 m1 (u a') (v b')) (m0 + m1))) ∧ ∀ b', b' < b → B b' = -1 → poB n u v (fun b => decide (B b = -1)) b' < nn + 1 ∧ mE z2 (poB n u v (fun b => decide (B b = -1)) b') (mgC m0 m1 (v b')) (m0 + m1) := by
  obtain ⟨h1, h2, h4, h5, h6⟩ := h
  have ha := h2.1
  have hb := h2.2.1
  refine ⟨mFr_t h1 (mFr_w hf (fun r hr => by omega)), fun a' ha' => ?_, fun b' hb' hB => ?_⟩
  · obtain ⟨q1, q2⟩ := h5 a' ha'
    refine ⟨by omega, ?_⟩
    rcases q2 with ⟨q2, q3⟩ | ⟨b', q2, q3, q4⟩
    · exact Or.inl ⟨q2, hf.2.2.2 _ _ _ (fun e => by omega) q3 (mg_ok (huo a' (by omega)) (huo a' (by omega))).1 h3⟩
    · exact Or.inr ⟨b', q2, q3, hf.2.2.2 _ _ _ (fun e => by omega) q4 (mg_ok (huo a' (by omega)) (hvo b' q2)).2.1 h3⟩
  · obtain ⟨q1, q2⟩ := h6 b' hb' hB
    exact ⟨by omega, hf.2.2.2 _ _ _ (fun e => by omega) q2 (mg_ok (hvo b' (by omega)) (hvo b' (by omega))).2.2 h3⟩
theorem mgZ_A {Y z z2 : mV} {n m m0 m1 a b nn : Nat} {u v : Nat → eV} {A B : Nat → Int32} (h : mgZ Y n m m0 m1 u v A B a b nn z) (hf : mFr (fun r => r = nn) z z2) (h3 : m0 + m1 ≤ 3) (huo : ∀ a, a < n → enOk (u a)) (hvo : ∀ b, b < m → enOk (v b)) (hnn : nn < 60) (hsv : srt v m) (ha : a < n) (hb : b < m → eBeh (u a) (v b) = false) (hr : (A a = -1 ∧ mE z2 nn (mgA m0 m1 (u a)) (m0 + m1)) ∨ ∃ b', b' < m ∧ A a = nI b' ∧ mE z2 nn (mgB m0 m1 (u a) (v b')) (m0 + m1)) : mgZ Y n m m0 m1 u v A B (a + 1) b (nn + 1) z2 := by
  obtain ⟨k1, k2, k3⟩ := mgZ_k h hf h3 huo hvo hnn
  obtain ⟨h1, h2, h4, h5, h6⟩ := h
  obtain ⟨p1, p2⟩ := mgI_A h2 hsv ha hb
  refine ⟨k1, p2, by omega, fun a' ha' => ?_, k3⟩
  by_cases e : a' = a
  · rw [e, p1, ← h4]
    exact ⟨by omega, hr⟩
  · exact k2 a' (by omega)
theorem mgZ_B {Y z z2 : mV} {n m m0 m1 a b nn : Nat} {u v : Nat → eV} {A B : Nat → Int32} (h : mgZ Y n m m0 m1 u v A B a b nn z) (hf : mFr (fun r => r = nn) z z2) (h3 : m0 + m1 ≤ 3) (huo : ∀ a, a < n → enOk (u a)) (hvo : ∀ b, b < m → enOk (v b)) (hnn : nn < 60) (hsu : srt u n) (hb : b < m) (hB : B b = -1) (ha : a < n → eBeh (u a) (v b) = true) (hr : mE z2 nn (mgC m0 m1 (v b)) (m0 + m1)) : mgZ Y n m m0 m1 u v A B a (b + 1) (nn + 1) z2 := by
  obtain ⟨k1, k2, k3⟩ := mgZ_k h hf h3 huo hvo hnn
  obtain ⟨h1, h2, h4, h5, h6⟩ := h
  obtain ⟨p1, p2⟩ := mgI_B h2 hsu hb (decide_eq_true hB) ha
  have hs := cnt_s (p := fun b => decide (B b = -1)) (n := b)
  rw [if_pos (decide_eq_true hB)] at hs
  refine ⟨k1, p2, by omega, k2, fun b' hb' hB' => ?_⟩
  by_cases e : b' = b
  · rw [e, p1, ← h4]
    exact ⟨by omega, hr⟩
  · exact k3 b' (by omega) hB'
theorem mgZ_S {Y z : mV} {n m m0 m1 a b nn : Nat} {u v : Nat → eV} {A B : Nat → Int32} (h : mgZ Y n m m0 m1 u v A B a b nn z) (hb : b < m) (hB : ¬ B b = -1) : mgZ Y n m m0 m1 u v A B a (b + 1) nn z := by
  obtain ⟨h1, h2, h4, h5, h6⟩ := h
  obtain ⟨p1, p2⟩ := mgI_S h2 hb (decide_eq_false hB)
  refine ⟨h1, p2, by omega, h5, fun b' hb' hB' => ?_⟩
  by_cases e : b' = b
  · rw [e] at hB'
    exact absurd hB' hB
  · exact h6 b' (by omega) hB'
theorem mgZ_n {Y z : mV} {n m m0 m1 a b nn : Nat} {u v : Nat → eV} {A B : Nat → Int32} (h : mgZ Y n m m0 m1 u v A B a b nn z) (hz : n + cntN (fun b => decide (B b = -1)) m 0 0 ≤ 60) (hc : a < n ∨ (b < m ∧ B b = -1)) : nn < 60 := by
  obtain ⟨h1, h2, h4, h5, h6⟩ := h
  have ha := h2.1
  have hb := h2.2.1
  have q := cnt_q (p := fun b => decide (B b = -1)) hb
  rcases hc with c | ⟨c1, c2⟩
  · omega
  · have := cnt_r (p := fun b => decide (B b = -1)) c1 (decide_eq_true c2)
    omega
set_option maxRecDepth 100000 in
set_option maxHeartbeats 4000000 in
/-- the merging -/
theorem mg_M {E : eN} (hE : eOk E) {f : aH} {t M : Nat} {Q : aP} {Y : mV} {n m m0 m1 c : Nat} {u v : Nat → eV} (h162 : Y.1 16 2 = nI n) (h163 : Y.1 16 3 = nI m) (h170 : Y.1 17 0 = nI m0) (h171 : Y.1 17 1 = nI m1) (h3 : m0 + m1 ≤ 3) (hn : n ≤ 60) (hm : m ≤ 60) (hu : ∀ a, a < n → mE Y (120 + a) (u a) m0) (huo : ∀ a, a < n → enOk (u a)) (hv : ∀ b, b < m → mE Y (180 + b) (v b) m1) (hvo : ∀ b, b < m → enOk (v b)) (hsu : srt u n) (hsv : srt v m) (hA : ∀ a, a < n → (Y.1 36 a = -1 ∨ ∃ b, b < m ∧ Y.1 36 a = nI b)) (hz60 : n + cntN (fun b => decide (Y.1 37 b = -1)) m 0 0 ≤ 60) : ∀ (d a b nn : Nat) (z : mV), a + b + d = n + m → mgZ Y n m m0 m1 u v (Y.1 36) (Y.1 37) a b nn z → (∀ z, mgZ Y n m m0 m1 u v (Y.1 36) (Y.1 37) n m (n + cntN (fun b => decide (Y.1 37 b = -1)) m 0 0) z → V E mX10_merge 0 0 Q 506 [some (.ref M), some (.int (nI c)), some (.int (nI (n + cntN (fun b => decide (Y.1 37 b = -1)) m 0 0))), some (.int (nI n)), some (.int (nI m)), none] [] (mdS f M z) t 0 0) → V E mX10_merge 0 0 Q 239 [some (.ref M), some (.int (nI c)), some (.int (nI nn)), some (.int (nI a)), some (.int (nI b)), none] [] (mdS f M z) t 0 0 := by
  intro d
  induction d using Nat.strongRecOn with
  | _ d ih =>
  intro a b nn z hd hz hk
  have ha := hz.2.1.1
  have hb := hz.2.1.2.1
  have hen := hz.2.2.1
  have hcl := cnt_le (p := fun b => decide (Y.1 37 b = -1)) (n := b)
  refine v_iload_n dX10_merge_239 rfl (by rfl) ?_
  refine v_aload_n dX10_merge_240 rfl (by rfl) ?_
  refine v_getf hE dX10_merge_241 fX10_60 mdS_M (by rfl) ?_
  refine v_iconst (v := nI 2) dX10_merge_244 (by decide) ?_
  refine m_iald hE (k := 16) dX10_merge_245 (by decide) (by decide) rfl (show _ < 4 by omega) (by omega) ?_
  refine v_eqi (y := nI n) ((congrFun (hz.1.2.1 16 (by omega)) 2).trans h162) ?_
  refine v_icmp_ltN (tgt := 260) dX10_merge_246 (by decide) (by omega) (by omega) (fun c246 => ?_) (fun c246 => ?_)
  · refine v_iload dX10_merge_260 (by rfl) ?_
    refine v_aload_n dX10_merge_262 rfl (by rfl) ?_
    refine v_getf hE dX10_merge_263 fX10_60 mdS_M (by rfl) ?_
    refine v_iconst (v := nI 3) dX10_merge_266 (by decide) ?_
    refine m_iald hE (k := 16) dX10_merge_267 (by decide) (by decide) rfl (show _ < 4 by omega) (by omega) ?_
    refine v_eqi (y := nI m) ((congrFun (hz.1.2.1 16 (by omega)) 3).trans h163) ?_
    refine v_icmp_geN (tgt := 288) dX10_merge_268 (by decide) (by omega) (by omega) (fun c268 => ?_) (fun c268 => ?_)
    · have hbm : b = m := by omega
      refine v_iload_n dX10_merge_288 rfl (by rfl) ?_
      refine v_aload_n dX10_merge_289 rfl (by rfl) ?_
      refine v_getf hE dX10_merge_290 fX10_60 mdS_M (by rfl) ?_
      refine v_iconst (v := nI 2) dX10_merge_293 (by decide) ?_
      refine m_iald hE (k := 16) dX10_merge_294 (by decide) (by decide) rfl (show _ < 4 by omega) (by omega) ?_
      refine v_eqi (y := nI n) ((congrFun (hz.1.2.1 16 (by omega)) 2).trans h162) ?_
      refine v_icmp_geN (tgt := 417) dX10_merge_295 (by decide) (by omega) (by omega) (fun c295 => ?_) (fun c295 => ?_)
      · exact absurd c295 (by omega)
      · refine v_iload dX10_merge_298 (by rfl) ?_
        refine v_aload_n dX10_merge_300 rfl (by rfl) ?_
        refine v_getf hE dX10_merge_301 fX10_60 mdS_M (by rfl) ?_
        refine v_iconst (v := nI 3) dX10_merge_304 (by decide) ?_
        refine m_iald hE (k := 16) dX10_merge_305 (by decide) (by decide) rfl (show _ < 4 by omega) (by omega) ?_
        refine v_eqi (y := nI m) ((congrFun (hz.1.2.1 16 (by omega)) 3).trans h163) ?_
        refine v_icmp_eqN (tgt := 326) dX10_merge_306 (by decide) (by omega) (by omega) (fun c306 => ?_) (fun c306 => ?_)
        · have hbeh : b < m → eBeh (u a) (v b) = false := fun q => absurd q (by omega)
          have hnn : nn < 60 := mgZ_n hz hz60 (Or.inl (by omega))
          have hua : mE z (120 + a) (u a) m0 := hz.1.2.2.2 _ _ _ (by omega) (hu a (by omega)) (huo a (by omega)) (by omega)
          refine v_aload_n dX10_merge_326 rfl (by rfl) ?_
          refine v_iload_n dX10_merge_327 rfl (by rfl) ?_
          refine v_bipush (v := nI 120) dX10_merge_328 (by decide) ?_
          refine v_iload_n dX10_merge_330 rfl (by rfl) ?_
          refine v_iaddN dX10_merge_331 ?_
          refine w_callV hE dX10_merge_332 kX10_197 mdS_M (by rfl) (by rfl) (sX10_copy hE hz.1.2.2.1 (by omega) (by omega) (by omega)) rfl (by decide) (by decide) (by exact Nat.le_of_ble_eq_true rfl) (by omega) (by omega) (fun v9 g9 u9 h9 => ?_) (fun _ _ _ h => by cases h.1)
          obtain ⟨hv9, hu9, hg9⟩ := h9
          replace hu9 := hu9.symm
          subst hu9
          subst hg9
          cases hv9
          refine v_iconst (v := nI 0) dX10_merge_335 (by decide) ?_
          refine v_istore dX10_merge_336 (by decide) ?_
          have f0 : mFr (fun r => r = nn) z (mCopy z nn (120 + a)) := mFr_c (mFr_0 hz.1.2.2.1) rfl
          have e0 : mE (mCopy z nn (120 + a)) nn (u a) m0 := mCopy_a hua (huo a (by omega)) (by omega)
          have z170 : z.1 17 0 = nI m0 := (congrFun (hz.1.2.1 17 (by omega)) 0).trans h170
          have z171 : z.1 17 1 = nI m1 := (congrFun (hz.1.2.1 17 (by omega)) 1).trans h171
          have z36 : z.1 36 = Y.1 36 := hz.1.2.1 36 (by omega)
          rcases hA a (by omega) with hA1 | ⟨b2, hb2, hA2⟩
          · refine mg_Ln hE hnn (show a < 60 by omega) h3 z170 z171 ((congrFun z36 a).trans hA1) (huo a (by omega)) m1 0 _ (by omega) f0 e0 (fun p hp => absurd hp (Nat.not_lt_zero _)) (fun z2 f2 e2 s2 => ?_)
            refine v_iincN (y := 1) dX10_merge_408 (by rfl) (by decide) (by decide) ?_
            refine v_iincN (y := 1) dX10_merge_411 (by rfl) (by decide) (by decide) ?_
            refine v_goto (tgt := 239) dX10_merge_414 (by decide) ?_
            exact mg_few5 (ih (d - 1) (by omega) (a + 1) b (nn + 1) z2 (by omega) (mgZ_A hz f2 h3 huo hvo hnn hsv (show a < n by omega) hbeh (Or.inl ⟨hA1, mg_R2 e2 s2 (huo a (by omega))⟩)) hk)
          · refine mg_Lp hE hnn (show a < 60 by omega) (show b2 < 60 by omega) h3 z170 z171 ((congrFun z36 a).trans hA2) (huo a (by omega)) (hz.1.2.2.2 _ _ _ (by omega) (hv b2 hb2) (hvo b2 hb2) (by omega)) (hvo b2 hb2) m1 0 _ (by omega) f0 e0 (fun p hp => absurd hp (Nat.not_lt_zero _)) (fun z2 f2 e2 s2 => ?_)
            refine v_iincN (y := 1) dX10_merge_408 (by rfl) (by decide) (by decide) ?_
            refine v_iincN (y := 1) dX10_merge_411 (by rfl) (by decide) (by decide) ?_
            refine v_goto (tgt := 239) dX10_merge_414 (by decide) ?_
            exact mg_few5 (ih (d - 1) (by omega) (a + 1) b (nn + 1) z2 (by omega) (mgZ_A hz f2 h3 huo hvo hnn hsv (show a < n by omega) hbeh (Or.inr ⟨b2, hb2, hA2, mg_R1 e2 s2 (huo a (by omega)) (hvo b2 hb2)⟩)) hk)
        · exact absurd (by omega) c306
    · refine v_aload_n dX10_merge_271 rfl (by rfl) ?_
      refine v_getf hE dX10_merge_272 fX10_124 mdS_M (by rfl) ?_
      refine v_iload dX10_merge_275 (by rfl) ?_
      refine m_iald hE (k := 37) dX10_merge_277 (by decide) (by decide) rfl (show _ < 60 by omega) (by omega) ?_
      refine v_eqi (y := Y.1 37 b) (congrFun (hz.1.2.1 37 (by omega)) b) ?_
      refine v_iconst (v := (-1)) dX10_merge_278 (by decide) ?_
      refine v_icmp_eq (tgt := 288) dX10_merge_279 (by decide) (fun c279 => ?_) (fun c279 => ?_)
      · have hBb : Y.1 37 b = -1 := c279
        refine v_iload_n dX10_merge_288 rfl (by rfl) ?_
        refine v_aload_n dX10_merge_289 rfl (by rfl) ?_
        refine v_getf hE dX10_merge_290 fX10_60 mdS_M (by rfl) ?_
        refine v_iconst (v := nI 2) dX10_merge_293 (by decide) ?_
        refine m_iald hE (k := 16) dX10_merge_294 (by decide) (by decide) rfl (show _ < 4 by omega) (by omega) ?_
        refine v_eqi (y := nI n) ((congrFun (hz.1.2.1 16 (by omega)) 2).trans h162) ?_
        refine v_icmp_geN (tgt := 417) dX10_merge_295 (by decide) (by omega) (by omega) (fun c295 => ?_) (fun c295 => ?_)
        · have hbeh : a < n → eBeh (u a) (v b) = true := fun q => absurd q (by omega)
          have hnn : nn < 60 := mgZ_n hz hz60 (Or.inr ⟨by omega, hBb⟩)
          have hvb : mE z (180 + b) (v b) m1 := hz.1.2.2.2 _ _ _ (by omega) (hv b (by omega)) (hvo b (by omega)) (by omega)
          have z170 : z.1 17 0 = nI m0 := (congrFun (hz.1.2.1 17 (by omega)) 0).trans h170
          have z171 : z.1 17 1 = nI m1 := (congrFun (hz.1.2.1 17 (by omega)) 1).trans h171
          refine v_aload_n dX10_merge_417 rfl (by rfl) ?_
          refine v_iload_n dX10_merge_418 rfl (by rfl) ?_
          refine v_sipush (v := nI 180) dX10_merge_419 (by decide) ?_
          refine v_iload dX10_merge_422 (by rfl) ?_
          refine v_iaddN dX10_merge_424 ?_
          refine w_callV hE dX10_merge_425 kX10_197 mdS_M (by rfl) (by rfl) (sX10_copy hE hz.1.2.2.1 (by omega) (by omega) (by omega)) rfl (by decide) (by decide) (by exact Nat.le_of_ble_eq_true rfl) (by omega) (by omega) (fun v9 g9 u9 h9 => ?_) (fun _ _ _ h => by cases h.1)
          obtain ⟨hv9, hu9, hg9⟩ := h9
          replace hu9 := hu9.symm
          subst hu9
          subst hg9
          cases hv9
          refine v_iconst (v := nI 0) dX10_merge_428 (by decide) ?_
          refine v_istore dX10_merge_429 (by decide) ?_
          have f0 : mFr (fun r => r = nn) z (mCopy z nn (180 + b)) := mFr_c (mFr_0 hz.1.2.2.1) rfl
          have e0 : mE (mCopy z nn (180 + b)) nn (v b) 0 := (mE_i.mp (mCopy_a hvb (hvo b (by omega)) (by omega))).1
          refine mg_B1 hE hnn (show b < 60 by omega) h3 z170 z171 hvb (hvo b (by omega)) m1 0 _ (by omega) f0 e0 (fun p hp => absurd hp (Nat.not_lt_zero _)) (fun z2 f2 e2 s2 => ?_)
          refine v_iconst (v := nI 0) dX10_merge_470 (by decide) ?_
          refine v_istore dX10_merge_471 (by decide) ?_
          refine mg_B2 hE hnn h3 z170 (hvo b (by omega)) (m0 := m0) (m1 := m1) (b := b) m0 0 z2 (by omega) f2 e2 s2 (fun p hp => absurd hp (Nat.not_lt_zero _)) (fun z4 f4 e4 s4 n4 => ?_)
          refine v_iincN (y := 1) dX10_merge_497 (by rfl) (by decide) (by decide) ?_
          refine v_iincN (y := 1) dX10_merge_500 (by rfl) (by decide) (by decide) ?_
          refine v_goto (tgt := 239) dX10_merge_503 (by decide) ?_
          exact mg_few5 (ih (d - 1) (by omega) a (b + 1) (nn + 1) z4 (by omega) (mgZ_B hz f4 h3 huo hvo hnn hsu (show b < m by omega) hBb hbeh (mg_R3 e4 s4 n4 (hvo b (by omega)))) hk)
        · refine v_iload dX10_merge_298 (by rfl) ?_
          refine v_aload_n dX10_merge_300 rfl (by rfl) ?_
          refine v_getf hE dX10_merge_301 fX10_60 mdS_M (by rfl) ?_
          refine v_iconst (v := nI 3) dX10_merge_304 (by decide) ?_
          refine m_iald hE (k := 16) dX10_merge_305 (by decide) (by decide) rfl (show _ < 4 by omega) (by omega) ?_
          refine v_eqi (y := nI m) ((congrFun (hz.1.2.1 16 (by omega)) 3).trans h163) ?_
          refine v_icmp_eqN (tgt := 326) dX10_merge_306 (by decide) (by omega) (by omega) (fun c306 => ?_) (fun c306 => ?_)
          · exact absurd c306 (by omega)
          · refine v_aload_n dX10_merge_309 rfl (by rfl) ?_
            refine v_sipush (v := nI 180) dX10_merge_310 (by decide) ?_
            refine v_iload dX10_merge_313 (by rfl) ?_
            refine v_iaddN dX10_merge_315 ?_
            refine v_bipush (v := nI 120) dX10_merge_316 (by decide) ?_
            refine v_iload_n dX10_merge_318 rfl (by rfl) ?_
            refine v_iaddN dX10_merge_319 ?_
            refine w_callV hE dX10_merge_320 kX10_344 mdS_M (by rfl) (by rfl) (sX10_isBefore hE (by omega) (by omega)) rfl (by decide) (by decide) (by exact Nat.le_of_ble_eq_true rfl) (by omega) (by omega) (fun v9 g9 u9 h9 => ?_) (fun _ _ _ h => by cases h.1)
            obtain ⟨hv9, hu9, hg9⟩ := h9
            replace hu9 := hu9.symm
            subst hu9
            subst hg9
            cases hv9
            rw [mBf_eq (hz.1.2.2.2 (180 + b) _ _ (by omega) (hv b (by omega)) (hvo b (by omega)) (by omega)) (hz.1.2.2.2 (120 + a) _ _ (by omega) (hu a (by omega)) (huo a (by omega)) (by omega))]
            refine v_if_neB (tgt := 417) dX10_merge_323 (by decide) (fun c323 => ?_) (fun c323 => ?_)
            · have hbeh : a < n → eBeh (u a) (v b) = true := fun _ => c323
              have hnn : nn < 60 := mgZ_n hz hz60 (Or.inr ⟨by omega, hBb⟩)
              have hvb : mE z (180 + b) (v b) m1 := hz.1.2.2.2 _ _ _ (by omega) (hv b (by omega)) (hvo b (by omega)) (by omega)
              have z170 : z.1 17 0 = nI m0 := (congrFun (hz.1.2.1 17 (by omega)) 0).trans h170
              have z171 : z.1 17 1 = nI m1 := (congrFun (hz.1.2.1 17 (by omega)) 1).trans h171
              refine v_aload_n dX10_merge_417 rfl (by rfl) ?_
              refine v_iload_n dX10_merge_418 rfl (by rfl) ?_
              refine v_sipush (v := nI 180) dX10_merge_419 (by decide) ?_
              refine v_iload dX10_merge_422 (by rfl) ?_
              refine v_iaddN dX10_merge_424 ?_
              refine w_callV hE dX10_merge_425 kX10_197 mdS_M (by rfl) (by rfl) (sX10_copy hE hz.1.2.2.1 (by omega) (by omega) (by omega)) rfl (by decide) (by decide) (by exact Nat.le_of_ble_eq_true rfl) (by omega) (by omega) (fun v9 g9 u9 h9 => ?_) (fun _ _ _ h => by cases h.1)
              obtain ⟨hv9, hu9, hg9⟩ := h9
              replace hu9 := hu9.symm
              subst hu9
              subst hg9
              cases hv9
              refine v_iconst (v := nI 0) dX10_merge_428 (by decide) ?_
              refine v_istore dX10_merge_429 (by decide) ?_
              have f0 : mFr (fun r => r = nn) z (mCopy z nn (180 + b)) := mFr_c (mFr_0 hz.1.2.2.1) rfl
              have e0 : mE (mCopy z nn (180 + b)) nn (v b) 0 := (mE_i.mp (mCopy_a hvb (hvo b (by omega)) (by omega))).1
              refine mg_B1 hE hnn (show b < 60 by omega) h3 z170 z171 hvb (hvo b (by omega)) m1 0 _ (by omega) f0 e0 (fun p hp => absurd hp (Nat.not_lt_zero _)) (fun z2 f2 e2 s2 => ?_)
              refine v_iconst (v := nI 0) dX10_merge_470 (by decide) ?_
              refine v_istore dX10_merge_471 (by decide) ?_
              refine mg_B2 hE hnn h3 z170 (hvo b (by omega)) (m0 := m0) (m1 := m1) (b := b) m0 0 z2 (by omega) f2 e2 s2 (fun p hp => absurd hp (Nat.not_lt_zero _)) (fun z4 f4 e4 s4 n4 => ?_)
              refine v_iincN (y := 1) dX10_merge_497 (by rfl) (by decide) (by decide) ?_
              refine v_iincN (y := 1) dX10_merge_500 (by rfl) (by decide) (by decide) ?_
              refine v_goto (tgt := 239) dX10_merge_503 (by decide) ?_
              exact mg_few5 (ih (d - 1) (by omega) a (b + 1) (nn + 1) z4 (by omega) (mgZ_B hz f4 h3 huo hvo hnn hsu (show b < m by omega) hBb hbeh (mg_R3 e4 s4 n4 (hvo b (by omega)))) hk)
            · have hbeh : b < m → eBeh (u a) (v b) = false := fun _ => c323
              have hnn : nn < 60 := mgZ_n hz hz60 (Or.inl (by omega))
              have hua : mE z (120 + a) (u a) m0 := hz.1.2.2.2 _ _ _ (by omega) (hu a (by omega)) (huo a (by omega)) (by omega)
              refine v_aload_n dX10_merge_326 rfl (by rfl) ?_
              refine v_iload_n dX10_merge_327 rfl (by rfl) ?_
              refine v_bipush (v := nI 120) dX10_merge_328 (by decide) ?_
              refine v_iload_n dX10_merge_330 rfl (by rfl) ?_
              refine v_iaddN dX10_merge_331 ?_
              refine w_callV hE dX10_merge_332 kX10_197 mdS_M (by rfl) (by rfl) (sX10_copy hE hz.1.2.2.1 (by omega) (by omega) (by omega)) rfl (by decide) (by decide) (by exact Nat.le_of_ble_eq_true rfl) (by omega) (by omega) (fun v9 g9 u9 h9 => ?_) (fun _ _ _ h => by cases h.1)
              obtain ⟨hv9, hu9, hg9⟩ := h9
              replace hu9 := hu9.symm
              subst hu9
              subst hg9
              cases hv9
              refine v_iconst (v := nI 0) dX10_merge_335 (by decide) ?_
              refine v_istore dX10_merge_336 (by decide) ?_
              have f0 : mFr (fun r => r = nn) z (mCopy z nn (120 + a)) := mFr_c (mFr_0 hz.1.2.2.1) rfl
              have e0 : mE (mCopy z nn (120 + a)) nn (u a) m0 := mCopy_a hua (huo a (by omega)) (by omega)
              have z170 : z.1 17 0 = nI m0 := (congrFun (hz.1.2.1 17 (by omega)) 0).trans h170
              have z171 : z.1 17 1 = nI m1 := (congrFun (hz.1.2.1 17 (by omega)) 1).trans h171
              have z36 : z.1 36 = Y.1 36 := hz.1.2.1 36 (by omega)
              rcases hA a (by omega) with hA1 | ⟨b2, hb2, hA2⟩
              · refine mg_Ln hE hnn (show a < 60 by omega) h3 z170 z171 ((congrFun z36 a).trans hA1) (huo a (by omega)) m1 0 _ (by omega) f0 e0 (fun p hp => absurd hp (Nat.not_lt_zero _)) (fun z2 f2 e2 s2 => ?_)
                refine v_iincN (y := 1) dX10_merge_408 (by rfl) (by decide) (by decide) ?_
                refine v_iincN (y := 1) dX10_merge_411 (by rfl) (by decide) (by decide) ?_
                refine v_goto (tgt := 239) dX10_merge_414 (by decide) ?_
                exact mg_few5 (ih (d - 1) (by omega) (a + 1) b (nn + 1) z2 (by omega) (mgZ_A hz f2 h3 huo hvo hnn hsv (show a < n by omega) hbeh (Or.inl ⟨hA1, mg_R2 e2 s2 (huo a (by omega))⟩)) hk)
              · refine mg_Lp hE hnn (show a < 60 by omega) (show b2 < 60 by omega) h3 z170 z171 ((congrFun z36 a).trans hA2) (huo a (by omega)) (hz.1.2.2.2 _ _ _ (by omega) (hv b2 hb2) (hvo b2 hb2) (by omega)) (hvo b2 hb2) m1 0 _ (by omega) f0 e0 (fun p hp => absurd hp (Nat.not_lt_zero _)) (fun z2 f2 e2 s2 => ?_)
                refine v_iincN (y := 1) dX10_merge_408 (by rfl) (by decide) (by decide) ?_
                refine v_iincN (y := 1) dX10_merge_411 (by rfl) (by decide) (by decide) ?_
                refine v_goto (tgt := 239) dX10_merge_414 (by decide) ?_
                exact mg_few5 (ih (d - 1) (by omega) (a + 1) b (nn + 1) z2 (by omega) (mgZ_A hz f2 h3 huo hvo hnn hsv (show a < n by omega) hbeh (Or.inr ⟨b2, hb2, hA2, mg_R1 e2 s2 (huo a (by omega)) (hvo b2 hb2)⟩)) hk)
      · refine v_iincN (y := 1) dX10_merge_282 (by rfl) (by decide) (by decide) ?_
        refine v_goto (tgt := 239) dX10_merge_285 (by decide) ?_
        exact ih (d - 1) (by omega) a (b + 1) nn z (by omega) (mgZ_S hz (by omega) c279) hk
  · refine v_iload dX10_merge_249 (by rfl) ?_
    refine v_aload_n dX10_merge_251 rfl (by rfl) ?_
    refine v_getf hE dX10_merge_252 fX10_60 mdS_M (by rfl) ?_
    refine v_iconst (v := nI 3) dX10_merge_255 (by decide) ?_
    refine m_iald hE (k := 16) dX10_merge_256 (by decide) (by decide) rfl (show _ < 4 by omega) (by omega) ?_
    refine v_eqi (y := nI m) ((congrFun (hz.1.2.1 16 (by omega)) 3).trans h163) ?_
    refine v_icmp_geN (tgt := 506) dX10_merge_257 (by decide) (by omega) (by omega) (fun c257 => ?_) (fun c257 => ?_)
    · have ea : a = n := by omega
      have eb : b = m := by omega
      subst ea
      subst eb
      subst hen
      exact hk z hz
    · refine v_iload dX10_merge_260 (by rfl) ?_
      refine v_aload_n dX10_merge_262 rfl (by rfl) ?_
      refine v_getf hE dX10_merge_263 fX10_60 mdS_M (by rfl) ?_
      refine v_iconst (v := nI 3) dX10_merge_266 (by decide) ?_
      refine m_iald hE (k := 16) dX10_merge_267 (by decide) (by decide) rfl (show _ < 4 by omega) (by omega) ?_
      refine v_eqi (y := nI m) ((congrFun (hz.1.2.1 16 (by omega)) 3).trans h163) ?_
      refine v_icmp_geN (tgt := 288) dX10_merge_268 (by decide) (by omega) (by omega) (fun c268 => ?_) (fun c268 => ?_)
      · have hbm : b = m := by omega
        refine v_iload_n dX10_merge_288 rfl (by rfl) ?_
        refine v_aload_n dX10_merge_289 rfl (by rfl) ?_
        refine v_getf hE dX10_merge_290 fX10_60 mdS_M (by rfl) ?_
        refine v_iconst (v := nI 2) dX10_merge_293 (by decide) ?_
        refine m_iald hE (k := 16) dX10_merge_294 (by decide) (by decide) rfl (show _ < 4 by omega) (by omega) ?_
        refine v_eqi (y := nI n) ((congrFun (hz.1.2.1 16 (by omega)) 2).trans h162) ?_
        refine v_icmp_geN (tgt := 417) dX10_merge_295 (by decide) (by omega) (by omega) (fun c295 => ?_) (fun c295 => ?_)
        · exact absurd c295 (by omega)
        · refine v_iload dX10_merge_298 (by rfl) ?_
          refine v_aload_n dX10_merge_300 rfl (by rfl) ?_
          refine v_getf hE dX10_merge_301 fX10_60 mdS_M (by rfl) ?_
          refine v_iconst (v := nI 3) dX10_merge_304 (by decide) ?_
          refine m_iald hE (k := 16) dX10_merge_305 (by decide) (by decide) rfl (show _ < 4 by omega) (by omega) ?_
          refine v_eqi (y := nI m) ((congrFun (hz.1.2.1 16 (by omega)) 3).trans h163) ?_
          refine v_icmp_eqN (tgt := 326) dX10_merge_306 (by decide) (by omega) (by omega) (fun c306 => ?_) (fun c306 => ?_)
          · have hbeh : b < m → eBeh (u a) (v b) = false := fun q => absurd q (by omega)
            have hnn : nn < 60 := mgZ_n hz hz60 (Or.inl (by omega))
            have hua : mE z (120 + a) (u a) m0 := hz.1.2.2.2 _ _ _ (by omega) (hu a (by omega)) (huo a (by omega)) (by omega)
            refine v_aload_n dX10_merge_326 rfl (by rfl) ?_
            refine v_iload_n dX10_merge_327 rfl (by rfl) ?_
            refine v_bipush (v := nI 120) dX10_merge_328 (by decide) ?_
            refine v_iload_n dX10_merge_330 rfl (by rfl) ?_
            refine v_iaddN dX10_merge_331 ?_
            refine w_callV hE dX10_merge_332 kX10_197 mdS_M (by rfl) (by rfl) (sX10_copy hE hz.1.2.2.1 (by omega) (by omega) (by omega)) rfl (by decide) (by decide) (by exact Nat.le_of_ble_eq_true rfl) (by omega) (by omega) (fun v9 g9 u9 h9 => ?_) (fun _ _ _ h => by cases h.1)
            obtain ⟨hv9, hu9, hg9⟩ := h9
            replace hu9 := hu9.symm
            subst hu9
            subst hg9
            cases hv9
            refine v_iconst (v := nI 0) dX10_merge_335 (by decide) ?_
            refine v_istore dX10_merge_336 (by decide) ?_
            have f0 : mFr (fun r => r = nn) z (mCopy z nn (120 + a)) := mFr_c (mFr_0 hz.1.2.2.1) rfl
            have e0 : mE (mCopy z nn (120 + a)) nn (u a) m0 := mCopy_a hua (huo a (by omega)) (by omega)
            have z170 : z.1 17 0 = nI m0 := (congrFun (hz.1.2.1 17 (by omega)) 0).trans h170
            have z171 : z.1 17 1 = nI m1 := (congrFun (hz.1.2.1 17 (by omega)) 1).trans h171
            have z36 : z.1 36 = Y.1 36 := hz.1.2.1 36 (by omega)
            rcases hA a (by omega) with hA1 | ⟨b2, hb2, hA2⟩
            · refine mg_Ln hE hnn (show a < 60 by omega) h3 z170 z171 ((congrFun z36 a).trans hA1) (huo a (by omega)) m1 0 _ (by omega) f0 e0 (fun p hp => absurd hp (Nat.not_lt_zero _)) (fun z2 f2 e2 s2 => ?_)
              refine v_iincN (y := 1) dX10_merge_408 (by rfl) (by decide) (by decide) ?_
              refine v_iincN (y := 1) dX10_merge_411 (by rfl) (by decide) (by decide) ?_
              refine v_goto (tgt := 239) dX10_merge_414 (by decide) ?_
              exact mg_few5 (ih (d - 1) (by omega) (a + 1) b (nn + 1) z2 (by omega) (mgZ_A hz f2 h3 huo hvo hnn hsv (show a < n by omega) hbeh (Or.inl ⟨hA1, mg_R2 e2 s2 (huo a (by omega))⟩)) hk)
            · refine mg_Lp hE hnn (show a < 60 by omega) (show b2 < 60 by omega) h3 z170 z171 ((congrFun z36 a).trans hA2) (huo a (by omega)) (hz.1.2.2.2 _ _ _ (by omega) (hv b2 hb2) (hvo b2 hb2) (by omega)) (hvo b2 hb2) m1 0 _ (by omega) f0 e0 (fun p hp => absurd hp (Nat.not_lt_zero _)) (fun z2 f2 e2 s2 => ?_)
              refine v_iincN (y := 1) dX10_merge_408 (by rfl) (by decide) (by decide) ?_
              refine v_iincN (y := 1) dX10_merge_411 (by rfl) (by decide) (by decide) ?_
              refine v_goto (tgt := 239) dX10_merge_414 (by decide) ?_
              exact mg_few5 (ih (d - 1) (by omega) (a + 1) b (nn + 1) z2 (by omega) (mgZ_A hz f2 h3 huo hvo hnn hsv (show a < n by omega) hbeh (Or.inr ⟨b2, hb2, hA2, mg_R1 e2 s2 (huo a (by omega)) (hvo b2 hb2)⟩)) hk)
          · exact absurd (by omega) c306
      · refine v_aload_n dX10_merge_271 rfl (by rfl) ?_
        refine v_getf hE dX10_merge_272 fX10_124 mdS_M (by rfl) ?_
        refine v_iload dX10_merge_275 (by rfl) ?_
        refine m_iald hE (k := 37) dX10_merge_277 (by decide) (by decide) rfl (show _ < 60 by omega) (by omega) ?_
        refine v_eqi (y := Y.1 37 b) (congrFun (hz.1.2.1 37 (by omega)) b) ?_
        refine v_iconst (v := (-1)) dX10_merge_278 (by decide) ?_
        refine v_icmp_eq (tgt := 288) dX10_merge_279 (by decide) (fun c279 => ?_) (fun c279 => ?_)
        · have hBb : Y.1 37 b = -1 := c279
          refine v_iload_n dX10_merge_288 rfl (by rfl) ?_
          refine v_aload_n dX10_merge_289 rfl (by rfl) ?_
          refine v_getf hE dX10_merge_290 fX10_60 mdS_M (by rfl) ?_
          refine v_iconst (v := nI 2) dX10_merge_293 (by decide) ?_
          refine m_iald hE (k := 16) dX10_merge_294 (by decide) (by decide) rfl (show _ < 4 by omega) (by omega) ?_
          refine v_eqi (y := nI n) ((congrFun (hz.1.2.1 16 (by omega)) 2).trans h162) ?_
          refine v_icmp_geN (tgt := 417) dX10_merge_295 (by decide) (by omega) (by omega) (fun c295 => ?_) (fun c295 => ?_)
          · have hbeh : a < n → eBeh (u a) (v b) = true := fun q => absurd q (by omega)
            have hnn : nn < 60 := mgZ_n hz hz60 (Or.inr ⟨by omega, hBb⟩)
            have hvb : mE z (180 + b) (v b) m1 := hz.1.2.2.2 _ _ _ (by omega) (hv b (by omega)) (hvo b (by omega)) (by omega)
            have z170 : z.1 17 0 = nI m0 := (congrFun (hz.1.2.1 17 (by omega)) 0).trans h170
            have z171 : z.1 17 1 = nI m1 := (congrFun (hz.1.2.1 17 (by omega)) 1).trans h171
            refine v_aload_n dX10_merge_417 rfl (by rfl) ?_
            refine v_iload_n dX10_merge_418 rfl (by rfl) ?_
            refine v_sipush (v := nI 180) dX10_merge_419 (by decide) ?_
            refine v_iload dX10_merge_422 (by rfl) ?_
            refine v_iaddN dX10_merge_424 ?_
            refine w_callV hE dX10_merge_425 kX10_197 mdS_M (by rfl) (by rfl) (sX10_copy hE hz.1.2.2.1 (by omega) (by omega) (by omega)) rfl (by decide) (by decide) (by exact Nat.le_of_ble_eq_true rfl) (by omega) (by omega) (fun v9 g9 u9 h9 => ?_) (fun _ _ _ h => by cases h.1)
            obtain ⟨hv9, hu9, hg9⟩ := h9
            replace hu9 := hu9.symm
            subst hu9
            subst hg9
            cases hv9
            refine v_iconst (v := nI 0) dX10_merge_428 (by decide) ?_
            refine v_istore dX10_merge_429 (by decide) ?_
            have f0 : mFr (fun r => r = nn) z (mCopy z nn (180 + b)) := mFr_c (mFr_0 hz.1.2.2.1) rfl
            have e0 : mE (mCopy z nn (180 + b)) nn (v b) 0 := (mE_i.mp (mCopy_a hvb (hvo b (by omega)) (by omega))).1
            refine mg_B1 hE hnn (show b < 60 by omega) h3 z170 z171 hvb (hvo b (by omega)) m1 0 _ (by omega) f0 e0 (fun p hp => absurd hp (Nat.not_lt_zero _)) (fun z2 f2 e2 s2 => ?_)
            refine v_iconst (v := nI 0) dX10_merge_470 (by decide) ?_
            refine v_istore dX10_merge_471 (by decide) ?_
            refine mg_B2 hE hnn h3 z170 (hvo b (by omega)) (m0 := m0) (m1 := m1) (b := b) m0 0 z2 (by omega) f2 e2 s2 (fun p hp => absurd hp (Nat.not_lt_zero _)) (fun z4 f4 e4 s4 n4 => ?_)
            refine v_iincN (y := 1) dX10_merge_497 (by rfl) (by decide) (by decide) ?_
            refine v_iincN (y := 1) dX10_merge_500 (by rfl) (by decide) (by decide) ?_
            refine v_goto (tgt := 239) dX10_merge_503 (by decide) ?_
            exact mg_few5 (ih (d - 1) (by omega) a (b + 1) (nn + 1) z4 (by omega) (mgZ_B hz f4 h3 huo hvo hnn hsu (show b < m by omega) hBb hbeh (mg_R3 e4 s4 n4 (hvo b (by omega)))) hk)
          · refine v_iload dX10_merge_298 (by rfl) ?_
            refine v_aload_n dX10_merge_300 rfl (by rfl) ?_
            refine v_getf hE dX10_merge_301 fX10_60 mdS_M (by rfl) ?_
            refine v_iconst (v := nI 3) dX10_merge_304 (by decide) ?_
            refine m_iald hE (k := 16) dX10_merge_305 (by decide) (by decide) rfl (show _ < 4 by omega) (by omega) ?_
            refine v_eqi (y := nI m) ((congrFun (hz.1.2.1 16 (by omega)) 3).trans h163) ?_
            refine v_icmp_eqN (tgt := 326) dX10_merge_306 (by decide) (by omega) (by omega) (fun c306 => ?_) (fun c306 => ?_)
            · exact absurd c306 (by omega)
            · refine v_aload_n dX10_merge_309 rfl (by rfl) ?_
              refine v_sipush (v := nI 180) dX10_merge_310 (by decide) ?_
              refine v_iload dX10_merge_313 (by rfl) ?_
              refine v_iaddN dX10_merge_315 ?_
              refine v_bipush (v := nI 120) dX10_merge_316 (by decide) ?_
              refine v_iload_n dX10_merge_318 rfl (by rfl) ?_
              refine v_iaddN dX10_merge_319 ?_
              refine w_callV hE dX10_merge_320 kX10_344 mdS_M (by rfl) (by rfl) (sX10_isBefore hE (by omega) (by omega)) rfl (by decide) (by decide) (by exact Nat.le_of_ble_eq_true rfl) (by omega) (by omega) (fun v9 g9 u9 h9 => ?_) (fun _ _ _ h => by cases h.1)
              obtain ⟨hv9, hu9, hg9⟩ := h9
              replace hu9 := hu9.symm
              subst hu9
              subst hg9
              cases hv9
              rw [mBf_eq (hz.1.2.2.2 (180 + b) _ _ (by omega) (hv b (by omega)) (hvo b (by omega)) (by omega)) (hz.1.2.2.2 (120 + a) _ _ (by omega) (hu a (by omega)) (huo a (by omega)) (by omega))]
              refine v_if_neB (tgt := 417) dX10_merge_323 (by decide) (fun c323 => ?_) (fun c323 => ?_)
              · have hbeh : a < n → eBeh (u a) (v b) = true := fun _ => c323
                have hnn : nn < 60 := mgZ_n hz hz60 (Or.inr ⟨by omega, hBb⟩)
                have hvb : mE z (180 + b) (v b) m1 := hz.1.2.2.2 _ _ _ (by omega) (hv b (by omega)) (hvo b (by omega)) (by omega)
                have z170 : z.1 17 0 = nI m0 := (congrFun (hz.1.2.1 17 (by omega)) 0).trans h170
                have z171 : z.1 17 1 = nI m1 := (congrFun (hz.1.2.1 17 (by omega)) 1).trans h171
                refine v_aload_n dX10_merge_417 rfl (by rfl) ?_
                refine v_iload_n dX10_merge_418 rfl (by rfl) ?_
                refine v_sipush (v := nI 180) dX10_merge_419 (by decide) ?_
                refine v_iload dX10_merge_422 (by rfl) ?_
                refine v_iaddN dX10_merge_424 ?_
                refine w_callV hE dX10_merge_425 kX10_197 mdS_M (by rfl) (by rfl) (sX10_copy hE hz.1.2.2.1 (by omega) (by omega) (by omega)) rfl (by decide) (by decide) (by exact Nat.le_of_ble_eq_true rfl) (by omega) (by omega) (fun v9 g9 u9 h9 => ?_) (fun _ _ _ h => by cases h.1)
                obtain ⟨hv9, hu9, hg9⟩ := h9
                replace hu9 := hu9.symm
                subst hu9
                subst hg9
                cases hv9
                refine v_iconst (v := nI 0) dX10_merge_428 (by decide) ?_
                refine v_istore dX10_merge_429 (by decide) ?_
                have f0 : mFr (fun r => r = nn) z (mCopy z nn (180 + b)) := mFr_c (mFr_0 hz.1.2.2.1) rfl
                have e0 : mE (mCopy z nn (180 + b)) nn (v b) 0 := (mE_i.mp (mCopy_a hvb (hvo b (by omega)) (by omega))).1
                refine mg_B1 hE hnn (show b < 60 by omega) h3 z170 z171 hvb (hvo b (by omega)) m1 0 _ (by omega) f0 e0 (fun p hp => absurd hp (Nat.not_lt_zero _)) (fun z2 f2 e2 s2 => ?_)
                refine v_iconst (v := nI 0) dX10_merge_470 (by decide) ?_
                refine v_istore dX10_merge_471 (by decide) ?_
                refine mg_B2 hE hnn h3 z170 (hvo b (by omega)) (m0 := m0) (m1 := m1) (b := b) m0 0 z2 (by omega) f2 e2 s2 (fun p hp => absurd hp (Nat.not_lt_zero _)) (fun z4 f4 e4 s4 n4 => ?_)
                refine v_iincN (y := 1) dX10_merge_497 (by rfl) (by decide) (by decide) ?_
                refine v_iincN (y := 1) dX10_merge_500 (by rfl) (by decide) (by decide) ?_
                refine v_goto (tgt := 239) dX10_merge_503 (by decide) ?_
                exact mg_few5 (ih (d - 1) (by omega) a (b + 1) (nn + 1) z4 (by omega) (mgZ_B hz f4 h3 huo hvo hnn hsu (show b < m by omega) hBb hbeh (mg_R3 e4 s4 n4 (hvo b (by omega)))) hk)
              · have hbeh : b < m → eBeh (u a) (v b) = false := fun _ => c323
                have hnn : nn < 60 := mgZ_n hz hz60 (Or.inl (by omega))
                have hua : mE z (120 + a) (u a) m0 := hz.1.2.2.2 _ _ _ (by omega) (hu a (by omega)) (huo a (by omega)) (by omega)
                refine v_aload_n dX10_merge_326 rfl (by rfl) ?_
                refine v_iload_n dX10_merge_327 rfl (by rfl) ?_
                refine v_bipush (v := nI 120) dX10_merge_328 (by decide) ?_
                refine v_iload_n dX10_merge_330 rfl (by rfl) ?_
                refine v_iaddN dX10_merge_331 ?_
                refine w_callV hE dX10_merge_332 kX10_197 mdS_M (by rfl) (by rfl) (sX10_copy hE hz.1.2.2.1 (by omega) (by omega) (by omega)) rfl (by decide) (by decide) (by exact Nat.le_of_ble_eq_true rfl) (by omega) (by omega) (fun v9 g9 u9 h9 => ?_) (fun _ _ _ h => by cases h.1)
                obtain ⟨hv9, hu9, hg9⟩ := h9
                replace hu9 := hu9.symm
                subst hu9
                subst hg9
                cases hv9
                refine v_iconst (v := nI 0) dX10_merge_335 (by decide) ?_
                refine v_istore dX10_merge_336 (by decide) ?_
                have f0 : mFr (fun r => r = nn) z (mCopy z nn (120 + a)) := mFr_c (mFr_0 hz.1.2.2.1) rfl
                have e0 : mE (mCopy z nn (120 + a)) nn (u a) m0 := mCopy_a hua (huo a (by omega)) (by omega)
                have z170 : z.1 17 0 = nI m0 := (congrFun (hz.1.2.1 17 (by omega)) 0).trans h170
                have z171 : z.1 17 1 = nI m1 := (congrFun (hz.1.2.1 17 (by omega)) 1).trans h171
                have z36 : z.1 36 = Y.1 36 := hz.1.2.1 36 (by omega)
                rcases hA a (by omega) with hA1 | ⟨b2, hb2, hA2⟩
                · refine mg_Ln hE hnn (show a < 60 by omega) h3 z170 z171 ((congrFun z36 a).trans hA1) (huo a (by omega)) m1 0 _ (by omega) f0 e0 (fun p hp => absurd hp (Nat.not_lt_zero _)) (fun z2 f2 e2 s2 => ?_)
                  refine v_iincN (y := 1) dX10_merge_408 (by rfl) (by decide) (by decide) ?_
                  refine v_iincN (y := 1) dX10_merge_411 (by rfl) (by decide) (by decide) ?_
                  refine v_goto (tgt := 239) dX10_merge_414 (by decide) ?_
                  exact mg_few5 (ih (d - 1) (by omega) (a + 1) b (nn + 1) z2 (by omega) (mgZ_A hz f2 h3 huo hvo hnn hsv (show a < n by omega) hbeh (Or.inl ⟨hA1, mg_R2 e2 s2 (huo a (by omega))⟩)) hk)
                · refine mg_Lp hE hnn (show a < 60 by omega) (show b2 < 60 by omega) h3 z170 z171 ((congrFun z36 a).trans hA2) (huo a (by omega)) (hz.1.2.2.2 _ _ _ (by omega) (hv b2 hb2) (hvo b2 hb2) (by omega)) (hvo b2 hb2) m1 0 _ (by omega) f0 e0 (fun p hp => absurd hp (Nat.not_lt_zero _)) (fun z2 f2 e2 s2 => ?_)
                  refine v_iincN (y := 1) dX10_merge_408 (by rfl) (by decide) (by decide) ?_
                  refine v_iincN (y := 1) dX10_merge_411 (by rfl) (by decide) (by decide) ?_
                  refine v_goto (tgt := 239) dX10_merge_414 (by decide) ?_
                  exact mg_few5 (ih (d - 1) (by omega) (a + 1) b (nn + 1) z2 (by omega) (mgZ_A hz f2 h3 huo hvo hnn hsv (show a < n by omega) hbeh (Or.inr ⟨b2, hb2, hA2, mg_R1 e2 s2 (huo a (by omega)) (hvo b2 hb2)⟩)) hk)
        · refine v_iincN (y := 1) dX10_merge_282 (by rfl) (by decide) (by decide) ?_
          refine v_goto (tgt := 239) dX10_merge_285 (by decide) ?_
          exact ih (d - 1) (by omega) a (b + 1) nn z (by omega) (mgZ_S hz (by omega) c279) hk
