/-! merge: its loops -/
theorem mFr_w {B B' : Nat → Prop} {y z : mV} (h : mFr B y z) (hB : ∀ r, B r → B' r) : mFr B' y z := ⟨h.1, h.2.1, h.2.2.1, fun r w m hn => h.2.2.2 r w m (fun q => hn (hB r q))⟩
theorem fr3_M {y z : mV} {a s r n : Nat} {w : eV} (h : fr3 y z a s) (hn : ∀ p, p < n → 3 * r + p ≠ 3 * a + s) (hw : mE y r w n) (hwo : enOk w) : mE z r w n := by
  obtain ⟨h1, h2⟩ := mE_i.mp hw
  exact mE_i.mpr ⟨fr3_0 h h1, fun p hp => fr3_m h (hn p hp) (hwo.2.2.1 p) (h2 p hp)⟩
theorem va2 {α : Type} {y : Nat → α} {A B A' B' : α} : va_up (va_up (va_up (va_up y 36 A) 37 B) 36 A') 37 B' = va_up (va_up y 36 A') 37 B' := by
  funext k
  simp only [va_up]
  repeat' split
  all_goals first | rfl | omega
set_option maxRecDepth 100000 in
set_option maxHeartbeats 4000000 in
/-- the calls of a partner -/
theorem mg_Lp {E : eN} (hE : eOk E) {f : aH} {t M : Nat} {Q : aP} {y : mV} {nn a b m0 m1 : Nat} {z1 z4 : Int32} {w0 w1 : eV} (hnn : nn < 60) (ha : a < 60) (hb : b < 60) (hm : m0 + m1 ≤ 3) (h170 : y.1 17 0 = nI m0) (h171 : y.1 17 1 = nI m1) (h36 : y.1 36 a = nI b) (hwo0 : enOk w0) (hw1 : mE y (180 + b) w1 m1) (hwo1 : enOk w1) : ∀ (d s : Nat) (z : mV), s + d = m1 → mFr (fun r => r = nn) y z → mE z nn w0 m0 → (∀ p, p < s → mSm z nn (m0 + p) w1 p) → (∀ z', mFr (fun r => r = nn) y z' → mE z' nn w0 m0 → (∀ p, p < m1 → mSm z' nn (m0 + p) w1 p) → V E mX10_merge 0 0 Q 408 [some (.ref M), some (.int z1), some (.int (nI nn)), some (.int (nI a)), some (.int z4), some (.int (nI m1))] [] (mdS f M z') t 0 0) → V E mX10_merge 0 0 Q 338 [some (.ref M), some (.int z1), some (.int (nI nn)), some (.int (nI a)), some (.int z4), some (.int (nI s))] [] (mdS f M z) t 0 0 := by
  intro d
  induction d using Nat.strongRecOn with
  | _ d ih =>
  intro s z hd hz hw hs hk
  refine v_iload dX10_merge_338 (by rfl) ?_
  refine v_aload_n dX10_merge_340 rfl (by rfl) ?_
  refine v_getf hE dX10_merge_341 fX10_63 mdS_M (by rfl) ?_
  refine v_iconst (v := nI 1) dX10_merge_344 (by decide) ?_
  refine m_iald hE (k := 17) dX10_merge_345 (by decide) (by decide) rfl (show _ < 4 by omega) (by omega) ?_
  refine v_eqi (y := nI m1) ((congrFun (hz.2.1 17 (by omega)) 1).trans h171) ?_
  refine v_icmp_geN (tgt := 408) dX10_merge_346 (by decide) (by omega) (by omega) (fun c346 => ?_) (fun c346 => ?_)
  · have e9 : s = m1 := by omega
    subst e9
    exact hk z hz hw hs
  · refine v_aload_n dX10_merge_349 rfl (by rfl) ?_
    refine v_getf hE dX10_merge_350 fX10_121 mdS_M (by rfl) ?_
    refine v_iload_n dX10_merge_353 rfl (by rfl) ?_
    refine m_iald hE (k := 36) dX10_merge_354 (by decide) (by decide) rfl (show _ < 60 by omega) (by omega) ?_
    refine v_eqi (y := nI b) ((congrFun (hz.2.1 36 (by omega)) a).trans h36) ?_
    refine v_iconst (v := (-1)) dX10_merge_355 (by decide) ?_
    refine v_icmp_eq (tgt := 388) dX10_merge_356 (by decide) (fun c356 => ?_) (fun c356 => ?_)
    · exact absurd c356 (nI_m1 (by omega))
    · refine v_aload_n dX10_merge_359 rfl (by rfl) ?_
      refine v_iload_n dX10_merge_360 rfl (by rfl) ?_
      refine v_aload_n dX10_merge_361 rfl (by rfl) ?_
      refine v_getf hE dX10_merge_362 fX10_63 mdS_M (by rfl) ?_
      refine v_iconst (v := nI 0) dX10_merge_365 (by decide) ?_
      refine m_iald hE (k := 17) dX10_merge_366 (by decide) (by decide) rfl (show _ < 4 by omega) (by omega) ?_
      refine v_eqi (y := nI m0) ((congrFun (hz.2.1 17 (by omega)) 0).trans h170) ?_
      refine v_iload dX10_merge_367 (by rfl) ?_
      refine v_iaddN dX10_merge_369 ?_
      refine v_sipush (v := nI 180) dX10_merge_370 (by decide) ?_
      refine v_aload_n dX10_merge_373 rfl (by rfl) ?_
      refine v_getf hE dX10_merge_374 fX10_121 mdS_M (by rfl) ?_
      refine v_iload_n dX10_merge_377 rfl (by rfl) ?_
      refine m_iald hE (k := 36) dX10_merge_378 (by decide) (by decide) rfl (show _ < 60 by omega) (by omega) ?_
      refine v_eqi (y := nI b) ((congrFun (hz.2.1 36 (by omega)) a).trans h36) ?_
      refine v_iaddN dX10_merge_379 ?_
      refine v_iload dX10_merge_380 (by rfl) ?_
      refine w_callV hE dX10_merge_382 kX10_190 mdS_M (by rfl) (by rfl) (sX10_copyCalls hE (a := nn) (s := m0 + s) (b := 180 + b) (r := s) hz.2.2.1 (by omega) (by omega) (by omega) (by omega)) rfl (by decide) (by decide) (by exact Nat.le_of_ble_eq_true rfl) (by omega) (by omega) (fun v9 g9 u9 h9 => ?_) (fun _ _ _ h => by cases h.1)
      obtain ⟨hv9, hu9, hg9⟩ := h9
      replace hu9 := hu9.symm
      subst hu9
      subst hg9
      cases hv9
      refine v_goto (tgt := 402) dX10_merge_385 (by decide) ?_
      refine v_iincN (y := 1) dX10_merge_402 (by rfl) (by decide) (by decide) ?_
      refine v_goto (tgt := 338) dX10_merge_405 (by decide) ?_
      have fr := mCC_f (y := z) (a := nn) (s := m0 + s) (b := 180 + b) (r := s) hz.2.2.1
      refine ih (d - 1) (by omega) (s + 1) _ (by omega) (fr3_F hz fr rfl (by omega)) (fr3_M fr (fun p hp => by omega) hw hwo0) (fun p hp => ?_) hk
      by_cases e : p = s
      · subst e
        exact mCC_a ((mE_i.mp (hz.2.2.2 (180 + b) w1 m1 (by omega) hw1 hwo1 (by omega))).2 p (by omega)) (hwo1.2.2.1 p)
      · exact fr3_m fr (by omega) (hwo1.2.2.1 p) (hs p (by omega))

set_option maxRecDepth 100000 in
set_option maxHeartbeats 4000000 in
/-- no calls -/
theorem mg_Ln {E : eN} (hE : eOk E) {f : aH} {t M : Nat} {Q : aP} {y : mV} {nn a m0 m1 : Nat} {z1 z4 : Int32} {w0 : eV} (hnn : nn < 60) (ha : a < 60) (hm : m0 + m1 ≤ 3) (h170 : y.1 17 0 = nI m0) (h171 : y.1 17 1 = nI m1) (h36 : y.1 36 a = -1) (hwo0 : enOk w0) : ∀ (d s : Nat) (z : mV), s + d = m1 → mFr (fun r => r = nn) y z → mE z nn w0 m0 → (∀ p, p < s → mNo z nn (m0 + p)) → (∀ z', mFr (fun r => r = nn) y z' → mE z' nn w0 m0 → (∀ p, p < m1 → mNo z' nn (m0 + p)) → V E mX10_merge 0 0 Q 408 [some (.ref M), some (.int z1), some (.int (nI nn)), some (.int (nI a)), some (.int z4), some (.int (nI m1))] [] (mdS f M z') t 0 0) → V E mX10_merge 0 0 Q 338 [some (.ref M), some (.int z1), some (.int (nI nn)), some (.int (nI a)), some (.int z4), some (.int (nI s))] [] (mdS f M z) t 0 0 := by
  intro d
  induction d using Nat.strongRecOn with
  | _ d ih =>
  intro s z hd hz hw hs hk
  refine v_iload dX10_merge_338 (by rfl) ?_
  refine v_aload_n dX10_merge_340 rfl (by rfl) ?_
  refine v_getf hE dX10_merge_341 fX10_63 mdS_M (by rfl) ?_
  refine v_iconst (v := nI 1) dX10_merge_344 (by decide) ?_
  refine m_iald hE (k := 17) dX10_merge_345 (by decide) (by decide) rfl (show _ < 4 by omega) (by omega) ?_
  refine v_eqi (y := nI m1) ((congrFun (hz.2.1 17 (by omega)) 1).trans h171) ?_
  refine v_icmp_geN (tgt := 408) dX10_merge_346 (by decide) (by omega) (by omega) (fun c346 => ?_) (fun c346 => ?_)
  · have e9 : s = m1 := by omega
    subst e9
    exact hk z hz hw hs
  · refine v_aload_n dX10_merge_349 rfl (by rfl) ?_
    refine v_getf hE dX10_merge_350 fX10_121 mdS_M (by rfl) ?_
    refine v_iload_n dX10_merge_353 rfl (by rfl) ?_
    refine m_iald hE (k := 36) dX10_merge_354 (by decide) (by decide) rfl (show _ < 60 by omega) (by omega) ?_
    refine v_eqi (y := -1) ((congrFun (hz.2.1 36 (by omega)) a).trans h36) ?_
    refine v_iconst (v := (-1)) dX10_merge_355 (by decide) ?_
    refine v_icmp_eq (tgt := 388) dX10_merge_356 (by decide) (fun c356 => ?_) (fun c356 => ?_)
    · refine v_aload_n dX10_merge_388 rfl (by rfl) ?_
      refine v_iload_n dX10_merge_389 rfl (by rfl) ?_
      refine v_aload_n dX10_merge_390 rfl (by rfl) ?_
      refine v_getf hE dX10_merge_391 fX10_63 mdS_M (by rfl) ?_
      refine v_iconst (v := nI 0) dX10_merge_394 (by decide) ?_
      refine m_iald hE (k := 17) dX10_merge_395 (by decide) (by decide) rfl (show _ < 4 by omega) (by omega) ?_
      refine v_eqi (y := nI m0) ((congrFun (hz.2.1 17 (by omega)) 0).trans h170) ?_
      refine v_iload dX10_merge_396 (by rfl) ?_
      refine v_iaddN dX10_merge_398 ?_
      refine w_callV hE dX10_merge_399 kX10_356 mdS_M (by rfl) (by rfl) (sX10_noCalls hE (a := nn) (s := m0 + s) (by omega) (by omega)) rfl (by decide) (by decide) (by exact Nat.le_of_ble_eq_true rfl) (by omega) (by omega) (fun v9 g9 u9 h9 => ?_) (fun _ _ _ h => by cases h.1)
      obtain ⟨hv9, hu9, hg9⟩ := h9
      replace hu9 := hu9.symm
      subst hu9
      subst hg9
      cases hv9
      refine v_iincN (y := 1) dX10_merge_402 (by rfl) (by decide) (by decide) ?_
      refine v_goto (tgt := 338) dX10_merge_405 (by decide) ?_
      have fr := mNC_f (y := z) (a := nn) (s := m0 + s) hz.2.2.1
      refine ih (d - 1) (by omega) (s + 1) _ (by omega) (fr3_F hz fr rfl (by omega)) (fr3_M fr (fun p hp => by omega) hw hwo0) (fun p hp => ?_) hk
      by_cases e : p = s
      · subst e
        exact mNC_a
      · exact fr3_n fr (by omega) (hs p (by omega))
    · exact absurd rfl c356

set_option maxRecDepth 100000 in
set_option maxHeartbeats 4000000 in
/-- its calls -/
theorem mg_B1 {E : eN} (hE : eOk E) {f : aH} {t M : Nat} {Q : aP} {y : mV} {nn b m0 m1 : Nat} {z1 z3 : Int32} {w1 : eV} (hnn : nn < 60) (hb : b < 60) (hm : m0 + m1 ≤ 3) (h170 : y.1 17 0 = nI m0) (h171 : y.1 17 1 = nI m1) (hw1 : mE y (180 + b) w1 m1) (hwo1 : enOk w1) : ∀ (d s : Nat) (z : mV), s + d = m1 → mFr (fun r => r = nn) y z → mE z nn w1 0 → (∀ p, p < s → mSm z nn (m0 + p) w1 p) → (∀ z', mFr (fun r => r = nn) y z' → mE z' nn w1 0 → (∀ p, p < m1 → mSm z' nn (m0 + p) w1 p) → V E mX10_merge 0 0 Q 470 [some (.ref M), some (.int z1), some (.int (nI nn)), some (.int z3), some (.int (nI b)), some (.int (nI m1))] [] (mdS f M z') t 0 0) → V E mX10_merge 0 0 Q 431 [some (.ref M), some (.int z1), some (.int (nI nn)), some (.int z3), some (.int (nI b)), some (.int (nI s))] [] (mdS f M z) t 0 0 := by
  intro d
  induction d using Nat.strongRecOn with
  | _ d ih =>
  intro s z hd hz hw hs hk
  refine v_iload dX10_merge_431 (by rfl) ?_
  refine v_aload_n dX10_merge_433 rfl (by rfl) ?_
  refine v_getf hE dX10_merge_434 fX10_63 mdS_M (by rfl) ?_
  refine v_iconst (v := nI 1) dX10_merge_437 (by decide) ?_
  refine m_iald hE (k := 17) dX10_merge_438 (by decide) (by decide) rfl (show _ < 4 by omega) (by omega) ?_
  refine v_eqi (y := nI m1) ((congrFun (hz.2.1 17 (by omega)) 1).trans h171) ?_
  refine v_icmp_geN (tgt := 470) dX10_merge_439 (by decide) (by omega) (by omega) (fun c439 => ?_) (fun c439 => ?_)
  · have e9 : s = m1 := by omega
    subst e9
    exact hk z hz hw hs
  · refine v_aload_n dX10_merge_442 rfl (by rfl) ?_
    refine v_iload_n dX10_merge_443 rfl (by rfl) ?_
    refine v_aload_n dX10_merge_444 rfl (by rfl) ?_
    refine v_getf hE dX10_merge_445 fX10_63 mdS_M (by rfl) ?_
    refine v_iconst (v := nI 0) dX10_merge_448 (by decide) ?_
    refine m_iald hE (k := 17) dX10_merge_449 (by decide) (by decide) rfl (show _ < 4 by omega) (by omega) ?_
    refine v_eqi (y := nI m0) ((congrFun (hz.2.1 17 (by omega)) 0).trans h170) ?_
    refine v_iload dX10_merge_450 (by rfl) ?_
    refine v_iaddN dX10_merge_452 ?_
    refine v_sipush (v := nI 180) dX10_merge_453 (by decide) ?_
    refine v_iload dX10_merge_456 (by rfl) ?_
    refine v_iaddN dX10_merge_458 ?_
    refine v_iload dX10_merge_459 (by rfl) ?_
    refine w_callV hE dX10_merge_461 kX10_190 mdS_M (by rfl) (by rfl) (sX10_copyCalls hE (a := nn) (s := m0 + s) (b := 180 + b) (r := s) hz.2.2.1 (by omega) (by omega) (by omega) (by omega)) rfl (by decide) (by decide) (by exact Nat.le_of_ble_eq_true rfl) (by omega) (by omega) (fun v9 g9 u9 h9 => ?_) (fun _ _ _ h => by cases h.1)
    obtain ⟨hv9, hu9, hg9⟩ := h9
    replace hu9 := hu9.symm
    subst hu9
    subst hg9
    cases hv9
    refine v_iincN (y := 1) dX10_merge_464 (by rfl) (by decide) (by decide) ?_
    refine v_goto (tgt := 431) dX10_merge_467 (by decide) ?_
    have fr := mCC_f (y := z) (a := nn) (s := m0 + s) (b := 180 + b) (r := s) hz.2.2.1
    refine ih (d - 1) (by omega) (s + 1) _ (by omega) (fr3_F hz fr rfl (by omega)) (fr3_0 fr hw) (fun p hp => ?_) hk
    by_cases e : p = s
    · subst e
      exact mCC_a ((mE_i.mp (hz.2.2.2 (180 + b) w1 m1 (by omega) hw1 hwo1 (by omega))).2 p (by omega)) (hwo1.2.2.1 p)
    · exact fr3_m fr (by omega) (hwo1.2.2.1 p) (hs p (by omega))

set_option maxRecDepth 100000 in
set_option maxHeartbeats 4000000 in
/-- no calls of the one table -/
theorem mg_B2 {E : eN} (hE : eOk E) {f : aH} {t M : Nat} {Q : aP} {y : mV} {nn b m0 m1 : Nat} {z1 z3 : Int32} {w1 : eV} (hnn : nn < 60) (hm : m0 + m1 ≤ 3) (h170 : y.1 17 0 = nI m0) (hwo1 : enOk w1) : ∀ (d s : Nat) (z : mV), s + d = m0 → mFr (fun r => r = nn) y z → mE z nn w1 0 → (∀ p, p < m1 → mSm z nn (m0 + p) w1 p) → (∀ p, p < s → mNo z nn p) → (∀ z', mFr (fun r => r = nn) y z' → mE z' nn w1 0 → (∀ p, p < m1 → mSm z' nn (m0 + p) w1 p) → (∀ p, p < m0 → mNo z' nn p) → V E mX10_merge 0 0 Q 497 [some (.ref M), some (.int z1), some (.int (nI nn)), some (.int z3), some (.int (nI b)), some (.int (nI m0))] [] (mdS f M z') t 0 0) → V E mX10_merge 0 0 Q 473 [some (.ref M), some (.int z1), some (.int (nI nn)), some (.int z3), some (.int (nI b)), some (.int (nI s))] [] (mdS f M z) t 0 0 := by
  intro d
  induction d using Nat.strongRecOn with
  | _ d ih =>
  intro s z hd hz hw hc hs hk
  refine v_iload dX10_merge_473 (by rfl) ?_
  refine v_aload_n dX10_merge_475 rfl (by rfl) ?_
  refine v_getf hE dX10_merge_476 fX10_63 mdS_M (by rfl) ?_
  refine v_iconst (v := nI 0) dX10_merge_479 (by decide) ?_
  refine m_iald hE (k := 17) dX10_merge_480 (by decide) (by decide) rfl (show _ < 4 by omega) (by omega) ?_
  refine v_eqi (y := nI m0) ((congrFun (hz.2.1 17 (by omega)) 0).trans h170) ?_
  refine v_icmp_geN (tgt := 497) dX10_merge_481 (by decide) (by omega) (by omega) (fun c481 => ?_) (fun c481 => ?_)
  · have e9 : s = m0 := by omega
    subst e9
    exact hk z hz hw hc hs
  · refine v_aload_n dX10_merge_484 rfl (by rfl) ?_
    refine v_iload_n dX10_merge_485 rfl (by rfl) ?_
    refine v_iload dX10_merge_486 (by rfl) ?_
    refine w_callV hE dX10_merge_488 kX10_356 mdS_M (by rfl) (by rfl) (sX10_noCalls hE (a := nn) (s := s) (by omega) (by omega)) rfl (by decide) (by decide) (by exact Nat.le_of_ble_eq_true rfl) (by omega) (by omega) (fun v9 g9 u9 h9 => ?_) (fun _ _ _ h => by cases h.1)
    obtain ⟨hv9, hu9, hg9⟩ := h9
    replace hu9 := hu9.symm
    subst hu9
    subst hg9
    cases hv9
    refine v_iincN (y := 1) dX10_merge_491 (by rfl) (by decide) (by decide) ?_
    refine v_goto (tgt := 473) dX10_merge_494 (by decide) ?_
    have fr := mNC_f (y := z) (a := nn) (s := s) hz.2.2.1
    refine ih (d - 1) (by omega) (s + 1) _ (by omega) (fr3_F hz fr rfl (by omega)) (fr3_0 fr hw) (fun p hp => fr3_m fr (by omega) (hwo1.2.2.1 p) (hc p hp)) (fun p hp => ?_) hk
    by_cases e : p = s
    · subst e
      exact mNC_a
    · exact fr3_n fr (by omega) (hs p (by omega))

/-- the names of the other table are behind those of the one -/
def mgS (y : mV) (m0 s : Nat) (z : mV) : Prop := (∀ k, k ≠ 18 → k ≠ 19 → z.1 k = y.1 k) ∧ z.2 = y.2 ∧ aNw z.1 ∧ (∀ c, c < m0 ∨ 3 ≤ c → z.1 19 c = y.1 19 c) ∧ (∀ c, c < 20 * m0 ∨ 60 ≤ c → z.1 18 c = y.1 18 c) ∧ ∀ p, p < s → z.1 19 (m0 + p) = y.1 19 (3 + p) ∧ ∀ k, k < 20 → z.1 18 (20 * (m0 + p) + k) = y.1 18 (20 * (3 + p) + k)
theorem mgS_s {y z : mV} {m0 s : Nat} (h : mgS y m0 s z) (hs : m0 + s < 3) : mgS y m0 (s + 1) (mCS z 0 (m0 + s) 1 s) := by
  obtain ⟨a1, a2, a3, a4, a5, a6⟩ := h
  refine ⟨fun k h1 h2 => ?_, a2, mCS_nw a3, fun c hc => ?_, fun c hc => ?_, fun p hp => ?_⟩
  · show va_up (va_up z.1 19 _) 18 _ k = _
    rw [va_up_ne _ _ h1, va_up_ne _ _ h2]
    exact a1 k h1 h2
  · rw [mCS_19, updN (by omega)]
    exact a4 c hc
  · rw [mCS_18, mCp_o (by omega)]
    exact a5 c hc
  · rw [mCS_19, mCS_18]
    by_cases e : p = s
    · subst e
      refine ⟨?_, fun k hk => ?_⟩
      · rw [show 3 * 0 + (m0 + p) = m0 + p by omega, updS]
        exact a4 _ (by omega)
      · rw [mCp_i2 (k := k) (by omega) (by omega)]
        exact a5 _ (by omega)
    · obtain ⟨b1, b2⟩ := a6 p (by omega)
      refine ⟨?_, fun k hk => ?_⟩
      · rw [updN (by omega)]
        exact b1
      · rw [mCp_o (by omega)]
        exact b2 k hk
set_option maxRecDepth 100000 in
set_option maxHeartbeats 4000000 in
/-- the names of the samples -/
theorem mg_Sl {E : eN} (hE : eOk E) {f : aH} {t M : Nat} {Q : aP} {y : mV} {m0 m1 : Nat} {z1 z2 z3 z4 : Int32} (hm : m0 + m1 ≤ 3) (h170 : y.1 17 0 = nI m0) (h171 : y.1 17 1 = nI m1) : ∀ (d s : Nat) (z : mV), s + d = m1 → mgS y m0 s z → (∀ z', mgS y m0 m1 z' → V E mX10_merge 0 0 Q 550 [some (.ref M), some (.int z1), some (.int z2), some (.int z3), some (.int z4), some (.int (nI m1))] [] (mdS f M z') t 0 0) → V E mX10_merge 0 0 Q 516 [some (.ref M), some (.int z1), some (.int z2), some (.int z3), some (.int z4), some (.int (nI s))] [] (mdS f M z) t 0 0 := by
  intro d
  induction d using Nat.strongRecOn with
  | _ d ih =>
  intro s z hd hz hk
  refine v_iload dX10_merge_516 (by rfl) ?_
  refine v_aload_n dX10_merge_518 rfl (by rfl) ?_
  refine v_getf hE dX10_merge_519 fX10_63 mdS_M (by rfl) ?_
  refine v_iconst (v := nI 1) dX10_merge_522 (by decide) ?_
  refine m_iald hE (k := 17) dX10_merge_523 (by decide) (by decide) rfl (show _ < 4 by omega) (by omega) ?_
  refine v_eqi (y := nI m1) ((congrFun (hz.1 17 (by omega) (by omega)) 1).trans h171) ?_
  refine v_icmp_geN (tgt := 550) dX10_merge_524 (by decide) (by omega) (by omega) (fun c524 => ?_) (fun c524 => ?_)
  · have e9 : s = m1 := by omega
    subst e9
    exact hk z hz
  · refine v_aload_n dX10_merge_527 rfl (by rfl) ?_
    refine v_iconst (v := nI 0) dX10_merge_528 (by decide) ?_
    refine v_aload_n dX10_merge_529 rfl (by rfl) ?_
    refine v_getf hE dX10_merge_530 fX10_63 mdS_M (by rfl) ?_
    refine v_iconst (v := nI 0) dX10_merge_533 (by decide) ?_
    refine m_iald hE (k := 17) dX10_merge_534 (by decide) (by decide) rfl (show _ < 4 by omega) (by omega) ?_
    refine v_eqi (y := nI m0) ((congrFun (hz.1 17 (by omega) (by omega)) 0).trans h170) ?_
    refine v_iload dX10_merge_535 (by rfl) ?_
    refine v_iaddN dX10_merge_537 ?_
    refine v_iconst (v := nI 1) dX10_merge_538 (by decide) ?_
    refine v_iload dX10_merge_539 (by rfl) ?_
    refine w_callV hE dX10_merge_541 kX10_194 mdS_M (by rfl) (by rfl) (sX10_copySample hE (a := 0) (s := m0 + s) (b := 1) (r := s) hz.2.2.1 (by omega) (by omega) (by omega) (by omega) (by omega)) rfl (by decide) (by decide) (by exact Nat.le_of_ble_eq_true rfl) (by omega) (by omega) (fun v9 g9 u9 h9 => ?_) (fun _ _ _ h => by cases h.1)
    obtain ⟨hv9, hu9, hg9⟩ := h9
    replace hu9 := hu9.symm
    subst hu9
    subst hg9
    cases hv9
    refine v_iincN (y := 1) dX10_merge_544 (by rfl) (by decide) (by decide) ?_
    refine v_goto (tgt := 516) dX10_merge_547 (by decide) ?_
    exact ih (d - 1) (by omega) (s + 1) _ (by omega) (mgS_s hz (by omega)) hk

set_option maxRecDepth 100000 in
set_option maxHeartbeats 4000000 in
/-- no partners -/
theorem mg_P0 {E : eN} (hE : eOk E) {f : aH} {t M : Nat} {Q : aP} {y : mV} {n : Nat} {z1 : Int32} {z3 z4 z5 : Option Value} (h16 : y.1 16 2 = nI n) (hn : n ≤ 60) : ∀ (d k : Nat) (A : Nat → Int32), k + d = n → (∀ j, j < k → A j = -1) → (∀ A', (∀ j, j < n → A' j = -1) → V E mX10_merge 0 0 Q 114 [some (.ref M), some (.int z1), some (.int (nI n)), z3, z4, z5] [] (mdS f M (va_up y.1 36 A', y.2)) t 0 0) → V E mX10_merge 0 0 Q 91 [some (.ref M), some (.int z1), some (.int (nI k)), z3, z4, z5] [] (mdS f M (va_up y.1 36 A, y.2)) t 0 0 := by
  intro d
  induction d using Nat.strongRecOn with
  | _ d ih =>
  intro k A hd hA hk
  refine v_iload_n dX10_merge_91 rfl (by rfl) ?_
  refine v_aload_n dX10_merge_92 rfl (by rfl) ?_
  refine v_getf hE dX10_merge_93 fX10_60 mdS_M (by rfl) ?_
  refine v_iconst (v := nI 2) dX10_merge_96 (by decide) ?_
  refine m_iald hE (k := 16) dX10_merge_97 (by decide) (by decide) rfl (show _ < 4 by omega) (by omega) ?_
  refine v_eqi (y := nI n) h16 ?_
  refine v_icmp_geN (tgt := 114) dX10_merge_98 (by decide) (by omega) (by omega) (fun c98 => ?_) (fun c98 => ?_)
  · have e9 : k = n := by omega
    subst e9
    exact hk A hA
  · refine v_aload_n dX10_merge_101 rfl (by rfl) ?_
    refine v_getf hE dX10_merge_102 fX10_121 mdS_M (by rfl) ?_
    refine v_iload_n dX10_merge_105 rfl (by rfl) ?_
    refine v_iconst (v := (-1)) dX10_merge_106 (by decide) ?_
    refine m_iast hE (k := 36) dX10_merge_107 (by decide) (by decide) rfl (show _ < 60 by omega) (by omega) ?_
    refine v_iincN (y := 1) dX10_merge_108 (by rfl) (by decide) (by decide) ?_
    refine v_goto (tgt := 91) dX10_merge_111 (by decide) ?_
    refine v_hp (show _ = mdS f M (va_up y.1 36 (upd A k (-1)), y.2) from md_c va_up_up) ?_
    refine ih (d - 1) (by omega) (k + 1) (upd A k (-1)) (by omega) (fun j hj => ?_) hk
    by_cases e : j = k
    · rw [e, updS]
    · rw [updN e]
      exact hA j (by omega)
