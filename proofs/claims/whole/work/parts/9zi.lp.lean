/-! apply: its loops -/
theorem mE_k {y : mV} {T U : Nat → Int32} {n r m : Nat} {w : eV} (h : mE y r w m) : mE (kS y T U n) r w m := h
theorem mGn_k {y : mV} {T U : Nat → Int32} {n : Nat} {g : gV} (h : mGn y g) : mGn (kS y T U n) g := h
theorem apSg_c {g : gV} {j n P : Nat} (h : n < P) (h1 : 1 ≤ n) : apSg g j n P = (gLe g (gSt g j + n - 1), nI n) :: apSg g j (n + 1) P := by
  unfold apSg
  rw [show P - n = (P - (n + 1)) + 1 by omega, List.range_succ_eq_map, List.map_cons, List.map_map]
  refine congrArg (List.cons _) (List.map_congr_left (fun a _ => ?_))
  show (gLe g (gSt g j + n - 1 + (a + 1)), nI (n + (a + 1))) = (gLe g (gSt g j + (n + 1) - 1 + a), nI (n + 1 + a))
  rw [show gSt g j + n - 1 + (a + 1) = gSt g j + (n + 1) - 1 + a by omega, show n + (a + 1) = n + 1 + a by omega]
theorem apSg_0 {g : gV} {j n P : Nat} (h : P ≤ n) : apSg g j n P = [] := by
  unfold apSg
  rw [show P - n = 0 by omega]
  rfl
theorem va3a {α : Type} {y : Nat → α} {O C B O' B' : α} : va_up (va_up (va_up (va_up (va_up y 32 O) 33 C) 34 B) 32 O') 34 B' = va_up (va_up (va_up y 32 O') 33 C) 34 B' := by
  funext k
  simp only [va_up]
  repeat' split
  all_goals first | rfl | omega
theorem va3b {α : Type} {y : Nat → α} {O C B O' B' C' : α} : va_up (va_up (va_up (va_up (va_up (va_up y 32 O) 33 C) 34 B) 32 O') 34 B') 33 C' = va_up (va_up (va_up y 32 O') 33 C') 34 B' := by
  funext k
  simp only [va_up]
  repeat' split
  all_goals first | rfl | omega
set_option maxRecDepth 100000 in
set_option maxHeartbeats 4000000 in
/-- the letters before a record -/
theorem ap_A {E : eN} (hE : eOk E) {f : aH} {t M : Nat} {Q : aP} {y : mV} {g : gV} {i n w s u r P : Nat} (hg : mGn y g) (hgo : gOk g) (hgl : gLv g) (hs : s < gCt g) (hr : r < 240) (hP : y.1 21 r = nI P) (hP2 : P ≤ gSz g s + 1) : ∀ (d p : Nat) (T U : Nat → Int32) (l : List (Int32 × Int32)), p + d = P → 1 ≤ p → kTl T U l → l.length + d ≤ 8100 → (∀ T' U', kTl T' U' (l ++ apSg g s p P) → V E mX10_apply 0 0 Q 138 [some (.ref M), some (.int (nI i)), some (.int (nI n)), some (.int (nI w)), some (.int (nI s)), some (.int (nI P)), some (.int (nI u)), some (.int (nI r)), none] [] (mdS f M (kS y T' U' (l ++ apSg g s p P).length)) t 0 0) → V E mX10_apply 0 0 Q 106 [some (.ref M), some (.int (nI i)), some (.int (nI n)), some (.int (nI w)), some (.int (nI s)), some (.int (nI p)), some (.int (nI u)), some (.int (nI r)), none] [] (mdS f M (kS y T U l.length)) t 0 0 := by
  have hg3 := hgo.2.2.1
  have hg4 := hgo.2.2.2 s hs
  have hgc := hgo.1.1
  have hg2 := hgo.2.1
  intro d
  induction d using Nat.strongRecOn with
  | _ d ih =>
  intro p T U l hd h1 hA hl hk
  refine v_iload dX10_apply_106 (by rfl) ?_
  refine v_aload_n dX10_apply_108 rfl (by rfl) ?_
  refine v_getf hE dX10_apply_109 fX10_75 mdS_M (by rfl) ?_
  refine v_iload dX10_apply_112 (by rfl) ?_
  refine m_iald hE (k := 21) dX10_apply_114 (by decide) (by decide) rfl (show _ < 240 by omega) (by omega) ?_
  refine v_eqi (y := nI P) hP ?_
  refine v_icmp_geN (tgt := 138) dX10_apply_115 (by decide) (by omega) (by omega) (fun c115 => ?_) (fun c115 => ?_)
  · have e8 : p = P := by omega
    have e9 : l ++ apSg g s p P = l := by rw [apSg_0 (by omega), List.append_nil]
    have hk9 := hk T U (by rw [e9]; exact hA)
    rw [e9] at hk9
    rw [e8]
    exact hk9
  · refine v_aload_n dX10_apply_118 rfl (by rfl) ?_
    refine v_aload_n dX10_apply_119 rfl (by rfl) ?_
    refine v_iload dX10_apply_120 (by rfl) ?_
    refine v_iload dX10_apply_122 (by rfl) ?_
    refine w_callV hE dX10_apply_124 kX10_255 mdS_M (by rfl) (by rfl) (sX10_refAt hE (g := g) (s := s) (p := p) (mGn_k hg) hgo hs h1 (by omega)) rfl (by decide) (by decide) (by exact Nat.le_of_ble_eq_true rfl) (by omega) (by omega) (fun v9 g9 u9 h9 => ?_) (fun _ _ _ h => by cases h.1)
    obtain ⟨hv9, hu9, hg9⟩ := h9
    replace hu9 := hu9.symm
    subst hu9
    subst hg9
    cases hv9
    obtain ⟨c, c1, c2⟩ := hgl.1 (gSt g s + p - 1) (by have := hgo.2.2.2 s hs; omega)
    refine v_eqi (y := nI c) ((gnLet_in hs h1 (by omega)).trans c2) ?_
    refine v_iload dX10_apply_127 (by rfl) ?_
    refine w_callV hE dX10_apply_129 kX10_362 mdS_M (by rfl) (by rfl) (sX10_add hE hA (by omega) c1) rfl (by decide) (by decide) (by exact Nat.le_of_ble_eq_true rfl) (by omega) (by omega) (fun v9 g9 u9 h9 => ?_) (fun _ _ _ h => by cases h.1)
    obtain ⟨hv9, hu9, hg9⟩ := h9
    replace hu9 := hu9.symm
    subst hu9
    subst hg9
    cases hv9
    refine v_iincN (y := 1) dX10_apply_132 (by rfl) (by decide) (by decide) ?_
    refine v_goto (tgt := 106) dX10_apply_135 (by decide) ?_
    have hA9 := kTl_s (x := nI p) hA c1
    refine ih (d - 1) (by omega) (p + 1) _ _ (l ++ [(nI c, nI p)]) (by omega) (by omega) hA9 (by rw [List.length_append]; show l.length + 1 + _ ≤ _; omega) (fun T' U' hT' => ?_)
    have e9 : l ++ [(nI c, nI p)] ++ apSg g s (p + 1) P = l ++ apSg g s p P := by
      rw [List.append_assoc, apSg_c (show p < P by omega) h1, ← c2]
      rfl
    rw [e9] at hT' ⊢
    exact hk T' U' hT'

set_option maxRecDepth 100000 in
set_option maxHeartbeats 4000000 in
/-- the letters behind the last record -/
theorem ap_B {E : eN} (hE : eOk E) {f : aH} {t M : Nat} {Q : aP} {y : mV} {g : gV} {i n w s u : Nat} {z7 : Int32} (hg : mGn y g) (hgo : gOk g) (hgl : gLv g) (hs : s < gCt g) : ∀ (d p : Nat) (T U : Nat → Int32) (l : List (Int32 × Int32)), p + d = gSz g s + 1 → 1 ≤ p → kTl T U l → l.length + d ≤ 8100 → (∀ T' U', kTl T' U' (l ++ apSg g s p (gSz g s + 1)) → V E mX10_apply 0 0 Q 229 [some (.ref M), some (.int (nI i)), some (.int (nI n)), some (.int (nI w)), some (.int (nI s)), some (.int (nI (gSz g s + 1))), some (.int (nI u)), some (.int z7), none] [] (mdS f M (kS y T' U' (l ++ apSg g s p (gSz g s + 1)).length)) t 0 0) → V E mX10_apply 0 0 Q 197 [some (.ref M), some (.int (nI i)), some (.int (nI n)), some (.int (nI w)), some (.int (nI s)), some (.int (nI p)), some (.int (nI u)), some (.int z7), none] [] (mdS f M (kS y T U l.length)) t 0 0 := by
  have hg3 := hgo.2.2.1
  have hg4 := hgo.2.2.2 s hs
  have hgc := hgo.1.1
  have hg2 := hgo.2.1
  intro d
  induction d using Nat.strongRecOn with
  | _ d ih =>
  intro p T U l hd h1 hA hl hk
  refine v_iload dX10_apply_197 (by rfl) ?_
  refine v_aload_n dX10_apply_199 rfl (by rfl) ?_
  refine v_getf hE dX10_apply_200 fX10_30 mdS_M (by rfl) ?_
  refine v_iload dX10_apply_203 (by rfl) ?_
  refine m_iald hE (k := 6) dX10_apply_205 (by decide) (by decide) rfl (show _ < 9 by omega) (by omega) ?_
  refine v_eqi (y := nI (gSz g s)) (hg.2.1 s hs).2.2.2.1 ?_
  refine v_icmp_gtN (tgt := 229) dX10_apply_206 (by decide) (by omega) (by omega) (fun c206 => ?_) (fun c206 => ?_)
  · have e8 : p = gSz g s + 1 := by omega
    have e9 : l ++ apSg g s p (gSz g s + 1) = l := by rw [apSg_0 (by omega), List.append_nil]
    have hk9 := hk T U (by rw [e9]; exact hA)
    rw [e9] at hk9
    rw [e8]
    exact hk9
  · refine v_aload_n dX10_apply_209 rfl (by rfl) ?_
    refine v_aload_n dX10_apply_210 rfl (by rfl) ?_
    refine v_iload dX10_apply_211 (by rfl) ?_
    refine v_iload dX10_apply_213 (by rfl) ?_
    refine w_callV hE dX10_apply_215 kX10_255 mdS_M (by rfl) (by rfl) (sX10_refAt hE (g := g) (s := s) (p := p) (mGn_k hg) hgo hs h1 (by omega)) rfl (by decide) (by decide) (by exact Nat.le_of_ble_eq_true rfl) (by omega) (by omega) (fun v9 g9 u9 h9 => ?_) (fun _ _ _ h => by cases h.1)
    obtain ⟨hv9, hu9, hg9⟩ := h9
    replace hu9 := hu9.symm
    subst hu9
    subst hg9
    cases hv9
    obtain ⟨c, c1, c2⟩ := hgl.1 (gSt g s + p - 1) (by have := hgo.2.2.2 s hs; omega)
    refine v_eqi (y := nI c) ((gnLet_in hs h1 (by omega)).trans c2) ?_
    refine v_iload dX10_apply_218 (by rfl) ?_
    refine w_callV hE dX10_apply_220 kX10_362 mdS_M (by rfl) (by rfl) (sX10_add hE hA (by omega) c1) rfl (by decide) (by decide) (by exact Nat.le_of_ble_eq_true rfl) (by omega) (by omega) (fun v9 g9 u9 h9 => ?_) (fun _ _ _ h => by cases h.1)
    obtain ⟨hv9, hu9, hg9⟩ := h9
    replace hu9 := hu9.symm
    subst hu9
    subst hg9
    cases hv9
    refine v_iincN (y := 1) dX10_apply_223 (by rfl) (by decide) (by decide) ?_
    refine v_goto (tgt := 197) dX10_apply_226 (by decide) ?_
    have hA9 := kTl_s (x := nI p) hA c1
    refine ih (d - 1) (by omega) (p + 1) _ _ (l ++ [(nI c, nI p)]) (by omega) (by omega) hA9 (by rw [List.length_append]; show l.length + 1 + _ ≤ _; omega) (fun T' U' hT' => ?_)
    have e9 : l ++ [(nI c, nI p)] ++ apSg g s (p + 1) (gSz g s + 1) = l ++ apSg g s p (gSz g s + 1) := by
      rw [List.append_assoc, apSg_c (show p < (gSz g s + 1) by omega) h1, ← c2]
      rfl
    rw [e9] at hT' ⊢
    exact hk T' U' hT'

set_option maxRecDepth 100000 in
set_option maxHeartbeats 4000000 in
/-- carriedTo -/
theorem ap_Cl {E : eN} (hE : eOk E) {f : aH} {t M : Nat} {Q : aP} {y : mV} {i n w s m : Nat} {z5 z6 z7 : Int32} (hm : y.2 39 = nI m) (hm2 : m ≤ 3000) : ∀ (d k : Nat) (C : Nat → Int32), k + d = m + 1 → 1 ≤ k → (∀ j, 1 ≤ j → j < k → C j = -1) → (∀ C', (∀ j, 1 ≤ j → j ≤ m → C' j = -1) → V E mX10_apply 0 0 Q 279 [some (.ref M), some (.int (nI i)), some (.int (nI n)), some (.int (nI w)), some (.int (nI s)), some (.int z5), some (.int z6), some (.int z7), some (.int (nI (m + 1)))] [] (mdS f M (va_up y.1 33 C', y.2)) t 0 0) → V E mX10_apply 0 0 Q 256 [some (.ref M), some (.int (nI i)), some (.int (nI n)), some (.int (nI w)), some (.int (nI s)), some (.int z5), some (.int z6), some (.int z7), some (.int (nI k))] [] (mdS f M (va_up y.1 33 C, y.2)) t 0 0 := by
  intro d
  induction d using Nat.strongRecOn with
  | _ d ih =>
  intro k C hd h1 hC hk
  refine v_iload dX10_apply_256 (by rfl) ?_
  refine v_aload_n dX10_apply_258 rfl (by rfl) ?_
  refine v_getf hE dX10_apply_259 fX10_376 mdS_M (by rfl) ?_
  refine v_eqi (y := nI m) hm ?_
  refine v_icmp_gtN (tgt := 279) dX10_apply_262 (by decide) (by omega) (by omega) (fun c262 => ?_) (fun c262 => ?_)
  · have e8 : k = m + 1 := by omega
    subst e8
    exact hk C (fun j j1 j2 => hC j j1 (by omega))
  · refine v_aload_n dX10_apply_265 rfl (by rfl) ?_
    refine v_getf hE dX10_apply_266 fX10_112 mdS_M (by rfl) ?_
    refine v_iload dX10_apply_269 (by rfl) ?_
    refine v_iconst (v := (-1)) dX10_apply_271 (by decide) ?_
    refine m_iast hE (k := 33) dX10_apply_272 (by decide) (by decide) rfl (show _ < 3002 by omega) (by omega) ?_
    refine v_iincN (y := 1) dX10_apply_273 (by rfl) (by decide) (by decide) ?_
    refine v_goto (tgt := 256) dX10_apply_276 (by decide) ?_
    refine v_hp (show _ = mdS f M (va_up y.1 33 (upd C k (-1)), y.2) from md_c va_up_up) ?_
    refine ih (d - 1) (by omega) (k + 1) (upd C k (-1)) (by omega) (by omega) (fun j j1 j2 => ?_) hk
    by_cases e : j = k
    · rw [e, updS]
    · rw [updN e]
      exact hC j j1 (by omega)

set_option maxRecDepth 100000 in
set_option maxHeartbeats 4000000 in
/-- out, backTo and carriedTo -/
theorem ap_Dl {E : eN} (hE : eOk E) {f : aH} {t M : Nat} {Q : aP} {y : mV} {i n w s m : Nat} {z5 z6 z7 : Int32} {l : List (Int32 × Int32)} (hm : y.2 51 = nI l.length) (hl : l.length ≤ 8000) (hm2 : m ≤ 3001) (hT : kTl (y.1 38) (y.1 39) l) (hv : ∀ k, k < l.length → (l.getD k (0, 0)).2 = -1 ∨ ∃ p0, 1 ≤ p0 ∧ p0 ≤ 3001 ∧ (l.getD k (0, 0)).2 = nI p0) : ∀ (d k : Nat) (O C B : Nat → Int32), k + d = l.length → (∀ j, j < k → O j = (l.getD j (0, 0)).1 ∧ B (j + 1) = (l.getD j (0, 0)).2) → (∀ p, 1 ≤ p → p ≤ m → crL l p (l.length - k) k (C p) = crL l p l.length 0 (-1)) → (∀ j, vp_nar .byte (O j) = O j) → (∀ O C B : Nat → Int32, (∀ j, j < l.length → O j = (l.getD j (0, 0)).1 ∧ B (j + 1) = (l.getD j (0, 0)).2) → (∀ p, 1 ≤ p → p ≤ m → C p = crL l p l.length 0 (-1)) → (∀ j, vp_nar .byte (O j) = O j) → V E mX10_apply 0 0 Q 362 [some (.ref M), some (.int (nI i)), some (.int (nI n)), some (.int (nI w)), some (.int (nI s)), some (.int z5), some (.int z6), some (.int z7), some (.int (nI l.length))] [] (mdS f M (va_up (va_up (va_up y.1 32 O) 33 C) 34 B, y.2)) t 0 0) → V E mX10_apply 0 0 Q 290 [some (.ref M), some (.int (nI i)), some (.int (nI n)), some (.int (nI w)), some (.int (nI s)), some (.int z5), some (.int z6), some (.int z7), some (.int (nI k))] [] (mdS f M (va_up (va_up (va_up y.1 32 O) 33 C) 34 B, y.2)) t 0 0 := by
  intro d
  induction d using Nat.strongRecOn with
  | _ d ih =>
  intro k O C B hd hOB hC hO hk
  refine v_iload dX10_apply_290 (by rfl) ?_
  refine v_aload_n dX10_apply_292 rfl (by rfl) ?_
  refine v_getf hE dX10_apply_293 fX10_359 mdS_M (by rfl) ?_
  refine v_eqi (y := nI l.length) hm ?_
  refine v_icmp_geN (tgt := 362) dX10_apply_296 (by decide) (by omega) (by omega) (fun c296 => ?_) (fun c296 => ?_)
  · have e8 : k = l.length := by omega
    subst e8
    refine hk O C B hOB (fun p p1 p2 => ?_) hO
    have h9 := hC p p1 p2
    rw [Nat.sub_self] at h9
    exact h9
  · refine v_aload_n dX10_apply_299 rfl (by rfl) ?_
    refine v_getf hE dX10_apply_300 fX10_109 mdS_M (by rfl) ?_
    refine v_iload dX10_apply_303 (by rfl) ?_
    refine v_aload_n dX10_apply_305 rfl (by rfl) ?_
    refine v_getf hE dX10_apply_306 fX10_127 mdS_M (by rfl) ?_
    refine v_iload dX10_apply_309 (by rfl) ?_
    refine m_bald hE (k := 38) dX10_apply_311 (by decide) (by decide) rfl (show _ < 8200 by omega) (by omega) ?_
    refine v_eqi (y := y.1 38 k) rfl ?_
    refine m_bast hE (k := 32) dX10_apply_312 (by decide) (by decide) rfl (show _ < 8200 by omega) (by omega) ?_
    rw [hT.2 k]
    refine v_aload_n dX10_apply_313 rfl (by rfl) ?_
    refine v_getf hE dX10_apply_314 fX10_115 mdS_M (by rfl) ?_
    refine v_iload dX10_apply_317 (by rfl) ?_
    refine v_iconst (v := nI 1) dX10_apply_319 (by decide) ?_
    refine v_iaddN dX10_apply_320 ?_
    refine v_aload_n dX10_apply_321 rfl (by rfl) ?_
    refine v_getf hE dX10_apply_322 fX10_130 mdS_M (by rfl) ?_
    refine v_iload dX10_apply_325 (by rfl) ?_
    refine m_iald hE (k := 39) dX10_apply_327 (by decide) (by decide) rfl (show _ < 8200 by omega) (by omega) ?_
    refine v_eqi (y := (l.getD k (0, 0)).2) (hT.1 k (by omega)).2 ?_
    refine m_iast hE (k := 34) dX10_apply_328 (by decide) (by decide) rfl (show _ < 8200 by omega) (by omega) ?_
    refine v_aload_n dX10_apply_329 rfl (by rfl) ?_
    refine v_getf hE dX10_apply_330 fX10_130 mdS_M (by rfl) ?_
    refine v_iload dX10_apply_333 (by rfl) ?_
    refine m_iald hE (k := 39) dX10_apply_335 (by decide) (by decide) rfl (show _ < 8200 by omega) (by omega) ?_
    refine v_eqi (y := (l.getD k (0, 0)).2) (hT.1 k (by omega)).2 ?_
    refine v_iconst (v := (-1)) dX10_apply_336 (by decide) ?_
    refine v_icmp_eq (tgt := 356) dX10_apply_337 (by decide) (fun c337 => ?_) (fun c337 => ?_)
    · refine v_iincN (y := 1) dX10_apply_356 (by rfl) (by decide) (by decide) ?_
      refine v_goto (tgt := 290) dX10_apply_359 (by decide) ?_
      refine v_hp (show _ = mdS f M (va_up (va_up (va_up y.1 32 (upd O k (y.1 38 k))) 33 C) 34 (upd B (k + 1) (l.getD k (0, 0)).2), y.2) from md_c va3a) ?_
      refine ih (d - 1) (by omega) (k + 1) (upd O k (y.1 38 k)) C (upd B (k + 1) (l.getD k (0, 0)).2) (by omega) (fun j hj => ?_) (fun p p1 p2 => ?_) (upd_nar hO (hT.2 k)) hk
      · by_cases e : j = k
        · rw [e, updS, updS]
          exact ⟨(hT.1 k (by omega)).1, rfl⟩
        · rw [updN e, updN (by omega)]
          exact hOB j (by omega)
      · refine Eq.trans ?_ (hC p p1 p2)
        rw [show l.length - k = (l.length - (k + 1)) + 1 by omega]
        show _ = crL l p _ (k + 1) (if (l.getD k (0, 0)).2 = nI p then nI (k + 1) else C p)
        rw [if_neg (by rw [c337]; exact fun z => nI_m1 (by omega) z.symm)]
    · obtain ⟨p0, hp1, hp2, hp3⟩ : ∃ p0, 1 ≤ p0 ∧ p0 ≤ 3001 ∧ (l.getD k (0, 0)).2 = nI p0 := by
        rcases hv k (by omega) with h | h
        · exact absurd h c337
        · exact h
      refine v_aload_n dX10_apply_340 rfl (by rfl) ?_
      refine v_getf hE dX10_apply_341 fX10_112 mdS_M (by rfl) ?_
      refine v_aload_n dX10_apply_344 rfl (by rfl) ?_
      refine v_getf hE dX10_apply_345 fX10_130 mdS_M (by rfl) ?_
      refine v_iload dX10_apply_348 (by rfl) ?_
      refine m_iald hE (k := 39) dX10_apply_350 (by decide) (by decide) rfl (show _ < 8200 by omega) (by omega) ?_
      refine v_eqi (y := nI p0) ((hT.1 k (by omega)).2.trans hp3) ?_
      refine v_iload dX10_apply_351 (by rfl) ?_
      refine v_iconst (v := nI 1) dX10_apply_353 (by decide) ?_
      refine v_iaddN dX10_apply_354 ?_
      refine m_iast hE (k := 33) dX10_apply_355 (by decide) (by decide) rfl (show _ < 3002 by omega) (by omega) ?_
      refine v_iincN (y := 1) dX10_apply_356 (by rfl) (by decide) (by decide) ?_
      refine v_goto (tgt := 290) dX10_apply_359 (by decide) ?_
      refine v_hp (show _ = mdS f M (va_up (va_up (va_up y.1 32 (upd O k (y.1 38 k))) 33 (upd C p0 (nI (k + 1)))) 34 (upd B (k + 1) (l.getD k (0, 0)).2), y.2) from md_c va3b) ?_
      refine ih (d - 1) (by omega) (k + 1) (upd O k (y.1 38 k)) (upd C p0 (nI (k + 1))) (upd B (k + 1) (l.getD k (0, 0)).2) (by omega) (fun j hj => ?_) (fun p p1 p2 => ?_) (upd_nar hO (hT.2 k)) hk
      · by_cases e : j = k
        · rw [e, updS, updS]
          exact ⟨(hT.1 k (by omega)).1, rfl⟩
        · rw [updN e, updN (by omega)]
          exact hOB j (by omega)
      · refine Eq.trans ?_ (hC p p1 p2)
        rw [show l.length - k = (l.length - (k + 1)) + 1 by omega]
        show _ = crL l p _ (k + 1) (if (l.getD k (0, 0)).2 = nI p then nI (k + 1) else C p)
        by_cases e : p = p0
        · rw [e, if_pos hp3, updS]
        · rw [if_neg (by rw [hp3]; exact fun z => e (nI_inj z (by omega) (by omega)).symm), updN e]
