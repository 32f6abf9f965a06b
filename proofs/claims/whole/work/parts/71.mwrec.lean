theorem tNumber_len {v : Nat} : (tNumber v).length ≤ 6 := dgs_len 6 100000
theorem tNumP_len {x : Int32} : (tNumP x).length ≤ 6 := by
  unfold tNumP
  split
  · exact (by decide : 1 ≤ 6)
  · exact tNumber_len
theorem txI_len {cs : List Nat} : (txI cs).length = cs.length := List.length_map _
/-- what is left to write of a record -/
def wR9 : List Int32 := [nI 10]
def wR8 (w : eV) (d i : Nat) : List Int32 := eSmpT w d i ++ wR9
def wR7 (w : eV) (n : Nat) : List Int32 := (if n = 0 then [] else [nI 9] ++ txI tx9) ++ wR8 w (n - 0) 0
def wR6 (w : eV) (n : Nat) : List Int32 := txI (if ePa w = true then tx8 else tx7) ++ ([nI 9] ++ ([nI 46] ++ wR7 w n))
def wR5 (w : eV) (n : Nat) : List Int32 := tNumP (eQu w) ++ ([nI 9] ++ wR6 w n)
def wR4b (w : eV) (n d r : Nat) : List Int32 := eAltT w d r ++ ([nI 9] ++ wR5 w n)
def wR4 (w : eV) (n : Nat) : List Int32 := (if 1 < eRo w then [] else [nI 46]) ++ wR4b w n (eRo w - 1) 1
def wR3 (w : eV) (n : Nat) : List Int32 := (if eIz w = 0 then [nI 46] else []) ++ ([nI 9] ++ (prt (eLe w) (eRs w 0) (0 * 24) ++ ([nI 9] ++ wR4 w n)))
def wR1 (w : eV) (n p : Nat) : List Int32 := [nI 9] ++ (tNumber p ++ ([nI 9] ++ (prt (eId w) (eIz w) 0 ++ wR3 w n)))
theorem wR_eq {w : eV} {n s p : Nat} {g : gV} : prt g.1.2.1 (g.1.2.2 s) (s * 20) ++ wR1 w n p = eWr w n g s p := by
  unfold eWr eWrH eWrR eWrP wR1 wR3 wR4 wR4b wR5 wR6 wR7 wR8 wR9 eAltsT
  by_cases e : eIz w = 0
  · rw [if_pos e, e]
    simp only [List.append_assoc, Nat.zero_mul, prt, List.nil_append, List.append_nil]
  · rw [if_neg e]
    simp only [List.append_assoc, Nat.zero_mul, List.nil_append, List.append_nil]
set_option maxRecDepth 100000 in
set_option maxHeartbeats 600000 in
/-- model: putRecord -/
theorem sX10_putRecord {E : eN} (hE : eOk E) {f : aH} {t : Nat} {M : Nat} {y : mV} {T : Nat → Int32} {l0 : List Int32} {i r n : Nat} {w : eV} {g : gV} (hT : mTl T l0) (hl : l0.length ≤ 40000) (hw : mE y r w n) (hwo : enOk w) (hgo2 : eGo w n g) (hlv : eLv w) (hg : mGn y g) (hgo : gOk g) (hgl : gLv g) (hr : r < 240) (hi : i < 4) (hn : y.1 17 i = nI n) (hn3 : n ≤ 3) : mT E mX10_putRecord 0 0 [.ref M, .int (nI i), .int (nI r)] (mdS f M (wS y T l0.length)) t (fun o f' t' => o = .inl none ∧ t' = t ∧ wP f M y (l0 ++ eWr w n g (eSq w).toNatClampNeg (ePl w).toNatClampNeg) f') := by
  obtain ⟨m1, m2, m3, m4, m5, m6, m7, m8, m9, m10⟩ := id hw
  obtain ⟨⟨s, p, hs1, hs2, hs3, hs4, hs5⟩, h6, h7, h8, h9⟩ := id hgo2
  have hro := hwo.1
  have hiz := hwo.2.2.2
  have k1 := hgo.2.2.1
  have k2 := hgo.2.2.2 s hs3
  have k3 := hgo.1.1
  have k4 := hgo.2.1
  have k5 := hgo.1.2.2 s
  obtain ⟨gf1, gf2, -⟩ := hg.2.1 s hs3
  obtain ⟨L, hL0⟩ : ∃ L, L = l0 ++ eWr w n g s p := ⟨_, rfl⟩
  rw [hs1, hs2, nI_clamp (by omega), nI_clamp (by omega), ← hL0]
  refine mT_of (n := 1) (lo := [some (.ref M), some (.int (nI i)), some (.int (nI r)), none]) (by decide) (by exact Nat.le_of_ble_eq_true rfl) rfl rfl ?_
  have st9 : ∀ (l : List Int32) (T : Nat → Int32) (z3 : Option Value), mTl T l → l.length ≤ 42000 → L = l ++ wR9 → V E mX10_putRecord 0 0 (fun o f' t' => o = .inl none ∧ t' = t ∧ wP f M y L f') 370 [some (.ref M), some (.int (nI i)), some (.int (nI r)), z3] [] (mdS f M (wS y T l.length)) t 0 0 := by
    intro l T z3 hT hl hL
    refine v_aload_n dX10_putRecord_370 rfl (by rfl) ?_
    refine v_bipush (v := nI 10) dX10_putRecord_371 (by decide) ?_
    refine w_callV hE dX10_putRecord_373 kX10_394 mdS_M (by rfl) (by rfl) (sX10_put hE (by assumption) (by first | omega | (simp only [List.length_append, List.length_cons, List.length_nil, prt_len, txI_len]; omega)) (by decide)) rfl (by decide) (by decide) (by exact Nat.le_of_ble_eq_true rfl) (by omega) (by omega) (fun v9 g9 u9 h9 => ?_) (fun _ _ _ h => by cases h.1)
    obtain ⟨hv9, hu9, T9, hg9, hT9⟩ := h9
    replace hu9 := hu9.symm
    subst hu9
    subst hg9
    cases hv9
    refine v_ret dX10_putRecord_376 rfl ?_
    rw [show L = l ++ [nI 10] from hL]
    exact ⟨rfl, rfl, T9, rfl, hT9⟩
  have st8 : ∀ (d j : Nat) (l : List Int32) (T : Nat → Int32), mTl T l → j + d = n → l.length ≤ 41600 + 20 * j → L = l ++ wR8 w (n - j) j → V E mX10_putRecord 0 0 (fun o f' t' => o = .inl none ∧ t' = t ∧ wP f M y L f') 274 [some (.ref M), some (.int (nI i)), some (.int (nI r)), some (.int (nI j))] [] (mdS f M (wS y T l.length)) t 0 0 := by
    intro d
    induction d using Nat.strongRecOn with
    | _ d ih =>
    intro j l T hT hd hl hL
    refine v_iload_n dX10_putRecord_274 rfl (by rfl) ?_
    refine v_aload_n dX10_putRecord_275 rfl (by rfl) ?_
    refine v_getf hE dX10_putRecord_276 fX10_63 mdS_M (by rfl) ?_
    refine v_iload_n dX10_putRecord_279 rfl (by rfl) ?_
    refine m_iald hE (k := 17) dX10_putRecord_280 (by decide) (by decide) rfl (show _ < 4 by omega) (by omega) ?_
    refine v_eqi (y := nI n) hn ?_
    refine v_icmp_geN (tgt := 370) dX10_putRecord_281 (by decide) (by omega) (by omega) (fun c281 => ?_) (fun c281 => ?_)
    · refine st9 l T _ hT (by omega) ?_
      rw [hL]
      unfold wR8
      rw [show n - j = 0 by omega]
      rfl
    · obtain ⟨a1, a2, a3⟩ := m10 j (by omega)
      obtain ⟨b1, b2⟩ := h9 j (by omega)
      have b3 := hwo.2.2.1 j
      have d0 : (eCa w (j * 2 + 0)) = -1 ∨ ∃ z : Nat, z < 4 ∧ (eCa w (j * 2 + 0)) = nI z := (b2 0 (by omega)).imp id (fun ⟨z, z1, z2⟩ => ⟨z, by omega, z2⟩)
      have d1 : 1 < eCn w j → (eCa w (j * 2 + 1)) = -1 ∨ ∃ z : Nat, z < 4 ∧ (eCa w (j * 2 + 1)) = nI z := fun hc9 => (b2 1 hc9).imp id (fun ⟨z, z1, z2⟩ => ⟨z, by omega, z2⟩)
      have l0 := tNumP_len (x := (eCa w (j * 2 + 0)))
      have l1 := tNumP_len (x := (eCa w (j * 2 + 1)))
      have e0 : eCall w j 0 = (eCa w (j * 2 + 0)) := if_pos (by omega)
      refine v_aload_n dX10_putRecord_284 rfl (by rfl) ?_
      refine v_bipush (v := nI 9) dX10_putRecord_285 (by decide) ?_
      refine w_callV hE dX10_putRecord_287 kX10_394 mdS_M (by rfl) (by rfl) (sX10_put hE (by assumption) (by first | omega | (simp only [List.length_append, List.length_cons, List.length_nil, prt_len, txI_len]; omega)) (by decide)) rfl (by decide) (by decide) (by exact Nat.le_of_ble_eq_true rfl) (by omega) (by omega) (fun v9 g9 u9 h9 => ?_) (fun _ _ _ h => by cases h.1)
      obtain ⟨hv9, hu9, T9, hg9, hT9⟩ := h9
      replace hu9 := hu9.symm
      subst hu9
      subst hg9
      cases hv9
      refine v_aload_n dX10_putRecord_290 rfl (by rfl) ?_
      refine v_aload_n dX10_putRecord_291 rfl (by rfl) ?_
      refine v_getf hE dX10_putRecord_292 fX10_100 mdS_M (by rfl) ?_
      refine v_bipush (v := nI 6) dX10_putRecord_295 (by decide) ?_
      refine v_iload_n dX10_putRecord_297 rfl (by rfl) ?_
      refine v_imulN dX10_putRecord_298 ?_
      refine v_iconst (v := nI 2) dX10_putRecord_299 (by decide) ?_
      refine v_iload_n dX10_putRecord_300 rfl (by rfl) ?_
      refine v_imulN dX10_putRecord_301 ?_
      refine v_iaddN dX10_putRecord_302 ?_
      refine m_iald hE (k := 29) dX10_putRecord_303 (by decide) (by decide) rfl (show _ < 1440 by omega) (by omega) ?_
      refine v_eqi (y := (eCa w (j * 2 + 0))) (a3 0 (by omega)) ?_
      refine w_callV hE dX10_putRecord_304 kX10_406 mdS_M (by rfl) (by rfl) (sX10_putCall hE (by assumption) (by first | omega | (simp only [List.length_append, List.length_cons, List.length_nil, prt_len, txI_len]; omega)) d0) rfl (by decide) (by decide) (by exact Nat.le_of_ble_eq_true rfl) (by omega) (by omega) (fun v9 g9 u9 h9 => ?_) (fun _ _ _ h => by cases h.1)
      obtain ⟨hv9, hu9, T9, hg9, hT9⟩ := h9
      replace hu9 := hu9.symm
      subst hu9
      subst hg9
      cases hv9
      refine v_aload_n dX10_putRecord_307 rfl (by rfl) ?_
      refine v_getf hE dX10_putRecord_308 fX10_103 mdS_M (by rfl) ?_
      refine v_iconst (v := nI 3) dX10_putRecord_311 (by decide) ?_
      refine v_iload_n dX10_putRecord_312 rfl (by rfl) ?_
      refine v_imulN dX10_putRecord_313 ?_
      refine v_iload_n dX10_putRecord_314 rfl (by rfl) ?_
      refine v_iaddN dX10_putRecord_315 ?_
      refine m_iald hE (k := 30) dX10_putRecord_316 (by decide) (by decide) rfl (show _ < 720 by omega) (by omega) ?_
      refine v_eqi (y := nI (eCn w j)) a1 ?_
      refine v_iconst (v := nI 2) dX10_putRecord_317 (by decide) ?_
      refine v_icmp_neN (tgt := 364) dX10_putRecord_318 (by decide) (by omega) (by omega) (fun c318 => ?_) (fun c318 => ?_)
      · refine v_iincN (y := 1) dX10_putRecord_364 (by rfl) (by decide) (by decide) ?_
        refine v_goto (tgt := 274) dX10_putRecord_367 (by decide) ?_
        refine ih (d - 1) (by omega) (j + 1) _ T9 hT9 (by omega) (by first | omega | (simp only [List.length_append, List.length_cons, List.length_nil, prt_len, txI_len]; omega)) ?_
        rw [hL]
        unfold wR8
        rw [show n - j = (n - (j + 1)) + 1 by omega, eSmpT]
        first
          | (rw [show eCn w j - 0 = 0 + 1 by omega, eCalT, eCalT, e0]
             simp only [List.append_assoc, List.nil_append, List.append_nil, Nat.lt_irrefl, if_false, if_neg]
             done)
          | (have e1 : eCall w j 1 = (eCa w (j * 2 + 1)) := if_pos (by omega)
             rw [show eCn w j - 0 = 0 + 1 + 1 by omega, eCalT, eCalT, eCalT, e0, e1, if_neg (Nat.lt_irrefl 0), if_pos (show 0 < 0 + 1 by omega), c332]
             simp only [List.append_assoc, List.nil_append, List.append_nil, if_true, Bool.false_eq_true, if_false]
             done)
      · refine v_aload_n dX10_putRecord_321 rfl (by rfl) ?_
        refine v_aload_n dX10_putRecord_322 rfl (by rfl) ?_
        refine v_getf hE dX10_putRecord_323 fX10_106 mdS_M (by rfl) ?_
        refine v_iconst (v := nI 3) dX10_putRecord_326 (by decide) ?_
        refine v_iload_n dX10_putRecord_327 rfl (by rfl) ?_
        refine v_imulN dX10_putRecord_328 ?_
        refine v_iload_n dX10_putRecord_329 rfl (by rfl) ?_
        refine v_iaddN dX10_putRecord_330 ?_
        refine m_zald hE (k := 31) dX10_putRecord_331 (by decide) (by decide) rfl (show _ < 720 by omega) (by omega) ?_
        refine v_eqi (y := bI (ePh w j)) a2 ?_
        refine v_if_eqB (tgt := 340) dX10_putRecord_332 (by decide) (fun c332 => ?_) (fun c332 => ?_)
        · refine v_bipush (v := nI 47) dX10_putRecord_340 (by decide) ?_
          refine w_callV hE dX10_putRecord_342 kX10_394 mdS_M (by rfl) (by rfl) (sX10_put hE (by assumption) (by first | omega | (simp only [List.length_append, List.length_cons, List.length_nil, prt_len, txI_len]; omega)) (by decide)) rfl (by decide) (by decide) (by exact Nat.le_of_ble_eq_true rfl) (by omega) (by omega) (fun v9 g9 u9 h9 => ?_) (fun _ _ _ h => by cases h.1)
          obtain ⟨hv9, hu9, T9, hg9, hT9⟩ := h9
          replace hu9 := hu9.symm
          subst hu9
          subst hg9
          cases hv9
          refine v_aload_n dX10_putRecord_345 rfl (by rfl) ?_
          refine v_aload_n dX10_putRecord_346 rfl (by rfl) ?_
          refine v_getf hE dX10_putRecord_347 fX10_100 mdS_M (by rfl) ?_
          refine v_bipush (v := nI 6) dX10_putRecord_350 (by decide) ?_
          refine v_iload_n dX10_putRecord_352 rfl (by rfl) ?_
          refine v_imulN dX10_putRecord_353 ?_
          refine v_iconst (v := nI 2) dX10_putRecord_354 (by decide) ?_
          refine v_iload_n dX10_putRecord_355 rfl (by rfl) ?_
          refine v_imulN dX10_putRecord_356 ?_
          refine v_iaddN dX10_putRecord_357 ?_
          refine v_iconst (v := nI 1) dX10_putRecord_358 (by decide) ?_
          refine v_iaddN dX10_putRecord_359 ?_
          refine m_iald hE (k := 29) dX10_putRecord_360 (by decide) (by decide) rfl (show _ < 1440 by omega) (by omega) ?_
          refine v_eqi (y := (eCa w (j * 2 + 1))) (a3 1 (by omega)) ?_
          refine w_callV hE dX10_putRecord_361 kX10_406 mdS_M (by rfl) (by rfl) (sX10_putCall hE (by assumption) (by first | omega | (simp only [List.length_append, List.length_cons, List.length_nil, prt_len, txI_len]; omega)) (d1 (by omega))) rfl (by decide) (by decide) (by exact Nat.le_of_ble_eq_true rfl) (by omega) (by omega) (fun v9 g9 u9 h9 => ?_) (fun _ _ _ h => by cases h.1)
          obtain ⟨hv9, hu9, T9, hg9, hT9⟩ := h9
          replace hu9 := hu9.symm
          subst hu9
          subst hg9
          cases hv9
          refine v_iincN (y := 1) dX10_putRecord_364 (by rfl) (by decide) (by decide) ?_
          refine v_goto (tgt := 274) dX10_putRecord_367 (by decide) ?_
          refine ih (d - 1) (by omega) (j + 1) _ T9 hT9 (by omega) (by first | omega | (simp only [List.length_append, List.length_cons, List.length_nil, prt_len, txI_len]; omega)) ?_
          rw [hL]
          unfold wR8
          rw [show n - j = (n - (j + 1)) + 1 by omega, eSmpT]
          first
            | (rw [show eCn w j - 0 = 0 + 1 by omega, eCalT, eCalT, e0]
               simp only [List.append_assoc, List.nil_append, List.append_nil, Nat.lt_irrefl, if_false, if_neg]
               done)
            | (have e1 : eCall w j 1 = (eCa w (j * 2 + 1)) := if_pos (by omega)
               rw [show eCn w j - 0 = 0 + 1 + 1 by omega, eCalT, eCalT, eCalT, e0, e1, if_neg (Nat.lt_irrefl 0), if_pos (show 0 < 0 + 1 by omega), c332]
               simp only [List.append_assoc, List.nil_append, List.append_nil, if_true, Bool.false_eq_true, if_false]
               done)
        · refine v_bipush (v := nI 124) dX10_putRecord_335 (by decide) ?_
          refine v_goto (tgt := 342) dX10_putRecord_337 (by decide) ?_
          refine w_callV hE dX10_putRecord_342 kX10_394 mdS_M (by rfl) (by rfl) (sX10_put hE (by assumption) (by first | omega | (simp only [List.length_append, List.length_cons, List.length_nil, prt_len, txI_len]; omega)) (by decide)) rfl (by decide) (by decide) (by exact Nat.le_of_ble_eq_true rfl) (by omega) (by omega) (fun v9 g9 u9 h9 => ?_) (fun _ _ _ h => by cases h.1)
          obtain ⟨hv9, hu9, T9, hg9, hT9⟩ := h9
          replace hu9 := hu9.symm
          subst hu9
          subst hg9
          cases hv9
          refine v_aload_n dX10_putRecord_345 rfl (by rfl) ?_
          refine v_aload_n dX10_putRecord_346 rfl (by rfl) ?_
          refine v_getf hE dX10_putRecord_347 fX10_100 mdS_M (by rfl) ?_
          refine v_bipush (v := nI 6) dX10_putRecord_350 (by decide) ?_
          refine v_iload_n dX10_putRecord_352 rfl (by rfl) ?_
          refine v_imulN dX10_putRecord_353 ?_
          refine v_iconst (v := nI 2) dX10_putRecord_354 (by decide) ?_
          refine v_iload_n dX10_putRecord_355 rfl (by rfl) ?_
          refine v_imulN dX10_putRecord_356 ?_
          refine v_iaddN dX10_putRecord_357 ?_
          refine v_iconst (v := nI 1) dX10_putRecord_358 (by decide) ?_
          refine v_iaddN dX10_putRecord_359 ?_
          refine m_iald hE (k := 29) dX10_putRecord_360 (by decide) (by decide) rfl (show _ < 1440 by omega) (by omega) ?_
          refine v_eqi (y := (eCa w (j * 2 + 1))) (a3 1 (by omega)) ?_
          refine w_callV hE dX10_putRecord_361 kX10_406 mdS_M (by rfl) (by rfl) (sX10_putCall hE (by assumption) (by first | omega | (simp only [List.length_append, List.length_cons, List.length_nil, prt_len, txI_len]; omega)) (d1 (by omega))) rfl (by decide) (by decide) (by exact Nat.le_of_ble_eq_true rfl) (by omega) (by omega) (fun v9 g9 u9 h9 => ?_) (fun _ _ _ h => by cases h.1)
          obtain ⟨hv9, hu9, T9, hg9, hT9⟩ := h9
          replace hu9 := hu9.symm
          subst hu9
          subst hg9
          cases hv9
          refine v_iincN (y := 1) dX10_putRecord_364 (by rfl) (by decide) (by decide) ?_
          refine v_goto (tgt := 274) dX10_putRecord_367 (by decide) ?_
          refine ih (d - 1) (by omega) (j + 1) _ T9 hT9 (by omega) (by first | omega | (simp only [List.length_append, List.length_cons, List.length_nil, prt_len, txI_len]; omega)) ?_
          rw [hL]
          unfold wR8
          rw [show n - j = (n - (j + 1)) + 1 by omega, eSmpT]
          first
            | (rw [show eCn w j - 0 = 0 + 1 by omega, eCalT, eCalT, e0]
               simp only [List.append_assoc, List.nil_append, List.append_nil, Nat.lt_irrefl, if_false, if_neg]
               done)
            | (have e1 : eCall w j 1 = (eCa w (j * 2 + 1)) := if_pos (by omega)
               rw [show eCn w j - 0 = 0 + 1 + 1 by omega, eCalT, eCalT, eCalT, e0, e1, if_neg (Nat.lt_irrefl 0), if_pos (show 0 < 0 + 1 by omega), c332]
               simp only [List.append_assoc, List.nil_append, List.append_nil, if_true, Bool.false_eq_true, if_false]
               done)
  have st7 : ∀ (l : List Int32) (T : Nat → Int32) (z3 : Option Value), mTl T l → l.length ≤ 41500 → L = l ++ wR7 w n → V E mX10_putRecord 0 0 (fun o f' t' => o = .inl none ∧ t' = t ∧ wP f M y L f') 252 [some (.ref M), some (.int (nI i)), some (.int (nI r)), z3] [] (mdS f M (wS y T l.length)) t 0 0 := by
    intro l T z3 hT hl hL
    refine v_aload_n dX10_putRecord_252 rfl (by rfl) ?_
    refine v_getf hE dX10_putRecord_253 fX10_63 mdS_M (by rfl) ?_
    refine v_iload_n dX10_putRecord_256 rfl (by rfl) ?_
    refine m_iald hE (k := 17) dX10_putRecord_257 (by decide) (by decide) rfl (show _ < 4 by omega) (by omega) ?_
    refine v_eqi (y := nI n) hn ?_
    refine v_if_leN (tgt := 272) dX10_putRecord_258 (by decide) (by omega) (fun c258 => ?_) (fun c258 => ?_)
    · refine v_iconst (v := nI 0) dX10_putRecord_272 (by decide) ?_
      refine v_istore_n dX10_putRecord_273 rfl (by decide) ?_
      first
        | (refine st8 n 0 l T hT (by omega) (by omega) ?_
           rw [hL]
           unfold wR7
           rw [if_pos (by omega)]
           rfl)
        | (have l4 : (mTx 4).length = 2 := by decide
           refine st8 n 0 _ T9 hT9 (by omega) (by first | omega | (simp only [List.length_append, List.length_cons, List.length_nil, prt_len, txI_len]; omega)) ?_
           rw [hL]
           unfold wR7
           rw [if_neg (by omega)]
           simp only [List.append_assoc]
           rfl)
    · refine v_aload_n dX10_putRecord_261 rfl (by rfl) ?_
      refine v_bipush (v := nI 9) dX10_putRecord_262 (by decide) ?_
      refine w_callV hE dX10_putRecord_264 kX10_394 mdS_M (by rfl) (by rfl) (sX10_put hE (by assumption) (by first | omega | (simp only [List.length_append, List.length_cons, List.length_nil, prt_len, txI_len]; omega)) (by decide)) rfl (by decide) (by decide) (by exact Nat.le_of_ble_eq_true rfl) (by omega) (by omega) (fun v9 g9 u9 h9 => ?_) (fun _ _ _ h => by cases h.1)
      obtain ⟨hv9, hu9, T9, hg9, hT9⟩ := h9
      replace hu9 := hu9.symm
      subst hu9
      subst hg9
      cases hv9
      refine v_aload_n dX10_putRecord_267 rfl (by rfl) ?_
      refine v_iconst (v := nI 4) dX10_putRecord_268 (by decide) ?_
      refine w_callV hE dX10_putRecord_269 kX10_403 mdS_M (by rfl) (by rfl) (sX10_putText hE (by assumption) (by first | omega | (simp only [List.length_append, List.length_cons, List.length_nil, prt_len, txI_len]; omega)) (by decide)) rfl (by decide) (by decide) (by exact Nat.le_of_ble_eq_true rfl) (by omega) (by omega) (fun v9 g9 u9 h9 => ?_) (fun _ _ _ h => by cases h.1)
      obtain ⟨hv9, hu9, T9, hg9, hT9⟩ := h9
      replace hu9 := hu9.symm
      subst hu9
      subst hg9
      cases hv9
      refine v_iconst (v := nI 0) dX10_putRecord_272 (by decide) ?_
      refine v_istore_n dX10_putRecord_273 rfl (by decide) ?_
      first
        | (refine st8 n 0 l T hT (by omega) (by omega) ?_
           rw [hL]
           unfold wR7
           rw [if_pos (by omega)]
           rfl)
        | (have l4 : (mTx 4).length = 2 := by decide
           refine st8 n 0 _ T9 hT9 (by omega) (by first | omega | (simp only [List.length_append, List.length_cons, List.length_nil, prt_len, txI_len]; omega)) ?_
           rw [hL]
           unfold wR7
           rw [if_neg (by omega)]
           simp only [List.append_assoc]
           rfl)
  have st6 : ∀ (l : List Int32) (T : Nat → Int32) (z3 : Option Value), mTl T l → l.length ≤ 41400 → L = l ++ wR6 w n → V E mX10_putRecord 0 0 (fun o f' t' => o = .inl none ∧ t' = t ∧ wP f M y L f') 222 [some (.ref M), some (.int (nI i)), some (.int (nI r)), z3] [] (mdS f M (wS y T l.length)) t 0 0 := by
    intro l T z3 hT hl hL
    have l4 : (mTx 3).length = 4 := by decide
    have l5 : (mTx 5).length = 1 := by decide
    refine v_aload_n dX10_putRecord_222 rfl (by rfl) ?_
    refine v_aload_n dX10_putRecord_223 rfl (by rfl) ?_
    refine v_getf hE dX10_putRecord_224 fX10_96 mdS_M (by rfl) ?_
    refine v_iload_n dX10_putRecord_227 rfl (by rfl) ?_
    refine m_zald hE (k := 28) dX10_putRecord_228 (by decide) (by decide) rfl (show _ < 240 by omega) (by omega) ?_
    refine v_eqi (y := bI (ePa w)) m9 ?_
    refine v_if_eqB (tgt := 236) dX10_putRecord_229 (by decide) (fun c229 => ?_) (fun c229 => ?_)
    · refine v_iconst (v := nI 5) dX10_putRecord_236 (by decide) ?_
      refine w_callV hE dX10_putRecord_237 kX10_403 mdS_M (by rfl) (by rfl) (sX10_putText hE (by assumption) (by first | omega | (simp only [List.length_append, List.length_cons, List.length_nil, prt_len, txI_len]; omega)) (by decide)) rfl (by decide) (by decide) (by exact Nat.le_of_ble_eq_true rfl) (by omega) (by omega) (fun v9 g9 u9 h9 => ?_) (fun _ _ _ h => by cases h.1)
      obtain ⟨hv9, hu9, T9, hg9, hT9⟩ := h9
      replace hu9 := hu9.symm
      subst hu9
      subst hg9
      cases hv9
      refine v_aload_n dX10_putRecord_240 rfl (by rfl) ?_
      refine v_bipush (v := nI 9) dX10_putRecord_241 (by decide) ?_
      refine w_callV hE dX10_putRecord_243 kX10_394 mdS_M (by rfl) (by rfl) (sX10_put hE (by assumption) (by first | omega | (simp only [List.length_append, List.length_cons, List.length_nil, prt_len, txI_len]; omega)) (by decide)) rfl (by decide) (by decide) (by exact Nat.le_of_ble_eq_true rfl) (by omega) (by omega) (fun v9 g9 u9 h9 => ?_) (fun _ _ _ h => by cases h.1)
      obtain ⟨hv9, hu9, T9, hg9, hT9⟩ := h9
      replace hu9 := hu9.symm
      subst hu9
      subst hg9
      cases hv9
      refine v_aload_n dX10_putRecord_246 rfl (by rfl) ?_
      refine v_bipush (v := nI 46) dX10_putRecord_247 (by decide) ?_
      refine w_callV hE dX10_putRecord_249 kX10_394 mdS_M (by rfl) (by rfl) (sX10_put hE (by assumption) (by first | omega | (simp only [List.length_append, List.length_cons, List.length_nil, prt_len, txI_len]; omega)) (by decide)) rfl (by decide) (by decide) (by exact Nat.le_of_ble_eq_true rfl) (by omega) (by omega) (fun v9 g9 u9 h9 => ?_) (fun _ _ _ h => by cases h.1)
      obtain ⟨hv9, hu9, T9, hg9, hT9⟩ := h9
      replace hu9 := hu9.symm
      subst hu9
      subst hg9
      cases hv9
      refine st7 _ T9 _ hT9 (by first | omega | (simp only [List.length_append, List.length_cons, List.length_nil, prt_len, txI_len]; omega)) ?_
      rw [hL]
      unfold wR6
      rw [c229]
      simp only [List.append_assoc]
      rfl
    · refine v_iconst (v := nI 3) dX10_putRecord_232 (by decide) ?_
      refine v_goto (tgt := 237) dX10_putRecord_233 (by decide) ?_
      refine w_callV hE dX10_putRecord_237 kX10_403 mdS_M (by rfl) (by rfl) (sX10_putText hE (by assumption) (by first | omega | (simp only [List.length_append, List.length_cons, List.length_nil, prt_len, txI_len]; omega)) (by decide)) rfl (by decide) (by decide) (by exact Nat.le_of_ble_eq_true rfl) (by omega) (by omega) (fun v9 g9 u9 h9 => ?_) (fun _ _ _ h => by cases h.1)
      obtain ⟨hv9, hu9, T9, hg9, hT9⟩ := h9
      replace hu9 := hu9.symm
      subst hu9
      subst hg9
      cases hv9
      refine v_aload_n dX10_putRecord_240 rfl (by rfl) ?_
      refine v_bipush (v := nI 9) dX10_putRecord_241 (by decide) ?_
      refine w_callV hE dX10_putRecord_243 kX10_394 mdS_M (by rfl) (by rfl) (sX10_put hE (by assumption) (by first | omega | (simp only [List.length_append, List.length_cons, List.length_nil, prt_len, txI_len]; omega)) (by decide)) rfl (by decide) (by decide) (by exact Nat.le_of_ble_eq_true rfl) (by omega) (by omega) (fun v9 g9 u9 h9 => ?_) (fun _ _ _ h => by cases h.1)
      obtain ⟨hv9, hu9, T9, hg9, hT9⟩ := h9
      replace hu9 := hu9.symm
      subst hu9
      subst hg9
      cases hv9
      refine v_aload_n dX10_putRecord_246 rfl (by rfl) ?_
      refine v_bipush (v := nI 46) dX10_putRecord_247 (by decide) ?_
      refine w_callV hE dX10_putRecord_249 kX10_394 mdS_M (by rfl) (by rfl) (sX10_put hE (by assumption) (by first | omega | (simp only [List.length_append, List.length_cons, List.length_nil, prt_len, txI_len]; omega)) (by decide)) rfl (by decide) (by decide) (by exact Nat.le_of_ble_eq_true rfl) (by omega) (by omega) (fun v9 g9 u9 h9 => ?_) (fun _ _ _ h => by cases h.1)
      obtain ⟨hv9, hu9, T9, hg9, hT9⟩ := h9
      replace hu9 := hu9.symm
      subst hu9
      subst hg9
      cases hv9
      refine st7 _ T9 _ hT9 (by first | omega | (simp only [List.length_append, List.length_cons, List.length_nil, prt_len, txI_len]; omega)) ?_
      rw [hL]
      unfold wR6
      rw [c229]
      simp only [List.append_assoc]
      rfl
  have st5 : ∀ (l : List Int32) (T : Nat → Int32) (z3 : Option Value), mTl T l → l.length ≤ 41300 → L = l ++ wR5 w n → V E mX10_putRecord 0 0 (fun o f' t' => o = .inl none ∧ t' = t ∧ wP f M y L f') 187 [some (.ref M), some (.int (nI i)), some (.int (nI r)), z3] [] (mdS f M (wS y T l.length)) t 0 0 := by
    intro l T z3 hT hl hL
    refine v_aload_n dX10_putRecord_187 rfl (by rfl) ?_
    refine v_getf hE dX10_putRecord_188 fX10_93 mdS_M (by rfl) ?_
    refine v_iload_n dX10_putRecord_191 rfl (by rfl) ?_
    refine m_iald hE (k := 27) dX10_putRecord_192 (by decide) (by decide) rfl (show _ < 240 by omega) (by omega) ?_
    refine v_eqi (y := eQu w) m8 ?_
    refine v_iconst (v := (-1)) dX10_putRecord_193 (by decide) ?_
    refine v_icmp_ne (tgt := 206) dX10_putRecord_194 (by decide) (fun c194 => ?_) (fun c194 => ?_)
    · obtain ⟨x9, x1, x2⟩ := h8.resolve_left c194
      have l6 := tNumber_len (v := x9)
      have e6 : tNumP (eQu w) = tNumber x9 := by unfold tNumP; rw [if_neg c194, x2, nI_clamp (by omega)]
      refine v_aload_n dX10_putRecord_206 rfl (by rfl) ?_
      refine v_aload_n dX10_putRecord_207 rfl (by rfl) ?_
      refine v_getf hE dX10_putRecord_208 fX10_93 mdS_M (by rfl) ?_
      refine v_iload_n dX10_putRecord_211 rfl (by rfl) ?_
      refine m_iald hE (k := 27) dX10_putRecord_212 (by decide) (by decide) rfl (show _ < 240 by omega) (by omega) ?_
      refine v_eqi (y := nI x9) ((m8).trans x2) ?_
      refine w_callV hE dX10_putRecord_213 kX10_397 mdS_M (by rfl) (by rfl) (sX10_putNumber hE (by assumption) (by first | omega | (simp only [List.length_append, List.length_cons, List.length_nil, prt_len, txI_len]; omega)) (by omega)) rfl (by decide) (by decide) (by exact Nat.le_of_ble_eq_true rfl) (by omega) (by omega) (fun v9 g9 u9 h9 => ?_) (fun _ _ _ h => by cases h.1)
      obtain ⟨hv9, hu9, T9, hg9, hT9⟩ := h9
      replace hu9 := hu9.symm
      subst hu9
      subst hg9
      cases hv9
      refine v_aload_n dX10_putRecord_216 rfl (by rfl) ?_
      refine v_bipush (v := nI 9) dX10_putRecord_217 (by decide) ?_
      refine w_callV hE dX10_putRecord_219 kX10_394 mdS_M (by rfl) (by rfl) (sX10_put hE (by assumption) (by first | omega | (simp only [List.length_append, List.length_cons, List.length_nil, prt_len, txI_len]; omega)) (by decide)) rfl (by decide) (by decide) (by exact Nat.le_of_ble_eq_true rfl) (by omega) (by omega) (fun v9 g9 u9 h9 => ?_) (fun _ _ _ h => by cases h.1)
      obtain ⟨hv9, hu9, T9, hg9, hT9⟩ := h9
      replace hu9 := hu9.symm
      subst hu9
      subst hg9
      cases hv9
      refine st6 _ T9 _ hT9 (by first | omega | (simp only [List.length_append, List.length_cons, List.length_nil, prt_len, txI_len]; omega)) ?_
      rw [hL]
      unfold wR5
      first
        | (rw [e6]; simp only [List.append_assoc]; done)
        | (rw [show tNumP (eQu w) = [nI 46] from if_pos c194]; simp only [List.append_assoc]; done)
    · refine v_aload_n dX10_putRecord_197 rfl (by rfl) ?_
      refine v_bipush (v := nI 46) dX10_putRecord_198 (by decide) ?_
      refine w_callV hE dX10_putRecord_200 kX10_394 mdS_M (by rfl) (by rfl) (sX10_put hE (by assumption) (by first | omega | (simp only [List.length_append, List.length_cons, List.length_nil, prt_len, txI_len]; omega)) (by decide)) rfl (by decide) (by decide) (by exact Nat.le_of_ble_eq_true rfl) (by omega) (by omega) (fun v9 g9 u9 h9 => ?_) (fun _ _ _ h => by cases h.1)
      obtain ⟨hv9, hu9, T9, hg9, hT9⟩ := h9
      replace hu9 := hu9.symm
      subst hu9
      subst hg9
      cases hv9
      refine v_goto (tgt := 216) dX10_putRecord_203 (by decide) ?_
      refine v_aload_n dX10_putRecord_216 rfl (by rfl) ?_
      refine v_bipush (v := nI 9) dX10_putRecord_217 (by decide) ?_
      refine w_callV hE dX10_putRecord_219 kX10_394 mdS_M (by rfl) (by rfl) (sX10_put hE (by assumption) (by first | omega | (simp only [List.length_append, List.length_cons, List.length_nil, prt_len, txI_len]; omega)) (by decide)) rfl (by decide) (by decide) (by exact Nat.le_of_ble_eq_true rfl) (by omega) (by omega) (fun v9 g9 u9 h9 => ?_) (fun _ _ _ h => by cases h.1)
      obtain ⟨hv9, hu9, T9, hg9, hT9⟩ := h9
      replace hu9 := hu9.symm
      subst hu9
      subst hg9
      cases hv9
      refine st6 _ T9 _ hT9 (by first | omega | (simp only [List.length_append, List.length_cons, List.length_nil, prt_len, txI_len]; omega)) ?_
      rw [hL]
      unfold wR5
      first
        | (rw [e6]; simp only [List.append_assoc]; done)
        | (rw [show tNumP (eQu w) = [nI 46] from if_pos c194]; simp only [List.append_assoc]; done)
  have st4b : ∀ (d q : Nat) (l : List Int32) (T : Nat → Int32), mTl T l → q + d = eRo w → 1 ≤ q → l.length ≤ 41000 + 30 * q → L = l ++ wR4b w n (eRo w - q) q → V E mX10_putRecord 0 0 (fun o f' t' => o = .inl none ∧ t' = t ∧ wP f M y L f') 148 [some (.ref M), some (.int (nI i)), some (.int (nI r)), some (.int (nI q))] [] (mdS f M (wS y T l.length)) t 0 0 := by
    intro d
    induction d using Nat.strongRecOn with
    | _ d ih =>
    intro q l T hT hd hq1 hl hL
    refine v_iload_n dX10_putRecord_148 rfl (by rfl) ?_
    refine v_aload_n dX10_putRecord_149 rfl (by rfl) ?_
    refine v_getf hE dX10_putRecord_150 fX10_84 mdS_M (by rfl) ?_
    refine v_iload_n dX10_putRecord_153 rfl (by rfl) ?_
    refine m_iald hE (k := 24) dX10_putRecord_154 (by decide) (by decide) rfl (show _ < 240 by omega) (by omega) ?_
    refine v_eqi (y := nI (eRo w - 1)) m5 ?_
    refine v_icmp_gtN (tgt := 181) dX10_putRecord_155 (by decide) (by omega) (by omega) (fun c155 => ?_) (fun c155 => ?_)
    · refine v_aload_n dX10_putRecord_181 rfl (by rfl) ?_
      refine v_bipush (v := nI 9) dX10_putRecord_182 (by decide) ?_
      refine w_callV hE dX10_putRecord_184 kX10_394 mdS_M (by rfl) (by rfl) (sX10_put hE (by assumption) (by first | omega | (simp only [List.length_append, List.length_cons, List.length_nil, prt_len, txI_len]; omega)) (by decide)) rfl (by decide) (by decide) (by exact Nat.le_of_ble_eq_true rfl) (by omega) (by omega) (fun v9 g9 u9 h9 => ?_) (fun _ _ _ h => by cases h.1)
      obtain ⟨hv9, hu9, T9, hg9, hT9⟩ := h9
      replace hu9 := hu9.symm
      subst hu9
      subst hg9
      cases hv9
      refine st5 _ T9 _ hT9 (by first | omega | (simp only [List.length_append, List.length_cons, List.length_nil, prt_len, txI_len]; omega)) ?_
      rw [hL]
      unfold wR4b
      rw [show eRo w - q = 0 by omega]
      show l ++ ([] ++ ([nI 9] ++ _)) = _
      simp only [List.append_assoc, List.nil_append]
    · have hr9 := hwo.2.1 q
      refine v_iload_n dX10_putRecord_158 rfl (by rfl) ?_
      refine v_iconst (v := nI 1) dX10_putRecord_159 (by decide) ?_
      refine v_icmp_leN (tgt := 169) dX10_putRecord_160 (by decide) (by omega) (by omega) (fun c160 => ?_) (fun c160 => ?_)
      · refine v_aload_n dX10_putRecord_169 rfl (by rfl) ?_
        refine v_iload_n dX10_putRecord_170 rfl (by rfl) ?_
        refine v_iload_n dX10_putRecord_171 rfl (by rfl) ?_
        refine w_callV hE dX10_putRecord_172 kX10_400 mdS_M (by rfl) (by rfl) (sX10_putRow hE (by assumption) (by first | omega | (simp only [List.length_append, List.length_cons, List.length_nil, prt_len, txI_len]; omega)) (y := y) hw hwo hr (by omega) (fun k hk => hlv.1 q k (by omega) hk)) rfl (by decide) (by decide) (by exact Nat.le_of_ble_eq_true rfl) (by omega) (by omega) (fun v9 g9 u9 h9 => ?_) (fun _ _ _ h => by cases h.1)
        obtain ⟨hv9, hu9, T9, hg9, hT9⟩ := h9
        replace hu9 := hu9.symm
        subst hu9
        subst hg9
        cases hv9
        refine v_iincN (y := 1) dX10_putRecord_175 (by rfl) (by decide) (by decide) ?_
        refine v_goto (tgt := 148) dX10_putRecord_178 (by decide) ?_
        refine ih (d - 1) (by omega) (q + 1) _ T9 hT9 (by omega) (by omega) (by first | omega | (simp only [List.length_append, List.length_cons, List.length_nil, prt_len, txI_len]; omega)) ?_
        rw [hL]
        unfold wR4b
        rw [show eRo w - q = (eRo w - (q + 1)) + 1 by omega, eAltT]
        first
          | (rw [if_pos (by omega)]; simp only [List.append_assoc]; done)
          | (rw [if_neg (by omega)]; simp only [List.append_assoc, List.nil_append]; done)
      · refine v_aload_n dX10_putRecord_163 rfl (by rfl) ?_
        refine v_bipush (v := nI 44) dX10_putRecord_164 (by decide) ?_
        refine w_callV hE dX10_putRecord_166 kX10_394 mdS_M (by rfl) (by rfl) (sX10_put hE (by assumption) (by first | omega | (simp only [List.length_append, List.length_cons, List.length_nil, prt_len, txI_len]; omega)) (by decide)) rfl (by decide) (by decide) (by exact Nat.le_of_ble_eq_true rfl) (by omega) (by omega) (fun v9 g9 u9 h9 => ?_) (fun _ _ _ h => by cases h.1)
        obtain ⟨hv9, hu9, T9, hg9, hT9⟩ := h9
        replace hu9 := hu9.symm
        subst hu9
        subst hg9
        cases hv9
        refine v_aload_n dX10_putRecord_169 rfl (by rfl) ?_
        refine v_iload_n dX10_putRecord_170 rfl (by rfl) ?_
        refine v_iload_n dX10_putRecord_171 rfl (by rfl) ?_
        refine w_callV hE dX10_putRecord_172 kX10_400 mdS_M (by rfl) (by rfl) (sX10_putRow hE (by assumption) (by first | omega | (simp only [List.length_append, List.length_cons, List.length_nil, prt_len, txI_len]; omega)) (y := y) hw hwo hr (by omega) (fun k hk => hlv.1 q k (by omega) hk)) rfl (by decide) (by decide) (by exact Nat.le_of_ble_eq_true rfl) (by omega) (by omega) (fun v9 g9 u9 h9 => ?_) (fun _ _ _ h => by cases h.1)
        obtain ⟨hv9, hu9, T9, hg9, hT9⟩ := h9
        replace hu9 := hu9.symm
        subst hu9
        subst hg9
        cases hv9
        refine v_iincN (y := 1) dX10_putRecord_175 (by rfl) (by decide) (by decide) ?_
        refine v_goto (tgt := 148) dX10_putRecord_178 (by decide) ?_
        refine ih (d - 1) (by omega) (q + 1) _ T9 hT9 (by omega) (by omega) (by first | omega | (simp only [List.length_append, List.length_cons, List.length_nil, prt_len, txI_len]; omega)) ?_
        rw [hL]
        unfold wR4b
        rw [show eRo w - q = (eRo w - (q + 1)) + 1 by omega, eAltT]
        first
          | (rw [if_pos (by omega)]; simp only [List.append_assoc]; done)
          | (rw [if_neg (by omega)]; simp only [List.append_assoc, List.nil_append]; done)
  have st4 : ∀ (l : List Int32) (T : Nat → Int32) (z3 : Option Value), mTl T l → l.length ≤ 40900 → L = l ++ wR4 w n → V E mX10_putRecord 0 0 (fun o f' t' => o = .inl none ∧ t' = t ∧ wP f M y L f') 131 [some (.ref M), some (.int (nI i)), some (.int (nI r)), z3] [] (mdS f M (wS y T l.length)) t 0 0 := by
    intro l T z3 hT hl hL
    refine v_aload_n dX10_putRecord_131 rfl (by rfl) ?_
    refine v_getf hE dX10_putRecord_132 fX10_84 mdS_M (by rfl) ?_
    refine v_iload_n dX10_putRecord_135 rfl (by rfl) ?_
    refine m_iald hE (k := 24) dX10_putRecord_136 (by decide) (by decide) rfl (show _ < 240 by omega) (by omega) ?_
    refine v_eqi (y := nI (eRo w - 1)) m5 ?_
    refine v_if_neN (tgt := 146) dX10_putRecord_137 (by decide) (by omega) (fun c137 => ?_) (fun c137 => ?_)
    · refine v_iconst (v := nI 1) dX10_putRecord_146 (by decide) ?_
      refine v_istore_n dX10_putRecord_147 rfl (by decide) ?_
      first
        | (refine st4b (eRo w - 1) 1 _ T9 hT9 (by omega) (by omega) (by first | omega | (simp only [List.length_append, List.length_cons, List.length_nil, prt_len, txI_len]; omega)) ?_
           rw [hL]
           unfold wR4
           rw [if_neg (by omega), List.append_assoc])
        | (refine st4b (eRo w - 1) 1 l T hT (by omega) (by omega) (by omega) ?_
           rw [hL]
           unfold wR4
           rw [if_pos (by omega)]
           rfl)
    · refine v_aload_n dX10_putRecord_140 rfl (by rfl) ?_
      refine v_bipush (v := nI 46) dX10_putRecord_141 (by decide) ?_
      refine w_callV hE dX10_putRecord_143 kX10_394 mdS_M (by rfl) (by rfl) (sX10_put hE (by assumption) (by first | omega | (simp only [List.length_append, List.length_cons, List.length_nil, prt_len, txI_len]; omega)) (by decide)) rfl (by decide) (by decide) (by exact Nat.le_of_ble_eq_true rfl) (by omega) (by omega) (fun v9 g9 u9 h9 => ?_) (fun _ _ _ h => by cases h.1)
      obtain ⟨hv9, hu9, T9, hg9, hT9⟩ := h9
      replace hu9 := hu9.symm
      subst hu9
      subst hg9
      cases hv9
      refine v_iconst (v := nI 1) dX10_putRecord_146 (by decide) ?_
      refine v_istore_n dX10_putRecord_147 rfl (by decide) ?_
      first
        | (refine st4b (eRo w - 1) 1 _ T9 hT9 (by omega) (by omega) (by first | omega | (simp only [List.length_append, List.length_cons, List.length_nil, prt_len, txI_len]; omega)) ?_
           rw [hL]
           unfold wR4
           rw [if_neg (by omega), List.append_assoc])
        | (refine st4b (eRo w - 1) 1 l T hT (by omega) (by omega) (by omega) ?_
           rw [hL]
           unfold wR4
           rw [if_pos (by omega)]
           rfl)
  have st3 : ∀ (l : List Int32) (T : Nat → Int32) (z3 : Option Value), mTl T l → l.length ≤ 40600 → L = l ++ wR3 w n → V E mX10_putRecord 0 0 (fun o f' t' => o = .inl none ∧ t' = t ∧ wP f M y L f') 98 [some (.ref M), some (.int (nI i)), some (.int (nI r)), z3] [] (mdS f M (wS y T l.length)) t 0 0 := by
    intro l T z3 hT hl hL
    have hr9 := hwo.2.1 0
    refine v_aload_n dX10_putRecord_98 rfl (by rfl) ?_
    refine v_getf hE dX10_putRecord_99 fX10_81 mdS_M (by rfl) ?_
    refine v_iload_n dX10_putRecord_102 rfl (by rfl) ?_
    refine m_iald hE (k := 23) dX10_putRecord_103 (by decide) (by decide) rfl (show _ < 240 by omega) (by omega) ?_
    refine v_eqi (y := nI (eIz w)) m3 ?_
    refine v_if_neN (tgt := 113) dX10_putRecord_104 (by decide) (by omega) (fun c104 => ?_) (fun c104 => ?_)
    · refine v_aload_n dX10_putRecord_113 rfl (by rfl) ?_
      refine v_bipush (v := nI 9) dX10_putRecord_114 (by decide) ?_
      refine w_callV hE dX10_putRecord_116 kX10_394 mdS_M (by rfl) (by rfl) (sX10_put hE (by assumption) (by first | omega | (simp only [List.length_append, List.length_cons, List.length_nil, prt_len, txI_len]; omega)) (by decide)) rfl (by decide) (by decide) (by exact Nat.le_of_ble_eq_true rfl) (by omega) (by omega) (fun v9 g9 u9 h9 => ?_) (fun _ _ _ h => by cases h.1)
      obtain ⟨hv9, hu9, T9, hg9, hT9⟩ := h9
      replace hu9 := hu9.symm
      subst hu9
      subst hg9
      cases hv9
      refine v_aload_n dX10_putRecord_119 rfl (by rfl) ?_
      refine v_iload_n dX10_putRecord_120 rfl (by rfl) ?_
      refine v_iconst (v := nI 0) dX10_putRecord_121 (by decide) ?_
      refine w_callV hE dX10_putRecord_122 kX10_400 mdS_M (by rfl) (by rfl) (sX10_putRow hE (by assumption) (by first | omega | (simp only [List.length_append, List.length_cons, List.length_nil, prt_len, txI_len]; omega)) (y := y) hw hwo hr (by omega) (fun k hk => hlv.1 0 k (by omega) hk)) rfl (by decide) (by decide) (by exact Nat.le_of_ble_eq_true rfl) (by omega) (by omega) (fun v9 g9 u9 h9 => ?_) (fun _ _ _ h => by cases h.1)
      obtain ⟨hv9, hu9, T9, hg9, hT9⟩ := h9
      replace hu9 := hu9.symm
      subst hu9
      subst hg9
      cases hv9
      refine v_aload_n dX10_putRecord_125 rfl (by rfl) ?_
      refine v_bipush (v := nI 9) dX10_putRecord_126 (by decide) ?_
      refine w_callV hE dX10_putRecord_128 kX10_394 mdS_M (by rfl) (by rfl) (sX10_put hE (by assumption) (by first | omega | (simp only [List.length_append, List.length_cons, List.length_nil, prt_len, txI_len]; omega)) (by decide)) rfl (by decide) (by decide) (by exact Nat.le_of_ble_eq_true rfl) (by omega) (by omega) (fun v9 g9 u9 h9 => ?_) (fun _ _ _ h => by cases h.1)
      obtain ⟨hv9, hu9, T9, hg9, hT9⟩ := h9
      replace hu9 := hu9.symm
      subst hu9
      subst hg9
      cases hv9
      refine st4 _ T9 _ hT9 (by first | omega | (simp only [List.length_append, List.length_cons, List.length_nil, prt_len, txI_len]; omega)) ?_
      rw [hL]
      unfold wR3
      first
        | (rw [if_pos (by omega)]; simp only [List.append_assoc]; done)
        | (rw [if_neg (by omega)]; simp only [List.append_assoc, List.nil_append]; done)
    · refine v_aload_n dX10_putRecord_107 rfl (by rfl) ?_
      refine v_bipush (v := nI 46) dX10_putRecord_108 (by decide) ?_
      refine w_callV hE dX10_putRecord_110 kX10_394 mdS_M (by rfl) (by rfl) (sX10_put hE (by assumption) (by first | omega | (simp only [List.length_append, List.length_cons, List.length_nil, prt_len, txI_len]; omega)) (by decide)) rfl (by decide) (by decide) (by exact Nat.le_of_ble_eq_true rfl) (by omega) (by omega) (fun v9 g9 u9 h9 => ?_) (fun _ _ _ h => by cases h.1)
      obtain ⟨hv9, hu9, T9, hg9, hT9⟩ := h9
      replace hu9 := hu9.symm
      subst hu9
      subst hg9
      cases hv9
      refine v_aload_n dX10_putRecord_113 rfl (by rfl) ?_
      refine v_bipush (v := nI 9) dX10_putRecord_114 (by decide) ?_
      refine w_callV hE dX10_putRecord_116 kX10_394 mdS_M (by rfl) (by rfl) (sX10_put hE (by assumption) (by first | omega | (simp only [List.length_append, List.length_cons, List.length_nil, prt_len, txI_len]; omega)) (by decide)) rfl (by decide) (by decide) (by exact Nat.le_of_ble_eq_true rfl) (by omega) (by omega) (fun v9 g9 u9 h9 => ?_) (fun _ _ _ h => by cases h.1)
      obtain ⟨hv9, hu9, T9, hg9, hT9⟩ := h9
      replace hu9 := hu9.symm
      subst hu9
      subst hg9
      cases hv9
      refine v_aload_n dX10_putRecord_119 rfl (by rfl) ?_
      refine v_iload_n dX10_putRecord_120 rfl (by rfl) ?_
      refine v_iconst (v := nI 0) dX10_putRecord_121 (by decide) ?_
      refine w_callV hE dX10_putRecord_122 kX10_400 mdS_M (by rfl) (by rfl) (sX10_putRow hE (by assumption) (by first | omega | (simp only [List.length_append, List.length_cons, List.length_nil, prt_len, txI_len]; omega)) (y := y) hw hwo hr (by omega) (fun k hk => hlv.1 0 k (by omega) hk)) rfl (by decide) (by decide) (by exact Nat.le_of_ble_eq_true rfl) (by omega) (by omega) (fun v9 g9 u9 h9 => ?_) (fun _ _ _ h => by cases h.1)
      obtain ⟨hv9, hu9, T9, hg9, hT9⟩ := h9
      replace hu9 := hu9.symm
      subst hu9
      subst hg9
      cases hv9
      refine v_aload_n dX10_putRecord_125 rfl (by rfl) ?_
      refine v_bipush (v := nI 9) dX10_putRecord_126 (by decide) ?_
      refine w_callV hE dX10_putRecord_128 kX10_394 mdS_M (by rfl) (by rfl) (sX10_put hE (by assumption) (by first | omega | (simp only [List.length_append, List.length_cons, List.length_nil, prt_len, txI_len]; omega)) (by decide)) rfl (by decide) (by decide) (by exact Nat.le_of_ble_eq_true rfl) (by omega) (by omega) (fun v9 g9 u9 h9 => ?_) (fun _ _ _ h => by cases h.1)
      obtain ⟨hv9, hu9, T9, hg9, hT9⟩ := h9
      replace hu9 := hu9.symm
      subst hu9
      subst hg9
      cases hv9
      refine st4 _ T9 _ hT9 (by first | omega | (simp only [List.length_append, List.length_cons, List.length_nil, prt_len, txI_len]; omega)) ?_
      rw [hL]
      unfold wR3
      first
        | (rw [if_pos (by omega)]; simp only [List.append_assoc]; done)
        | (rw [if_neg (by omega)]; simp only [List.append_assoc, List.nil_append]; done)
  have st2 : ∀ l0 : List Int32, l0.length ≤ 40500 → L = l0 ++ (prt (eId w) (eIz w) 0 ++ wR3 w n) → ∀ (d q : Nat) (T : Nat → Int32), q + d = eIz w → mTl T (l0 ++ prt (eId w) q 0) → V E mX10_putRecord 0 0 (fun o f' t' => o = .inl none ∧ t' = t ∧ wP f M y L f') 67 [some (.ref M), some (.int (nI i)), some (.int (nI r)), some (.int (nI q))] [] (mdS f M (wS y T (l0 ++ prt (eId w) q 0).length)) t 0 0 := by
    intro l0 hl hL d
    induction d using Nat.strongRecOn with
    | _ d ih =>
    intro q T hd hT
    refine v_iload_n dX10_putRecord_67 rfl (by rfl) ?_
    refine v_aload_n dX10_putRecord_68 rfl (by rfl) ?_
    refine v_getf hE dX10_putRecord_69 fX10_81 mdS_M (by rfl) ?_
    refine v_iload_n dX10_putRecord_72 rfl (by rfl) ?_
    refine m_iald hE (k := 23) dX10_putRecord_73 (by decide) (by decide) rfl (show _ < 240 by omega) (by omega) ?_
    refine v_eqi (y := nI (eIz w)) m3 ?_
    refine v_icmp_geN (tgt := 98) dX10_putRecord_74 (by decide) (by omega) (by omega) (fun c74 => ?_) (fun c74 => ?_)
    · have e9 : q = eIz w := by omega
      subst e9
      refine st3 _ T _ hT (by first | omega | (simp only [List.length_append, List.length_cons, List.length_nil, prt_len, txI_len]; omega)) ?_
      rw [hL, List.append_assoc]
    · refine v_aload_n dX10_putRecord_77 rfl (by rfl) ?_
      refine v_aload_n dX10_putRecord_78 rfl (by rfl) ?_
      refine v_getf hE dX10_putRecord_79 fX10_78 mdS_M (by rfl) ?_
      refine v_bipush (v := nI 20) dX10_putRecord_82 (by decide) ?_
      refine v_iload_n dX10_putRecord_84 rfl (by rfl) ?_
      refine v_imulN dX10_putRecord_85 ?_
      refine v_iload_n dX10_putRecord_86 rfl (by rfl) ?_
      refine v_iaddN dX10_putRecord_87 ?_
      refine m_bald hE (k := 22) dX10_putRecord_88 (by decide) (by decide) rfl (show _ < 4800 by omega) (by omega) ?_
      obtain ⟨c, c1, c2⟩ := hlv.2.1 q (by omega)
      refine v_eqi (y := nI c) ((m4 q (by omega)).trans c2) ?_
      refine w_callV hE dX10_putRecord_89 kX10_394 mdS_M (by rfl) (by rfl) (sX10_put hE (by assumption) (by first | omega | (simp only [List.length_append, List.length_cons, List.length_nil, prt_len, txI_len]; omega)) c1) rfl (by decide) (by decide) (by exact Nat.le_of_ble_eq_true rfl) (by omega) (by omega) (fun v9 g9 u9 h9 => ?_) (fun _ _ _ h => by cases h.1)
      obtain ⟨hv9, hu9, T9, hg9, hT9⟩ := h9
      replace hu9 := hu9.symm
      subst hu9
      subst hg9
      cases hv9
      refine v_iincN (y := 1) dX10_putRecord_92 (by rfl) (by decide) (by decide) ?_
      refine v_goto (tgt := 67) dX10_putRecord_95 (by decide) ?_
      have e9 : l0 ++ prt (eId w) q 0 ++ [nI c] = l0 ++ prt (eId w) (q + 1) 0 := by rw [prt_s, List.append_assoc, Nat.zero_add, c2]
      rw [e9] at hT9 ⊢
      exact ih (d - 1) (by omega) (q + 1) T9 (by omega) hT9
  have st1 : ∀ (l : List Int32) (T : Nat → Int32) (z3 : Option Value), mTl T l → l.length ≤ 40200 → L = l ++ wR1 w n p → V E mX10_putRecord 0 0 (fun o f' t' => o = .inl none ∧ t' = t ∧ wP f M y L f') 43 [some (.ref M), some (.int (nI i)), some (.int (nI r)), z3] [] (mdS f M (wS y T l.length)) t 0 0 := by
    intro l T z3 hT hl hL
    have hnl := tNumber_len (v := p)
    refine v_aload_n dX10_putRecord_43 rfl (by rfl) ?_
    refine v_bipush (v := nI 9) dX10_putRecord_44 (by decide) ?_
    refine w_callV hE dX10_putRecord_46 kX10_394 mdS_M (by rfl) (by rfl) (sX10_put hE (by assumption) (by first | omega | (simp only [List.length_append, List.length_cons, List.length_nil, prt_len, txI_len]; omega)) (by decide)) rfl (by decide) (by decide) (by exact Nat.le_of_ble_eq_true rfl) (by omega) (by omega) (fun v9 g9 u9 h9 => ?_) (fun _ _ _ h => by cases h.1)
    obtain ⟨hv9, hu9, T9, hg9, hT9⟩ := h9
    replace hu9 := hu9.symm
    subst hu9
    subst hg9
    cases hv9
    refine v_aload_n dX10_putRecord_49 rfl (by rfl) ?_
    refine v_aload_n dX10_putRecord_50 rfl (by rfl) ?_
    refine v_getf hE dX10_putRecord_51 fX10_75 mdS_M (by rfl) ?_
    refine v_iload_n dX10_putRecord_54 rfl (by rfl) ?_
    refine m_iald hE (k := 21) dX10_putRecord_55 (by decide) (by decide) rfl (show _ < 240 by omega) (by omega) ?_
    refine v_eqi (y := nI p) (m2.trans hs2) ?_
    refine w_callV hE dX10_putRecord_56 kX10_397 mdS_M (by rfl) (by rfl) (sX10_putNumber hE (by assumption) (by first | omega | (simp only [List.length_append, List.length_cons, List.length_nil, prt_len, txI_len]; omega)) (by omega)) rfl (by decide) (by decide) (by exact Nat.le_of_ble_eq_true rfl) (by omega) (by omega) (fun v9 g9 u9 h9 => ?_) (fun _ _ _ h => by cases h.1)
    obtain ⟨hv9, hu9, T9, hg9, hT9⟩ := h9
    replace hu9 := hu9.symm
    subst hu9
    subst hg9
    cases hv9
    refine v_aload_n dX10_putRecord_59 rfl (by rfl) ?_
    refine v_bipush (v := nI 9) dX10_putRecord_60 (by decide) ?_
    refine w_callV hE dX10_putRecord_62 kX10_394 mdS_M (by rfl) (by rfl) (sX10_put hE (by assumption) (by first | omega | (simp only [List.length_append, List.length_cons, List.length_nil, prt_len, txI_len]; omega)) (by decide)) rfl (by decide) (by decide) (by exact Nat.le_of_ble_eq_true rfl) (by omega) (by omega) (fun v9 g9 u9 h9 => ?_) (fun _ _ _ h => by cases h.1)
    obtain ⟨hv9, hu9, T9, hg9, hT9⟩ := h9
    replace hu9 := hu9.symm
    subst hu9
    subst hg9
    cases hv9
    refine v_iconst (v := nI 0) dX10_putRecord_65 (by decide) ?_
    refine v_istore_n dX10_putRecord_66 rfl (by decide) ?_
    have e9 : l ++ [nI 9] ++ tNumber p ++ [nI 9] = (l ++ [nI 9] ++ tNumber p ++ [nI 9]) ++ prt (eId w) 0 0 := (List.append_nil _).symm
    have hV := st2 (l ++ [nI 9] ++ tNumber p ++ [nI 9]) (by first | omega | (simp only [List.length_append, List.length_cons, List.length_nil, prt_len, txI_len]; omega)) (by rw [hL]; unfold wR1; simp only [List.append_assoc]) (eIz w) 0 T9 (by omega) (by rw [← e9]; exact hT9)
    rw [← e9] at hV
    exact hV
  have st0 : ∀ (d q : Nat) (T : Nat → Int32), q + d = g.1.2.2 s → mTl T (l0 ++ prt g.1.2.1 q (s * 20)) → V E mX10_putRecord 0 0 (fun o f' t' => o = .inl none ∧ t' = t ∧ wP f M y L f') 2 [some (.ref M), some (.int (nI i)), some (.int (nI r)), some (.int (nI q))] [] (mdS f M (wS y T (l0 ++ prt g.1.2.1 q (s * 20)).length)) t 0 0 := by
    intro d
    induction d using Nat.strongRecOn with
    | _ d ih =>
    intro q T hd hT
    refine v_iload_n dX10_putRecord_2 rfl (by rfl) ?_
    refine v_aload_n dX10_putRecord_3 rfl (by rfl) ?_
    refine v_getf hE dX10_putRecord_4 fX10_20 mdS_M (by rfl) ?_
    refine v_aload_n dX10_putRecord_7 rfl (by rfl) ?_
    refine v_getf hE dX10_putRecord_8 fX10_72 mdS_M (by rfl) ?_
    refine v_iload_n dX10_putRecord_11 rfl (by rfl) ?_
    refine m_iald hE (k := 20) dX10_putRecord_12 (by decide) (by decide) rfl (show _ < 240 by omega) (by omega) ?_
    refine v_eqi (y := nI s) (m1.trans hs1) ?_
    refine m_iald hE (k := 3) dX10_putRecord_13 (by decide) (by decide) rfl (show _ < 9 by omega) (by omega) ?_
    refine v_eqi (y := nI (g.1.2.2 s)) gf1 ?_
    refine v_icmp_geN (tgt := 43) dX10_putRecord_14 (by decide) (by omega) (by omega) (fun c14 => ?_) (fun c14 => ?_)
    · have e9 : q = g.1.2.2 s := by omega
      subst e9
      refine st1 _ T _ hT (by first | omega | (simp only [List.length_append, List.length_cons, List.length_nil, prt_len, txI_len]; omega)) ?_
      rw [hL0, List.append_assoc, wR_eq]
    · refine v_aload_n dX10_putRecord_17 rfl (by rfl) ?_
      refine v_aload_n dX10_putRecord_18 rfl (by rfl) ?_
      refine v_getf hE dX10_putRecord_19 fX10_17 mdS_M (by rfl) ?_
      refine v_bipush (v := nI 20) dX10_putRecord_22 (by decide) ?_
      refine v_aload_n dX10_putRecord_24 rfl (by rfl) ?_
      refine v_getf hE dX10_putRecord_25 fX10_72 mdS_M (by rfl) ?_
      refine v_iload_n dX10_putRecord_28 rfl (by rfl) ?_
      refine m_iald hE (k := 20) dX10_putRecord_29 (by decide) (by decide) rfl (show _ < 240 by omega) (by omega) ?_
      refine v_eqi (y := nI s) (m1.trans hs1) ?_
      refine v_imulN dX10_putRecord_30 ?_
      refine v_iload_n dX10_putRecord_31 rfl (by rfl) ?_
      refine v_iaddN dX10_putRecord_32 ?_
      refine m_bald hE (k := 2) dX10_putRecord_33 (by decide) (by decide) rfl (show _ < 180 by omega) (by omega) ?_
      obtain ⟨c, c1, c2⟩ := hgl.2 s q hs3 (by omega)
      refine v_eqi (y := nI c) ((gf2 q (by omega)).trans c2) ?_
      refine w_callV hE dX10_putRecord_34 kX10_394 mdS_M (by rfl) (by rfl) (sX10_put hE (by assumption) (by first | omega | (simp only [List.length_append, List.length_cons, List.length_nil, prt_len, txI_len]; omega)) c1) rfl (by decide) (by decide) (by exact Nat.le_of_ble_eq_true rfl) (by omega) (by omega) (fun v9 g9 u9 h9 => ?_) (fun _ _ _ h => by cases h.1)
      obtain ⟨hv9, hu9, T9, hg9, hT9⟩ := h9
      replace hu9 := hu9.symm
      subst hu9
      subst hg9
      cases hv9
      refine v_iincN (y := 1) dX10_putRecord_37 (by rfl) (by decide) (by decide) ?_
      refine v_goto (tgt := 2) dX10_putRecord_40 (by decide) ?_
      have e9 : l0 ++ prt g.1.2.1 q (s * 20) ++ [nI c] = l0 ++ prt g.1.2.1 (q + 1) (s * 20) := by rw [prt_s, List.append_assoc, c2]
      rw [e9] at hT9 ⊢
      exact ih (d - 1) (by omega) (q + 1) T9 (by omega) hT9
  refine v_iconst (v := nI 0) dX10_putRecord_0 (by decide) ?_
  refine v_istore_n dX10_putRecord_1 rfl (by decide) ?_
  have e0 : l0 ++ prt g.1.2.1 0 (s * 20) = l0 := List.append_nil l0
  have hV := st0 (g.1.2.2 s) 0 T (by omega) (by rw [e0]; exact hT)
  rw [e0] at hV
  exact hV
