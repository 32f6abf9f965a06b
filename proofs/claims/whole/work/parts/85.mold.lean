/-- the model's new names are those of v, up to s -/
def mNm (y : mV) (v : nV) (s : Nat) : Prop := ∀ i, i ≤ s → y.1 10 i = nI (v.2.2 i) ∧ v.2.2 i ≤ 20 ∧ ∀ k, k < v.2.2 i → y.1 9 (20 * i + k) = v.2.1 (i * 20 + k)
def odP (v : nV) (s i : Nat) : Bool := ! nmSame v i v s
set_option maxRecDepth 100000 in
set_option maxHeartbeats 600000 in
/-- model: isOld -/
theorem sX10_isOld {E : eN} (hE : eOk E) {f : aH} {t : Nat} {M : Nat} {y : mV} {v : nV} {s : Nat} (hN : mNm y v s) (hs : s < 9) : mT E mX10_isOld 0 0 [.ref M, .int (nI s)] (mdS f M y) t (fun o f' t' => o = .inl (some (.int (bI (! allB (odP v s) (s - 0) 0)))) ∧ t' = t ∧ f' = mdS f M y) := by
  refine mT_of (n := 3) (lo := [some (.ref M), some (.int (nI s)), none, none, none]) (by decide) (by exact Nat.le_of_ble_eq_true rfl) rfl rfl ?_
  have lp : ∀ (d n : Nat) (z4 z5 : Option Value), n + d = s → allB (odP v s) (s - 0) 0 = allB (odP v s) (s - n) n → V E mX10_isOld 0 0 (fun o f' t' => o = .inl (some (.int (bI (! allB (odP v s) (s - 0) 0)))) ∧ t' = t ∧ f' = mdS f M y) 2 [some (.ref M), some (.int (nI s)), some (.int (nI n)), z4, z5] [] (mdS f M y) t 0 0 := by
    intro d
    induction d using Nat.strongRecOn with
    | _ d ih =>
    intro n z4 z5 hn he
    have li : n < s → ∀ (d2 k : Nat) (b9 : Bool), k + d2 = (v.2.2 s) → (b9 = true → v.2.2 n = (v.2.2 s)) → (nmSame v n v s) = (b9 && allB (fun k => decide (v.2.1 (n * 20 + k) = v.2.1 (s * 20 + k))) ((v.2.2 s) - k) k) → V E mX10_isOld 0 0 (fun o f' t' => o = .inl (some (.int (bI (! allB (odP v s) (s - 0) 0)))) ∧ t' = t ∧ f' = mdS f M y) 31 [some (.ref M), some (.int (nI s)), some (.int (nI n)), some (.int (bI b9)), some (.int (nI k))] [] (mdS f M y) t 0 0 := by
      intro hng d2
      obtain ⟨a1, a2, a3⟩ := hN n (by omega)
      obtain ⟨b1, b2, b3⟩ := hN s (by omega)
      induction d2 using Nat.strongRecOn with
      | _ d2 ih2 =>
      intro k b9 hk hb9 he2
      refine v_iload dX10_isOld_31 (by rfl) ?_
      refine v_aload_n dX10_isOld_33 rfl (by rfl) ?_
      refine v_getf hE dX10_isOld_34 fX10_42 mdS_M (by rfl) ?_
      refine v_iload_n dX10_isOld_37 rfl (by rfl) ?_
      refine m_iald hE (k := 10) dX10_isOld_38 (by decide) (by decide) rfl (show _ < 9 by omega) (by omega) ?_
      refine v_eqi (y := nI (v.2.2 s)) b1 ?_
      refine v_icmp_geN (tgt := 85) dX10_isOld_39 (by decide) (by omega) (by omega) (fun c39 => ?_) (fun c39 => ?_)
      · refine v_iload_n dX10_isOld_85 rfl (by rfl) ?_
        refine v_if_eqB (tgt := 91) dX10_isOld_86 (by decide) (fun c86 => ?_) (fun c86 => ?_)
        · refine v_iincN (y := 1) dX10_isOld_91 (by rfl) (by decide) (by decide) ?_
          refine v_goto (tgt := 2) dX10_isOld_94 (by decide) ?_
          have hfl : odP v s n = true := by
            unfold odP
            rw [he2]
            first | (rw [c86]; rfl) | (rw [allB_0 (p := (fun k => decide (v.2.1 (n * 20 + k) = v.2.1 (s * 20 + k)))) (j := (v.2.2 s)) (by omega), c86]; rfl)
          exact ih (d - 1) (by omega) (n + 1) _ _ (by omega) (he.trans (allB_s (p := odP v s) (j := s) (by omega) hfl))
        · refine v_iconst (v := nI 1) dX10_isOld_89 (by decide) ?_
          refine v_iret dX10_isOld_90 rfl (by first | rfl | exact nar_bI) ?_
          have htr : odP v s n = false := by
            unfold odP
            rw [he2]
            first | (rw [allB_0 (p := (fun k => decide (v.2.1 (n * 20 + k) = v.2.1 (s * 20 + k)))) (j := (v.2.2 s)) (by omega), c86]; rfl) | (exact absurd c86 (by rw [c43]; decide))
          refine ⟨congrArg (fun x => (Sum.inl (some (Value.int x)) : aO)) ?_, rfl, rfl⟩
          rw [he, allB_f (p := odP v s) (j := s) (by omega) htr]
          rfl
      · refine v_iload_n dX10_isOld_42 rfl (by rfl) ?_
        refine v_if_eqB (tgt := 85) dX10_isOld_43 (by decide) (fun c43 => ?_) (fun c43 => ?_)
        · refine v_iload_n dX10_isOld_85 rfl (by rfl) ?_
          refine v_if_eqB (tgt := 91) dX10_isOld_86 (by decide) (fun c86 => ?_) (fun c86 => ?_)
          · refine v_iincN (y := 1) dX10_isOld_91 (by rfl) (by decide) (by decide) ?_
            refine v_goto (tgt := 2) dX10_isOld_94 (by decide) ?_
            have hfl : odP v s n = true := by
              unfold odP
              rw [he2]
              first | (rw [c86]; rfl) | (rw [allB_0 (p := (fun k => decide (v.2.1 (n * 20 + k) = v.2.1 (s * 20 + k)))) (j := (v.2.2 s)) (by omega), c86]; rfl)
            exact ih (d - 1) (by omega) (n + 1) _ _ (by omega) (he.trans (allB_s (p := odP v s) (j := s) (by omega) hfl))
          · refine v_iconst (v := nI 1) dX10_isOld_89 (by decide) ?_
            refine v_iret dX10_isOld_90 rfl (by first | rfl | exact nar_bI) ?_
            have htr : odP v s n = false := by
              unfold odP
              rw [he2]
              first | (rw [allB_0 (p := (fun k => decide (v.2.1 (n * 20 + k) = v.2.1 (s * 20 + k)))) (j := (v.2.2 s)) (by omega), c86]; rfl) | (exact absurd c86 (by rw [c43]; decide))
            refine ⟨congrArg (fun x => (Sum.inl (some (Value.int x)) : aO)) ?_, rfl, rfl⟩
            rw [he, allB_f (p := odP v s) (j := s) (by omega) htr]
            rfl
        · refine v_aload_n dX10_isOld_46 rfl (by rfl) ?_
          refine v_getf hE dX10_isOld_47 fX10_39 mdS_M (by rfl) ?_
          refine v_bipush (v := nI 20) dX10_isOld_50 (by decide) ?_
          refine v_iload_n dX10_isOld_52 rfl (by rfl) ?_
          refine v_imulN dX10_isOld_53 ?_
          refine v_iload dX10_isOld_54 (by rfl) ?_
          refine v_iaddN dX10_isOld_56 ?_
          refine m_bald hE (k := 9) dX10_isOld_57 (by decide) (by decide) rfl (show _ < 180 by omega) (by omega) ?_
          refine v_eqi (y := v.2.1 (n * 20 + k)) (a3 k (by have := hb9 c43; omega)) ?_
          refine v_aload_n dX10_isOld_58 rfl (by rfl) ?_
          refine v_getf hE dX10_isOld_59 fX10_39 mdS_M (by rfl) ?_
          refine v_bipush (v := nI 20) dX10_isOld_62 (by decide) ?_
          refine v_iload_n dX10_isOld_64 rfl (by rfl) ?_
          refine v_imulN dX10_isOld_65 ?_
          refine v_iload dX10_isOld_66 (by rfl) ?_
          refine v_iaddN dX10_isOld_68 ?_
          refine m_bald hE (k := 9) dX10_isOld_69 (by decide) (by decide) rfl (show _ < 180 by omega) (by omega) ?_
          refine v_eqi (y := v.2.1 (s * 20 + k)) (b3 k (by omega)) ?_
          refine v_icmp_ne (tgt := 77) dX10_isOld_70 (by decide) (fun c70 => ?_) (fun c70 => ?_)
          · refine v_iconst (v := nI 0) dX10_isOld_77 (by decide) ?_
            refine v_istore_n dX10_isOld_78 rfl (by decide) ?_
            refine v_iincN (y := 1) dX10_isOld_79 (by rfl) (by decide) (by decide) ?_
            refine v_goto (tgt := 31) dX10_isOld_82 (by decide) ?_
            first
              | exact ih2 (d2 - 1) (by omega) (k + 1) true (by omega) (fun _ => hb9 c43) (he2.trans (by rw [c43, allB_s (p := (fun k => decide (v.2.1 (n * 20 + k) = v.2.1 (s * 20 + k)))) (j := (v.2.2 s)) (by omega) (decide_eq_true c70)]))
              | exact ih2 (d2 - 1) (by omega) (k + 1) false (by omega) (fun z => by cases z) (he2.trans (by rw [c43, allB_f (p := (fun k => decide (v.2.1 (n * 20 + k) = v.2.1 (s * 20 + k)))) (j := (v.2.2 s)) (by omega) (decide_eq_false c70)]; rfl))
          · refine v_iconst (v := nI 1) dX10_isOld_73 (by decide) ?_
            refine v_goto (tgt := 78) dX10_isOld_74 (by decide) ?_
            refine v_istore_n dX10_isOld_78 rfl (by decide) ?_
            refine v_iincN (y := 1) dX10_isOld_79 (by rfl) (by decide) (by decide) ?_
            refine v_goto (tgt := 31) dX10_isOld_82 (by decide) ?_
            first
              | exact ih2 (d2 - 1) (by omega) (k + 1) true (by omega) (fun _ => hb9 c43) (he2.trans (by rw [c43, allB_s (p := (fun k => decide (v.2.1 (n * 20 + k) = v.2.1 (s * 20 + k)))) (j := (v.2.2 s)) (by omega) (decide_eq_true c70)]))
              | exact ih2 (d2 - 1) (by omega) (k + 1) false (by omega) (fun z => by cases z) (he2.trans (by rw [c43, allB_f (p := (fun k => decide (v.2.1 (n * 20 + k) = v.2.1 (s * 20 + k)))) (j := (v.2.2 s)) (by omega) (decide_eq_false c70)]; rfl))
    refine v_iload_n dX10_isOld_2 rfl (by rfl) ?_
    refine v_iload_n dX10_isOld_3 rfl (by rfl) ?_
    refine v_icmp_geN (tgt := 97) dX10_isOld_4 (by decide) (by omega) (by omega) (fun c4 => ?_) (fun c4 => ?_)
    · refine v_iconst (v := nI 0) dX10_isOld_97 (by decide) ?_
      refine v_iret dX10_isOld_98 rfl (by first | rfl | exact nar_bI) ?_
      refine ⟨congrArg (fun x => (Sum.inl (some (Value.int x)) : aO)) ?_, rfl, rfl⟩
      rw [he, allB_0 (by omega)]
      rfl
    · have a2 := (hN n (by omega)).2.1
      have b2 := (hN s (by omega)).2.1
      refine v_aload_n dX10_isOld_7 rfl (by rfl) ?_
      refine v_getf hE dX10_isOld_8 fX10_42 mdS_M (by rfl) ?_
      refine v_iload_n dX10_isOld_11 rfl (by rfl) ?_
      refine m_iald hE (k := 10) dX10_isOld_12 (by decide) (by decide) rfl (show _ < 9 by omega) (by omega) ?_
      refine v_eqi (y := nI (v.2.2 n)) (hN n (by omega)).1 ?_
      refine v_aload_n dX10_isOld_13 rfl (by rfl) ?_
      refine v_getf hE dX10_isOld_14 fX10_42 mdS_M (by rfl) ?_
      refine v_iload_n dX10_isOld_17 rfl (by rfl) ?_
      refine m_iald hE (k := 10) dX10_isOld_18 (by decide) (by decide) rfl (show _ < 9 by omega) (by omega) ?_
      refine v_eqi (y := nI (v.2.2 s)) (hN s (by omega)).1 ?_
      refine v_icmp_neN (tgt := 26) dX10_isOld_19 (by decide) (by omega) (by omega) (fun c19 => ?_) (fun c19 => ?_)
      · refine v_iconst (v := nI 0) dX10_isOld_26 (by decide) ?_
        refine v_istore_n dX10_isOld_27 rfl (by decide) ?_
        refine v_iconst (v := nI 0) dX10_isOld_28 (by decide) ?_
        refine v_istore dX10_isOld_29 (by decide) ?_
        exact li (by omega) (v.2.2 s) 0 false (by omega) (fun z => by cases z) (by unfold nmSame; rw [decide_eq_false (show ¬ v.2.2 n = (v.2.2 s) by omega)]; rfl)
      · refine v_iconst (v := nI 1) dX10_isOld_22 (by decide) ?_
        refine v_goto (tgt := 27) dX10_isOld_23 (by decide) ?_
        refine v_istore_n dX10_isOld_27 rfl (by decide) ?_
        refine v_iconst (v := nI 0) dX10_isOld_28 (by decide) ?_
        refine v_istore dX10_isOld_29 (by decide) ?_
        exact li (by omega) (v.2.2 s) 0 true (by omega) (fun _ => by omega) (by unfold nmSame; rw [decide_eq_true (show v.2.2 n = (v.2.2 s) by omega), show v.2.2 n = (v.2.2 s) by omega])
  refine v_iconst (v := nI 0) dX10_isOld_0 (by decide) ?_
  refine v_istore_n dX10_isOld_1 rfl (by decide) ?_
  exact lp s 0 none none (by omega) rfl
