theorem tPart_in {u : tS} {i j n q : Nat} {f : Nat → Int32} (hj : j ≤ u.1) (hn : n < 8) (hq : q ≤ 20) : tPart u i j f (8 * 20) (n * 20) q = (decide (j - i = q) && allB (fun k => decide (u.2.1 (i + k) = f (n * 20 + k))) (q - 0) 0) := by
  unfold tPart
  rw [decide_eq_true hj, decide_eq_true (show n * 20 + q ≤ 8 * 20 by omega), Bool.true_and, Bool.true_and]
set_option maxRecDepth 100000 in
set_option maxHeartbeats 600000 in
/-- model: sequenceNamed -/
theorem sX10_sequenceNamed {E : eN} (hE : eOk E) {f : aH} {t : Nat} {M : Nat} {y : mV} {u : tS} {g : gV} {i j : Nat} (hp : mTp y u) (hG : mGn y g) (hgo : gOk g) (hij : i ≤ j) (hj : j ≤ u.1) : mT E mX10_sequenceNamed 0 0 [.ref M, .int (nI i), .int (nI j)] (mdS f M y) t (fun o f' t' => o = .inl (some (.int (nmIn 8 g.1 u i j))) ∧ t' = t ∧ f' = mdS f M y) := by
  refine mT_of (n := 3) (lo := [some (.ref M), some (.int (nI i)), some (.int (nI j)), none, none, none]) (by decide) (by exact Nat.le_of_ble_eq_true rfl) rfl rfl ?_
  have hu8 := hp.2.1
  have k3 := hgo.1.1
  have k4 := hgo.2.1
  have lp : ∀ (d n : Nat) (z4 z5 : Option Value), n + d = gCt g → nmIn 8 g.1 u i j = fndB (fun n => tPart u i j g.1.2.1 (8 * 20) (n * 20) (g.1.2.2 n)) (g.1.1 - n) n → V E mX10_sequenceNamed 0 0 (fun o f' t' => o = .inl (some (.int (nmIn 8 g.1 u i j))) ∧ t' = t ∧ f' = mdS f M y) 2 [some (.ref M), some (.int (nI i)), some (.int (nI j)), some (.int (nI n)), z4, z5] [] (mdS f M y) t 0 0 := by
    intro d
    induction d using Nat.strongRecOn with
    | _ d ih =>
    intro n z4 z5 hn he
    have li : n < gCt g → ∀ (d2 k : Nat) (b9 : Bool), k + d2 = (g.1.2.2 n) → (b9 = true → j - i = (g.1.2.2 n)) → tPart u i j g.1.2.1 (8 * 20) (n * 20) (g.1.2.2 n) = (b9 && allB (fun k => decide (u.2.1 (i + k) = g.1.2.1 (n * 20 + k))) ((g.1.2.2 n) - k) k) → V E mX10_sequenceNamed 0 0 (fun o f' t' => o = .inl (some (.int (nmIn 8 g.1 u i j))) ∧ t' = t ∧ f' = mdS f M y) 32 [some (.ref M), some (.int (nI i)), some (.int (nI j)), some (.int (nI n)), some (.int (bI b9)), some (.int (nI k))] [] (mdS f M y) t 0 0 := by
      intro hng d2
      obtain ⟨gf1, gf2, -⟩ := hG.2.1 n hng
      have g20 := hgo.1.2.2 n
      induction d2 using Nat.strongRecOn with
      | _ d2 ih2 =>
      intro k b9 hk hb9 he2
      refine v_iload dX10_sequenceNamed_32 (by rfl) ?_
      refine v_aload_n dX10_sequenceNamed_34 rfl (by rfl) ?_
      refine v_getf hE dX10_sequenceNamed_35 fX10_20 mdS_M (by rfl) ?_
      refine v_iload_n dX10_sequenceNamed_38 rfl (by rfl) ?_
      refine m_iald hE (k := 3) dX10_sequenceNamed_39 (by decide) (by decide) rfl (show _ < 9 by omega) (by omega) ?_
      refine v_eqi (y := nI (g.1.2.2 n)) gf1 ?_
      refine v_icmp_geN (tgt := 84) dX10_sequenceNamed_40 (by decide) (by omega) (by omega) (fun c40 => ?_) (fun c40 => ?_)
      · refine v_iload dX10_sequenceNamed_84 (by rfl) ?_
        refine v_if_eqB (tgt := 91) dX10_sequenceNamed_86 (by decide) (fun c86 => ?_) (fun c86 => ?_)
        · refine v_iincN (y := 1) dX10_sequenceNamed_91 (by rfl) (by decide) (by decide) ?_
          refine v_goto (tgt := 2) dX10_sequenceNamed_94 (by decide) ?_
          have hfl : (fun n => tPart u i j g.1.2.1 (8 * 20) (n * 20) (g.1.2.2 n)) n = false := by
            show tPart _ _ _ _ _ _ _ = _
            rw [he2]
            first | (rw [c86]; rfl) | (rw [allB_0 (p := (fun k => decide (u.2.1 (i + k) = g.1.2.1 (n * 20 + k)))) (j := (g.1.2.2 n)) (by omega), c86]; rfl)
          exact ih (d - 1) (by omega) (n + 1) _ _ (by omega) (he.trans (fndB_s (p := (fun n => tPart u i j g.1.2.1 (8 * 20) (n * 20) (g.1.2.2 n))) (j := g.1.1) (by omega) hfl))
        · refine v_iload_n dX10_sequenceNamed_89 rfl (by rfl) ?_
          refine v_iret dX10_sequenceNamed_90 rfl (by first | rfl | exact nar_bI) ?_
          have htr : (fun n => tPart u i j g.1.2.1 (8 * 20) (n * 20) (g.1.2.2 n)) n = true := by
            show tPart _ _ _ _ _ _ _ = _
            rw [he2]
            first | (rw [allB_0 (p := (fun k => decide (u.2.1 (i + k) = g.1.2.1 (n * 20 + k)))) (j := (g.1.2.2 n)) (by omega), c86]; rfl) | (exact absurd c86 (by rw [c45]; decide))
          refine ⟨congrArg (fun x => (Sum.inl (some (Value.int x)) : aO)) ?_, rfl, rfl⟩
          rw [he]
          exact (fndB_t (p := (fun n => tPart u i j g.1.2.1 (8 * 20) (n * 20) (g.1.2.2 n))) (j := g.1.1) (by omega) htr).symm
      · refine v_iload dX10_sequenceNamed_43 (by rfl) ?_
        refine v_if_eqB (tgt := 84) dX10_sequenceNamed_45 (by decide) (fun c45 => ?_) (fun c45 => ?_)
        · refine v_iload dX10_sequenceNamed_84 (by rfl) ?_
          refine v_if_eqB (tgt := 91) dX10_sequenceNamed_86 (by decide) (fun c86 => ?_) (fun c86 => ?_)
          · refine v_iincN (y := 1) dX10_sequenceNamed_91 (by rfl) (by decide) (by decide) ?_
            refine v_goto (tgt := 2) dX10_sequenceNamed_94 (by decide) ?_
            have hfl : (fun n => tPart u i j g.1.2.1 (8 * 20) (n * 20) (g.1.2.2 n)) n = false := by
              show tPart _ _ _ _ _ _ _ = _
              rw [he2]
              first | (rw [c86]; rfl) | (rw [allB_0 (p := (fun k => decide (u.2.1 (i + k) = g.1.2.1 (n * 20 + k)))) (j := (g.1.2.2 n)) (by omega), c86]; rfl)
            exact ih (d - 1) (by omega) (n + 1) _ _ (by omega) (he.trans (fndB_s (p := (fun n => tPart u i j g.1.2.1 (8 * 20) (n * 20) (g.1.2.2 n))) (j := g.1.1) (by omega) hfl))
          · refine v_iload_n dX10_sequenceNamed_89 rfl (by rfl) ?_
            refine v_iret dX10_sequenceNamed_90 rfl (by first | rfl | exact nar_bI) ?_
            have htr : (fun n => tPart u i j g.1.2.1 (8 * 20) (n * 20) (g.1.2.2 n)) n = true := by
              show tPart _ _ _ _ _ _ _ = _
              rw [he2]
              first | (rw [allB_0 (p := (fun k => decide (u.2.1 (i + k) = g.1.2.1 (n * 20 + k)))) (j := (g.1.2.2 n)) (by omega), c86]; rfl) | (exact absurd c86 (by rw [c45]; decide))
            refine ⟨congrArg (fun x => (Sum.inl (some (Value.int x)) : aO)) ?_, rfl, rfl⟩
            rw [he]
            exact (fndB_t (p := (fun n => tPart u i j g.1.2.1 (8 * 20) (n * 20) (g.1.2.2 n))) (j := g.1.1) (by omega) htr).symm
        · refine v_aload_n dX10_sequenceNamed_48 rfl (by rfl) ?_
          refine v_getf hE dX10_sequenceNamed_49 fX10_17 mdS_M (by rfl) ?_
          refine v_bipush (v := nI 20) dX10_sequenceNamed_52 (by decide) ?_
          refine v_iload_n dX10_sequenceNamed_54 rfl (by rfl) ?_
          refine v_imulN dX10_sequenceNamed_55 ?_
          refine v_iload dX10_sequenceNamed_56 (by rfl) ?_
          refine v_iaddN dX10_sequenceNamed_58 ?_
          refine m_bald hE (k := 2) dX10_sequenceNamed_59 (by decide) (by decide) rfl (show _ < 180 by omega) (by omega) ?_
          refine v_eqi (y := g.1.2.1 (n * 20 + k)) (gf2 k (by omega)) ?_
          refine v_aload_n dX10_sequenceNamed_60 rfl (by rfl) ?_
          refine v_iload_n dX10_sequenceNamed_61 rfl (by rfl) ?_
          refine v_iload dX10_sequenceNamed_62 (by rfl) ?_
          refine v_iaddN dX10_sequenceNamed_64 ?_
          refine w_callV hE dX10_sequenceNamed_65 kX10_156 mdS_M (by rfl) (by rfl) (sX10_at hE hp (by omega)) rfl (by decide) (by decide) (by exact Nat.le_of_ble_eq_true rfl) (by omega) (by omega) (fun v9 g9 u9 h9 => ?_) (fun _ _ _ h => by cases h.1)
          obtain ⟨hv9, hu9, hg9⟩ := h9
          replace hu9 := hu9.symm
          subst hu9
          subst hg9
          cases hv9
          refine v_icmp_ne (tgt := 75) dX10_sequenceNamed_68 (by decide) (fun c68 => ?_) (fun c68 => ?_)
          · refine v_iconst (v := nI 0) dX10_sequenceNamed_75 (by decide) ?_
            refine v_istore dX10_sequenceNamed_76 (by decide) ?_
            refine v_iincN (y := 1) dX10_sequenceNamed_78 (by rfl) (by decide) (by decide) ?_
            refine v_goto (tgt := 32) dX10_sequenceNamed_81 (by decide) ?_
            first
              | exact ih2 (d2 - 1) (by omega) (k + 1) true (by omega) (fun _ => hb9 c45) (he2.trans (by rw [c45, allB_s (p := (fun k => decide (u.2.1 (i + k) = g.1.2.1 (n * 20 + k)))) (j := (g.1.2.2 n)) (by omega) (decide_eq_true (show u.2.1 (i + k) = g.1.2.1 (n * 20 + k) by rw [← mOct_in (show i + k < u.1 by have := hb9 c45; omega) hu8]; exact c68.symm))]))
              | exact ih2 (d2 - 1) (by omega) (k + 1) false (by omega) (fun z => by cases z) (he2.trans (by rw [c45, allB_f (p := (fun k => decide (u.2.1 (i + k) = g.1.2.1 (n * 20 + k)))) (j := (g.1.2.2 n)) (by omega) (decide_eq_false (show ¬ u.2.1 (i + k) = g.1.2.1 (n * 20 + k) from fun z => c68 (by rw [← z, mOct_in (show i + k < u.1 by have := hb9 c45; omega) hu8])))]; rfl))
          · refine v_iconst (v := nI 1) dX10_sequenceNamed_71 (by decide) ?_
            refine v_goto (tgt := 76) dX10_sequenceNamed_72 (by decide) ?_
            refine v_istore dX10_sequenceNamed_76 (by decide) ?_
            refine v_iincN (y := 1) dX10_sequenceNamed_78 (by rfl) (by decide) (by decide) ?_
            refine v_goto (tgt := 32) dX10_sequenceNamed_81 (by decide) ?_
            first
              | exact ih2 (d2 - 1) (by omega) (k + 1) true (by omega) (fun _ => hb9 c45) (he2.trans (by rw [c45, allB_s (p := (fun k => decide (u.2.1 (i + k) = g.1.2.1 (n * 20 + k)))) (j := (g.1.2.2 n)) (by omega) (decide_eq_true (show u.2.1 (i + k) = g.1.2.1 (n * 20 + k) by rw [← mOct_in (show i + k < u.1 by have := hb9 c45; omega) hu8]; exact c68.symm))]))
              | exact ih2 (d2 - 1) (by omega) (k + 1) false (by omega) (fun z => by cases z) (he2.trans (by rw [c45, allB_f (p := (fun k => decide (u.2.1 (i + k) = g.1.2.1 (n * 20 + k)))) (j := (g.1.2.2 n)) (by omega) (decide_eq_false (show ¬ u.2.1 (i + k) = g.1.2.1 (n * 20 + k) from fun z => c68 (by rw [← z, mOct_in (show i + k < u.1 by have := hb9 c45; omega) hu8])))]; rfl))
    refine v_iload_n dX10_sequenceNamed_2 rfl (by rfl) ?_
    refine v_aload_n dX10_sequenceNamed_3 rfl (by rfl) ?_
    refine v_getf hE dX10_sequenceNamed_4 fX10_183 mdS_M (by rfl) ?_
    refine v_eqi (y := nI (gCt g)) hG.1 ?_
    refine v_icmp_geN (tgt := 97) dX10_sequenceNamed_7 (by decide) (by omega) (by omega) (fun c7 => ?_) (fun c7 => ?_)
    · refine v_iconst (v := (-1)) dX10_sequenceNamed_97 (by decide) ?_
      refine v_iret dX10_sequenceNamed_98 rfl (by first | rfl | exact nar_bI) ?_
      refine ⟨congrArg (fun x => (Sum.inl (some (Value.int x)) : aO)) ?_, rfl, rfl⟩
      rw [he]
      exact (fndB_0 (p := (fun n => tPart u i j g.1.2.1 (8 * 20) (n * 20) (g.1.2.2 n))) (j := g.1.1) (by omega)).symm
    · have g20 := hgo.1.2.2 n
      refine v_aload_n dX10_sequenceNamed_10 rfl (by rfl) ?_
      refine v_getf hE dX10_sequenceNamed_11 fX10_20 mdS_M (by rfl) ?_
      refine v_iload_n dX10_sequenceNamed_14 rfl (by rfl) ?_
      refine m_iald hE (k := 3) dX10_sequenceNamed_15 (by decide) (by decide) rfl (show _ < 9 by omega) (by omega) ?_
      refine v_eqi (y := nI (g.1.2.2 n)) (hG.2.1 n (by omega)).1 ?_
      refine v_iload_n dX10_sequenceNamed_16 rfl (by rfl) ?_
      refine v_iload_n dX10_sequenceNamed_17 rfl (by rfl) ?_
      refine v_isubN dX10_sequenceNamed_18 (by omega) ?_
      refine v_icmp_neN (tgt := 26) dX10_sequenceNamed_19 (by decide) (by omega) (by omega) (fun c19 => ?_) (fun c19 => ?_)
      · refine v_iconst (v := nI 0) dX10_sequenceNamed_26 (by decide) ?_
        refine v_istore dX10_sequenceNamed_27 (by decide) ?_
        refine v_iconst (v := nI 0) dX10_sequenceNamed_29 (by decide) ?_
        refine v_istore dX10_sequenceNamed_30 (by decide) ?_
        exact li (by omega) (g.1.2.2 n) 0 false (by omega) (fun z => by cases z) (by rw [tPart_in hj (by omega) g20, decide_eq_false (by omega)])
      · refine v_iconst (v := nI 1) dX10_sequenceNamed_22 (by decide) ?_
        refine v_goto (tgt := 27) dX10_sequenceNamed_23 (by decide) ?_
        refine v_istore dX10_sequenceNamed_27 (by decide) ?_
        refine v_iconst (v := nI 0) dX10_sequenceNamed_29 (by decide) ?_
        refine v_istore dX10_sequenceNamed_30 (by decide) ?_
        exact li (by omega) (g.1.2.2 n) 0 true (by omega) (fun _ => by omega) (by rw [tPart_in hj (by omega) g20, decide_eq_true (by omega)])
  refine v_iconst (v := nI 0) dX10_sequenceNamed_0 (by decide) ?_
  refine v_istore_n dX10_sequenceNamed_1 rfl (by decide) ?_
  exact lp (gCt g) 0 none none (by omega) rfl
