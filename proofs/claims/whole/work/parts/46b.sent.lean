set_option maxRecDepth 100000 in
set_option maxHeartbeats 4000000 in
/-- SheetReader.refIsThere -/
theorem sX8_refIsThere {E : eN} (hE : eOk E) {f : aH} {t : Nat} {a tp c s x : Nat} {v : qV} {u : tS} {w : eV} {g : gV} {q p : Nat} (h : srP tp c s f a v) (hu : oP f tp u) (hw : enP f x w) (hwo : enOk w) (da : x + 6 < a ∨ a + 1 < x) (dt : tp + 1 < x ∨ x + 6 < tp) (hg : gnP f c g) (hgo : gOk g) (hsq : eSq w = nI q) (hq : q < 2 ^ 30) (hpl : ePl w = nI p) (hp : p < 2 ^ 29) : mT E mX8_refIsThere 0 0 [.ref a, .ref x] f t (fun o f' t' => o = .inl (some (.int (bI (qRef g q p w)))) ∧ t' = t ∧ f' = f) := by
  refine mT_of (n := 1) (lo := [some (.ref a), some (.ref x), none]) (by decide) (by exact Nat.le_of_ble_eq_true rfl) rfl rfl ?_
  obtain ⟨h0, h1⟩ := id h
  obtain ⟨⟨u0, u1⟩, u2⟩ := id hu
  obtain ⟨x0, x1, x2, x3, x4, x5, x6⟩ := id hw
  have hr0 := hwo.2.1 0
  obtain ⟨y0, y1, y2, y3, y4, y5, y6, y7, y8⟩ := id hg
  have lp : ∀ (d : Nat) (k : Nat), k + d = eRs w 0 → qRef g q p w = allB (fun k => decide (gnLet g q (p + k) = eLet w 0 (nI k))) (eRs w 0 - k) k → V E mX8_refIsThere 0 0 (fun o f' t' => o = .inl (some (.int (bI (qRef g q p w)))) ∧ t' = t ∧ f' = f) 2 [some (.ref a), some (.ref x), some (.int (nI k))] [] f t 0 0 := by
    intro d
    induction d using Nat.strongRecOn with
    | _ d ih =>
    intro k hk he
    refine v_iload_n dX8_refIsThere_2 rfl (by rfl) ?_
    refine v_aload_n dX8_refIsThere_3 rfl (by rfl) ?_
    refine v_getf hE dX8_refIsThere_4 fX8_198 (by repeat (first | assumption | exact va_up_self _ _ _ | refine (va_up_ne _ _ (by omega)).trans ?_)) (by rfl) ?_
    refine v_iconst (v := nI 0) dX8_refIsThere_7 (by decide) ?_
    refine v_iald hE dX8_refIsThere_8 (by repeat (first | assumption | exact va_up_self _ _ _ | refine (va_up_ne _ _ (by omega)).trans ?_)) (by omega) (by omega) ?_
    refine v_icmp_geN (tgt := 46) dX8_refIsThere_9 (by decide) (by omega) (by omega) (fun c9 => ?_) (fun c9 => ?_)
    · refine v_iconst (v := nI 1) dX8_refIsThere_46 (by decide) ?_
      refine v_iret dX8_refIsThere_47 rfl (by first | rfl | exact nar_bI) ?_
      first | exact ⟨congrArg (fun x => (Sum.inl (some (Value.int x)) : aO)) (bI_t (he.trans (allB_0 (by omega)))), rfl, rfl⟩ | exact ⟨congrArg (fun x => (Sum.inl (some (Value.int x)) : aO)) (bI_f (he.trans (allB_f (by omega) (decide_eq_false c35)))), rfl, rfl⟩
    · refine v_aload_n dX8_refIsThere_12 rfl (by rfl) ?_
      refine v_getf hE dX8_refIsThere_13 fX8_15 (by repeat (first | assumption | exact va_up_self _ _ _ | refine (va_up_ne _ _ (by omega)).trans ?_)) (by rfl) ?_
      refine v_aload_n dX8_refIsThere_16 rfl (by rfl) ?_
      refine v_getf hE dX8_refIsThere_17 fX8_177 (by repeat (first | assumption | exact va_up_self _ _ _ | refine (va_up_ne _ _ (by omega)).trans ?_)) (by rfl) ?_
      refine v_eqi (y := nI q) hsq ?_
      refine v_aload_n dX8_refIsThere_20 rfl (by rfl) ?_
      refine v_getf hE dX8_refIsThere_21 fX8_189 (by repeat (first | assumption | exact va_up_self _ _ _ | refine (va_up_ne _ _ (by omega)).trans ?_)) (by rfl) ?_
      refine v_eqi (y := nI p) hpl ?_
      refine v_iload_n dX8_refIsThere_24 rfl (by rfl) ?_
      refine v_iaddN dX8_refIsThere_25 ?_
      refine w_callV hE dX8_refIsThere_26 kX8_211 (by repeat (first | assumption | exact va_up_self _ _ _ | refine (va_up_ne _ _ (by omega)).trans ?_)) (by rfl) (by rfl) (sX1_letterAt hE hg hgo (by omega) (by omega)) rfl (by decide) (by decide) (by exact Nat.le_of_ble_eq_true rfl) (by omega) (by omega) (fun v9 g9 u9 h9 => ?_) (fun _ _ _ h => by cases h.1)
      obtain ⟨hv9, hu9, hg9⟩ := h9
      replace hu9 := hu9.symm
      replace hg9 := hg9.symm
      subst hu9
      subst hg9
      cases hv9
      refine v_aload_n dX8_refIsThere_29 rfl (by rfl) ?_
      refine v_iconst (v := nI 0) dX8_refIsThere_30 (by decide) ?_
      refine v_iload_n dX8_refIsThere_31 rfl (by rfl) ?_
      refine w_callV hE dX8_refIsThere_32 kX8_214 (by repeat (first | assumption | exact va_up_self _ _ _ | refine (va_up_ne _ _ (by omega)).trans ?_)) (by rfl) (by rfl) (sX0_letterAt hE hw hwo (by omega)) rfl (by decide) (by decide) (by exact Nat.le_of_ble_eq_true rfl) (by omega) (by omega) (fun v9 g9 u9 h9 => ?_) (fun _ _ _ h => by cases h.1)
      obtain ⟨hv9, hu9, hg9⟩ := h9
      replace hu9 := hu9.symm
      replace hg9 := hg9.symm
      subst hu9
      subst hg9
      cases hv9
      refine v_icmp_eq (tgt := 40) dX8_refIsThere_35 (by decide) (fun c35 => ?_) (fun c35 => ?_)
      · refine v_iincN (y := 1) dX8_refIsThere_40 (by rfl) (by decide) (by decide) ?_
        refine v_goto (tgt := 2) dX8_refIsThere_43 (by decide) ?_
        exact ih (d - 1) (by omega) (k + 1) (by omega) (he.trans (allB_s (by omega) (decide_eq_true c35)))
      · refine v_iconst (v := nI 0) dX8_refIsThere_38 (by decide) ?_
        refine v_iret dX8_refIsThere_39 rfl (by first | rfl | exact nar_bI) ?_
        first | exact ⟨congrArg (fun x => (Sum.inl (some (Value.int x)) : aO)) (bI_t (he.trans (allB_0 (by omega)))), rfl, rfl⟩ | exact ⟨congrArg (fun x => (Sum.inl (some (Value.int x)) : aO)) (bI_f (he.trans (allB_f (by omega) (decide_eq_false c35)))), rfl, rfl⟩
  refine v_iconst (v := nI 0) dX8_refIsThere_0 (by decide) ?_
  refine v_istore_n dX8_refIsThere_1 rfl (by decide) ?_
  exact lp (eRs w 0) 0 (by omega) rfl

set_option maxRecDepth 100000 in
set_option maxHeartbeats 4000000 in
/-- SheetReader.takeAlt -/
theorem sX8_takeAlt {E : eN} (hE : eOk E) {f : aH} {t : Nat} {a tp c s x : Nat} {v : qV} {u : tS} {w : eV} {i j : Nat} (h : srP tp c s f a v) (hu : oP f tp u) (hw : enP f x w) (hwo : enOk w) (da : x + 6 < a ∨ a + 1 < x) (dt : tp + 1 < x ∨ x + 6 < tp) (hi : i < 2 ^ 29) (hj : j < 2 ^ 29) : mT E mX8_takeAlt 0 0 [.ref a, .ref x, .int (nI i), .int (nI j)] f t (fun o f' t' => o = .inl (some (.int (bI (qAlt u i j w).1))) ∧ t' = t ∧ f' = enS f x (qAlt u i j w).2) := by
  refine mT_of (n := 2) (lo := [some (.ref a), some (.ref x), some (.int (nI i)), some (.int (nI j)), none, none]) (by decide) (by exact Nat.le_of_ble_eq_true rfl) rfl rfl ?_
  have hro := hwo.1
  obtain ⟨h0, h1⟩ := id h
  obtain ⟨⟨u0, u1⟩, u2⟩ := id hu
  obtain ⟨x0, x1, x2, x3, x4, x5, x6⟩ := id hw
  have lp : qAlt u i j w = (allB (fun b => ! eRowIs (qRow u (eRo w) i j w).2 b (qRow u (eRo w) i j w).2 (eRo w)) (eRo w - 0) 0, (qRow u (eRo w) i j w).2) → eRo w < 4 → ∀ (d : Nat) (k : Nat), k + d = eRo w → allB (fun b => ! eRowIs (qRow u (eRo w) i j w).2 b (qRow u (eRo w) i j w).2 (eRo w)) (eRo w - 0) 0 = allB (fun b => ! eRowIs (qRow u (eRo w) i j w).2 b (qRow u (eRo w) i j w).2 (eRo w)) (eRo w - k) k → V E mX8_takeAlt 0 0 (fun o f' t' => o = .inl (some (.int (bI (qAlt u i j w).1))) ∧ t' = t ∧ f' = enS f x (qAlt u i j w).2) 23 [some (.ref a), some (.ref x), some (.int (nI i)), some (.int (nI j)), some (.int (nI (eRo w))), some (.int (nI k))] [] (enS f x (qRow u (eRo w) i j w).2) t 0 0 := by
    intro hq hr4 d
    induction d using Nat.strongRecOn with
    | _ d ih =>
    intro k hk he
    have hyo : enOk (qRow u (eRo w) i j w).2 := qRow_ok hwo
    obtain ⟨h2, h3⟩ := sr_enS (w := (qRow u (eRo w) i j w).2) h da
    have hu2 := oP_enS (w := (qRow u (eRo w) i j w).2) hu dt
    obtain ⟨⟨u4, u5⟩, u6⟩ := id hu2
    have hw2 := enP_S f x (qRow u (eRo w) i j w).2
    obtain ⟨x0, x1, x2, x3, x4, x5, x6⟩ := id hw2
    refine v_iload dX8_takeAlt_23 (by rfl) ?_
    refine v_iload dX8_takeAlt_25 (by rfl) ?_
    refine v_icmp_geN (tgt := 50) dX8_takeAlt_27 (by decide) (by omega) (by omega) (fun c27 => ?_) (fun c27 => ?_)
    · refine v_iconst (v := nI 1) dX8_takeAlt_50 (by decide) ?_
      refine v_iret dX8_takeAlt_51 rfl (by first | rfl | exact nar_bI) ?_
      first
        | (have hR : qAlt u i j w = (false, (qRow u (eRo w) i j w).2) := hq.trans (by rw [he, allB_f (by omega) (by rw [c39]; rfl)])
           rw [hR]; exact ⟨rfl, rfl, rfl⟩)
        | (have hR : qAlt u i j w = (true, (qRow u (eRo w) i j w).2) := hq.trans (by rw [he, allB_0 (by omega)])
           rw [hR]; exact ⟨rfl, rfl, rfl⟩)
    · refine v_aload_n dX8_takeAlt_30 rfl (by rfl) ?_
      refine v_iload dX8_takeAlt_31 (by rfl) ?_
      refine v_aload_n dX8_takeAlt_33 rfl (by rfl) ?_
      refine v_iload dX8_takeAlt_34 (by rfl) ?_
      refine w_callV hE dX8_takeAlt_36 kX8_219 (by repeat (first | assumption | exact va_up_self _ _ _ | refine (va_up_ne _ _ (by omega)).trans ?_)) (by rfl) (by rfl) (sX0_rowIs hE hw2 hyo hw2 hyo (by omega) (by omega)) rfl (by decide) (by decide) (by exact Nat.le_of_ble_eq_true rfl) (by omega) (by omega) (fun v9 g9 u9 h9 => ?_) (fun _ _ _ h => by cases h.1)
      obtain ⟨hv9, hu9, hg9⟩ := h9
      replace hu9 := hu9.symm
      replace hg9 := hg9.symm
      subst hu9
      subst hg9
      cases hv9
      refine v_if_eqB (tgt := 44) dX8_takeAlt_39 (by decide) (fun c39 => ?_) (fun c39 => ?_)
      · refine v_iincN (y := 1) dX8_takeAlt_44 (by rfl) (by decide) (by decide) ?_
        refine v_goto (tgt := 23) dX8_takeAlt_47 (by decide) ?_
        exact ih (d - 1) (by omega) (k + 1) (by omega) (he.trans (allB_s (by omega) (by rw [c39]; rfl)))
      · refine v_iconst (v := nI 0) dX8_takeAlt_42 (by decide) ?_
        refine v_iret dX8_takeAlt_43 rfl (by first | rfl | exact nar_bI) ?_
        first
          | (have hR : qAlt u i j w = (false, (qRow u (eRo w) i j w).2) := hq.trans (by rw [he, allB_f (by omega) (by rw [c39]; rfl)])
             rw [hR]; exact ⟨rfl, rfl, rfl⟩)
          | (have hR : qAlt u i j w = (true, (qRow u (eRo w) i j w).2) := hq.trans (by rw [he, allB_0 (by omega)])
             rw [hR]; exact ⟨rfl, rfl, rfl⟩)
  refine v_aload_n dX8_takeAlt_0 rfl (by rfl) ?_
  refine v_getf hE dX8_takeAlt_1 fX8_208 (by repeat (first | assumption | exact va_up_self _ _ _ | refine (va_up_ne _ _ (by omega)).trans ?_)) (by rfl) ?_
  refine v_istore dX8_takeAlt_4 (by decide) ?_
  refine v_aload_n dX8_takeAlt_6 rfl (by rfl) ?_
  refine v_aload_n dX8_takeAlt_7 rfl (by rfl) ?_
  refine v_iload dX8_takeAlt_8 (by rfl) ?_
  refine v_iload_n dX8_takeAlt_10 rfl (by rfl) ?_
  refine v_iload_n dX8_takeAlt_11 rfl (by rfl) ?_
  refine w_callV hE dX8_takeAlt_12 kX8_151 (by repeat (first | assumption | exact va_up_self _ _ _ | refine (va_up_ne _ _ (by omega)).trans ?_)) (by rfl) (by rfl) (sX8_takeRow hE h hu hw hwo da dt (by omega) (by omega) (by omega)) rfl (by decide) (by decide) (by exact Nat.le_of_ble_eq_true rfl) (by omega) (by omega) (fun v9 g9 u9 h9 => ?_) (fun _ _ _ h => by cases h.1)
  obtain ⟨hv9, hu9, hg9⟩ := h9
  replace hu9 := hu9.symm
  replace hg9 := hg9.symm
  subst hu9
  subst hg9
  cases hv9
  refine v_if_neB (tgt := 20) dX8_takeAlt_15 (by decide) (fun c15 => ?_) (fun c15 => ?_)
  · refine v_iconst (v := nI 0) dX8_takeAlt_20 (by decide) ?_
    refine v_istore dX8_takeAlt_21 (by decide) ?_
    exact lp (if_pos c15) (by have q := c15; unfold qRow at q; split at q; (· cases q); (· omega)) (eRo w) 0 (by omega) rfl
  · refine v_iconst (v := nI 0) dX8_takeAlt_18 (by decide) ?_
    refine v_iret dX8_takeAlt_19 rfl (by first | rfl | exact nar_bI) ?_
    have hR : qAlt u i j w = (false, (qRow u (eRo w) i j w).2) := if_neg (fun hh => by rw [c15] at hh; cases hh)
    rw [hR]
    exact ⟨rfl, rfl, rfl⟩

set_option maxRecDepth 100000 in
set_option maxHeartbeats 4000000 in
/-- SheetReader.takeAlts -/
theorem sX8_takeAlts {E : eN} (hE : eOk E) {f : aH} {t : Nat} {a tp c s x : Nat} {v : qV} {u : tS} {w : eV} (h : srP tp c s f a v) (hu : oP f tp u) (hw : enP f x w) (hwo : enOk w) (da : x + 6 < a ∨ a + 1 < x) (dt : tp + 1 < x ∨ x + 6 < tp) (hC : qC v) (hm : 8 ≤ qCm v) (hS : eSt E) : mT E mX8_takeAlts 0 0 [.ref a, .ref x] f t (fun o f' t' => o = .inl (some (.int (bI (qAlts u v w).1))) ∧ t' = t ∧ f' = enS f x (qAlts u v w).2) := by
  refine mT_of (n := 3) (lo := [some (.ref a), some (.ref x), none, none, none]) (by decide) (by exact Nat.le_of_ble_eq_true rfl) rfl rfl ?_
  obtain ⟨h0, h1⟩ := id h
  obtain ⟨⟨u0, u1⟩, u2⟩ := id hu
  obtain ⟨x0, x1, x2, x3, x4, x5, x6⟩ := id hw
  have g4 : qSt v 4 < qSt v 5 := (hC.2 4 (by omega) (by omega)).2
  have g4b := hC.1 5
  have lp : qAlts u v w = qAltL u (qSt v 5 - 1) ((qSt v 5 - 1) + 1 - (qSt v 4)) (qSt v 4) (qSt v 4) w → ∀ (d : Nat) (k i : Nat) (y : eV), k + d = (qSt v 5 - 1) + 1 → i ≤ k → enOk y → qAltL u (qSt v 5 - 1) ((qSt v 5 - 1) + 1 - (qSt v 4)) (qSt v 4) (qSt v 4) w = qAltL u (qSt v 5 - 1) ((qSt v 5 - 1) + 1 - k) k i y → V E mX8_takeAlts 0 0 (fun o f' t' => o = .inl (some (.int (bI (qAlts u v w).1))) ∧ t' = t ∧ f' = enS f x (qAlts u v w).2) 31 [some (.ref a), some (.ref x), some (.int (nI i)), some (.int (nI (qSt v 5 - 1))), some (.int (nI k))] [] (enS f x y) t 0 0 := by
    intro hq d
    induction d using Nat.strongRecOn with
    | _ d ih =>
    intro k i y hk hi hy he
    obtain ⟨h2, h3⟩ := sr_enS (w := y) h da
    have hu2 := oP_enS (w := y) hu dt
    obtain ⟨⟨u4, u5⟩, u6⟩ := id hu2
    have hw2 := enP_S f x y
    obtain ⟨x0, x1, x2, x3, x4, x5, x6⟩ := id hw2
    refine v_iload dX8_takeAlts_31 (by rfl) ?_
    refine v_iload_n dX8_takeAlts_33 rfl (by rfl) ?_
    refine v_icmp_gtN (tgt := 81) dX8_takeAlts_34 (by decide) (by omega) (by omega) (fun c34 => ?_) (fun c34 => ?_)
    · refine v_iconst (v := nI 1) dX8_takeAlts_81 (by decide) ?_
      refine v_iret dX8_takeAlts_82 rfl (by first | rfl | exact nar_bI) ?_
      first
        | (have hR : qAlts u v w = (true, y) := hq.trans (he.trans (by rw [show (qSt v 5 - 1) + 1 - k = 0 by omega]; rfl))
           rw [hR]; exact ⟨rfl, rfl, rfl⟩)
        | (have hR : qAlts u v w = (false, (qAlt u i k y).2) := hq.trans (he.trans (by rw [show (qSt v 5 - 1) + 1 - k = ((qSt v 5 - 1) + 1 - (k + 1)) + 1 by omega]; exact (if_pos (by first | exact Or.inl c40 | exact Or.inr c54)).trans (if_neg (by rw [c65]; decide))))
           rw [hR]; exact ⟨rfl, rfl, rfl⟩)
    · refine v_iload dX8_takeAlts_37 (by rfl) ?_
      refine v_iload_n dX8_takeAlts_39 rfl (by rfl) ?_
      refine v_icmp_eqN (tgt := 57) dX8_takeAlts_40 (by decide) (by omega) (by omega) (fun c40 => ?_) (fun c40 => ?_)
      · refine v_aload_n dX8_takeAlts_57 rfl (by rfl) ?_
        refine v_aload_n dX8_takeAlts_58 rfl (by rfl) ?_
        refine v_iload_n dX8_takeAlts_59 rfl (by rfl) ?_
        refine v_iload dX8_takeAlts_60 (by rfl) ?_
        refine w_callV hE dX8_takeAlts_62 kX8_215 (by repeat (first | assumption | exact va_up_self _ _ _ | refine (va_up_ne _ _ (by omega)).trans ?_)) (by rfl) (by rfl) (sX8_takeAlt hE ⟨h2, h3⟩ hu2 hw2 hy da dt (by omega) (by omega)) rfl (by decide) (by decide) (by exact Nat.le_of_ble_eq_true rfl) (by omega) (by omega) (fun v9 g9 u9 h9 => ?_) (fun _ _ _ h => by cases h.1)
        obtain ⟨hv9, hu9, hg9⟩ := h9
        replace hu9 := hu9.symm
        replace hg9 := hg9.symm
        subst hu9
        subst hg9
        cases hv9
        refine v_hp enS_S ?_
        refine v_if_neB (tgt := 70) dX8_takeAlts_65 (by decide) (fun c65 => ?_) (fun c65 => ?_)
        · refine v_iload dX8_takeAlts_70 (by rfl) ?_
          refine v_iconst (v := nI 1) dX8_takeAlts_72 (by decide) ?_
          refine v_iaddN dX8_takeAlts_73 ?_
          refine v_istore_n dX8_takeAlts_74 rfl (by decide) ?_
          refine v_iincN (y := 1) dX8_takeAlts_75 (by rfl) (by decide) (by decide) ?_
          refine v_goto (tgt := 31) dX8_takeAlts_78 (by decide) ?_
          first
            | exact ih (d - 1) (by omega) (k + 1) (k + 1) (qAlt u i k y).2 (by omega) (by omega) (qAlt_ok hy) (he.trans (by rw [show (qSt v 5 - 1) + 1 - k = ((qSt v 5 - 1) + 1 - (k + 1)) + 1 by omega]; exact (if_pos (by first | exact Or.inl c40 | exact Or.inr c54)).trans (if_pos c65)))
            | exact ih (d - 1) (by omega) (k + 1) i y (by omega) (by omega) hy (he.trans (by rw [show (qSt v 5 - 1) + 1 - k = ((qSt v 5 - 1) + 1 - (k + 1)) + 1 by omega]; exact if_neg (fun z => z.elim c40 c54)))
        · refine v_iconst (v := nI 0) dX8_takeAlts_68 (by decide) ?_
          refine v_iret dX8_takeAlts_69 rfl (by first | rfl | exact nar_bI) ?_
          first
            | (have hR : qAlts u v w = (true, y) := hq.trans (he.trans (by rw [show (qSt v 5 - 1) + 1 - k = 0 by omega]; rfl))
               rw [hR]; exact ⟨rfl, rfl, rfl⟩)
            | (have hR : qAlts u v w = (false, (qAlt u i k y).2) := hq.trans (he.trans (by rw [show (qSt v 5 - 1) + 1 - k = ((qSt v 5 - 1) + 1 - (k + 1)) + 1 by omega]; exact (if_pos (by first | exact Or.inl c40 | exact Or.inr c54)).trans (if_neg (by rw [c65]; decide))))
               rw [hR]; exact ⟨rfl, rfl, rfl⟩)
      · refine v_aload_n dX8_takeAlts_43 rfl (by rfl) ?_
        refine v_getf hE dX8_takeAlts_44 fX8_9 (by repeat (first | assumption | exact va_up_self _ _ _ | refine (va_up_ne _ _ (by omega)).trans ?_)) (by rfl) ?_
        refine v_iload dX8_takeAlts_47 (by rfl) ?_
        refine w_callV hE dX8_takeAlts_49 kX8_104 (by repeat (first | assumption | exact va_up_self _ _ _ | refine (va_up_ne _ _ (by omega)).trans ?_)) (by rfl) (by rfl) (sX6_at hE hu2.1 u2) rfl (by decide) (by decide) (by exact Nat.le_of_ble_eq_true rfl) (by omega) (by omega) (fun v9 g9 u9 h9 => ?_) (fun _ _ _ h => by cases h.1)
        obtain ⟨hv9, hu9, hg9⟩ := h9
        replace hu9 := hu9.symm
        replace hg9 := hg9.symm
        subst hu9
        subst hg9
        cases hv9
        refine v_bipush (v := nI 44) dX8_takeAlts_52 (by decide) ?_
        refine v_icmp_ne (tgt := 75) dX8_takeAlts_54 (by decide) (fun c54 => ?_) (fun c54 => ?_)
        · refine v_iincN (y := 1) dX8_takeAlts_75 (by rfl) (by decide) (by decide) ?_
          refine v_goto (tgt := 31) dX8_takeAlts_78 (by decide) ?_
          first
            | exact ih (d - 1) (by omega) (k + 1) (k + 1) (qAlt u i k y).2 (by omega) (by omega) (qAlt_ok hy) (he.trans (by rw [show (qSt v 5 - 1) + 1 - k = ((qSt v 5 - 1) + 1 - (k + 1)) + 1 by omega]; exact (if_pos (by first | exact Or.inl c40 | exact Or.inr c54)).trans (if_pos c65)))
            | exact ih (d - 1) (by omega) (k + 1) i y (by omega) (by omega) hy (he.trans (by rw [show (qSt v 5 - 1) + 1 - k = ((qSt v 5 - 1) + 1 - (k + 1)) + 1 by omega]; exact if_neg (fun z => z.elim c40 c54)))
        · refine v_aload_n dX8_takeAlts_57 rfl (by rfl) ?_
          refine v_aload_n dX8_takeAlts_58 rfl (by rfl) ?_
          refine v_iload_n dX8_takeAlts_59 rfl (by rfl) ?_
          refine v_iload dX8_takeAlts_60 (by rfl) ?_
          refine w_callV hE dX8_takeAlts_62 kX8_215 (by repeat (first | assumption | exact va_up_self _ _ _ | refine (va_up_ne _ _ (by omega)).trans ?_)) (by rfl) (by rfl) (sX8_takeAlt hE ⟨h2, h3⟩ hu2 hw2 hy da dt (by omega) (by omega)) rfl (by decide) (by decide) (by exact Nat.le_of_ble_eq_true rfl) (by omega) (by omega) (fun v9 g9 u9 h9 => ?_) (fun _ _ _ h => by cases h.1)
          obtain ⟨hv9, hu9, hg9⟩ := h9
          replace hu9 := hu9.symm
          replace hg9 := hg9.symm
          subst hu9
          subst hg9
          cases hv9
          refine v_hp enS_S ?_
          refine v_if_neB (tgt := 70) dX8_takeAlts_65 (by decide) (fun c65 => ?_) (fun c65 => ?_)
          · refine v_iload dX8_takeAlts_70 (by rfl) ?_
            refine v_iconst (v := nI 1) dX8_takeAlts_72 (by decide) ?_
            refine v_iaddN dX8_takeAlts_73 ?_
            refine v_istore_n dX8_takeAlts_74 rfl (by decide) ?_
            refine v_iincN (y := 1) dX8_takeAlts_75 (by rfl) (by decide) (by decide) ?_
            refine v_goto (tgt := 31) dX8_takeAlts_78 (by decide) ?_
            first
              | exact ih (d - 1) (by omega) (k + 1) (k + 1) (qAlt u i k y).2 (by omega) (by omega) (qAlt_ok hy) (he.trans (by rw [show (qSt v 5 - 1) + 1 - k = ((qSt v 5 - 1) + 1 - (k + 1)) + 1 by omega]; exact (if_pos (by first | exact Or.inl c40 | exact Or.inr c54)).trans (if_pos c65)))
              | exact ih (d - 1) (by omega) (k + 1) i y (by omega) (by omega) hy (he.trans (by rw [show (qSt v 5 - 1) + 1 - k = ((qSt v 5 - 1) + 1 - (k + 1)) + 1 by omega]; exact if_neg (fun z => z.elim c40 c54)))
          · refine v_iconst (v := nI 0) dX8_takeAlts_68 (by decide) ?_
            refine v_iret dX8_takeAlts_69 rfl (by first | rfl | exact nar_bI) ?_
            first
              | (have hR : qAlts u v w = (true, y) := hq.trans (he.trans (by rw [show (qSt v 5 - 1) + 1 - k = 0 by omega]; rfl))
                 rw [hR]; exact ⟨rfl, rfl, rfl⟩)
              | (have hR : qAlts u v w = (false, (qAlt u i k y).2) := hq.trans (he.trans (by rw [show (qSt v 5 - 1) + 1 - k = ((qSt v 5 - 1) + 1 - (k + 1)) + 1 by omega]; exact (if_pos (by first | exact Or.inl c40 | exact Or.inr c54)).trans (if_neg (by rw [c65]; decide))))
                 rw [hR]; exact ⟨rfl, rfl, rfl⟩)
  refine v_aload_n dX8_takeAlts_0 rfl (by rfl) ?_
  refine v_iconst (v := nI 4) dX8_takeAlts_1 (by decide) ?_
  refine v_ldcS hS (r := (RX8, 167, ".", tx7)) dX8_takeAlts_2 (by unfold strTab; repeat (first | exact List.Mem.head _ | apply List.Mem.tail)) rfl rfl (fun q2 hq2 => ?_)
  refine w_callV hE dX8_takeAlts_4 kX8_112 (by repeat (first | assumption | exact va_up_self _ _ _ | refine (va_up_ne _ _ (by omega)).trans ?_)) (by rfl) (by rfl) (sX8_columnIs hE h hu hS hq2 (by decide) (by decide) (by omega) g4 g4b) rfl (by decide) (by decide) (by exact Nat.le_of_ble_eq_true rfl) (by omega) (by omega) (fun v9 g9 u9 h9 => ?_) (fun _ _ _ h => by cases h.1)
  obtain ⟨hv9, hu9, hg9⟩ := h9
  replace hu9 := hu9.symm
  replace hg9 := hg9.symm
  subst hu9
  subst hg9
  cases hv9
  refine v_if_eqB (tgt := 12) dX8_takeAlts_7 (by decide) (fun c7 => ?_) (fun c7 => ?_)
  · refine v_aload_n dX8_takeAlts_12 rfl (by rfl) ?_
    refine v_getf hE dX8_takeAlts_13 fX8_23 (by repeat (first | assumption | exact va_up_self _ _ _ | refine (va_up_ne _ _ (by omega)).trans ?_)) (by rfl) ?_
    refine v_iconst (v := nI 4) dX8_takeAlts_16 (by decide) ?_
    refine v_iald hE dX8_takeAlts_17 (by repeat (first | assumption | exact va_up_self _ _ _ | refine (va_up_ne _ _ (by omega)).trans ?_)) (by omega) (by omega) ?_
    refine v_istore_n dX8_takeAlts_18 rfl (by decide) ?_
    refine v_aload_n dX8_takeAlts_19 rfl (by rfl) ?_
    refine v_getf hE dX8_takeAlts_20 fX8_23 (by repeat (first | assumption | exact va_up_self _ _ _ | refine (va_up_ne _ _ (by omega)).trans ?_)) (by rfl) ?_
    refine v_iconst (v := nI 5) dX8_takeAlts_23 (by decide) ?_
    refine v_iald hE dX8_takeAlts_24 (by repeat (first | assumption | exact va_up_self _ _ _ | refine (va_up_ne _ _ (by omega)).trans ?_)) (by omega) (by omega) ?_
    refine v_iconst (v := nI 1) dX8_takeAlts_25 (by decide) ?_
    refine v_isubN dX8_takeAlts_26 (by omega) ?_
    refine v_istore_n dX8_takeAlts_27 rfl (by decide) ?_
    refine v_iload_n dX8_takeAlts_28 rfl (by rfl) ?_
    refine v_istore dX8_takeAlts_29 (by decide) ?_
    refine v_hp (show f = enS f x w from (enS_id hw).symm) ?_
    exact lp (if_neg (by rw [c7]; decide)) ((qSt v 5 - 1) + 1 - (qSt v 4)) (qSt v 4) (qSt v 4) w (by omega) (by omega) hwo rfl
  · refine v_iconst (v := nI 1) dX8_takeAlts_10 (by decide) ?_
    refine v_iret dX8_takeAlts_11 rfl (by first | rfl | exact nar_bI) ?_
    have hR : qAlts u v w = (true, w) := if_pos c7
    rw [hR]
    exact ⟨rfl, rfl, (enS_id hw).symm⟩

set_option maxRecDepth 100000 in
set_option maxHeartbeats 4000000 in
/-- SheetReader.takeQuality -/
theorem sX8_takeQuality {E : eN} (hE : eOk E) {f : aH} {t : Nat} {a tp c s x : Nat} {v : qV} {u : tS} {w : eV} (h : srP tp c s f a v) (hu : oP f tp u) (hw : enP f x w) (hwo : enOk w) (da : x + 6 < a ∨ a + 1 < x) (dt : tp + 1 < x ∨ x + 6 < tp) (hC : qC v) (hm : 8 ≤ qCm v) (hS : eSt E) : mT E mX8_takeQuality 0 0 [.ref a, .ref x] f t (fun o f' t' => o = .inl (some (.int (bI (qQua u v w).1))) ∧ t' = t ∧ f' = enS f x (qQua u v w).2) := by
  refine mT_of (n := 0) (lo := [some (.ref a), some (.ref x)]) (by decide) (by exact Nat.le_of_ble_eq_true rfl) rfl rfl ?_
  obtain ⟨h0, h1⟩ := id h
  obtain ⟨⟨u0, u1⟩, u2⟩ := id hu
  obtain ⟨x0, x1, x2, x3, x4, x5, x6⟩ := id hw
  have g5 : qSt v 5 < qSt v 6 := (hC.2 5 (by omega) (by omega)).2
  have g5b := hC.1 6
  refine v_aload_n dX8_takeQuality_0 rfl (by rfl) ?_
  refine v_aload_n dX8_takeQuality_1 rfl (by rfl) ?_
  refine v_getf hE dX8_takeQuality_2 fX8_9 (by repeat (first | assumption | exact va_up_self _ _ _ | refine (va_up_ne _ _ (by omega)).trans ?_)) (by rfl) ?_
  refine v_aload_n dX8_takeQuality_5 rfl (by rfl) ?_
  refine v_getf hE dX8_takeQuality_6 fX8_23 (by repeat (first | assumption | exact va_up_self _ _ _ | refine (va_up_ne _ _ (by omega)).trans ?_)) (by rfl) ?_
  refine v_iconst (v := nI 5) dX8_takeQuality_9 (by decide) ?_
  refine v_iald hE dX8_takeQuality_10 (by repeat (first | assumption | exact va_up_self _ _ _ | refine (va_up_ne _ _ (by omega)).trans ?_)) (by omega) (by omega) ?_
  refine v_aload_n dX8_takeQuality_11 rfl (by rfl) ?_
  refine v_getf hE dX8_takeQuality_12 fX8_23 (by repeat (first | assumption | exact va_up_self _ _ _ | refine (va_up_ne _ _ (by omega)).trans ?_)) (by rfl) ?_
  refine v_bipush (v := nI 6) dX8_takeQuality_15 (by decide) ?_
  refine v_iald hE dX8_takeQuality_17 (by repeat (first | assumption | exact va_up_self _ _ _ | refine (va_up_ne _ _ (by omega)).trans ?_)) (by omega) (by omega) ?_
  refine v_iconst (v := nI 1) dX8_takeQuality_18 (by decide) ?_
  refine v_isubN dX8_takeQuality_19 (by omega) ?_
  refine v_ldc hE (v := nI 999999) dX8_takeQuality_20 (mem_at (j := 1026) (by decide +kernel)) ?_
  refine w_callV hE dX8_takeQuality_22 kX8_185 (by repeat (first | assumption | exact va_up_self _ _ _ | refine (va_up_ne _ _ (by omega)).trans ?_)) (by rfl) (by rfl) (sX6_numberAt hE hu (by omega) (by omega) (by omega)) rfl (by decide) (by decide) (by exact Nat.le_of_ble_eq_true rfl) (by omega) (by omega) (fun v9 g9 u9 h9 => ?_) (fun _ _ _ h => by cases h.1)
  obtain ⟨hv9, hu9, hg9⟩ := h9
  replace hu9 := hu9.symm
  replace hg9 := hg9.symm
  subst hu9
  subst hg9
  cases hv9
  refine v_putf hE dX8_takeQuality_25 fX8_224 (by repeat (first | assumption | exact va_up_self _ _ _ | refine (va_up_ne _ _ (by omega)).trans ?_)) (by exact Nat.le_of_ble_eq_true rfl) (by rfl) (by rfl) (by rfl) ?_
  refine v_hp (show _ = enS f x (wQu w (qQuaR u v)) from enS_ext (by repeat (first | assumption | exact va_up_self _ _ _ | refine (va_up_ne _ _ (by omega)).trans ?_)) (by repeat (first | assumption | exact va_up_self _ _ _ | refine (va_up_ne _ _ (by omega)).trans ?_)) (by repeat (first | assumption | exact va_up_self _ _ _ | refine (va_up_ne _ _ (by omega)).trans ?_)) (by repeat (first | assumption | exact va_up_self _ _ _ | refine (va_up_ne _ _ (by omega)).trans ?_)) (by repeat (first | assumption | exact va_up_self _ _ _ | refine (va_up_ne _ _ (by omega)).trans ?_)) (by repeat (first | assumption | exact va_up_self _ _ _ | refine (va_up_ne _ _ (by omega)).trans ?_)) (by repeat (first | assumption | exact va_up_self _ _ _ | refine (va_up_ne _ _ (by omega)).trans ?_)) (fun b hb => by simp only [va_up]; (repeat rw [if_neg (by omega)]))) ?_
  obtain ⟨h2, h3⟩ := sr_enS (w := (wQu w (qQuaR u v))) h da
  have hu2 := oP_enS (w := (wQu w (qQuaR u v))) hu dt
  obtain ⟨x0, x1, x2, x3, x4, x5, x6⟩ := enP_S f x ((wQu w (qQuaR u v)))
  refine v_aload_n dX8_takeQuality_28 rfl (by rfl) ?_
  refine v_getf hE dX8_takeQuality_29 fX8_224 (by repeat (first | assumption | exact va_up_self _ _ _ | refine (va_up_ne _ _ (by omega)).trans ?_)) (by rfl) ?_
  refine v_iconst (v := (-1)) dX8_takeQuality_32 (by decide) ?_
  refine v_icmp_ne (tgt := 46) dX8_takeQuality_33 (by decide) (fun c33 => ?_) (fun c33 => ?_)
  · refine v_iconst (v := nI 1) dX8_takeQuality_46 (by decide) ?_
    refine v_goto (tgt := 51) dX8_takeQuality_47 (by decide) ?_
    refine v_iret dX8_takeQuality_51 rfl (by first | rfl | exact nar_bI) ?_
    refine ⟨congrArg (fun x => (Sum.inl (some (Value.int x)) : aO)) ?_, rfl, rfl⟩
    first
      | (show nI 1 = bI (decide (¬ qQuaR u v = -1) || qCol u v 5 tx7); rw [decide_eq_true (show ¬ qQuaR u v = -1 from c33)]; rfl)
      | (show nI 1 = bI (decide (¬ qQuaR u v = -1) || qCol u v 5 tx7); rw [c43, Bool.or_true]; rfl)
      | (show nI 0 = bI (decide (¬ qQuaR u v = -1) || qCol u v 5 tx7); rw [c43, decide_eq_false (show ¬ ¬ qQuaR u v = -1 from fun q => q c33)]; rfl)
  · refine v_aload_n dX8_takeQuality_36 rfl (by rfl) ?_
    refine v_iconst (v := nI 5) dX8_takeQuality_37 (by decide) ?_
    refine v_ldcS hS (r := (RX8, 167, ".", tx7)) dX8_takeQuality_38 (by unfold strTab; repeat (first | exact List.Mem.head _ | apply List.Mem.tail)) rfl rfl (fun q38 hq38 => ?_)
    refine w_callV hE dX8_takeQuality_40 kX8_112 (by repeat (first | assumption | exact va_up_self _ _ _ | refine (va_up_ne _ _ (by omega)).trans ?_)) (by rfl) (by rfl) (sX8_columnIs hE ⟨h2, h3⟩ hu2 hS hq38 (by decide) (by decide) (by omega) g5 g5b) rfl (by decide) (by decide) (by exact Nat.le_of_ble_eq_true rfl) (by omega) (by omega) (fun v9 g9 u9 h9 => ?_) (fun _ _ _ h => by cases h.1)
    obtain ⟨hv9, hu9, hg9⟩ := h9
    replace hu9 := hu9.symm
    replace hg9 := hg9.symm
    subst hu9
    subst hg9
    cases hv9
    refine v_if_eqB (tgt := 50) dX8_takeQuality_43 (by decide) (fun c43 => ?_) (fun c43 => ?_)
    · refine v_iconst (v := nI 0) dX8_takeQuality_50 (by decide) ?_
      refine v_iret dX8_takeQuality_51 rfl (by first | rfl | exact nar_bI) ?_
      refine ⟨congrArg (fun x => (Sum.inl (some (Value.int x)) : aO)) ?_, rfl, rfl⟩
      first
        | (show nI 1 = bI (decide (¬ qQuaR u v = -1) || qCol u v 5 tx7); rw [decide_eq_true (show ¬ qQuaR u v = -1 from c33)]; rfl)
        | (show nI 1 = bI (decide (¬ qQuaR u v = -1) || qCol u v 5 tx7); rw [c43, Bool.or_true]; rfl)
        | (show nI 0 = bI (decide (¬ qQuaR u v = -1) || qCol u v 5 tx7); rw [c43, decide_eq_false (show ¬ ¬ qQuaR u v = -1 from fun q => q c33)]; rfl)
    · refine v_iconst (v := nI 1) dX8_takeQuality_46 (by decide) ?_
      refine v_goto (tgt := 51) dX8_takeQuality_47 (by decide) ?_
      refine v_iret dX8_takeQuality_51 rfl (by first | rfl | exact nar_bI) ?_
      refine ⟨congrArg (fun x => (Sum.inl (some (Value.int x)) : aO)) ?_, rfl, rfl⟩
      first
        | (show nI 1 = bI (decide (¬ qQuaR u v = -1) || qCol u v 5 tx7); rw [decide_eq_true (show ¬ qQuaR u v = -1 from c33)]; rfl)
        | (show nI 1 = bI (decide (¬ qQuaR u v = -1) || qCol u v 5 tx7); rw [c43, Bool.or_true]; rfl)
        | (show nI 0 = bI (decide (¬ qQuaR u v = -1) || qCol u v 5 tx7); rw [c43, decide_eq_false (show ¬ ¬ qQuaR u v = -1 from fun q => q c33)]; rfl)

set_option maxRecDepth 100000 in
set_option maxHeartbeats 4000000 in
/-- SheetReader.takePassed -/
theorem sX8_takePassed {E : eN} (hE : eOk E) {f : aH} {t : Nat} {a tp c s x : Nat} {v : qV} {u : tS} {w : eV} (h : srP tp c s f a v) (hu : oP f tp u) (hw : enP f x w) (hwo : enOk w) (da : x + 6 < a ∨ a + 1 < x) (dt : tp + 1 < x ∨ x + 6 < tp) (hC : qC v) (hm : 8 ≤ qCm v) (hS : eSt E) : mT E mX8_takePassed 0 0 [.ref a, .ref x] f t (fun o f' t' => o = .inl (some (.int (bI (qPas u v w).1))) ∧ t' = t ∧ f' = enS f x (qPas u v w).2) := by
  refine mT_of (n := 0) (lo := [some (.ref a), some (.ref x)]) (by decide) (by exact Nat.le_of_ble_eq_true rfl) rfl rfl ?_
  obtain ⟨h0, h1⟩ := id h
  obtain ⟨⟨u0, u1⟩, u2⟩ := id hu
  obtain ⟨x0, x1, x2, x3, x4, x5, x6⟩ := id hw
  have g6 : qSt v 6 < qSt v 7 := (hC.2 6 (by omega) (by omega)).2
  have g6b := hC.1 7
  refine v_aload_n dX8_takePassed_0 rfl (by rfl) ?_
  refine v_aload_n dX8_takePassed_1 rfl (by rfl) ?_
  refine v_bipush (v := nI 6) dX8_takePassed_2 (by decide) ?_
  refine v_ldcS hS (r := (RX8, 227, "PASS", tx8)) dX8_takePassed_4 (by unfold strTab; repeat (first | exact List.Mem.head _ | apply List.Mem.tail)) rfl rfl (fun q4 hq4 => ?_)
  refine w_callV hE dX8_takePassed_6 kX8_112 (by repeat (first | assumption | exact va_up_self _ _ _ | refine (va_up_ne _ _ (by omega)).trans ?_)) (by rfl) (by rfl) (sX8_columnIs hE h hu hS hq4 (by decide) (by decide) (by omega) g6 g6b) rfl (by decide) (by decide) (by exact Nat.le_of_ble_eq_true rfl) (by omega) (by omega) (fun v9 g9 u9 h9 => ?_) (fun _ _ _ h => by cases h.1)
  obtain ⟨hv9, hu9, hg9⟩ := h9
  replace hu9 := hu9.symm
  replace hg9 := hg9.symm
  subst hu9
  subst hg9
  cases hv9
  refine v_putf hE dX8_takePassed_9 fX8_229 (by repeat (first | assumption | exact va_up_self _ _ _ | refine (va_up_ne _ _ (by omega)).trans ?_)) (by exact Nat.le_of_ble_eq_true rfl) (by rfl) nar_bI fit_bI ?_
  refine v_hp (show _ = enS f x (wPa w (qCol u v 6 tx8)) from enS_ext (by repeat (first | assumption | exact va_up_self _ _ _ | refine (va_up_ne _ _ (by omega)).trans ?_)) (by repeat (first | assumption | exact va_up_self _ _ _ | refine (va_up_ne _ _ (by omega)).trans ?_)) (by repeat (first | assumption | exact va_up_self _ _ _ | refine (va_up_ne _ _ (by omega)).trans ?_)) (by repeat (first | assumption | exact va_up_self _ _ _ | refine (va_up_ne _ _ (by omega)).trans ?_)) (by repeat (first | assumption | exact va_up_self _ _ _ | refine (va_up_ne _ _ (by omega)).trans ?_)) (by repeat (first | assumption | exact va_up_self _ _ _ | refine (va_up_ne _ _ (by omega)).trans ?_)) (by repeat (first | assumption | exact va_up_self _ _ _ | refine (va_up_ne _ _ (by omega)).trans ?_)) (fun b hb => by simp only [va_up]; (repeat rw [if_neg (by omega)]))) ?_
  obtain ⟨h2, h3⟩ := sr_enS (w := (wPa w (qCol u v 6 tx8))) h da
  have hu2 := oP_enS (w := (wPa w (qCol u v 6 tx8))) hu dt
  obtain ⟨x0, x1, x2, x3, x4, x5, x6⟩ := enP_S f x ((wPa w (qCol u v 6 tx8)))
  refine v_aload_n dX8_takePassed_12 rfl (by rfl) ?_
  refine v_getf hE dX8_takePassed_13 fX8_229 (by repeat (first | assumption | exact va_up_self _ _ _ | refine (va_up_ne _ _ (by omega)).trans ?_)) (by rfl) ?_
  refine v_if_neB (tgt := 30) dX8_takePassed_16 (by decide) (fun c16 => ?_) (fun c16 => ?_)
  · refine v_iconst (v := nI 1) dX8_takePassed_30 (by decide) ?_
    refine v_goto (tgt := 35) dX8_takePassed_31 (by decide) ?_
    refine v_iret dX8_takePassed_35 rfl (by first | rfl | exact nar_bI) ?_
    refine ⟨congrArg (fun x => (Sum.inl (some (Value.int x)) : aO)) ?_, rfl, rfl⟩
    first
      | (show nI 1 = bI (qCol u v 6 tx8 || qCol u v 6 tx7); rw [show qCol u v 6 tx8 = true from c16]; rfl)
      | (show nI 1 = bI (qCol u v 6 tx8 || qCol u v 6 tx7); rw [c27, Bool.or_true]; rfl)
      | (show nI 0 = bI (qCol u v 6 tx8 || qCol u v 6 tx7); rw [c27, show qCol u v 6 tx8 = false from c16]; rfl)
  · refine v_aload_n dX8_takePassed_19 rfl (by rfl) ?_
    refine v_bipush (v := nI 6) dX8_takePassed_20 (by decide) ?_
    refine v_ldcS hS (r := (RX8, 167, ".", tx7)) dX8_takePassed_22 (by unfold strTab; repeat (first | exact List.Mem.head _ | apply List.Mem.tail)) rfl rfl (fun q22 hq22 => ?_)
    refine w_callV hE dX8_takePassed_24 kX8_112 (by repeat (first | assumption | exact va_up_self _ _ _ | refine (va_up_ne _ _ (by omega)).trans ?_)) (by rfl) (by rfl) (sX8_columnIs hE ⟨h2, h3⟩ hu2 hS hq22 (by decide) (by decide) (by omega) g6 g6b) rfl (by decide) (by decide) (by exact Nat.le_of_ble_eq_true rfl) (by omega) (by omega) (fun v9 g9 u9 h9 => ?_) (fun _ _ _ h => by cases h.1)
    obtain ⟨hv9, hu9, hg9⟩ := h9
    replace hu9 := hu9.symm
    replace hg9 := hg9.symm
    subst hu9
    subst hg9
    cases hv9
    refine v_if_eqB (tgt := 34) dX8_takePassed_27 (by decide) (fun c27 => ?_) (fun c27 => ?_)
    · refine v_iconst (v := nI 0) dX8_takePassed_34 (by decide) ?_
      refine v_iret dX8_takePassed_35 rfl (by first | rfl | exact nar_bI) ?_
      refine ⟨congrArg (fun x => (Sum.inl (some (Value.int x)) : aO)) ?_, rfl, rfl⟩
      first
        | (show nI 1 = bI (qCol u v 6 tx8 || qCol u v 6 tx7); rw [show qCol u v 6 tx8 = true from c16]; rfl)
        | (show nI 1 = bI (qCol u v 6 tx8 || qCol u v 6 tx7); rw [c27, Bool.or_true]; rfl)
        | (show nI 0 = bI (qCol u v 6 tx8 || qCol u v 6 tx7); rw [c27, show qCol u v 6 tx8 = false from c16]; rfl)
    · refine v_iconst (v := nI 1) dX8_takePassed_30 (by decide) ?_
      refine v_goto (tgt := 35) dX8_takePassed_31 (by decide) ?_
      refine v_iret dX8_takePassed_35 rfl (by first | rfl | exact nar_bI) ?_
      refine ⟨congrArg (fun x => (Sum.inl (some (Value.int x)) : aO)) ?_, rfl, rfl⟩
      first
        | (show nI 1 = bI (qCol u v 6 tx8 || qCol u v 6 tx7); rw [show qCol u v 6 tx8 = true from c16]; rfl)
        | (show nI 1 = bI (qCol u v 6 tx8 || qCol u v 6 tx7); rw [c27, Bool.or_true]; rfl)
        | (show nI 0 = bI (qCol u v 6 tx8 || qCol u v 6 tx7); rw [c27, show qCol u v 6 tx8 = false from c16]; rfl)
