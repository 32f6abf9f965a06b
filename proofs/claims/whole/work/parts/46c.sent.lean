set_option maxRecDepth 100000 in
set_option maxHeartbeats 4000000 in
/-- SheetReader.callAt -/
theorem sX8_callAt {E : eN} (hE : eOk E) {f : aH} {t : Nat} {a tp c s i j n : Nat} {v : qV} {u : tS} (h : srP tp c s f a v) (hu : oP f tp u) (hS : eSt E) (hij : i ≤ j) (hj : j < 2 ^ 28) (hn : 1 ≤ n) (hn2 : n ≤ 4) : mT E mX8_callAt 0 0 [.ref a, .int (nI i), .int (nI j), .int (nI n)] f t (fun o f' t' => o = .inl (some (.int (qCaA u i j n))) ∧ t' = t ∧ f' = f) := by
  refine mT_of (n := 1) (lo := [some (.ref a), some (.int (nI i)), some (.int (nI j)), some (.int (nI n)), none]) (by decide) (by exact Nat.le_of_ble_eq_true rfl) rfl rfl ?_
  obtain ⟨h0, h1⟩ := id h
  obtain ⟨⟨u0, u1⟩, u2⟩ := id hu
  refine v_aload_n dX8_callAt_0 rfl (by rfl) ?_
  refine v_getf hE dX8_callAt_1 fX8_9 (by repeat (first | assumption | exact va_up_self _ _ _ | refine (va_up_ne _ _ (by omega)).trans ?_)) (by rfl) ?_
  refine v_iload_n dX8_callAt_4 rfl (by rfl) ?_
  refine v_iload_n dX8_callAt_5 rfl (by rfl) ?_
  refine v_ldcS hS (r := (RX8, 167, ".", tx7)) dX8_callAt_6 (by unfold strTab; repeat (first | exact List.Mem.head _ | apply List.Mem.tail)) rfl rfl (fun q6 hq6 => ?_)
  refine w_callV hE dX8_callAt_8 kX8_91 (by repeat (first | assumption | exact va_up_self _ _ _ | refine (va_up_ne _ _ (by omega)).trans ?_)) (by rfl) (by rfl) (sX6_isText hE hu hS hq6 (by decide) (by decide) hij (by omega)) rfl (by decide) (by decide) (by exact Nat.le_of_ble_eq_true rfl) (by omega) (by omega) (fun v9 g9 u9 h9 => ?_) (fun _ _ _ h => by cases h.1)
  obtain ⟨hv9, hu9, hg9⟩ := h9
  replace hu9 := hu9.symm
  replace hg9 := hg9.symm
  subst hu9
  subst hg9
  cases hv9
  refine v_if_eqB (tgt := 16) dX8_callAt_11 (by decide) (fun c11 => ?_) (fun c11 => ?_)
  · refine v_aload_n dX8_callAt_16 rfl (by rfl) ?_
    refine v_getf hE dX8_callAt_17 fX8_9 (by repeat (first | assumption | exact va_up_self _ _ _ | refine (va_up_ne _ _ (by omega)).trans ?_)) (by rfl) ?_
    refine v_iload_n dX8_callAt_20 rfl (by rfl) ?_
    refine v_iload_n dX8_callAt_21 rfl (by rfl) ?_
    refine v_iload_n dX8_callAt_22 rfl (by rfl) ?_
    refine v_iconst (v := nI 1) dX8_callAt_23 (by decide) ?_
    refine v_isubN dX8_callAt_24 (by omega) ?_
    refine w_callV hE dX8_callAt_25 kX8_185 (by repeat (first | assumption | exact va_up_self _ _ _ | refine (va_up_ne _ _ (by omega)).trans ?_)) (by rfl) (by rfl) (sX6_numberAt hE hu (by omega) (by omega) (by omega)) rfl (by decide) (by decide) (by exact Nat.le_of_ble_eq_true rfl) (by omega) (by omega) (fun v9 g9 u9 h9 => ?_) (fun _ _ _ h => by cases h.1)
    obtain ⟨hv9, hu9, hg9⟩ := h9
    replace hu9 := hu9.symm
    replace hg9 := hg9.symm
    subst hu9
    subst hg9
    cases hv9
    refine v_istore dX8_callAt_28 (by decide) ?_
    refine v_iload dX8_callAt_30 (by rfl) ?_
    refine v_iconst (v := (-1)) dX8_callAt_32 (by decide) ?_
    refine v_icmp_ne (tgt := 41) dX8_callAt_33 (by decide) (fun c33 => ?_) (fun c33 => ?_)
    · refine v_iload dX8_callAt_41 (by rfl) ?_
      refine v_iret dX8_callAt_43 rfl (by first | rfl | exact nar_bI) ?_
      refine ⟨congrArg (fun x => (Sum.inl (some (Value.int x)) : aO)) ?_, rfl, rfl⟩
      unfold qCaA
      first | (rw [if_pos c11]; done) | (rw [if_neg (by rw [c11]; decide), if_pos c33]; done) | (rw [if_neg (by rw [c11]; decide), if_neg c33])
    · refine v_bipush (v := (-2)) dX8_callAt_36 (by decide) ?_
      refine v_goto (tgt := 43) dX8_callAt_38 (by decide) ?_
      refine v_iret dX8_callAt_43 rfl (by first | rfl | exact nar_bI) ?_
      refine ⟨congrArg (fun x => (Sum.inl (some (Value.int x)) : aO)) ?_, rfl, rfl⟩
      unfold qCaA
      first | (rw [if_pos c11]; done) | (rw [if_neg (by rw [c11]; decide), if_pos c33]; done) | (rw [if_neg (by rw [c11]; decide), if_neg c33])
  · refine v_iconst (v := (-1)) dX8_callAt_14 (by decide) ?_
    refine v_iret dX8_callAt_15 rfl (by first | rfl | exact nar_bI) ?_
    refine ⟨congrArg (fun x => (Sum.inl (some (Value.int x)) : aO)) ?_, rfl, rfl⟩
    unfold qCaA
    first | (rw [if_pos c11]; done) | (rw [if_neg (by rw [c11]; decide), if_pos c33]; done) | (rw [if_neg (by rw [c11]; decide), if_neg c33])

set_option maxRecDepth 100000 in
set_option maxHeartbeats 4000000 in
/-- SheetReader.takeCalls -/
theorem sX8_takeCalls {E : eN} (hE : eOk E) {f : aH} {t : Nat} {a tp c s x : Nat} {v : qV} {u : tS} {w : eV} {r i j : Nat} (h : srP tp c s f a v) (hu : oP f tp u) (hw : enP f x w) (hwo : enOk w) (da : x + 6 < a ∨ a + 1 < x) (dt : tp + 1 < x ∨ x + 6 < tp) (hS : eSt E) (hro : 1 ≤ eRo w) (hr : r < 3) (hi : 1 ≤ i) (hij : i ≤ j) (hj : j ≤ 8001) : mT E mX8_takeCalls 0 0 [.ref a, .ref x, .int (nI r), .int (nI i), .int (nI j)] f t (fun o f' t' => o = .inl (some (.int (bI (qCls u i j r w).1))) ∧ t' = t ∧ f' = enS f x (qCls u i j r w).2) := by
  refine mT_of (n := 4) (lo := [some (.ref a), some (.ref x), some (.int (nI r)), some (.int (nI i)), some (.int (nI j)), none, none, none, none]) (by decide) (by exact Nat.le_of_ble_eq_true rfl) rfl rfl ?_
  obtain ⟨h0, h1⟩ := id h
  obtain ⟨⟨u0, u1⟩, u2⟩ := id hu
  obtain ⟨x0, x1, x2, x3, x4, x5, x6⟩ := id hw
  have hro1 : 1 ≤ eRo w := hro
  have hro4 := hwo.1
  obtain ⟨hm1, hm2⟩ := qMid_le (u := u) hij
  have tl1 : (qMid u i j) < j → ∀ z6 z7 z8 : Option Value, V E mX8_takeCalls 0 0 (fun o f' t' => o = .inl (some (.int (bI (qCls u i j r w).1))) ∧ t' = t ∧ f' = enS f x (qCls u i j r w).2) 61 [some (.ref a), some (.ref x), some (.int (nI r)), some (.int (nI i)), some (.int (nI j)), some (.int (nI (qMid u i j))), z6, z7, z8] [] f t 0 0 := by
    intro c58 z6 z7 z8
    refine v_iconst (v := nI 1) dX8_takeCalls_61 (by decide) ?_
    refine v_goto (tgt := 66) dX8_takeCalls_62 (by decide) ?_
    refine v_istore dX8_takeCalls_66 (by decide) ?_
    refine v_aload_n dX8_takeCalls_68 rfl (by rfl) ?_
    refine v_iload_n dX8_takeCalls_69 rfl (by rfl) ?_
    refine v_iload dX8_takeCalls_70 (by rfl) ?_
    refine v_aload_n dX8_takeCalls_72 rfl (by rfl) ?_
    refine v_getf hE dX8_takeCalls_73 fX8_208 (by repeat (first | assumption | exact va_up_self _ _ _ | refine (va_up_ne _ _ (by omega)).trans ?_)) (by rfl) ?_
    refine w_callV hE dX8_takeCalls_76 kX8_236 (by repeat (first | assumption | exact va_up_self _ _ _ | refine (va_up_ne _ _ (by omega)).trans ?_)) (by rfl) (by rfl) (sX8_callAt hE h hu hS hm1 (by omega) hro1 hro4) rfl (by decide) (by decide) (by exact Nat.le_of_ble_eq_true rfl) (by omega) (by omega) (fun v9 g9 u9 h9 => ?_) (fun _ _ _ h => by cases h.1)
    obtain ⟨hv9, hu9, hg9⟩ := h9
    replace hu9 := hu9.symm
    replace hg9 := hg9.symm
    subst hu9
    subst hg9
    cases hv9
    refine v_istore dX8_takeCalls_79 (by decide) ?_
    refine v_iload dX8_takeCalls_81 (by rfl) ?_
    refine v_if_eqN (tgt := 103) dX8_takeCalls_83 (by decide) (by omega) (fun c83 => ?_) (fun c83 => ?_)
    · exact absurd c83 (by omega)
    · refine v_aload_n dX8_takeCalls_86 rfl (by rfl) ?_
      refine v_iload dX8_takeCalls_87 (by rfl) ?_
      refine v_iconst (v := nI 1) dX8_takeCalls_89 (by decide) ?_
      refine v_iaddN dX8_takeCalls_90 ?_
      refine v_iload dX8_takeCalls_91 (by rfl) ?_
      refine v_aload_n dX8_takeCalls_93 rfl (by rfl) ?_
      refine v_getf hE dX8_takeCalls_94 fX8_208 (by repeat (first | assumption | exact va_up_self _ _ _ | refine (va_up_ne _ _ (by omega)).trans ?_)) (by rfl) ?_
      refine w_callV hE dX8_takeCalls_97 kX8_236 (by repeat (first | assumption | exact va_up_self _ _ _ | refine (va_up_ne _ _ (by omega)).trans ?_)) (by rfl) (by rfl) (sX8_callAt hE h hu hS (by omega) (by omega) hro1 hro4) rfl (by decide) (by decide) (by exact Nat.le_of_ble_eq_true rfl) (by omega) (by omega) (fun v9 g9 u9 h9 => ?_) (fun _ _ _ h => by cases h.1)
      obtain ⟨hv9, hu9, hg9⟩ := h9
      replace hu9 := hu9.symm
      replace hg9 := hg9.symm
      subst hu9
      subst hg9
      cases hv9
      refine v_goto (tgt := 104) dX8_takeCalls_100 (by decide) ?_
      refine v_istore dX8_takeCalls_104 (by decide) ?_
      refine v_iload dX8_takeCalls_106 (by rfl) ?_
      refine v_bipush (v := (-2)) dX8_takeCalls_108 (by decide) ?_
      refine v_icmp_eq (tgt := 120) dX8_takeCalls_110 (by decide) (fun c110 => ?_) (fun c110 => ?_)
      · refine v_iconst (v := nI 0) dX8_takeCalls_120 (by decide) ?_
        refine v_iret dX8_takeCalls_121 rfl (by first | rfl | exact nar_bI) ?_
        unfold qCls
        rw [(show qCl2 u i j (eRo w) = (qCaA u ((qMid u i j) + 1) j (eRo w)) from if_pos c58)]
        first
          | (rw [if_pos (by first | exact Or.inl c110 | exact Or.inr c117)]; exact ⟨rfl, rfl, (enS_id hw).symm⟩)
          | (rw [if_neg (fun z => z.elim c110 c117), if_pos c58]
             refine ⟨rfl, rfl, ?_⟩
             first
               | (rw [decide_eq_true c58, decide_eq_true c175, (show nI 1 = bI true from rfl), upd_bI]; exact enS_ext (by repeat (first | assumption | exact va_up_self _ _ _ | refine (va_up_ne _ _ (by omega)).trans ?_)) (by repeat (first | assumption | exact va_up_self _ _ _ | refine (va_up_ne _ _ (by omega)).trans ?_)) (by repeat (first | assumption | exact va_up_self _ _ _ | refine (va_up_ne _ _ (by omega)).trans ?_)) (by repeat (first | assumption | exact va_up_self _ _ _ | refine (va_up_ne _ _ (by omega)).trans ?_)) (by repeat (first | assumption | exact va_up_self _ _ _ | refine (va_up_ne _ _ (by omega)).trans ?_)) (by repeat (first | assumption | exact va_up_self _ _ _ | refine (va_up_ne _ _ (by omega)).trans ?_)) (by repeat (first | assumption | exact va_up_self _ _ _ | refine (va_up_ne _ _ (by omega)).trans ?_)) (fun b hb => by simp only [va_up]; (repeat rw [if_neg (by omega)]); exact enS_ne hb))
               | (rw [decide_eq_true c58, decide_eq_false c175, (show nI 0 = bI false from rfl), upd_bI]; exact enS_ext (by repeat (first | assumption | exact va_up_self _ _ _ | refine (va_up_ne _ _ (by omega)).trans ?_)) (by repeat (first | assumption | exact va_up_self _ _ _ | refine (va_up_ne _ _ (by omega)).trans ?_)) (by repeat (first | assumption | exact va_up_self _ _ _ | refine (va_up_ne _ _ (by omega)).trans ?_)) (by repeat (first | assumption | exact va_up_self _ _ _ | refine (va_up_ne _ _ (by omega)).trans ?_)) (by repeat (first | assumption | exact va_up_self _ _ _ | refine (va_up_ne _ _ (by omega)).trans ?_)) (by repeat (first | assumption | exact va_up_self _ _ _ | refine (va_up_ne _ _ (by omega)).trans ?_)) (by repeat (first | assumption | exact va_up_self _ _ _ | refine (va_up_ne _ _ (by omega)).trans ?_)) (fun b hb => by simp only [va_up]; (repeat rw [if_neg (by omega)]); exact enS_ne hb))
               | (rw [decide_eq_false c58, (show nI 0 = bI false from rfl), upd_bI]; exact enS_ext (by repeat (first | assumption | exact va_up_self _ _ _ | refine (va_up_ne _ _ (by omega)).trans ?_)) (by repeat (first | assumption | exact va_up_self _ _ _ | refine (va_up_ne _ _ (by omega)).trans ?_)) (by repeat (first | assumption | exact va_up_self _ _ _ | refine (va_up_ne _ _ (by omega)).trans ?_)) (by repeat (first | assumption | exact va_up_self _ _ _ | refine (va_up_ne _ _ (by omega)).trans ?_)) (by repeat (first | assumption | exact va_up_self _ _ _ | refine (va_up_ne _ _ (by omega)).trans ?_)) (by repeat (first | assumption | exact va_up_self _ _ _ | refine (va_up_ne _ _ (by omega)).trans ?_)) (by repeat (first | assumption | exact va_up_self _ _ _ | refine (va_up_ne _ _ (by omega)).trans ?_)) (fun b hb => by simp only [va_up]; (repeat rw [if_neg (by omega)]); exact enS_ne hb)))
      · refine v_iload dX8_takeCalls_113 (by rfl) ?_
        refine v_bipush (v := (-2)) dX8_takeCalls_115 (by decide) ?_
        refine v_icmp_ne (tgt := 122) dX8_takeCalls_117 (by decide) (fun c117 => ?_) (fun c117 => ?_)
        · refine v_aload_n dX8_takeCalls_122 rfl (by rfl) ?_
          refine v_iload_n dX8_takeCalls_123 rfl (by rfl) ?_
          refine v_iconst (v := nI 0) dX8_takeCalls_124 (by decide) ?_
          refine v_iload dX8_takeCalls_125 (by rfl) ?_
          refine w_callV hE dX8_takeCalls_127 kX8_239 (by repeat (first | assumption | exact va_up_self _ _ _ | refine (va_up_ne _ _ (by omega)).trans ?_)) (by rfl) (by rfl) (sX0_setCall hE hw hwo hr (by omega)) rfl (by decide) (by decide) (by exact Nat.le_of_ble_eq_true rfl) (by omega) (by omega) (fun v9 g9 u9 h9 => ?_) (fun _ _ _ h => by cases h.1)
          obtain ⟨hv9, hu9, hg9⟩ := h9
          replace hu9 := hu9.symm
          replace hg9 := hg9.symm
          subst hu9
          subst hg9
          cases hv9
          have hw3 := enP_S f x (wCa w (upd (eCa w) (r * 2 + 0) (qCaA u i (qMid u i j) (eRo w))))
          refine v_aload_n dX8_takeCalls_130 rfl (by rfl) ?_
          refine v_iload_n dX8_takeCalls_131 rfl (by rfl) ?_
          refine v_iconst (v := nI 1) dX8_takeCalls_132 (by decide) ?_
          refine v_iload dX8_takeCalls_133 (by rfl) ?_
          refine w_callV hE dX8_takeCalls_135 kX8_239 (by repeat (first | assumption | exact va_up_self _ _ _ | refine (va_up_ne _ _ (by omega)).trans ?_)) (by rfl) (by rfl) (sX0_setCall hE hw3 hwo hr (by omega)) rfl (by decide) (by decide) (by exact Nat.le_of_ble_eq_true rfl) (by omega) (by omega) (fun v9 g9 u9 h9 => ?_) (fun _ _ _ h => by cases h.1)
          obtain ⟨hv9, hu9, hg9⟩ := h9
          replace hu9 := hu9.symm
          replace hg9 := hg9.symm
          subst hu9
          subst hg9
          cases hv9
          refine v_hp (show _ = enS f x (wCa w (upd (upd (eCa w) (r * 2 + 0) (qCaA u i (qMid u i j) (eRo w))) (r * 2 + 1) (qCaA u ((qMid u i j) + 1) j (eRo w)))) from enS_S) ?_
          obtain ⟨h2, h3⟩ := sr_enS (w := (wCa w (upd (upd (eCa w) (r * 2 + 0) (qCaA u i (qMid u i j) (eRo w))) (r * 2 + 1) (qCaA u ((qMid u i j) + 1) j (eRo w))))) h da
          have hu2 := oP_enS (w := (wCa w (upd (upd (eCa w) (r * 2 + 0) (qCaA u i (qMid u i j) (eRo w))) (r * 2 + 1) (qCaA u ((qMid u i j) + 1) j (eRo w))))) hu dt
          obtain ⟨x0, x1, x2, x3, x4, x5, x6⟩ := enP_S f x ((wCa w (upd (upd (eCa w) (r * 2 + 0) (qCaA u i (qMid u i j) (eRo w))) (r * 2 + 1) (qCaA u ((qMid u i j) + 1) j (eRo w)))))
          refine v_aload_n dX8_takeCalls_138 rfl (by rfl) ?_
          refine v_getf hE dX8_takeCalls_139 fX8_243 (by repeat (first | assumption | exact va_up_self _ _ _ | refine (va_up_ne _ _ (by omega)).trans ?_)) (by rfl) ?_
          refine v_iload_n dX8_takeCalls_142 rfl (by rfl) ?_
          refine v_iload dX8_takeCalls_143 (by rfl) ?_
          refine v_if_eqN (tgt := 152) dX8_takeCalls_145 (by decide) (by omega) (fun c145 => ?_) (fun c145 => ?_)
          · exact absurd c145 (by omega)
          · refine v_iconst (v := nI 2) dX8_takeCalls_148 (by decide) ?_
            refine v_goto (tgt := 153) dX8_takeCalls_149 (by decide) ?_
            refine v_iast hE dX8_takeCalls_153 (by repeat (first | assumption | exact va_up_self _ _ _ | refine (va_up_ne _ _ (by omega)).trans ?_)) (by omega) (by omega) ?_
            rw [upd_nI]
            refine v_hp (show _ = enS f x (wCn (wCa w (upd (upd (eCa w) (r * 2 + 0) (qCaA u i (qMid u i j) (eRo w))) (r * 2 + 1) (qCaA u ((qMid u i j) + 1) j (eRo w)))) (va_up (eCn w) r 2)) from enS_ext (by repeat (first | assumption | exact va_up_self _ _ _ | refine (va_up_ne _ _ (by omega)).trans ?_)) (by repeat (first | assumption | exact va_up_self _ _ _ | refine (va_up_ne _ _ (by omega)).trans ?_)) (by repeat (first | assumption | exact va_up_self _ _ _ | refine (va_up_ne _ _ (by omega)).trans ?_)) (by repeat (first | assumption | exact va_up_self _ _ _ | refine (va_up_ne _ _ (by omega)).trans ?_)) (by repeat (first | assumption | exact va_up_self _ _ _ | refine (va_up_ne _ _ (by omega)).trans ?_)) (by repeat (first | assumption | exact va_up_self _ _ _ | refine (va_up_ne _ _ (by omega)).trans ?_)) (by repeat (first | assumption | exact va_up_self _ _ _ | refine (va_up_ne _ _ (by omega)).trans ?_)) (fun b hb => by simp only [va_up]; (repeat rw [if_neg (by omega)]); exact enS_ne hb)) ?_
            obtain ⟨h2, h3⟩ := sr_enS (w := (wCn (wCa w (upd (upd (eCa w) (r * 2 + 0) (qCaA u i (qMid u i j) (eRo w))) (r * 2 + 1) (qCaA u ((qMid u i j) + 1) j (eRo w)))) (va_up (eCn w) r 2))) h da
            have hu2 := oP_enS (w := (wCn (wCa w (upd (upd (eCa w) (r * 2 + 0) (qCaA u i (qMid u i j) (eRo w))) (r * 2 + 1) (qCaA u ((qMid u i j) + 1) j (eRo w)))) (va_up (eCn w) r 2))) hu dt
            obtain ⟨x0, x1, x2, x3, x4, x5, x6⟩ := enP_S f x ((wCn (wCa w (upd (upd (eCa w) (r * 2 + 0) (qCaA u i (qMid u i j) (eRo w))) (r * 2 + 1) (qCaA u ((qMid u i j) + 1) j (eRo w)))) (va_up (eCn w) r 2)))
            refine v_aload_n dX8_takeCalls_154 rfl (by rfl) ?_
            refine v_getf hE dX8_takeCalls_155 fX8_246 (by repeat (first | assumption | exact va_up_self _ _ _ | refine (va_up_ne _ _ (by omega)).trans ?_)) (by rfl) ?_
            refine v_iload_n dX8_takeCalls_158 rfl (by rfl) ?_
            refine v_iload dX8_takeCalls_159 (by rfl) ?_
            refine v_if_eqN (tgt := 182) dX8_takeCalls_161 (by decide) (by omega) (fun c161 => ?_) (fun c161 => ?_)
            · exact absurd c161 (by omega)
            · refine v_aload_n dX8_takeCalls_164 rfl (by rfl) ?_
              refine v_getf hE dX8_takeCalls_165 fX8_9 (by repeat (first | assumption | exact va_up_self _ _ _ | refine (va_up_ne _ _ (by omega)).trans ?_)) (by rfl) ?_
              refine v_iload dX8_takeCalls_168 (by rfl) ?_
              refine w_callV hE dX8_takeCalls_170 kX8_104 (by repeat (first | assumption | exact va_up_self _ _ _ | refine (va_up_ne _ _ (by omega)).trans ?_)) (by rfl) (by rfl) (sX6_at hE (oP_enS (w := (wCn (wCa w (upd (upd (eCa w) (r * 2 + 0) (qCaA u i (qMid u i j) (eRo w))) (r * 2 + 1) (qCaA u ((qMid u i j) + 1) j (eRo w)))) (va_up (eCn w) r 2))) hu dt).1 u2) rfl (by decide) (by decide) (by exact Nat.le_of_ble_eq_true rfl) (by omega) (by omega) (fun v9 g9 u9 h9 => ?_) (fun _ _ _ h => by cases h.1)
              obtain ⟨hv9, hu9, hg9⟩ := h9
              replace hu9 := hu9.symm
              replace hg9 := hg9.symm
              subst hu9
              subst hg9
              cases hv9
              refine v_bipush (v := nI 124) dX8_takeCalls_173 (by decide) ?_
              refine v_icmp_ne (tgt := 182) dX8_takeCalls_175 (by decide) (fun c175 => ?_) (fun c175 => ?_)
              · refine v_iconst (v := nI 0) dX8_takeCalls_182 (by decide) ?_
                refine v_zast hE dX8_takeCalls_183 (by repeat (first | assumption | exact va_up_self _ _ _ | refine (va_up_ne _ _ (by omega)).trans ?_)) (by omega) (by omega) ?_
                refine v_iconst (v := nI 1) dX8_takeCalls_184 (by decide) ?_
                refine v_iret dX8_takeCalls_185 rfl (by first | rfl | exact nar_bI) ?_
                unfold qCls
                rw [(show qCl2 u i j (eRo w) = (qCaA u ((qMid u i j) + 1) j (eRo w)) from if_pos c58)]
                first
                  | (rw [if_pos (by first | exact Or.inl c110 | exact Or.inr c117)]; exact ⟨rfl, rfl, (enS_id hw).symm⟩)
                  | (rw [if_neg (fun z => z.elim c110 c117), if_pos c58]
                     refine ⟨rfl, rfl, ?_⟩
                     first
                       | (rw [decide_eq_true c58, decide_eq_true c175, (show nI 1 = bI true from rfl), upd_bI]; exact enS_ext (by repeat (first | assumption | exact va_up_self _ _ _ | refine (va_up_ne _ _ (by omega)).trans ?_)) (by repeat (first | assumption | exact va_up_self _ _ _ | refine (va_up_ne _ _ (by omega)).trans ?_)) (by repeat (first | assumption | exact va_up_self _ _ _ | refine (va_up_ne _ _ (by omega)).trans ?_)) (by repeat (first | assumption | exact va_up_self _ _ _ | refine (va_up_ne _ _ (by omega)).trans ?_)) (by repeat (first | assumption | exact va_up_self _ _ _ | refine (va_up_ne _ _ (by omega)).trans ?_)) (by repeat (first | assumption | exact va_up_self _ _ _ | refine (va_up_ne _ _ (by omega)).trans ?_)) (by repeat (first | assumption | exact va_up_self _ _ _ | refine (va_up_ne _ _ (by omega)).trans ?_)) (fun b hb => by simp only [va_up]; (repeat rw [if_neg (by omega)]); exact enS_ne hb))
                       | (rw [decide_eq_true c58, decide_eq_false c175, (show nI 0 = bI false from rfl), upd_bI]; exact enS_ext (by repeat (first | assumption | exact va_up_self _ _ _ | refine (va_up_ne _ _ (by omega)).trans ?_)) (by repeat (first | assumption | exact va_up_self _ _ _ | refine (va_up_ne _ _ (by omega)).trans ?_)) (by repeat (first | assumption | exact va_up_self _ _ _ | refine (va_up_ne _ _ (by omega)).trans ?_)) (by repeat (first | assumption | exact va_up_self _ _ _ | refine (va_up_ne _ _ (by omega)).trans ?_)) (by repeat (first | assumption | exact va_up_self _ _ _ | refine (va_up_ne _ _ (by omega)).trans ?_)) (by repeat (first | assumption | exact va_up_self _ _ _ | refine (va_up_ne _ _ (by omega)).trans ?_)) (by repeat (first | assumption | exact va_up_self _ _ _ | refine (va_up_ne _ _ (by omega)).trans ?_)) (fun b hb => by simp only [va_up]; (repeat rw [if_neg (by omega)]); exact enS_ne hb))
                       | (rw [decide_eq_false c58, (show nI 0 = bI false from rfl), upd_bI]; exact enS_ext (by repeat (first | assumption | exact va_up_self _ _ _ | refine (va_up_ne _ _ (by omega)).trans ?_)) (by repeat (first | assumption | exact va_up_self _ _ _ | refine (va_up_ne _ _ (by omega)).trans ?_)) (by repeat (first | assumption | exact va_up_self _ _ _ | refine (va_up_ne _ _ (by omega)).trans ?_)) (by repeat (first | assumption | exact va_up_self _ _ _ | refine (va_up_ne _ _ (by omega)).trans ?_)) (by repeat (first | assumption | exact va_up_self _ _ _ | refine (va_up_ne _ _ (by omega)).trans ?_)) (by repeat (first | assumption | exact va_up_self _ _ _ | refine (va_up_ne _ _ (by omega)).trans ?_)) (by repeat (first | assumption | exact va_up_self _ _ _ | refine (va_up_ne _ _ (by omega)).trans ?_)) (fun b hb => by simp only [va_up]; (repeat rw [if_neg (by omega)]); exact enS_ne hb)))
              · refine v_iconst (v := nI 1) dX8_takeCalls_178 (by decide) ?_
                refine v_goto (tgt := 183) dX8_takeCalls_179 (by decide) ?_
                refine v_zast hE dX8_takeCalls_183 (by repeat (first | assumption | exact va_up_self _ _ _ | refine (va_up_ne _ _ (by omega)).trans ?_)) (by omega) (by omega) ?_
                refine v_iconst (v := nI 1) dX8_takeCalls_184 (by decide) ?_
                refine v_iret dX8_takeCalls_185 rfl (by first | rfl | exact nar_bI) ?_
                unfold qCls
                rw [(show qCl2 u i j (eRo w) = (qCaA u ((qMid u i j) + 1) j (eRo w)) from if_pos c58)]
                first
                  | (rw [if_pos (by first | exact Or.inl c110 | exact Or.inr c117)]; exact ⟨rfl, rfl, (enS_id hw).symm⟩)
                  | (rw [if_neg (fun z => z.elim c110 c117), if_pos c58]
                     refine ⟨rfl, rfl, ?_⟩
                     first
                       | (rw [decide_eq_true c58, decide_eq_true c175, (show nI 1 = bI true from rfl), upd_bI]; exact enS_ext (by repeat (first | assumption | exact va_up_self _ _ _ | refine (va_up_ne _ _ (by omega)).trans ?_)) (by repeat (first | assumption | exact va_up_self _ _ _ | refine (va_up_ne _ _ (by omega)).trans ?_)) (by repeat (first | assumption | exact va_up_self _ _ _ | refine (va_up_ne _ _ (by omega)).trans ?_)) (by repeat (first | assumption | exact va_up_self _ _ _ | refine (va_up_ne _ _ (by omega)).trans ?_)) (by repeat (first | assumption | exact va_up_self _ _ _ | refine (va_up_ne _ _ (by omega)).trans ?_)) (by repeat (first | assumption | exact va_up_self _ _ _ | refine (va_up_ne _ _ (by omega)).trans ?_)) (by repeat (first | assumption | exact va_up_self _ _ _ | refine (va_up_ne _ _ (by omega)).trans ?_)) (fun b hb => by simp only [va_up]; (repeat rw [if_neg (by omega)]); exact enS_ne hb))
                       | (rw [decide_eq_true c58, decide_eq_false c175, (show nI 0 = bI false from rfl), upd_bI]; exact enS_ext (by repeat (first | assumption | exact va_up_self _ _ _ | refine (va_up_ne _ _ (by omega)).trans ?_)) (by repeat (first | assumption | exact va_up_self _ _ _ | refine (va_up_ne _ _ (by omega)).trans ?_)) (by repeat (first | assumption | exact va_up_self _ _ _ | refine (va_up_ne _ _ (by omega)).trans ?_)) (by repeat (first | assumption | exact va_up_self _ _ _ | refine (va_up_ne _ _ (by omega)).trans ?_)) (by repeat (first | assumption | exact va_up_self _ _ _ | refine (va_up_ne _ _ (by omega)).trans ?_)) (by repeat (first | assumption | exact va_up_self _ _ _ | refine (va_up_ne _ _ (by omega)).trans ?_)) (by repeat (first | assumption | exact va_up_self _ _ _ | refine (va_up_ne _ _ (by omega)).trans ?_)) (fun b hb => by simp only [va_up]; (repeat rw [if_neg (by omega)]); exact enS_ne hb))
                       | (rw [decide_eq_false c58, (show nI 0 = bI false from rfl), upd_bI]; exact enS_ext (by repeat (first | assumption | exact va_up_self _ _ _ | refine (va_up_ne _ _ (by omega)).trans ?_)) (by repeat (first | assumption | exact va_up_self _ _ _ | refine (va_up_ne _ _ (by omega)).trans ?_)) (by repeat (first | assumption | exact va_up_self _ _ _ | refine (va_up_ne _ _ (by omega)).trans ?_)) (by repeat (first | assumption | exact va_up_self _ _ _ | refine (va_up_ne _ _ (by omega)).trans ?_)) (by repeat (first | assumption | exact va_up_self _ _ _ | refine (va_up_ne _ _ (by omega)).trans ?_)) (by repeat (first | assumption | exact va_up_self _ _ _ | refine (va_up_ne _ _ (by omega)).trans ?_)) (by repeat (first | assumption | exact va_up_self _ _ _ | refine (va_up_ne _ _ (by omega)).trans ?_)) (fun b hb => by simp only [va_up]; (repeat rw [if_neg (by omega)]); exact enS_ne hb)))
        · refine v_iconst (v := nI 0) dX8_takeCalls_120 (by decide) ?_
          refine v_iret dX8_takeCalls_121 rfl (by first | rfl | exact nar_bI) ?_
          unfold qCls
          rw [(show qCl2 u i j (eRo w) = (qCaA u ((qMid u i j) + 1) j (eRo w)) from if_pos c58)]
          first
            | (rw [if_pos (by first | exact Or.inl c110 | exact Or.inr c117)]; exact ⟨rfl, rfl, (enS_id hw).symm⟩)
            | (rw [if_neg (fun z => z.elim c110 c117), if_pos c58]
               refine ⟨rfl, rfl, ?_⟩
               first
                 | (rw [decide_eq_true c58, decide_eq_true c175, (show nI 1 = bI true from rfl), upd_bI]; exact enS_ext (by repeat (first | assumption | exact va_up_self _ _ _ | refine (va_up_ne _ _ (by omega)).trans ?_)) (by repeat (first | assumption | exact va_up_self _ _ _ | refine (va_up_ne _ _ (by omega)).trans ?_)) (by repeat (first | assumption | exact va_up_self _ _ _ | refine (va_up_ne _ _ (by omega)).trans ?_)) (by repeat (first | assumption | exact va_up_self _ _ _ | refine (va_up_ne _ _ (by omega)).trans ?_)) (by repeat (first | assumption | exact va_up_self _ _ _ | refine (va_up_ne _ _ (by omega)).trans ?_)) (by repeat (first | assumption | exact va_up_self _ _ _ | refine (va_up_ne _ _ (by omega)).trans ?_)) (by repeat (first | assumption | exact va_up_self _ _ _ | refine (va_up_ne _ _ (by omega)).trans ?_)) (fun b hb => by simp only [va_up]; (repeat rw [if_neg (by omega)]); exact enS_ne hb))
                 | (rw [decide_eq_true c58, decide_eq_false c175, (show nI 0 = bI false from rfl), upd_bI]; exact enS_ext (by repeat (first | assumption | exact va_up_self _ _ _ | refine (va_up_ne _ _ (by omega)).trans ?_)) (by repeat (first | assumption | exact va_up_self _ _ _ | refine (va_up_ne _ _ (by omega)).trans ?_)) (by repeat (first | assumption | exact va_up_self _ _ _ | refine (va_up_ne _ _ (by omega)).trans ?_)) (by repeat (first | assumption | exact va_up_self _ _ _ | refine (va_up_ne _ _ (by omega)).trans ?_)) (by repeat (first | assumption | exact va_up_self _ _ _ | refine (va_up_ne _ _ (by omega)).trans ?_)) (by repeat (first | assumption | exact va_up_self _ _ _ | refine (va_up_ne _ _ (by omega)).trans ?_)) (by repeat (first | assumption | exact va_up_self _ _ _ | refine (va_up_ne _ _ (by omega)).trans ?_)) (fun b hb => by simp only [va_up]; (repeat rw [if_neg (by omega)]); exact enS_ne hb))
                 | (rw [decide_eq_false c58, (show nI 0 = bI false from rfl), upd_bI]; exact enS_ext (by repeat (first | assumption | exact va_up_self _ _ _ | refine (va_up_ne _ _ (by omega)).trans ?_)) (by repeat (first | assumption | exact va_up_self _ _ _ | refine (va_up_ne _ _ (by omega)).trans ?_)) (by repeat (first | assumption | exact va_up_self _ _ _ | refine (va_up_ne _ _ (by omega)).trans ?_)) (by repeat (first | assumption | exact va_up_self _ _ _ | refine (va_up_ne _ _ (by omega)).trans ?_)) (by repeat (first | assumption | exact va_up_self _ _ _ | refine (va_up_ne _ _ (by omega)).trans ?_)) (by repeat (first | assumption | exact va_up_self _ _ _ | refine (va_up_ne _ _ (by omega)).trans ?_)) (by repeat (first | assumption | exact va_up_self _ _ _ | refine (va_up_ne _ _ (by omega)).trans ?_)) (fun b hb => by simp only [va_up]; (repeat rw [if_neg (by omega)]); exact enS_ne hb)))
  have tl0 : ¬ (qMid u i j) < j → ∀ z6 z7 z8 : Option Value, V E mX8_takeCalls 0 0 (fun o f' t' => o = .inl (some (.int (bI (qCls u i j r w).1))) ∧ t' = t ∧ f' = enS f x (qCls u i j r w).2) 65 [some (.ref a), some (.ref x), some (.int (nI r)), some (.int (nI i)), some (.int (nI j)), some (.int (nI (qMid u i j))), z6, z7, z8] [] f t 0 0 := by
    intro c58 z6 z7 z8
    refine v_iconst (v := nI 0) dX8_takeCalls_65 (by decide) ?_
    refine v_istore dX8_takeCalls_66 (by decide) ?_
    refine v_aload_n dX8_takeCalls_68 rfl (by rfl) ?_
    refine v_iload_n dX8_takeCalls_69 rfl (by rfl) ?_
    refine v_iload dX8_takeCalls_70 (by rfl) ?_
    refine v_aload_n dX8_takeCalls_72 rfl (by rfl) ?_
    refine v_getf hE dX8_takeCalls_73 fX8_208 (by repeat (first | assumption | exact va_up_self _ _ _ | refine (va_up_ne _ _ (by omega)).trans ?_)) (by rfl) ?_
    refine w_callV hE dX8_takeCalls_76 kX8_236 (by repeat (first | assumption | exact va_up_self _ _ _ | refine (va_up_ne _ _ (by omega)).trans ?_)) (by rfl) (by rfl) (sX8_callAt hE h hu hS hm1 (by omega) hro1 hro4) rfl (by decide) (by decide) (by exact Nat.le_of_ble_eq_true rfl) (by omega) (by omega) (fun v9 g9 u9 h9 => ?_) (fun _ _ _ h => by cases h.1)
    obtain ⟨hv9, hu9, hg9⟩ := h9
    replace hu9 := hu9.symm
    replace hg9 := hg9.symm
    subst hu9
    subst hg9
    cases hv9
    refine v_istore dX8_takeCalls_79 (by decide) ?_
    refine v_iload dX8_takeCalls_81 (by rfl) ?_
    refine v_if_eqN (tgt := 103) dX8_takeCalls_83 (by decide) (by omega) (fun c83 => ?_) (fun c83 => ?_)
    · refine v_iconst (v := (-1)) dX8_takeCalls_103 (by decide) ?_
      refine v_istore dX8_takeCalls_104 (by decide) ?_
      refine v_iload dX8_takeCalls_106 (by rfl) ?_
      refine v_bipush (v := (-2)) dX8_takeCalls_108 (by decide) ?_
      refine v_icmp_eq (tgt := 120) dX8_takeCalls_110 (by decide) (fun c110 => ?_) (fun c110 => ?_)
      · refine v_iconst (v := nI 0) dX8_takeCalls_120 (by decide) ?_
        refine v_iret dX8_takeCalls_121 rfl (by first | rfl | exact nar_bI) ?_
        unfold qCls
        rw [(show qCl2 u i j (eRo w) = (-1) from if_neg c58)]
        first
          | (rw [if_pos (by first | exact Or.inl c110 | exact Or.inr c117)]; exact ⟨rfl, rfl, (enS_id hw).symm⟩)
          | (rw [if_neg (fun z => z.elim c110 c117), if_neg c58]
             refine ⟨rfl, rfl, ?_⟩
             first
               | (rw [decide_eq_true c58, decide_eq_true c175, (show nI 1 = bI true from rfl), upd_bI]; exact enS_ext (by repeat (first | assumption | exact va_up_self _ _ _ | refine (va_up_ne _ _ (by omega)).trans ?_)) (by repeat (first | assumption | exact va_up_self _ _ _ | refine (va_up_ne _ _ (by omega)).trans ?_)) (by repeat (first | assumption | exact va_up_self _ _ _ | refine (va_up_ne _ _ (by omega)).trans ?_)) (by repeat (first | assumption | exact va_up_self _ _ _ | refine (va_up_ne _ _ (by omega)).trans ?_)) (by repeat (first | assumption | exact va_up_self _ _ _ | refine (va_up_ne _ _ (by omega)).trans ?_)) (by repeat (first | assumption | exact va_up_self _ _ _ | refine (va_up_ne _ _ (by omega)).trans ?_)) (by repeat (first | assumption | exact va_up_self _ _ _ | refine (va_up_ne _ _ (by omega)).trans ?_)) (fun b hb => by simp only [va_up]; (repeat rw [if_neg (by omega)]); exact enS_ne hb))
               | (rw [decide_eq_true c58, decide_eq_false c175, (show nI 0 = bI false from rfl), upd_bI]; exact enS_ext (by repeat (first | assumption | exact va_up_self _ _ _ | refine (va_up_ne _ _ (by omega)).trans ?_)) (by repeat (first | assumption | exact va_up_self _ _ _ | refine (va_up_ne _ _ (by omega)).trans ?_)) (by repeat (first | assumption | exact va_up_self _ _ _ | refine (va_up_ne _ _ (by omega)).trans ?_)) (by repeat (first | assumption | exact va_up_self _ _ _ | refine (va_up_ne _ _ (by omega)).trans ?_)) (by repeat (first | assumption | exact va_up_self _ _ _ | refine (va_up_ne _ _ (by omega)).trans ?_)) (by repeat (first | assumption | exact va_up_self _ _ _ | refine (va_up_ne _ _ (by omega)).trans ?_)) (by repeat (first | assumption | exact va_up_self _ _ _ | refine (va_up_ne _ _ (by omega)).trans ?_)) (fun b hb => by simp only [va_up]; (repeat rw [if_neg (by omega)]); exact enS_ne hb))
               | (rw [decide_eq_false c58, (show nI 0 = bI false from rfl), upd_bI]; exact enS_ext (by repeat (first | assumption | exact va_up_self _ _ _ | refine (va_up_ne _ _ (by omega)).trans ?_)) (by repeat (first | assumption | exact va_up_self _ _ _ | refine (va_up_ne _ _ (by omega)).trans ?_)) (by repeat (first | assumption | exact va_up_self _ _ _ | refine (va_up_ne _ _ (by omega)).trans ?_)) (by repeat (first | assumption | exact va_up_self _ _ _ | refine (va_up_ne _ _ (by omega)).trans ?_)) (by repeat (first | assumption | exact va_up_self _ _ _ | refine (va_up_ne _ _ (by omega)).trans ?_)) (by repeat (first | assumption | exact va_up_self _ _ _ | refine (va_up_ne _ _ (by omega)).trans ?_)) (by repeat (first | assumption | exact va_up_self _ _ _ | refine (va_up_ne _ _ (by omega)).trans ?_)) (fun b hb => by simp only [va_up]; (repeat rw [if_neg (by omega)]); exact enS_ne hb)))
      · refine v_iload dX8_takeCalls_113 (by rfl) ?_
        refine v_bipush (v := (-2)) dX8_takeCalls_115 (by decide) ?_
        refine v_icmp_ne (tgt := 122) dX8_takeCalls_117 (by decide) (fun c117 => ?_) (fun c117 => ?_)
        · refine v_aload_n dX8_takeCalls_122 rfl (by rfl) ?_
          refine v_iload_n dX8_takeCalls_123 rfl (by rfl) ?_
          refine v_iconst (v := nI 0) dX8_takeCalls_124 (by decide) ?_
          refine v_iload dX8_takeCalls_125 (by rfl) ?_
          refine w_callV hE dX8_takeCalls_127 kX8_239 (by repeat (first | assumption | exact va_up_self _ _ _ | refine (va_up_ne _ _ (by omega)).trans ?_)) (by rfl) (by rfl) (sX0_setCall hE hw hwo hr (by omega)) rfl (by decide) (by decide) (by exact Nat.le_of_ble_eq_true rfl) (by omega) (by omega) (fun v9 g9 u9 h9 => ?_) (fun _ _ _ h => by cases h.1)
          obtain ⟨hv9, hu9, hg9⟩ := h9
          replace hu9 := hu9.symm
          replace hg9 := hg9.symm
          subst hu9
          subst hg9
          cases hv9
          have hw3 := enP_S f x (wCa w (upd (eCa w) (r * 2 + 0) (qCaA u i (qMid u i j) (eRo w))))
          refine v_aload_n dX8_takeCalls_130 rfl (by rfl) ?_
          refine v_iload_n dX8_takeCalls_131 rfl (by rfl) ?_
          refine v_iconst (v := nI 1) dX8_takeCalls_132 (by decide) ?_
          refine v_iload dX8_takeCalls_133 (by rfl) ?_
          refine w_callV hE dX8_takeCalls_135 kX8_239 (by repeat (first | assumption | exact va_up_self _ _ _ | refine (va_up_ne _ _ (by omega)).trans ?_)) (by rfl) (by rfl) (sX0_setCall hE hw3 hwo hr (by omega)) rfl (by decide) (by decide) (by exact Nat.le_of_ble_eq_true rfl) (by omega) (by omega) (fun v9 g9 u9 h9 => ?_) (fun _ _ _ h => by cases h.1)
          obtain ⟨hv9, hu9, hg9⟩ := h9
          replace hu9 := hu9.symm
          replace hg9 := hg9.symm
          subst hu9
          subst hg9
          cases hv9
          refine v_hp (show _ = enS f x (wCa w (upd (upd (eCa w) (r * 2 + 0) (qCaA u i (qMid u i j) (eRo w))) (r * 2 + 1) (-1))) from enS_S) ?_
          obtain ⟨h2, h3⟩ := sr_enS (w := (wCa w (upd (upd (eCa w) (r * 2 + 0) (qCaA u i (qMid u i j) (eRo w))) (r * 2 + 1) (-1)))) h da
          have hu2 := oP_enS (w := (wCa w (upd (upd (eCa w) (r * 2 + 0) (qCaA u i (qMid u i j) (eRo w))) (r * 2 + 1) (-1)))) hu dt
          obtain ⟨x0, x1, x2, x3, x4, x5, x6⟩ := enP_S f x ((wCa w (upd (upd (eCa w) (r * 2 + 0) (qCaA u i (qMid u i j) (eRo w))) (r * 2 + 1) (-1))))
          refine v_aload_n dX8_takeCalls_138 rfl (by rfl) ?_
          refine v_getf hE dX8_takeCalls_139 fX8_243 (by repeat (first | assumption | exact va_up_self _ _ _ | refine (va_up_ne _ _ (by omega)).trans ?_)) (by rfl) ?_
          refine v_iload_n dX8_takeCalls_142 rfl (by rfl) ?_
          refine v_iload dX8_takeCalls_143 (by rfl) ?_
          refine v_if_eqN (tgt := 152) dX8_takeCalls_145 (by decide) (by omega) (fun c145 => ?_) (fun c145 => ?_)
          · refine v_iconst (v := nI 1) dX8_takeCalls_152 (by decide) ?_
            refine v_iast hE dX8_takeCalls_153 (by repeat (first | assumption | exact va_up_self _ _ _ | refine (va_up_ne _ _ (by omega)).trans ?_)) (by omega) (by omega) ?_
            rw [upd_nI]
            refine v_hp (show _ = enS f x (wCn (wCa w (upd (upd (eCa w) (r * 2 + 0) (qCaA u i (qMid u i j) (eRo w))) (r * 2 + 1) (-1))) (va_up (eCn w) r 1)) from enS_ext (by repeat (first | assumption | exact va_up_self _ _ _ | refine (va_up_ne _ _ (by omega)).trans ?_)) (by repeat (first | assumption | exact va_up_self _ _ _ | refine (va_up_ne _ _ (by omega)).trans ?_)) (by repeat (first | assumption | exact va_up_self _ _ _ | refine (va_up_ne _ _ (by omega)).trans ?_)) (by repeat (first | assumption | exact va_up_self _ _ _ | refine (va_up_ne _ _ (by omega)).trans ?_)) (by repeat (first | assumption | exact va_up_self _ _ _ | refine (va_up_ne _ _ (by omega)).trans ?_)) (by repeat (first | assumption | exact va_up_self _ _ _ | refine (va_up_ne _ _ (by omega)).trans ?_)) (by repeat (first | assumption | exact va_up_self _ _ _ | refine (va_up_ne _ _ (by omega)).trans ?_)) (fun b hb => by simp only [va_up]; (repeat rw [if_neg (by omega)]); exact enS_ne hb)) ?_
            obtain ⟨h2, h3⟩ := sr_enS (w := (wCn (wCa w (upd (upd (eCa w) (r * 2 + 0) (qCaA u i (qMid u i j) (eRo w))) (r * 2 + 1) (-1))) (va_up (eCn w) r 1))) h da
            have hu2 := oP_enS (w := (wCn (wCa w (upd (upd (eCa w) (r * 2 + 0) (qCaA u i (qMid u i j) (eRo w))) (r * 2 + 1) (-1))) (va_up (eCn w) r 1))) hu dt
            obtain ⟨x0, x1, x2, x3, x4, x5, x6⟩ := enP_S f x ((wCn (wCa w (upd (upd (eCa w) (r * 2 + 0) (qCaA u i (qMid u i j) (eRo w))) (r * 2 + 1) (-1))) (va_up (eCn w) r 1)))
            refine v_aload_n dX8_takeCalls_154 rfl (by rfl) ?_
            refine v_getf hE dX8_takeCalls_155 fX8_246 (by repeat (first | assumption | exact va_up_self _ _ _ | refine (va_up_ne _ _ (by omega)).trans ?_)) (by rfl) ?_
            refine v_iload_n dX8_takeCalls_158 rfl (by rfl) ?_
            refine v_iload dX8_takeCalls_159 (by rfl) ?_
            refine v_if_eqN (tgt := 182) dX8_takeCalls_161 (by decide) (by omega) (fun c161 => ?_) (fun c161 => ?_)
            · refine v_iconst (v := nI 0) dX8_takeCalls_182 (by decide) ?_
              refine v_zast hE dX8_takeCalls_183 (by repeat (first | assumption | exact va_up_self _ _ _ | refine (va_up_ne _ _ (by omega)).trans ?_)) (by omega) (by omega) ?_
              refine v_iconst (v := nI 1) dX8_takeCalls_184 (by decide) ?_
              refine v_iret dX8_takeCalls_185 rfl (by first | rfl | exact nar_bI) ?_
              unfold qCls
              rw [(show qCl2 u i j (eRo w) = (-1) from if_neg c58)]
              first
                | (rw [if_pos (by first | exact Or.inl c110 | exact Or.inr c117)]; exact ⟨rfl, rfl, (enS_id hw).symm⟩)
                | (rw [if_neg (fun z => z.elim c110 c117), if_neg c58]
                   refine ⟨rfl, rfl, ?_⟩
                   first
                     | (rw [decide_eq_true c58, decide_eq_true c175, (show nI 1 = bI true from rfl), upd_bI]; exact enS_ext (by repeat (first | assumption | exact va_up_self _ _ _ | refine (va_up_ne _ _ (by omega)).trans ?_)) (by repeat (first | assumption | exact va_up_self _ _ _ | refine (va_up_ne _ _ (by omega)).trans ?_)) (by repeat (first | assumption | exact va_up_self _ _ _ | refine (va_up_ne _ _ (by omega)).trans ?_)) (by repeat (first | assumption | exact va_up_self _ _ _ | refine (va_up_ne _ _ (by omega)).trans ?_)) (by repeat (first | assumption | exact va_up_self _ _ _ | refine (va_up_ne _ _ (by omega)).trans ?_)) (by repeat (first | assumption | exact va_up_self _ _ _ | refine (va_up_ne _ _ (by omega)).trans ?_)) (by repeat (first | assumption | exact va_up_self _ _ _ | refine (va_up_ne _ _ (by omega)).trans ?_)) (fun b hb => by simp only [va_up]; (repeat rw [if_neg (by omega)]); exact enS_ne hb))
                     | (rw [decide_eq_true c58, decide_eq_false c175, (show nI 0 = bI false from rfl), upd_bI]; exact enS_ext (by repeat (first | assumption | exact va_up_self _ _ _ | refine (va_up_ne _ _ (by omega)).trans ?_)) (by repeat (first | assumption | exact va_up_self _ _ _ | refine (va_up_ne _ _ (by omega)).trans ?_)) (by repeat (first | assumption | exact va_up_self _ _ _ | refine (va_up_ne _ _ (by omega)).trans ?_)) (by repeat (first | assumption | exact va_up_self _ _ _ | refine (va_up_ne _ _ (by omega)).trans ?_)) (by repeat (first | assumption | exact va_up_self _ _ _ | refine (va_up_ne _ _ (by omega)).trans ?_)) (by repeat (first | assumption | exact va_up_self _ _ _ | refine (va_up_ne _ _ (by omega)).trans ?_)) (by repeat (first | assumption | exact va_up_self _ _ _ | refine (va_up_ne _ _ (by omega)).trans ?_)) (fun b hb => by simp only [va_up]; (repeat rw [if_neg (by omega)]); exact enS_ne hb))
                     | (rw [decide_eq_false c58, (show nI 0 = bI false from rfl), upd_bI]; exact enS_ext (by repeat (first | assumption | exact va_up_self _ _ _ | refine (va_up_ne _ _ (by omega)).trans ?_)) (by repeat (first | assumption | exact va_up_self _ _ _ | refine (va_up_ne _ _ (by omega)).trans ?_)) (by repeat (first | assumption | exact va_up_self _ _ _ | refine (va_up_ne _ _ (by omega)).trans ?_)) (by repeat (first | assumption | exact va_up_self _ _ _ | refine (va_up_ne _ _ (by omega)).trans ?_)) (by repeat (first | assumption | exact va_up_self _ _ _ | refine (va_up_ne _ _ (by omega)).trans ?_)) (by repeat (first | assumption | exact va_up_self _ _ _ | refine (va_up_ne _ _ (by omega)).trans ?_)) (by repeat (first | assumption | exact va_up_self _ _ _ | refine (va_up_ne _ _ (by omega)).trans ?_)) (fun b hb => by simp only [va_up]; (repeat rw [if_neg (by omega)]); exact enS_ne hb)))
            · exact absurd c161 (by omega)
          · exact absurd c145 (by omega)
        · refine v_iconst (v := nI 0) dX8_takeCalls_120 (by decide) ?_
          refine v_iret dX8_takeCalls_121 rfl (by first | rfl | exact nar_bI) ?_
          unfold qCls
          rw [(show qCl2 u i j (eRo w) = (-1) from if_neg c58)]
          first
            | (rw [if_pos (by first | exact Or.inl c110 | exact Or.inr c117)]; exact ⟨rfl, rfl, (enS_id hw).symm⟩)
            | (rw [if_neg (fun z => z.elim c110 c117), if_neg c58]
               refine ⟨rfl, rfl, ?_⟩
               first
                 | (rw [decide_eq_true c58, decide_eq_true c175, (show nI 1 = bI true from rfl), upd_bI]; exact enS_ext (by repeat (first | assumption | exact va_up_self _ _ _ | refine (va_up_ne _ _ (by omega)).trans ?_)) (by repeat (first | assumption | exact va_up_self _ _ _ | refine (va_up_ne _ _ (by omega)).trans ?_)) (by repeat (first | assumption | exact va_up_self _ _ _ | refine (va_up_ne _ _ (by omega)).trans ?_)) (by repeat (first | assumption | exact va_up_self _ _ _ | refine (va_up_ne _ _ (by omega)).trans ?_)) (by repeat (first | assumption | exact va_up_self _ _ _ | refine (va_up_ne _ _ (by omega)).trans ?_)) (by repeat (first | assumption | exact va_up_self _ _ _ | refine (va_up_ne _ _ (by omega)).trans ?_)) (by repeat (first | assumption | exact va_up_self _ _ _ | refine (va_up_ne _ _ (by omega)).trans ?_)) (fun b hb => by simp only [va_up]; (repeat rw [if_neg (by omega)]); exact enS_ne hb))
                 | (rw [decide_eq_true c58, decide_eq_false c175, (show nI 0 = bI false from rfl), upd_bI]; exact enS_ext (by repeat (first | assumption | exact va_up_self _ _ _ | refine (va_up_ne _ _ (by omega)).trans ?_)) (by repeat (first | assumption | exact va_up_self _ _ _ | refine (va_up_ne _ _ (by omega)).trans ?_)) (by repeat (first | assumption | exact va_up_self _ _ _ | refine (va_up_ne _ _ (by omega)).trans ?_)) (by repeat (first | assumption | exact va_up_self _ _ _ | refine (va_up_ne _ _ (by omega)).trans ?_)) (by repeat (first | assumption | exact va_up_self _ _ _ | refine (va_up_ne _ _ (by omega)).trans ?_)) (by repeat (first | assumption | exact va_up_self _ _ _ | refine (va_up_ne _ _ (by omega)).trans ?_)) (by repeat (first | assumption | exact va_up_self _ _ _ | refine (va_up_ne _ _ (by omega)).trans ?_)) (fun b hb => by simp only [va_up]; (repeat rw [if_neg (by omega)]); exact enS_ne hb))
                 | (rw [decide_eq_false c58, (show nI 0 = bI false from rfl), upd_bI]; exact enS_ext (by repeat (first | assumption | exact va_up_self _ _ _ | refine (va_up_ne _ _ (by omega)).trans ?_)) (by repeat (first | assumption | exact va_up_self _ _ _ | refine (va_up_ne _ _ (by omega)).trans ?_)) (by repeat (first | assumption | exact va_up_self _ _ _ | refine (va_up_ne _ _ (by omega)).trans ?_)) (by repeat (first | assumption | exact va_up_self _ _ _ | refine (va_up_ne _ _ (by omega)).trans ?_)) (by repeat (first | assumption | exact va_up_self _ _ _ | refine (va_up_ne _ _ (by omega)).trans ?_)) (by repeat (first | assumption | exact va_up_self _ _ _ | refine (va_up_ne _ _ (by omega)).trans ?_)) (by repeat (first | assumption | exact va_up_self _ _ _ | refine (va_up_ne _ _ (by omega)).trans ?_)) (fun b hb => by simp only [va_up]; (repeat rw [if_neg (by omega)]); exact enS_ne hb)))
    · exact absurd c83 (by omega)
  have lp : ∀ (d : Nat) (k m : Nat) (z7 z8 : Option Value), i + d = k → k ≤ j → m ≤ j → qMid u i j = qMdL u i (k - i) m → V E mX8_takeCalls 0 0 (fun o f' t' => o = .inl (some (.int (bI (qCls u i j r w).1))) ∧ t' = t ∧ f' = enS f x (qCls u i j r w).2) 10 [some (.ref a), some (.ref x), some (.int (nI r)), some (.int (nI i)), some (.int (nI j)), some (.int (nI m)), some (.int (nI (k - 1))), z7, z8] [] f t 0 0 := by
    intro d
    induction d using Nat.strongRecOn with
    | _ d ih =>
    intro k m z7 z8 hk hkj hmj he
    refine v_iload dX8_takeCalls_10 (by rfl) ?_
    refine v_iload_n dX8_takeCalls_12 rfl (by rfl) ?_
    refine v_icmp_ltN (tgt := 54) dX8_takeCalls_13 (by decide) (by omega) (by omega) (fun c13 => ?_) (fun c13 => ?_)
    · refine v_iload dX8_takeCalls_54 (by rfl) ?_
      refine v_iload dX8_takeCalls_56 (by rfl) ?_
      refine v_icmp_geN (tgt := 65) dX8_takeCalls_58 (by decide) (by omega) (by omega) (fun c58 => ?_) (fun c58 => ?_)
      · have hm : m = qMid u i j := (he.trans (by rw [show k - i = 0 by omega]; rfl)).symm
        subst hm
        exact tl0 (by omega) _ _ _
      · have hm : m = qMid u i j := (he.trans (by rw [show k - i = 0 by omega]; rfl)).symm
        subst hm
        exact tl1 (by omega) _ _ _
    · refine v_aload_n dX8_takeCalls_16 rfl (by rfl) ?_
      refine v_getf hE dX8_takeCalls_17 fX8_9 (by repeat (first | assumption | exact va_up_self _ _ _ | refine (va_up_ne _ _ (by omega)).trans ?_)) (by rfl) ?_
      refine v_iload dX8_takeCalls_20 (by rfl) ?_
      refine w_callV hE dX8_takeCalls_22 kX8_104 (by repeat (first | assumption | exact va_up_self _ _ _ | refine (va_up_ne _ _ (by omega)).trans ?_)) (by rfl) (by rfl) (sX6_at hE hu.1 u2) rfl (by decide) (by decide) (by exact Nat.le_of_ble_eq_true rfl) (by omega) (by omega) (fun v9 g9 u9 h9 => ?_) (fun _ _ _ h => by cases h.1)
      obtain ⟨hv9, hu9, hg9⟩ := h9
      replace hu9 := hu9.symm
      replace hg9 := hg9.symm
      subst hu9
      subst hg9
      cases hv9
      refine v_bipush (v := nI 47) dX8_takeCalls_25 (by decide) ?_
      refine v_icmp_eq (tgt := 44) dX8_takeCalls_27 (by decide) (fun c27 => ?_) (fun c27 => ?_)
      · refine v_iload dX8_takeCalls_44 (by rfl) ?_
        refine v_istore dX8_takeCalls_46 (by decide) ?_
        refine v_iinc (v := nI (k - 2)) dX8_takeCalls_48 (by rfl) (by rw [show k - 1 = k - 2 + 1 by omega]; exact pk_m1 (k - 2)) (by decide) ?_
        refine v_goto (tgt := 10) dX8_takeCalls_51 (by decide) ?_
        have hd : k - i = (k - 1 - i) + 1 := by omega
        have hid : i + (k - 1 - i) = k - 1 := by omega
        rw [show k - 2 = (k - 1) - 1 by omega]
        first
          | exact ih (d - 1) (by omega) (k - 1) (k - 1) _ _ (by omega) (by omega) (by omega) (he.trans (by rw [hd, qMdL, hid, if_pos (by first | exact Or.inl c27 | exact Or.inr c41)]))
          | exact ih (d - 1) (by omega) (k - 1) m _ _ (by omega) (by omega) (by omega) (he.trans (by rw [hd, qMdL, hid, if_neg (fun z => z.elim c27 c41)]))
      · refine v_aload_n dX8_takeCalls_30 rfl (by rfl) ?_
        refine v_getf hE dX8_takeCalls_31 fX8_9 (by repeat (first | assumption | exact va_up_self _ _ _ | refine (va_up_ne _ _ (by omega)).trans ?_)) (by rfl) ?_
        refine v_iload dX8_takeCalls_34 (by rfl) ?_
        refine w_callV hE dX8_takeCalls_36 kX8_104 (by repeat (first | assumption | exact va_up_self _ _ _ | refine (va_up_ne _ _ (by omega)).trans ?_)) (by rfl) (by rfl) (sX6_at hE hu.1 u2) rfl (by decide) (by decide) (by exact Nat.le_of_ble_eq_true rfl) (by omega) (by omega) (fun v9 g9 u9 h9 => ?_) (fun _ _ _ h => by cases h.1)
        obtain ⟨hv9, hu9, hg9⟩ := h9
        replace hu9 := hu9.symm
        replace hg9 := hg9.symm
        subst hu9
        subst hg9
        cases hv9
        refine v_bipush (v := nI 124) dX8_takeCalls_39 (by decide) ?_
        refine v_icmp_ne (tgt := 48) dX8_takeCalls_41 (by decide) (fun c41 => ?_) (fun c41 => ?_)
        · refine v_iinc (v := nI (k - 2)) dX8_takeCalls_48 (by rfl) (by rw [show k - 1 = k - 2 + 1 by omega]; exact pk_m1 (k - 2)) (by decide) ?_
          refine v_goto (tgt := 10) dX8_takeCalls_51 (by decide) ?_
          have hd : k - i = (k - 1 - i) + 1 := by omega
          have hid : i + (k - 1 - i) = k - 1 := by omega
          rw [show k - 2 = (k - 1) - 1 by omega]
          first
            | exact ih (d - 1) (by omega) (k - 1) (k - 1) _ _ (by omega) (by omega) (by omega) (he.trans (by rw [hd, qMdL, hid, if_pos (by first | exact Or.inl c27 | exact Or.inr c41)]))
            | exact ih (d - 1) (by omega) (k - 1) m _ _ (by omega) (by omega) (by omega) (he.trans (by rw [hd, qMdL, hid, if_neg (fun z => z.elim c27 c41)]))
        · refine v_iload dX8_takeCalls_44 (by rfl) ?_
          refine v_istore dX8_takeCalls_46 (by decide) ?_
          refine v_iinc (v := nI (k - 2)) dX8_takeCalls_48 (by rfl) (by rw [show k - 1 = k - 2 + 1 by omega]; exact pk_m1 (k - 2)) (by decide) ?_
          refine v_goto (tgt := 10) dX8_takeCalls_51 (by decide) ?_
          have hd : k - i = (k - 1 - i) + 1 := by omega
          have hid : i + (k - 1 - i) = k - 1 := by omega
          rw [show k - 2 = (k - 1) - 1 by omega]
          first
            | exact ih (d - 1) (by omega) (k - 1) (k - 1) _ _ (by omega) (by omega) (by omega) (he.trans (by rw [hd, qMdL, hid, if_pos (by first | exact Or.inl c27 | exact Or.inr c41)]))
            | exact ih (d - 1) (by omega) (k - 1) m _ _ (by omega) (by omega) (by omega) (he.trans (by rw [hd, qMdL, hid, if_neg (fun z => z.elim c27 c41)]))
  refine v_iload dX8_takeCalls_0 (by rfl) ?_
  refine v_istore dX8_takeCalls_2 (by decide) ?_
  refine v_iload dX8_takeCalls_4 (by rfl) ?_
  refine v_iconst (v := nI 1) dX8_takeCalls_6 (by decide) ?_
  refine v_isubN dX8_takeCalls_7 (by omega) ?_
  refine v_istore dX8_takeCalls_8 (by decide) ?_
  exact lp (j - i) j j none none (by omega) (by omega) (by omega) rfl
