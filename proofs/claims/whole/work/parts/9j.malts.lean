/-! reading the other rows -/
theorem mSR_rw {v : mV} {r1 r2 o q n s : Nat} {l m : Nat → Int32} (h1 : rwA v r1 o n l) (h2 : rwA v r2 q s m) (hn : n ≤ 26) (hs : s ≤ 26) : mSR v (4 * r1 + o) (4 * r2 + q) n = true ↔ (n = s ∧ ∀ k, k < n → l k = m k) := by
  unfold mSR
  rw [Bool.and_eq_true, decide_eq_true_eq, allB_iff, h2.1]
  constructor
  · rintro ⟨a, b⟩
    have e : n = s := nI_inj a (by omega) (by omega)
    refine ⟨e, fun k hk => ?_⟩
    have := of_decide_eq_true (b k (by omega) (by omega))
    rw [h1.2 k hk, h2.2 k (by omega)] at this
    exact this
  · rintro ⟨a, b⟩
    refine ⟨by rw [a], fun k _ hk => decide_eq_true ?_⟩
    rw [h1.2 k (by omega), h2.2 k (by omega)]
    exact b k (by omega)
def qAltR (u : tS) (i j : Nat) (w : eV) : Bool × eV := if tIs u i j tx7 = true then (true, w) else qAltL u j (j + 1 - i) i i w
/-- only the number of rows and the rows of record r have changed -/
def rAl (r : Nat) (y z : mV) : Prop := (∀ k, k ≠ 24 → k ≠ 25 → k ≠ 26 → z.1 k = y.1 k) ∧ (∀ i, i ≠ r → z.1 24 i = y.1 24 i) ∧ (∀ i, i < 4 * r ∨ 4 * r + 4 ≤ i → z.1 26 i = y.1 26 i) ∧ (∀ i, i < 104 * r ∨ 104 * r + 104 ≤ i → z.1 25 i = y.1 25 i) ∧ aNw z.1
theorem rAl_w {r q : Nat} {y v z : mV} (h : rAl r y v) (h2 : rRw r q v z) (hq : q < 4) : rAl r y z := ⟨fun k a b c => (h2.2.1 k b c).trans (h.1 k a b c), fun i hi => (congrFun (h2.2.1 24 (by decide) (by decide)) i).trans (h.2.1 i hi), fun i hi => (h2.2.2.1 i (by omega)).trans (h.2.2.1 i hi), fun i hi => (h2.2.2.2.1 i (by omega)).trans (h.2.2.2.1 i hi), h2.2.2.2.2⟩
theorem rAl_4 {r : Nat} {y v : mV} {x : Int32} {s : Nat → Int32} (h : rAl r y v) : rAl r y (va_up v.1 24 (upd (v.1 24) r x), s) := ⟨fun k a b c => (va_up_ne _ _ a).trans (h.1 k a b c), fun i hi => by
  show upd (v.1 24) r x i = _
  rw [updN hi]
  exact h.2.1 i hi, h.2.2.1, h.2.2.2.1, aNw_i h.2.2.2.2 rfl⟩
/-- the rows of record r are those of w -/
def rwW (v : mV) (r : Nat) (w : eV) : Prop := v.1 24 r = nI (eRo w - 1) ∧ ∀ q, q < eRo w → rwA v r q (eRs w q) (fun k => eLe w (q * 24 + k))
theorem rRw_A {r q q' s : Nat} {v z : mV} {l : Nat → Int32} (h : rRw r q v z) (hw : rwA v r q' s l) (hne : q' ≠ q) (hs : s ≤ 26) : rwA z r q' s l := ⟨(h.2.2.1 _ (by omega)).trans hw.1, fun k hk => (h.2.2.2.1 _ (by omega)).trans (hw.2 k hk)⟩
set_option maxRecDepth 100000 in
set_option maxHeartbeats 1500000 in
/-- model: readAlts -/
theorem sX10_readAlts {E : eN} (hE : eOk E) {f : aH} {t : Nat} {M : Nat} {y : mV} {u : tS} {r i j : Nat} {w : eV} (hp : mTp y u) (hO : aNw y.1) (hF : y.2 43 = nI 0) (hr0 : r < 240) (hij : i ≤ j) (hj : j < 2 ^ 28) (hwo : enOk w) (hro1 : eRo w = 1) (hrow0 : rwA y r 0 (eRs w 0) (fun k => eLe w (0 * 24 + k))) : mT E mX10_readAlts 0 0 [.ref M, .int (nI r), .int (nI i), .int (nI j)] (mdS f M y) t (fun o f' t' => o = .inl none ∧ t' = t ∧ ∃ y', f' = mdS f M y' ∧ rAl r y y' ∧ fO y.2 y'.2 (if (qAltR u i j w).1 = true then 0 else 4) i ∧ ((qAltR u i j w).1 = true → enOk (qAltR u i j w).2 ∧ rwW y' r (qAltR u i j w).2)) := by
  refine mT_of (n := 5) (lo := [some (.ref M), some (.int (nI r)), some (.int (nI i)), some (.int (nI j)), none, none, none, none, none]) (by decide) (by exact Nat.le_of_ble_eq_true rfl) rfl rfl ?_
  have lp : ∀ (d e p : Nat) (w' : eV) (v : mV) (z6 z7 z8 : Option Value), e + d = j → p ≤ e → v.2 = y.2 → rAl r y v → enOk w' → 1 ≤ eRo w' → rwW v r w' → (qAltR u i j w) = qAltL u j (j + 1 - e) e p w' → V E mX10_readAlts 0 0 (fun o f' t' => o = .inl none ∧ t' = t ∧ ∃ y', f' = mdS f M y' ∧ rAl r y y' ∧ fO y.2 y'.2 (if (qAltR u i j w).1 = true then 0 else 4) i ∧ ((qAltR u i j w).1 = true → enOk (qAltR u i j w).2 ∧ rwW y' r (qAltR u i j w).2)) 38 [some (.ref M), some (.int (nI r)), some (.int (nI i)), some (.int (nI j)), some (.int (nI p)), some (.int (nI e)), z6, z7, z8] [] (mdS f M v) t 0 0 := by
    intro d
    induction d using Nat.strongRecOn with
    | _ d ih =>
    intro e p w' v z6 z7 z8 hd hpe hv2 hv hok hro hrw hr
    have hro4 := hok.1
    have hpv : mTp v u := ⟨by rw [hv2]; exact hp.1, hp.2.1, by rw [hv.1 1 (by decide) (by decide) (by decide)]; exact hp.2.2⟩
    have hFv : v.2 43 = nI 0 := by rw [hv2]; exact hF
    refine v_iload dX10_readAlts_38 (by rfl) ?_
    refine v_iload_n dX10_readAlts_40 rfl (by rfl) ?_
    refine v_icmp_geN (tgt := 61) dX10_readAlts_41 (by decide) (by omega) (by omega) (fun c41 => ?_) (fun c41 => ?_)
    · have hcom : e = j ∨ mOct u e = nI 44 := by
        first
          | exact Or.inr c52
          | exact Or.inl (by omega)
      have hstp : qAltL u j (j + 1 - e) e p w' = if (qAlt u p e w').1 = true then qAltL u j (j + 1 - (e + 1)) (e + 1) (e + 1) (qAlt u p e w').2 else (false, (qAlt u p e w').2) := by
        rw [show j + 1 - e = (j + 1 - (e + 1)) + 1 by omega]
        show (if e = j ∨ mOct u e = nI 44 then _ else _) = _
        rw [if_pos hcom]
      refine v_aload_n dX10_readAlts_61 rfl (by rfl) ?_
      refine v_getf hE dX10_readAlts_62 fX10_84 mdS_M (by rfl) ?_
      refine v_iload_n dX10_readAlts_65 rfl (by rfl) ?_
      refine m_iald hE (k := 24) dX10_readAlts_66 (by decide) (by decide) rfl (show _ < 240 by omega) (by omega) ?_
      refine v_eqi (y := nI (eRo w' - 1)) hrw.1 ?_
      refine v_iconst (v := nI 3) dX10_readAlts_67 (by decide) ?_
      refine v_icmp_neN (tgt := 78) dX10_readAlts_68 (by decide) (by omega) (by omega) (fun c68 => ?_) (fun c68 => ?_)
      · refine v_aload_n dX10_readAlts_78 rfl (by rfl) ?_
        refine v_getf hE dX10_readAlts_79 fX10_84 mdS_M (by rfl) ?_
        refine v_iload_n dX10_readAlts_82 rfl (by rfl) ?_
        refine m_iald hE (k := 24) dX10_readAlts_83 (by decide) (by decide) rfl (show _ < 240 by omega) (by omega) ?_
        refine v_eqi (y := nI (eRo w' - 1)) hrw.1 ?_
        refine v_iconst (v := nI 1) dX10_readAlts_84 (by decide) ?_
        refine v_iaddN dX10_readAlts_85 ?_
        refine v_eqi (y := nI (eRo w')) (congrArg nI (by omega)) ?_
        refine v_istore dX10_readAlts_86 (by decide) ?_
        refine v_aload_n dX10_readAlts_88 rfl (by rfl) ?_
        refine v_iload_n dX10_readAlts_89 rfl (by rfl) ?_
        refine v_iload dX10_readAlts_90 (by rfl) ?_
        refine v_iload dX10_readAlts_92 (by rfl) ?_
        refine v_iload dX10_readAlts_94 (by rfl) ?_
        refine w_callV hE dX10_readAlts_96 kX10_252 mdS_M (by rfl) (by rfl) (sX10_readRow hE (y := v) (u := u) (q := eRo w') hpv hv.2.2.2.2 hr0 (by omega) (by omega) (by omega)) rfl (by decide) (by decide) (by exact Nat.le_of_ble_eq_true rfl) (by omega) (by omega) (fun v9 g9 u9 h9 => ?_) (fun _ _ _ h => by cases h.1)
        obtain ⟨hv9, hu9, v1, hg9, hv1, hrow⟩ := h9
        replace hu9 := hu9.symm
        subst hu9
        subst hg9
        cases hv9
        refine v_istore dX10_readAlts_99 (by decide) ?_
        refine v_iconst (v := nI 0) dX10_readAlts_101 (by decide) ?_
        refine v_istore dX10_readAlts_102 (by decide) ?_
        have hF1 : v1.2 43 = nI 0 := by rw [hv1.1]; exact hFv
        have hv3 : v1.2 = y.2 := hv1.1.trans hv2
        obtain ⟨qf1, qf2⟩ := qRow_f (u := u) (r := eRo w') (i := p) (j := e) (w := w') (by omega) (by omega)
        cases hb : rwOk u p e with
        | false =>
          have hnm : bI false = nI 0 := rfl
          refine v_iload dX10_readAlts_104 (by rfl) ?_
          refine v_iload dX10_readAlts_106 (by rfl) ?_
          refine v_icmp_geN (tgt := 142) dX10_readAlts_108 (by decide) (by omega) (by omega) (fun c108 => ?_) (fun c108 => ?_)
          · refine v_iload dX10_readAlts_142 (by rfl) ?_
            refine v_if_neN (tgt := 154) dX10_readAlts_144 (by decide) (by omega) (fun c144 => ?_) (fun c144 => ?_)
            · exact absurd rfl c144
            · refine v_aload_n dX10_readAlts_147 rfl (by rfl) ?_
              refine v_iconst (v := nI 4) dX10_readAlts_148 (by decide) ?_
              refine v_iload_n dX10_readAlts_149 rfl (by rfl) ?_
              refine w_callV hE dX10_readAlts_150 kX10_160 mdS_M (by rfl) (by rfl) (sX10_bad hE) rfl (by decide) (by decide) (by exact Nat.le_of_ble_eq_true rfl) (by omega) (by omega) (fun v9 g9 u9 h9 => ?_) (fun _ _ _ h => by cases h.1)
              obtain ⟨hv9, hu9, hg9⟩ := h9
              replace hu9 := hu9.symm
              subst hu9
              subst hg9
              cases hv9
              rw [mBad_0 hF1]
              refine v_ret dX10_readAlts_153 rfl ?_
              have hF0 : (qAltR u i j w).1 = false := by
                rw [hr, hstp, if_neg]
                unfold qAlt
                rw [qf1, hb, if_neg (by decide)]
                exact fun z => Bool.noConfusion z
              refine ⟨rfl, rfl, _, rfl, (show rAl r y v1 from rAl_w hv hv1 (by omega)), ?_, fun z => ?_⟩
              · rw [hF0, if_neg (by decide), ← hv3]
                exact fO_b (by decide)
              · rw [hF0] at z
                exact Bool.noConfusion z
          · refine v_iload dX10_readAlts_111 (by rfl) ?_
            refine v_if_eqN (tgt := 142) dX10_readAlts_113 (by decide) (by omega) (fun c113 => ?_) (fun c113 => ?_)
            · refine v_iload dX10_readAlts_142 (by rfl) ?_
              refine v_if_neN (tgt := 154) dX10_readAlts_144 (by decide) (by omega) (fun c144 => ?_) (fun c144 => ?_)
              · exact absurd rfl c144
              · refine v_aload_n dX10_readAlts_147 rfl (by rfl) ?_
                refine v_iconst (v := nI 4) dX10_readAlts_148 (by decide) ?_
                refine v_iload_n dX10_readAlts_149 rfl (by rfl) ?_
                refine w_callV hE dX10_readAlts_150 kX10_160 mdS_M (by rfl) (by rfl) (sX10_bad hE) rfl (by decide) (by decide) (by exact Nat.le_of_ble_eq_true rfl) (by omega) (by omega) (fun v9 g9 u9 h9 => ?_) (fun _ _ _ h => by cases h.1)
                obtain ⟨hv9, hu9, hg9⟩ := h9
                replace hu9 := hu9.symm
                subst hu9
                subst hg9
                cases hv9
                rw [mBad_0 hF1]
                refine v_ret dX10_readAlts_153 rfl ?_
                have hF0 : (qAltR u i j w).1 = false := by
                  rw [hr, hstp, if_neg]
                  unfold qAlt
                  rw [qf1, hb, if_neg (by decide)]
                  exact fun z => Bool.noConfusion z
                refine ⟨rfl, rfl, _, rfl, (show rAl r y v1 from rAl_w hv hv1 (by omega)), ?_, fun z => ?_⟩
                · rw [hF0, if_neg (by decide), ← hv3]
                  exact fO_b (by decide)
                · rw [hF0] at z
                  exact Bool.noConfusion z
            · exact absurd rfl c113
        | true =>
          obtain ⟨L, ql1, ql2⟩ := qf2 hb
          replace hrow := hrow hb
          have hlen : p < e ∧ e - p ≤ 24 := (in24 (i := p) (j := e) (by omega)).mp (by have c9 := hb; unfold rwOk at c9; rw [Bool.and_eq_true] at c9; exact c9.1)
          have hold : ∀ q, q < eRo w' → rwA v1 r q (eRs w' q) (fun k => eLe w' (q * 24 + k)) := fun q hq9 => rRw_A hv1 (hrw.2 q hq9) (by omega) (by have := hok.2.1 q; omega)
          have hnew : ∀ q, q < eRo w' + 1 → rwA v1 r q (eRs (wRo (wRs (wLe w' L) (va_up (eRs w') (eRo w') (e - p))) (eRo w' + 1)) q) (fun k => eLe (wRo (wRs (wLe w' L) (va_up (eRs w') (eRo w') (e - p))) (eRo w' + 1)) (q * 24 + k)) := fun q hq9 => by
            by_cases c : q = eRo w'
            · subst c
              show rwA v1 r (eRo w') (va_up (eRs w') (eRo w') (e - p) (eRo w')) (fun k => L (eRo w' * 24 + k))
              rw [va_up_self]
              exact rwA_c hrow (fun k hk => by (try dsimp only); rw [ql2, if_pos (by omega), show eRo w' * 24 + k - eRo w' * 24 = k by omega])
            · show rwA v1 r q (va_up (eRs w') (eRo w') (e - p) q) (fun k => L (q * 24 + k))
              rw [va_up_ne _ _ c]
              have := hok.2.1 q
              exact rwA_c (hold q (by omega)) (fun k hk => by (try dsimp only); rw [ql2, if_neg (by omega)])
          have hsame : ∀ o, o < eRo w' → eRowIs (wRo (wRs (wLe w' L) (va_up (eRs w') (eRo w') (e - p))) (eRo w' + 1)) o (wRo (wRs (wLe w' L) (va_up (eRs w') (eRo w') (e - p))) (eRo w' + 1)) (eRo w') = (mSR v1 (4 * r + o) (4 * r + eRo w') (eRs w' o)) := fun o ho => bool_eq (by
            have h9 := hok.2.1 o
            have e1 : eRs (wRo (wRs (wLe w' L) (va_up (eRs w') (eRo w') (e - p))) (eRo w' + 1)) o = eRs w' o := va_up_ne _ _ (by omega)
            have e2 : eRs (wRo (wRs (wLe w' L) (va_up (eRs w') (eRo w') (e - p))) (eRo w' + 1)) (eRo w') = e - p := va_up_self _ _ _
            have q1 := hnew o (by omega)
            have q2 := hnew (eRo w') (by omega)
            rw [e1] at q1
            rw [e2] at q2
            rw [eRowIs_raw (by rw [e1]; exact h9) (by rw [e2]; omega), e1, e2, mSR_rw q1 q2 (by omega) (by omega)])
          have l3 : ∀ (d3 o : Nat), o + d3 = eRo w' → allB (fun b => ! eRowIs (wRo (wRs (wLe w' L) (va_up (eRs w') (eRo w') (e - p))) (eRo w' + 1)) b (wRo (wRs (wLe w' L) (va_up (eRs w') (eRo w') (e - p))) (eRo w' + 1)) (eRo w')) (eRo w' - 0) 0 = allB (fun b => ! eRowIs (wRo (wRs (wLe w' L) (va_up (eRs w') (eRo w') (e - p))) (eRo w' + 1)) b (wRo (wRs (wLe w' L) (va_up (eRs w') (eRo w') (e - p))) (eRo w' + 1)) (eRo w')) (eRo w' - o) o → V E mX10_readAlts 0 0 (fun o f' t' => o = .inl none ∧ t' = t ∧ ∃ y', f' = mdS f M y' ∧ rAl r y y' ∧ fO y.2 y'.2 (if (qAltR u i j w).1 = true then 0 else 4) i ∧ ((qAltR u i j w).1 = true → enOk (qAltR u i j w).2 ∧ rwW y' r (qAltR u i j w).2)) 104 [some (.ref M), some (.int (nI r)), some (.int (nI i)), some (.int (nI j)), some (.int (nI p)), some (.int (nI e)), some (.int (nI (eRo w'))), some (.int (nI 1)), some (.int (nI o))] [] (mdS f M v1) t 0 0 := by
            intro d3
            induction d3 using Nat.strongRecOn with
            | _ d3 ih3 =>
            intro o hd3 he3
            refine v_iload dX10_readAlts_104 (by rfl) ?_
            refine v_iload dX10_readAlts_106 (by rfl) ?_
            refine v_icmp_geN (tgt := 142) dX10_readAlts_108 (by decide) (by omega) (by omega) (fun c108 => ?_) (fun c108 => ?_)
            · refine v_iload dX10_readAlts_142 (by rfl) ?_
              refine v_if_neN (tgt := 154) dX10_readAlts_144 (by decide) (by omega) (fun c144 => ?_) (fun c144 => ?_)
              · refine v_aload_n dX10_readAlts_154 rfl (by rfl) ?_
                refine v_getf hE dX10_readAlts_155 fX10_84 mdS_M (by rfl) ?_
                refine v_iload_n dX10_readAlts_158 rfl (by rfl) ?_
                refine v_dup2 dX10_readAlts_159 rfl rfl ?_
                refine m_iald hE (k := 24) dX10_readAlts_160 (by decide) (by decide) rfl (show _ < 240 by omega) (by omega) ?_
                refine v_eqi (y := nI (eRo w' - 1)) (by rw [hv1.2.1 24 (by decide) (by decide)]; exact hrw.1) ?_
                refine v_iconst (v := nI 1) dX10_readAlts_161 (by decide) ?_
                refine v_iaddN dX10_readAlts_162 ?_
                refine m_iast hE (k := 24) dX10_readAlts_163 (by decide) (by decide) rfl (show _ < 240 by omega) (by omega) ?_
                refine v_iload dX10_readAlts_164 (by rfl) ?_
                refine v_iconst (v := nI 1) dX10_readAlts_166 (by decide) ?_
                refine v_iaddN dX10_readAlts_167 ?_
                refine v_istore dX10_readAlts_168 (by decide) ?_
                refine v_goto (tgt := 21) dX10_readAlts_170 (by decide) ?_
                have hq : (qAlt u p e w') = (true, (wRo (wRs (wLe w' L) (va_up (eRs w') (eRo w') (e - p))) (eRo w' + 1))) := by
                  unfold qAlt
                  rw [qf1, hb, if_pos rfl, ql1]
                  refine Prod.ext ?_ rfl
                  show allB (fun b => ! eRowIs (wRo (wRs (wLe w' L) (va_up (eRs w') (eRo w') (e - p))) (eRo w' + 1)) b (wRo (wRs (wLe w' L) (va_up (eRs w') (eRo w') (e - p))) (eRo w' + 1)) (eRo w')) (eRo w' - 0) 0 = true
                  rw [he3, allB_0 (by omega)]
                rw [hq, if_pos rfl] at hstp
                have hok2 : enOk (wRo (wRs (wLe w' L) (va_up (eRs w') (eRo w') (e - p))) (eRo w' + 1)) := ⟨by show eRo w' + 1 ≤ 4; omega, va_up_le hok.2.1 (by omega), hok.2.2.1, hok.2.2.2⟩
                have hrw2 : rwW (va_up v1.1 24 (upd (v1.1 24) r (nI (eRo w' - 1 + 1))), v1.2) r (wRo (wRs (wLe w' L) (va_up (eRs w') (eRo w') (e - p))) (eRo w' + 1)) := by
                  refine ⟨?_, fun q hq9 => ?_⟩
                  · show upd (v1.1 24) r (nI (eRo w' - 1 + 1)) r = nI (eRo w' + 1 - 1)
                    rw [updS]
                    exact congrArg nI (by omega)
                  · have hq9 : q < eRo w' + 1 := hq9
                    exact hnew q hq9
                refine v_iload dX10_readAlts_21 (by rfl) ?_
                refine v_iload_n dX10_readAlts_23 rfl (by rfl) ?_
                refine v_icmp_gtN (tgt := 173) dX10_readAlts_24 (by decide) (by omega) (by omega) (fun c24 => ?_) (fun c24 => ?_)
                · refine v_ret dX10_readAlts_173 rfl ?_
                  have he9 : j + 1 - (e + 1) = 0 := by omega
                  rw [he9] at hstp
                  have hR9 : (qAltR u i j w) = (true, (wRo (wRs (wLe w' L) (va_up (eRs w') (eRo w') (e - p))) (eRo w' + 1))) := hr.trans hstp
                  refine ⟨rfl, rfl, (va_up v1.1 24 (upd (v1.1 24) r (nI (eRo w' - 1 + 1))), v1.2), rfl, rAl_4 ((show rAl r y v1 from rAl_w hv hv1 (by omega))), ?_, fun _ => ?_⟩
                  · rw [hR9, if_pos rfl]
                    exact Or.inl ⟨rfl, hv3⟩
                  · rw [hR9]
                    exact ⟨hok2, hrw2⟩
                · refine v_aload_n dX10_readAlts_27 rfl (by rfl) ?_
                  refine v_getf hE dX10_readAlts_28 fX10_147 mdS_M (by rfl) ?_
                  refine v_eqi (y := nI 0) hF1 ?_
                  refine v_if_neN (tgt := 173) dX10_readAlts_31 (by decide) (by omega) (fun c31 => ?_) (fun c31 => ?_)
                  · exact absurd rfl c31
                  · refine v_iload dX10_readAlts_34 (by rfl) ?_
                    refine v_istore dX10_readAlts_36 (by decide) ?_
                    exact ih (d - 1) (by omega) (e + 1) (e + 1) (wRo (wRs (wLe w' L) (va_up (eRs w') (eRo w') (e - p))) (eRo w' + 1)) (va_up v1.1 24 (upd (v1.1 24) r (nI (eRo w' - 1 + 1))), v1.2) _ _ _ (by omega) (Nat.le_refl _) hv3 (rAl_4 ((show rAl r y v1 from rAl_w hv hv1 (by omega)))) hok2 (by show 1 ≤ eRo w' + 1; omega) hrw2 (hr.trans hstp)
              · exact absurd c144 (by decide)
            · refine v_iload dX10_readAlts_111 (by rfl) ?_
              refine v_if_eqN (tgt := 142) dX10_readAlts_113 (by decide) (by omega) (fun c113 => ?_) (fun c113 => ?_)
              · exact absurd c113 (by decide)
              · refine v_aload_n dX10_readAlts_116 rfl (by rfl) ?_
                refine v_iload_n dX10_readAlts_117 rfl (by rfl) ?_
                refine v_iload dX10_readAlts_118 (by rfl) ?_
                refine v_iload_n dX10_readAlts_120 rfl (by rfl) ?_
                refine v_iload dX10_readAlts_121 (by rfl) ?_
                refine w_callV hE dX10_readAlts_123 kX10_258 mdS_M (by rfl) (by rfl) (sX10_sameRow hE (y := v1) (a := r) (r := o) (b := r) (q := eRo w') (hold o (by omega)).1 (by have := hok.2.1 o; omega) (by omega) (by omega) (by omega) (by omega)) rfl (by decide) (by decide) (by exact Nat.le_of_ble_eq_true rfl) (by omega) (by omega) (fun v9 g9 u9 h9 => ?_) (fun _ _ _ h => by cases h.1)
                obtain ⟨hv9, hu9, hg9⟩ := h9
                replace hu9 := hu9.symm
                subst hu9
                subst hg9
                cases hv9
                refine v_if_neB (tgt := 133) dX10_readAlts_126 (by decide) (fun c126 => ?_) (fun c126 => ?_)
                · refine v_iconst (v := nI 0) dX10_readAlts_133 (by decide) ?_
                  refine v_istore dX10_readAlts_134 (by decide) ?_
                  refine v_iincN (y := 1) dX10_readAlts_136 (by rfl) (by decide) (by decide) ?_
                  refine v_goto (tgt := 104) dX10_readAlts_139 (by decide) ?_
                  refine v_iload dX10_readAlts_104 (by rfl) ?_
                  refine v_iload dX10_readAlts_106 (by rfl) ?_
                  refine v_icmp_geN (tgt := 142) dX10_readAlts_108 (by decide) (by omega) (by omega) (fun c108 => ?_) (fun c108 => ?_)
                  · refine v_iload dX10_readAlts_142 (by rfl) ?_
                    refine v_if_neN (tgt := 154) dX10_readAlts_144 (by decide) (by omega) (fun c144 => ?_) (fun c144 => ?_)
                    · exact absurd rfl c144
                    · refine v_aload_n dX10_readAlts_147 rfl (by rfl) ?_
                      refine v_iconst (v := nI 4) dX10_readAlts_148 (by decide) ?_
                      refine v_iload_n dX10_readAlts_149 rfl (by rfl) ?_
                      refine w_callV hE dX10_readAlts_150 kX10_160 mdS_M (by rfl) (by rfl) (sX10_bad hE) rfl (by decide) (by decide) (by exact Nat.le_of_ble_eq_true rfl) (by omega) (by omega) (fun v9 g9 u9 h9 => ?_) (fun _ _ _ h => by cases h.1)
                      obtain ⟨hv9, hu9, hg9⟩ := h9
                      replace hu9 := hu9.symm
                      subst hu9
                      subst hg9
                      cases hv9
                      rw [mBad_0 hF1]
                      refine v_ret dX10_readAlts_153 rfl ?_
                      have hF0 : (qAltR u i j w).1 = false := by
                        rw [hr, hstp, if_neg]
                        unfold qAlt
                        rw [qf1, hb, if_pos rfl, ql1]
                        show ¬ allB (fun b => ! eRowIs (wRo (wRs (wLe w' L) (va_up (eRs w') (eRo w') (e - p))) (eRo w' + 1)) b (wRo (wRs (wLe w' L) (va_up (eRs w') (eRo w') (e - p))) (eRo w' + 1)) (eRo w')) (eRo w' - 0) 0 = true
                        rw [he3, allB_f (p := (fun b => ! eRowIs (wRo (wRs (wLe w' L) (va_up (eRs w') (eRo w') (e - p))) (eRo w' + 1)) b (wRo (wRs (wLe w' L) (va_up (eRs w') (eRo w') (e - p))) (eRo w' + 1)) (eRo w'))) (j := eRo w') (by omega) (by show (! eRowIs (wRo (wRs (wLe w' L) (va_up (eRs w') (eRo w') (e - p))) (eRo w' + 1)) o (wRo (wRs (wLe w' L) (va_up (eRs w') (eRo w') (e - p))) (eRo w' + 1)) (eRo w')) = false; rw [hsame o (by omega), c126]; rfl)]
                        decide
                      refine ⟨rfl, rfl, _, rfl, (show rAl r y v1 from rAl_w hv hv1 (by omega)), ?_, fun z => ?_⟩
                      · rw [hF0, if_neg (by decide), ← hv3]
                        exact fO_b (by decide)
                      · rw [hF0] at z
                        exact Bool.noConfusion z
                  · refine v_iload dX10_readAlts_111 (by rfl) ?_
                    refine v_if_eqN (tgt := 142) dX10_readAlts_113 (by decide) (by omega) (fun c113 => ?_) (fun c113 => ?_)
                    · refine v_iload dX10_readAlts_142 (by rfl) ?_
                      refine v_if_neN (tgt := 154) dX10_readAlts_144 (by decide) (by omega) (fun c144 => ?_) (fun c144 => ?_)
                      · exact absurd rfl c144
                      · refine v_aload_n dX10_readAlts_147 rfl (by rfl) ?_
                        refine v_iconst (v := nI 4) dX10_readAlts_148 (by decide) ?_
                        refine v_iload_n dX10_readAlts_149 rfl (by rfl) ?_
                        refine w_callV hE dX10_readAlts_150 kX10_160 mdS_M (by rfl) (by rfl) (sX10_bad hE) rfl (by decide) (by decide) (by exact Nat.le_of_ble_eq_true rfl) (by omega) (by omega) (fun v9 g9 u9 h9 => ?_) (fun _ _ _ h => by cases h.1)
                        obtain ⟨hv9, hu9, hg9⟩ := h9
                        replace hu9 := hu9.symm
                        subst hu9
                        subst hg9
                        cases hv9
                        rw [mBad_0 hF1]
                        refine v_ret dX10_readAlts_153 rfl ?_
                        have hF0 : (qAltR u i j w).1 = false := by
                          rw [hr, hstp, if_neg]
                          unfold qAlt
                          rw [qf1, hb, if_pos rfl, ql1]
                          show ¬ allB (fun b => ! eRowIs (wRo (wRs (wLe w' L) (va_up (eRs w') (eRo w') (e - p))) (eRo w' + 1)) b (wRo (wRs (wLe w' L) (va_up (eRs w') (eRo w') (e - p))) (eRo w' + 1)) (eRo w')) (eRo w' - 0) 0 = true
                          rw [he3, allB_f (p := (fun b => ! eRowIs (wRo (wRs (wLe w' L) (va_up (eRs w') (eRo w') (e - p))) (eRo w' + 1)) b (wRo (wRs (wLe w' L) (va_up (eRs w') (eRo w') (e - p))) (eRo w' + 1)) (eRo w'))) (j := eRo w') (by omega) (by show (! eRowIs (wRo (wRs (wLe w' L) (va_up (eRs w') (eRo w') (e - p))) (eRo w' + 1)) o (wRo (wRs (wLe w' L) (va_up (eRs w') (eRo w') (e - p))) (eRo w' + 1)) (eRo w')) = false; rw [hsame o (by omega), c126]; rfl)]
                          decide
                        refine ⟨rfl, rfl, _, rfl, (show rAl r y v1 from rAl_w hv hv1 (by omega)), ?_, fun z => ?_⟩
                        · rw [hF0, if_neg (by decide), ← hv3]
                          exact fO_b (by decide)
                        · rw [hF0] at z
                          exact Bool.noConfusion z
                    · exact absurd rfl c113
                · refine v_iconst (v := nI 1) dX10_readAlts_129 (by decide) ?_
                  refine v_goto (tgt := 134) dX10_readAlts_130 (by decide) ?_
                  refine v_istore dX10_readAlts_134 (by decide) ?_
                  refine v_iincN (y := 1) dX10_readAlts_136 (by rfl) (by decide) (by decide) ?_
                  refine v_goto (tgt := 104) dX10_readAlts_139 (by decide) ?_
                  exact ih3 (d3 - 1) (by omega) (o + 1) (by omega) (he3.trans (allB_s (p := (fun b => ! eRowIs (wRo (wRs (wLe w' L) (va_up (eRs w') (eRo w') (e - p))) (eRo w' + 1)) b (wRo (wRs (wLe w' L) (va_up (eRs w') (eRo w') (e - p))) (eRo w' + 1)) (eRo w'))) (j := eRo w') (by omega) (by show (! eRowIs (wRo (wRs (wLe w' L) (va_up (eRs w') (eRo w') (e - p))) (eRo w' + 1)) o (wRo (wRs (wLe w' L) (va_up (eRs w') (eRo w') (e - p))) (eRo w' + 1)) (eRo w')) = true; rw [hsame o (by omega), c126]; rfl)))
          exact l3 (eRo w') 0 (by omega) rfl
      · refine v_aload_n dX10_readAlts_71 rfl (by rfl) ?_
        refine v_iconst (v := nI 4) dX10_readAlts_72 (by decide) ?_
        refine v_iload_n dX10_readAlts_73 rfl (by rfl) ?_
        refine w_callV hE dX10_readAlts_74 kX10_160 mdS_M (by rfl) (by rfl) (sX10_bad hE) rfl (by decide) (by decide) (by exact Nat.le_of_ble_eq_true rfl) (by omega) (by omega) (fun v9 g9 u9 h9 => ?_) (fun _ _ _ h => by cases h.1)
        obtain ⟨hv9, hu9, hg9⟩ := h9
        replace hu9 := hu9.symm
        subst hu9
        subst hg9
        cases hv9
        rw [mBad_0 hFv]
        refine v_ret dX10_readAlts_77 rfl ?_
        have hF0 : (qAltR u i j w).1 = false := by
          rw [hr, hstp, if_neg]
          unfold qAlt qRow
          rw [if_pos (Or.inl (by omega)), if_neg (fun z => Bool.noConfusion z)]
          exact fun z => Bool.noConfusion z
        refine ⟨rfl, rfl, _, rfl, hv, ?_, fun z => ?_⟩
        · rw [hF0, if_neg (by decide), ← hv2]
          exact fO_b (by decide)
        · rw [hF0] at z
          exact Bool.noConfusion z
    · refine v_aload_n dX10_readAlts_44 rfl (by rfl) ?_
      refine v_iload dX10_readAlts_45 (by rfl) ?_
      refine w_callV hE dX10_readAlts_47 kX10_156 mdS_M (by rfl) (by rfl) (sX10_at hE (y := v) (u := u) hpv (by omega)) rfl (by decide) (by decide) (by exact Nat.le_of_ble_eq_true rfl) (by omega) (by omega) (fun v9 g9 u9 h9 => ?_) (fun _ _ _ h => by cases h.1)
      obtain ⟨hv9, hu9, hg9⟩ := h9
      replace hu9 := hu9.symm
      subst hu9
      subst hg9
      cases hv9
      refine v_bipush (v := nI 44) dX10_readAlts_50 (by decide) ?_
      refine v_icmp_eq (tgt := 61) dX10_readAlts_52 (by decide) (fun c52 => ?_) (fun c52 => ?_)
      · have hcom : e = j ∨ mOct u e = nI 44 := by
          first
            | exact Or.inr c52
            | exact Or.inl (by omega)
        have hstp : qAltL u j (j + 1 - e) e p w' = if (qAlt u p e w').1 = true then qAltL u j (j + 1 - (e + 1)) (e + 1) (e + 1) (qAlt u p e w').2 else (false, (qAlt u p e w').2) := by
          rw [show j + 1 - e = (j + 1 - (e + 1)) + 1 by omega]
          show (if e = j ∨ mOct u e = nI 44 then _ else _) = _
          rw [if_pos hcom]
        refine v_aload_n dX10_readAlts_61 rfl (by rfl) ?_
        refine v_getf hE dX10_readAlts_62 fX10_84 mdS_M (by rfl) ?_
        refine v_iload_n dX10_readAlts_65 rfl (by rfl) ?_
        refine m_iald hE (k := 24) dX10_readAlts_66 (by decide) (by decide) rfl (show _ < 240 by omega) (by omega) ?_
        refine v_eqi (y := nI (eRo w' - 1)) hrw.1 ?_
        refine v_iconst (v := nI 3) dX10_readAlts_67 (by decide) ?_
        refine v_icmp_neN (tgt := 78) dX10_readAlts_68 (by decide) (by omega) (by omega) (fun c68 => ?_) (fun c68 => ?_)
        · refine v_aload_n dX10_readAlts_78 rfl (by rfl) ?_
          refine v_getf hE dX10_readAlts_79 fX10_84 mdS_M (by rfl) ?_
          refine v_iload_n dX10_readAlts_82 rfl (by rfl) ?_
          refine m_iald hE (k := 24) dX10_readAlts_83 (by decide) (by decide) rfl (show _ < 240 by omega) (by omega) ?_
          refine v_eqi (y := nI (eRo w' - 1)) hrw.1 ?_
          refine v_iconst (v := nI 1) dX10_readAlts_84 (by decide) ?_
          refine v_iaddN dX10_readAlts_85 ?_
          refine v_eqi (y := nI (eRo w')) (congrArg nI (by omega)) ?_
          refine v_istore dX10_readAlts_86 (by decide) ?_
          refine v_aload_n dX10_readAlts_88 rfl (by rfl) ?_
          refine v_iload_n dX10_readAlts_89 rfl (by rfl) ?_
          refine v_iload dX10_readAlts_90 (by rfl) ?_
          refine v_iload dX10_readAlts_92 (by rfl) ?_
          refine v_iload dX10_readAlts_94 (by rfl) ?_
          refine w_callV hE dX10_readAlts_96 kX10_252 mdS_M (by rfl) (by rfl) (sX10_readRow hE (y := v) (u := u) (q := eRo w') hpv hv.2.2.2.2 hr0 (by omega) (by omega) (by omega)) rfl (by decide) (by decide) (by exact Nat.le_of_ble_eq_true rfl) (by omega) (by omega) (fun v9 g9 u9 h9 => ?_) (fun _ _ _ h => by cases h.1)
          obtain ⟨hv9, hu9, v1, hg9, hv1, hrow⟩ := h9
          replace hu9 := hu9.symm
          subst hu9
          subst hg9
          cases hv9
          refine v_istore dX10_readAlts_99 (by decide) ?_
          refine v_iconst (v := nI 0) dX10_readAlts_101 (by decide) ?_
          refine v_istore dX10_readAlts_102 (by decide) ?_
          have hF1 : v1.2 43 = nI 0 := by rw [hv1.1]; exact hFv
          have hv3 : v1.2 = y.2 := hv1.1.trans hv2
          obtain ⟨qf1, qf2⟩ := qRow_f (u := u) (r := eRo w') (i := p) (j := e) (w := w') (by omega) (by omega)
          cases hb : rwOk u p e with
          | false =>
            have hnm : bI false = nI 0 := rfl
            refine v_iload dX10_readAlts_104 (by rfl) ?_
            refine v_iload dX10_readAlts_106 (by rfl) ?_
            refine v_icmp_geN (tgt := 142) dX10_readAlts_108 (by decide) (by omega) (by omega) (fun c108 => ?_) (fun c108 => ?_)
            · refine v_iload dX10_readAlts_142 (by rfl) ?_
              refine v_if_neN (tgt := 154) dX10_readAlts_144 (by decide) (by omega) (fun c144 => ?_) (fun c144 => ?_)
              · exact absurd rfl c144
              · refine v_aload_n dX10_readAlts_147 rfl (by rfl) ?_
                refine v_iconst (v := nI 4) dX10_readAlts_148 (by decide) ?_
                refine v_iload_n dX10_readAlts_149 rfl (by rfl) ?_
                refine w_callV hE dX10_readAlts_150 kX10_160 mdS_M (by rfl) (by rfl) (sX10_bad hE) rfl (by decide) (by decide) (by exact Nat.le_of_ble_eq_true rfl) (by omega) (by omega) (fun v9 g9 u9 h9 => ?_) (fun _ _ _ h => by cases h.1)
                obtain ⟨hv9, hu9, hg9⟩ := h9
                replace hu9 := hu9.symm
                subst hu9
                subst hg9
                cases hv9
                rw [mBad_0 hF1]
                refine v_ret dX10_readAlts_153 rfl ?_
                have hF0 : (qAltR u i j w).1 = false := by
                  rw [hr, hstp, if_neg]
                  unfold qAlt
                  rw [qf1, hb, if_neg (by decide)]
                  exact fun z => Bool.noConfusion z
                refine ⟨rfl, rfl, _, rfl, (show rAl r y v1 from rAl_w hv hv1 (by omega)), ?_, fun z => ?_⟩
                · rw [hF0, if_neg (by decide), ← hv3]
                  exact fO_b (by decide)
                · rw [hF0] at z
                  exact Bool.noConfusion z
            · refine v_iload dX10_readAlts_111 (by rfl) ?_
              refine v_if_eqN (tgt := 142) dX10_readAlts_113 (by decide) (by omega) (fun c113 => ?_) (fun c113 => ?_)
              · refine v_iload dX10_readAlts_142 (by rfl) ?_
                refine v_if_neN (tgt := 154) dX10_readAlts_144 (by decide) (by omega) (fun c144 => ?_) (fun c144 => ?_)
                · exact absurd rfl c144
                · refine v_aload_n dX10_readAlts_147 rfl (by rfl) ?_
                  refine v_iconst (v := nI 4) dX10_readAlts_148 (by decide) ?_
                  refine v_iload_n dX10_readAlts_149 rfl (by rfl) ?_
                  refine w_callV hE dX10_readAlts_150 kX10_160 mdS_M (by rfl) (by rfl) (sX10_bad hE) rfl (by decide) (by decide) (by exact Nat.le_of_ble_eq_true rfl) (by omega) (by omega) (fun v9 g9 u9 h9 => ?_) (fun _ _ _ h => by cases h.1)
                  obtain ⟨hv9, hu9, hg9⟩ := h9
                  replace hu9 := hu9.symm
                  subst hu9
                  subst hg9
                  cases hv9
                  rw [mBad_0 hF1]
                  refine v_ret dX10_readAlts_153 rfl ?_
                  have hF0 : (qAltR u i j w).1 = false := by
                    rw [hr, hstp, if_neg]
                    unfold qAlt
                    rw [qf1, hb, if_neg (by decide)]
                    exact fun z => Bool.noConfusion z
                  refine ⟨rfl, rfl, _, rfl, (show rAl r y v1 from rAl_w hv hv1 (by omega)), ?_, fun z => ?_⟩
                  · rw [hF0, if_neg (by decide), ← hv3]
                    exact fO_b (by decide)
                  · rw [hF0] at z
                    exact Bool.noConfusion z
              · exact absurd rfl c113
          | true =>
            obtain ⟨L, ql1, ql2⟩ := qf2 hb
            replace hrow := hrow hb
            have hlen : p < e ∧ e - p ≤ 24 := (in24 (i := p) (j := e) (by omega)).mp (by have c9 := hb; unfold rwOk at c9; rw [Bool.and_eq_true] at c9; exact c9.1)
            have hold : ∀ q, q < eRo w' → rwA v1 r q (eRs w' q) (fun k => eLe w' (q * 24 + k)) := fun q hq9 => rRw_A hv1 (hrw.2 q hq9) (by omega) (by have := hok.2.1 q; omega)
            have hnew : ∀ q, q < eRo w' + 1 → rwA v1 r q (eRs (wRo (wRs (wLe w' L) (va_up (eRs w') (eRo w') (e - p))) (eRo w' + 1)) q) (fun k => eLe (wRo (wRs (wLe w' L) (va_up (eRs w') (eRo w') (e - p))) (eRo w' + 1)) (q * 24 + k)) := fun q hq9 => by
              by_cases c : q = eRo w'
              · subst c
                show rwA v1 r (eRo w') (va_up (eRs w') (eRo w') (e - p) (eRo w')) (fun k => L (eRo w' * 24 + k))
                rw [va_up_self]
                exact rwA_c hrow (fun k hk => by (try dsimp only); rw [ql2, if_pos (by omega), show eRo w' * 24 + k - eRo w' * 24 = k by omega])
              · show rwA v1 r q (va_up (eRs w') (eRo w') (e - p) q) (fun k => L (q * 24 + k))
                rw [va_up_ne _ _ c]
                have := hok.2.1 q
                exact rwA_c (hold q (by omega)) (fun k hk => by (try dsimp only); rw [ql2, if_neg (by omega)])
            have hsame : ∀ o, o < eRo w' → eRowIs (wRo (wRs (wLe w' L) (va_up (eRs w') (eRo w') (e - p))) (eRo w' + 1)) o (wRo (wRs (wLe w' L) (va_up (eRs w') (eRo w') (e - p))) (eRo w' + 1)) (eRo w') = (mSR v1 (4 * r + o) (4 * r + eRo w') (eRs w' o)) := fun o ho => bool_eq (by
              have h9 := hok.2.1 o
              have e1 : eRs (wRo (wRs (wLe w' L) (va_up (eRs w') (eRo w') (e - p))) (eRo w' + 1)) o = eRs w' o := va_up_ne _ _ (by omega)
              have e2 : eRs (wRo (wRs (wLe w' L) (va_up (eRs w') (eRo w') (e - p))) (eRo w' + 1)) (eRo w') = e - p := va_up_self _ _ _
              have q1 := hnew o (by omega)
              have q2 := hnew (eRo w') (by omega)
              rw [e1] at q1
              rw [e2] at q2
              rw [eRowIs_raw (by rw [e1]; exact h9) (by rw [e2]; omega), e1, e2, mSR_rw q1 q2 (by omega) (by omega)])
            have l3 : ∀ (d3 o : Nat), o + d3 = eRo w' → allB (fun b => ! eRowIs (wRo (wRs (wLe w' L) (va_up (eRs w') (eRo w') (e - p))) (eRo w' + 1)) b (wRo (wRs (wLe w' L) (va_up (eRs w') (eRo w') (e - p))) (eRo w' + 1)) (eRo w')) (eRo w' - 0) 0 = allB (fun b => ! eRowIs (wRo (wRs (wLe w' L) (va_up (eRs w') (eRo w') (e - p))) (eRo w' + 1)) b (wRo (wRs (wLe w' L) (va_up (eRs w') (eRo w') (e - p))) (eRo w' + 1)) (eRo w')) (eRo w' - o) o → V E mX10_readAlts 0 0 (fun o f' t' => o = .inl none ∧ t' = t ∧ ∃ y', f' = mdS f M y' ∧ rAl r y y' ∧ fO y.2 y'.2 (if (qAltR u i j w).1 = true then 0 else 4) i ∧ ((qAltR u i j w).1 = true → enOk (qAltR u i j w).2 ∧ rwW y' r (qAltR u i j w).2)) 104 [some (.ref M), some (.int (nI r)), some (.int (nI i)), some (.int (nI j)), some (.int (nI p)), some (.int (nI e)), some (.int (nI (eRo w'))), some (.int (nI 1)), some (.int (nI o))] [] (mdS f M v1) t 0 0 := by
              intro d3
              induction d3 using Nat.strongRecOn with
              | _ d3 ih3 =>
              intro o hd3 he3
              refine v_iload dX10_readAlts_104 (by rfl) ?_
              refine v_iload dX10_readAlts_106 (by rfl) ?_
              refine v_icmp_geN (tgt := 142) dX10_readAlts_108 (by decide) (by omega) (by omega) (fun c108 => ?_) (fun c108 => ?_)
              · refine v_iload dX10_readAlts_142 (by rfl) ?_
                refine v_if_neN (tgt := 154) dX10_readAlts_144 (by decide) (by omega) (fun c144 => ?_) (fun c144 => ?_)
                · refine v_aload_n dX10_readAlts_154 rfl (by rfl) ?_
                  refine v_getf hE dX10_readAlts_155 fX10_84 mdS_M (by rfl) ?_
                  refine v_iload_n dX10_readAlts_158 rfl (by rfl) ?_
                  refine v_dup2 dX10_readAlts_159 rfl rfl ?_
                  refine m_iald hE (k := 24) dX10_readAlts_160 (by decide) (by decide) rfl (show _ < 240 by omega) (by omega) ?_
                  refine v_eqi (y := nI (eRo w' - 1)) (by rw [hv1.2.1 24 (by decide) (by decide)]; exact hrw.1) ?_
                  refine v_iconst (v := nI 1) dX10_readAlts_161 (by decide) ?_
                  refine v_iaddN dX10_readAlts_162 ?_
                  refine m_iast hE (k := 24) dX10_readAlts_163 (by decide) (by decide) rfl (show _ < 240 by omega) (by omega) ?_
                  refine v_iload dX10_readAlts_164 (by rfl) ?_
                  refine v_iconst (v := nI 1) dX10_readAlts_166 (by decide) ?_
                  refine v_iaddN dX10_readAlts_167 ?_
                  refine v_istore dX10_readAlts_168 (by decide) ?_
                  refine v_goto (tgt := 21) dX10_readAlts_170 (by decide) ?_
                  have hq : (qAlt u p e w') = (true, (wRo (wRs (wLe w' L) (va_up (eRs w') (eRo w') (e - p))) (eRo w' + 1))) := by
                    unfold qAlt
                    rw [qf1, hb, if_pos rfl, ql1]
                    refine Prod.ext ?_ rfl
                    show allB (fun b => ! eRowIs (wRo (wRs (wLe w' L) (va_up (eRs w') (eRo w') (e - p))) (eRo w' + 1)) b (wRo (wRs (wLe w' L) (va_up (eRs w') (eRo w') (e - p))) (eRo w' + 1)) (eRo w')) (eRo w' - 0) 0 = true
                    rw [he3, allB_0 (by omega)]
                  rw [hq, if_pos rfl] at hstp
                  have hok2 : enOk (wRo (wRs (wLe w' L) (va_up (eRs w') (eRo w') (e - p))) (eRo w' + 1)) := ⟨by show eRo w' + 1 ≤ 4; omega, va_up_le hok.2.1 (by omega), hok.2.2.1, hok.2.2.2⟩
                  have hrw2 : rwW (va_up v1.1 24 (upd (v1.1 24) r (nI (eRo w' - 1 + 1))), v1.2) r (wRo (wRs (wLe w' L) (va_up (eRs w') (eRo w') (e - p))) (eRo w' + 1)) := by
                    refine ⟨?_, fun q hq9 => ?_⟩
                    · show upd (v1.1 24) r (nI (eRo w' - 1 + 1)) r = nI (eRo w' + 1 - 1)
                      rw [updS]
                      exact congrArg nI (by omega)
                    · have hq9 : q < eRo w' + 1 := hq9
                      exact hnew q hq9
                  refine v_iload dX10_readAlts_21 (by rfl) ?_
                  refine v_iload_n dX10_readAlts_23 rfl (by rfl) ?_
                  refine v_icmp_gtN (tgt := 173) dX10_readAlts_24 (by decide) (by omega) (by omega) (fun c24 => ?_) (fun c24 => ?_)
                  · refine v_ret dX10_readAlts_173 rfl ?_
                    have he9 : j + 1 - (e + 1) = 0 := by omega
                    rw [he9] at hstp
                    have hR9 : (qAltR u i j w) = (true, (wRo (wRs (wLe w' L) (va_up (eRs w') (eRo w') (e - p))) (eRo w' + 1))) := hr.trans hstp
                    refine ⟨rfl, rfl, (va_up v1.1 24 (upd (v1.1 24) r (nI (eRo w' - 1 + 1))), v1.2), rfl, rAl_4 ((show rAl r y v1 from rAl_w hv hv1 (by omega))), ?_, fun _ => ?_⟩
                    · rw [hR9, if_pos rfl]
                      exact Or.inl ⟨rfl, hv3⟩
                    · rw [hR9]
                      exact ⟨hok2, hrw2⟩
                  · refine v_aload_n dX10_readAlts_27 rfl (by rfl) ?_
                    refine v_getf hE dX10_readAlts_28 fX10_147 mdS_M (by rfl) ?_
                    refine v_eqi (y := nI 0) hF1 ?_
                    refine v_if_neN (tgt := 173) dX10_readAlts_31 (by decide) (by omega) (fun c31 => ?_) (fun c31 => ?_)
                    · exact absurd rfl c31
                    · refine v_iload dX10_readAlts_34 (by rfl) ?_
                      refine v_istore dX10_readAlts_36 (by decide) ?_
                      exact ih (d - 1) (by omega) (e + 1) (e + 1) (wRo (wRs (wLe w' L) (va_up (eRs w') (eRo w') (e - p))) (eRo w' + 1)) (va_up v1.1 24 (upd (v1.1 24) r (nI (eRo w' - 1 + 1))), v1.2) _ _ _ (by omega) (Nat.le_refl _) hv3 (rAl_4 ((show rAl r y v1 from rAl_w hv hv1 (by omega)))) hok2 (by show 1 ≤ eRo w' + 1; omega) hrw2 (hr.trans hstp)
                · exact absurd c144 (by decide)
              · refine v_iload dX10_readAlts_111 (by rfl) ?_
                refine v_if_eqN (tgt := 142) dX10_readAlts_113 (by decide) (by omega) (fun c113 => ?_) (fun c113 => ?_)
                · exact absurd c113 (by decide)
                · refine v_aload_n dX10_readAlts_116 rfl (by rfl) ?_
                  refine v_iload_n dX10_readAlts_117 rfl (by rfl) ?_
                  refine v_iload dX10_readAlts_118 (by rfl) ?_
                  refine v_iload_n dX10_readAlts_120 rfl (by rfl) ?_
                  refine v_iload dX10_readAlts_121 (by rfl) ?_
                  refine w_callV hE dX10_readAlts_123 kX10_258 mdS_M (by rfl) (by rfl) (sX10_sameRow hE (y := v1) (a := r) (r := o) (b := r) (q := eRo w') (hold o (by omega)).1 (by have := hok.2.1 o; omega) (by omega) (by omega) (by omega) (by omega)) rfl (by decide) (by decide) (by exact Nat.le_of_ble_eq_true rfl) (by omega) (by omega) (fun v9 g9 u9 h9 => ?_) (fun _ _ _ h => by cases h.1)
                  obtain ⟨hv9, hu9, hg9⟩ := h9
                  replace hu9 := hu9.symm
                  subst hu9
                  subst hg9
                  cases hv9
                  refine v_if_neB (tgt := 133) dX10_readAlts_126 (by decide) (fun c126 => ?_) (fun c126 => ?_)
                  · refine v_iconst (v := nI 0) dX10_readAlts_133 (by decide) ?_
                    refine v_istore dX10_readAlts_134 (by decide) ?_
                    refine v_iincN (y := 1) dX10_readAlts_136 (by rfl) (by decide) (by decide) ?_
                    refine v_goto (tgt := 104) dX10_readAlts_139 (by decide) ?_
                    refine v_iload dX10_readAlts_104 (by rfl) ?_
                    refine v_iload dX10_readAlts_106 (by rfl) ?_
                    refine v_icmp_geN (tgt := 142) dX10_readAlts_108 (by decide) (by omega) (by omega) (fun c108 => ?_) (fun c108 => ?_)
                    · refine v_iload dX10_readAlts_142 (by rfl) ?_
                      refine v_if_neN (tgt := 154) dX10_readAlts_144 (by decide) (by omega) (fun c144 => ?_) (fun c144 => ?_)
                      · exact absurd rfl c144
                      · refine v_aload_n dX10_readAlts_147 rfl (by rfl) ?_
                        refine v_iconst (v := nI 4) dX10_readAlts_148 (by decide) ?_
                        refine v_iload_n dX10_readAlts_149 rfl (by rfl) ?_
                        refine w_callV hE dX10_readAlts_150 kX10_160 mdS_M (by rfl) (by rfl) (sX10_bad hE) rfl (by decide) (by decide) (by exact Nat.le_of_ble_eq_true rfl) (by omega) (by omega) (fun v9 g9 u9 h9 => ?_) (fun _ _ _ h => by cases h.1)
                        obtain ⟨hv9, hu9, hg9⟩ := h9
                        replace hu9 := hu9.symm
                        subst hu9
                        subst hg9
                        cases hv9
                        rw [mBad_0 hF1]
                        refine v_ret dX10_readAlts_153 rfl ?_
                        have hF0 : (qAltR u i j w).1 = false := by
                          rw [hr, hstp, if_neg]
                          unfold qAlt
                          rw [qf1, hb, if_pos rfl, ql1]
                          show ¬ allB (fun b => ! eRowIs (wRo (wRs (wLe w' L) (va_up (eRs w') (eRo w') (e - p))) (eRo w' + 1)) b (wRo (wRs (wLe w' L) (va_up (eRs w') (eRo w') (e - p))) (eRo w' + 1)) (eRo w')) (eRo w' - 0) 0 = true
                          rw [he3, allB_f (p := (fun b => ! eRowIs (wRo (wRs (wLe w' L) (va_up (eRs w') (eRo w') (e - p))) (eRo w' + 1)) b (wRo (wRs (wLe w' L) (va_up (eRs w') (eRo w') (e - p))) (eRo w' + 1)) (eRo w'))) (j := eRo w') (by omega) (by show (! eRowIs (wRo (wRs (wLe w' L) (va_up (eRs w') (eRo w') (e - p))) (eRo w' + 1)) o (wRo (wRs (wLe w' L) (va_up (eRs w') (eRo w') (e - p))) (eRo w' + 1)) (eRo w')) = false; rw [hsame o (by omega), c126]; rfl)]
                          decide
                        refine ⟨rfl, rfl, _, rfl, (show rAl r y v1 from rAl_w hv hv1 (by omega)), ?_, fun z => ?_⟩
                        · rw [hF0, if_neg (by decide), ← hv3]
                          exact fO_b (by decide)
                        · rw [hF0] at z
                          exact Bool.noConfusion z
                    · refine v_iload dX10_readAlts_111 (by rfl) ?_
                      refine v_if_eqN (tgt := 142) dX10_readAlts_113 (by decide) (by omega) (fun c113 => ?_) (fun c113 => ?_)
                      · refine v_iload dX10_readAlts_142 (by rfl) ?_
                        refine v_if_neN (tgt := 154) dX10_readAlts_144 (by decide) (by omega) (fun c144 => ?_) (fun c144 => ?_)
                        · exact absurd rfl c144
                        · refine v_aload_n dX10_readAlts_147 rfl (by rfl) ?_
                          refine v_iconst (v := nI 4) dX10_readAlts_148 (by decide) ?_
                          refine v_iload_n dX10_readAlts_149 rfl (by rfl) ?_
                          refine w_callV hE dX10_readAlts_150 kX10_160 mdS_M (by rfl) (by rfl) (sX10_bad hE) rfl (by decide) (by decide) (by exact Nat.le_of_ble_eq_true rfl) (by omega) (by omega) (fun v9 g9 u9 h9 => ?_) (fun _ _ _ h => by cases h.1)
                          obtain ⟨hv9, hu9, hg9⟩ := h9
                          replace hu9 := hu9.symm
                          subst hu9
                          subst hg9
                          cases hv9
                          rw [mBad_0 hF1]
                          refine v_ret dX10_readAlts_153 rfl ?_
                          have hF0 : (qAltR u i j w).1 = false := by
                            rw [hr, hstp, if_neg]
                            unfold qAlt
                            rw [qf1, hb, if_pos rfl, ql1]
                            show ¬ allB (fun b => ! eRowIs (wRo (wRs (wLe w' L) (va_up (eRs w') (eRo w') (e - p))) (eRo w' + 1)) b (wRo (wRs (wLe w' L) (va_up (eRs w') (eRo w') (e - p))) (eRo w' + 1)) (eRo w')) (eRo w' - 0) 0 = true
                            rw [he3, allB_f (p := (fun b => ! eRowIs (wRo (wRs (wLe w' L) (va_up (eRs w') (eRo w') (e - p))) (eRo w' + 1)) b (wRo (wRs (wLe w' L) (va_up (eRs w') (eRo w') (e - p))) (eRo w' + 1)) (eRo w'))) (j := eRo w') (by omega) (by show (! eRowIs (wRo (wRs (wLe w' L) (va_up (eRs w') (eRo w') (e - p))) (eRo w' + 1)) o (wRo (wRs (wLe w' L) (va_up (eRs w') (eRo w') (e - p))) (eRo w' + 1)) (eRo w')) = false; rw [hsame o (by omega), c126]; rfl)]
                            decide
                          refine ⟨rfl, rfl, _, rfl, (show rAl r y v1 from rAl_w hv hv1 (by omega)), ?_, fun z => ?_⟩
                          · rw [hF0, if_neg (by decide), ← hv3]
                            exact fO_b (by decide)
                          · rw [hF0] at z
                            exact Bool.noConfusion z
                      · exact absurd rfl c113
                  · refine v_iconst (v := nI 1) dX10_readAlts_129 (by decide) ?_
                    refine v_goto (tgt := 134) dX10_readAlts_130 (by decide) ?_
                    refine v_istore dX10_readAlts_134 (by decide) ?_
                    refine v_iincN (y := 1) dX10_readAlts_136 (by rfl) (by decide) (by decide) ?_
                    refine v_goto (tgt := 104) dX10_readAlts_139 (by decide) ?_
                    exact ih3 (d3 - 1) (by omega) (o + 1) (by omega) (he3.trans (allB_s (p := (fun b => ! eRowIs (wRo (wRs (wLe w' L) (va_up (eRs w') (eRo w') (e - p))) (eRo w' + 1)) b (wRo (wRs (wLe w' L) (va_up (eRs w') (eRo w') (e - p))) (eRo w' + 1)) (eRo w'))) (j := eRo w') (by omega) (by show (! eRowIs (wRo (wRs (wLe w' L) (va_up (eRs w') (eRo w') (e - p))) (eRo w' + 1)) o (wRo (wRs (wLe w' L) (va_up (eRs w') (eRo w') (e - p))) (eRo w' + 1)) (eRo w')) = true; rw [hsame o (by omega), c126]; rfl)))
            exact l3 (eRo w') 0 (by omega) rfl
        · refine v_aload_n dX10_readAlts_71 rfl (by rfl) ?_
          refine v_iconst (v := nI 4) dX10_readAlts_72 (by decide) ?_
          refine v_iload_n dX10_readAlts_73 rfl (by rfl) ?_
          refine w_callV hE dX10_readAlts_74 kX10_160 mdS_M (by rfl) (by rfl) (sX10_bad hE) rfl (by decide) (by decide) (by exact Nat.le_of_ble_eq_true rfl) (by omega) (by omega) (fun v9 g9 u9 h9 => ?_) (fun _ _ _ h => by cases h.1)
          obtain ⟨hv9, hu9, hg9⟩ := h9
          replace hu9 := hu9.symm
          subst hu9
          subst hg9
          cases hv9
          rw [mBad_0 hFv]
          refine v_ret dX10_readAlts_77 rfl ?_
          have hF0 : (qAltR u i j w).1 = false := by
            rw [hr, hstp, if_neg]
            unfold qAlt qRow
            rw [if_pos (Or.inl (by omega)), if_neg (fun z => Bool.noConfusion z)]
            exact fun z => Bool.noConfusion z
          refine ⟨rfl, rfl, _, rfl, hv, ?_, fun z => ?_⟩
          · rw [hF0, if_neg (by decide), ← hv2]
            exact fO_b (by decide)
          · rw [hF0] at z
            exact Bool.noConfusion z
      · refine v_iincN (y := 1) dX10_readAlts_55 (by rfl) (by decide) (by decide) ?_
        refine v_goto (tgt := 38) dX10_readAlts_58 (by decide) ?_
        refine ih (d - 1) (by omega) (e + 1) p w' v _ _ _ (by omega) (by omega) hv2 hv hok hro hrw (hr.trans ?_)
        rw [show j + 1 - e = (j + 1 - (e + 1)) + 1 by omega]
        show (if e = j ∨ mOct u e = nI 44 then _ else _) = _
        rw [if_neg (fun z => z.elim (by omega) c52)]
  refine v_aload_n dX10_readAlts_0 rfl (by rfl) ?_
  refine v_getf hE dX10_readAlts_1 fX10_84 mdS_M (by rfl) ?_
  refine v_iload_n dX10_readAlts_4 rfl (by rfl) ?_
  refine v_iconst (v := nI 0) dX10_readAlts_5 (by decide) ?_
  refine m_iast hE (k := 24) dX10_readAlts_6 (by decide) (by decide) rfl (show _ < 240 by omega) (by omega) ?_
  have hal0 : rAl r y (va_up y.1 24 (upd (y.1 24) r (nI 0)), y.2) := rAl_4 (y := y) (v := y) (s := y.2) ⟨fun _ _ _ _ => rfl, fun _ _ => rfl, fun _ _ => rfl, fun _ _ => rfl, hO⟩
  have hrw0 : rwW (va_up y.1 24 (upd (y.1 24) r (nI 0)), y.2) r w := ⟨by show upd (y.1 24) r (nI 0) r = _; rw [updS, hro1], fun q hq9 => by
    rw [show q = 0 by omega]
    exact hrow0⟩
  refine v_aload_n dX10_readAlts_7 rfl (by rfl) ?_
  refine v_iload_n dX10_readAlts_8 rfl (by rfl) ?_
  refine v_iload_n dX10_readAlts_9 rfl (by rfl) ?_
  refine v_iconst (v := nI 5) dX10_readAlts_10 (by decide) ?_
  refine w_callV hE dX10_readAlts_11 kX10_241 mdS_M (by rfl) (by rfl) (sX10_isText hE (y := (va_up y.1 24 (upd (y.1 24) r (nI 0)), y.2)) (u := u) hp (by decide) hij hj) rfl (by decide) (by decide) (by exact Nat.le_of_ble_eq_true rfl) (by omega) (by omega) (fun v9 g9 u9 h9 => ?_) (fun _ _ _ h => by cases h.1)
  obtain ⟨hv9, hu9, hg9⟩ := h9
  replace hu9 := hu9.symm
  subst hu9
  subst hg9
  cases hv9
  refine v_if_eqB (tgt := 18) dX10_readAlts_14 (by decide) (fun c14 => ?_) (fun c14 => ?_)
  · refine v_iload_n dX10_readAlts_18 rfl (by rfl) ?_
    refine v_istore dX10_readAlts_19 (by decide) ?_
    refine v_iload dX10_readAlts_21 (by rfl) ?_
    refine v_iload_n dX10_readAlts_23 rfl (by rfl) ?_
    refine v_icmp_gtN (tgt := 173) dX10_readAlts_24 (by decide) (by omega) (by omega) (fun c24 => ?_) (fun c24 => ?_)
    · refine v_ret dX10_readAlts_173 rfl ?_
      first
        | (have hR0 : (qAltR u i j w) = (true, w) := if_pos c14
           refine ⟨rfl, rfl, (va_up y.1 24 (upd (y.1 24) r (nI 0)), y.2), rfl, hal0, ?_, fun _ => ?_⟩
           · rw [hR0, if_pos rfl]
             exact Or.inl ⟨rfl, rfl⟩
           · rw [hR0]
             exact ⟨hwo, hrw0⟩)
        | (exact absurd c24 (by omega))
    · refine v_aload_n dX10_readAlts_27 rfl (by rfl) ?_
      refine v_getf hE dX10_readAlts_28 fX10_147 mdS_M (by rfl) ?_
      refine v_eqi (y := nI 0) hF ?_
      refine v_if_neN (tgt := 173) dX10_readAlts_31 (by decide) (by omega) (fun c31 => ?_) (fun c31 => ?_)
      · exact absurd rfl c31
      · refine v_iload dX10_readAlts_34 (by rfl) ?_
        refine v_istore dX10_readAlts_36 (by decide) ?_
        have hR0 : (qAltR u i j w) = qAltL u j (j + 1 - i) i i w := if_neg (by rw [show tIs u i j tx7 = tIs u i j (mTx 5) from rfl, c14]; decide)
        exact lp (j - i) i i w (va_up y.1 24 (upd (y.1 24) r (nI 0)), y.2) _ _ _ (by omega) (Nat.le_refl _) rfl hal0 hwo (by omega) hrw0 hR0
  · refine v_ret dX10_readAlts_17 rfl ?_
    first
      | (have hR0 : (qAltR u i j w) = (true, w) := if_pos c14
         refine ⟨rfl, rfl, (va_up y.1 24 (upd (y.1 24) r (nI 0)), y.2), rfl, hal0, ?_, fun _ => ?_⟩
         · rw [hR0, if_pos rfl]
           exact Or.inl ⟨rfl, rfl⟩
         · rw [hR0]
           exact ⟨hwo, hrw0⟩)
      | (exact absurd c24 (by omega))
