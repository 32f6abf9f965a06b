set_option maxRecDepth 100000 in
/-- model: readColumn -/
theorem sX10_readColumn {E : eN} (hE : eOk E) {f : aH} {t M : Nat} {y : mV} {u : tS} {g : gV} {r i j c : Nat} {w : eV} (hp : mTp y u) (hO : aNw y.1) (hF : y.2 43 = nI 0) (hr : r < 240) (hij : i ≤ j) (hj : j ≤ u.1) (hg : mGn y g) (hgo : gOk g) (hI : cI g w c) (hmP : mP y r w c) (hc : c < 12) : mT E mX10_readColumn 0 0 [.ref M, .int (nI r), .int (nI c), .int (nI i), .int (nI j)] (mdS f M y) t (fun o f' t' => o = .inl none ∧ t' = t ∧ ∃ y', f' = mdS f M y' ∧ rFr r y y' ∧ fO y.2 y'.2 (cSt u g i j w c).1 i ∧ ((cSt u g i j w c).1 = 0 → mP y' r (cSt u g i j w c).2 (c + 1))) := by
  obtain ⟨i1, i2, i3, i4⟩ := id hI
  rcases (show c = 0 ∨ c = 1 ∨ c = 2 ∨ c = 3 ∨ c = 4 ∨ c = 5 ∨ c = 6 ∨ c = 7 ∨ c = 8 ∨ 9 ≤ c by omega) with e | e | e | e | e | e | e | e | e | e
  · subst e
    exact sX10_readColumn0 hE hp hO hF hr hij hj hmP hg hgo
  · subst e
    exact sX10_readColumn1 hE hp hO hF hr hij hj hmP hg hgo (i2 (by decide)).1 (i2 (by decide)).2
  · subst e
    exact sX10_readColumn2 hE hp hO hF hr hij hj hmP
  · subst e
    exact sX10_readColumn3 hE hp hO hF hr hij hj hmP hg hgo (i2 (by decide)).1 (i3 (by decide)).1 (i2 (by decide)).2 (i3 (by decide)).2.1 (i3 (by decide)).2.2
  · subst e
    exact sX10_readColumn4 hE hp hO hF hr hij hj hmP i1
  · subst e
    exact sX10_readColumn5 hE hp hO hF hr hij hj hmP
  · subst e
    exact sX10_readColumn6 hE hp hO hF hr hij hj hmP
  · subst e
    exact sX10_readColumn7 hE hp hO hF hr hij hj hmP
  · subst e
    exact sX10_readColumn8 hE hp hO hF hr hij hj hmP
  · obtain ⟨s, rfl⟩ : ∃ s, c = 9 + s := ⟨c - 9, by omega⟩
    have e9 : cSt u g i j w (9 + s) = cSt u g i j w (s + 9) := by rw [Nat.add_comm]
    rw [e9]
    exact sX10_readColumn9 hE hp hO hF hr hij hj (by omega) i1 hmP

/-- the model's table 2 has taken record k -/
def rRd (k : Nat) (y z : mV) : Prop := (∀ j, (j < 20 ∧ j ≠ 16) ∨ 31 < j → z.1 j = y.1 j) ∧ (∀ i, i ≠ 2 → z.1 16 i = y.1 16 i) ∧ aNw z.1 ∧ ∀ r', r' ≠ 120 + k → smR y z r'
theorem rRd_f {k : Nat} {y v : mV} {x : Int32} {s : Nat → Int32} (h : rFr (120 + k) y v) : rRd k y (va_up v.1 16 (upd (v.1 16) 2 x), s) := ⟨fun j hj => (va_up_ne _ _ (by omega)).trans (h.1 j (by omega)), fun i hi => by
  show upd (v.1 16) 2 x i = _
  rw [updN hi]
  exact congrFun (h.1 16 (by omega)) i, aNw_i h.2.1 rfl, fun r' hr' => h.2.2 r' hr'⟩
def qRcd (u : tS) (v : qV) (g : gV) (n k : Nat) (w : eV) : Bool × qV × eV := if k = 60 then (false, qFail v 6 (qBg v), w) else if qCm (qCut u v) = (if n = 0 then 8 else 9 + n) then qFin u (qCut u v) n (qE0 u (qCut u v) g n w) else (false, qFail (qCut u v) 3 (qBg v), w)
theorem rFr_t {r : Nat} {y v z : mV} (h : rFr r y v) (h2 : rFr r v z) : rFr r y z := ⟨fun k hk => (h2.1 k hk).trans (h.1 k hk), h2.2.1, fun r' hr' => smR_t (h.2.2 r' hr') (h2.2.2 r' hr')⟩
theorem qCut_cm9 {u : tS} {q : qV} (hu : u.1 ≤ 8000) (hL : qBg q ≤ qE q) (hE : qE q < u.1) : qCm (qCut u q) ≤ 8001 := by
  have h := qCutL_cm (u := u) (e := qE q) (qE q + 1 - qBg q) (qBg q) (qSt q, qBg q, 0)
  show (qCutL u (qE q) (qE q + 1 - qBg q) (qBg q) (qSt q, qBg q, 0)).2.2 ≤ 8001
  have h : (qCutL u (qE q) (qE q + 1 - qBg q) (qBg q) (qSt q, qBg q, 0)).2.2 ≤ 0 + (qE q + 1 - qBg q) := h
  omega
theorem cSt_9 {u : tS} {g : gV} {i j c : Nat} {w : eV} : (cSt u g i j w c).1 < 100 := by
  unfold cSt
  split <;> (dsimp only; first | (split <;> decide) | (unfold rfF; split; decide; split <;> decide))
set_option maxRecDepth 100000 in
set_option maxHeartbeats 1500000 in
/-- model: readRecord -/
theorem sX10_readRecord {E : eN} (hE : eOk E) {f : aH} {t : Nat} {M : Nat} {y : mV} {u : tS} {g : gV} {q : qV} {n k : Nat} {w : eV} (hp : mTp y u) (hO : aNw y.1) (hF : y.2 43 = nI 0) (hg : mGn y g) (hgo : gOk g) (hk : y.1 16 2 = nI k) (hk60 : k ≤ 60) (hn : y.1 17 2 = nI n) (hn3 : n ≤ 3) (hL : qBg q ≤ qE q) (hE2 : qE q < u.1) (hwo : enOk w) : mT E mX10_readRecord 0 0 [.ref M, .int (nI (qBg q)), .int (nI (qE q))] (mdS f M y) t (fun o f' t' => o = .inl none ∧ t' = t ∧ ∃ y', f' = mdS f M y' ∧ rRd k y y' ∧ (((qRcd u q g n k w).1 = true ∧ y'.2 = y.2 ∧ y'.1 16 2 = nI (k + 1) ∧ mE y' (120 + k) (qRcd u q g n k w).2.2 n ∧ cI g (qRcd u q g n k w).2.2 (if n = 0 then 8 else 9 + n)) ∨ ((qRcd u q g n k w).1 = false ∧ qFa (qRcd u q g n k w).2.1 ≠ 0 ∧ qFa (qRcd u q g n k w).2.1 < 100 ∧ y'.2 43 = nI (qFa (qRcd u q g n k w).2.1) ∧ y'.2 44 = nI (qFp (qRcd u q g n k w).2.1) ∧ ∀ j, j ≠ 43 → j ≠ 44 → y'.2 j = y.2 j))) := by
  refine mT_of (n := 5) (lo := [some (.ref M), some (.int (nI (qBg q))), some (.int (nI (qE q))), none, none, none, none, none]) (by decide) (by exact Nat.le_of_ble_eq_true rfl) rfl rfl ?_
  have hu8 := hp.2.1
  have endF : k < 60 → ∀ (v : mV) (F p c : Nat) (z7 : Option Value), c ≤ 12 → rFr (120 + k) y v → F ≠ 0 → F < 100 → v.2 43 = nI F → v.2 44 = nI (qFp (qRcd u q g n k w).2.1) → (∀ j, j ≠ 43 → j ≠ 44 → v.2 j = y.2 j) → (qRcd u q g n k w).1 = false → qFa (qRcd u q g n k w).2.1 = F → qFp (qRcd u q g n k w).2.1 = qFp (qRcd u q g n k w).2.1 → V E mX10_readRecord 0 0 (fun o f' t' => o = .inl none ∧ t' = t ∧ ∃ y', f' = mdS f M y' ∧ rRd k y y' ∧ (((qRcd u q g n k w).1 = true ∧ y'.2 = y.2 ∧ y'.1 16 2 = nI (k + 1) ∧ mE y' (120 + k) (qRcd u q g n k w).2.2 n ∧ cI g (qRcd u q g n k w).2.2 (if n = 0 then 8 else 9 + n)) ∨ ((qRcd u q g n k w).1 = false ∧ qFa (qRcd u q g n k w).2.1 ≠ 0 ∧ qFa (qRcd u q g n k w).2.1 < 100 ∧ y'.2 43 = nI (qFa (qRcd u q g n k w).2.1) ∧ y'.2 44 = nI (qFp (qRcd u q g n k w).2.1) ∧ ∀ j, j ≠ 43 → j ≠ 44 → y'.2 j = y.2 j))) 77 [some (.ref M), some (.int (nI (qBg q))), some (.int (nI (qE q))), some (.int (nI (if n = 0 then 8 else 9 + n))), some (.int (nI (120 + k))), some (.int (nI p)), some (.int (nI c)), z7] [] (mdS f M v) t 0 0 := by
    intro hk6 v F p c z7 hc12 hv hF0 hF9 h43 h44 hoth hr1 hr2 hr3
    have hall : (if n = 0 then 8 else 9 + n) ≤ 12 := by split <;> omega
    refine v_iload dX10_readRecord_77 (by rfl) ?_
    refine v_iload_n dX10_readRecord_79 rfl (by rfl) ?_
    refine v_icmp_geN (tgt := 123) dX10_readRecord_80 (by decide) (by omega) (by omega) (fun c80 => ?_) (fun c80 => ?_)
    · refine v_aload_n dX10_readRecord_123 rfl (by rfl) ?_
      refine v_getf hE dX10_readRecord_124 fX10_60 mdS_M (by rfl) ?_
      refine v_iconst (v := nI 2) dX10_readRecord_127 (by decide) ?_
      refine v_dup2 dX10_readRecord_128 rfl rfl ?_
      refine m_iald hE (k := 16) dX10_readRecord_129 (by decide) (by decide) rfl (show _ < 4 by omega) (by omega) ?_
      refine v_eqi (y := nI k) (by rw [hv.1 16 (by omega)]; exact hk) ?_
      refine v_iconst (v := nI 1) dX10_readRecord_130 (by decide) ?_
      refine v_iaddN dX10_readRecord_131 ?_
      refine m_iast hE (k := 16) dX10_readRecord_132 (by decide) (by decide) rfl (show _ < 4 by omega) (by omega) ?_
      refine v_ret dX10_readRecord_133 rfl ?_
      refine ⟨rfl, rfl, _, rfl, rRd_f hv, Or.inr ⟨hr1, by rw [hr2]; exact hF0, by rw [hr2]; exact hF9, by rw [hr2]; exact h43, h44, hoth⟩⟩
    · refine v_aload_n dX10_readRecord_83 rfl (by rfl) ?_
      refine v_getf hE dX10_readRecord_84 fX10_147 mdS_M (by rfl) ?_
      refine v_eqi (y := nI F) h43 ?_
      refine v_if_neN (tgt := 123) dX10_readRecord_87 (by decide) (by omega) (fun c87 => ?_) (fun c87 => ?_)
      · refine v_aload_n dX10_readRecord_123 rfl (by rfl) ?_
        refine v_getf hE dX10_readRecord_124 fX10_60 mdS_M (by rfl) ?_
        refine v_iconst (v := nI 2) dX10_readRecord_127 (by decide) ?_
        refine v_dup2 dX10_readRecord_128 rfl rfl ?_
        refine m_iald hE (k := 16) dX10_readRecord_129 (by decide) (by decide) rfl (show _ < 4 by omega) (by omega) ?_
        refine v_eqi (y := nI k) (by rw [hv.1 16 (by omega)]; exact hk) ?_
        refine v_iconst (v := nI 1) dX10_readRecord_130 (by decide) ?_
        refine v_iaddN dX10_readRecord_131 ?_
        refine m_iast hE (k := 16) dX10_readRecord_132 (by decide) (by decide) rfl (show _ < 4 by omega) (by omega) ?_
        refine v_ret dX10_readRecord_133 rfl ?_
        refine ⟨rfl, rfl, _, rfl, rRd_f hv, Or.inr ⟨hr1, by rw [hr2]; exact hF0, by rw [hr2]; exact hF9, by rw [hr2]; exact h43, h44, hoth⟩⟩
      · exact absurd c87 (by omega)
  have lp : k < 60 → qCm (qCut u q) = (if n = 0 then 8 else 9 + n) → ∀ (d c : Nat) (w9 : eV) (v : mV) (z7 : Option Value), c + d = (if n = 0 then 8 else 9 + n) → v.2 = y.2 → rFr (120 + k) y v → mP v (120 + k) w9 c → cI g w9 c → (qRcd u q g n k w) = qT u (qCut u q) g n w9 c → V E mX10_readRecord 0 0 (fun o f' t' => o = .inl none ∧ t' = t ∧ ∃ y', f' = mdS f M y' ∧ rRd k y y' ∧ (((qRcd u q g n k w).1 = true ∧ y'.2 = y.2 ∧ y'.1 16 2 = nI (k + 1) ∧ mE y' (120 + k) (qRcd u q g n k w).2.2 n ∧ cI g (qRcd u q g n k w).2.2 (if n = 0 then 8 else 9 + n)) ∨ ((qRcd u q g n k w).1 = false ∧ qFa (qRcd u q g n k w).2.1 ≠ 0 ∧ qFa (qRcd u q g n k w).2.1 < 100 ∧ y'.2 43 = nI (qFa (qRcd u q g n k w).2.1) ∧ y'.2 44 = nI (qFp (qRcd u q g n k w).2.1) ∧ ∀ j, j ≠ 43 → j ≠ 44 → y'.2 j = y.2 j))) 77 [some (.ref M), some (.int (nI (qBg q))), some (.int (nI (qE q))), some (.int (nI (if n = 0 then 8 else 9 + n))), some (.int (nI (120 + k))), some (.int (nI (qSt (qCut u q) c))), some (.int (nI c)), z7] [] (mdS f M v) t 0 0 := by
    intro hk6 hcm d
    have hall : (if n = 0 then 8 else 9 + n) ≤ 12 := by split <;> omega
    induction d using Nat.strongRecOn with
    | _ d ih =>
    intro c w9 v z7 hd hv2 hv hmP hI9 hrc
    have hpv : mTp v u := ⟨by rw [hv2]; exact hp.1, hp.2.1, by rw [hv.1 1 (by omega)]; exact hp.2.2⟩
    have hFv : v.2 43 = nI 0 := by rw [hv2]; exact hF
    have hgv : mGn v g := by
      obtain ⟨g1, g2, g3⟩ := hg
      refine ⟨by rw [hv2]; exact g1, fun s' hs' => ?_, fun k hk => ?_⟩
      · rw [hv.1 3 (by omega), hv.1 2 (by omega), hv.1 5 (by omega), hv.1 6 (by omega), hv.1 7 (by omega), hv.1 8 (by omega)]
        exact g2 s' hs'
      · rw [hv.1 4 (by omega)]
        exact g3 k hk
    refine v_iload dX10_readRecord_77 (by rfl) ?_
    refine v_iload_n dX10_readRecord_79 rfl (by rfl) ?_
    refine v_icmp_geN (tgt := 123) dX10_readRecord_80 (by decide) (by omega) (by omega) (fun c80 => ?_) (fun c80 => ?_)
    · have e9 : c = (if n = 0 then 8 else 9 + n) := by omega
      subst e9
      have hR : (qRcd u q g n k w) = (true, (qCut u q), w9) := hrc.trans qT_end
      refine v_aload_n dX10_readRecord_123 rfl (by rfl) ?_
      refine v_getf hE dX10_readRecord_124 fX10_60 mdS_M (by rfl) ?_
      refine v_iconst (v := nI 2) dX10_readRecord_127 (by decide) ?_
      refine v_dup2 dX10_readRecord_128 rfl rfl ?_
      refine m_iald hE (k := 16) dX10_readRecord_129 (by decide) (by decide) rfl (show _ < 4 by omega) (by omega) ?_
      refine v_eqi (y := nI k) (by rw [hv.1 16 (by omega)]; exact hk) ?_
      refine v_iconst (v := nI 1) dX10_readRecord_130 (by decide) ?_
      refine v_iaddN dX10_readRecord_131 ?_
      refine m_iast hE (k := 16) dX10_readRecord_132 (by decide) (by decide) rfl (show _ < 4 by omega) (by omega) ?_
      refine v_ret dX10_readRecord_133 rfl ?_
      refine ⟨rfl, rfl, _, rfl, rRd_f hv, Or.inl ?_⟩
      rw [hR]
      refine ⟨rfl, hv2, ?_, ?_, hI9⟩
      · show upd (v.1 16) 2 (nI (k + 1)) 2 = _
        exact updS
      · exact mP_E (v := v) hmP (by split <;> omega) (by split <;> omega) (hI9.2.2.2 (by split <;> omega))
    · refine v_aload_n dX10_readRecord_83 rfl (by rfl) ?_
      refine v_getf hE dX10_readRecord_84 fX10_147 mdS_M (by rfl) ?_
      refine v_eqi (y := nI 0) hFv ?_
      refine v_if_neN (tgt := 123) dX10_readRecord_87 (by decide) (by omega) (fun c87 => ?_) (fun c87 => ?_)
      · exact absurd rfl c87
      · obtain ⟨hq1, hq2, hq3, hq4, hq5⟩ := qCut_f (u := u) (v := q) hL
        have hcol := hq4 c (by omega) (by omega)
        have hle := mCE_le (u := u) (qE q - qSt (qCut u q) c) (qSt (qCut u q) c)
        have hij9 : qSt (qCut u q) c ≤ qSt (qCut u q) (c + 1) - 1 := by omega
        have hj9 : qSt (qCut u q) (c + 1) - 1 ≤ u.1 := by omega
        have hts := qTs_c (n := n) hpv hgo hI9 hij9 hj9 (by omega) hn3
        refine v_aload_n dX10_readRecord_90 rfl (by rfl) ?_
        refine v_iload dX10_readRecord_91 (by rfl) ?_
        refine v_iload_n dX10_readRecord_93 rfl (by rfl) ?_
        refine w_callV hE dX10_readRecord_94 kX10_238 mdS_M (by rfl) (by rfl) (sX10_columnEnd hE (y := v) (u := u) hpv hcol.1 (by omega)) rfl (by decide) (by decide) (by exact Nat.le_of_ble_eq_true rfl) (by omega) (by omega) (fun v9 g9 u9 h9 => ?_) (fun _ _ _ h => by cases h.1)
        obtain ⟨hv9, hu9, hg9⟩ := h9
        replace hu9 := hu9.symm
        subst hu9
        subst hg9
        cases hv9
        refine v_eqi (y := nI (qSt (qCut u q) (c + 1) - 1)) (congrArg nI (by rw [hcol.2]; omega)) ?_
        refine v_istore dX10_readRecord_97 (by decide) ?_
        refine v_aload_n dX10_readRecord_99 rfl (by rfl) ?_
        refine v_iload dX10_readRecord_100 (by rfl) ?_
        refine v_iload dX10_readRecord_102 (by rfl) ?_
        refine v_iload dX10_readRecord_104 (by rfl) ?_
        refine v_iload dX10_readRecord_106 (by rfl) ?_
        refine w_callV hE dX10_readRecord_108 kX10_285 mdS_M (by rfl) (by rfl) (sX10_readColumn hE (y := v) (u := u) (g := g) (w := w9) (c := c) hpv hv.2.1 hFv (by omega) hij9 hj9 hgv hgo hI9 hmP (by omega)) rfl (by decide) (by decide) (by exact Nat.le_of_ble_eq_true rfl) (by omega) (by omega) (fun v9 g9 u9 h9 => ?_) (fun _ _ _ h => by cases h.1)
        obtain ⟨hv9, hu9, v1, hg9, hfr, hfo, hmp⟩ := h9
        replace hu9 := hu9.symm
        subst hu9
        subst hg9
        cases hv9
        rcases hfo with ⟨hz, h2⟩ | ⟨hz, f43, f44, foth⟩
        · refine v_iload dX10_readRecord_111 (by rfl) ?_
          refine v_iconst (v := nI 1) dX10_readRecord_113 (by decide) ?_
          refine v_iaddN dX10_readRecord_114 ?_
          refine v_eqi (y := nI (qSt (qCut u q) (c + 1))) (congrArg nI (by omega)) ?_
          refine v_istore dX10_readRecord_115 (by decide) ?_
          refine v_iincN (y := 1) dX10_readRecord_117 (by rfl) (by decide) (by decide) ?_
          refine v_goto (tgt := 77) dX10_readRecord_120 (by decide) ?_
          have hz0 : (cSt u g (qSt (qCut u q) c) (qSt (qCut u q) (c + 1) - 1) w9 c).1 = 0 := hz
          exact ih (d - 1) (by omega) (c + 1) _ v1 _ (by omega) (h2.trans hv2) (rFr_t hv hfr) (hmp hz0) (cI_s hgo hI9 (by omega) hz0) (hrc.trans (hts.1 hz0))
        · refine v_iload dX10_readRecord_111 (by rfl) ?_
          refine v_iconst (v := nI 1) dX10_readRecord_113 (by decide) ?_
          refine v_iaddN dX10_readRecord_114 ?_
          refine v_eqi (y := nI (qSt (qCut u q) (c + 1))) (congrArg nI (by omega)) ?_
          refine v_istore dX10_readRecord_115 (by decide) ?_
          refine v_iincN (y := 1) dX10_readRecord_117 (by rfl) (by decide) (by decide) ?_
          refine v_goto (tgt := 77) dX10_readRecord_120 (by decide) ?_
          obtain ⟨b1, b2, b3⟩ := hts.2 hz
          exact endF hk6 v1 _ _ (c + 1) _ (by omega) (rFr_t hv hfr) hz cSt_9 f43 (by rw [hrc, b3]; exact f44) (fun j a b => (foth j a b).trans (congrFun hv2 j)) (by rw [hrc]; exact b1) (by rw [hrc]; exact b2) rfl
  refine v_aload_n dX10_readRecord_0 rfl (by rfl) ?_
  refine v_getf hE dX10_readRecord_1 fX10_60 mdS_M (by rfl) ?_
  refine v_iconst (v := nI 2) dX10_readRecord_4 (by decide) ?_
  refine m_iald hE (k := 16) dX10_readRecord_5 (by decide) (by decide) rfl (show _ < 4 by omega) (by omega) ?_
  refine v_eqi (y := nI k) hk ?_
  refine v_bipush (v := nI 60) dX10_readRecord_6 (by decide) ?_
  refine v_icmp_neN (tgt := 19) dX10_readRecord_8 (by decide) (by omega) (by omega) (fun c8 => ?_) (fun c8 => ?_)
  · refine v_aload_n dX10_readRecord_19 rfl (by rfl) ?_
    refine v_getf hE dX10_readRecord_20 fX10_63 mdS_M (by rfl) ?_
    refine v_iconst (v := nI 2) dX10_readRecord_23 (by decide) ?_
    refine m_iald hE (k := 17) dX10_readRecord_24 (by decide) (by decide) rfl (show _ < 4 by omega) (by omega) ?_
    refine v_eqi (y := nI n) hn ?_
    refine v_if_neN (tgt := 33) dX10_readRecord_25 (by decide) (by omega) (fun c25 => ?_) (fun c25 => ?_)
    · have hall : (if n = 0 then 8 else 9 + n) ≤ 12 := by split <;> omega
      have hcm12 := qCut_cm9 (u := u) (q := q) hp.2.1 hL hE2
      refine v_bipush (v := nI 9) dX10_readRecord_33 (by decide) ?_
      refine v_aload_n dX10_readRecord_35 rfl (by rfl) ?_
      refine v_getf hE dX10_readRecord_36 fX10_63 mdS_M (by rfl) ?_
      refine v_iconst (v := nI 2) dX10_readRecord_39 (by decide) ?_
      refine m_iald hE (k := 17) dX10_readRecord_40 (by decide) (by decide) rfl (show _ < 4 by omega) (by omega) ?_
      refine v_eqi (y := nI n) hn ?_
      refine v_iaddN dX10_readRecord_41 ?_
      refine v_eqi (y := nI (if n = 0 then 8 else 9 + n)) (by rw [if_neg (show ¬ n = 0 by omega)]) ?_
      refine v_istore_n dX10_readRecord_42 rfl (by decide) ?_
      refine v_aload_n dX10_readRecord_43 rfl (by rfl) ?_
      refine v_iload_n dX10_readRecord_44 rfl (by rfl) ?_
      refine v_iload_n dX10_readRecord_45 rfl (by rfl) ?_
      refine w_callV hE dX10_readRecord_46 kX10_282 mdS_M (by rfl) (by rfl) (sX10_columns hE hp hL (by omega)) rfl (by decide) (by decide) (by exact Nat.le_of_ble_eq_true rfl) (by omega) (by omega) (fun v9 g9 u9 h9 => ?_) (fun _ _ _ h => by cases h.1)
      obtain ⟨hv9, hu9, hg9⟩ := h9
      replace hu9 := hu9.symm
      subst hu9
      subst hg9
      cases hv9
      rw [← (qCut_f (u := u) (v := q) hL).1]
      refine v_iload_n dX10_readRecord_49 rfl (by rfl) ?_
      refine v_icmp_eqN (tgt := 60) dX10_readRecord_50 (by decide) (by omega) (by omega) (fun c50 => ?_) (fun c50 => ?_)
      · refine v_bipush (v := nI 120) dX10_readRecord_60 (by decide) ?_
        refine v_aload_n dX10_readRecord_62 rfl (by rfl) ?_
        refine v_getf hE dX10_readRecord_63 fX10_60 mdS_M (by rfl) ?_
        refine v_iconst (v := nI 2) dX10_readRecord_66 (by decide) ?_
        refine m_iald hE (k := 16) dX10_readRecord_67 (by decide) (by decide) rfl (show _ < 4 by omega) (by omega) ?_
        refine v_eqi (y := nI k) hk ?_
        refine v_iaddN dX10_readRecord_68 ?_
        refine v_istore dX10_readRecord_69 (by decide) ?_
        refine v_iload_n dX10_readRecord_71 rfl (by rfl) ?_
        refine v_istore dX10_readRecord_72 (by decide) ?_
        refine v_iconst (v := nI 0) dX10_readRecord_74 (by decide) ?_
        refine v_istore dX10_readRecord_75 (by decide) ?_
        have hst0 : qSt (qCut u q) 0 = qBg q := (qCut_f (u := u) (v := q) hL).2.2.1
        have hl9 := lp (by omega) c50 (if n = 0 then 8 else 9 + n) 0 w y none (by omega) rfl (rFr_r (s := y.2) hO) ⟨fun h => absurd h (by decide), fun h => absurd h (by decide), fun h => absurd h (by decide), fun h => absurd h (by decide), fun h => absurd h (by decide), fun h => absurd h (by decide), fun h => absurd h (by decide), fun s h => absurd h (by omega)⟩ ⟨hwo, fun h => absurd h (by decide), fun h => absurd h (by decide), fun h => absurd h (by decide)⟩ (by
          unfold qRcd
          rw [if_neg (by omega), if_pos c50]
          rfl)
        rw [hst0] at hl9
        exact hl9
      · refine v_aload_n dX10_readRecord_53 rfl (by rfl) ?_
        refine v_iconst (v := nI 3) dX10_readRecord_54 (by decide) ?_
        refine v_iload_n dX10_readRecord_55 rfl (by rfl) ?_
        refine w_callV hE dX10_readRecord_56 kX10_160 mdS_M (by rfl) (by rfl) (sX10_bad hE) rfl (by decide) (by decide) (by exact Nat.le_of_ble_eq_true rfl) (by omega) (by omega) (fun v9 g9 u9 h9 => ?_) (fun _ _ _ h => by cases h.1)
        obtain ⟨hv9, hu9, hg9⟩ := h9
        replace hu9 := hu9.symm
        subst hu9
        subst hg9
        cases hv9
        rw [mBad_0 hF]
        refine v_ret dX10_readRecord_59 rfl ?_
        have hR : (qRcd u q g n k w) = (false, qFail (qCut u q) 3 (qBg q), w) := by
          unfold qRcd
          rw [if_neg (by omega), if_neg c50]
        rw [hR]
        refine ⟨rfl, rfl, _, rfl, ⟨fun _ _ => rfl, fun _ _ => rfl, hO, fun _ _ => smR_r⟩, Or.inr ⟨rfl, by show 3 ≠ 0; decide, by show 3 < 100; decide, rfl, rfl, fun j a b => (va_up_ne _ _ b).trans (va_up_ne _ _ a)⟩⟩
    · have hall : (if n = 0 then 8 else 9 + n) ≤ 12 := by split <;> omega
      have hcm12 := qCut_cm9 (u := u) (q := q) hp.2.1 hL hE2
      refine v_bipush (v := nI 8) dX10_readRecord_28 (by decide) ?_
      refine v_eqi (y := nI (if n = 0 then 8 else 9 + n)) (by rw [if_pos (show n = 0 by omega)]) ?_
      refine v_goto (tgt := 42) dX10_readRecord_30 (by decide) ?_
      refine v_istore_n dX10_readRecord_42 rfl (by decide) ?_
      refine v_aload_n dX10_readRecord_43 rfl (by rfl) ?_
      refine v_iload_n dX10_readRecord_44 rfl (by rfl) ?_
      refine v_iload_n dX10_readRecord_45 rfl (by rfl) ?_
      refine w_callV hE dX10_readRecord_46 kX10_282 mdS_M (by rfl) (by rfl) (sX10_columns hE hp hL (by omega)) rfl (by decide) (by decide) (by exact Nat.le_of_ble_eq_true rfl) (by omega) (by omega) (fun v9 g9 u9 h9 => ?_) (fun _ _ _ h => by cases h.1)
      obtain ⟨hv9, hu9, hg9⟩ := h9
      replace hu9 := hu9.symm
      subst hu9
      subst hg9
      cases hv9
      rw [← (qCut_f (u := u) (v := q) hL).1]
      refine v_iload_n dX10_readRecord_49 rfl (by rfl) ?_
      refine v_icmp_eqN (tgt := 60) dX10_readRecord_50 (by decide) (by omega) (by omega) (fun c50 => ?_) (fun c50 => ?_)
      · refine v_bipush (v := nI 120) dX10_readRecord_60 (by decide) ?_
        refine v_aload_n dX10_readRecord_62 rfl (by rfl) ?_
        refine v_getf hE dX10_readRecord_63 fX10_60 mdS_M (by rfl) ?_
        refine v_iconst (v := nI 2) dX10_readRecord_66 (by decide) ?_
        refine m_iald hE (k := 16) dX10_readRecord_67 (by decide) (by decide) rfl (show _ < 4 by omega) (by omega) ?_
        refine v_eqi (y := nI k) hk ?_
        refine v_iaddN dX10_readRecord_68 ?_
        refine v_istore dX10_readRecord_69 (by decide) ?_
        refine v_iload_n dX10_readRecord_71 rfl (by rfl) ?_
        refine v_istore dX10_readRecord_72 (by decide) ?_
        refine v_iconst (v := nI 0) dX10_readRecord_74 (by decide) ?_
        refine v_istore dX10_readRecord_75 (by decide) ?_
        have hst0 : qSt (qCut u q) 0 = qBg q := (qCut_f (u := u) (v := q) hL).2.2.1
        have hl9 := lp (by omega) c50 (if n = 0 then 8 else 9 + n) 0 w y none (by omega) rfl (rFr_r (s := y.2) hO) ⟨fun h => absurd h (by decide), fun h => absurd h (by decide), fun h => absurd h (by decide), fun h => absurd h (by decide), fun h => absurd h (by decide), fun h => absurd h (by decide), fun h => absurd h (by decide), fun s h => absurd h (by omega)⟩ ⟨hwo, fun h => absurd h (by decide), fun h => absurd h (by decide), fun h => absurd h (by decide)⟩ (by
          unfold qRcd
          rw [if_neg (by omega), if_pos c50]
          rfl)
        rw [hst0] at hl9
        exact hl9
      · refine v_aload_n dX10_readRecord_53 rfl (by rfl) ?_
        refine v_iconst (v := nI 3) dX10_readRecord_54 (by decide) ?_
        refine v_iload_n dX10_readRecord_55 rfl (by rfl) ?_
        refine w_callV hE dX10_readRecord_56 kX10_160 mdS_M (by rfl) (by rfl) (sX10_bad hE) rfl (by decide) (by decide) (by exact Nat.le_of_ble_eq_true rfl) (by omega) (by omega) (fun v9 g9 u9 h9 => ?_) (fun _ _ _ h => by cases h.1)
        obtain ⟨hv9, hu9, hg9⟩ := h9
        replace hu9 := hu9.symm
        subst hu9
        subst hg9
        cases hv9
        rw [mBad_0 hF]
        refine v_ret dX10_readRecord_59 rfl ?_
        have hR : (qRcd u q g n k w) = (false, qFail (qCut u q) 3 (qBg q), w) := by
          unfold qRcd
          rw [if_neg (by omega), if_neg c50]
        rw [hR]
        refine ⟨rfl, rfl, _, rfl, ⟨fun _ _ => rfl, fun _ _ => rfl, hO, fun _ _ => smR_r⟩, Or.inr ⟨rfl, by show 3 ≠ 0; decide, by show 3 < 100; decide, rfl, rfl, fun j a b => (va_up_ne _ _ b).trans (va_up_ne _ _ a)⟩⟩
  · refine v_aload_n dX10_readRecord_11 rfl (by rfl) ?_
    refine v_bipush (v := nI 6) dX10_readRecord_12 (by decide) ?_
    refine v_iload_n dX10_readRecord_14 rfl (by rfl) ?_
    refine w_callV hE dX10_readRecord_15 kX10_160 mdS_M (by rfl) (by rfl) (sX10_bad hE) rfl (by decide) (by decide) (by exact Nat.le_of_ble_eq_true rfl) (by omega) (by omega) (fun v9 g9 u9 h9 => ?_) (fun _ _ _ h => by cases h.1)
    obtain ⟨hv9, hu9, hg9⟩ := h9
    replace hu9 := hu9.symm
    subst hu9
    subst hg9
    cases hv9
    rw [mBad_0 hF]
    refine v_ret dX10_readRecord_18 rfl ?_
    have hR : (qRcd u q g n k w) = (false, qFail q 6 (qBg q), w) := if_pos (by omega)
    rw [hR]
    refine ⟨rfl, rfl, _, rfl, ⟨fun _ _ => rfl, fun _ _ => rfl, hO, fun _ _ => smR_r⟩, Or.inr ⟨rfl, by show 6 ≠ 0; decide, by show 6 < 100; decide, rfl, rfl, fun j a b => (va_up_ne _ _ b).trans (va_up_ne _ _ a)⟩⟩
