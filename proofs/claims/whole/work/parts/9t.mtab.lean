/-! reading a table -/
/-- only table 2 has changed -/
def rTb (y z : mV) : Prop := (∀ k, k < 16 ∨ 31 < k → z.1 k = y.1 k) ∧ (∀ i, i ≠ 2 → z.1 16 i = y.1 16 i ∧ z.1 17 i = y.1 17 i) ∧ (∀ i, i < 6 → z.1 19 i = y.1 19 i) ∧ (∀ i, i < 120 → z.1 18 i = y.1 18 i) ∧ aNw z.1 ∧ ∀ r, r < 120 → smR y z r
theorem rTb_r {y : mV} {s : Nat → Int32} (h : aNw y.1) : rTb y (y.1, s) := ⟨fun _ _ => rfl, fun _ _ => ⟨rfl, rfl⟩, fun _ _ => rfl, fun _ _ => rfl, h, fun _ _ => smR_r⟩
theorem rTb_16 {y v : mV} {x : Int32} {s : Nat → Int32} (h : rTb y v) : rTb y (va_up v.1 16 (upd (v.1 16) 2 x), s) := ⟨fun k hk => (va_up_ne _ _ (by omega)).trans (h.1 k hk), fun i hi => ⟨by
  show upd (v.1 16) 2 x i = _
  rw [updN hi]
  exact (h.2.1 i hi).1, (h.2.1 i hi).2⟩, h.2.2.1, h.2.2.2.1, aNw_i h.2.2.2.2.1 rfl, fun r hr => smR_t (h.2.2.2.2.2 r hr) ⟨rfl, rfl, rfl, rfl, rfl, rfl, fun _ _ => rfl, fun _ _ => rfl, fun _ _ _ _ => rfl, fun _ _ => ⟨rfl, rfl, fun _ _ => rfl⟩⟩⟩
theorem rTb_17 {y v : mV} {x : Int32} {s : Nat → Int32} (h : rTb y v) : rTb y (va_up v.1 17 (upd (v.1 17) 2 x), s) := ⟨fun k hk => (va_up_ne _ _ (by omega)).trans (h.1 k hk), fun i hi => ⟨(h.2.1 i hi).1, by
  show upd (v.1 17) 2 x i = _
  rw [updN hi]
  exact (h.2.1 i hi).2⟩, h.2.2.1, h.2.2.2.1, aNw_i h.2.2.2.2.1 rfl, fun r hr => smR_t (h.2.2.2.2.2 r hr) ⟨rfl, rfl, rfl, rfl, rfl, rfl, fun _ _ => rfl, fun _ _ => rfl, fun _ _ _ _ => rfl, fun _ _ => ⟨rfl, rfl, fun _ _ => rfl⟩⟩⟩
theorem rTb_s {y v : mV} {s : Nat → Int32} (h : rTb y v) : rTb y (v.1, s) := h
theorem rTb_h {y v z : mV} (h : rTb y v) (h2 : rHd v z) : rTb y z := by
  obtain ⟨a1, a2, a3, a4, a5, a6⟩ := h
  obtain ⟨b0, b1, b2, b3, b4, b5⟩ := h2
  refine ⟨fun k hk => (b1 k (by omega) (by omega) (by omega)).trans (a1 k hk), fun i hi => ⟨(congrFun (b1 16 (by decide) (by decide) (by decide)) i).trans (a2 i hi).1, (b2 i hi).trans (a2 i hi).2⟩, fun i hi => (b3 i (by omega)).trans (a3 i hi), fun i hi => (b4 i (by omega)).trans (a4 i hi), b5, fun r hr => smR_t (a6 r hr) ?_⟩
  have g : ∀ k, k ≠ 17 → k ≠ 18 → k ≠ 19 → ∀ i, z.1 k i = v.1 k i := fun k x1 x2 x3 i => congrFun (b1 k x1 x2 x3) i
  exact ⟨g 20 (by decide) (by decide) (by decide) _, g 21 (by decide) (by decide) (by decide) _, g 23 (by decide) (by decide) (by decide) _, g 24 (by decide) (by decide) (by decide) _, g 27 (by decide) (by decide) (by decide) _, g 28 (by decide) (by decide) (by decide) _, fun k _ => g 22 (by decide) (by decide) (by decide) _, fun k _ => g 26 (by decide) (by decide) (by decide) _, fun q k _ _ => g 25 (by decide) (by decide) (by decide) _, fun t _ => ⟨g 30 (by decide) (by decide) (by decide) _, g 31 (by decide) (by decide) (by decide) _, fun c _ => g 29 (by decide) (by decide) (by decide) _⟩⟩
theorem rTb_d {y v z : mV} {k : Nat} (h : rTb y v) (h2 : rRd k v z) : rTb y z := ⟨fun j hj => (h2.1 j (by omega)).trans (h.1 j hj), fun i hi => ⟨(h2.2.1 i hi).trans (h.2.1 i hi).1, (congrFun (h2.1 17 (by omega)) i).trans (h.2.1 i hi).2⟩, fun i hi => (congrFun (h2.1 19 (by omega)) i).trans (h.2.2.1 i hi), fun i hi => (congrFun (h2.1 18 (by omega)) i).trans (h.2.2.2.1 i hi), h2.2.2.1, fun r hr => smR_t (h.2.2.2.2.2 r hr) (h2.2.2.2 r (by omega))⟩
theorem nmH_d {v z : mV} {n : nV} {s k : Nat} (h : nmH v n s) (h2 : rRd k v z) : nmH z n s := by
  obtain ⟨a1, a2, a3, a4⟩ := h
  refine ⟨a1, a2, by rw [h2.1 17 (by omega)]; exact a3, fun t ht => ?_⟩
  rw [h2.1 19 (by omega), h2.1 18 (by omega)]
  exact a4 t ht
theorem qRcd_v {u : tS} {q : qV} {g : gV} {n k : Nat} {w : eV} (h : (qRcd u q g n k w).1 = true) : (qRcd u q g n k w).2.1 = qCut u q := by
  unfold qRcd at h ⊢
  by_cases h1 : k = 60
  · rw [if_pos h1] at h
    exact Bool.noConfusion h
  · rw [if_neg h1] at h ⊢
    by_cases h2 : qCm (qCut u q) = (if n = 0 then 8 else 9 + n)
    · rw [if_pos h2] at h ⊢
      unfold qFin at h ⊢
      by_cases h3 : (qE0 u (qCut u q) g n w).1 = true
      · rw [if_pos h3] at h ⊢
        exact qAll_v _ _ _ h
      · rw [if_neg h3] at h
        exact absurd h h3
    · rw [if_neg h2] at h
      exact Bool.noConfusion h
theorem tBeg_4 {y : mV} {u : tS} {p : Nat} (h : mTp y u) (hp : p + 1 < 2 ^ 31) : tBeg u p tx4 = true ↔ mOct u p = nI 35 ∧ mOct u (p + 1) = nI 35 := by
  have hd : tBeg u p tx4 = (decide (p + 2 ≤ u.1) && (decide (u.2.1 (p + 0) = nI 35) && (decide (u.2.1 (p + 1) = nI 35) && true))) := rfl
  rw [hd]
  constructor
  · intro e
    simp only [Bool.and_eq_true, decide_eq_true_eq, and_true, Nat.add_zero] at e
    obtain ⟨e1, e2, e3⟩ := e
    exact ⟨(mOct_in (by omega) h.2.1).trans e2, (mOct_in (by omega) h.2.1).trans e3⟩
  · rintro ⟨e1, e2⟩
    have hlt : p + 1 < u.1 := by
      by_cases q : p + 1 < u.1
      · exact q
      · have := (mTp_o h (p + 1) (by omega)).mpr (by omega)
        rw [e2] at this
        exact absurd this (by decide)
    rw [mOct_in (by omega) h.2.1] at e1
    rw [mOct_in hlt h.2.1] at e2
    simp only [Bool.and_eq_true, decide_eq_true_eq, and_true, Nat.add_zero]
    exact ⟨by omega, e1, e2⟩
set_option maxRecDepth 100000 in
set_option maxHeartbeats 4000000 in
/-- model: readTable -/
theorem sX10_readTable {E : eN} (hE : eOk E) {f : aH} {t : Nat} {M : Nat} {y : mV} {u : tS} {g : gV} {z : sV} {W : Nat → eV} {Xs : Nat → Prop} (hp : mTp y u) (hO : aNw y.1) (hF : y.2 43 = nI 0) (hg : mGn y g) (hgo : gOk g) (hzX : ∀ k, k < 60 → Xs (z.1 k)) (hinj : ∀ a b, a < 60 → b < 60 → z.1 a = z.1 b → a = b) (hW : ∀ x, Xs x → enOk (W x)) (hz3 : ∀ k, z.2.1.2.2 k ≤ 20) : mT E mX10_readTable 0 0 [.ref M] (mdS f M y) t (fun o f' t' => o = .inl none ∧ t' = t ∧ ∃ y', f' = mdS f M y' ∧ rTb y y' ∧ (((qRun u g z W).1 = true ∧ y'.2 = y.2 ∧ y'.1 16 2 = nI (qRun u g z W).2.2.2.2.2 ∧ (qRun u g z W).2.2.2.2.2 ≤ 60 ∧ nmH y' (qRun u g z W).2.2.2.2.1 (qRun u g z W).2.2.2.2.1.1 ∧ ∀ k, k < (qRun u g z W).2.2.2.2.2 → mE y' (120 + k) ((qRun u g z W).2.2.1 (z.1 k)) (qRun u g z W).2.2.2.2.1.1) ∨ ((qRun u g z W).1 = false ∧ qFa (qRun u g z W).2.1 ≠ 0 ∧ qFa (qRun u g z W).2.1 < 100 ∧ y'.2 43 = nI (qFa (qRun u g z W).2.1) ∧ y'.2 44 = nI (qFp (qRun u g z W).2.1) ∧ ∀ j, j ≠ 43 → j ≠ 44 → y'.2 j = y.2 j))) := by
  refine mT_of (n := 3) (lo := [some (.ref M), none, none, none]) (by decide) (by exact Nat.le_of_ble_eq_true rfl) rfl rfl ?_
  have hu8 := hp.2.1
  have endF : ∀ (v : mV) (F : Nat) (z1 z2 z3 : Option Value), rTb y v → F ≠ 0 → F < 100 → v.2 43 = nI F → v.2 44 = nI (qFp (qRun u g z W).2.1) → (∀ j, j ≠ 43 → j ≠ 44 → v.2 j = y.2 j) → (qRun u g z W).1 = false → qFa (qRun u g z W).2.1 = F → V E mX10_readTable 0 0 (fun o f' t' => o = .inl none ∧ t' = t ∧ ∃ y', f' = mdS f M y' ∧ rTb y y' ∧ (((qRun u g z W).1 = true ∧ y'.2 = y.2 ∧ y'.1 16 2 = nI (qRun u g z W).2.2.2.2.2 ∧ (qRun u g z W).2.2.2.2.2 ≤ 60 ∧ nmH y' (qRun u g z W).2.2.2.2.1 (qRun u g z W).2.2.2.2.1.1 ∧ ∀ k, k < (qRun u g z W).2.2.2.2.2 → mE y' (120 + k) ((qRun u g z W).2.2.1 (z.1 k)) (qRun u g z W).2.2.2.2.1.1) ∨ ((qRun u g z W).1 = false ∧ qFa (qRun u g z W).2.1 ≠ 0 ∧ qFa (qRun u g z W).2.1 < 100 ∧ y'.2 43 = nI (qFa (qRun u g z W).2.1) ∧ y'.2 44 = nI (qFp (qRun u g z W).2.1) ∧ ∀ j, j ≠ 43 → j ≠ 44 → y'.2 j = y.2 j))) 127 [some (.ref M), z1, z2, z3] [] (mdS f M v) t 0 0 := by
    intro v F z1 z2 z3 hv hF0 hF9 h43 h44 hoth hr1 hr2
    refine v_aload_n dX10_readTable_127 rfl (by rfl) ?_
    refine v_getf hE dX10_readTable_128 fX10_147 mdS_M (by rfl) ?_
    refine v_eqi (y := nI F) h43 ?_
    refine v_if_neN (tgt := 169) dX10_readTable_131 (by decide) (by omega) (fun c131 => ?_) (fun c131 => ?_)
    · refine v_ret dX10_readTable_169 rfl ?_
      exact ⟨rfl, rfl, v, rfl, hv, Or.inr ⟨hr1, by rw [hr2]; exact hF0, by rw [hr2]; exact hF9, by rw [hr2]; exact h43, h44, hoth⟩⟩
    · exact absurd c131 (by omega)
  have endG : ∀ (v : mV) (F : Nat) (z1 z2 z3 : Option Value), rTb y v → F ≠ 0 → F < 100 → v.2 43 = nI F → v.2 44 = nI (qFp (qRun u g z W).2.1) → (∀ j, j ≠ 43 → j ≠ 44 → v.2 j = y.2 j) → (qRun u g z W).1 = false → qFa (qRun u g z W).2.1 = F → V E mX10_readTable 0 0 (fun o f' t' => o = .inl none ∧ t' = t ∧ ∃ y', f' = mdS f M y' ∧ rTb y y' ∧ (((qRun u g z W).1 = true ∧ y'.2 = y.2 ∧ y'.1 16 2 = nI (qRun u g z W).2.2.2.2.2 ∧ (qRun u g z W).2.2.2.2.2 ≤ 60 ∧ nmH y' (qRun u g z W).2.2.2.2.1 (qRun u g z W).2.2.2.2.1.1 ∧ ∀ k, k < (qRun u g z W).2.2.2.2.2 → mE y' (120 + k) ((qRun u g z W).2.2.1 (z.1 k)) (qRun u g z W).2.2.2.2.1.1) ∨ ((qRun u g z W).1 = false ∧ qFa (qRun u g z W).2.1 ≠ 0 ∧ qFa (qRun u g z W).2.1 < 100 ∧ y'.2 43 = nI (qFa (qRun u g z W).2.1) ∧ y'.2 44 = nI (qFp (qRun u g z W).2.1) ∧ ∀ j, j ≠ 43 → j ≠ 44 → y'.2 j = y.2 j))) 49 [some (.ref M), z1, z2, z3] [] (mdS f M v) t 0 0 := by
    intro v F z1 z2 z3 hv hF0 hF9 h43 h44 hoth hr1 hr2
    refine v_aload_n dX10_readTable_49 rfl (by rfl) ?_
    refine v_getf hE dX10_readTable_50 fX10_147 mdS_M (by rfl) ?_
    refine v_eqi (y := nI F) h43 ?_
    refine v_if_neN (tgt := 127) dX10_readTable_53 (by decide) (by omega) (fun c53 => ?_) (fun c53 => ?_)
    · exact endF v F _ _ _ hv hF0 hF9 h43 h44 hoth hr1 hr2
    · exact absurd c53 (by omega)
  have lpR : ∀ (n : Nat) (nn : nV), n ≤ 3 → nn.1 = n → ∀ (d k : Nat) (qv : qV) (W2 : Nat → eV) (v : mV) (z1 z3 : Option Value) (z9 : Nat), k + d = 61 → k ≤ 60 → qNx qv ≤ u.1 → v.2 = y.2 → rTb y v → v.1 16 2 = nI k → nmH v nn n → (∀ x, Xs x → enOk (W2 x)) → (∀ l, l < k → mE v (120 + l) (W2 (z.1 l)) n) → (qRun u g z W) = ((qRunL u g n (if n = 0 then 8 else 9 + n) z.1 d k qv W2).1, (qRunL u g n (if n = 0 then 8 else 9 + n) z.1 d k qv W2).2.1, (qRunL u g n (if n = 0 then 8 else 9 + n) z.1 d k qv W2).2.2.1, (z.1, nn, (qRunL u g n (if n = 0 then 8 else 9 + n) z.1 d k qv W2).2.2.2)) → V E mX10_readTable 0 0 (fun o f' t' => o = .inl none ∧ t' = t ∧ ∃ y', f' = mdS f M y' ∧ rTb y y' ∧ (((qRun u g z W).1 = true ∧ y'.2 = y.2 ∧ y'.1 16 2 = nI (qRun u g z W).2.2.2.2.2 ∧ (qRun u g z W).2.2.2.2.2 ≤ 60 ∧ nmH y' (qRun u g z W).2.2.2.2.1 (qRun u g z W).2.2.2.2.1.1 ∧ ∀ k, k < (qRun u g z W).2.2.2.2.2 → mE y' (120 + k) ((qRun u g z W).2.2.1 (z.1 k)) (qRun u g z W).2.2.2.2.1.1) ∨ ((qRun u g z W).1 = false ∧ qFa (qRun u g z W).2.1 ≠ 0 ∧ qFa (qRun u g z W).2.1 < 100 ∧ y'.2 43 = nI (qFa (qRun u g z W).2.1) ∧ y'.2 44 = nI (qFp (qRun u g z W).2.1) ∧ ∀ j, j ≠ 43 → j ≠ 44 → y'.2 j = y.2 j))) 127 [some (.ref M), z1, some (.int (nI (qNx qv))), z3] [] (mdS f M v) t 0 0 := by
    intro n nn hn3 hnn d
    induction d using Nat.strongRecOn with
    | _ d ih =>
    intro k qv W2 v z1 z3 z9 hd hk60 hnx hv2 hv h16 hnm hWo hrec hr
    have hpv : mTp v u := ⟨by rw [hv2]; exact hp.1, hp.2.1, by rw [hv.1 1 (by omega)]; exact hp.2.2⟩
    have hFv : v.2 43 = nI 0 := by rw [hv2]; exact hF
    have hgv : mGn v g := by
      obtain ⟨g1, g2, g3⟩ := hg
      refine ⟨by rw [hv2]; exact g1, fun s' hs' => ?_, fun k hk => ?_⟩
      · rw [hv.1 3 (by omega), hv.1 2 (by omega), hv.1 5 (by omega), hv.1 6 (by omega), hv.1 7 (by omega), hv.1 8 (by omega)]
        exact g2 s' hs'
      · rw [hv.1 4 (by omega)]
        exact g3 k hk
    refine v_aload_n dX10_readTable_127 rfl (by rfl) ?_
    refine v_getf hE dX10_readTable_128 fX10_147 mdS_M (by rfl) ?_
    refine v_eqi (y := nI 0) hFv ?_
    refine v_if_neN (tgt := 169) dX10_readTable_131 (by decide) (by omega) (fun c131 => ?_) (fun c131 => ?_)
    · exact absurd rfl c131
    · refine v_aload_n dX10_readTable_134 rfl (by rfl) ?_
      refine v_iload_n dX10_readTable_135 rfl (by rfl) ?_
      refine w_callV hE dX10_readTable_136 kX10_156 mdS_M (by rfl) (by rfl) (sX10_at hE (y := v) (u := u) hpv (by omega)) rfl (by decide) (by decide) (by exact Nat.le_of_ble_eq_true rfl) (by omega) (by omega) (fun v9 g9 u9 h9 => ?_) (fun _ _ _ h => by cases h.1)
      obtain ⟨hv9, hu9, hg9⟩ := h9
      replace hu9 := hu9.symm
      subst hu9
      subst hg9
      cases hv9
      refine v_iconst (v := (-1)) dX10_readTable_139 (by decide) ?_
      refine v_icmp_eq (tgt := 169) dX10_readTable_140 (by decide) (fun c140 => ?_) (fun c140 => ?_)
      · refine v_ret dX10_readTable_169 rfl ?_
        have hle := (mTp_o hpv (qNx qv) (by omega)).mp c140
        obtain ⟨d', rfl⟩ : ∃ d', d = d' + 1 := ⟨d - 1, by omega⟩
        have hX : qRunL u g n (if n = 0 then 8 else 9 + n) z.1 (d' + 1) k qv W2 = (true, qv, W2, k) := if_pos hle
        rw [hX] at hr
        refine ⟨rfl, rfl, v, rfl, hv, Or.inl ?_⟩
        rw [hr]
        refine ⟨rfl, hv2, h16, by show k ≤ 60; omega, ?_, fun l hl => ?_⟩
        · show nmH v nn nn.1
          rw [hnn]
          exact hnm
        · show mE v (120 + l) (W2 (z.1 l)) nn.1
          rw [hnn]
          exact hrec l hl
      · have hlt : qNx qv < u.1 := by
          by_cases e : qNx qv < u.1
          · exact e
          · exact absurd ((mTp_o hpv (qNx qv) (by omega)).mpr (by omega)) c140
        obtain ⟨d', rfl⟩ : ∃ d', d = d' + 1 := ⟨d - 1, by omega⟩
        obtain ⟨hl1, hl2⟩ := qLine_m (v := qv) hp.2.1 (by omega)
        have hXs : qRunL u g n (if n = 0 then 8 else 9 + n) z.1 (d' + 1) k qv W2 = if (qOne u g n (if n = 0 then 8 else 9 + n) k qv (W2 (z.1 k))).1 = true then qRunL u g n (if n = 0 then 8 else 9 + n) z.1 d' (k + 1) (qOne u g n (if n = 0 then 8 else 9 + n) k qv (W2 (z.1 k))).2.1 (va_up W2 (z.1 k) (qOne u g n (if n = 0 then 8 else 9 + n) k qv (W2 (z.1 k))).2.2) else (false, (qOne u g n (if n = 0 then 8 else 9 + n) k qv (W2 (z.1 k))).2.1, va_up W2 (z.1 k) (qOne u g n (if n = 0 then 8 else 9 + n) k qv (W2 (z.1 k))).2.2, k) := if_neg (by omega)
        rw [hXs] at hr
        refine v_aload_n dX10_readTable_143 rfl (by rfl) ?_
        refine v_iload_n dX10_readTable_144 rfl (by rfl) ?_
        refine w_callV hE dX10_readTable_145 kX10_291 mdS_M (by rfl) (by rfl) (sX10_needLine hE (y := v) (u := u) (i := qNx qv) hpv (by omega)) rfl (by decide) (by decide) (by exact Nat.le_of_ble_eq_true rfl) (by omega) (by omega) (fun v9 g9 u9 h9 => ?_) (fun _ _ _ h => by cases h.1)
        obtain ⟨hv9, hu9, hg9⟩ := h9
        replace hu9 := hu9.symm
        subst hu9
        subst hg9
        cases hv9
        by_cases hml : (mLE u (u.1 - (qNx qv)) (qNx qv)) < u.1
        · have e9 : mNL v u (qNx qv) = v := if_pos hml
          rw [e9]
          have hql := hl1 hml
          have h1 : qOne u g n (if n = 0 then 8 else 9 + n) k qv (W2 (z.1 k)) = qRcd u (uNx (uEn (uBg qv (qNx qv)) (nI (mLE u (u.1 - (qNx qv)) (qNx qv)))) ((mLE u (u.1 - (qNx qv)) (qNx qv)) + 1)) g n k (W2 (z.1 k)) := by
            unfold qOne
            rw [hql, if_pos rfl]
            rfl
          have hE9 : qE (uNx (uEn (uBg qv (qNx qv)) (nI (mLE u (u.1 - (qNx qv)) (qNx qv)))) ((mLE u (u.1 - (qNx qv)) (qNx qv)) + 1)) = (mLE u (u.1 - (qNx qv)) (qNx qv)) := by
            show (nI (mLE u (u.1 - (qNx qv)) (qNx qv))).toNatClampNeg = _
            rw [nI_clamp (n := (mLE u (u.1 - (qNx qv)) (qNx qv))) (by omega)]
          have hbe : qBg (uNx (uEn (uBg qv (qNx qv)) (nI (mLE u (u.1 - (qNx qv)) (qNx qv)))) ((mLE u (u.1 - (qNx qv)) (qNx qv)) + 1)) ≤ qE (uNx (uEn (uBg qv (qNx qv)) (nI (mLE u (u.1 - (qNx qv)) (qNx qv)))) ((mLE u (u.1 - (qNx qv)) (qNx qv)) + 1)) := by
            rw [hE9]
            exact (mLE_le _ _).1
          have hel : qE (uNx (uEn (uBg qv (qNx qv)) (nI (mLE u (u.1 - (qNx qv)) (qNx qv)))) ((mLE u (u.1 - (qNx qv)) (qNx qv)) + 1)) < u.1 := by
            rw [hE9]
            exact hml
          have hw8 : enOk (if k = 60 then eZ else W2 (z.1 k)) := by
            split
            · exact ⟨by decide, fun _ => Nat.zero_le _, fun _ => Nat.zero_le _, Nat.zero_le _⟩
            · exact hWo _ (hzX k (by omega))
          have hrc := sX10_readRecord hE (y := v) (u := u) (g := g) (q := (uNx (uEn (uBg qv (qNx qv)) (nI (mLE u (u.1 - (qNx qv)) (qNx qv)))) ((mLE u (u.1 - (qNx qv)) (qNx qv)) + 1))) (n := n) (k := k) (w := (if k = 60 then eZ else W2 (z.1 k))) (f := f) (t := t) (M := M) hpv hv.2.2.2.2.1 hFv hgv hgo h16 hk60 (hnm.2.2.1) hn3 hbe hel hw8
          rw [hE9] at hrc
          rw [show qBg (uNx (uEn (uBg qv (qNx qv)) (nI (mLE u (u.1 - (qNx qv)) (qNx qv)))) ((mLE u (u.1 - (qNx qv)) (qNx qv)) + 1)) = qNx qv from rfl] at hrc
          refine v_istore_n dX10_readTable_148 rfl (by decide) ?_
          refine v_aload_n dX10_readTable_149 rfl (by rfl) ?_
          refine v_getf hE dX10_readTable_150 fX10_147 mdS_M (by rfl) ?_
          refine v_eqi (y := nI 0) hFv ?_
          refine v_if_neN (tgt := 162) dX10_readTable_153 (by decide) (by omega) (fun c153 => ?_) (fun c153 => ?_)
          · exact absurd rfl c153
          · refine v_aload_n dX10_readTable_156 rfl (by rfl) ?_
            refine v_iload_n dX10_readTable_157 rfl (by rfl) ?_
            refine v_iload_n dX10_readTable_158 rfl (by rfl) ?_
            refine w_callV hE dX10_readTable_159 kX10_297 mdS_M (by rfl) (by rfl) (hrc) rfl (by decide) (by decide) (by exact Nat.le_of_ble_eq_true rfl) (by omega) (by omega) (fun v9 g9 u9 h9 => ?_) (fun _ _ _ h => by cases h.1)
            obtain ⟨hv9, hu9, v1, hg9, hrd, hcase⟩ := h9
            replace hu9 := hu9.symm
            subst hu9
            subst hg9
            cases hv9
            rcases hcase with ⟨r1, r2, r3, r4, r5⟩ | ⟨s1, s2, s3, s4, s5, s6⟩
            · refine v_iload_n dX10_readTable_162 rfl (by rfl) ?_
              refine v_iconst (v := nI 1) dX10_readTable_163 (by decide) ?_
              refine v_iaddN dX10_readTable_164 ?_
              refine v_istore_n dX10_readTable_165 rfl (by decide) ?_
              refine v_goto (tgt := 127) dX10_readTable_166 (by decide) ?_
              have hk6 : k ≠ 60 := fun e => by
                have : (qRcd u (uNx (uEn (uBg qv (qNx qv)) (nI (mLE u (u.1 - (qNx qv)) (qNx qv)))) ((mLE u (u.1 - (qNx qv)) (qNx qv)) + 1)) g n k (if k = 60 then eZ else W2 (z.1 k))) = (false, qFail (uNx (uEn (uBg qv (qNx qv)) (nI (mLE u (u.1 - (qNx qv)) (qNx qv)))) ((mLE u (u.1 - (qNx qv)) (qNx qv)) + 1)) 6 (qBg (uNx (uEn (uBg qv (qNx qv)) (nI (mLE u (u.1 - (qNx qv)) (qNx qv)))) ((mLE u (u.1 - (qNx qv)) (qNx qv)) + 1))), (if k = 60 then eZ else W2 (z.1 k))) := if_pos e
                rw [this] at r1
                exact Bool.noConfusion r1
              have hw9 : (if k = 60 then eZ else W2 (z.1 k)) = W2 (z.1 k) := if_neg hk6
              rw [hw9] at r1 r4 r5
              have hv9 : (qRcd u (uNx (uEn (uBg qv (qNx qv)) (nI (mLE u (u.1 - (qNx qv)) (qNx qv)))) ((mLE u (u.1 - (qNx qv)) (qNx qv)) + 1)) g n k (W2 (z.1 k))).2.1 = qCut u (uNx (uEn (uBg qv (qNx qv)) (nI (mLE u (u.1 - (qNx qv)) (qNx qv)))) ((mLE u (u.1 - (qNx qv)) (qNx qv)) + 1)) := qRcd_v r1
              rw [h1, if_pos r1] at hr
              refine ih (d' + 1 - 1) (by omega) (k + 1) (qCut u (uNx (uEn (uBg qv (qNx qv)) (nI (mLE u (u.1 - (qNx qv)) (qNx qv)))) ((mLE u (u.1 - (qNx qv)) (qNx qv)) + 1))) (va_up W2 (z.1 k) (qRcd u (uNx (uEn (uBg qv (qNx qv)) (nI (mLE u (u.1 - (qNx qv)) (qNx qv)))) ((mLE u (u.1 - (qNx qv)) (qNx qv)) + 1)) g n k (W2 (z.1 k))).2.2) v1 _ _ 0 (by omega) (by omega) (Nat.succ_le_of_lt hml) (r2.trans hv2) (rTb_d hv hrd) r3 (nmH_d hnm hrd) (fun x hx => ?_) (fun l hl => ?_) (by rw [hv9] at hr; exact hr)
              · by_cases e : x = z.1 k
                · rw [e, va_up_self]
                  exact r5.1
                · rw [va_up_ne _ _ e]
                  exact hWo x hx
              · by_cases e : l = k
                · subst e
                  rw [va_up_self]
                  exact r4
                · rw [va_up_ne _ _ (fun q => e (hinj l k (by omega) (by omega) q))]
                  exact smR_E (hrd.2.2.2 _ (by omega)) (hrec l (by omega)) (hWo _ (hzX l (by omega))) hn3
            · refine v_iload_n dX10_readTable_162 rfl (by rfl) ?_
              refine v_iconst (v := nI 1) dX10_readTable_163 (by decide) ?_
              refine v_iaddN dX10_readTable_164 ?_
              refine v_istore_n dX10_readTable_165 rfl (by decide) ?_
              refine v_goto (tgt := 127) dX10_readTable_166 (by decide) ?_
              have h2 : (qOne u g n (if n = 0 then 8 else 9 + n) k qv (W2 (z.1 k))).1 = false ∧ qFa (qOne u g n (if n = 0 then 8 else 9 + n) k qv (W2 (z.1 k))).2.1 = qFa (qRcd u (uNx (uEn (uBg qv (qNx qv)) (nI (mLE u (u.1 - (qNx qv)) (qNx qv)))) ((mLE u (u.1 - (qNx qv)) (qNx qv)) + 1)) g n k (if k = 60 then eZ else W2 (z.1 k))).2.1 ∧ qFp (qOne u g n (if n = 0 then 8 else 9 + n) k qv (W2 (z.1 k))).2.1 = qFp (qRcd u (uNx (uEn (uBg qv (qNx qv)) (nI (mLE u (u.1 - (qNx qv)) (qNx qv)))) ((mLE u (u.1 - (qNx qv)) (qNx qv)) + 1)) g n k (if k = 60 then eZ else W2 (z.1 k))).2.1 := by
                rw [h1]
                by_cases e : k = 60
                · have e1 : (qRcd u (uNx (uEn (uBg qv (qNx qv)) (nI (mLE u (u.1 - (qNx qv)) (qNx qv)))) ((mLE u (u.1 - (qNx qv)) (qNx qv)) + 1)) g n k (if k = 60 then eZ else W2 (z.1 k))) = (false, qFail (uNx (uEn (uBg qv (qNx qv)) (nI (mLE u (u.1 - (qNx qv)) (qNx qv)))) ((mLE u (u.1 - (qNx qv)) (qNx qv)) + 1)) 6 (qBg (uNx (uEn (uBg qv (qNx qv)) (nI (mLE u (u.1 - (qNx qv)) (qNx qv)))) ((mLE u (u.1 - (qNx qv)) (qNx qv)) + 1))), (if k = 60 then eZ else W2 (z.1 k))) := if_pos e
                  have e2 : qRcd u (uNx (uEn (uBg qv (qNx qv)) (nI (mLE u (u.1 - (qNx qv)) (qNx qv)))) ((mLE u (u.1 - (qNx qv)) (qNx qv)) + 1)) g n k (W2 (z.1 k)) = (false, qFail (uNx (uEn (uBg qv (qNx qv)) (nI (mLE u (u.1 - (qNx qv)) (qNx qv)))) ((mLE u (u.1 - (qNx qv)) (qNx qv)) + 1)) 6 (qBg (uNx (uEn (uBg qv (qNx qv)) (nI (mLE u (u.1 - (qNx qv)) (qNx qv)))) ((mLE u (u.1 - (qNx qv)) (qNx qv)) + 1))), W2 (z.1 k)) := if_pos e
                  rw [e1, e2]
                  exact ⟨rfl, rfl, rfl⟩
                · rw [show (if k = 60 then eZ else W2 (z.1 k)) = W2 (z.1 k) from if_neg e] at s1 ⊢
                  exact ⟨s1, rfl, rfl⟩
              obtain ⟨t1, t2, t3⟩ := h2
              rw [if_neg (by rw [t1]; decide)] at hr
              exact endF v1 (qFa (qRcd u (uNx (uEn (uBg qv (qNx qv)) (nI (mLE u (u.1 - (qNx qv)) (qNx qv)))) ((mLE u (u.1 - (qNx qv)) (qNx qv)) + 1)) g n k (if k = 60 then eZ else W2 (z.1 k))).2.1) _ _ _ (rTb_d hv hrd) s2 s3 s4 (by rw [hr]; show _ = nI (qFp (qOne u g n (if n = 0 then 8 else 9 + n) k qv (W2 (z.1 k))).2.1); rw [t3]; exact s5) (fun j a b => (s6 j a b).trans (congrFun hv2 j)) (by rw [hr]) (by rw [hr]; exact t2)
        · have e9 : mNL v u (qNx qv) = (v.1, va_up (va_up v.2 43 (nI 1)) 44 (nI u.1)) := (if_neg hml).trans (mBad_0 hFv)
          rw [e9]
          refine v_istore_n dX10_readTable_148 rfl (by decide) ?_
          refine v_aload_n dX10_readTable_149 rfl (by rfl) ?_
          refine v_getf hE dX10_readTable_150 fX10_147 mdS_M (by rfl) ?_
          refine v_eqi (y := nI 1) rfl ?_
          refine v_if_neN (tgt := 162) dX10_readTable_153 (by decide) (by omega) (fun c153 => ?_) (fun c153 => ?_)
          · refine v_iload_n dX10_readTable_162 rfl (by rfl) ?_
            refine v_iconst (v := nI 1) dX10_readTable_163 (by decide) ?_
            refine v_iaddN dX10_readTable_164 ?_
            refine v_istore_n dX10_readTable_165 rfl (by decide) ?_
            refine v_goto (tgt := 127) dX10_readTable_166 (by decide) ?_
            obtain ⟨l1, l2, l3⟩ := hl2 hml
            have h1 : qOne u g n (if n = 0 then 8 else 9 + n) k qv (W2 (z.1 k)) = (false, (qLine u qv).2, W2 (z.1 k)) := if_neg (by rw [l1]; decide)
            rw [h1, if_neg (fun z => Bool.noConfusion z)] at hr
            refine endF (v.1, va_up (va_up v.2 43 (nI 1)) 44 (nI u.1)) 1 _ _ _ (rTb_s hv) (by decide) (by decide) rfl ?_ (fun j a b => ((va_up_ne _ _ b).trans (va_up_ne _ _ a)).trans (congrFun hv2 j)) (by rw [hr]) (by rw [hr]; exact l2)
            rw [hr]
            show nI u.1 = nI (qFp (qLine u qv).2)
            rw [l3]
          · exact absurd c153 (by decide)
  have lpH : ∀ (d : Nat) (qv : qV) (v : mV) (z1 : Int32), u.1 + 1 ≤ qNx qv + d → qNx qv ≤ u.1 → v.2 = y.2 → rTb y v → v.1 16 2 = nI 0 → (qRun u g z W) = qRunH u g z W (qTop u d qv (0, z.2.1.2)) → V E mX10_readTable 0 0 (fun o f' t' => o = .inl none ∧ t' = t ∧ ∃ y', f' = mdS f M y' ∧ rTb y y' ∧ (((qRun u g z W).1 = true ∧ y'.2 = y.2 ∧ y'.1 16 2 = nI (qRun u g z W).2.2.2.2.2 ∧ (qRun u g z W).2.2.2.2.2 ≤ 60 ∧ nmH y' (qRun u g z W).2.2.2.2.1 (qRun u g z W).2.2.2.2.1.1 ∧ ∀ k, k < (qRun u g z W).2.2.2.2.2 → mE y' (120 + k) ((qRun u g z W).2.2.1 (z.1 k)) (qRun u g z W).2.2.2.2.1.1) ∨ ((qRun u g z W).1 = false ∧ qFa (qRun u g z W).2.1 ≠ 0 ∧ qFa (qRun u g z W).2.1 < 100 ∧ y'.2 43 = nI (qFa (qRun u g z W).2.1) ∧ y'.2 44 = nI (qFp (qRun u g z W).2.1) ∧ ∀ j, j ≠ 43 → j ≠ 44 → y'.2 j = y.2 j))) 49 [some (.ref M), some (.int z1), some (.int (nI (qNx qv))), some (.int (nI 0))] [] (mdS f M v) t 0 0 := by
    intro d
    induction d with
    | zero =>
      intro qv v z1 hd hnx
      exact absurd hd (by omega)
    | succ d' ih =>
    intro qv v z1 hd hnx hv2 hv h16 hr
    obtain ⟨hl1, hl2⟩ := qLine_m (v := qv) hp.2.1 hnx
    have hpv : mTp v u := ⟨by rw [hv2]; exact hp.1, hp.2.1, by rw [hv.1 1 (by omega)]; exact hp.2.2⟩
    have hFv : v.2 43 = nI 0 := by rw [hv2]; exact hF
    refine v_aload_n dX10_readTable_49 rfl (by rfl) ?_
    refine v_getf hE dX10_readTable_50 fX10_147 mdS_M (by rfl) ?_
    refine v_eqi (y := nI 0) hFv ?_
    refine v_if_neN (tgt := 127) dX10_readTable_53 (by decide) (by omega) (fun c53 => ?_) (fun c53 => ?_)
    · exact absurd rfl c53
    · refine v_iload_n dX10_readTable_56 rfl (by rfl) ?_
      refine v_if_neN (tgt := 127) dX10_readTable_57 (by decide) (by omega) (fun c57 => ?_) (fun c57 => ?_)
      · exact absurd rfl c57
      · refine v_aload_n dX10_readTable_60 rfl (by rfl) ?_
        refine v_iload_n dX10_readTable_61 rfl (by rfl) ?_
        refine w_callV hE dX10_readTable_62 kX10_291 mdS_M (by rfl) (by rfl) (sX10_needLine hE (y := v) (u := u) (i := qNx qv) hpv (by omega)) rfl (by decide) (by decide) (by exact Nat.le_of_ble_eq_true rfl) (by omega) (by omega) (fun v9 g9 u9 h9 => ?_) (fun _ _ _ h => by cases h.1)
        obtain ⟨hv9, hu9, hg9⟩ := h9
        replace hu9 := hu9.symm
        subst hu9
        subst hg9
        cases hv9
        have hmle := mLE_le (u := u) (u.1 - qNx qv) (qNx qv)
        by_cases hml : (mLE u (u.1 - (qNx qv)) (qNx qv)) < u.1
        · have e9 : mNL v u (qNx qv) = v := if_pos hml
          rw [e9]
          have hql := hl1 hml
          have hE9 : qE (uNx (uEn (uBg qv (qNx qv)) (nI (mLE u (u.1 - (qNx qv)) (qNx qv)))) ((mLE u (u.1 - (qNx qv)) (qNx qv)) + 1)) = (mLE u (u.1 - (qNx qv)) (qNx qv)) := by
            show (nI (mLE u (u.1 - (qNx qv)) (qNx qv))).toNatClampNeg = _
            rw [nI_clamp (n := (mLE u (u.1 - (qNx qv)) (qNx qv))) (by omega)]
          have hbe : qBg (uNx (uEn (uBg qv (qNx qv)) (nI (mLE u (u.1 - (qNx qv)) (qNx qv)))) ((mLE u (u.1 - (qNx qv)) (qNx qv)) + 1)) ≤ qE (uNx (uEn (uBg qv (qNx qv)) (nI (mLE u (u.1 - (qNx qv)) (qNx qv)))) ((mLE u (u.1 - (qNx qv)) (qNx qv)) + 1)) := by
            rw [hE9]
            exact (mLE_le _ _).1
          have hel : qE (uNx (uEn (uBg qv (qNx qv)) (nI (mLE u (u.1 - (qNx qv)) (qNx qv)))) ((mLE u (u.1 - (qNx qv)) (qNx qv)) + 1)) < u.1 := by
            rw [hE9]
            exact hml
          have hT : qTop u (d' + 1) qv (0, z.2.1.2) = if tBeg u (qNx qv) tx4 = true then qTop u d' (uNx (uEn (uBg qv (qNx qv)) (nI (mLE u (u.1 - (qNx qv)) (qNx qv)))) ((mLE u (u.1 - (qNx qv)) (qNx qv)) + 1)) (0, z.2.1.2) else if (qHead u (qCut u (uNx (uEn (uBg qv (qNx qv)) (nI (mLE u (u.1 - (qNx qv)) (qNx qv)))) ((mLE u (u.1 - (qNx qv)) (qNx qv)) + 1))) (0, z.2.1.2)).1 = true then (true, qCut u (uNx (uEn (uBg qv (qNx qv)) (nI (mLE u (u.1 - (qNx qv)) (qNx qv)))) ((mLE u (u.1 - (qNx qv)) (qNx qv)) + 1)), (qHead u (qCut u (uNx (uEn (uBg qv (qNx qv)) (nI (mLE u (u.1 - (qNx qv)) (qNx qv)))) ((mLE u (u.1 - (qNx qv)) (qNx qv)) + 1))) (0, z.2.1.2)).2) else (false, qFail (qCut u (uNx (uEn (uBg qv (qNx qv)) (nI (mLE u (u.1 - (qNx qv)) (qNx qv)))) ((mLE u (u.1 - (qNx qv)) (qNx qv)) + 1))) 2 (qNx qv), (qHead u (qCut u (uNx (uEn (uBg qv (qNx qv)) (nI (mLE u (u.1 - (qNx qv)) (qNx qv)))) ((mLE u (u.1 - (qNx qv)) (qNx qv)) + 1))) (0, z.2.1.2)).2) := by
            show (if (qLine u qv).1 = true then _ else _) = _
            rw [hql, if_pos rfl]
          refine v_istore_n dX10_readTable_65 rfl (by decide) ?_
          refine v_aload_n dX10_readTable_66 rfl (by rfl) ?_
          refine v_iload_n dX10_readTable_67 rfl (by rfl) ?_
          refine w_callV hE dX10_readTable_68 kX10_156 mdS_M (by rfl) (by rfl) (sX10_at hE (y := v) (u := u) hpv (by omega)) rfl (by decide) (by decide) (by exact Nat.le_of_ble_eq_true rfl) (by omega) (by omega) (fun v9 g9 u9 h9 => ?_) (fun _ _ _ h => by cases h.1)
          obtain ⟨hv9, hu9, hg9⟩ := h9
          replace hu9 := hu9.symm
          subst hu9
          subst hg9
          cases hv9
          refine v_bipush (v := nI 35) dX10_readTable_71 (by decide) ?_
          refine v_icmp_ne (tgt := 88) dX10_readTable_73 (by decide) (fun c73 => ?_) (fun c73 => ?_)
          · have hb : ¬ tBeg u (qNx qv) tx4 = true := fun e => by
              have h35 := (tBeg_4 hpv (by omega)).mp e
              first
                | exact c85 h35.2
                | exact c73 h35.1
            rw [hT, if_neg hb] at hr
            have hrc := sX10_readHead hE (y := v) (u := u) (q := (uNx (uEn (uBg qv (qNx qv)) (nI (mLE u (u.1 - (qNx qv)) (qNx qv)))) ((mLE u (u.1 - (qNx qv)) (qNx qv)) + 1))) (n0 := (0, z.2.1.2)) (f := f) (t := t) (M := M) hpv hv.2.2.2.2.1 hbe hel rfl
            rw [hE9] at hrc
            rw [show qBg (uNx (uEn (uBg qv (qNx qv)) (nI (mLE u (u.1 - (qNx qv)) (qNx qv)))) ((mLE u (u.1 - (qNx qv)) (qNx qv)) + 1)) = qNx qv from rfl] at hrc
            refine v_iconst (v := nI 1) dX10_readTable_88 (by decide) ?_
            refine v_goto (tgt := 93) dX10_readTable_89 (by decide) ?_
            refine v_istore_n dX10_readTable_93 rfl (by decide) ?_
            refine v_aload_n dX10_readTable_94 rfl (by rfl) ?_
            refine v_getf hE dX10_readTable_95 fX10_147 mdS_M (by rfl) ?_
            refine v_eqi (y := nI 0) hFv ?_
            refine v_if_neN (tgt := 120) dX10_readTable_98 (by decide) (by omega) (fun c98 => ?_) (fun c98 => ?_)
            · exact absurd rfl c98
            · refine v_iload_n dX10_readTable_101 rfl (by rfl) ?_
              refine v_if_eqN (tgt := 120) dX10_readTable_102 (by decide) (by omega) (fun c102 => ?_) (fun c102 => ?_)
              · exact absurd c102 (by decide)
              · refine v_aload_n dX10_readTable_105 rfl (by rfl) ?_
                refine v_iload_n dX10_readTable_106 rfl (by rfl) ?_
                refine v_iload_n dX10_readTable_107 rfl (by rfl) ?_
                refine w_callV hE dX10_readTable_108 kX10_294 mdS_M (by rfl) (by rfl) (hrc) rfl (by decide) (by decide) (by exact Nat.le_of_ble_eq_true rfl) (by omega) (by omega) (fun v9 g9 u9 h9 => ?_) (fun _ _ _ h => by cases h.1)
                obtain ⟨hv9, hu9, v1, hg9, hrh, hnm⟩ := h9
                replace hu9 := hu9.symm
                subst hu9
                subst hg9
                cases hv9
                refine v_if_neB (tgt := 120) dX10_readTable_111 (by decide) (fun c111 => ?_) (fun c111 => ?_)
                · refine v_iload_n dX10_readTable_120 rfl (by rfl) ?_
                  refine v_iconst (v := nI 1) dX10_readTable_121 (by decide) ?_
                  refine v_iaddN dX10_readTable_122 ?_
                  refine v_istore_n dX10_readTable_123 rfl (by decide) ?_
                  refine v_goto (tgt := 49) dX10_readTable_124 (by decide) ?_
                  refine v_aload_n dX10_readTable_49 rfl (by rfl) ?_
                  refine v_getf hE dX10_readTable_50 fX10_147 mdS_M (by rfl) ?_
                  refine v_eqi (y := nI 0) (by rw [hrh.1]; exact hFv) ?_
                  refine v_if_neN (tgt := 127) dX10_readTable_53 (by decide) (by omega) (fun c53 => ?_) (fun c53 => ?_)
                  · exact absurd rfl c53
                  · refine v_iload_n dX10_readTable_56 rfl (by rfl) ?_
                    refine v_if_neN (tgt := 127) dX10_readTable_57 (by decide) (by omega) (fun c57 => ?_) (fun c57 => ?_)
                    · have hqh := (qHead_n (u := u) (v := qCut u (uNx (uEn (uBg qv (qNx qv)) (nI (mLE u (u.1 - (qNx qv)) (qNx qv)))) ((mLE u (u.1 - (qNx qv)) (qNx qv)) + 1))) (n := (0, z.2.1.2)) ⟨Nat.zero_le _, by decide, hz3⟩ rfl).2 c111
                      have hnh := hnm c111
                      have hcm : qCm (qCut u (uNx (uEn (uBg qv (qNx qv)) (nI (mLE u (u.1 - (qNx qv)) (qNx qv)))) ((mLE u (u.1 - (qNx qv)) (qNx qv)) + 1))) = (if (qHead u (qCut u (uNx (uEn (uBg qv (qNx qv)) (nI (mLE u (u.1 - (qNx qv)) (qNx qv)))) ((mLE u (u.1 - (qNx qv)) (qNx qv)) + 1))) (0, z.2.1.2)).2.1 = 0 then 8 else 9 + (qHead u (qCut u (uNx (uEn (uBg qv (qNx qv)) (nI (mLE u (u.1 - (qNx qv)) (qNx qv)))) ((mLE u (u.1 - (qNx qv)) (qNx qv)) + 1))) (0, z.2.1.2)).2.1) := by
                        obtain ⟨_, ⟨q1, q2⟩ | ⟨q1, q2, q3⟩⟩ := hqh
                        · rw [q2, if_pos q1]
                        · rw [if_neg (by omega)]
                          omega
                      rw [if_pos c111] at hr
                      refine lpR (qHead u (qCut u (uNx (uEn (uBg qv (qNx qv)) (nI (mLE u (u.1 - (qNx qv)) (qNx qv)))) ((mLE u (u.1 - (qNx qv)) (qNx qv)) + 1))) (0, z.2.1.2)).2.1 (qHead u (qCut u (uNx (uEn (uBg qv (qNx qv)) (nI (mLE u (u.1 - (qNx qv)) (qNx qv)))) ((mLE u (u.1 - (qNx qv)) (qNx qv)) + 1))) (0, z.2.1.2)).2 hnh.2.1 rfl 61 0 (qCut u (uNx (uEn (uBg qv (qNx qv)) (nI (mLE u (u.1 - (qNx qv)) (qNx qv)))) ((mLE u (u.1 - (qNx qv)) (qNx qv)) + 1))) W v1 _ _ 0 (by omega) (by omega) (Nat.succ_le_of_lt hml) (hrh.1.trans hv2) (rTb_h hv hrh) ((congrFun (hrh.2.1 16 (by decide) (by decide) (by decide)) 2).trans h16) hnh hW (fun l hl => absurd hl (by omega)) ?_
                      rw [← hcm]
                      exact hr
                    · exact absurd c57 (by decide)
                · refine v_aload_n dX10_readTable_114 rfl (by rfl) ?_
                  refine v_iconst (v := nI 2) dX10_readTable_115 (by decide) ?_
                  refine v_iload_n dX10_readTable_116 rfl (by rfl) ?_
                  refine w_callV hE dX10_readTable_117 kX10_160 mdS_M (by rfl) (by rfl) (sX10_bad hE) rfl (by decide) (by decide) (by exact Nat.le_of_ble_eq_true rfl) (by omega) (by omega) (fun v9 g9 u9 h9 => ?_) (fun _ _ _ h => by cases h.1)
                  obtain ⟨hv9, hu9, hg9⟩ := h9
                  replace hu9 := hu9.symm
                  subst hu9
                  subst hg9
                  cases hv9
                  rw [show mBad v1 (nI 2) (nI (qNx qv)) = (v1.1, va_up (va_up v1.2 43 (nI 2)) 44 (nI (qNx qv))) from mBad_0 (by rw [hrh.1]; exact hFv)]
                  refine v_iload_n dX10_readTable_120 rfl (by rfl) ?_
                  refine v_iconst (v := nI 1) dX10_readTable_121 (by decide) ?_
                  refine v_iaddN dX10_readTable_122 ?_
                  refine v_istore_n dX10_readTable_123 rfl (by decide) ?_
                  refine v_goto (tgt := 49) dX10_readTable_124 (by decide) ?_
                  rw [if_neg (by rw [c111]; decide)] at hr
                  exact endG (v1.1, va_up (va_up v1.2 43 (nI 2)) 44 (nI (qNx qv))) 2 _ _ _ (rTb_s (rTb_h hv hrh)) (by decide) (by decide) rfl (by rw [hr]; rfl) (fun j a b => (((va_up_ne _ _ b).trans (va_up_ne _ _ a)).trans (congrFun hrh.1 j)).trans (congrFun hv2 j)) (by rw [hr]; rfl) (by rw [hr]; rfl)
          · refine v_aload_n dX10_readTable_76 rfl (by rfl) ?_
            refine v_iload_n dX10_readTable_77 rfl (by rfl) ?_
            refine v_iconst (v := nI 1) dX10_readTable_78 (by decide) ?_
            refine v_iaddN dX10_readTable_79 ?_
            refine w_callV hE dX10_readTable_80 kX10_156 mdS_M (by rfl) (by rfl) (sX10_at hE (y := v) (u := u) hpv (by omega)) rfl (by decide) (by decide) (by exact Nat.le_of_ble_eq_true rfl) (by omega) (by omega) (fun v9 g9 u9 h9 => ?_) (fun _ _ _ h => by cases h.1)
            obtain ⟨hv9, hu9, hg9⟩ := h9
            replace hu9 := hu9.symm
            subst hu9
            subst hg9
            cases hv9
            refine v_bipush (v := nI 35) dX10_readTable_83 (by decide) ?_
            refine v_icmp_eq (tgt := 92) dX10_readTable_85 (by decide) (fun c85 => ?_) (fun c85 => ?_)
            · have hb : tBeg u (qNx qv) tx4 = true := (tBeg_4 hpv (by omega)).mpr ⟨c73, c85⟩
              refine v_iconst (v := nI 0) dX10_readTable_92 (by decide) ?_
              refine v_istore_n dX10_readTable_93 rfl (by decide) ?_
              refine v_aload_n dX10_readTable_94 rfl (by rfl) ?_
              refine v_getf hE dX10_readTable_95 fX10_147 mdS_M (by rfl) ?_
              refine v_eqi (y := nI 0) hFv ?_
              refine v_if_neN (tgt := 120) dX10_readTable_98 (by decide) (by omega) (fun c98 => ?_) (fun c98 => ?_)
              · exact absurd rfl c98
              · refine v_iload_n dX10_readTable_101 rfl (by rfl) ?_
                refine v_if_eqN (tgt := 120) dX10_readTable_102 (by decide) (by omega) (fun c102 => ?_) (fun c102 => ?_)
                · refine v_iload_n dX10_readTable_120 rfl (by rfl) ?_
                  refine v_iconst (v := nI 1) dX10_readTable_121 (by decide) ?_
                  refine v_iaddN dX10_readTable_122 ?_
                  refine v_istore_n dX10_readTable_123 rfl (by decide) ?_
                  refine v_goto (tgt := 49) dX10_readTable_124 (by decide) ?_
                  rw [hT, if_pos hb] at hr
                  exact ih (uNx (uEn (uBg qv (qNx qv)) (nI (mLE u (u.1 - (qNx qv)) (qNx qv)))) ((mLE u (u.1 - (qNx qv)) (qNx qv)) + 1)) v _ (show u.1 + 1 ≤ (mLE u (u.1 - (qNx qv)) (qNx qv)) + 1 + d' by omega) (Nat.succ_le_of_lt hml) hv2 hv h16 hr
                · exact absurd rfl c102
            · have hb : ¬ tBeg u (qNx qv) tx4 = true := fun e => by
                have h35 := (tBeg_4 hpv (by omega)).mp e
                first
                  | exact c85 h35.2
                  | exact c73 h35.1
              rw [hT, if_neg hb] at hr
              have hrc := sX10_readHead hE (y := v) (u := u) (q := (uNx (uEn (uBg qv (qNx qv)) (nI (mLE u (u.1 - (qNx qv)) (qNx qv)))) ((mLE u (u.1 - (qNx qv)) (qNx qv)) + 1))) (n0 := (0, z.2.1.2)) (f := f) (t := t) (M := M) hpv hv.2.2.2.2.1 hbe hel rfl
              rw [hE9] at hrc
              rw [show qBg (uNx (uEn (uBg qv (qNx qv)) (nI (mLE u (u.1 - (qNx qv)) (qNx qv)))) ((mLE u (u.1 - (qNx qv)) (qNx qv)) + 1)) = qNx qv from rfl] at hrc
              refine v_iconst (v := nI 1) dX10_readTable_88 (by decide) ?_
              refine v_goto (tgt := 93) dX10_readTable_89 (by decide) ?_
              refine v_istore_n dX10_readTable_93 rfl (by decide) ?_
              refine v_aload_n dX10_readTable_94 rfl (by rfl) ?_
              refine v_getf hE dX10_readTable_95 fX10_147 mdS_M (by rfl) ?_
              refine v_eqi (y := nI 0) hFv ?_
              refine v_if_neN (tgt := 120) dX10_readTable_98 (by decide) (by omega) (fun c98 => ?_) (fun c98 => ?_)
              · exact absurd rfl c98
              · refine v_iload_n dX10_readTable_101 rfl (by rfl) ?_
                refine v_if_eqN (tgt := 120) dX10_readTable_102 (by decide) (by omega) (fun c102 => ?_) (fun c102 => ?_)
                · exact absurd c102 (by decide)
                · refine v_aload_n dX10_readTable_105 rfl (by rfl) ?_
                  refine v_iload_n dX10_readTable_106 rfl (by rfl) ?_
                  refine v_iload_n dX10_readTable_107 rfl (by rfl) ?_
                  refine w_callV hE dX10_readTable_108 kX10_294 mdS_M (by rfl) (by rfl) (hrc) rfl (by decide) (by decide) (by exact Nat.le_of_ble_eq_true rfl) (by omega) (by omega) (fun v9 g9 u9 h9 => ?_) (fun _ _ _ h => by cases h.1)
                  obtain ⟨hv9, hu9, v1, hg9, hrh, hnm⟩ := h9
                  replace hu9 := hu9.symm
                  subst hu9
                  subst hg9
                  cases hv9
                  refine v_if_neB (tgt := 120) dX10_readTable_111 (by decide) (fun c111 => ?_) (fun c111 => ?_)
                  · refine v_iload_n dX10_readTable_120 rfl (by rfl) ?_
                    refine v_iconst (v := nI 1) dX10_readTable_121 (by decide) ?_
                    refine v_iaddN dX10_readTable_122 ?_
                    refine v_istore_n dX10_readTable_123 rfl (by decide) ?_
                    refine v_goto (tgt := 49) dX10_readTable_124 (by decide) ?_
                    refine v_aload_n dX10_readTable_49 rfl (by rfl) ?_
                    refine v_getf hE dX10_readTable_50 fX10_147 mdS_M (by rfl) ?_
                    refine v_eqi (y := nI 0) (by rw [hrh.1]; exact hFv) ?_
                    refine v_if_neN (tgt := 127) dX10_readTable_53 (by decide) (by omega) (fun c53 => ?_) (fun c53 => ?_)
                    · exact absurd rfl c53
                    · refine v_iload_n dX10_readTable_56 rfl (by rfl) ?_
                      refine v_if_neN (tgt := 127) dX10_readTable_57 (by decide) (by omega) (fun c57 => ?_) (fun c57 => ?_)
                      · have hqh := (qHead_n (u := u) (v := qCut u (uNx (uEn (uBg qv (qNx qv)) (nI (mLE u (u.1 - (qNx qv)) (qNx qv)))) ((mLE u (u.1 - (qNx qv)) (qNx qv)) + 1))) (n := (0, z.2.1.2)) ⟨Nat.zero_le _, by decide, hz3⟩ rfl).2 c111
                        have hnh := hnm c111
                        have hcm : qCm (qCut u (uNx (uEn (uBg qv (qNx qv)) (nI (mLE u (u.1 - (qNx qv)) (qNx qv)))) ((mLE u (u.1 - (qNx qv)) (qNx qv)) + 1))) = (if (qHead u (qCut u (uNx (uEn (uBg qv (qNx qv)) (nI (mLE u (u.1 - (qNx qv)) (qNx qv)))) ((mLE u (u.1 - (qNx qv)) (qNx qv)) + 1))) (0, z.2.1.2)).2.1 = 0 then 8 else 9 + (qHead u (qCut u (uNx (uEn (uBg qv (qNx qv)) (nI (mLE u (u.1 - (qNx qv)) (qNx qv)))) ((mLE u (u.1 - (qNx qv)) (qNx qv)) + 1))) (0, z.2.1.2)).2.1) := by
                          obtain ⟨_, ⟨q1, q2⟩ | ⟨q1, q2, q3⟩⟩ := hqh
                          · rw [q2, if_pos q1]
                          · rw [if_neg (by omega)]
                            omega
                        rw [if_pos c111] at hr
                        refine lpR (qHead u (qCut u (uNx (uEn (uBg qv (qNx qv)) (nI (mLE u (u.1 - (qNx qv)) (qNx qv)))) ((mLE u (u.1 - (qNx qv)) (qNx qv)) + 1))) (0, z.2.1.2)).2.1 (qHead u (qCut u (uNx (uEn (uBg qv (qNx qv)) (nI (mLE u (u.1 - (qNx qv)) (qNx qv)))) ((mLE u (u.1 - (qNx qv)) (qNx qv)) + 1))) (0, z.2.1.2)).2 hnh.2.1 rfl 61 0 (qCut u (uNx (uEn (uBg qv (qNx qv)) (nI (mLE u (u.1 - (qNx qv)) (qNx qv)))) ((mLE u (u.1 - (qNx qv)) (qNx qv)) + 1))) W v1 _ _ 0 (by omega) (by omega) (Nat.succ_le_of_lt hml) (hrh.1.trans hv2) (rTb_h hv hrh) ((congrFun (hrh.2.1 16 (by decide) (by decide) (by decide)) 2).trans h16) hnh hW (fun l hl => absurd hl (by omega)) ?_
                        rw [← hcm]
                        exact hr
                      · exact absurd c57 (by decide)
                  · refine v_aload_n dX10_readTable_114 rfl (by rfl) ?_
                    refine v_iconst (v := nI 2) dX10_readTable_115 (by decide) ?_
                    refine v_iload_n dX10_readTable_116 rfl (by rfl) ?_
                    refine w_callV hE dX10_readTable_117 kX10_160 mdS_M (by rfl) (by rfl) (sX10_bad hE) rfl (by decide) (by decide) (by exact Nat.le_of_ble_eq_true rfl) (by omega) (by omega) (fun v9 g9 u9 h9 => ?_) (fun _ _ _ h => by cases h.1)
                    obtain ⟨hv9, hu9, hg9⟩ := h9
                    replace hu9 := hu9.symm
                    subst hu9
                    subst hg9
                    cases hv9
                    rw [show mBad v1 (nI 2) (nI (qNx qv)) = (v1.1, va_up (va_up v1.2 43 (nI 2)) 44 (nI (qNx qv))) from mBad_0 (by rw [hrh.1]; exact hFv)]
                    refine v_iload_n dX10_readTable_120 rfl (by rfl) ?_
                    refine v_iconst (v := nI 1) dX10_readTable_121 (by decide) ?_
                    refine v_iaddN dX10_readTable_122 ?_
                    refine v_istore_n dX10_readTable_123 rfl (by decide) ?_
                    refine v_goto (tgt := 49) dX10_readTable_124 (by decide) ?_
                    rw [if_neg (by rw [c111]; decide)] at hr
                    exact endG (v1.1, va_up (va_up v1.2 43 (nI 2)) 44 (nI (qNx qv))) 2 _ _ _ (rTb_s (rTb_h hv hrh)) (by decide) (by decide) rfl (by rw [hr]; rfl) (fun j a b => (((va_up_ne _ _ b).trans (va_up_ne _ _ a)).trans (congrFun hrh.1 j)).trans (congrFun hv2 j)) (by rw [hr]; rfl) (by rw [hr]; rfl)
        · have e9 : mNL v u (qNx qv) = (v.1, va_up (va_up v.2 43 (nI 1)) 44 (nI u.1)) := (if_neg hml).trans (mBad_0 hFv)
          rw [e9]
          have hpw : mTp (v.1, va_up (va_up v.2 43 (nI 1)) 44 (nI u.1)) u := ⟨hpv.1, hpv.2⟩
          refine v_istore_n dX10_readTable_65 rfl (by decide) ?_
          refine v_aload_n dX10_readTable_66 rfl (by rfl) ?_
          refine v_iload_n dX10_readTable_67 rfl (by rfl) ?_
          refine w_callV hE dX10_readTable_68 kX10_156 mdS_M (by rfl) (by rfl) (sX10_at hE (y := (v.1, va_up (va_up v.2 43 (nI 1)) 44 (nI u.1))) (u := u) hpw (by omega)) rfl (by decide) (by decide) (by exact Nat.le_of_ble_eq_true rfl) (by omega) (by omega) (fun v9 g9 u9 h9 => ?_) (fun _ _ _ h => by cases h.1)
          obtain ⟨hv9, hu9, hg9⟩ := h9
          replace hu9 := hu9.symm
          subst hu9
          subst hg9
          cases hv9
          refine v_bipush (v := nI 35) dX10_readTable_71 (by decide) ?_
          refine v_icmp_ne (tgt := 88) dX10_readTable_73 (by decide) (fun c73 => ?_) (fun c73 => ?_)
          · refine v_iconst (v := nI 1) dX10_readTable_88 (by decide) ?_
            refine v_goto (tgt := 93) dX10_readTable_89 (by decide) ?_
            refine v_istore_n dX10_readTable_93 rfl (by decide) ?_
            refine v_aload_n dX10_readTable_94 rfl (by rfl) ?_
            refine v_getf hE dX10_readTable_95 fX10_147 mdS_M (by rfl) ?_
            refine v_eqi (y := nI 1) rfl ?_
            refine v_if_neN (tgt := 120) dX10_readTable_98 (by decide) (by omega) (fun c98 => ?_) (fun c98 => ?_)
            · refine v_iload_n dX10_readTable_120 rfl (by rfl) ?_
              refine v_iconst (v := nI 1) dX10_readTable_121 (by decide) ?_
              refine v_iaddN dX10_readTable_122 ?_
              refine v_istore_n dX10_readTable_123 rfl (by decide) ?_
              refine v_goto (tgt := 49) dX10_readTable_124 (by decide) ?_
              obtain ⟨l1, l2, l3⟩ := hl2 hml
              have hT1 : qTop u (d' + 1) qv (0, z.2.1.2) = (false, (qLine u qv).2, (0, z.2.1.2)) := if_neg (by rw [l1]; decide)
              rw [hT1] at hr
              refine endG (v.1, va_up (va_up v.2 43 (nI 1)) 44 (nI u.1)) 1 _ _ _ (rTb_s hv) (by decide) (by decide) rfl ?_ (fun j a b => ((va_up_ne _ _ b).trans (va_up_ne _ _ a)).trans (congrFun hv2 j)) (by rw [hr]; rfl) (by rw [hr]; exact l2)
              rw [hr]
              show nI u.1 = nI (qFp (qLine u qv).2)
              rw [l3]
            · exact absurd c98 (by decide)
          · refine v_aload_n dX10_readTable_76 rfl (by rfl) ?_
            refine v_iload_n dX10_readTable_77 rfl (by rfl) ?_
            refine v_iconst (v := nI 1) dX10_readTable_78 (by decide) ?_
            refine v_iaddN dX10_readTable_79 ?_
            refine w_callV hE dX10_readTable_80 kX10_156 mdS_M (by rfl) (by rfl) (sX10_at hE (y := (v.1, va_up (va_up v.2 43 (nI 1)) 44 (nI u.1))) (u := u) hpw (by omega)) rfl (by decide) (by decide) (by exact Nat.le_of_ble_eq_true rfl) (by omega) (by omega) (fun v9 g9 u9 h9 => ?_) (fun _ _ _ h => by cases h.1)
            obtain ⟨hv9, hu9, hg9⟩ := h9
            replace hu9 := hu9.symm
            subst hu9
            subst hg9
            cases hv9
            refine v_bipush (v := nI 35) dX10_readTable_83 (by decide) ?_
            refine v_icmp_eq (tgt := 92) dX10_readTable_85 (by decide) (fun c85 => ?_) (fun c85 => ?_)
            · refine v_iconst (v := nI 0) dX10_readTable_92 (by decide) ?_
              refine v_istore_n dX10_readTable_93 rfl (by decide) ?_
              refine v_aload_n dX10_readTable_94 rfl (by rfl) ?_
              refine v_getf hE dX10_readTable_95 fX10_147 mdS_M (by rfl) ?_
              refine v_eqi (y := nI 1) rfl ?_
              refine v_if_neN (tgt := 120) dX10_readTable_98 (by decide) (by omega) (fun c98 => ?_) (fun c98 => ?_)
              · refine v_iload_n dX10_readTable_120 rfl (by rfl) ?_
                refine v_iconst (v := nI 1) dX10_readTable_121 (by decide) ?_
                refine v_iaddN dX10_readTable_122 ?_
                refine v_istore_n dX10_readTable_123 rfl (by decide) ?_
                refine v_goto (tgt := 49) dX10_readTable_124 (by decide) ?_
                obtain ⟨l1, l2, l3⟩ := hl2 hml
                have hT1 : qTop u (d' + 1) qv (0, z.2.1.2) = (false, (qLine u qv).2, (0, z.2.1.2)) := if_neg (by rw [l1]; decide)
                rw [hT1] at hr
                refine endG (v.1, va_up (va_up v.2 43 (nI 1)) 44 (nI u.1)) 1 _ _ _ (rTb_s hv) (by decide) (by decide) rfl ?_ (fun j a b => ((va_up_ne _ _ b).trans (va_up_ne _ _ a)).trans (congrFun hv2 j)) (by rw [hr]; rfl) (by rw [hr]; exact l2)
                rw [hr]
                show nI u.1 = nI (qFp (qLine u qv).2)
                rw [l3]
              · exact absurd c98 (by decide)
            · refine v_iconst (v := nI 1) dX10_readTable_88 (by decide) ?_
              refine v_goto (tgt := 93) dX10_readTable_89 (by decide) ?_
              refine v_istore_n dX10_readTable_93 rfl (by decide) ?_
              refine v_aload_n dX10_readTable_94 rfl (by rfl) ?_
              refine v_getf hE dX10_readTable_95 fX10_147 mdS_M (by rfl) ?_
              refine v_eqi (y := nI 1) rfl ?_
              refine v_if_neN (tgt := 120) dX10_readTable_98 (by decide) (by omega) (fun c98 => ?_) (fun c98 => ?_)
              · refine v_iload_n dX10_readTable_120 rfl (by rfl) ?_
                refine v_iconst (v := nI 1) dX10_readTable_121 (by decide) ?_
                refine v_iaddN dX10_readTable_122 ?_
                refine v_istore_n dX10_readTable_123 rfl (by decide) ?_
                refine v_goto (tgt := 49) dX10_readTable_124 (by decide) ?_
                obtain ⟨l1, l2, l3⟩ := hl2 hml
                have hT1 : qTop u (d' + 1) qv (0, z.2.1.2) = (false, (qLine u qv).2, (0, z.2.1.2)) := if_neg (by rw [l1]; decide)
                rw [hT1] at hr
                refine endG (v.1, va_up (va_up v.2 43 (nI 1)) 44 (nI u.1)) 1 _ _ _ (rTb_s hv) (by decide) (by decide) rfl ?_ (fun j a b => ((va_up_ne _ _ b).trans (va_up_ne _ _ a)).trans (congrFun hv2 j)) (by rw [hr]; rfl) (by rw [hr]; exact l2)
                rw [hr]
                show nI u.1 = nI (qFp (qLine u qv).2)
                rw [l3]
              · exact absurd c98 (by decide)
  have st1 : ∀ (v : mV), v.2 = y.2 → rTb y v → v.1 16 2 = nI 0 → V E mX10_readTable 0 0 (fun o f' t' => o = .inl none ∧ t' = t ∧ ∃ y', f' = mdS f M y' ∧ rTb y y' ∧ (((qRun u g z W).1 = true ∧ y'.2 = y.2 ∧ y'.1 16 2 = nI (qRun u g z W).2.2.2.2.2 ∧ (qRun u g z W).2.2.2.2.2 ≤ 60 ∧ nmH y' (qRun u g z W).2.2.2.2.1 (qRun u g z W).2.2.2.2.1.1 ∧ ∀ k, k < (qRun u g z W).2.2.2.2.2 → mE y' (120 + k) ((qRun u g z W).2.2.1 (z.1 k)) (qRun u g z W).2.2.2.2.1.1) ∨ ((qRun u g z W).1 = false ∧ qFa (qRun u g z W).2.1 ≠ 0 ∧ qFa (qRun u g z W).2.1 < 100 ∧ y'.2 43 = nI (qFa (qRun u g z W).2.1) ∧ y'.2 44 = nI (qFp (qRun u g z W).2.1) ∧ ∀ j, j ≠ 43 → j ≠ 44 → y'.2 j = y.2 j))) 14 [some (.ref M), none, none, none] [] (mdS f M v) t 0 0 := by
    intro v hv2 hv h16
    obtain ⟨hl1, hl2⟩ : ((mLE u (u.1 - 0) 0) < u.1 → qLine u qNew = (true, (uNx (uEn (uBg qNew 0) (nI (mLE u (u.1 - 0) 0))) ((mLE u (u.1 - 0) 0) + 1)))) ∧ (¬ (mLE u (u.1 - 0) 0) < u.1 → (qLine u qNew).1 = false ∧ qFa (qLine u qNew).2 = 1 ∧ qFp (qLine u qNew).2 = u.1) := qLine_m (v := qNew) hp.2.1 (Nat.zero_le _)
    have hpv : mTp v u := ⟨by rw [hv2]; exact hp.1, hp.2.1, by rw [hv.1 1 (by omega)]; exact hp.2.2⟩
    have hFv : v.2 43 = nI 0 := by rw [hv2]; exact hF
    refine v_aload_n dX10_readTable_14 rfl (by rfl) ?_
    refine v_iconst (v := nI 0) dX10_readTable_15 (by decide) ?_
    refine w_callV hE dX10_readTable_16 kX10_291 mdS_M (by rfl) (by rfl) (sX10_needLine hE (y := v) (u := u) (i := 0) hpv (by omega)) rfl (by decide) (by decide) (by exact Nat.le_of_ble_eq_true rfl) (by omega) (by omega) (fun v9 g9 u9 h9 => ?_) (fun _ _ _ h => by cases h.1)
    obtain ⟨hv9, hu9, hg9⟩ := h9
    replace hu9 := hu9.symm
    subst hu9
    subst hg9
    cases hv9
    have hR0 : (qRun u g z W) = if (qFst u qNew).1 = true then qRunH u g z W (qTop u 8001 (qFst u qNew).2 (0, z.2.1.2)) else (false, (qFst u qNew).2, W, (z.1, (0, z.2.1.2), 0)) := rfl
    have hmle := mLE_le (u := u) (u.1 - 0) 0
    by_cases hml : (mLE u (u.1 - 0) 0) < u.1
    · have e9 : mNL v u 0 = v := if_pos hml
      rw [e9]
      have hql := hl1 hml
      have hE9 : qE (uNx (uEn (uBg qNew 0) (nI (mLE u (u.1 - 0) 0))) ((mLE u (u.1 - 0) 0) + 1)) = (mLE u (u.1 - 0) 0) := by
        show (nI (mLE u (u.1 - 0) 0)).toNatClampNeg = _
        rw [nI_clamp (n := (mLE u (u.1 - 0) 0)) (by omega)]
      have hFs : qFst u qNew = if tIs u 0 (mLE u (u.1 - 0) 0) tx3 = true then (true, (uNx (uEn (uBg qNew 0) (nI (mLE u (u.1 - 0) 0))) ((mLE u (u.1 - 0) 0) + 1))) else (false, qFail (uNx (uEn (uBg qNew 0) (nI (mLE u (u.1 - 0) 0))) ((mLE u (u.1 - 0) 0) + 1)) 2 0) := by
        unfold qFst
        rw [hql, if_pos rfl]
        show (if tIs u 0 (qE (uNx (uEn (uBg qNew 0) (nI (mLE u (u.1 - 0) 0))) ((mLE u (u.1 - 0) 0) + 1))) tx3 = true then _ else _) = _
        rw [hE9]
      refine v_istore_n dX10_readTable_19 rfl (by decide) ?_
      refine v_aload_n dX10_readTable_20 rfl (by rfl) ?_
      refine v_getf hE dX10_readTable_21 fX10_147 mdS_M (by rfl) ?_
      refine v_eqi (y := nI 0) hFv ?_
      refine v_if_neN (tgt := 43) dX10_readTable_24 (by decide) (by omega) (fun c24 => ?_) (fun c24 => ?_)
      · exact absurd rfl c24
      · refine v_aload_n dX10_readTable_27 rfl (by rfl) ?_
        refine v_iconst (v := nI 0) dX10_readTable_28 (by decide) ?_
        refine v_iload_n dX10_readTable_29 rfl (by rfl) ?_
        refine v_iconst (v := nI 0) dX10_readTable_30 (by decide) ?_
        refine w_callV hE dX10_readTable_31 kX10_241 mdS_M (by rfl) (by rfl) (sX10_isText hE (y := v) (u := u) (i := 0) (j := (mLE u (u.1 - 0) 0)) (k := 0) hpv (by decide) (by omega) (by omega)) rfl (by decide) (by decide) (by exact Nat.le_of_ble_eq_true rfl) (by omega) (by omega) (fun v9 g9 u9 h9 => ?_) (fun _ _ _ h => by cases h.1)
        obtain ⟨hv9, hu9, hg9⟩ := h9
        replace hu9 := hu9.symm
        subst hu9
        subst hg9
        cases hv9
        refine v_if_neB (tgt := 43) dX10_readTable_34 (by decide) (fun c34 => ?_) (fun c34 => ?_)
        · refine v_iload_n dX10_readTable_43 rfl (by rfl) ?_
          refine v_iconst (v := nI 1) dX10_readTable_44 (by decide) ?_
          refine v_iaddN dX10_readTable_45 ?_
          refine v_istore_n dX10_readTable_46 rfl (by decide) ?_
          refine v_iconst (v := nI 0) dX10_readTable_47 (by decide) ?_
          refine v_istore_n dX10_readTable_48 rfl (by decide) ?_
          rw [show tIs u 0 (mLE u (u.1 - 0) 0) (mTx 0) = tIs u 0 (mLE u (u.1 - 0) 0) tx3 from rfl] at c34
          rw [hFs, if_pos c34, if_pos rfl] at hR0
          exact lpH 8001 (uNx (uEn (uBg qNew 0) (nI (mLE u (u.1 - 0) 0))) ((mLE u (u.1 - 0) 0) + 1)) v _ (show u.1 + 1 ≤ (mLE u (u.1 - 0) 0) + 1 + 8001 by omega) (Nat.succ_le_of_lt hml) hv2 hv h16 hR0
        · refine v_aload_n dX10_readTable_37 rfl (by rfl) ?_
          refine v_iconst (v := nI 2) dX10_readTable_38 (by decide) ?_
          refine v_iconst (v := nI 0) dX10_readTable_39 (by decide) ?_
          refine w_callV hE dX10_readTable_40 kX10_160 mdS_M (by rfl) (by rfl) (sX10_bad hE) rfl (by decide) (by decide) (by exact Nat.le_of_ble_eq_true rfl) (by omega) (by omega) (fun v9 g9 u9 h9 => ?_) (fun _ _ _ h => by cases h.1)
          obtain ⟨hv9, hu9, hg9⟩ := h9
          replace hu9 := hu9.symm
          subst hu9
          subst hg9
          cases hv9
          rw [show mBad v (nI 2) (nI 0) = (v.1, va_up (va_up v.2 43 (nI 2)) 44 (nI 0)) from mBad_0 hFv]
          refine v_iload_n dX10_readTable_43 rfl (by rfl) ?_
          refine v_iconst (v := nI 1) dX10_readTable_44 (by decide) ?_
          refine v_iaddN dX10_readTable_45 ?_
          refine v_istore_n dX10_readTable_46 rfl (by decide) ?_
          refine v_iconst (v := nI 0) dX10_readTable_47 (by decide) ?_
          refine v_istore_n dX10_readTable_48 rfl (by decide) ?_
          rw [show tIs u 0 (mLE u (u.1 - 0) 0) (mTx 0) = tIs u 0 (mLE u (u.1 - 0) 0) tx3 from rfl] at c34
          have hF2 : qFst u qNew = (false, qFail (uNx (uEn (uBg qNew 0) (nI (mLE u (u.1 - 0) 0))) ((mLE u (u.1 - 0) 0) + 1)) 2 0) := hFs.trans (if_neg (by rw [c34]; decide))
          rw [hF2, if_neg (fun z => Bool.noConfusion z)] at hR0
          exact endG (v.1, va_up (va_up v.2 43 (nI 2)) 44 (nI 0)) 2 _ _ _ (rTb_s hv) (by decide) (by decide) rfl (by rw [hR0]; rfl) (fun j a b => ((va_up_ne _ _ b).trans (va_up_ne _ _ a)).trans (congrFun hv2 j)) (by rw [hR0]) (by rw [hR0]; rfl)
    · have e9 : mNL v u 0 = (v.1, va_up (va_up v.2 43 (nI 1)) 44 (nI u.1)) := (if_neg hml).trans (mBad_0 hFv)
      rw [e9]
      refine v_istore_n dX10_readTable_19 rfl (by decide) ?_
      refine v_aload_n dX10_readTable_20 rfl (by rfl) ?_
      refine v_getf hE dX10_readTable_21 fX10_147 mdS_M (by rfl) ?_
      refine v_eqi (y := nI 1) rfl ?_
      refine v_if_neN (tgt := 43) dX10_readTable_24 (by decide) (by omega) (fun c24 => ?_) (fun c24 => ?_)
      · refine v_iload_n dX10_readTable_43 rfl (by rfl) ?_
        refine v_iconst (v := nI 1) dX10_readTable_44 (by decide) ?_
        refine v_iaddN dX10_readTable_45 ?_
        refine v_istore_n dX10_readTable_46 rfl (by decide) ?_
        refine v_iconst (v := nI 0) dX10_readTable_47 (by decide) ?_
        refine v_istore_n dX10_readTable_48 rfl (by decide) ?_
        obtain ⟨l1, l2, l3⟩ := hl2 hml
        have hF1 : qFst u qNew = (false, (qLine u qNew).2) := if_neg (by rw [l1]; decide)
        rw [hF1, if_neg (fun z => Bool.noConfusion z)] at hR0
        refine endG (v.1, va_up (va_up v.2 43 (nI 1)) 44 (nI u.1)) 1 _ _ _ (rTb_s hv) (by decide) (by decide) rfl ?_ (fun j a b => ((va_up_ne _ _ b).trans (va_up_ne _ _ a)).trans (congrFun hv2 j)) (by rw [hR0]) (by rw [hR0]; exact l2)
        rw [hR0]
        show nI u.1 = nI (qFp (qLine u qNew).2)
        rw [l3]
      · exact absurd c24 (by decide)
  refine v_aload_n dX10_readTable_0 rfl (by rfl) ?_
  refine v_getf hE dX10_readTable_1 fX10_60 mdS_M (by rfl) ?_
  refine v_iconst (v := nI 2) dX10_readTable_4 (by decide) ?_
  refine v_iconst (v := nI 0) dX10_readTable_5 (by decide) ?_
  refine m_iast hE (k := 16) dX10_readTable_6 (by decide) (by decide) rfl (show _ < 4 by omega) (by omega) ?_
  refine v_aload_n dX10_readTable_7 rfl (by rfl) ?_
  refine v_getf hE dX10_readTable_8 fX10_63 mdS_M (by rfl) ?_
  refine v_iconst (v := nI 2) dX10_readTable_11 (by decide) ?_
  refine v_iconst (v := nI 0) dX10_readTable_12 (by decide) ?_
  refine m_iast hE (k := 17) dX10_readTable_13 (by decide) (by decide) rfl (show _ < 4 by omega) (by omega) ?_
  exact st1 _ rfl (rTb_17 (rTb_16 (rTb_r hO))) rfl
