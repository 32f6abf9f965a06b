/-- only the rows and the place of record r have changed -/
def nFr (r : Nat) (y z : mV) : Prop := z.2 = y.2 ∧ (∀ k, k ≠ 21 → k ≠ 25 → k ≠ 26 → z.1 k = y.1 k) ∧ (∀ i, i ≠ r → z.1 21 i = y.1 21 i) ∧ (∀ i, i < 4 * r ∨ 4 * r + 4 ≤ i → z.1 26 i = y.1 26 i) ∧ (∀ i, i < 104 * r ∨ 104 * r + 104 ≤ i → z.1 25 i = y.1 25 i) ∧ aNw z.1
theorem nFr_r {r : Nat} {y : mV} (h : aNw y.1) : nFr r y y := ⟨rfl, fun _ _ _ _ => rfl, fun _ _ => rfl, fun _ _ => rfl, fun _ _ => rfl, h⟩
theorem nFr_t {r : Nat} {y z w : mV} (h : nFr r y z) (h2 : nFr r z w) : nFr r y w := ⟨h2.1.trans h.1, fun k a b c => (h2.2.1 k a b c).trans (h.2.1 k a b c), fun i a => (h2.2.2.1 i a).trans (h.2.2.1 i a), fun i a => (h2.2.2.2.1 i a).trans (h.2.2.2.1 i a), fun i a => (h2.2.2.2.2.1 i a).trans (h.2.2.2.2.1 i a), h2.2.2.2.2.2⟩
theorem nFr_5 {r i : Nat} {y z : mV} {x : Int32} (h : nFr r y z) (hi : 104 * r ≤ i ∧ i < 104 * r + 104) (hx : vp_nar .byte x = x) : nFr r y (va_up z.1 25 (upd (z.1 25) i x), z.2) := by
  obtain ⟨h1, h2, h3, h4, h5, h6⟩ := h
  refine ⟨h1, fun k a b c => (va_up_ne _ _ b).trans (h2 k a b c), h3, h4, fun j hj => ?_, aNw_1 h6 (fun _ => upd_nar (fun i => h6.1 25 i rfl) hx) (fun q => by cases q)⟩
  show upd (z.1 25) i x j = _
  rw [updN (by omega)]
  exact h5 j hj
theorem nFr_6 {r i : Nat} {y z : mV} {x : Int32} (h : nFr r y z) (hi : 4 * r ≤ i ∧ i < 4 * r + 4) : nFr r y (va_up z.1 26 (upd (z.1 26) i x), z.2) := by
  obtain ⟨h1, h2, h3, h4, h5, h6⟩ := h
  refine ⟨h1, fun k a b c => (va_up_ne _ _ c).trans (h2 k a b c), h3, fun j hj => ?_, h5, aNw_i h6 rfl⟩
  show upd (z.1 26) i x j = _
  rw [updN (by omega)]
  exact h4 j hj
theorem nFr_1 {r : Nat} {y z : mV} {x : Int32} (h : nFr r y z) : nFr r y (va_up z.1 21 (upd (z.1 21) r x), z.2) := by
  obtain ⟨h1, h2, h3, h4, h5, h6⟩ := h
  refine ⟨h1, fun k a b c => (va_up_ne _ _ a).trans (h2 k a b c), fun j hj => ?_, h4, h5, aNw_i h6 rfl⟩
  show upd (z.1 21) r x j = _
  rw [updN hj]
  exact h3 j hj
theorem nFr_o {r a m : Nat} {y z : mV} {w : eV} (h : nFr r y z) (hw : mE y a w m) (hwo : enOk w) (ha : a ≠ r) : mE z a w m := by
  obtain ⟨h1, h2, h3, h4, h5, h6⟩ := h
  obtain ⟨e1, e2, e3, e4, e5, e6, e7, e8, e9, e10⟩ := hw
  have k1 := hwo.1
  unfold mE
  rw [h2 20 (by decide) (by decide) (by decide), h2 22 (by decide) (by decide) (by decide), h2 23 (by decide) (by decide) (by decide), h2 24 (by decide) (by decide) (by decide), h2 27 (by decide) (by decide) (by decide), h2 28 (by decide) (by decide) (by decide), h2 29 (by decide) (by decide) (by decide), h2 30 (by decide) (by decide) (by decide), h2 31 (by decide) (by decide) (by decide)]
  refine ⟨e1, (h3 a ha).trans e2, e3, e4, e5, e6, fun q hq => ⟨(h4 _ (by omega)).trans (e7 q hq).1, fun k hk => ?_⟩, e8, e9, e10⟩
  have := hwo.2.1 q
  rw [h5 _ (by omega)]
  exact (e7 q hq).2 k hk
theorem mRw_c {y : mV} {r A : Nat} {z : Nat → Nat} {c c' : Nat → Nat → Int32} (h : mRw y r A z c) (hc : ∀ q k, q ≤ A → k < z q → c q k = c' q k) : mRw y r A z c' := ⟨h.1, h.2.1, fun q hq => ⟨(h.2.2 q hq).1, (h.2.2 q hq).2.1, (h.2.2 q hq).2.2.1, fun k hk => ((h.2.2 q hq).2.2.2 k hk).trans (hc q k hq hk)⟩⟩
theorem mRw_z {y : mV} {r A : Nat} {z z' : Nat → Nat} {c : Nat → Nat → Int32} (h : mRw y r A z c) (hz : ∀ q, q ≤ A → z' q = z q) : mRw y r A z' c := ⟨h.1, h.2.1, fun q hq => by rw [hz q hq]; exact h.2.2 q hq⟩
/-- cells w+1 .. w+n, from w+k on moved up by one -/
def shT (T : Nat → Int32) (w k n : Nat) : Nat → Int32 := fun i => if w + k < i ∧ i ≤ w + n then T (i - 1) else T i
theorem shT_n {T : Nat → Int32} {w n : Nat} : shT T w n n = T := funext fun i => if_neg (by omega)
theorem shT_s {T : Nat → Int32} {w k n : Nat} (h0 : 0 < k) (h : k ≤ n) : upd (shT T w k n) (w + k) (shT T w k n (w + k - 1)) = shT T w (k - 1) n := by
  have e1 : shT T w k n (w + k - 1) = T (w + k - 1) := if_neg (by omega)
  rw [e1]
  funext i
  by_cases e : i = w + k
  · subst e
    rw [updS]
    unfold shT
    rw [if_pos (by omega)]
  · rw [updN e]
    unfold shT
    by_cases q : w + k < i ∧ i ≤ w + n
    · rw [if_pos q, if_pos (by omega)]
    · rw [if_neg q, if_neg (by omega)]
/-- cells w .. w+k-1 taken from the next -/
def shD (T : Nat → Int32) (w k : Nat) : Nat → Int32 := fun i => if w ≤ i ∧ i < w + k then T (i + 1) else T i
theorem shD_0 {T : Nat → Int32} {w : Nat} : shD T w 0 = T := funext fun i => if_neg (by omega)
theorem shD_s {T : Nat → Int32} {w k : Nat} : upd (shD T w k) (w + k) (shD T w k (w + k + 1)) = shD T w (k + 1) := by
  have e1 : shD T w k (w + k + 1) = T (w + k + 1) := if_neg (by omega)
  rw [e1]
  funext i
  by_cases e : i = w + k
  · subst e
    rw [updS]
    unfold shD
    rw [if_pos (by omega)]
  · rw [updN e]
    unfold shD
    by_cases q : w ≤ i ∧ i < w + k
    · rw [if_pos q, if_pos (by omega)]
    · rw [if_neg q, if_neg (by omega)]
theorem nFr_h {r q k n : Nat} {y v : mV} (h : nFr r y v) (hq : q ≤ 3 ∧ n ≤ 24) : nFr r y (va_up v.1 25 (shT (v.1 25) (26 * (4 * r + q)) k n), v.2) := by
  obtain ⟨h1, h2, h3, h4, h5, h6⟩ := h
  refine ⟨h1, fun k a b c => (va_up_ne _ _ b).trans (h2 k a b c), h3, h4, fun j hj => ?_, aNw_1 h6 (fun _ i => ?_) (fun q => by cases q)⟩
  · show shT (v.1 25) (26 * (4 * r + q)) k n j = _
    unfold shT
    rw [if_neg (by omega)]
    exact h5 j hj
  · unfold shT
    split <;> exact h6.1 25 _ rfl
theorem nFr_d {r q k : Nat} {y v : mV} (h : nFr r y v) (hq : q ≤ 3 ∧ k ≤ 24) : nFr r y (va_up v.1 25 (shD (v.1 25) (26 * (4 * r + q)) k), v.2) := by
  obtain ⟨h1, h2, h3, h4, h5, h6⟩ := h
  refine ⟨h1, fun k a b c => (va_up_ne _ _ b).trans (h2 k a b c), h3, h4, fun j hj => ?_, aNw_1 h6 (fun _ i => ?_) (fun q => by cases q)⟩
  · show shD (v.1 25) (26 * (4 * r + q)) k j = _
    unfold shD
    rw [if_neg (by omega)]
    exact h5 j hj
  · unfold shD
    split <;> exact h6.1 25 _ rfl
set_option maxRecDepth 100000 in
set_option maxHeartbeats 1500000 in
/-- model: toFront -/
theorem sX10_toFront {E : eN} (hE : eOk E) {f : aH} {t : Nat} {M : Nat} {y : mV} {r A : Nat} {z : Nat → Nat} {c : Nat → Nat → Int32} {ch : Nat} (hv0 : mRw y r A z c) (hr : r < 240) (hO : aNw y.1) (hz : ∀ q, q ≤ A → z q ≤ 24) (hch : ch < 128) : mT E mX10_toFront 0 0 [.ref M, .int (nI r), .int (nI ch)] (mdS f M y) t (fun o f' t' => o = .inl none ∧ t' = t ∧ ∃ y', f' = mdS f M y' ∧ nFr r y y' ∧ y'.1 21 = y.1 21 ∧ mRw y' r A (fun j => z j + 1) (fun j k => if k = 0 then nI ch else c j (k - 1))) := by
  refine mT_of (n := 3) (lo := [some (.ref M), some (.int (nI r)), some (.int (nI ch)), none, none, none]) (by decide) (by exact Nat.le_of_ble_eq_true rfl) rfl rfl ?_
  have hA3 := hv0.2.1
  have lp : ∀ (d q : Nat) (v : mV) (z4 z5 : Option Value), q + d = A + 1 → nFr r y v → v.1 21 = y.1 21 → mRw v r A (fun j => if j < q then z j + 1 else z j) (fun j k => if j < q then (if k = 0 then nI ch else c j (k - 1)) else c j k) → V E mX10_toFront 0 0 (fun o f' t' => o = .inl none ∧ t' = t ∧ ∃ y', f' = mdS f M y' ∧ nFr r y y' ∧ y'.1 21 = y.1 21 ∧ mRw y' r A (fun j => z j + 1) (fun j k => if k = 0 then nI ch else c j (k - 1))) 2 [some (.ref M), some (.int (nI r)), some (.int (nI ch)), some (.int (nI q)), z4, z5] [] (mdS f M v) t 0 0 := by
    intro d
    induction d using Nat.strongRecOn with
    | _ d ih =>
    intro q v z4 z5 hd hv h21 hrw
    have lk : q ≤ A → v.1 26 (4 * r + q) = nI (z q) → ∀ (k : Nat), k ≤ z q → V E mX10_toFront 0 0 (fun o f' t' => o = .inl none ∧ t' = t ∧ ∃ y', f' = mdS f M y' ∧ nFr r y y' ∧ y'.1 21 = y.1 21 ∧ mRw y' r A (fun j => z j + 1) (fun j k => if k = 0 then nI ch else c j (k - 1))) 34 [some (.ref M), some (.int (nI r)), some (.int (nI ch)), some (.int (nI q)), some (.int (nI (26 * (4 * r + q)))), some (.int (nI k))] [] (mdS f M (va_up v.1 25 (shT (v.1 25) (26 * (4 * r + q)) k (z q)), v.2)) t 0 0 := by
      intro hqA h26 k
      have hzq := hz q hqA
      induction k using Nat.strongRecOn with
      | _ k ih2 =>
      intro hk
      refine v_iload dX10_toFront_34 (by rfl) ?_
      refine v_if_leN (tgt := 67) dX10_toFront_36 (by decide) (by omega) (fun c36 => ?_) (fun c36 => ?_)
      · refine v_aload_n dX10_toFront_67 rfl (by rfl) ?_
        refine v_getf hE dX10_toFront_68 fX10_87 mdS_M (by rfl) ?_
        refine v_iload dX10_toFront_71 (by rfl) ?_
        refine v_iload_n dX10_toFront_73 rfl (by rfl) ?_
        refine v_i2b dX10_toFront_74 rfl ?_
        refine m_bast hE (k := 25) dX10_toFront_75 (by decide) (by decide) rfl (show _ < 24960 by omega) (by omega) ?_
        rw [i8_nar, byt ch hch]
        refine v_aload_n dX10_toFront_76 rfl (by rfl) ?_
        refine v_getf hE dX10_toFront_77 fX10_90 mdS_M (by rfl) ?_
        refine v_iconst (v := nI 4) dX10_toFront_80 (by decide) ?_
        refine v_iload_n dX10_toFront_81 rfl (by rfl) ?_
        refine v_imulN dX10_toFront_82 ?_
        refine v_iload_n dX10_toFront_83 rfl (by rfl) ?_
        refine v_iaddN dX10_toFront_84 ?_
        refine v_dup2 dX10_toFront_85 rfl rfl ?_
        refine m_iald hE (k := 26) dX10_toFront_86 (by decide) (by decide) rfl (show _ < 960 by omega) (by omega) ?_
        refine v_eqi (y := nI (z q)) h26 ?_
        refine v_iconst (v := nI 1) dX10_toFront_87 (by decide) ?_
        refine v_iaddN dX10_toFront_88 ?_
        refine m_iast hE (k := 26) dX10_toFront_89 (by decide) (by decide) rfl (show _ < 960 by omega) (by omega) ?_
        refine v_iincN (y := 1) dX10_toFront_90 (by rfl) (by decide) (by decide) ?_
        refine v_goto (tgt := 2) dX10_toFront_93 (by decide) ?_
        have e9 : k = 0 := by omega
        subst e9
        refine ih (d - 1) (by omega) (q + 1) _ _ _ (by omega) (nFr_6 (nFr_5 (nFr_h hv (by omega)) (by omega) (by have := i8_nar (nI ch); rwa [byt ch hch] at this)) (by omega)) (by exact h21) ⟨?_, hrw.2.1, fun j hj => ?_⟩
        · show v.1 24 r = _
          exact hrw.1
        · obtain ⟨g1, g2, g3, g4⟩ := hrw.2.2 j hj
          have hz1 := (hv0.2.2 j hj).2.1
          have hz2 := hz j hj
          show upd (v.1 26) (4 * r + q) (nI (z q + 1)) (4 * r + j) = _ ∧ _ ∧ _ ∧ ∀ k, _ → upd (shT (v.1 25) (26 * (4 * r + q)) 0 (z q)) (26 * (4 * r + q)) (nI ch) (26 * (4 * r + j) + k) = _
          by_cases e : j = q
          · subst e
            dsimp only
            rw [updS, if_pos (by omega)]
            refine ⟨rfl, by omega, by omega, fun k hk => ?_⟩
            rw [if_pos (by omega)]
            by_cases e2 : k = 0
            · subst e2
              rw [if_pos rfl]
              exact updS
            · rw [if_neg e2, updN (by omega)]
              unfold shT
              rw [if_pos (by omega)]
              have := g4 (k - 1) (by dsimp only; rw [if_neg (by omega)]; omega)
              dsimp only at this
              rw [if_neg (by omega)] at this
              rw [← this]
              exact congrArg (v.1 25) (by omega)
          · rw [updN (by omega)]
            dsimp only at g1 g2 g3 g4 ⊢
            by_cases e2 : j < q
            · rw [if_pos e2] at g1 g2 g3 g4
              rw [if_pos (by omega)]
              refine ⟨g1, g2, g3, fun k hk => ?_⟩
              rw [if_pos (by omega), updN (by omega)]
              unfold shT
              rw [if_neg (by omega)]
              have := g4 k hk
              rw [if_pos e2] at this
              exact this
            · rw [if_neg e2] at g1 g2 g3 g4
              rw [if_neg (by omega)]
              refine ⟨g1, g2, g3, fun k hk => ?_⟩
              rw [if_neg (by omega), updN (by omega)]
              unfold shT
              rw [if_neg (by omega)]
              have := g4 k hk
              rw [if_neg e2] at this
              exact this
      · have hnw : vp_nar .byte (shT (v.1 25) (26 * (4 * r + q)) k (z q) (26 * (4 * r + q) + k - 1)) = shT (v.1 25) (26 * (4 * r + q)) k (z q) (26 * (4 * r + q) + k - 1) := by
          unfold shT
          split <;> exact hv.2.2.2.2.2.1 25 _ rfl
        refine v_aload_n dX10_toFront_39 rfl (by rfl) ?_
        refine v_getf hE dX10_toFront_40 fX10_87 mdS_M (by rfl) ?_
        refine v_iload dX10_toFront_43 (by rfl) ?_
        refine v_iload dX10_toFront_45 (by rfl) ?_
        refine v_iaddN dX10_toFront_47 ?_
        refine v_aload_n dX10_toFront_48 rfl (by rfl) ?_
        refine v_getf hE dX10_toFront_49 fX10_87 mdS_M (by rfl) ?_
        refine v_iload dX10_toFront_52 (by rfl) ?_
        refine v_iload dX10_toFront_54 (by rfl) ?_
        refine v_iaddN dX10_toFront_56 ?_
        refine v_iconst (v := nI 1) dX10_toFront_57 (by decide) ?_
        refine v_isubN dX10_toFront_58 (by omega) ?_
        refine m_bald hE (k := 25) dX10_toFront_59 (by decide) (by decide) rfl (show _ < 24960 by omega) (by omega) ?_
        refine v_eqi (y := shT (v.1 25) (26 * (4 * r + q)) k (z q) (26 * (4 * r + q) + k - 1)) rfl ?_
        refine m_bast hE (k := 25) dX10_toFront_60 (by decide) (by decide) rfl (show _ < 24960 by omega) (by omega) ?_
        rw [hnw]
        refine v_iinc dX10_toFront_61 (by rfl) rfl (by decide) ?_
        refine v_goto (tgt := 34) dX10_toFront_64 (by decide) ?_
        have hks : nI k + Int32.ofInt (-1) = nI (k - 1) := by
          obtain ⟨m, rfl⟩ : ∃ m, k = m + 1 := ⟨k - 1, by omega⟩
          exact kD_step (m + 1)
        rw [hks]
        refine v_hp (show _ = mdS f M (va_up v.1 25 (shT (v.1 25) (26 * (4 * r + q)) (k - 1) (z q)), v.2) from by
          dsimp only
          rw [va_up_self, va_up_up, shT_s (by omega) (by omega)]) ?_
        exact ih2 (k - 1) (by omega) (by omega)
    refine v_iload_n dX10_toFront_2 rfl (by rfl) ?_
    refine v_aload_n dX10_toFront_3 rfl (by rfl) ?_
    refine v_getf hE dX10_toFront_4 fX10_84 mdS_M (by rfl) ?_
    refine v_iload_n dX10_toFront_7 rfl (by rfl) ?_
    refine m_iald hE (k := 24) dX10_toFront_8 (by decide) (by decide) rfl (show _ < 240 by omega) (by omega) ?_
    refine v_eqi (y := nI A) hrw.1 ?_
    refine v_icmp_gtN (tgt := 96) dX10_toFront_9 (by decide) (by omega) (by omega) (fun c9 => ?_) (fun c9 => ?_)
    · refine v_ret dX10_toFront_96 rfl ?_
      have e9 : q = A + 1 := by omega
      subst e9
      exact ⟨rfl, rfl, v, rfl, hv, h21, mRw_z (mRw_c hrw (fun j k hj hk => if_pos (by omega))) (fun j hj => (if_pos (by omega)).symm)⟩
    · have h26 : v.1 26 (4 * r + q) = nI (z q) := by
        have := (hrw.2.2 q (by omega)).1
        dsimp only at this
        rw [if_neg (by omega)] at this
        exact this
      have hzq := hz q (by omega)
      refine v_bipush (v := nI 26) dX10_toFront_12 (by decide) ?_
      refine v_iconst (v := nI 4) dX10_toFront_14 (by decide) ?_
      refine v_iload_n dX10_toFront_15 rfl (by rfl) ?_
      refine v_imulN dX10_toFront_16 ?_
      refine v_iload_n dX10_toFront_17 rfl (by rfl) ?_
      refine v_iaddN dX10_toFront_18 ?_
      refine v_imulN dX10_toFront_19 ?_
      refine v_istore dX10_toFront_20 (by decide) ?_
      refine v_aload_n dX10_toFront_22 rfl (by rfl) ?_
      refine v_getf hE dX10_toFront_23 fX10_90 mdS_M (by rfl) ?_
      refine v_iconst (v := nI 4) dX10_toFront_26 (by decide) ?_
      refine v_iload_n dX10_toFront_27 rfl (by rfl) ?_
      refine v_imulN dX10_toFront_28 ?_
      refine v_iload_n dX10_toFront_29 rfl (by rfl) ?_
      refine v_iaddN dX10_toFront_30 ?_
      refine m_iald hE (k := 26) dX10_toFront_31 (by decide) (by decide) rfl (show _ < 960 by omega) (by omega) ?_
      refine v_eqi (y := nI (z q)) h26 ?_
      refine v_istore dX10_toFront_32 (by decide) ?_
      refine v_hp (show _ = mdS f M (va_up v.1 25 (shT (v.1 25) (26 * (4 * r + q)) (z q) (z q)), v.2) from by rw [shT_n, va_up_id rfl]) ?_
      exact lk (by omega) h26 (z q) (Nat.le_refl _)
  refine v_iconst (v := nI 0) dX10_toFront_0 (by decide) ?_
  refine v_istore_n dX10_toFront_1 rfl (by decide) ?_
  exact lp (A + 1) 0 y _ _ (by omega) (nFr_r hO) rfl (mRw_z (mRw_c hv0 (fun j k hj hk => (if_neg (by omega)).symm)) (fun j hj => if_neg (by omega)))

set_option maxRecDepth 100000 in
set_option maxHeartbeats 1500000 in
/-- model: fromFront -/
theorem sX10_fromFront {E : eN} (hE : eOk E) {f : aH} {t : Nat} {M : Nat} {y : mV} {r A : Nat} {z : Nat → Nat} {c : Nat → Nat → Int32} (hv0 : mRw y r A z c) (hr : r < 240) (hO : aNw y.1) (hz : ∀ q, q ≤ A → 2 ≤ z q) : mT E mX10_fromFront 0 0 [.ref M, .int (nI r)] (mdS f M y) t (fun o f' t' => o = .inl none ∧ t' = t ∧ ∃ y', f' = mdS f M y' ∧ nFr r y y' ∧ y'.1 21 = y.1 21 ∧ mRw y' r A (fun j => z j - 1) (fun j k => c j (k + 1))) := by
  refine mT_of (n := 3) (lo := [some (.ref M), some (.int (nI r)), none, none, none]) (by decide) (by exact Nat.le_of_ble_eq_true rfl) rfl rfl ?_
  have hA3 := hv0.2.1
  have lp : ∀ (d q : Nat) (v : mV) (z3 z4 : Option Value), q + d = A + 1 → nFr r y v → v.1 21 = y.1 21 → mRw v r A (fun j => if j < q then z j - 1 else z j) (fun j k => if j < q then c j (k + 1) else c j k) → V E mX10_fromFront 0 0 (fun o f' t' => o = .inl none ∧ t' = t ∧ ∃ y', f' = mdS f M y' ∧ nFr r y y' ∧ y'.1 21 = y.1 21 ∧ mRw y' r A (fun j => z j - 1) (fun j k => c j (k + 1))) 2 [some (.ref M), some (.int (nI r)), some (.int (nI q)), z3, z4] [] (mdS f M v) t 0 0 := by
    intro d
    induction d using Nat.strongRecOn with
    | _ d ih =>
    intro q v z3 z4 hd hv h21 hrw
    have lk : q ≤ A → ∀ v : mV, nFr r y v → v.1 21 = y.1 21 → v.1 26 (4 * r + q) = nI (z q - 1) → (v.1 24 r = nI A ∧ A ≤ 3 ∧ ∀ j, j ≤ A → (j ≠ q → v.1 26 (4 * r + j) = nI ((fun j => if j < q then z j - 1 else z j) j)) ∧ (fun j => if j < q then z j - 1 else z j) j ≤ 25 ∧ ∀ k, k < z j → (j < q → k < z j - 1) → v.1 25 (26 * (4 * r + j) + k) = (fun j k => if j < q then c j (k + 1) else c j k) j k) → ∀ (d2 k : Nat), k + d2 = z q - 1 → V E mX10_fromFront 0 0 (fun o f' t' => o = .inl none ∧ t' = t ∧ ∃ y', f' = mdS f M y' ∧ nFr r y y' ∧ y'.1 21 = y.1 21 ∧ mRw y' r A (fun j => z j - 1) (fun j k => c j (k + 1))) 38 [some (.ref M), some (.int (nI r)), some (.int (nI q)), some (.int (nI (26 * (4 * r + q)))), some (.int (nI k))] [] (mdS f M (va_up v.1 25 (shD (v.1 25) (26 * (4 * r + q)) k), v.2)) t 0 0 := by
      intro hqA v hv h21 h26 hrw d2
      have hzq := hz q hqA
      have hzq5 := (hv0.2.2 q hqA).2.2.1
      induction d2 using Nat.strongRecOn with
      | _ d2 ih2 =>
      intro k hk
      refine v_iload dX10_fromFront_38 (by rfl) ?_
      refine v_aload_n dX10_fromFront_40 rfl (by rfl) ?_
      refine v_getf hE dX10_fromFront_41 fX10_90 mdS_M (by rfl) ?_
      refine v_iconst (v := nI 4) dX10_fromFront_44 (by decide) ?_
      refine v_iload_n dX10_fromFront_45 rfl (by rfl) ?_
      refine v_imulN dX10_fromFront_46 ?_
      refine v_iload_n dX10_fromFront_47 rfl (by rfl) ?_
      refine v_iaddN dX10_fromFront_48 ?_
      refine m_iald hE (k := 26) dX10_fromFront_49 (by decide) (by decide) rfl (show _ < 960 by omega) (by omega) ?_
      refine v_eqi (y := nI (z q - 1)) h26 ?_
      refine v_icmp_geN (tgt := 79) dX10_fromFront_50 (by decide) (by omega) (by omega) (fun c50 => ?_) (fun c50 => ?_)
      · refine v_iincN (y := 1) dX10_fromFront_79 (by rfl) (by decide) (by decide) ?_
        refine v_goto (tgt := 2) dX10_fromFront_82 (by decide) ?_
        have e9 : k = z q - 1 := by omega
        subst e9
        refine ih (d - 1) (by omega) (q + 1) _ _ _ (by omega) (nFr_d hv (by omega)) (by exact h21) ⟨hrw.1, hrw.2.1, fun j hj => ?_⟩
        obtain ⟨g1, g3, g4⟩ := hrw.2.2 j hj
        have hz1 := hz j hj
        have hz2 := (hv0.2.2 j hj).2.2.1
        show v.1 26 (4 * r + j) = _ ∧ _ ∧ _ ∧ ∀ k, _ → shD (v.1 25) (26 * (4 * r + q)) (z q - 1) (26 * (4 * r + j) + k) = _
        by_cases e : j = q
        · subst e
          dsimp only
          rw [if_pos (by omega)]
          refine ⟨h26, by omega, by omega, fun k hk => ?_⟩
          rw [if_pos (by omega)]
          unfold shD
          rw [if_pos (by omega)]
          have := g4 (k + 1) (by omega) (by omega)
          dsimp only at this
          rw [if_neg (by omega)] at this
          rw [← this]
          exact congrArg (v.1 25) (by omega)
        · dsimp only at g1 g3 g4 ⊢
          by_cases e2 : j < q
          · rw [if_pos e2] at g1 g3
            rw [if_pos (by omega)]
            refine ⟨g1 e, by omega, by omega, fun k hk => ?_⟩
            rw [if_pos (by omega)]
            unfold shD
            rw [if_neg (by omega)]
            have := g4 k (by omega) (by omega)
            rw [if_pos e2] at this
            exact this
          · rw [if_neg e2] at g1 g3
            rw [if_neg (by omega)]
            refine ⟨g1 e, by omega, by omega, fun k hk => ?_⟩
            rw [if_neg (by omega)]
            unfold shD
            rw [if_neg (by omega)]
            have := g4 k (by omega) (by omega)
            rw [if_neg e2] at this
            exact this
      · have hnw : vp_nar .byte (shD (v.1 25) (26 * (4 * r + q)) k (26 * (4 * r + q) + k + 1)) = shD (v.1 25) (26 * (4 * r + q)) k (26 * (4 * r + q) + k + 1) := by
          unfold shD
          split <;> exact hv.2.2.2.2.2.1 25 _ rfl
        refine v_aload_n dX10_fromFront_53 rfl (by rfl) ?_
        refine v_getf hE dX10_fromFront_54 fX10_87 mdS_M (by rfl) ?_
        refine v_iload_n dX10_fromFront_57 rfl (by rfl) ?_
        refine v_iload dX10_fromFront_58 (by rfl) ?_
        refine v_iaddN dX10_fromFront_60 ?_
        refine v_aload_n dX10_fromFront_61 rfl (by rfl) ?_
        refine v_getf hE dX10_fromFront_62 fX10_87 mdS_M (by rfl) ?_
        refine v_iload_n dX10_fromFront_65 rfl (by rfl) ?_
        refine v_iload dX10_fromFront_66 (by rfl) ?_
        refine v_iaddN dX10_fromFront_68 ?_
        refine v_iconst (v := nI 1) dX10_fromFront_69 (by decide) ?_
        refine v_iaddN dX10_fromFront_70 ?_
        refine m_bald hE (k := 25) dX10_fromFront_71 (by decide) (by decide) rfl (show _ < 24960 by omega) (by omega) ?_
        refine v_eqi (y := shD (v.1 25) (26 * (4 * r + q)) k (26 * (4 * r + q) + k + 1)) rfl ?_
        refine m_bast hE (k := 25) dX10_fromFront_72 (by decide) (by decide) rfl (show _ < 24960 by omega) (by omega) ?_
        rw [hnw]
        refine v_iincN (y := 1) dX10_fromFront_73 (by rfl) (by decide) (by decide) ?_
        refine v_goto (tgt := 38) dX10_fromFront_76 (by decide) ?_
        refine v_hp (show _ = mdS f M (va_up v.1 25 (shD (v.1 25) (26 * (4 * r + q)) (k + 1)), v.2) from by
          dsimp only
          rw [va_up_self, va_up_up, shD_s]) ?_
        exact ih2 (d2 - 1) (by omega) (k + 1) (by omega)
    refine v_iload_n dX10_fromFront_2 rfl (by rfl) ?_
    refine v_aload_n dX10_fromFront_3 rfl (by rfl) ?_
    refine v_getf hE dX10_fromFront_4 fX10_84 mdS_M (by rfl) ?_
    refine v_iload_n dX10_fromFront_7 rfl (by rfl) ?_
    refine m_iald hE (k := 24) dX10_fromFront_8 (by decide) (by decide) rfl (show _ < 240 by omega) (by omega) ?_
    refine v_eqi (y := nI A) hrw.1 ?_
    refine v_icmp_gtN (tgt := 85) dX10_fromFront_9 (by decide) (by omega) (by omega) (fun c9 => ?_) (fun c9 => ?_)
    · refine v_ret dX10_fromFront_85 rfl ?_
      have e9 : q = A + 1 := by omega
      subst e9
      exact ⟨rfl, rfl, v, rfl, hv, h21, mRw_z (mRw_c hrw (fun j k hj hk => if_pos (by omega))) (fun j hj => (if_pos (by omega)).symm)⟩
    · have h26 : v.1 26 (4 * r + q) = nI (z q) := by
        have := (hrw.2.2 q (by omega)).1
        dsimp only at this
        rw [if_neg (by omega)] at this
        exact this
      have hzq := hz q (by omega)
      have hzq5 := (hv0.2.2 q (by omega)).2.2.1
      refine v_bipush (v := nI 26) dX10_fromFront_12 (by decide) ?_
      refine v_iconst (v := nI 4) dX10_fromFront_14 (by decide) ?_
      refine v_iload_n dX10_fromFront_15 rfl (by rfl) ?_
      refine v_imulN dX10_fromFront_16 ?_
      refine v_iload_n dX10_fromFront_17 rfl (by rfl) ?_
      refine v_iaddN dX10_fromFront_18 ?_
      refine v_imulN dX10_fromFront_19 ?_
      refine v_istore_n dX10_fromFront_20 rfl (by decide) ?_
      refine v_aload_n dX10_fromFront_21 rfl (by rfl) ?_
      refine v_getf hE dX10_fromFront_22 fX10_90 mdS_M (by rfl) ?_
      refine v_iconst (v := nI 4) dX10_fromFront_25 (by decide) ?_
      refine v_iload_n dX10_fromFront_26 rfl (by rfl) ?_
      refine v_imulN dX10_fromFront_27 ?_
      refine v_iload_n dX10_fromFront_28 rfl (by rfl) ?_
      refine v_iaddN dX10_fromFront_29 ?_
      refine v_dup2 dX10_fromFront_30 rfl rfl ?_
      refine m_iald hE (k := 26) dX10_fromFront_31 (by decide) (by decide) rfl (show _ < 960 by omega) (by omega) ?_
      refine v_eqi (y := nI (z q)) h26 ?_
      refine v_iconst (v := nI 1) dX10_fromFront_32 (by decide) ?_
      refine v_isubN dX10_fromFront_33 (by omega) ?_
      refine m_iast hE (k := 26) dX10_fromFront_34 (by decide) (by decide) rfl (show _ < 960 by omega) (by omega) ?_
      refine v_iconst (v := nI 0) dX10_fromFront_35 (by decide) ?_
      refine v_istore dX10_fromFront_36 (by decide) ?_
      refine v_hp (show _ = mdS f M (va_up (va_up v.1 26 (upd (v.1 26) (4 * r + q) (nI (z q - 1)))) 25 (shD (v.1 25) (26 * (4 * r + q)) 0), v.2) from by
        rw [shD_0]
        exact congrArg (mdS f M) (Prod.ext (va_up_id (W := va_up v.1 26 (upd (v.1 26) (4 * r + q) (nI (z q - 1)))) (x := 25) rfl).symm rfl)) ?_
      refine lk (by omega) (va_up v.1 26 (upd (v.1 26) (4 * r + q) (nI (z q - 1))), v.2) (nFr_6 hv (by omega)) (by exact h21) ?_ ?_ (z q - 1) 0 (by omega)
      · show upd (v.1 26) (4 * r + q) (nI (z q - 1)) (4 * r + q) = _
        exact updS
      · refine ⟨hrw.1, hrw.2.1, fun j hj => ?_⟩
        obtain ⟨g1, g2, g3, g4⟩ := hrw.2.2 j hj
        refine ⟨fun e => ?_, g3, fun k hk hk2 => ?_⟩
        · show upd (v.1 26) (4 * r + q) (nI (z q - 1)) (4 * r + j) = _
          rw [updN (by omega)]
          exact g1
        · refine g4 k ?_
          dsimp only
          split
          · rename_i e2
            exact hk2 e2
          · exact hk
  refine v_iconst (v := nI 0) dX10_fromFront_0 (by decide) ?_
  refine v_istore_n dX10_fromFront_1 rfl (by decide) ?_
  exact lp (A + 1) 0 y _ _ (by omega) (nFr_r hO) rfl (mRw_z (mRw_c hv0 (fun j k hj hk => (if_neg (by omega)).symm)) (fun j hj => if_neg (by omega)))
