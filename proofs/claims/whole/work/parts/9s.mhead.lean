theorem qCutL_12 {u : tS} {e : Nat} : ∀ (d k : Nat) (x : (Nat → Nat) × Nat × Nat), k + d = e + 1 → x.2.1 ≤ k → (0 < x.2.2 → x.2.2 ≤ 12 → x.1 x.2.2 = x.2.1) → (12 < x.2.2 → x.1 12 ≤ e) → 12 < (qCutL u e d k x).2.2 → (qCutL u e d k x).1 12 ≤ e := by
  intro d
  induction d with
  | zero => intro k x _ _ _ h; exact h
  | succ d ih =>
    intro k x h1 h2 h3 h4
    have e0 : qCutL u e (d + 1) k x = qCutL u e d (k + 1) (qCutS u e k x) := rfl
    rw [e0]
    by_cases c : k = e ∨ mOct u k = nI 9
    · have es : qCutS u e k x = (if x.2.2 < 12 then va_up (va_up x.1 x.2.2 x.2.1) (x.2.2 + 1) (k + 1) else x.1, k + 1, x.2.2 + 1) := if_pos c
      rw [es]
      refine ih (k + 1) _ (by omega) (Nat.le_refl _) (fun _ a => ?_) (fun a => ?_)
      · have a : x.2.2 + 1 ≤ 12 := a
        dsimp only
        rw [if_pos (by omega), va_up_self]
      · have a : 12 < x.2.2 + 1 := a
        dsimp only
        rw [if_neg (by omega)]
        by_cases q : x.2.2 = 12
        · have := h3 (by omega) (by omega)
          rw [q] at this
          omega
        · exact h4 (by omega)
    · have es : qCutS u e k x = x := if_neg c
      rw [es]
      exact ih (k + 1) x (by omega) (by omega) h3 h4
theorem qCut_12 {u : tS} {v : qV} (h : qBg v ≤ qE v) (hc : 12 < qCm (qCut u v)) : qSt (qCut u v) 12 ≤ qE v := qCutL_12 (u := u) (e := qE v) (qE v + 1 - qBg v) (qBg v) (qSt v, qBg v, 0) (by omega) (Nat.le_refl _) (fun a => absurd a (Nat.lt_irrefl _)) (fun a => absurd (show 12 < 0 from a) (by decide)) hc
theorem tPart_3 {u : tS} {i j n q : Nat} {f : Nat → Int32} (hj : j ≤ u.1) (hn : n < 3) (hq : q ≤ 20) : tPart u i j f (3 * 20) (n * 20) q = (decide (j - i = q) && allB (fun k => decide (u.2.1 (i + k) = f (n * 20 + k))) (q - 0) 0) := by
  unfold tPart
  rw [decide_eq_true hj, decide_eq_true (show n * 20 + q ≤ 3 * 20 by omega), Bool.true_and, Bool.true_and]
/-- the names of the model's table 2 are those of n -/
def nmH (v : mV) (n : nV) (s : Nat) : Prop := n.1 = s ∧ s ≤ 3 ∧ v.1 17 2 = nI s ∧ ∀ t, t < s → v.1 19 (6 + t) = nI (n.2.2 t) ∧ n.2.2 t ≤ 20 ∧ ∀ k, k < n.2.2 t → v.1 18 (20 * (6 + t) + k) = n.2.1 (t * 20 + k) ∧ ∃ c, c < 128 ∧ n.2.1 (t * 20 + k) = nI c
def rHd (y z : mV) : Prop := z.2 = y.2 ∧ (∀ k, k ≠ 17 → k ≠ 18 → k ≠ 19 → z.1 k = y.1 k) ∧ (∀ i, i ≠ 2 → z.1 17 i = y.1 17 i) ∧ (∀ i, i < 6 ∨ 9 ≤ i → z.1 19 i = y.1 19 i) ∧ (∀ i, i < 120 ∨ 180 ≤ i → z.1 18 i = y.1 18 i) ∧ aNw z.1
theorem rHd_7 {y v : mV} {x : Int32} (h : rHd y v) : rHd y (va_up v.1 17 (upd (v.1 17) 2 x), v.2) := ⟨h.1, fun k a b c => (va_up_ne _ _ a).trans (h.2.1 k a b c), fun i hi => by
  show upd (v.1 17) 2 x i = _
  rw [updN hi]
  exact h.2.2.1 i hi, h.2.2.2.1, h.2.2.2.2.1, aNw_i h.2.2.2.2.2 rfl⟩
theorem rHd_9 {y v : mV} {x : Int32} {j : Nat} (h : rHd y v) (hj : 6 ≤ j ∧ j < 9) : rHd y (va_up v.1 19 (upd (v.1 19) j x), v.2) := ⟨h.1, fun k a b c => (va_up_ne _ _ c).trans (h.2.1 k a b c), h.2.2.1, fun i hi => by
  show upd (v.1 19) j x i = _
  rw [updN (by omega)]
  exact h.2.2.2.1 i hi, h.2.2.2.2.1, aNw_i h.2.2.2.2.2 rfl⟩
theorem rHd_8 {y v : mV} {x : Int32} {j : Nat} (h : rHd y v) (hj : 120 ≤ j ∧ j < 180) (hx : vp_nar .byte x = x) : rHd y (va_up v.1 18 (upd (v.1 18) j x), v.2) := ⟨h.1, fun k a b c => (va_up_ne _ _ b).trans (h.2.1 k a b c), h.2.2.1, h.2.2.2.1, fun i hi => by
  show upd (v.1 18) j x i = _
  rw [updN (by omega)]
  exact h.2.2.2.2.1 i hi, aNw_1 h.2.2.2.2.2 (fun _ => upd_nar (fun i => h.2.2.2.2.2.1 18 i rfl) hx) (fun z => by cases z)⟩
theorem nmH_9 {v : mV} {n : nV} {s : Nat} {x : Int32} (h : nmH v n s) : nmH (va_up v.1 19 (upd (v.1 19) (6 + s) x), v.2) n s := ⟨h.1, h.2.1, h.2.2.1, fun t ht => ⟨by
  show upd (v.1 19) (6 + s) x (6 + t) = _
  rw [updN (by omega)]
  exact (h.2.2.2 t ht).1, (h.2.2.2 t ht).2⟩⟩
theorem nmH_8 {v : mV} {n : nV} {s k : Nat} {x : Int32} (h : nmH v n s) (hk : k < 20) : nmH (va_up v.1 18 (upd (v.1 18) (20 * (6 + s) + k) x), v.2) n s := ⟨h.1, h.2.1, h.2.2.1, fun t ht => ⟨(h.2.2.2 t ht).1, (h.2.2.2 t ht).2.1, fun j hj => ⟨by
  have := (h.2.2.2 t ht).2.1
  show upd (v.1 18) (20 * (6 + s) + k) x (20 * (6 + t) + j) = _
  rw [updN (by omega)]
  exact ((h.2.2.2 t ht).2.2 j hj).1, ((h.2.2.2 t ht).2.2 j hj).2⟩⟩⟩
set_option maxRecDepth 100000 in
set_option maxHeartbeats 1500000 in
/-- model: readHead -/
theorem sX10_readHead {E : eN} (hE : eOk E) {f : aH} {t : Nat} {M : Nat} {y : mV} {u : tS} {q : qV} {n0 : nV} (hp : mTp y u) (hO : aNw y.1) (hL : qBg q ≤ qE q) (hE2 : qE q < u.1) (hn0 : n0.1 = 0) : mT E mX10_readHead 0 0 [.ref M, .int (nI (qBg q)), .int (nI (qE q))] (mdS f M y) t (fun o f' t' => o = .inl (some (.int (bI (qHead u (qCut u q) n0).1))) ∧ t' = t ∧ ∃ y', f' = mdS f M y' ∧ rHd y y' ∧ ((qHead u (qCut u q) n0).1 = true → nmH y' (qHead u (qCut u q) n0).2 (qHead u (qCut u q) n0).2.1)) := by
  refine mT_of (n := 4) (lo := [some (.ref M), some (.int (nI (qBg q))), some (.int (nI (qE q))), none, none, none, none]) (by decide) (by exact Nat.le_of_ble_eq_true rfl) rfl rfl ?_
  have hu8 := hp.2.1
  have lp : 9 ≤ qCm (qCut u q) → ∀ (d c : Nat) (n : nV) (v : mV) (z4 z5 z6 : Option Value), c + d = 13 → 9 ≤ c → c ≤ 12 ∧ c ≤ qCm (qCut u q) → rHd y v → nmH v n (c - 9) → (qCm (qCut u q) ≤ 12 → (qHead u (qCut u q) n0) = qHeadL u (qCut u q) (qCm (qCut u q) - c) c n) → (12 < qCm (qCut u q) → (qHead u (qCut u q) n0).1 = false) → V E mX10_readHead 0 0 (fun o f' t' => o = .inl (some (.int (bI (qHead u (qCut u q) n0).1))) ∧ t' = t ∧ ∃ y', f' = mdS f M y' ∧ rHd y y' ∧ ((qHead u (qCut u q) n0).1 = true → nmH y' (qHead u (qCut u q) n0).2 (qHead u (qCut u q) n0).2.1)) 80 [some (.ref M), some (.int (nI (qBg q))), some (.int (nI (qE q))), some (.int (nI (qSt (qCut u q) c))), z4, z5, z6] [] (mdS f M v) t 0 0 := by
    intro hcm9 d
    obtain ⟨hq1, hq2, hq3, hq4, hq5⟩ := qCut_f (u := u) (v := q) hL
    induction d using Nat.strongRecOn with
    | _ d ih =>
    intro c n v z4 z5 z6 hd hc9 hc12' hv hnm hr1 hr2
    have hst9 : qSt (qCut u q) c ≤ 8001 := by
      by_cases e : c < qCm (qCut u q)
      · by_cases e2 : c = 12
        · subst e2
          have := qCut_12 hL e
          omega
        · have := (hq4 c e (by omega)).1
          omega
      · have := hq5 (by omega)
        rw [show c = qCm (qCut u q) by omega]
        omega
    have hpv : mTp v u := ⟨by rw [hv.1]; exact hp.1, hp.2.1, by rw [hv.2.1 1 (by decide) (by decide) (by decide)]; exact hp.2.2⟩
    have l2 : c < 12 → c < qCm (qCut u q) → tWord u (qSt (qCut u q) c) (mCE u (qE q - qSt (qCut u q) c) (qSt (qCut u q) c)) = true → ∀ (v : mV), rHd y v → nmH v n (c - 9) → v.1 19 (6 + (c - 9)) = nI ((mCE u (qE q - qSt (qCut u q) c) (qSt (qCut u q) c)) - qSt (qCut u q) c) → (∀ k', k' < ((mCE u (qE q - qSt (qCut u q) c) (qSt (qCut u q) c)) - qSt (qCut u q) c) → v.1 18 (20 * (6 + (c - 9)) + k') = mOct u (qSt (qCut u q) c + k')) → ∀ (d2 o : Nat), o + d2 = (c - 9) → (∀ t, t < o → (fun t => tPart u (qSt (qCut u q) c) (qSt (qCut u q) (c + 1) - 1) n.2.1 (3 * 20) (t * 20) (n.2.2 t)) t = false) → V E mX10_readHead 0 0 (fun o f' t' => o = .inl (some (.int (bI (qHead u (qCut u q) n0).1))) ∧ t' = t ∧ ∃ y', f' = mdS f M y' ∧ rHd y y' ∧ ((qHead u (qCut u q) n0).1 = true → nmH y' (qHead u (qCut u q) n0).2 (qHead u (qCut u q) n0).2.1)) 183 [some (.ref M), some (.int (nI (qBg q))), some (.int (nI (qE q))), some (.int (nI (qSt (qCut u q) c))), some (.int (nI (mCE u (qE q - qSt (qCut u q) c) (qSt (qCut u q) c)))), some (.int (nI (c - 9))), some (.int (nI o))] [] (mdS f M v) t 0 0 := by
      intro hc12 hcq hw1 v hv hnm h19 hcel d2
      have hw2 := hw1
      unfold tWord at hw2
      rw [Bool.and_eq_true, Bool.and_eq_true, decide_eq_true_eq, decide_eq_true_eq, allB_iff] at hw2
      obtain ⟨hlt, h20, hall⟩ := hw2
      have hmle := mCE_le (u := u) (qE q - qSt (qCut u q) c) (qSt (qCut u q) c)
      have hstc := (hq4 c hcq (by omega)).1
      have hst1 := (hq4 c hcq (by omega)).2
      have hsm : ∀ k, k < ((mCE u (qE q - qSt (qCut u q) c) (qSt (qCut u q) c)) - qSt (qCut u q) c) → ∃ x, x < 128 ∧ mOct u (qSt (qCut u q) c + k) = nI x := fun k hk => by
        have q9 := hall (qSt (qCut u q) c + k) (by omega) (by omega)
        rw [okO_eq] at q9
        obtain ⟨x, c1, c2, c3⟩ := mIn_nat q9 (by decide) (by decide)
        exact ⟨x, by omega, c3⟩
      have hsn : ∀ o, o < (c - 9) → (fun t => tPart u (qSt (qCut u q) c) (qSt (qCut u q) (c + 1) - 1) n.2.1 (3 * 20) (t * 20) (n.2.2 t)) o = (mSN v (3 * 2 + o) (3 * 2 + (c - 9)) (n.2.2 o)) := fun o ho => by
        obtain ⟨b1, b2, b3⟩ := hnm.2.2.2 o ho
        show tPart u (qSt (qCut u q) c) (qSt (qCut u q) (c + 1) - 1) n.2.1 (3 * 20) (o * 20) (n.2.2 o) = _
        rw [tPart_3 (by omega) (by omega) b2]
        refine bool_eq ?_
        unfold mSN
        rw [Bool.and_eq_true, Bool.and_eq_true, decide_eq_true_eq, decide_eq_true_eq, allB_iff, allB_iff, show 3 * 2 + (c - 9) = 6 + (c - 9) by omega, show 3 * 2 + o = 6 + o by omega, h19]
        constructor
        · rintro ⟨z1, z2⟩
          refine ⟨congrArg nI (by omega), fun k k1 k2 => decide_eq_true ?_⟩
          rw [(b3 k (by omega)).1, hcel k (by omega), mOct_in (by omega) hp.2.1]
          exact (of_decide_eq_true (z2 k k1 k2)).symm
        · rintro ⟨z1, z2⟩
          have z3 := nI_inj z1 (by omega) (by omega)
          refine ⟨by omega, fun k k1 k2 => decide_eq_true ?_⟩
          have z4 := of_decide_eq_true (z2 k k1 k2)
          rw [(b3 k (by omega)).1, hcel k (by omega), mOct_in (by omega) hp.2.1] at z4
          exact z4.symm
      induction d2 using Nat.strongRecOn with
      | _ d2 ih2 =>
      intro o hd2 hno
      refine v_iload dX10_readHead_183 (by rfl) ?_
      refine v_iload dX10_readHead_185 (by rfl) ?_
      refine v_icmp_geN (tgt := 211) dX10_readHead_187 (by decide) (by omega) (by omega) (fun c187 => ?_) (fun c187 => ?_)
      · refine v_aload_n dX10_readHead_211 rfl (by rfl) ?_
        refine v_getf hE dX10_readHead_212 fX10_63 mdS_M (by rfl) ?_
        refine v_iconst (v := nI 2) dX10_readHead_215 (by decide) ?_
        refine v_dup2 dX10_readHead_216 rfl rfl ?_
        refine m_iald hE (k := 17) dX10_readHead_217 (by decide) (by decide) rfl (show _ < 4 by omega) (by omega) ?_
        refine v_eqi (y := nI (c - 9)) hnm.2.2.1 ?_
        refine v_iconst (v := nI 1) dX10_readHead_218 (by decide) ?_
        refine v_iaddN dX10_readHead_219 ?_
        refine m_iast hE (k := 17) dX10_readHead_220 (by decide) (by decide) rfl (show _ < 4 by omega) (by omega) ?_
        refine v_iload dX10_readHead_221 (by rfl) ?_
        refine v_iconst (v := nI 1) dX10_readHead_223 (by decide) ?_
        refine v_iaddN dX10_readHead_224 ?_
        refine v_eqi (y := nI (qSt (qCut u q) (c + 1))) (congrArg nI (by omega)) ?_
        refine v_istore_n dX10_readHead_225 rfl (by decide) ?_
        refine v_goto (tgt := 80) dX10_readHead_226 (by decide) ?_
        have e9 : o = (c - 9) := by omega
        subst e9
        have hni : nmIn 3 n u (qSt (qCut u q) c) (qSt (qCut u q) (c + 1) - 1) = -1 := by
          refine Classical.byContradiction (fun z => ?_)
          obtain ⟨t, t1, t2, t3, t4⟩ := fndB_r _ _ z
          rw [hnm.1] at t2
          have := hno t (by omega)
          exact Bool.noConfusion (this.symm.trans t4)
        have hqn : qName u (qSt (qCut u q) c) (qSt (qCut u q) (c + 1) - 1) n = (true, (qNmL u (qSt (qCut u q) (c + 1) - 1 - qSt (qCut u q) c) (qSt (qCut u q) c) (nmNew 3 n))) := if_pos ⟨by rw [hst1, show (mCE u (qE q - qSt (qCut u q) c) (qSt (qCut u q) c)) + 1 - 1 = (mCE u (qE q - qSt (qCut u q) c) (qSt (qCut u q) c)) by omega]; exact hw1, hni⟩
        have hnn : nmNew 3 n = (n.1 + 1, n.2.1, va_up n.2.2 n.1 0) := if_pos (by rw [hnm.1]; omega)
        have hz0 : (nmNew 3 n).2.2 (c - 9) = 0 := by
          rw [hnn, hnm.1]
          exact va_up_self _ _ _
        obtain ⟨a1, a2, a3, a4⟩ := qNmL_f (u := u) (c := (c - 9)) (qSt (qCut u q) (c + 1) - 1 - qSt (qCut u q) c) (qSt (qCut u q) c) (nmNew 3 n) (by rw [hnn]; show n.1 + 1 = _; rw [hnm.1]) (by rw [hz0]; omega)
        rw [hz0] at a2 a4
        refine ih (d - 1) (by omega) (c + 1) (qNmL u (qSt (qCut u q) (c + 1) - 1 - qSt (qCut u q) c) (qSt (qCut u q) c) (nmNew 3 n)) (va_up v.1 17 (upd (v.1 17) 2 (nI ((c - 9) + 1))), v.2) _ _ _ (by omega) (by omega) (by omega) (rHd_7 hv) ⟨by rw [a1]; omega, by omega, ?_, fun t ht => ?_⟩ (fun hc9 => ?_) hr2
        · show upd (v.1 17) 2 (nI ((c - 9) + 1)) 2 = _
          rw [updS]
          exact congrArg nI (by omega)
        · by_cases e : t = (c - 9)
          · subst e
            rw [a2]
            refine ⟨?_, by omega, fun k hk => ?_⟩
            · show v.1 19 (6 + (c - 9)) = _
              rw [h19]
              exact congrArg nI (by omega)
            · rw [a4, if_pos (by omega), show (c - 9) * 20 + k - ((c - 9) * 20 + 0) = k by omega]
              exact ⟨hcel k (by omega), hsm k (by omega)⟩
          · have hts : t < (c - 9) := by omega
            obtain ⟨b1, b2, b3⟩ := hnm.2.2.2 t hts
            have e1 : (qNmL u (qSt (qCut u q) (c + 1) - 1 - qSt (qCut u q) c) (qSt (qCut u q) c) (nmNew 3 n)).2.2 t = n.2.2 t := by
              rw [a3 t e, hnn]
              exact va_up_ne _ _ (by rw [hnm.1]; omega)
            rw [e1]
            refine ⟨b1, b2, fun k hk => ?_⟩
            rw [a4, if_neg (by omega), hnn]
            exact b3 k hk
        · rw [hr1 hc9, show qCm (qCut u q) - c = (qCm (qCut u q) - (c + 1)) + 1 by omega]
          show (if (qName u (qSt (qCut u q) c) (qSt (qCut u q) (c + 1) - 1) n).1 = true then qHeadL u (qCut u q) (qCm (qCut u q) - (c + 1)) (c + 1) (qName u (qSt (qCut u q) c) (qSt (qCut u q) (c + 1) - 1) n).2 else _) = _
          rw [hqn, if_pos rfl]
      · refine v_aload_n dX10_readHead_190 rfl (by rfl) ?_
        refine v_iconst (v := nI 2) dX10_readHead_191 (by decide) ?_
        refine v_iload dX10_readHead_192 (by rfl) ?_
        refine v_iconst (v := nI 2) dX10_readHead_194 (by decide) ?_
        refine v_iload dX10_readHead_195 (by rfl) ?_
        refine w_callV hE dX10_readHead_197 kX10_248 mdS_M (by rfl) (by rfl) (sX10_sameName hE (y := v) (a := 2) (r := o) (b := 2) (q := (c - 9)) (hnm.2.2.2 o (by omega)).1 (hnm.2.2.2 o (by omega)).2.1 (by decide) (by omega) (by decide) (by omega)) rfl (by decide) (by decide) (by exact Nat.le_of_ble_eq_true rfl) (by omega) (by omega) (fun v9 g9 u9 h9 => ?_) (fun _ _ _ h => by cases h.1)
        obtain ⟨hv9, hu9, hg9⟩ := h9
        replace hu9 := hu9.symm
        subst hu9
        subst hg9
        cases hv9
        refine v_if_eqB (tgt := 205) dX10_readHead_200 (by decide) (fun c200 => ?_) (fun c200 => ?_)
        · refine v_iincN (y := 1) dX10_readHead_205 (by rfl) (by decide) (by decide) ?_
          refine v_goto (tgt := 183) dX10_readHead_208 (by decide) ?_
          exact ih2 (d2 - 1) (by omega) (o + 1) (by omega) (fun t ht => by
            by_cases e : t = o
            · rw [e, hsn o (by omega)]
              exact c200
            · exact hno t (by omega))
        · refine v_iconst (v := nI 0) dX10_readHead_203 (by decide) ?_
          refine v_iret dX10_readHead_204 rfl (by first | rfl | exact nar_bI) ?_
          have hF : (qHead u (qCut u q) n0).1 = false := by
            by_cases hc9 : 12 < qCm (qCut u q)
            · exact hr2 hc9
            · rw [hr1 (by omega), show qCm (qCut u q) - c = (qCm (qCut u q) - (c + 1)) + 1 by omega]
              show (if (qName u (qSt (qCut u q) c) (qSt (qCut u q) (c + 1) - 1) n).1 = true then _ else (false, (qName u (qSt (qCut u q) c) (qSt (qCut u q) (c + 1) - 1) n).2) : Bool × nV).1 = false
              rw [if_neg]
              unfold qName
              rw [if_neg (fun z => by
                have z2 := fnd_no _ _ z.2 (by rw [hnm.1]; omega) o (Nat.zero_le _) (by rw [hnm.1]; omega)
                have z3 := (hsn o (by omega)).trans c200
                exact Bool.noConfusion (z3.symm.trans z2))]
              exact fun z => Bool.noConfusion z
          refine ⟨congrArg (fun x => (Sum.inl (some (Value.int x)) : aO)) (bI_f hF), rfl, _, rfl, hv, fun z => ?_⟩
          rw [hF] at z
          exact Bool.noConfusion z
    have l1 : c < 12 → c < qCm (qCut u q) → tWord u (qSt (qCut u q) c) (mCE u (qE q - qSt (qCut u q) c) (qSt (qCut u q) c)) = true → ∀ (d1 k : Nat) (v : mV), k + d1 = ((mCE u (qE q - qSt (qCut u q) c) (qSt (qCut u q) c)) - qSt (qCut u q) c) → rHd y v → nmH v n (c - 9) → v.1 19 (6 + (c - 9)) = nI ((mCE u (qE q - qSt (qCut u q) c) (qSt (qCut u q) c)) - qSt (qCut u q) c) → (∀ k', k' < k → v.1 18 (20 * (6 + (c - 9)) + k') = mOct u (qSt (qCut u q) c + k')) → V E mX10_readHead 0 0 (fun o f' t' => o = .inl (some (.int (bI (qHead u (qCut u q) n0).1))) ∧ t' = t ∧ ∃ y', f' = mdS f M y' ∧ rHd y y' ∧ ((qHead u (qCut u q) n0).1 = true → nmH y' (qHead u (qCut u q) n0).2 (qHead u (qCut u q) n0).2.1)) 140 [some (.ref M), some (.int (nI (qBg q))), some (.int (nI (qE q))), some (.int (nI (qSt (qCut u q) c))), some (.int (nI (mCE u (qE q - qSt (qCut u q) c) (qSt (qCut u q) c)))), some (.int (nI (c - 9))), some (.int (nI k))] [] (mdS f M v) t 0 0 := by
      intro hc12 hcq hw1 d1
      have hw2 := hw1
      unfold tWord at hw2
      rw [Bool.and_eq_true, Bool.and_eq_true, decide_eq_true_eq, decide_eq_true_eq, allB_iff] at hw2
      obtain ⟨hlt, h20, hall⟩ := hw2
      have hmle := mCE_le (u := u) (qE q - qSt (qCut u q) c) (qSt (qCut u q) c)
      have hstc := (hq4 c hcq (by omega)).1
      have hst1 := (hq4 c hcq (by omega)).2
      have hsm : ∀ k, k < ((mCE u (qE q - qSt (qCut u q) c) (qSt (qCut u q) c)) - qSt (qCut u q) c) → ∃ x, x < 128 ∧ mOct u (qSt (qCut u q) c + k) = nI x := fun k hk => by
        have q9 := hall (qSt (qCut u q) c + k) (by omega) (by omega)
        rw [okO_eq] at q9
        obtain ⟨x, c1, c2, c3⟩ := mIn_nat q9 (by decide) (by decide)
        exact ⟨x, by omega, c3⟩
      induction d1 using Nat.strongRecOn with
      | _ d1 ih1 =>
      intro k v hd1 hv hnm h19 hcel
      refine v_iload dX10_readHead_140 (by rfl) ?_
      refine v_iload dX10_readHead_142 (by rfl) ?_
      refine v_iload_n dX10_readHead_144 rfl (by rfl) ?_
      refine v_isubN dX10_readHead_145 (by omega) ?_
      refine v_icmp_geN (tgt := 180) dX10_readHead_146 (by decide) (by omega) (by omega) (fun c146 => ?_) (fun c146 => ?_)
      · refine v_iconst (v := nI 0) dX10_readHead_180 (by decide) ?_
        refine v_istore dX10_readHead_181 (by decide) ?_
        have e9 : k = ((mCE u (qE q - qSt (qCut u q) c) (qSt (qCut u q) c)) - qSt (qCut u q) c) := by omega
        subst e9
        exact l2 hc12 hcq hw1 v hv hnm h19 hcel (c - 9) 0 (by omega) (fun t ht => absurd ht (Nat.not_lt_zero _))
      · obtain ⟨x1, x2, x3⟩ := hsm k (by omega)
        have hpv : mTp v u := ⟨by rw [hv.1]; exact hp.1, hp.2.1, by rw [hv.2.1 1 (by decide) (by decide) (by decide)]; exact hp.2.2⟩
        refine v_aload_n dX10_readHead_149 rfl (by rfl) ?_
        refine v_getf hE dX10_readHead_150 fX10_66 mdS_M (by rfl) ?_
        refine v_bipush (v := nI 20) dX10_readHead_153 (by decide) ?_
        refine v_bipush (v := nI 6) dX10_readHead_155 (by decide) ?_
        refine v_iload dX10_readHead_157 (by rfl) ?_
        refine v_iaddN dX10_readHead_159 ?_
        refine v_imulN dX10_readHead_160 ?_
        refine v_iload dX10_readHead_161 (by rfl) ?_
        refine v_iaddN dX10_readHead_163 ?_
        refine v_aload_n dX10_readHead_164 rfl (by rfl) ?_
        refine v_iload_n dX10_readHead_165 rfl (by rfl) ?_
        refine v_iload dX10_readHead_166 (by rfl) ?_
        refine v_iaddN dX10_readHead_168 ?_
        refine w_callV hE dX10_readHead_169 kX10_156 mdS_M (by rfl) (by rfl) (sX10_at hE (y := v) (u := u) hpv (by omega)) rfl (by decide) (by decide) (by exact Nat.le_of_ble_eq_true rfl) (by omega) (by omega) (fun v9 g9 u9 h9 => ?_) (fun _ _ _ h => by cases h.1)
        obtain ⟨hv9, hu9, hg9⟩ := h9
        replace hu9 := hu9.symm
        subst hu9
        subst hg9
        cases hv9
        refine v_eqi (y := nI x1) x3 ?_
        refine v_i2b dX10_readHead_172 rfl ?_
        refine m_bast hE (k := 18) dX10_readHead_173 (by decide) (by decide) rfl (show _ < 240 by omega) (by omega) ?_
        rw [i8_nar, byt x1 x2]
        refine v_iincN (y := 1) dX10_readHead_174 (by rfl) (by decide) (by decide) ?_
        refine v_goto (tgt := 140) dX10_readHead_177 (by decide) ?_
        refine ih1 (d1 - 1) (by omega) (k + 1) _ (by omega) (rHd_8 hv (by omega) (by have := i8_nar (nI x1); rwa [byt x1 x2] at this)) (nmH_8 hnm (by omega)) h19 (fun k' hk' => ?_)
        show upd (v.1 18) (20 * (6 + (c - 9)) + k) (nI x1) (20 * (6 + (c - 9)) + k') = _
        by_cases e : k' = k
        · rw [e, updS, x3]
        · rw [updN (by omega)]
          exact hcel k' (by omega)
    refine v_iload_n dX10_readHead_80 rfl (by rfl) ?_
    refine v_iload_n dX10_readHead_81 rfl (by rfl) ?_
    refine v_icmp_gtN (tgt := 229) dX10_readHead_82 (by decide) (by omega) (by omega) (fun c82 => ?_) (fun c82 => ?_)
    · refine v_iconst (v := nI 1) dX10_readHead_229 (by decide) ?_
      refine v_iret dX10_readHead_230 rfl (by first | rfl | exact nar_bI) ?_
      have hcq : c = qCm (qCut u q) := by
        by_cases e : c = qCm (qCut u q)
        · exact e
        · by_cases e2 : c = 12
          · subst e2
            have := qCut_12 hL (show 12 < qCm (qCut u q) by omega)
            omega
          · have := (hq4 c (by omega) (by omega)).1
            omega
      have hR9 : (qHead u (qCut u q) n0) = (true, n) := by
        rw [hr1 (by omega), hcq, Nat.sub_self]
        rfl
      refine ⟨congrArg (fun x => (Sum.inl (some (Value.int x)) : aO)) (bI_t (by rw [hR9])), rfl, v, rfl, hv, fun _ => ?_⟩
      rw [hR9]
      show nmH v n n.1
      rw [hnm.1]
      exact hnm
    · have hmle := mCE_le (u := u) (qE q - qSt (qCut u q) c) (qSt (qCut u q) c)
      refine v_aload_n dX10_readHead_85 rfl (by rfl) ?_
      refine v_iload_n dX10_readHead_86 rfl (by rfl) ?_
      refine v_iload_n dX10_readHead_87 rfl (by rfl) ?_
      refine w_callV hE dX10_readHead_88 kX10_238 mdS_M (by rfl) (by rfl) (sX10_columnEnd hE (y := v) (u := u) hpv (by omega) (by omega)) rfl (by decide) (by decide) (by exact Nat.le_of_ble_eq_true rfl) (by omega) (by omega) (fun v9 g9 u9 h9 => ?_) (fun _ _ _ h => by cases h.1)
      obtain ⟨hv9, hu9, hg9⟩ := h9
      replace hu9 := hu9.symm
      subst hu9
      subst hg9
      cases hv9
      refine v_istore dX10_readHead_91 (by decide) ?_
      refine v_aload_n dX10_readHead_93 rfl (by rfl) ?_
      refine v_getf hE dX10_readHead_94 fX10_63 mdS_M (by rfl) ?_
      refine v_iconst (v := nI 2) dX10_readHead_97 (by decide) ?_
      refine m_iald hE (k := 17) dX10_readHead_98 (by decide) (by decide) rfl (show _ < 4 by omega) (by omega) ?_
      refine v_eqi (y := nI (c - 9)) hnm.2.2.1 ?_
      refine v_iconst (v := nI 3) dX10_readHead_99 (by decide) ?_
      refine v_icmp_eqN (tgt := 113) dX10_readHead_100 (by decide) (by omega) (by omega) (fun c100 => ?_) (fun c100 => ?_)
      · refine v_iconst (v := nI 0) dX10_readHead_113 (by decide) ?_
        refine v_iret dX10_readHead_114 rfl (by first | rfl | exact nar_bI) ?_
        have hF : (qHead u (qCut u q) n0).1 = false := by
          by_cases hc12 : 12 < qCm (qCut u q)
          · exact hr2 hc12
          · have hcq : c < qCm (qCut u q) := by
              by_cases e : c = qCm (qCut u q)
              · have := hq5 (by omega)
                rw [← e] at this
                omega
              · omega
            first
              | omega
              | (rw [hr1 (by omega), show qCm (qCut u q) - c = (qCm (qCut u q) - (c + 1)) + 1 by omega]
                 show (if (qName u (qSt (qCut u q) c) (qSt (qCut u q) (c + 1) - 1) n).1 = true then _ else (false, (qName u (qSt (qCut u q) c) (qSt (qCut u q) (c + 1) - 1) n).2) : Bool × nV).1 = false
                 rw [if_neg]
                 unfold qName
                 rw [if_neg (fun z => by
                   have z1 := z.1
                   rw [(hq4 c hcq (by omega)).2, show (mCE u (qE q - qSt (qCut u q) c) (qSt (qCut u q) c)) + 1 - 1 = (mCE u (qE q - qSt (qCut u q) c) (qSt (qCut u q) c)) by omega, c110] at z1
                   exact Bool.noConfusion z1)]
                 exact fun z => Bool.noConfusion z)
        refine ⟨congrArg (fun x => (Sum.inl (some (Value.int x)) : aO)) (bI_f hF), rfl, _, rfl, hv, fun z => ?_⟩
        rw [hF] at z
        exact Bool.noConfusion z
      · refine v_aload_n dX10_readHead_103 rfl (by rfl) ?_
        refine v_iload_n dX10_readHead_104 rfl (by rfl) ?_
        refine v_iload dX10_readHead_105 (by rfl) ?_
        refine w_callV hE dX10_readHead_107 kX10_244 mdS_M (by rfl) (by rfl) (sX10_isShown hE (y := v) (u := u) hpv (by omega) (by omega)) rfl (by decide) (by decide) (by exact Nat.le_of_ble_eq_true rfl) (by omega) (by omega) (fun v9 g9 u9 h9 => ?_) (fun _ _ _ h => by cases h.1)
        obtain ⟨hv9, hu9, hg9⟩ := h9
        replace hu9 := hu9.symm
        subst hu9
        subst hg9
        cases hv9
        refine v_if_neB (tgt := 115) dX10_readHead_110 (by decide) (fun c110 => ?_) (fun c110 => ?_)
        · have hc12 : c < 12 := by omega
          have hcq : c < qCm (qCut u q) := by
            by_cases e : c = qCm (qCut u q)
            · have := hq5 (by omega)
              rw [← e] at this
              omega
            · omega
          refine v_aload_n dX10_readHead_115 rfl (by rfl) ?_
          refine v_getf hE dX10_readHead_116 fX10_63 mdS_M (by rfl) ?_
          refine v_iconst (v := nI 2) dX10_readHead_119 (by decide) ?_
          refine m_iald hE (k := 17) dX10_readHead_120 (by decide) (by decide) rfl (show _ < 4 by omega) (by omega) ?_
          refine v_eqi (y := nI (c - 9)) hnm.2.2.1 ?_
          refine v_istore dX10_readHead_121 (by decide) ?_
          refine v_aload_n dX10_readHead_123 rfl (by rfl) ?_
          refine v_getf hE dX10_readHead_124 fX10_69 mdS_M (by rfl) ?_
          refine v_bipush (v := nI 6) dX10_readHead_127 (by decide) ?_
          refine v_iload dX10_readHead_129 (by rfl) ?_
          refine v_iaddN dX10_readHead_131 ?_
          refine v_iload dX10_readHead_132 (by rfl) ?_
          refine v_iload_n dX10_readHead_134 rfl (by rfl) ?_
          refine v_isubN dX10_readHead_135 (by omega) ?_
          refine m_iast hE (k := 19) dX10_readHead_136 (by decide) (by decide) rfl (show _ < 12 by omega) (by omega) ?_
          refine v_iconst (v := nI 0) dX10_readHead_137 (by decide) ?_
          refine v_istore dX10_readHead_138 (by decide) ?_
          exact l1 hc12 hcq c110 ((mCE u (qE q - qSt (qCut u q) c) (qSt (qCut u q) c)) - qSt (qCut u q) c) 0 (va_up v.1 19 (upd (v.1 19) (6 + (c - 9)) (nI ((mCE u (qE q - qSt (qCut u q) c) (qSt (qCut u q) c)) - qSt (qCut u q) c))), v.2) (by omega) (rHd_9 hv (by omega)) (nmH_9 hnm) updS (fun k' hk' => absurd hk' (Nat.not_lt_zero _))
        · refine v_iconst (v := nI 0) dX10_readHead_113 (by decide) ?_
          refine v_iret dX10_readHead_114 rfl (by first | rfl | exact nar_bI) ?_
          have hF : (qHead u (qCut u q) n0).1 = false := by
            by_cases hc12 : 12 < qCm (qCut u q)
            · exact hr2 hc12
            · have hcq : c < qCm (qCut u q) := by
                by_cases e : c = qCm (qCut u q)
                · have := hq5 (by omega)
                  rw [← e] at this
                  omega
                · omega
              first
                | omega
                | (rw [hr1 (by omega), show qCm (qCut u q) - c = (qCm (qCut u q) - (c + 1)) + 1 by omega]
                   show (if (qName u (qSt (qCut u q) c) (qSt (qCut u q) (c + 1) - 1) n).1 = true then _ else (false, (qName u (qSt (qCut u q) c) (qSt (qCut u q) (c + 1) - 1) n).2) : Bool × nV).1 = false
                   rw [if_neg]
                   unfold qName
                   rw [if_neg (fun z => by
                     have z1 := z.1
                     rw [(hq4 c hcq (by omega)).2, show (mCE u (qE q - qSt (qCut u q) c) (qSt (qCut u q) c)) + 1 - 1 = (mCE u (qE q - qSt (qCut u q) c) (qSt (qCut u q) c)) by omega, c110] at z1
                     exact Bool.noConfusion z1)]
                   exact fun z => Bool.noConfusion z)
          refine ⟨congrArg (fun x => (Sum.inl (some (Value.int x)) : aO)) (bI_f hF), rfl, _, rfl, hv, fun z => ?_⟩
          rw [hF] at z
          exact Bool.noConfusion z
  refine v_aload_n dX10_readHead_0 rfl (by rfl) ?_
  refine v_getf hE dX10_readHead_1 fX10_63 mdS_M (by rfl) ?_
  refine v_iconst (v := nI 2) dX10_readHead_4 (by decide) ?_
  refine v_iconst (v := nI 0) dX10_readHead_5 (by decide) ?_
  refine m_iast hE (k := 17) dX10_readHead_6 (by decide) (by decide) rfl (show _ < 4 by omega) (by omega) ?_
  have hv0 : rHd y (va_up y.1 17 (upd (y.1 17) 2 (nI 0)), y.2) := rHd_7 (v := y) ⟨rfl, fun _ _ _ _ => rfl, fun _ _ => rfl, fun _ _ => rfl, fun _ _ => rfl, hO⟩
  refine v_aload_n dX10_readHead_7 rfl (by rfl) ?_
  refine v_iload_n dX10_readHead_8 rfl (by rfl) ?_
  refine v_iload_n dX10_readHead_9 rfl (by rfl) ?_
  refine v_iconst (v := nI 1) dX10_readHead_10 (by decide) ?_
  refine w_callV hE dX10_readHead_11 kX10_235 mdS_M (by rfl) (by rfl) (sX10_begins hE (y := (va_up y.1 17 (upd (y.1 17) 2 (nI 0)), y.2)) (u := u) (k := 1) hp (by decide) hL (by omega)) rfl (by decide) (by decide) (by exact Nat.le_of_ble_eq_true rfl) (by omega) (by omega) (fun v9 g9 u9 h9 => ?_) (fun _ _ _ h => by cases h.1)
  obtain ⟨hv9, hu9, hg9⟩ := h9
  replace hu9 := hu9.symm
  subst hu9
  subst hg9
  cases hv9
  refine v_if_neB (tgt := 19) dX10_readHead_14 (by decide) (fun c14 => ?_) (fun c14 => ?_)
  · refine v_iload_n dX10_readHead_19 rfl (by rfl) ?_
    refine v_iconst (v := nI 1) dX10_readHead_20 (by decide) ?_
    refine w_callS hE dX10_readHead_21 kX10_228 (by rfl) (sX10_sizeOf hE (k := 1) (by decide)) rfl (by decide) (by decide) (by exact Nat.le_of_ble_eq_true rfl) (by omega) (by omega) (fun v9 g9 u9 h9 => ?_) (fun _ _ _ h => by cases h.1)
    obtain ⟨hv9, hu9, hg9⟩ := h9
    replace hu9 := hu9.symm
    replace hg9 := hg9.symm
    subst hu9
    subst hg9
    cases hv9
    refine v_eqi (y := nI 38) rfl ?_
    refine v_iaddN dX10_readHead_24 ?_
    refine v_istore_n dX10_readHead_25 rfl (by decide) ?_
    obtain ⟨hb38, -⟩ := hd_b c14
    refine v_iload_n dX10_readHead_26 rfl (by rfl) ?_
    refine v_iload_n dX10_readHead_27 rfl (by rfl) ?_
    refine v_icmp_neN (tgt := 33) dX10_readHead_28 (by decide) (by omega) (by omega) (fun c28 => ?_) (fun c28 => ?_)
    · refine v_aload_n dX10_readHead_33 rfl (by rfl) ?_
      refine v_iload_n dX10_readHead_34 rfl (by rfl) ?_
      refine w_callV hE dX10_readHead_35 kX10_156 mdS_M (by rfl) (by rfl) (sX10_at hE (y := (va_up y.1 17 (upd (y.1 17) 2 (nI 0)), y.2)) (u := u) hp (by omega)) rfl (by decide) (by decide) (by exact Nat.le_of_ble_eq_true rfl) (by omega) (by omega) (fun v9 g9 u9 h9 => ?_) (fun _ _ _ h => by cases h.1)
      obtain ⟨hv9, hu9, hg9⟩ := h9
      replace hu9 := hu9.symm
      subst hu9
      subst hg9
      cases hv9
      refine v_bipush (v := nI 9) dX10_readHead_38 (by decide) ?_
      refine v_icmp_eq (tgt := 45) dX10_readHead_40 (by decide) (fun c40 => ?_) (fun c40 => ?_)
      · obtain ⟨hq1, hq2, hq3, hq4, hq5⟩ := qCut_f (u := u) (v := q) hL
        obtain ⟨k1, k2, k3, k4, k5, k6⟩ := hd_9 (n := n0) hp.2.1 hL hE2 c14 (by omega) c40
        have h89 : qSt (qCut u q) 9 = mCE u (qE q - qSt (qCut u q) 8) (qSt (qCut u q) 8) + 1 := (hq4 8 k1 (by decide)).2
        have hml := mCE_le (u := u) (qE q - qSt (qCut u q) 8) (qSt (qCut u q) 8)
        have hs8 := (hq4 8 k1 (by decide)).1
        refine v_iincN (y := 1) dX10_readHead_45 (by rfl) (by decide) (by decide) ?_
        refine v_aload_n dX10_readHead_48 rfl (by rfl) ?_
        refine v_iload_n dX10_readHead_49 rfl (by rfl) ?_
        refine v_iload_n dX10_readHead_50 rfl (by rfl) ?_
        refine w_callV hE dX10_readHead_51 kX10_238 mdS_M (by rfl) (by rfl) (sX10_columnEnd hE (y := (va_up y.1 17 (upd (y.1 17) 2 (nI 0)), y.2)) (u := u) (i := qBg q + 38 + 1) hp (by omega) (by omega)) rfl (by decide) (by decide) (by exact Nat.le_of_ble_eq_true rfl) (by omega) (by omega) (fun v9 g9 u9 h9 => ?_) (fun _ _ _ h => by cases h.1)
        obtain ⟨hv9, hu9, hg9⟩ := h9
        replace hu9 := hu9.symm
        subst hu9
        subst hg9
        cases hv9
        refine v_eqi (y := nI (qSt (qCut u q) 9 - 1)) (congrArg nI (by show mCE u (qE q - (qBg q + 39)) (qBg q + 39) = _; rw [h89, k2]; omega)) ?_
        refine v_istore dX10_readHead_54 (by decide) ?_
        refine v_aload_n dX10_readHead_56 rfl (by rfl) ?_
        refine v_iload_n dX10_readHead_57 rfl (by rfl) ?_
        refine v_iload dX10_readHead_58 (by rfl) ?_
        refine v_iconst (v := nI 2) dX10_readHead_60 (by decide) ?_
        refine w_callV hE dX10_readHead_61 kX10_241 mdS_M (by rfl) (by rfl) (sX10_isText hE (y := (va_up y.1 17 (upd (y.1 17) 2 (nI 0)), y.2)) (u := u) (k := 2) (i := qBg q + 38 + 1) (j := qSt (qCut u q) 9 - 1) hp (by decide) (by omega) (by omega)) rfl (by decide) (by decide) (by exact Nat.le_of_ble_eq_true rfl) (by omega) (by omega) (fun v9 g9 u9 h9 => ?_) (fun _ _ _ h => by cases h.1)
        obtain ⟨hv9, hu9, hg9⟩ := h9
        replace hu9 := hu9.symm
        subst hu9
        subst hg9
        cases hv9
        refine v_if_eqB (tgt := 73) dX10_readHead_64 (by decide) (fun c64 => ?_) (fun c64 => ?_)
        · refine v_iconst (v := nI 0) dX10_readHead_73 (by decide) ?_
          refine v_iret dX10_readHead_74 rfl (by first | rfl | exact nar_bI) ?_
          have hF : (qHead u (qCut u q) n0).1 = false := by
            first
              | exact k3 ((show qCol u (qCut u q) 8 tx6 = tIs u (qBg q + 38 + 1) (qSt (qCut u q) 9 - 1) (mTx 2) by unfold qCol; rw [k2]; rfl).trans c64)
              | (refine k4 ?_
                 by_cases e : qCm (qCut u q) = 9
                 · exact e
                 · have := (hq4 9 (by omega) (by decide)).1
                   omega)
          refine ⟨congrArg (fun x => (Sum.inl (some (Value.int x)) : aO)) (bI_f hF), rfl, _, rfl, hv0, fun z => ?_⟩
          rw [hF] at z
          exact Bool.noConfusion z
        · refine v_iload dX10_readHead_67 (by rfl) ?_
          refine v_iload_n dX10_readHead_69 rfl (by rfl) ?_
          refine v_icmp_neN (tgt := 75) dX10_readHead_70 (by decide) (by omega) (by omega) (fun c70 => ?_) (fun c70 => ?_)
          · refine v_iload dX10_readHead_75 (by rfl) ?_
            refine v_iconst (v := nI 1) dX10_readHead_77 (by decide) ?_
            refine v_iaddN dX10_readHead_78 ?_
            refine v_eqi (y := nI (qSt (qCut u q) 9)) (congrArg nI (by omega)) ?_
            refine v_istore_n dX10_readHead_79 rfl (by decide) ?_
            have h10 : 9 < qCm (qCut u q) := by
              by_cases e : qCm (qCut u q) = 9
              · have := hq5 (by omega)
                rw [e] at this
                omega
              · omega
            exact lp (by omega) 4 9 n0 (va_up y.1 17 (upd (y.1 17) 2 (nI 0)), y.2) _ _ _ (by omega) (by omega) (by omega) hv0 ⟨hn0, by decide, (show upd (y.1 17) 2 (nI 0) 2 = nI 0 from updS), fun t ht => absurd ht (Nat.not_lt_zero _)⟩ (fun z => k6 ((show qCol u (qCut u q) 8 tx6 = tIs u (qBg q + 38 + 1) (qSt (qCut u q) 9 - 1) (mTx 2) by unfold qCol; rw [k2]; rfl).trans c64) h10 z) k5
          · refine v_iconst (v := nI 0) dX10_readHead_73 (by decide) ?_
            refine v_iret dX10_readHead_74 rfl (by first | rfl | exact nar_bI) ?_
            have hF : (qHead u (qCut u q) n0).1 = false := by
              first
                | exact k3 ((show qCol u (qCut u q) 8 tx6 = tIs u (qBg q + 38 + 1) (qSt (qCut u q) 9 - 1) (mTx 2) by unfold qCol; rw [k2]; rfl).trans c64)
                | (refine k4 ?_
                   by_cases e : qCm (qCut u q) = 9
                   · exact e
                   · have := (hq4 9 (by omega) (by decide)).1
                     omega)
            refine ⟨congrArg (fun x => (Sum.inl (some (Value.int x)) : aO)) (bI_f hF), rfl, _, rfl, hv0, fun z => ?_⟩
            rw [hF] at z
            exact Bool.noConfusion z
      · refine v_iconst (v := nI 0) dX10_readHead_43 (by decide) ?_
        refine v_iret dX10_readHead_44 rfl (by first | rfl | exact nar_bI) ?_
        have hF : (qHead u (qCut u q) n0).1 = false := hd_x hp.2.1 hL hE2 c14 (by omega) c40
        refine ⟨congrArg (fun x => (Sum.inl (some (Value.int x)) : aO)) (bI_f hF), rfl, _, rfl, hv0, fun z => ?_⟩
        rw [hF] at z
        exact Bool.noConfusion z
    · refine v_iconst (v := nI 1) dX10_readHead_31 (by decide) ?_
      refine v_iret dX10_readHead_32 rfl (by first | rfl | exact nar_bI) ?_
      obtain ⟨hR9, -⟩ := hd_8 (n := n0) hp.2.1 hL hE2 c14 (by omega)
      refine ⟨congrArg (fun x => (Sum.inl (some (Value.int x)) : aO)) (bI_t (by rw [hR9])), rfl, _, rfl, hv0, fun _ => ?_⟩
      rw [hR9]
      show nmH (va_up y.1 17 (upd (y.1 17) 2 (nI 0)), y.2) n0 n0.1
      rw [hn0]
      exact ⟨hn0, by decide, (show upd (y.1 17) 2 (nI 0) 2 = nI 0 from updS), fun t ht => absurd ht (Nat.not_lt_zero _)⟩
  · refine v_iconst (v := nI 0) dX10_readHead_17 (by decide) ?_
    refine v_iret dX10_readHead_18 rfl (by first | rfl | exact nar_bI) ?_
    have hF : (qHead u (qCut u q) n0).1 = false := hd_no hp.2.1 hL hE2 c14
    refine ⟨congrArg (fun x => (Sum.inl (some (Value.int x)) : aO)) (bI_f hF), rfl, _, rfl, hv0, fun z => ?_⟩
    rw [hF] at z
    exact Bool.noConfusion z
