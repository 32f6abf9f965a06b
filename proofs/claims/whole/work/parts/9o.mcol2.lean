/-- all but the rows is the same -/
def eK9 (y w : eV) : Prop := eId y = eId w ∧ eIz y = eIz w ∧ eCa y = eCa w ∧ eCn y = eCn w ∧ ePh y = ePh w ∧ eSq y = eSq w ∧ ePl y = ePl w ∧ eQu y = eQu w ∧ ePa y = ePa w
theorem eK9_r {w : eV} : eK9 w w := ⟨rfl, rfl, rfl, rfl, rfl, rfl, rfl, rfl, rfl⟩
theorem eK9_t {u y v : eV} (h : eK9 u y) (h2 : eK9 y v) : eK9 u v := by
  obtain ⟨a1, a2, a3, a4, a5, a6, a7, a8, a9⟩ := h
  obtain ⟨b1, b2, b3, b4, b5, b6, b7, b8, b9⟩ := h2
  exact ⟨a1.trans b1, a2.trans b2, a3.trans b3, a4.trans b4, a5.trans b5, a6.trans b6, a7.trans b7, a8.trans b8, a9.trans b9⟩
theorem eAddL_9 {w : eV} {r : Nat} {x : Int32} : eK9 (eAddL w r x) w := by
  unfold eAddL
  split <;> exact eK9_r
theorem qRowL_9 {u : tS} {r : Nat} : ∀ (d k : Nat) (w : eV), eK9 (qRowL u r d k w).2 w := by
  intro d
  induction d with
  | zero => intro k w; exact eK9_r
  | succ d ih =>
    intro k w
    unfold qRowL
    split
    · exact eK9_r
    · exact eK9_t (ih _ _) eAddL_9
theorem qRow_9 {u : tS} {r i j : Nat} {w : eV} : eK9 (qRow u r i j w).2 w := by
  unfold qRow
  split
  · exact eK9_r
  · exact eK9_t (qRowL_9 _ _ _) eK9_r
theorem qAlt_9 {u : tS} {i j : Nat} {w : eV} : eK9 (qAlt u i j w).2 w := by
  unfold qAlt
  split <;> exact qRow_9
theorem qAltL_9 {u : tS} {j : Nat} : ∀ (d k i : Nat) (w : eV), eK9 (qAltL u j d k i w).2 w := by
  intro d
  induction d with
  | zero => intro k i w; exact eK9_r
  | succ d ih =>
    intro k i w
    unfold qAltL
    split
    · split
      · exact eK9_t (ih _ _ _) qAlt_9
      · exact qAlt_9
    · exact ih _ _ _
theorem qAltR_9 {u : tS} {i j : Nat} {w : eV} : eK9 (qAltR u i j w).2 w := by
  unfold qAltR
  split
  · exact eK9_r
  · exact qAltL_9 _ _ _ _
def qIdR (u : tS) (i j : Nat) (w : eV) : eV := if tIs u i j tx7 = true then wIz w 0 else qIdL u (j - i) i (wIz w 0)
def idZ (u : tS) (i j : Nat) : Nat := if tIs u i j tx7 = true then 0 else j - i
theorem qIdR_f {u : tS} {i j : Nat} {w : eV} (h : j - i ≤ 20) : eIz (qIdR u i j w) = idZ u i j ∧ (∀ k, k < idZ u i j → eId (qIdR u i j w) k = mOct u (i + k)) ∧ eSq (qIdR u i j w) = eSq w ∧ ePl (qIdR u i j w) = ePl w := by
  unfold qIdR idZ
  by_cases c : tIs u i j tx7 = true
  · rw [if_pos c, if_pos c]
    exact ⟨rfl, fun k hk => absurd hk (Nat.not_lt_zero _), rfl, rfl⟩
  · rw [if_neg c, if_neg c]
    obtain ⟨I, a1, a2⟩ := qIdL_f (u := u) (j - i) i (wIz w 0) (by show 0 + (j - i) ≤ 20; omega)
    rw [a1]
    refine ⟨Nat.zero_add _, fun k hk => ?_, rfl, rfl⟩
    show I k = _
    rw [a2 k]
    show (if 0 ≤ k ∧ k < 0 + (j - i) then mOct u (i + (k - 0)) else eId w k) = _
    rw [if_pos (by omega), Nat.sub_zero]
set_option maxRecDepth 100000 in
set_option maxHeartbeats 1500000 in
/-- model: readColumn -/
theorem sX10_readColumn2 {E : eN} (hE : eOk E) {f : aH} {t : Nat} {M : Nat} {y : mV} {u : tS} {r i j : Nat} {w : eV}  (hp : mTp y u) (hO : aNw y.1) (hF : y.2 43 = nI 0) (hr : r < 240) (hij : i ≤ j) (hj : j ≤ u.1) (hmP : mP y r w 2)  : mT E mX10_readColumn 0 0 [.ref M, .int (nI r), .int (nI 2), .int (nI i), .int (nI j)] (mdS f M y) t (fun o f' t' => o = .inl none ∧ t' = t ∧ ∃ y', f' = mdS f M y' ∧ rFr r y y' ∧ fO y.2 y'.2 (if tWord u i j = true then 0 else 4) i ∧ ((if tWord u i j = true then 0 else 4) = 0 → mP y' r (qIdR u i j w) 3)) := by
  refine mT_of (n := 1) (lo := [some (.ref M), some (.int (nI r)), some (.int (nI 2)), some (.int (nI i)), some (.int (nI j)), none]) (by decide) (by exact Nat.le_of_ble_eq_true rfl) rfl rfl ?_
  have hu8 := hp.2.1
  obtain ⟨a0, a1, a2, a3, a4, a5, a6, a7⟩ := id hmP
  have lp : tWord u i j = true → ∀ (d k : Nat) (v : mV), k + d = (idZ u i j) → v.2 = y.2 → rFr r y v → (∀ k', k' ≠ 22 → k' ≠ 23 → v.1 k' = y.1 k') → v.1 23 r = nI (idZ u i j) → (∀ k', k' < k → v.1 22 (20 * r + k') = mOct u (i + k')) → V E mX10_readColumn 0 0 (fun o f' t' => o = .inl none ∧ t' = t ∧ ∃ y', f' = mdS f M y' ∧ rFr r y y' ∧ fO y.2 y'.2 (if tWord u i j = true then 0 else 4) i ∧ ((if tWord u i j = true then 0 else 4) = 0 → mP y' r (qIdR u i j w) 3)) 174 [some (.ref M), some (.int (nI r)), some (.int (nI 2)), some (.int (nI i)), some (.int (nI j)), some (.int (nI k))] [] (mdS f M v) t 0 0 := by
    intro hw1 d
    have hw2 := hw1
    unfold tWord at hw2
    rw [Bool.and_eq_true, Bool.and_eq_true, decide_eq_true_eq, decide_eq_true_eq, allB_iff] at hw2
    obtain ⟨hlt, h20, hall⟩ := hw2
    have hnz : (idZ u i j) ≤ j - i := by
      unfold idZ
      split <;> omega
    have hsm : ∀ k, k < (idZ u i j) → ∃ c, c < 128 ∧ mOct u (i + k) = nI c := fun k hk => by
      have q := hall (i + k) (by omega) (by omega)
      rw [okO_eq] at q
      obtain ⟨c, c1, c2, c3⟩ := mIn_nat q (by decide) (by decide)
      exact ⟨c, by omega, c3⟩
    induction d using Nat.strongRecOn with
    | _ d ih =>
    intro k v hd hv2 hv hvk h23 hcel
    refine v_iload dX10_readColumn_174 (by rfl) ?_
    refine v_aload_n dX10_readColumn_176 rfl (by rfl) ?_
    refine v_getf hE dX10_readColumn_177 fX10_81 mdS_M (by rfl) ?_
    refine v_iload_n dX10_readColumn_180 rfl (by rfl) ?_
    refine m_iald hE (k := 23) dX10_readColumn_181 (by decide) (by decide) rfl (show _ < 240 by omega) (by omega) ?_
    refine v_eqi (y := nI (idZ u i j)) h23 ?_
    refine v_icmp_geN (tgt := 212) dX10_readColumn_182 (by decide) (by omega) (by omega) (fun c182 => ?_) (fun c182 => ?_)
    · refine v_goto (tgt := 378) dX10_readColumn_212 (by decide) ?_
      refine v_ret dX10_readColumn_378 rfl ?_
      have hz : (if tWord u i j = true then 0 else 4) = 0 := if_pos hw1
      obtain ⟨q1, q2, q3, q4⟩ := qIdR_f (u := u) (w := w) (show j - i ≤ 20 by omega)
      refine ⟨rfl, rfl, v, rfl, hv, (by rw [hz]; exact Or.inl ⟨rfl, hv2⟩), fun _ => ⟨fun _ => ?_, fun _ => ?_, fun _ => ⟨?_, fun k' hk' => ?_⟩, fun h => absurd h (by decide), fun h => absurd h (by decide), fun h => absurd h (by decide), fun h => absurd h (by decide), fun s h => absurd h (by omega)⟩⟩
      · rw [hvk 20 (by decide) (by decide), q3]
        exact a0 (by decide)
      · rw [hvk 21 (by decide) (by decide), q4]
        exact a1 (by decide)
      · rw [q1]
        exact h23
      · rw [q1] at hk'
        rw [q2 k' hk']
        exact hcel k' (by omega)
    · obtain ⟨c, c1, c2⟩ := hsm k (by omega)
      have hpv : mTp v u := ⟨by rw [hv2]; exact hp.1, hp.2.1, by rw [hvk 1 (by decide) (by decide)]; exact hp.2.2⟩
      refine v_aload_n dX10_readColumn_185 rfl (by rfl) ?_
      refine v_getf hE dX10_readColumn_186 fX10_78 mdS_M (by rfl) ?_
      refine v_bipush (v := nI 20) dX10_readColumn_189 (by decide) ?_
      refine v_iload_n dX10_readColumn_191 rfl (by rfl) ?_
      refine v_imulN dX10_readColumn_192 ?_
      refine v_iload dX10_readColumn_193 (by rfl) ?_
      refine v_iaddN dX10_readColumn_195 ?_
      refine v_aload_n dX10_readColumn_196 rfl (by rfl) ?_
      refine v_iload_n dX10_readColumn_197 rfl (by rfl) ?_
      refine v_iload dX10_readColumn_198 (by rfl) ?_
      refine v_iaddN dX10_readColumn_200 ?_
      refine w_callV hE dX10_readColumn_201 kX10_156 mdS_M (by rfl) (by rfl) (sX10_at hE (y := v) (u := u) hpv (by omega)) rfl (by decide) (by decide) (by exact Nat.le_of_ble_eq_true rfl) (by omega) (by omega) (fun v9 g9 u9 h9 => ?_) (fun _ _ _ h => by cases h.1)
      obtain ⟨hv9, hu9, hg9⟩ := h9
      replace hu9 := hu9.symm
      subst hu9
      subst hg9
      cases hv9
      refine v_eqi (y := nI c) c2 ?_
      refine v_i2b dX10_readColumn_204 rfl ?_
      refine m_bast hE (k := 22) dX10_readColumn_205 (by decide) (by decide) rfl (show _ < 4800 by omega) (by omega) ?_
      rw [i8_nar, byt c c1]
      refine v_iincN (y := 1) dX10_readColumn_206 (by rfl) (by decide) (by decide) ?_
      refine v_goto (tgt := 174) dX10_readColumn_209 (by decide) ?_
      refine ih (d - 1) (by omega) (k + 1) _ (by omega) hv2 (rFr_22 hv (by omega) (by have := i8_nar (nI c); rwa [byt c c1] at this)) (fun k' a b => (va_up_ne _ _ a).trans (hvk k' a b)) h23 (fun k' hk' => ?_)
      show upd (v.1 22) (20 * r + k) (nI c) (20 * r + k') = _
      by_cases e : k' = k
      · rw [e, updS, c2]
      · rw [updN (by omega)]
        exact hcel k' (by omega)
  refine v_iload_n dX10_readColumn_0 rfl (by rfl) ?_
  refine v_tableIn (off := 126) (tgt := 127) dX10_readColumn_1 (by decide) (by decide) (by decide) (by decide) ?_
  refine v_aload_n dX10_readColumn_127 rfl (by rfl) ?_
  refine v_iload_n dX10_readColumn_128 rfl (by rfl) ?_
  refine v_iload dX10_readColumn_129 (by rfl) ?_
  refine w_callV hE dX10_readColumn_131 kX10_244 mdS_M (by rfl) (by rfl) (sX10_isShown hE hp hij (by omega)) rfl (by decide) (by decide) (by exact Nat.le_of_ble_eq_true rfl) (by omega) (by omega) (fun v9 g9 u9 h9 => ?_) (fun _ _ _ h => by cases h.1)
  obtain ⟨hv9, hu9, hg9⟩ := h9
  replace hu9 := hu9.symm
  subst hu9
  subst hg9
  cases hv9
  refine v_if_neB (tgt := 146) dX10_readColumn_134 (by decide) (fun c134 => ?_) (fun c134 => ?_)
  · refine v_aload_n dX10_readColumn_146 rfl (by rfl) ?_
    refine v_getf hE dX10_readColumn_147 fX10_81 mdS_M (by rfl) ?_
    refine v_iload_n dX10_readColumn_150 rfl (by rfl) ?_
    refine v_aload_n dX10_readColumn_151 rfl (by rfl) ?_
    refine v_iload_n dX10_readColumn_152 rfl (by rfl) ?_
    refine v_iload dX10_readColumn_153 (by rfl) ?_
    refine v_iconst (v := nI 5) dX10_readColumn_155 (by decide) ?_
    refine w_callV hE dX10_readColumn_156 kX10_241 mdS_M (by rfl) (by rfl) (sX10_isText hE (u := u) hp (by decide) hij (by omega)) rfl (by decide) (by decide) (by exact Nat.le_of_ble_eq_true rfl) (by omega) (by omega) (fun v9 g9 u9 h9 => ?_) (fun _ _ _ h => by cases h.1)
    obtain ⟨hv9, hu9, hg9⟩ := h9
    replace hu9 := hu9.symm
    subst hu9
    subst hg9
    cases hv9
    refine v_if_eqB (tgt := 166) dX10_readColumn_159 (by decide) (fun c159 => ?_) (fun c159 => ?_)
    · refine v_iload dX10_readColumn_166 (by rfl) ?_
      refine v_iload_n dX10_readColumn_168 rfl (by rfl) ?_
      refine v_isubN dX10_readColumn_169 (by omega) ?_
      refine v_eqi (y := nI (idZ u i j)) (by unfold idZ; rw [if_neg (show ¬ tIs u i j tx7 = true by rw [show tIs u i j tx7 = tIs u i j (mTx 5) from rfl, c159]; decide)]) ?_
      refine m_iast hE (k := 23) dX10_readColumn_170 (by decide) (by decide) rfl (show _ < 240 by omega) (by omega) ?_
      refine v_iconst (v := nI 0) dX10_readColumn_171 (by decide) ?_
      refine v_istore dX10_readColumn_172 (by decide) ?_
      exact lp c134 (idZ u i j) 0 (va_up y.1 23 (upd (y.1 23) r (nI (idZ u i j))), y.2) (by omega) rfl (rFr_u (rFr_r (s := y.2) hO) (by decide)) (fun k' a b => va_up_ne _ _ b) updS (fun k' hk' => absurd hk' (Nat.not_lt_zero _))
    · refine v_iconst (v := nI 0) dX10_readColumn_162 (by decide) ?_
      refine v_eqi (y := nI (idZ u i j)) (by unfold idZ; rw [if_pos (show tIs u i j tx7 = true from c159)]) ?_
      refine v_goto (tgt := 170) dX10_readColumn_163 (by decide) ?_
      refine m_iast hE (k := 23) dX10_readColumn_170 (by decide) (by decide) rfl (show _ < 240 by omega) (by omega) ?_
      refine v_iconst (v := nI 0) dX10_readColumn_171 (by decide) ?_
      refine v_istore dX10_readColumn_172 (by decide) ?_
      exact lp c134 (idZ u i j) 0 (va_up y.1 23 (upd (y.1 23) r (nI (idZ u i j))), y.2) (by omega) rfl (rFr_u (rFr_r (s := y.2) hO) (by decide)) (fun k' a b => va_up_ne _ _ b) updS (fun k' hk' => absurd hk' (Nat.not_lt_zero _))
  · refine v_aload_n dX10_readColumn_137 rfl (by rfl) ?_
    refine v_iconst (v := nI 4) dX10_readColumn_138 (by decide) ?_
    refine v_iload_n dX10_readColumn_139 rfl (by rfl) ?_
    refine w_callV hE dX10_readColumn_140 kX10_160 mdS_M (by rfl) (by rfl) (sX10_bad hE) rfl (by decide) (by decide) (by exact Nat.le_of_ble_eq_true rfl) (by omega) (by omega) (fun v9 g9 u9 h9 => ?_) (fun _ _ _ h => by cases h.1)
    obtain ⟨hv9, hu9, hg9⟩ := h9
    replace hu9 := hu9.symm
    subst hu9
    subst hg9
    cases hv9
    rw [mBad_0 hF]
    refine v_goto (tgt := 378) dX10_readColumn_143 (by decide) ?_
    refine v_ret dX10_readColumn_378 rfl ?_
    have hz : (if tWord u i j = true then 0 else 4) = 4 := if_neg (by rw [c134]; decide)
    refine ⟨rfl, rfl, _, rfl, rFr_r hO, (by rw [hz]; exact fO_b (by decide)), fun z => absurd (hz.symm.trans z) (by decide)⟩

set_option maxRecDepth 100000 in
set_option maxHeartbeats 1500000 in
/-- model: readColumn -/
theorem sX10_readColumn3 {E : eN} (hE : eOk E) {f : aH} {t : Nat} {M : Nat} {y : mV} {u : tS} {r i j : Nat} {w : eV} {g : gV} {s p : Nat} (hp : mTp y u) (hO : aNw y.1) (hF : y.2 43 = nI 0) (hr : r < 240) (hij : i ≤ j) (hj : j ≤ u.1) (hmP : mP y r w 3) (hg : mGn y g) (hgo : gOk g) (hs : eSq w = nI s) (hpl : ePl w = nI p) (hs2 : s < gCt g) (hp1 : 1 ≤ p) (hp2 : p ≤ gSz g s) : mT E mX10_readColumn 0 0 [.ref M, .int (nI r), .int (nI 3), .int (nI i), .int (nI j)] (mdS f M y) t (fun o f' t' => o = .inl none ∧ t' = t ∧ ∃ y', f' = mdS f M y' ∧ rFr r y y' ∧ fO y.2 y'.2 (rfF u g i j s p) i ∧ ((rfF u g i j s p) = 0 → mP y' r ((qRow u 0 i j w).2) 4)) := by
  refine mT_of (n := 1) (lo := [some (.ref M), some (.int (nI r)), some (.int (nI 3)), some (.int (nI i)), some (.int (nI j)), none]) (by decide) (by exact Nat.le_of_ble_eq_true rfl) rfl rfl ?_
  have hu8 := hp.2.1
  obtain ⟨a0, a1, a2, a3, a4, a5, a6, a7⟩ := id hmP
  refine v_iload_n dX10_readColumn_0 rfl (by rfl) ?_
  refine v_tableIn (off := 214) (tgt := 215) dX10_readColumn_1 (by decide) (by decide) (by decide) (by decide) ?_
  refine v_aload_n dX10_readColumn_215 rfl (by rfl) ?_
  refine v_iload_n dX10_readColumn_216 rfl (by rfl) ?_
  refine v_iload_n dX10_readColumn_217 rfl (by rfl) ?_
  refine v_iload dX10_readColumn_218 (by rfl) ?_
  refine w_callV hE dX10_readColumn_220 kX10_271 mdS_M (by rfl) (by rfl) (sX10_readRef hE hp hO hF hg hgo hr hij (by omega) ((a0 (by decide)).trans hs) ((a1 (by decide)).trans hpl) hs2 hp1 hp2) rfl (by decide) (by decide) (by exact Nat.le_of_ble_eq_true rfl) (by omega) (by omega) (fun v9 g9 u9 h9 => ?_) (fun _ _ _ h => by cases h.1)
  obtain ⟨hv9, hu9, v, hg9, hv, hfo, hrow⟩ := h9
  replace hu9 := hu9.symm
  subst hu9
  subst hg9
  cases hv9
  refine v_goto (tgt := 378) dX10_readColumn_223 (by decide) ?_
  refine v_ret dX10_readColumn_378 rfl ?_
  refine ⟨rfl, rfl, v, rfl, rFr_Rw hv (by decide), hfo, fun hz => ?_⟩
  have hyes : rwOk u i j = true := by
    cases hb : rwOk u i j with
    | true => rfl
    | false =>
      unfold rfF at hz
      rw [if_pos hb] at hz
      exact absurd hz (by decide)
  obtain ⟨L, l1, l2⟩ := (qRow_f (u := u) (r := 0) (i := i) (j := j) (w := w) (by decide) (by omega)).2 hyes
  rw [l1]
  have hvk := hv.2.1
  refine ⟨fun _ => ?_, fun _ => ?_, fun _ => ?_, fun _ => ⟨rfl, ?_⟩, fun h => absurd h (by decide), fun h => absurd h (by decide), fun h => absurd h (by decide), fun s h => absurd h (by omega)⟩
  · rw [hvk 20 (by decide) (by decide)]
    exact a0 (by decide)
  · rw [hvk 21 (by decide) (by decide)]
    exact a1 (by decide)
  · rw [hvk 22 (by decide) (by decide), hvk 23 (by decide) (by decide)]
    exact a2 (by decide)
  · show rwA v r 0 (va_up (eRs w) 0 (j - i) 0) (fun k => L (0 * 24 + k))
    rw [va_up_self]
    exact rwA_c (hrow hz) (fun k hk => by rw [l2, if_pos (by omega), show 0 * 24 + k - 0 * 24 = k by omega])

set_option maxRecDepth 100000 in
set_option maxHeartbeats 1500000 in
/-- model: readColumn -/
theorem sX10_readColumn4 {E : eN} (hE : eOk E) {f : aH} {t : Nat} {M : Nat} {y : mV} {u : tS} {r i j : Nat} {w : eV}  (hp : mTp y u) (hO : aNw y.1) (hF : y.2 43 = nI 0) (hr : r < 240) (hij : i ≤ j) (hj : j ≤ u.1) (hmP : mP y r w 4) (hwo : enOk w) : mT E mX10_readColumn 0 0 [.ref M, .int (nI r), .int (nI 4), .int (nI i), .int (nI j)] (mdS f M y) t (fun o f' t' => o = .inl none ∧ t' = t ∧ ∃ y', f' = mdS f M y' ∧ rFr r y y' ∧ fO y.2 y'.2 (if (qAltR u i j w).1 = true then 0 else 4) i ∧ ((if (qAltR u i j w).1 = true then 0 else 4) = 0 → mP y' r ((qAltR u i j w).2) 5)) := by
  refine mT_of (n := 1) (lo := [some (.ref M), some (.int (nI r)), some (.int (nI 4)), some (.int (nI i)), some (.int (nI j)), none]) (by decide) (by exact Nat.le_of_ble_eq_true rfl) rfl rfl ?_
  have hu8 := hp.2.1
  obtain ⟨a0, a1, a2, a3, a4, a5, a6, a7⟩ := id hmP
  refine v_iload_n dX10_readColumn_0 rfl (by rfl) ?_
  refine v_tableIn (off := 225) (tgt := 226) dX10_readColumn_1 (by decide) (by decide) (by decide) (by decide) ?_
  refine v_aload_n dX10_readColumn_226 rfl (by rfl) ?_
  refine v_iload_n dX10_readColumn_227 rfl (by rfl) ?_
  refine v_iload_n dX10_readColumn_228 rfl (by rfl) ?_
  refine v_iload dX10_readColumn_229 (by rfl) ?_
  refine w_callV hE dX10_readColumn_231 kX10_275 mdS_M (by rfl) (by rfl) (sX10_readAlts hE hp hO hF hr hij (by omega) hwo (a3 rfl).1 (a3 rfl).2) rfl (by decide) (by decide) (by exact Nat.le_of_ble_eq_true rfl) (by omega) (by omega) (fun v9 g9 u9 h9 => ?_) (fun _ _ _ h => by cases h.1)
  obtain ⟨hv9, hu9, v, hg9, hv, hfo, hrow⟩ := h9
  replace hu9 := hu9.symm
  subst hu9
  subst hg9
  cases hv9
  refine v_goto (tgt := 378) dX10_readColumn_234 (by decide) ?_
  refine v_ret dX10_readColumn_378 rfl ?_
  refine ⟨rfl, rfl, v, rfl, rFr_Al hv, hfo, fun hz => ?_⟩
  have hyes : (qAltR u i j w).1 = true := by
    cases hb : (qAltR u i j w).1 with
    | true => rfl
    | false =>
      rw [hb, if_neg (by decide)] at hz
      exact absurd hz (by decide)
  obtain ⟨k1, k2, k3, k4, k5, k6, k7, k8, k9⟩ := qAltR_9 (u := u) (i := i) (j := j) (w := w)
  have hvk := hv.1
  refine ⟨fun _ => ?_, fun _ => ?_, fun _ => ?_, fun h => absurd h (by decide), fun _ => (hrow hyes).2, fun h => absurd h (by decide), fun h => absurd h (by decide), fun s h => absurd h (by omega)⟩
  · rw [hvk 20 (by decide) (by decide) (by decide), k6]
    exact a0 (by decide)
  · rw [hvk 21 (by decide) (by decide) (by decide), k7]
    exact a1 (by decide)
  · rw [hvk 22 (by decide) (by decide) (by decide), hvk 23 (by decide) (by decide) (by decide), k1, k2]
    exact a2 (by decide)

set_option maxRecDepth 100000 in
set_option maxHeartbeats 1500000 in
/-- model: readColumn -/
theorem sX10_readColumn9 {E : eN} (hE : eOk E) {f : aH} {t : Nat} {M : Nat} {y : mV} {u : tS} {r i j s : Nat} {w : eV} (hp : mTp y u) (hO : aNw y.1) (hF : y.2 43 = nI 0) (hr : r < 240) (hij : i ≤ j) (hj : j ≤ u.1) (hs : s < 3) (hwo : enOk w) (hmP : mP y r w (9 + s)) : mT E mX10_readColumn 0 0 [.ref M, .int (nI r), .int (nI (9 + s)), .int (nI i), .int (nI j)] (mdS f M y) t (fun o f' t' => o = .inl none ∧ t' = t ∧ ∃ y', f' = mdS f M y' ∧ rFr r y y' ∧ fO y.2 y'.2 (if okC u i j (eRo w - 1) = true then 0 else 4) i ∧ ((if okC u i j (eRo w - 1) = true then 0 else 4) = 0 → mP y' r (wPh (wCn (wCa w (upd (upd (eCa w) (s * 2 + 0) (mCO (eRo w - 1) (mOct u i))) (s * 2 + 1) (if j - i = 3 then mCO (eRo w - 1) (mOct u (i + 2)) else -1))) (va_up (eCn w) s (if j - i = 3 then 2 else 1))) (va_up (ePh w) s (decide (j - i = 3) && decide (mOct u (i + 1) = nI 124)))) (9 + s + 1))) := by
  refine mT_of (n := 1) (lo := [some (.ref M), some (.int (nI r)), some (.int (nI (9 + s))), some (.int (nI i)), some (.int (nI j)), none]) (by decide) (by exact Nat.le_of_ble_eq_true rfl) rfl rfl ?_
  have hu8 := hp.2.1
  obtain ⟨a0, a1, a2, a3, a4, a5, a6, a7⟩ := id hmP
  refine v_iload_n dX10_readColumn_0 rfl (by rfl) ?_
  refine v_tableOut (tgt := 366) dX10_readColumn_1 (by rw [nI_toInt (by omega)]; omega) (by decide) ?_
  refine v_aload_n dX10_readColumn_366 rfl (by rfl) ?_
  refine v_iload_n dX10_readColumn_367 rfl (by rfl) ?_
  refine v_iload_n dX10_readColumn_368 rfl (by rfl) ?_
  refine v_bipush (v := nI 9) dX10_readColumn_369 (by decide) ?_
  refine v_isubN dX10_readColumn_371 (by omega) ?_
  refine v_eqi (y := nI s) (congrArg nI (by omega)) ?_
  refine v_iload_n dX10_readColumn_372 rfl (by rfl) ?_
  refine v_iload dX10_readColumn_373 (by rfl) ?_
  refine w_callV hE dX10_readColumn_375 kX10_279 mdS_M (by rfl) (by rfl) (sX10_readCalls hE hp hO hF hr hs hij (by omega) (a4 (by omega)).1 (by have := hwo.1; omega)) rfl (by decide) (by decide) (by exact Nat.le_of_ble_eq_true rfl) (by omega) (by omega) (fun v9 g9 u9 h9 => ?_) (fun _ _ _ h => by cases h.1)
  obtain ⟨hv9, hu9, v, hg9, hv, hfo, hcal⟩ := h9
  replace hu9 := hu9.symm
  subst hu9
  subst hg9
  cases hv9
  refine v_ret dX10_readColumn_378 rfl ?_
  refine ⟨rfl, rfl, v, rfl, rFr_Cl hv hs, hfo, fun hz => ?_⟩
  have hyes : okC u i j (eRo w - 1) = true := by
    cases hb : okC u i j (eRo w - 1) with
    | true => rfl
    | false =>
      rw [hb, if_neg (by decide)] at hz
      exact absurd hz (by decide)
  obtain ⟨c1, c2, c3, c4⟩ := hcal hyes
  have hvk := hv.1
  refine ⟨fun _ => ?_, fun _ => ?_, fun _ => ?_, fun h => absurd h (by omega), fun _ => ?_, fun _ => ?_, fun _ => ?_, fun t ht => ?_⟩
  · rw [hvk 20 (by decide) (by decide) (by decide)]
    exact a0 (by omega)
  · rw [hvk 21 (by decide) (by decide) (by decide)]
    exact a1 (by omega)
  · rw [hvk 22 (by decide) (by decide) (by decide), hvk 23 (by decide) (by decide) (by decide)]
    exact a2 (by omega)
  · have q := a4 (by omega)
    unfold rwW rwA at q ⊢
    rw [hvk 24 (by decide) (by decide) (by decide), hvk 25 (by decide) (by decide) (by decide), hvk 26 (by decide) (by decide) (by decide)]
    exact q
  · rw [hvk 27 (by decide) (by decide) (by decide)]
    exact a5 (by omega)
  · rw [hvk 28 (by decide) (by decide) (by decide)]
    exact a6 (by omega)
  · show _ = nI (va_up (eCn w) s (if j - i = 3 then 2 else 1) t) ∧ _ = bI (va_up (ePh w) s (decide (j - i = 3) && decide (mOct u (i + 1) = nI 124)) t) ∧ ∀ k, k < va_up (eCn w) s (if j - i = 3 then 2 else 1) t → _ = upd (upd (eCa w) (s * 2 + 0) (mCO (eRo w - 1) (mOct u i))) (s * 2 + 1) (if j - i = 3 then mCO (eRo w - 1) (mOct u (i + 2)) else -1) (t * 2 + k)
    by_cases e : t = s
    · subst e
      rw [va_up_self, va_up_self]
      refine ⟨c1, c2, fun k hk => ?_⟩
      by_cases e0 : k = 0
      · subst e0
        rw [updN (by omega), updS]
        exact c3
      · by_cases n3 : j - i = 3
        · rw [if_pos n3] at hk
          have e1 : k = 1 := by omega
          subst e1
          rw [updS, if_pos n3]
          exact c4 n3
        · rw [if_neg n3] at hk
          omega
    · obtain ⟨d1, d2, d3⟩ := a7 t (by omega)
      rw [va_up_ne _ _ e, va_up_ne _ _ e]
      refine ⟨(hv.2.1 _ (by omega)).1.trans d1, (hv.2.1 _ (by omega)).2.trans d2, fun k hk => ?_⟩
      have := hwo.2.2.1 t
      rw [updN (by omega), updN (by omega)]
      exact (hv.2.2.1 _ (by omega)).trans (d3 k hk)
