/-- only the calls of sample s of record r have changed -/
def rCl (r s : Nat) (y z : mV) : Prop := (∀ k, k ≠ 29 → k ≠ 30 → k ≠ 31 → z.1 k = y.1 k) ∧ (∀ i, i ≠ 3 * r + s → z.1 30 i = y.1 30 i ∧ z.1 31 i = y.1 31 i) ∧ (∀ i, i < 6 * r + 2 * s ∨ 6 * r + 2 * s + 2 ≤ i → z.1 29 i = y.1 29 i) ∧ aNw z.1
theorem rCl_9 {r s i : Nat} {y v : mV} {x : Int32} (h : rCl r s y v) (hi : 6 * r + 2 * s ≤ i ∧ i < 6 * r + 2 * s + 2) (hx : x ≤ nI 3) : rCl r s y (va_up v.1 29 (upd (v.1 29) i x), v.2) := by
  obtain ⟨h1, h2, h3, h4⟩ := h
  refine ⟨fun k a b c => (va_up_ne _ _ a).trans (h1 k a b c), h2, fun j hj => ?_, aNw_1 h4 (fun z => by cases z) (fun z => by cases z) (fun _ j => ?_)⟩
  · show upd (v.1 29) i x j = _
    rw [updN (by omega)]
    exact h3 j hj
  · unfold upd
    split
    · exact hx
    · exact h4.2.2 29 j (Or.inl rfl)
theorem rCl_0 {r s : Nat} {y : mV} {x : Int32} {b : Bool} (h : aNw y.1) : rCl r s y (va_up (va_up y.1 30 (upd (y.1 30) (3 * r + s) x)) 31 (upd (y.1 31) (3 * r + s) (bI b)), y.2) := by
  refine ⟨fun k a b c => (va_up_ne _ _ c).trans (va_up_ne _ _ b), fun i hi => ⟨updN hi, updN hi⟩, fun j hj => rfl, aNw_1 (aNw_i h rfl) (fun z => by cases z) (fun _ => upd_nar (fun i => h.2.1 31 i rfl) nar_bb)⟩
set_option maxRecDepth 100000 in
set_option maxHeartbeats 1500000 in
/-- model: readCalls -/
theorem sX10_readCalls {E : eN} (hE : eOk E) {f : aH} {t : Nat} {M : Nat} {y : mV} {u : tS} {r s i j A : Nat} (hp : mTp y u) (hO : aNw y.1) (hF : y.2 43 = nI 0) (hr : r < 240) (hs : s < 3) (hij : i ≤ j) (hj : j < 2 ^ 28) (h24 : y.1 24 r = nI A) (hA3 : A ≤ 3) : mT E mX10_readCalls 0 0 [.ref M, .int (nI r), .int (nI s), .int (nI i), .int (nI j)] (mdS f M y) t (fun o f' t' => o = .inl none ∧ t' = t ∧ ∃ y', f' = mdS f M y' ∧ rCl r s y y' ∧ fO y.2 y'.2 (if (okC u i j A) = true then 0 else 4) i ∧ ((okC u i j A) = true → y'.1 30 (3 * r + s) = nI (if j - i = 3 then 2 else 1) ∧ y'.1 31 (3 * r + s) = bI (decide (j - i = 3) && decide (mOct u (i + 1) = nI 124)) ∧ y'.1 29 (6 * r + 2 * s + 0) = (mCO A (mOct u i)) ∧ (j - i = 3 → y'.1 29 (6 * r + 2 * s + 1) = (mCO A (mOct u (i + 2)))))) := by
  refine mT_of (n := 5) (lo := [some (.ref M), some (.int (nI r)), some (.int (nI s)), some (.int (nI i)), some (.int (nI j)), none, none, none, none, none]) (by decide) (by exact Nat.le_of_ble_eq_true rfl) rfl rfl ?_
  have stX : ∀ (v : mV) (S : Int32) (z8 z9 : Option Value), v.2 = y.2 → rCl r s y v → (okC u i j A) = false → V E mX10_readCalls 0 0 (fun o f' t' => o = .inl none ∧ t' = t ∧ ∃ y', f' = mdS f M y' ∧ rCl r s y y' ∧ fO y.2 y'.2 (if (okC u i j A) = true then 0 else 4) i ∧ ((okC u i j A) = true → y'.1 30 (3 * r + s) = nI (if j - i = 3 then 2 else 1) ∧ y'.1 31 (3 * r + s) = bI (decide (j - i = 3) && decide (mOct u (i + 1) = nI 124)) ∧ y'.1 29 (6 * r + 2 * s + 0) = (mCO A (mOct u i)) ∧ (j - i = 3 → y'.1 29 (6 * r + 2 * s + 1) = (mCO A (mOct u (i + 2)))))) 202 [some (.ref M), some (.int (nI r)), some (.int (nI s)), some (.int (nI i)), some (.int (nI j)), some (.int (nI (j - i))), some (.int S), some (.int (nI 0)), z8, z9] [] (mdS f M v) t 0 0 := by
    intro v S z8 z9 hv2 hv hno
    have hFv : v.2 43 = nI 0 := by rw [hv2]; exact hF
    refine v_iload dX10_readCalls_202 (by rfl) ?_
    refine v_if_neN (tgt := 213) dX10_readCalls_204 (by decide) (by omega) (fun c204 => ?_) (fun c204 => ?_)
    · exact absurd rfl c204
    · refine v_aload_n dX10_readCalls_207 rfl (by rfl) ?_
      refine v_iconst (v := nI 4) dX10_readCalls_208 (by decide) ?_
      refine v_iload_n dX10_readCalls_209 rfl (by rfl) ?_
      refine w_callV hE dX10_readCalls_210 kX10_160 mdS_M (by rfl) (by rfl) (sX10_bad hE) rfl (by decide) (by decide) (by exact Nat.le_of_ble_eq_true rfl) (by omega) (by omega) (fun v9 g9 u9 h9 => ?_) (fun _ _ _ h => by cases h.1)
      obtain ⟨hv9, hu9, hg9⟩ := h9
      replace hu9 := hu9.symm
      subst hu9
      subst hg9
      cases hv9
      rw [mBad_0 hFv]
      refine v_ret dX10_readCalls_213 rfl ?_
      refine ⟨rfl, rfl, _, rfl, hv, ?_, fun z => ?_⟩
      · rw [hno, if_neg (by decide), ← hv2]
        exact fO_b (by decide)
      · rw [hno] at z
        exact Bool.noConfusion z
  have stY : ∀ (v : mV) (S : Int32) (z8 z9 : Option Value), v.2 = y.2 → rCl r s y v → (okC u i j A) = true → (v.1 30 (3 * r + s) = nI (if j - i = 3 then 2 else 1) ∧ v.1 31 (3 * r + s) = bI (decide (j - i = 3) && decide (mOct u (i + 1) = nI 124)) ∧ v.1 29 (6 * r + 2 * s + 0) = (mCO A (mOct u i)) ∧ (j - i = 3 → v.1 29 (6 * r + 2 * s + 1) = (mCO A (mOct u (i + 2))))) → V E mX10_readCalls 0 0 (fun o f' t' => o = .inl none ∧ t' = t ∧ ∃ y', f' = mdS f M y' ∧ rCl r s y y' ∧ fO y.2 y'.2 (if (okC u i j A) = true then 0 else 4) i ∧ ((okC u i j A) = true → y'.1 30 (3 * r + s) = nI (if j - i = 3 then 2 else 1) ∧ y'.1 31 (3 * r + s) = bI (decide (j - i = 3) && decide (mOct u (i + 1) = nI 124)) ∧ y'.1 29 (6 * r + 2 * s + 0) = (mCO A (mOct u i)) ∧ (j - i = 3 → y'.1 29 (6 * r + 2 * s + 1) = (mCO A (mOct u (i + 2)))))) 202 [some (.ref M), some (.int (nI r)), some (.int (nI s)), some (.int (nI i)), some (.int (nI j)), some (.int (nI (j - i))), some (.int S), some (.int (nI 1)), z8, z9] [] (mdS f M v) t 0 0 := by
    intro v S z8 z9 hv2 hv hyes hfin
    refine v_iload dX10_readCalls_202 (by rfl) ?_
    refine v_if_neN (tgt := 213) dX10_readCalls_204 (by decide) (by omega) (fun c204 => ?_) (fun c204 => ?_)
    · refine v_ret dX10_readCalls_213 rfl ?_
      refine ⟨rfl, rfl, v, rfl, hv, ?_, fun _ => hfin⟩
      rw [hyes, if_pos rfl]
      exact Or.inl ⟨rfl, hv2⟩
    · exact absurd c204 (by decide)
  have st1 : ∀ (v : mV) (S : Int32) (z9 : Option Value), v.2 = y.2 → rCl r s y v → v.1 30 (3 * r + s) = nI (if j - i = 3 then 2 else 1) → v.1 31 (3 * r + s) = bI (decide (j - i = 3) && decide (mOct u (i + 1) = nI 124)) → v.1 29 (6 * r + 2 * s + 0) = (mCO A (mOct u i)) → ¬ (mCO A (mOct u i)) = -2 → j - i = 1 → V E mX10_readCalls 0 0 (fun o f' t' => o = .inl none ∧ t' = t ∧ ∃ y', f' = mdS f M y' ∧ rCl r s y y' ∧ fO y.2 y'.2 (if (okC u i j A) = true then 0 else 4) i ∧ ((okC u i j A) = true → y'.1 30 (3 * r + s) = nI (if j - i = 3 then 2 else 1) ∧ y'.1 31 (3 * r + s) = bI (decide (j - i = 3) && decide (mOct u (i + 1) = nI 124)) ∧ y'.1 29 (6 * r + 2 * s + 0) = (mCO A (mOct u i)) ∧ (j - i = 3 → y'.1 29 (6 * r + 2 * s + 1) = (mCO A (mOct u (i + 2)))))) 127 [some (.ref M), some (.int (nI r)), some (.int (nI s)), some (.int (nI i)), some (.int (nI j)), some (.int (nI (j - i))), some (.int S), some (.int (nI 1)), some (.int (nI (0 + 1))), z9] [] (mdS f M v) t 0 0 := by
    intro v S z9 hv2 hv h30 h31 h29 c186 hn1
    refine v_iload dX10_readCalls_127 (by rfl) ?_
    refine v_iconst (v := nI 2) dX10_readCalls_129 (by decide) ?_
    refine v_icmp_geN (tgt := 202) dX10_readCalls_130 (by decide) (by omega) (by omega) (fun c130 => ?_) (fun c130 => ?_)
    · exact absurd c130 (by omega)
    · refine v_iload dX10_readCalls_133 (by rfl) ?_
      refine v_if_eqN (tgt := 202) dX10_readCalls_135 (by decide) (by omega) (fun c135 => ?_) (fun c135 => ?_)
      · exact absurd c135 (by decide)
      · refine v_iconst (v := nI 2) dX10_readCalls_138 (by decide) ?_
        refine v_iload dX10_readCalls_139 (by rfl) ?_
        refine v_imulN dX10_readCalls_141 ?_
        refine v_iload dX10_readCalls_142 (by rfl) ?_
        refine v_icmp_geN (tgt := 196) dX10_readCalls_144 (by decide) (by omega) (by omega) (fun c144 => ?_) (fun c144 => ?_)
        · refine v_iincN (y := 1) dX10_readCalls_196 (by rfl) (by decide) (by decide) ?_
          refine v_goto (tgt := 127) dX10_readCalls_199 (by decide) ?_
          refine v_iload dX10_readCalls_127 (by rfl) ?_
          refine v_iconst (v := nI 2) dX10_readCalls_129 (by decide) ?_
          refine v_icmp_geN (tgt := 202) dX10_readCalls_130 (by decide) (by omega) (by omega) (fun c130 => ?_) (fun c130 => ?_)
          · exact stY v S _ _ hv2 hv (by unfold okC; rw [decide_eq_true (show j - i = 1 by omega), decide_eq_true c186]; rfl) ⟨h30, h31, h29, fun z => absurd z (by omega)⟩
          · exact absurd c130 (by omega)
        · exact absurd c144 (by omega)
  have st3 : ∀ (v : mV) (S : Int32) (z9 : Option Value), v.2 = y.2 → rCl r s y v → v.1 30 (3 * r + s) = nI (if j - i = 3 then 2 else 1) → v.1 31 (3 * r + s) = bI (decide (j - i = 3) && decide (mOct u (i + 1) = nI 124)) → v.1 29 (6 * r + 2 * s + 0) = (mCO A (mOct u i)) → ¬ (mCO A (mOct u i)) = -2 → j - i = 3 → isSp u (i + 1) → V E mX10_readCalls 0 0 (fun o f' t' => o = .inl none ∧ t' = t ∧ ∃ y', f' = mdS f M y' ∧ rCl r s y y' ∧ fO y.2 y'.2 (if (okC u i j A) = true then 0 else 4) i ∧ ((okC u i j A) = true → y'.1 30 (3 * r + s) = nI (if j - i = 3 then 2 else 1) ∧ y'.1 31 (3 * r + s) = bI (decide (j - i = 3) && decide (mOct u (i + 1) = nI 124)) ∧ y'.1 29 (6 * r + 2 * s + 0) = (mCO A (mOct u i)) ∧ (j - i = 3 → y'.1 29 (6 * r + 2 * s + 1) = (mCO A (mOct u (i + 2)))))) 127 [some (.ref M), some (.int (nI r)), some (.int (nI s)), some (.int (nI i)), some (.int (nI j)), some (.int (nI (j - i))), some (.int S), some (.int (nI 1)), some (.int (nI (0 + 1))), z9] [] (mdS f M v) t 0 0 := by
    intro v S z9 hv2 hv h30 h31 h29 c186 n3 hsp
    have hpv : mTp v u := ⟨by rw [hv2]; exact hp.1, hp.2.1, by rw [hv.1 1 (by decide) (by decide) (by decide)]; exact hp.2.2⟩
    have h24v : v.1 24 r = nI A := by rw [hv.1 24 (by decide) (by decide) (by decide)]; exact h24
    have hvB : rCl r s y (va_up v.1 29 (upd (v.1 29) (6 * r + 2 * s + (0 + 1)) (mCO A (mOct u (i + 2)))), v.2) := rCl_9 (v := v) hv (by omega) (mCO_3 hA3)
    have hs2 : (decide (mOct u (i + 1) = nI 47) || decide (mOct u (i + 1) = nI 124)) = true := by
      rcases hsp with e | e
      · rw [decide_eq_true e]; rfl
      · rw [decide_eq_true e, Bool.or_true]
    refine v_iload dX10_readCalls_127 (by rfl) ?_
    refine v_iconst (v := nI 2) dX10_readCalls_129 (by decide) ?_
    refine v_icmp_geN (tgt := 202) dX10_readCalls_130 (by decide) (by omega) (by omega) (fun c130 => ?_) (fun c130 => ?_)
    · exact absurd c130 (by omega)
    · refine v_iload dX10_readCalls_133 (by rfl) ?_
      refine v_if_eqN (tgt := 202) dX10_readCalls_135 (by decide) (by omega) (fun c135 => ?_) (fun c135 => ?_)
      · exact absurd c135 (by decide)
      · refine v_iconst (v := nI 2) dX10_readCalls_138 (by decide) ?_
        refine v_iload dX10_readCalls_139 (by rfl) ?_
        refine v_imulN dX10_readCalls_141 ?_
        refine v_iload dX10_readCalls_142 (by rfl) ?_
        refine v_icmp_geN (tgt := 196) dX10_readCalls_144 (by decide) (by omega) (by omega) (fun c144 => ?_) (fun c144 => ?_)
        · exact absurd c144 (by omega)
        · refine v_aload_n dX10_readCalls_147 rfl (by rfl) ?_
          refine v_iload_n dX10_readCalls_148 rfl (by rfl) ?_
          refine v_aload_n dX10_readCalls_149 rfl (by rfl) ?_
          refine v_iload_n dX10_readCalls_150 rfl (by rfl) ?_
          refine v_iconst (v := nI 2) dX10_readCalls_151 (by decide) ?_
          refine v_iload dX10_readCalls_152 (by rfl) ?_
          refine v_imulN dX10_readCalls_154 ?_
          refine v_iaddN dX10_readCalls_155 ?_
          refine w_callV hE dX10_readCalls_156 kX10_156 mdS_M (by rfl) (by rfl) (sX10_at hE (y := v) (u := u) hpv (by omega)) rfl (by decide) (by decide) (by exact Nat.le_of_ble_eq_true rfl) (by omega) (by omega) (fun v9 g9 u9 h9 => ?_) (fun _ _ _ h => by cases h.1)
          obtain ⟨hv9, hu9, hg9⟩ := h9
          replace hu9 := hu9.symm
          subst hu9
          subst hg9
          cases hv9
          refine v_eqi (y := mOct u (i + 2)) rfl ?_
          refine w_callV hE dX10_readCalls_159 kX10_261 mdS_M (by rfl) (by rfl) (sX10_callOf hE (y := v) (A := A) h24v hr hA3) rfl (by decide) (by decide) (by exact Nat.le_of_ble_eq_true rfl) (by omega) (by omega) (fun v9 g9 u9 h9 => ?_) (fun _ _ _ h => by cases h.1)
          obtain ⟨hv9, hu9, hg9⟩ := h9
          replace hu9 := hu9.symm
          subst hu9
          subst hg9
          cases hv9
          refine v_istore dX10_readCalls_162 (by decide) ?_
          refine v_aload_n dX10_readCalls_164 rfl (by rfl) ?_
          refine v_getf hE dX10_readCalls_165 fX10_100 mdS_M (by rfl) ?_
          refine v_bipush (v := nI 6) dX10_readCalls_168 (by decide) ?_
          refine v_iload_n dX10_readCalls_170 rfl (by rfl) ?_
          refine v_imulN dX10_readCalls_171 ?_
          refine v_iconst (v := nI 2) dX10_readCalls_172 (by decide) ?_
          refine v_iload_n dX10_readCalls_173 rfl (by rfl) ?_
          refine v_imulN dX10_readCalls_174 ?_
          refine v_iaddN dX10_readCalls_175 ?_
          refine v_iload dX10_readCalls_176 (by rfl) ?_
          refine v_iaddN dX10_readCalls_178 ?_
          refine v_iload dX10_readCalls_179 (by rfl) ?_
          refine m_iast hE (k := 29) dX10_readCalls_181 (by decide) (by decide) rfl (show _ < 1440 by omega) (by omega) ?_
          refine v_iload dX10_readCalls_182 (by rfl) ?_
          refine v_bipush (v := (-2)) dX10_readCalls_184 (by decide) ?_
          refine v_icmp_eq (tgt := 193) dX10_readCalls_186 (by decide) (fun c187 => ?_) (fun c187 => ?_)
          · have hno1 : (okC u i j A) = false := by
              unfold okC
              rw [decide_eq_false (show ¬ j - i = 1 by omega), decide_eq_false (show ¬ ¬ (mCO A (mOct u (i + 2))) = -2 from fun z => z c187), Bool.false_and, Bool.and_false, Bool.and_false, Bool.and_false]
              rfl
            refine v_iconst (v := nI 0) dX10_readCalls_193 (by decide) ?_
            refine v_istore dX10_readCalls_194 (by decide) ?_
            refine v_iincN (y := 1) dX10_readCalls_196 (by rfl) (by decide) (by decide) ?_
            refine v_goto (tgt := 127) dX10_readCalls_199 (by decide) ?_
            refine v_iload dX10_readCalls_127 (by rfl) ?_
            refine v_iconst (v := nI 2) dX10_readCalls_129 (by decide) ?_
            refine v_icmp_geN (tgt := 202) dX10_readCalls_130 (by decide) (by omega) (by omega) (fun c130 => ?_) (fun c130 => ?_)
            · exact stX (va_up v.1 29 (upd (v.1 29) (6 * r + 2 * s + (0 + 1)) (mCO A (mOct u (i + 2)))), v.2) S _ _ hv2 hvB hno1
            · exact absurd c130 (by omega)
          · refine v_iconst (v := nI 1) dX10_readCalls_189 (by decide) ?_
            refine v_goto (tgt := 194) dX10_readCalls_190 (by decide) ?_
            refine v_istore dX10_readCalls_194 (by decide) ?_
            refine v_iincN (y := 1) dX10_readCalls_196 (by rfl) (by decide) (by decide) ?_
            refine v_goto (tgt := 127) dX10_readCalls_199 (by decide) ?_
            refine v_iload dX10_readCalls_127 (by rfl) ?_
            refine v_iconst (v := nI 2) dX10_readCalls_129 (by decide) ?_
            refine v_icmp_geN (tgt := 202) dX10_readCalls_130 (by decide) (by omega) (by omega) (fun c130 => ?_) (fun c130 => ?_)
            · exact stY (va_up v.1 29 (upd (v.1 29) (6 * r + 2 * s + (0 + 1)) (mCO A (mOct u (i + 2)))), v.2) S _ _ hv2 hvB (by unfold okC; rw [decide_eq_true n3, decide_eq_true c186, decide_eq_true c187, hs2]; cases decide (j - i = 1) <;> rfl) ⟨h30, h31, (show upd (v.1 29) (6 * r + 2 * s + (0 + 1)) (mCO A (mOct u (i + 2))) (6 * r + 2 * s + 0) = _ from (updN (by omega)).trans h29), fun _ => updS⟩
            · exact absurd c130 (by omega)
  have st0 : ∀ (v : mV) (S : Int32) (z8 z9 : Option Value), v.2 = y.2 → rCl r s y v → v.1 30 (3 * r + s) = nI (if j - i = 3 then 2 else 1) → v.1 31 (3 * r + s) = bI (decide (j - i = 3) && decide (mOct u (i + 1) = nI 124)) → (j - i = 1 ∨ j - i = 3) → (j - i = 3 → isSp u (i + 1)) → V E mX10_readCalls 0 0 (fun o f' t' => o = .inl none ∧ t' = t ∧ ∃ y', f' = mdS f M y' ∧ rCl r s y y' ∧ fO y.2 y'.2 (if (okC u i j A) = true then 0 else 4) i ∧ ((okC u i j A) = true → y'.1 30 (3 * r + s) = nI (if j - i = 3 then 2 else 1) ∧ y'.1 31 (3 * r + s) = bI (decide (j - i = 3) && decide (mOct u (i + 1) = nI 124)) ∧ y'.1 29 (6 * r + 2 * s + 0) = (mCO A (mOct u i)) ∧ (j - i = 3 → y'.1 29 (6 * r + 2 * s + 1) = (mCO A (mOct u (i + 2)))))) 124 [some (.ref M), some (.int (nI r)), some (.int (nI s)), some (.int (nI i)), some (.int (nI j)), some (.int (nI (j - i))), some (.int S), some (.int (nI 1)), z8, z9] [] (mdS f M v) t 0 0 := by
    intro v S z8 z9 hv2 hv h30 h31 hn hsep
    have hpv : mTp v u := ⟨by rw [hv2]; exact hp.1, hp.2.1, by rw [hv.1 1 (by decide) (by decide) (by decide)]; exact hp.2.2⟩
    have h24v : v.1 24 r = nI A := by rw [hv.1 24 (by decide) (by decide) (by decide)]; exact h24
    have hvA : rCl r s y (va_up v.1 29 (upd (v.1 29) (6 * r + 2 * s + 0) (mCO A (mOct u i))), v.2) := rCl_9 hv (by omega) (mCO_3 hA3)
    refine v_iconst (v := nI 0) dX10_readCalls_124 (by decide) ?_
    refine v_istore dX10_readCalls_125 (by decide) ?_
    refine v_iload dX10_readCalls_127 (by rfl) ?_
    refine v_iconst (v := nI 2) dX10_readCalls_129 (by decide) ?_
    refine v_icmp_geN (tgt := 202) dX10_readCalls_130 (by decide) (by omega) (by omega) (fun c130 => ?_) (fun c130 => ?_)
    · exact absurd c130 (by omega)
    · refine v_iload dX10_readCalls_133 (by rfl) ?_
      refine v_if_eqN (tgt := 202) dX10_readCalls_135 (by decide) (by omega) (fun c135 => ?_) (fun c135 => ?_)
      · exact absurd c135 (by decide)
      · refine v_iconst (v := nI 2) dX10_readCalls_138 (by decide) ?_
        refine v_iload dX10_readCalls_139 (by rfl) ?_
        refine v_imulN dX10_readCalls_141 ?_
        refine v_iload dX10_readCalls_142 (by rfl) ?_
        refine v_icmp_geN (tgt := 196) dX10_readCalls_144 (by decide) (by omega) (by omega) (fun c144 => ?_) (fun c144 => ?_)
        · exact absurd c144 (by omega)
        · refine v_aload_n dX10_readCalls_147 rfl (by rfl) ?_
          refine v_iload_n dX10_readCalls_148 rfl (by rfl) ?_
          refine v_aload_n dX10_readCalls_149 rfl (by rfl) ?_
          refine v_iload_n dX10_readCalls_150 rfl (by rfl) ?_
          refine v_iconst (v := nI 2) dX10_readCalls_151 (by decide) ?_
          refine v_iload dX10_readCalls_152 (by rfl) ?_
          refine v_imulN dX10_readCalls_154 ?_
          refine v_iaddN dX10_readCalls_155 ?_
          refine w_callV hE dX10_readCalls_156 kX10_156 mdS_M (by rfl) (by rfl) (sX10_at hE (y := v) (u := u) hpv (by omega)) rfl (by decide) (by decide) (by exact Nat.le_of_ble_eq_true rfl) (by omega) (by omega) (fun v9 g9 u9 h9 => ?_) (fun _ _ _ h => by cases h.1)
          obtain ⟨hv9, hu9, hg9⟩ := h9
          replace hu9 := hu9.symm
          subst hu9
          subst hg9
          cases hv9
          refine v_eqi (y := mOct u i) rfl ?_
          refine w_callV hE dX10_readCalls_159 kX10_261 mdS_M (by rfl) (by rfl) (sX10_callOf hE (y := v) (A := A) h24v hr hA3) rfl (by decide) (by decide) (by exact Nat.le_of_ble_eq_true rfl) (by omega) (by omega) (fun v9 g9 u9 h9 => ?_) (fun _ _ _ h => by cases h.1)
          obtain ⟨hv9, hu9, hg9⟩ := h9
          replace hu9 := hu9.symm
          subst hu9
          subst hg9
          cases hv9
          refine v_istore dX10_readCalls_162 (by decide) ?_
          refine v_aload_n dX10_readCalls_164 rfl (by rfl) ?_
          refine v_getf hE dX10_readCalls_165 fX10_100 mdS_M (by rfl) ?_
          refine v_bipush (v := nI 6) dX10_readCalls_168 (by decide) ?_
          refine v_iload_n dX10_readCalls_170 rfl (by rfl) ?_
          refine v_imulN dX10_readCalls_171 ?_
          refine v_iconst (v := nI 2) dX10_readCalls_172 (by decide) ?_
          refine v_iload_n dX10_readCalls_173 rfl (by rfl) ?_
          refine v_imulN dX10_readCalls_174 ?_
          refine v_iaddN dX10_readCalls_175 ?_
          refine v_iload dX10_readCalls_176 (by rfl) ?_
          refine v_iaddN dX10_readCalls_178 ?_
          refine v_iload dX10_readCalls_179 (by rfl) ?_
          refine m_iast hE (k := 29) dX10_readCalls_181 (by decide) (by decide) rfl (show _ < 1440 by omega) (by omega) ?_
          refine v_iload dX10_readCalls_182 (by rfl) ?_
          refine v_bipush (v := (-2)) dX10_readCalls_184 (by decide) ?_
          refine v_icmp_eq (tgt := 193) dX10_readCalls_186 (by decide) (fun c186 => ?_) (fun c186 => ?_)
          · have hno0 : (okC u i j A) = false := by
              unfold okC
              rw [decide_eq_false (show ¬ ¬ (mCO A (mOct u i)) = -2 from fun z => z c186), Bool.and_false, Bool.false_and, Bool.and_false, Bool.and_false]
              rfl
            refine v_iconst (v := nI 0) dX10_readCalls_193 (by decide) ?_
            refine v_istore dX10_readCalls_194 (by decide) ?_
            refine v_iincN (y := 1) dX10_readCalls_196 (by rfl) (by decide) (by decide) ?_
            refine v_goto (tgt := 127) dX10_readCalls_199 (by decide) ?_
            refine v_iload dX10_readCalls_127 (by rfl) ?_
            refine v_iconst (v := nI 2) dX10_readCalls_129 (by decide) ?_
            refine v_icmp_geN (tgt := 202) dX10_readCalls_130 (by decide) (by omega) (by omega) (fun c130 => ?_) (fun c130 => ?_)
            · exact stX (va_up v.1 29 (upd (v.1 29) (6 * r + 2 * s + 0) (mCO A (mOct u i))), v.2) S _ _ hv2 hvA hno0
            · refine v_iload dX10_readCalls_133 (by rfl) ?_
              refine v_if_eqN (tgt := 202) dX10_readCalls_135 (by decide) (by omega) (fun c135 => ?_) (fun c135 => ?_)
              · exact stX (va_up v.1 29 (upd (v.1 29) (6 * r + 2 * s + 0) (mCO A (mOct u i))), v.2) S _ _ hv2 hvA hno0
              · exact absurd rfl c135
          · refine v_iconst (v := nI 1) dX10_readCalls_189 (by decide) ?_
            refine v_goto (tgt := 194) dX10_readCalls_190 (by decide) ?_
            refine v_istore dX10_readCalls_194 (by decide) ?_
            refine v_iincN (y := 1) dX10_readCalls_196 (by rfl) (by decide) (by decide) ?_
            refine v_goto (tgt := 127) dX10_readCalls_199 (by decide) ?_
            by_cases n3 : j - i = 3
            · exact st3 (va_up v.1 29 (upd (v.1 29) (6 * r + 2 * s + 0) (mCO A (mOct u i))), v.2) S _ hv2 hvA h30 h31 updS c186 n3 (hsep n3)
            · exact st1 (va_up v.1 29 (upd (v.1 29) (6 * r + 2 * s + 0) (mCO A (mOct u i))), v.2) S _ hv2 hvA h30 h31 updS c186 (by omega)
  refine v_iload dX10_readCalls_0 (by rfl) ?_
  refine v_iload_n dX10_readCalls_2 rfl (by rfl) ?_
  refine v_isubN dX10_readCalls_3 (by omega) ?_
  refine v_istore dX10_readCalls_4 (by decide) ?_
  refine v_iload dX10_readCalls_6 (by rfl) ?_
  refine v_iconst (v := nI 3) dX10_readCalls_8 (by decide) ?_
  refine v_icmp_neN (tgt := 22) dX10_readCalls_9 (by decide) (by omega) (by omega) (fun c9 => ?_) (fun c9 => ?_)
  · refine v_bipush (v := nI 47) dX10_readCalls_22 (by decide) ?_
    refine v_istore dX10_readCalls_24 (by decide) ?_
    refine v_iload dX10_readCalls_26 (by rfl) ?_
    refine v_iconst (v := nI 1) dX10_readCalls_28 (by decide) ?_
    refine v_icmp_eqN (tgt := 38) dX10_readCalls_29 (by decide) (by omega) (by omega) (fun c29 => ?_) (fun c29 => ?_)
    · refine v_iload dX10_readCalls_38 (by rfl) ?_
      refine v_bipush (v := nI 47) dX10_readCalls_40 (by decide) ?_
      refine v_icmp_eqN (tgt := 52) dX10_readCalls_42 (by decide) (by omega) (by omega) (fun c42 => ?_) (fun c42 => ?_)
      · refine v_iconst (v := nI 1) dX10_readCalls_52 (by decide) ?_
        refine v_goto (tgt := 57) dX10_readCalls_53 (by decide) ?_
        refine v_istore dX10_readCalls_57 (by decide) ?_
        refine v_aload_n dX10_readCalls_59 rfl (by rfl) ?_
        refine v_getf hE dX10_readCalls_60 fX10_103 mdS_M (by rfl) ?_
        refine v_iconst (v := nI 3) dX10_readCalls_63 (by decide) ?_
        refine v_iload_n dX10_readCalls_64 rfl (by rfl) ?_
        refine v_imulN dX10_readCalls_65 ?_
        refine v_iload_n dX10_readCalls_66 rfl (by rfl) ?_
        refine v_iaddN dX10_readCalls_67 ?_
        refine v_iload dX10_readCalls_68 (by rfl) ?_
        refine v_iconst (v := nI 3) dX10_readCalls_70 (by decide) ?_
        refine v_icmp_neN (tgt := 78) dX10_readCalls_71 (by decide) (by omega) (by omega) (fun c71 => ?_) (fun c71 => ?_)
        · refine v_iconst (v := nI 1) dX10_readCalls_78 (by decide) ?_
          refine v_eqi (y := nI (if j - i = 3 then 2 else 1)) (by rw [if_neg (show ¬ j - i = 3 by omega)]) ?_
          refine m_iast hE (k := 30) dX10_readCalls_79 (by decide) (by decide) rfl (show _ < 720 by omega) (by omega) ?_
          refine v_aload_n dX10_readCalls_80 rfl (by rfl) ?_
          refine v_getf hE dX10_readCalls_81 fX10_106 mdS_M (by rfl) ?_
          refine v_iconst (v := nI 3) dX10_readCalls_84 (by decide) ?_
          refine v_iload_n dX10_readCalls_85 rfl (by rfl) ?_
          refine v_imulN dX10_readCalls_86 ?_
          refine v_iload_n dX10_readCalls_87 rfl (by rfl) ?_
          refine v_iaddN dX10_readCalls_88 ?_
          refine v_iload dX10_readCalls_89 (by rfl) ?_
          refine v_iconst (v := nI 3) dX10_readCalls_91 (by decide) ?_
          refine v_icmp_neN (tgt := 106) dX10_readCalls_92 (by decide) (by omega) (by omega) (fun c92 => ?_) (fun c92 => ?_)
          · refine v_iconst (v := nI 0) dX10_readCalls_106 (by decide) ?_
            refine v_eqi (y := bI (decide (j - i = 3) && decide (mOct u (i + 1) = nI 124))) (bI_f (by first | (rw [decide_eq_false (show ¬ j - i = 3 by omega)]; rfl) | (rw [decide_eq_false c99, Bool.and_false]))) ?_
            refine m_zast hE (k := 31) dX10_readCalls_107 (by decide) (by decide) rfl (show _ < 720 by omega) (by omega) ?_
            rw [nar_bb]
            refine v_aload_n dX10_readCalls_108 rfl (by rfl) ?_
            refine v_getf hE dX10_readCalls_109 fX10_100 mdS_M (by rfl) ?_
            refine v_bipush (v := nI 6) dX10_readCalls_112 (by decide) ?_
            refine v_iload_n dX10_readCalls_114 rfl (by rfl) ?_
            refine v_imulN dX10_readCalls_115 ?_
            refine v_iconst (v := nI 2) dX10_readCalls_116 (by decide) ?_
            refine v_iload_n dX10_readCalls_117 rfl (by rfl) ?_
            refine v_imulN dX10_readCalls_118 ?_
            refine v_iaddN dX10_readCalls_119 ?_
            refine v_iconst (v := nI 1) dX10_readCalls_120 (by decide) ?_
            refine v_iaddN dX10_readCalls_121 ?_
            refine v_iconst (v := (-1)) dX10_readCalls_122 (by decide) ?_
            refine m_iast hE (k := 29) dX10_readCalls_123 (by decide) (by decide) rfl (show _ < 1440 by omega) (by omega) ?_
            exact st0 (va_up (va_up (va_up y.1 30 (upd (y.1 30) (3 * r + s) (nI (if j - i = 3 then 2 else 1)))) 31 (upd (y.1 31) (3 * r + s) (bI (decide (j - i = 3) && decide (mOct u (i + 1) = nI 124)))), y.2).1 29 (upd ((va_up (va_up y.1 30 (upd (y.1 30) (3 * r + s) (nI (if j - i = 3 then 2 else 1)))) 31 (upd (y.1 31) (3 * r + s) (bI (decide (j - i = 3) && decide (mOct u (i + 1) = nI 124)))), y.2).1 29) (6 * r + 2 * s + 1) (-1)), (va_up (va_up y.1 30 (upd (y.1 30) (3 * r + s) (nI (if j - i = 3 then 2 else 1)))) 31 (upd (y.1 31) (3 * r + s) (bI (decide (j - i = 3) && decide (mOct u (i + 1) = nI 124)))), y.2).2) (nI 47) _ _ rfl (rCl_9 (rCl_0 hO) (by omega) (by decide)) updS updS (Or.inl (by omega)) (fun z => absurd z (by omega))
          · exact absurd c92 (by omega)
        · exact absurd c71 (by omega)
      · exact absurd rfl c42
    · refine v_iload dX10_readCalls_32 (by rfl) ?_
      refine v_iconst (v := nI 3) dX10_readCalls_34 (by decide) ?_
      refine v_icmp_neN (tgt := 56) dX10_readCalls_35 (by decide) (by omega) (by omega) (fun c35 => ?_) (fun c35 => ?_)
      · refine v_iconst (v := nI 0) dX10_readCalls_56 (by decide) ?_
        refine v_istore dX10_readCalls_57 (by decide) ?_
        refine v_aload_n dX10_readCalls_59 rfl (by rfl) ?_
        refine v_getf hE dX10_readCalls_60 fX10_103 mdS_M (by rfl) ?_
        refine v_iconst (v := nI 3) dX10_readCalls_63 (by decide) ?_
        refine v_iload_n dX10_readCalls_64 rfl (by rfl) ?_
        refine v_imulN dX10_readCalls_65 ?_
        refine v_iload_n dX10_readCalls_66 rfl (by rfl) ?_
        refine v_iaddN dX10_readCalls_67 ?_
        refine v_iload dX10_readCalls_68 (by rfl) ?_
        refine v_iconst (v := nI 3) dX10_readCalls_70 (by decide) ?_
        refine v_icmp_neN (tgt := 78) dX10_readCalls_71 (by decide) (by omega) (by omega) (fun c71 => ?_) (fun c71 => ?_)
        · refine v_iconst (v := nI 1) dX10_readCalls_78 (by decide) ?_
          refine v_eqi (y := nI (if j - i = 3 then 2 else 1)) (by rw [if_neg (show ¬ j - i = 3 by omega)]) ?_
          refine m_iast hE (k := 30) dX10_readCalls_79 (by decide) (by decide) rfl (show _ < 720 by omega) (by omega) ?_
          refine v_aload_n dX10_readCalls_80 rfl (by rfl) ?_
          refine v_getf hE dX10_readCalls_81 fX10_106 mdS_M (by rfl) ?_
          refine v_iconst (v := nI 3) dX10_readCalls_84 (by decide) ?_
          refine v_iload_n dX10_readCalls_85 rfl (by rfl) ?_
          refine v_imulN dX10_readCalls_86 ?_
          refine v_iload_n dX10_readCalls_87 rfl (by rfl) ?_
          refine v_iaddN dX10_readCalls_88 ?_
          refine v_iload dX10_readCalls_89 (by rfl) ?_
          refine v_iconst (v := nI 3) dX10_readCalls_91 (by decide) ?_
          refine v_icmp_neN (tgt := 106) dX10_readCalls_92 (by decide) (by omega) (by omega) (fun c92 => ?_) (fun c92 => ?_)
          · refine v_iconst (v := nI 0) dX10_readCalls_106 (by decide) ?_
            refine v_eqi (y := bI (decide (j - i = 3) && decide (mOct u (i + 1) = nI 124))) (bI_f (by first | (rw [decide_eq_false (show ¬ j - i = 3 by omega)]; rfl) | (rw [decide_eq_false c99, Bool.and_false]))) ?_
            refine m_zast hE (k := 31) dX10_readCalls_107 (by decide) (by decide) rfl (show _ < 720 by omega) (by omega) ?_
            rw [nar_bb]
            refine v_aload_n dX10_readCalls_108 rfl (by rfl) ?_
            refine v_getf hE dX10_readCalls_109 fX10_100 mdS_M (by rfl) ?_
            refine v_bipush (v := nI 6) dX10_readCalls_112 (by decide) ?_
            refine v_iload_n dX10_readCalls_114 rfl (by rfl) ?_
            refine v_imulN dX10_readCalls_115 ?_
            refine v_iconst (v := nI 2) dX10_readCalls_116 (by decide) ?_
            refine v_iload_n dX10_readCalls_117 rfl (by rfl) ?_
            refine v_imulN dX10_readCalls_118 ?_
            refine v_iaddN dX10_readCalls_119 ?_
            refine v_iconst (v := nI 1) dX10_readCalls_120 (by decide) ?_
            refine v_iaddN dX10_readCalls_121 ?_
            refine v_iconst (v := (-1)) dX10_readCalls_122 (by decide) ?_
            refine m_iast hE (k := 29) dX10_readCalls_123 (by decide) (by decide) rfl (show _ < 1440 by omega) (by omega) ?_
            refine v_iconst (v := nI 0) dX10_readCalls_124 (by decide) ?_
            refine v_istore dX10_readCalls_125 (by decide) ?_
            refine v_iload dX10_readCalls_127 (by rfl) ?_
            refine v_iconst (v := nI 2) dX10_readCalls_129 (by decide) ?_
            refine v_icmp_geN (tgt := 202) dX10_readCalls_130 (by decide) (by omega) (by omega) (fun c130 => ?_) (fun c130 => ?_)
            · exact absurd c130 (by omega)
            · refine v_iload dX10_readCalls_133 (by rfl) ?_
              refine v_if_eqN (tgt := 202) dX10_readCalls_135 (by decide) (by omega) (fun c135 => ?_) (fun c135 => ?_)
              · exact stX (va_up (va_up (va_up y.1 30 (upd (y.1 30) (3 * r + s) (nI (if j - i = 3 then 2 else 1)))) 31 (upd (y.1 31) (3 * r + s) (bI (decide (j - i = 3) && decide (mOct u (i + 1) = nI 124)))), y.2).1 29 (upd ((va_up (va_up y.1 30 (upd (y.1 30) (3 * r + s) (nI (if j - i = 3 then 2 else 1)))) 31 (upd (y.1 31) (3 * r + s) (bI (decide (j - i = 3) && decide (mOct u (i + 1) = nI 124)))), y.2).1 29) (6 * r + 2 * s + 1) (-1)), (va_up (va_up y.1 30 (upd (y.1 30) (3 * r + s) (nI (if j - i = 3 then 2 else 1)))) 31 (upd (y.1 31) (3 * r + s) (bI (decide (j - i = 3) && decide (mOct u (i + 1) = nI 124)))), y.2).2) (nI 47) _ _ rfl (rCl_9 (rCl_0 hO) (by omega) (by decide)) (by unfold okC; rw [decide_eq_false (show ¬ j - i = 1 by omega), decide_eq_false (show ¬ j - i = 3 by omega)]; rfl)
              · exact absurd rfl c135
          · exact absurd c92 (by omega)
        · exact absurd c71 (by omega)
      · exact absurd c35 (by omega)
  · refine v_aload_n dX10_readCalls_12 rfl (by rfl) ?_
    refine v_iload_n dX10_readCalls_13 rfl (by rfl) ?_
    refine v_iconst (v := nI 1) dX10_readCalls_14 (by decide) ?_
    refine v_iaddN dX10_readCalls_15 ?_
    refine w_callV hE dX10_readCalls_16 kX10_156 mdS_M (by rfl) (by rfl) (sX10_at hE (y := y) (u := u) hp (by omega)) rfl (by decide) (by decide) (by exact Nat.le_of_ble_eq_true rfl) (by omega) (by omega) (fun v9 g9 u9 h9 => ?_) (fun _ _ _ h => by cases h.1)
    obtain ⟨hv9, hu9, hg9⟩ := h9
    replace hu9 := hu9.symm
    subst hu9
    subst hg9
    cases hv9
    refine v_goto (tgt := 24) dX10_readCalls_19 (by decide) ?_
    refine v_istore dX10_readCalls_24 (by decide) ?_
    refine v_iload dX10_readCalls_26 (by rfl) ?_
    refine v_iconst (v := nI 1) dX10_readCalls_28 (by decide) ?_
    refine v_icmp_eqN (tgt := 38) dX10_readCalls_29 (by decide) (by omega) (by omega) (fun c29 => ?_) (fun c29 => ?_)
    · exact absurd c29 (by omega)
    · refine v_iload dX10_readCalls_32 (by rfl) ?_
      refine v_iconst (v := nI 3) dX10_readCalls_34 (by decide) ?_
      refine v_icmp_neN (tgt := 56) dX10_readCalls_35 (by decide) (by omega) (by omega) (fun c35 => ?_) (fun c35 => ?_)
      · exact absurd c35 (by omega)
      · refine v_iload dX10_readCalls_38 (by rfl) ?_
        refine v_bipush (v := nI 47) dX10_readCalls_40 (by decide) ?_
        refine v_icmp_eq (tgt := 52) dX10_readCalls_42 (by decide) (fun c42 => ?_) (fun c42 => ?_)
        · refine v_iconst (v := nI 1) dX10_readCalls_52 (by decide) ?_
          refine v_goto (tgt := 57) dX10_readCalls_53 (by decide) ?_
          refine v_istore dX10_readCalls_57 (by decide) ?_
          refine v_aload_n dX10_readCalls_59 rfl (by rfl) ?_
          refine v_getf hE dX10_readCalls_60 fX10_103 mdS_M (by rfl) ?_
          refine v_iconst (v := nI 3) dX10_readCalls_63 (by decide) ?_
          refine v_iload_n dX10_readCalls_64 rfl (by rfl) ?_
          refine v_imulN dX10_readCalls_65 ?_
          refine v_iload_n dX10_readCalls_66 rfl (by rfl) ?_
          refine v_iaddN dX10_readCalls_67 ?_
          refine v_iload dX10_readCalls_68 (by rfl) ?_
          refine v_iconst (v := nI 3) dX10_readCalls_70 (by decide) ?_
          refine v_icmp_neN (tgt := 78) dX10_readCalls_71 (by decide) (by omega) (by omega) (fun c71 => ?_) (fun c71 => ?_)
          · exact absurd c71 (by omega)
          · refine v_iconst (v := nI 2) dX10_readCalls_74 (by decide) ?_
            refine v_eqi (y := nI (if j - i = 3 then 2 else 1)) (by rw [if_pos (show j - i = 3 by omega)]) ?_
            refine v_goto (tgt := 79) dX10_readCalls_75 (by decide) ?_
            refine m_iast hE (k := 30) dX10_readCalls_79 (by decide) (by decide) rfl (show _ < 720 by omega) (by omega) ?_
            refine v_aload_n dX10_readCalls_80 rfl (by rfl) ?_
            refine v_getf hE dX10_readCalls_81 fX10_106 mdS_M (by rfl) ?_
            refine v_iconst (v := nI 3) dX10_readCalls_84 (by decide) ?_
            refine v_iload_n dX10_readCalls_85 rfl (by rfl) ?_
            refine v_imulN dX10_readCalls_86 ?_
            refine v_iload_n dX10_readCalls_87 rfl (by rfl) ?_
            refine v_iaddN dX10_readCalls_88 ?_
            refine v_iload dX10_readCalls_89 (by rfl) ?_
            refine v_iconst (v := nI 3) dX10_readCalls_91 (by decide) ?_
            refine v_icmp_neN (tgt := 106) dX10_readCalls_92 (by decide) (by omega) (by omega) (fun c92 => ?_) (fun c92 => ?_)
            · exact absurd c92 (by omega)
            · refine v_iload dX10_readCalls_95 (by rfl) ?_
              refine v_bipush (v := nI 124) dX10_readCalls_97 (by decide) ?_
              refine v_icmp_ne (tgt := 106) dX10_readCalls_99 (by decide) (fun c99 => ?_) (fun c99 => ?_)
              · refine v_iconst (v := nI 0) dX10_readCalls_106 (by decide) ?_
                refine v_eqi (y := bI (decide (j - i = 3) && decide (mOct u (i + 1) = nI 124))) (bI_f (by first | (rw [decide_eq_false (show ¬ j - i = 3 by omega)]; rfl) | (rw [decide_eq_false c99, Bool.and_false]))) ?_
                refine m_zast hE (k := 31) dX10_readCalls_107 (by decide) (by decide) rfl (show _ < 720 by omega) (by omega) ?_
                rw [nar_bb]
                refine v_aload_n dX10_readCalls_108 rfl (by rfl) ?_
                refine v_getf hE dX10_readCalls_109 fX10_100 mdS_M (by rfl) ?_
                refine v_bipush (v := nI 6) dX10_readCalls_112 (by decide) ?_
                refine v_iload_n dX10_readCalls_114 rfl (by rfl) ?_
                refine v_imulN dX10_readCalls_115 ?_
                refine v_iconst (v := nI 2) dX10_readCalls_116 (by decide) ?_
                refine v_iload_n dX10_readCalls_117 rfl (by rfl) ?_
                refine v_imulN dX10_readCalls_118 ?_
                refine v_iaddN dX10_readCalls_119 ?_
                refine v_iconst (v := nI 1) dX10_readCalls_120 (by decide) ?_
                refine v_iaddN dX10_readCalls_121 ?_
                refine v_iconst (v := (-1)) dX10_readCalls_122 (by decide) ?_
                refine m_iast hE (k := 29) dX10_readCalls_123 (by decide) (by decide) rfl (show _ < 1440 by omega) (by omega) ?_
                exact st0 (va_up (va_up (va_up y.1 30 (upd (y.1 30) (3 * r + s) (nI (if j - i = 3 then 2 else 1)))) 31 (upd (y.1 31) (3 * r + s) (bI (decide (j - i = 3) && decide (mOct u (i + 1) = nI 124)))), y.2).1 29 (upd ((va_up (va_up y.1 30 (upd (y.1 30) (3 * r + s) (nI (if j - i = 3 then 2 else 1)))) 31 (upd (y.1 31) (3 * r + s) (bI (decide (j - i = 3) && decide (mOct u (i + 1) = nI 124)))), y.2).1 29) (6 * r + 2 * s + 1) (-1)), (va_up (va_up y.1 30 (upd (y.1 30) (3 * r + s) (nI (if j - i = 3 then 2 else 1)))) 31 (upd (y.1 31) (3 * r + s) (bI (decide (j - i = 3) && decide (mOct u (i + 1) = nI 124)))), y.2).2) (mOct u (i + 1)) _ _ rfl (rCl_9 (rCl_0 hO) (by omega) (by decide)) updS updS (Or.inr (by omega)) (fun _ => by first | exact Or.inl c42 | exact Or.inr c49)
              · refine v_iconst (v := nI 1) dX10_readCalls_102 (by decide) ?_
                refine v_eqi (y := bI (decide (j - i = 3) && decide (mOct u (i + 1) = nI 124))) (bI_t (by rw [decide_eq_true (show j - i = 3 by omega), decide_eq_true c99]; rfl)) ?_
                refine v_goto (tgt := 107) dX10_readCalls_103 (by decide) ?_
                refine m_zast hE (k := 31) dX10_readCalls_107 (by decide) (by decide) rfl (show _ < 720 by omega) (by omega) ?_
                rw [nar_bb]
                refine v_aload_n dX10_readCalls_108 rfl (by rfl) ?_
                refine v_getf hE dX10_readCalls_109 fX10_100 mdS_M (by rfl) ?_
                refine v_bipush (v := nI 6) dX10_readCalls_112 (by decide) ?_
                refine v_iload_n dX10_readCalls_114 rfl (by rfl) ?_
                refine v_imulN dX10_readCalls_115 ?_
                refine v_iconst (v := nI 2) dX10_readCalls_116 (by decide) ?_
                refine v_iload_n dX10_readCalls_117 rfl (by rfl) ?_
                refine v_imulN dX10_readCalls_118 ?_
                refine v_iaddN dX10_readCalls_119 ?_
                refine v_iconst (v := nI 1) dX10_readCalls_120 (by decide) ?_
                refine v_iaddN dX10_readCalls_121 ?_
                refine v_iconst (v := (-1)) dX10_readCalls_122 (by decide) ?_
                refine m_iast hE (k := 29) dX10_readCalls_123 (by decide) (by decide) rfl (show _ < 1440 by omega) (by omega) ?_
                exact st0 (va_up (va_up (va_up y.1 30 (upd (y.1 30) (3 * r + s) (nI (if j - i = 3 then 2 else 1)))) 31 (upd (y.1 31) (3 * r + s) (bI (decide (j - i = 3) && decide (mOct u (i + 1) = nI 124)))), y.2).1 29 (upd ((va_up (va_up y.1 30 (upd (y.1 30) (3 * r + s) (nI (if j - i = 3 then 2 else 1)))) 31 (upd (y.1 31) (3 * r + s) (bI (decide (j - i = 3) && decide (mOct u (i + 1) = nI 124)))), y.2).1 29) (6 * r + 2 * s + 1) (-1)), (va_up (va_up y.1 30 (upd (y.1 30) (3 * r + s) (nI (if j - i = 3 then 2 else 1)))) 31 (upd (y.1 31) (3 * r + s) (bI (decide (j - i = 3) && decide (mOct u (i + 1) = nI 124)))), y.2).2) (mOct u (i + 1)) _ _ rfl (rCl_9 (rCl_0 hO) (by omega) (by decide)) updS updS (Or.inr (by omega)) (fun _ => by first | exact Or.inl c42 | exact Or.inr c49)
        · refine v_iload dX10_readCalls_45 (by rfl) ?_
          refine v_bipush (v := nI 124) dX10_readCalls_47 (by decide) ?_
          refine v_icmp_ne (tgt := 56) dX10_readCalls_49 (by decide) (fun c49 => ?_) (fun c49 => ?_)
          · refine v_iconst (v := nI 0) dX10_readCalls_56 (by decide) ?_
            refine v_istore dX10_readCalls_57 (by decide) ?_
            refine v_aload_n dX10_readCalls_59 rfl (by rfl) ?_
            refine v_getf hE dX10_readCalls_60 fX10_103 mdS_M (by rfl) ?_
            refine v_iconst (v := nI 3) dX10_readCalls_63 (by decide) ?_
            refine v_iload_n dX10_readCalls_64 rfl (by rfl) ?_
            refine v_imulN dX10_readCalls_65 ?_
            refine v_iload_n dX10_readCalls_66 rfl (by rfl) ?_
            refine v_iaddN dX10_readCalls_67 ?_
            refine v_iload dX10_readCalls_68 (by rfl) ?_
            refine v_iconst (v := nI 3) dX10_readCalls_70 (by decide) ?_
            refine v_icmp_neN (tgt := 78) dX10_readCalls_71 (by decide) (by omega) (by omega) (fun c71 => ?_) (fun c71 => ?_)
            · exact absurd c71 (by omega)
            · refine v_iconst (v := nI 2) dX10_readCalls_74 (by decide) ?_
              refine v_eqi (y := nI (if j - i = 3 then 2 else 1)) (by rw [if_pos (show j - i = 3 by omega)]) ?_
              refine v_goto (tgt := 79) dX10_readCalls_75 (by decide) ?_
              refine m_iast hE (k := 30) dX10_readCalls_79 (by decide) (by decide) rfl (show _ < 720 by omega) (by omega) ?_
              refine v_aload_n dX10_readCalls_80 rfl (by rfl) ?_
              refine v_getf hE dX10_readCalls_81 fX10_106 mdS_M (by rfl) ?_
              refine v_iconst (v := nI 3) dX10_readCalls_84 (by decide) ?_
              refine v_iload_n dX10_readCalls_85 rfl (by rfl) ?_
              refine v_imulN dX10_readCalls_86 ?_
              refine v_iload_n dX10_readCalls_87 rfl (by rfl) ?_
              refine v_iaddN dX10_readCalls_88 ?_
              refine v_iload dX10_readCalls_89 (by rfl) ?_
              refine v_iconst (v := nI 3) dX10_readCalls_91 (by decide) ?_
              refine v_icmp_neN (tgt := 106) dX10_readCalls_92 (by decide) (by omega) (by omega) (fun c92 => ?_) (fun c92 => ?_)
              · exact absurd c92 (by omega)
              · refine v_iload dX10_readCalls_95 (by rfl) ?_
                refine v_bipush (v := nI 124) dX10_readCalls_97 (by decide) ?_
                refine v_icmp_ne (tgt := 106) dX10_readCalls_99 (by decide) (fun c99 => ?_) (fun c99 => ?_)
                · refine v_iconst (v := nI 0) dX10_readCalls_106 (by decide) ?_
                  refine v_eqi (y := bI (decide (j - i = 3) && decide (mOct u (i + 1) = nI 124))) (bI_f (by first | (rw [decide_eq_false (show ¬ j - i = 3 by omega)]; rfl) | (rw [decide_eq_false c99, Bool.and_false]))) ?_
                  refine m_zast hE (k := 31) dX10_readCalls_107 (by decide) (by decide) rfl (show _ < 720 by omega) (by omega) ?_
                  rw [nar_bb]
                  refine v_aload_n dX10_readCalls_108 rfl (by rfl) ?_
                  refine v_getf hE dX10_readCalls_109 fX10_100 mdS_M (by rfl) ?_
                  refine v_bipush (v := nI 6) dX10_readCalls_112 (by decide) ?_
                  refine v_iload_n dX10_readCalls_114 rfl (by rfl) ?_
                  refine v_imulN dX10_readCalls_115 ?_
                  refine v_iconst (v := nI 2) dX10_readCalls_116 (by decide) ?_
                  refine v_iload_n dX10_readCalls_117 rfl (by rfl) ?_
                  refine v_imulN dX10_readCalls_118 ?_
                  refine v_iaddN dX10_readCalls_119 ?_
                  refine v_iconst (v := nI 1) dX10_readCalls_120 (by decide) ?_
                  refine v_iaddN dX10_readCalls_121 ?_
                  refine v_iconst (v := (-1)) dX10_readCalls_122 (by decide) ?_
                  refine m_iast hE (k := 29) dX10_readCalls_123 (by decide) (by decide) rfl (show _ < 1440 by omega) (by omega) ?_
                  refine v_iconst (v := nI 0) dX10_readCalls_124 (by decide) ?_
                  refine v_istore dX10_readCalls_125 (by decide) ?_
                  refine v_iload dX10_readCalls_127 (by rfl) ?_
                  refine v_iconst (v := nI 2) dX10_readCalls_129 (by decide) ?_
                  refine v_icmp_geN (tgt := 202) dX10_readCalls_130 (by decide) (by omega) (by omega) (fun c130 => ?_) (fun c130 => ?_)
                  · exact absurd c130 (by omega)
                  · refine v_iload dX10_readCalls_133 (by rfl) ?_
                    refine v_if_eqN (tgt := 202) dX10_readCalls_135 (by decide) (by omega) (fun c135 => ?_) (fun c135 => ?_)
                    · exact stX (va_up (va_up (va_up y.1 30 (upd (y.1 30) (3 * r + s) (nI (if j - i = 3 then 2 else 1)))) 31 (upd (y.1 31) (3 * r + s) (bI (decide (j - i = 3) && decide (mOct u (i + 1) = nI 124)))), y.2).1 29 (upd ((va_up (va_up y.1 30 (upd (y.1 30) (3 * r + s) (nI (if j - i = 3 then 2 else 1)))) 31 (upd (y.1 31) (3 * r + s) (bI (decide (j - i = 3) && decide (mOct u (i + 1) = nI 124)))), y.2).1 29) (6 * r + 2 * s + 1) (-1)), (va_up (va_up y.1 30 (upd (y.1 30) (3 * r + s) (nI (if j - i = 3 then 2 else 1)))) 31 (upd (y.1 31) (3 * r + s) (bI (decide (j - i = 3) && decide (mOct u (i + 1) = nI 124)))), y.2).2) (mOct u (i + 1)) _ _ rfl (rCl_9 (rCl_0 hO) (by omega) (by decide)) (by unfold okC; rw [decide_eq_false (show ¬ j - i = 1 by omega), decide_eq_false c42, decide_eq_false c49]; cases decide (j - i = 3) <;> rfl)
                    · exact absurd rfl c135
                · refine v_iconst (v := nI 1) dX10_readCalls_102 (by decide) ?_
                  refine v_eqi (y := bI (decide (j - i = 3) && decide (mOct u (i + 1) = nI 124))) (bI_t (by rw [decide_eq_true (show j - i = 3 by omega), decide_eq_true c99]; rfl)) ?_
                  refine v_goto (tgt := 107) dX10_readCalls_103 (by decide) ?_
                  refine m_zast hE (k := 31) dX10_readCalls_107 (by decide) (by decide) rfl (show _ < 720 by omega) (by omega) ?_
                  rw [nar_bb]
                  refine v_aload_n dX10_readCalls_108 rfl (by rfl) ?_
                  refine v_getf hE dX10_readCalls_109 fX10_100 mdS_M (by rfl) ?_
                  refine v_bipush (v := nI 6) dX10_readCalls_112 (by decide) ?_
                  refine v_iload_n dX10_readCalls_114 rfl (by rfl) ?_
                  refine v_imulN dX10_readCalls_115 ?_
                  refine v_iconst (v := nI 2) dX10_readCalls_116 (by decide) ?_
                  refine v_iload_n dX10_readCalls_117 rfl (by rfl) ?_
                  refine v_imulN dX10_readCalls_118 ?_
                  refine v_iaddN dX10_readCalls_119 ?_
                  refine v_iconst (v := nI 1) dX10_readCalls_120 (by decide) ?_
                  refine v_iaddN dX10_readCalls_121 ?_
                  refine v_iconst (v := (-1)) dX10_readCalls_122 (by decide) ?_
                  refine m_iast hE (k := 29) dX10_readCalls_123 (by decide) (by decide) rfl (show _ < 1440 by omega) (by omega) ?_
                  refine v_iconst (v := nI 0) dX10_readCalls_124 (by decide) ?_
                  refine v_istore dX10_readCalls_125 (by decide) ?_
                  refine v_iload dX10_readCalls_127 (by rfl) ?_
                  refine v_iconst (v := nI 2) dX10_readCalls_129 (by decide) ?_
                  refine v_icmp_geN (tgt := 202) dX10_readCalls_130 (by decide) (by omega) (by omega) (fun c130 => ?_) (fun c130 => ?_)
                  · exact absurd c130 (by omega)
                  · refine v_iload dX10_readCalls_133 (by rfl) ?_
                    refine v_if_eqN (tgt := 202) dX10_readCalls_135 (by decide) (by omega) (fun c135 => ?_) (fun c135 => ?_)
                    · exact stX (va_up (va_up (va_up y.1 30 (upd (y.1 30) (3 * r + s) (nI (if j - i = 3 then 2 else 1)))) 31 (upd (y.1 31) (3 * r + s) (bI (decide (j - i = 3) && decide (mOct u (i + 1) = nI 124)))), y.2).1 29 (upd ((va_up (va_up y.1 30 (upd (y.1 30) (3 * r + s) (nI (if j - i = 3 then 2 else 1)))) 31 (upd (y.1 31) (3 * r + s) (bI (decide (j - i = 3) && decide (mOct u (i + 1) = nI 124)))), y.2).1 29) (6 * r + 2 * s + 1) (-1)), (va_up (va_up y.1 30 (upd (y.1 30) (3 * r + s) (nI (if j - i = 3 then 2 else 1)))) 31 (upd (y.1 31) (3 * r + s) (bI (decide (j - i = 3) && decide (mOct u (i + 1) = nI 124)))), y.2).2) (mOct u (i + 1)) _ _ rfl (rCl_9 (rCl_0 hO) (by omega) (by decide)) (by unfold okC; rw [decide_eq_false (show ¬ j - i = 1 by omega), decide_eq_false c42, decide_eq_false c49]; cases decide (j - i = 3) <;> rfl)
                    · exact absurd rfl c135
          · refine v_iconst (v := nI 1) dX10_readCalls_52 (by decide) ?_
            refine v_goto (tgt := 57) dX10_readCalls_53 (by decide) ?_
            refine v_istore dX10_readCalls_57 (by decide) ?_
            refine v_aload_n dX10_readCalls_59 rfl (by rfl) ?_
            refine v_getf hE dX10_readCalls_60 fX10_103 mdS_M (by rfl) ?_
            refine v_iconst (v := nI 3) dX10_readCalls_63 (by decide) ?_
            refine v_iload_n dX10_readCalls_64 rfl (by rfl) ?_
            refine v_imulN dX10_readCalls_65 ?_
            refine v_iload_n dX10_readCalls_66 rfl (by rfl) ?_
            refine v_iaddN dX10_readCalls_67 ?_
            refine v_iload dX10_readCalls_68 (by rfl) ?_
            refine v_iconst (v := nI 3) dX10_readCalls_70 (by decide) ?_
            refine v_icmp_neN (tgt := 78) dX10_readCalls_71 (by decide) (by omega) (by omega) (fun c71 => ?_) (fun c71 => ?_)
            · exact absurd c71 (by omega)
            · refine v_iconst (v := nI 2) dX10_readCalls_74 (by decide) ?_
              refine v_eqi (y := nI (if j - i = 3 then 2 else 1)) (by rw [if_pos (show j - i = 3 by omega)]) ?_
              refine v_goto (tgt := 79) dX10_readCalls_75 (by decide) ?_
              refine m_iast hE (k := 30) dX10_readCalls_79 (by decide) (by decide) rfl (show _ < 720 by omega) (by omega) ?_
              refine v_aload_n dX10_readCalls_80 rfl (by rfl) ?_
              refine v_getf hE dX10_readCalls_81 fX10_106 mdS_M (by rfl) ?_
              refine v_iconst (v := nI 3) dX10_readCalls_84 (by decide) ?_
              refine v_iload_n dX10_readCalls_85 rfl (by rfl) ?_
              refine v_imulN dX10_readCalls_86 ?_
              refine v_iload_n dX10_readCalls_87 rfl (by rfl) ?_
              refine v_iaddN dX10_readCalls_88 ?_
              refine v_iload dX10_readCalls_89 (by rfl) ?_
              refine v_iconst (v := nI 3) dX10_readCalls_91 (by decide) ?_
              refine v_icmp_neN (tgt := 106) dX10_readCalls_92 (by decide) (by omega) (by omega) (fun c92 => ?_) (fun c92 => ?_)
              · exact absurd c92 (by omega)
              · refine v_iload dX10_readCalls_95 (by rfl) ?_
                refine v_bipush (v := nI 124) dX10_readCalls_97 (by decide) ?_
                refine v_icmp_ne (tgt := 106) dX10_readCalls_99 (by decide) (fun c99 => ?_) (fun c99 => ?_)
                · refine v_iconst (v := nI 0) dX10_readCalls_106 (by decide) ?_
                  refine v_eqi (y := bI (decide (j - i = 3) && decide (mOct u (i + 1) = nI 124))) (bI_f (by first | (rw [decide_eq_false (show ¬ j - i = 3 by omega)]; rfl) | (rw [decide_eq_false c99, Bool.and_false]))) ?_
                  refine m_zast hE (k := 31) dX10_readCalls_107 (by decide) (by decide) rfl (show _ < 720 by omega) (by omega) ?_
                  rw [nar_bb]
                  refine v_aload_n dX10_readCalls_108 rfl (by rfl) ?_
                  refine v_getf hE dX10_readCalls_109 fX10_100 mdS_M (by rfl) ?_
                  refine v_bipush (v := nI 6) dX10_readCalls_112 (by decide) ?_
                  refine v_iload_n dX10_readCalls_114 rfl (by rfl) ?_
                  refine v_imulN dX10_readCalls_115 ?_
                  refine v_iconst (v := nI 2) dX10_readCalls_116 (by decide) ?_
                  refine v_iload_n dX10_readCalls_117 rfl (by rfl) ?_
                  refine v_imulN dX10_readCalls_118 ?_
                  refine v_iaddN dX10_readCalls_119 ?_
                  refine v_iconst (v := nI 1) dX10_readCalls_120 (by decide) ?_
                  refine v_iaddN dX10_readCalls_121 ?_
                  refine v_iconst (v := (-1)) dX10_readCalls_122 (by decide) ?_
                  refine m_iast hE (k := 29) dX10_readCalls_123 (by decide) (by decide) rfl (show _ < 1440 by omega) (by omega) ?_
                  exact st0 (va_up (va_up (va_up y.1 30 (upd (y.1 30) (3 * r + s) (nI (if j - i = 3 then 2 else 1)))) 31 (upd (y.1 31) (3 * r + s) (bI (decide (j - i = 3) && decide (mOct u (i + 1) = nI 124)))), y.2).1 29 (upd ((va_up (va_up y.1 30 (upd (y.1 30) (3 * r + s) (nI (if j - i = 3 then 2 else 1)))) 31 (upd (y.1 31) (3 * r + s) (bI (decide (j - i = 3) && decide (mOct u (i + 1) = nI 124)))), y.2).1 29) (6 * r + 2 * s + 1) (-1)), (va_up (va_up y.1 30 (upd (y.1 30) (3 * r + s) (nI (if j - i = 3 then 2 else 1)))) 31 (upd (y.1 31) (3 * r + s) (bI (decide (j - i = 3) && decide (mOct u (i + 1) = nI 124)))), y.2).2) (mOct u (i + 1)) _ _ rfl (rCl_9 (rCl_0 hO) (by omega) (by decide)) updS updS (Or.inr (by omega)) (fun _ => by first | exact Or.inl c42 | exact Or.inr c49)
                · refine v_iconst (v := nI 1) dX10_readCalls_102 (by decide) ?_
                  refine v_eqi (y := bI (decide (j - i = 3) && decide (mOct u (i + 1) = nI 124))) (bI_t (by rw [decide_eq_true (show j - i = 3 by omega), decide_eq_true c99]; rfl)) ?_
                  refine v_goto (tgt := 107) dX10_readCalls_103 (by decide) ?_
                  refine m_zast hE (k := 31) dX10_readCalls_107 (by decide) (by decide) rfl (show _ < 720 by omega) (by omega) ?_
                  rw [nar_bb]
                  refine v_aload_n dX10_readCalls_108 rfl (by rfl) ?_
                  refine v_getf hE dX10_readCalls_109 fX10_100 mdS_M (by rfl) ?_
                  refine v_bipush (v := nI 6) dX10_readCalls_112 (by decide) ?_
                  refine v_iload_n dX10_readCalls_114 rfl (by rfl) ?_
                  refine v_imulN dX10_readCalls_115 ?_
                  refine v_iconst (v := nI 2) dX10_readCalls_116 (by decide) ?_
                  refine v_iload_n dX10_readCalls_117 rfl (by rfl) ?_
                  refine v_imulN dX10_readCalls_118 ?_
                  refine v_iaddN dX10_readCalls_119 ?_
                  refine v_iconst (v := nI 1) dX10_readCalls_120 (by decide) ?_
                  refine v_iaddN dX10_readCalls_121 ?_
                  refine v_iconst (v := (-1)) dX10_readCalls_122 (by decide) ?_
                  refine m_iast hE (k := 29) dX10_readCalls_123 (by decide) (by decide) rfl (show _ < 1440 by omega) (by omega) ?_
                  exact st0 (va_up (va_up (va_up y.1 30 (upd (y.1 30) (3 * r + s) (nI (if j - i = 3 then 2 else 1)))) 31 (upd (y.1 31) (3 * r + s) (bI (decide (j - i = 3) && decide (mOct u (i + 1) = nI 124)))), y.2).1 29 (upd ((va_up (va_up y.1 30 (upd (y.1 30) (3 * r + s) (nI (if j - i = 3 then 2 else 1)))) 31 (upd (y.1 31) (3 * r + s) (bI (decide (j - i = 3) && decide (mOct u (i + 1) = nI 124)))), y.2).1 29) (6 * r + 2 * s + 1) (-1)), (va_up (va_up y.1 30 (upd (y.1 30) (3 * r + s) (nI (if j - i = 3 then 2 else 1)))) 31 (upd (y.1 31) (3 * r + s) (bI (decide (j - i = 3) && decide (mOct u (i + 1) = nI 124)))), y.2).2) (mOct u (i + 1)) _ _ rfl (rCl_9 (rCl_0 hO) (by omega) (by decide)) updS updS (Or.inr (by omega)) (fun _ => by first | exact Or.inl c42 | exact Or.inr c49)
