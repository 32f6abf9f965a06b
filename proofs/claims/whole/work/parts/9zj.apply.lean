/-! apply: the whole walk -/
theorem apM_v {g : gV} {j Z : Nat} {E : Nat → eV} {P R : Nat → Nat} {N : Nat} (hg : ∀ a, 1 ≤ a → a ≤ Z → ∃ c, c < 128 ∧ gLe g (gSt g j + a - 1) = nI c) (hE : ∀ k, k < N → 1 ≤ P k ∧ P k + eRs (E k) 0 ≤ Z + 1 ∧ ∀ a, a < eRs (E k) (R k) → ∃ c, c < 128 ∧ eLe (E k) (R k * 24 + a) = nI c) : ∀ (d k n : Nat), k + d = N → 1 ≤ n → ∀ x ∈ apM g j Z E P R d k n, (∃ c, c < 128 ∧ x.1 = nI c) ∧ (x.2 = -1 ∨ ∃ p0, 1 ≤ p0 ∧ p0 ≤ Z ∧ x.2 = nI p0) := by
  have sg : ∀ n B, 1 ≤ n → B ≤ Z + 1 → ∀ x ∈ apSg g j n B, (∃ c, c < 128 ∧ x.1 = nI c) ∧ (x.2 = -1 ∨ ∃ p0, 1 ≤ p0 ∧ p0 ≤ Z ∧ x.2 = nI p0) := fun n B h1 h2 x hx => by
    unfold apSg at hx
    rw [List.mem_map] at hx
    obtain ⟨a, ha, e⟩ := hx
    rw [List.mem_range] at ha
    subst e
    obtain ⟨c, c1, c2⟩ := hg (n + a) (by omega) (by omega)
    rw [show gSt g j + (n + a) - 1 = gSt g j + n - 1 + a by omega] at c2
    exact ⟨⟨c, c1, c2⟩, Or.inr ⟨n + a, by omega, by omega, rfl⟩⟩
  intro d
  induction d with
  | zero => intro k n _ hn x hx; exact sg n (Z + 1) hn (Nat.le_refl _) x hx
  | succ d ih =>
    intro k n hk hn x hx
    obtain ⟨e1, e2, e3⟩ := hE k (by omega)
    replace hx : x ∈ apSg g j n (P k) ++ (adT (E k) (R k) (P k) (eRs (E k) (R k)) ++ apM g j Z E P R d (k + 1) (P k + eRs (E k) 0)) := hx
    rw [List.mem_append, List.mem_append] at hx
    rcases hx with hx | hx | hx
    · exact sg n (P k) hn (by omega) x hx
    · unfold adT at hx
      rw [List.mem_map] at hx
      obtain ⟨a, ha, e⟩ := hx
      rw [List.mem_range] at ha
      subst e
      refine ⟨e3 a ha, ?_⟩
      show (if a < eRs (E k) 0 then nI (P k + a) else -1) = -1 ∨ _
      by_cases c : a < eRs (E k) 0
      · exact Or.inr ⟨P k + a, by omega, by omega, if_pos c⟩
      · exact Or.inl (if_neg c)
    · exact ih (k + 1) _ (by omega) (by omega) x hx
theorem gD_m {l : List (Int32 × Int32)} {k : Nat} (h : k < l.length) : l.getD k (0, 0) ∈ l := by
  rw [List.getD_eq_getElem?_getD, List.getElem?_eq_getElem h]
  exact List.getElem_mem h
/-- a called record -/
theorem ap_rec {D : Nat} {x : dV} (hI : dOk D x) (hL : dLv x) {i n w s j : Nat} (hi : i < 2) (hn : n < (dZ x i).2.1.1) (hs : s < gCt (dG x 0)) (hj : j < (dZ x i).2.2) (hc : clP (fun k => dW x ((dZ x i).1 k)) n w s j = true) : ePl (dW x ((dZ x i).1 j)) = nI (ePl (dW x ((dZ x i).1 j))).toNatClampNeg ∧ 1 ≤ (ePl (dW x ((dZ x i).1 j))).toNatClampNeg ∧ (ePl (dW x ((dZ x i).1 j))).toNatClampNeg + eRs (dW x ((dZ x i).1 j)) 0 ≤ gSz (dG x 0) s + 1 ∧ w < eCn (dW x ((dZ x i).1 j)) n ∧ eCa (dW x ((dZ x i).1 j)) (n * 2 + w) = nI (eCall (dW x ((dZ x i).1 j)) n w).toNatClampNeg ∧ (eCall (dW x ((dZ x i).1 j)) n w).toNatClampNeg < eRo (dW x ((dZ x i).1 j)) ∧ enOk (dW x ((dZ x i).1 j)) ∧ ∀ a, a < eRs (dW x ((dZ x i).1 j)) (eCall (dW x ((dZ x i).1 j)) n w).toNatClampNeg → ∃ c, c < 128 ∧ eLe (dW x ((dZ x i).1 j)) ((eCall (dW x ((dZ x i).1 j)) n w).toNatClampNeg * 24 + a) = nI c := by
  obtain ⟨h1, h2⟩ := clP_i.mp hc
  replace h1 : eSq (dW x ((dZ x i).1 j)) = nI s := h1
  replace h2 : ¬ eCall (dW x ((dZ x i).1 j)) n w ≤ 0 := h2
  obtain ⟨⟨s', p, g1, g2, g3, g4, g5⟩, g6, g7, g8, g9⟩ := hI.2.2.2.2.2.1 i j hi hj
  have hgo := hI.2.1 0 (by omega)
  have hgt := hgo.2.2.1
  have hgc := hgo.1.1
  have hg1 := hgo.2.1
  have hwo := hI.2.2.2.1 _ (dre_X hI (show i < 3 by omega) j (by have := (hI.2.2.1 i (by omega)).2; omega))
  have hro := hwo.1
  have es : s' = s := nI_inj (g1.symm.trans h1) (by omega) (by omega)
  subst es
  have hgz := hgo.2.2.2 s' hs
  have ep : (ePl (dW x ((dZ x i).1 j))).toNatClampNeg = p := by rw [g2, nI_clamp (by omega)]
  unfold eCall at h2
  by_cases c : w < eCn (dW x ((dZ x i).1 j)) n
  · rw [if_pos c] at h2
    rcases (g9 n hn).2 w c with q | ⟨q, q1, q2⟩
    · rw [q] at h2
      exact absurd (by decide) h2
    · have er : (eCall (dW x ((dZ x i).1 j)) n w).toNatClampNeg = q := by
        unfold eCall
        rw [if_pos c, q2, nI_clamp (by omega)]
      rw [ep, er]
      exact ⟨g2, g4, g5, c, q2, q1, hwo, fun a ha => ((hL.2 i hi).2 j hj).1 q a q1 ha⟩
  · rw [if_neg c] at h2
    exact absurd (by decide) h2
set_option maxRecDepth 100000 in
set_option maxHeartbeats 4000000 in
/-- one record -/
theorem ap_E {E : eN} (hE : eOk E) {f : aH} {t M : Nat} {Q : aP} {y : mV} {x : dV} {D i n w s : Nat} {j p u : Nat} {T U : Nat → Int32} {l : List (Int32 × Int32)} (hR : mRel x y) (hI : dOk D x) (hi : i < 2) (hn : n < (dZ x i).2.1.1) (hw : w < 2) (hs : s < gCt (dG x 0)) (hj : j < (dZ x i).2.2) (hc : clP (fun k => dW x ((dZ x i).1 k)) n w s j = true) : 1 ≤ p → p ≤ (ePl (dW x ((dZ x i).1 j))).toNatClampNeg → u < 100 → kTl T U l → l.length + ((ePl (dW x ((dZ x i).1 j))).toNatClampNeg - p) ≤ 8000 → (∀ T' U', kTl T' U' (l ++ apSg (dG x 0) s p (ePl (dW x ((dZ x i).1 j))).toNatClampNeg ++ adT (dW x ((dZ x i).1 j)) (eCall (dW x ((dZ x i).1 j)) n w).toNatClampNeg (ePl (dW x ((dZ x i).1 j))).toNatClampNeg (eRs (dW x ((dZ x i).1 j)) (eCall (dW x ((dZ x i).1 j)) n w).toNatClampNeg)) → V E mX10_apply 0 0 Q 100 [some (.ref M), some (.int (nI i)), some (.int (nI n)), some (.int (nI w)), some (.int (nI s)), some (.int (nI ((ePl (dW x ((dZ x i).1 j))).toNatClampNeg + eRs (dW x ((dZ x i).1 j)) 0))), some (.int (nI (u + 1))), some (.int (nxV i (nxL (fun k => dW x ((dZ x i).1 k)) n w s ((ePl (dW x ((dZ x i).1 j))).toNatClampNeg + eRs (dW x ((dZ x i).1 j)) 0) ((dZ x i).2.2 - 0) 0 none))), none] [] (mdS f M (kS y T' U' (l ++ apSg (dG x 0) s p (ePl (dW x ((dZ x i).1 j))).toNatClampNeg ++ adT (dW x ((dZ x i).1 j)) (eCall (dW x ((dZ x i).1 j)) n w).toNatClampNeg (ePl (dW x ((dZ x i).1 j))).toNatClampNeg (eRs (dW x ((dZ x i).1 j)) (eCall (dW x ((dZ x i).1 j)) n w).toNatClampNeg)).length)) t 0 0) → V E mX10_apply 0 0 Q 106 [some (.ref M), some (.int (nI i)), some (.int (nI n)), some (.int (nI w)), some (.int (nI s)), some (.int (nI p)), some (.int (nI u)), some (.int (nI (60 * i + j))), none] [] (mdS f M (kS y T U l.length)) t 0 0 := by
  have hT := hR.2.2.2.1 i hi
  have hG := hR.2.2.1
  have hL := hR.2.2.2.2.2.2.2
  have hgo := hI.2.1 0 (by omega)
  have hgt := hgo.2.2.1
  have hgc := hgo.1.1
  have hg1 := hgo.2.1
  have hgz := hgo.2.2.2 s hs
  have hzo := hI.2.2.1 i (by omega)
  have hz8 := hzo.2
  have hm3 := hzo.1.1
  have hwo : ∀ k, k < (dZ x i).2.2 → enOk (dW x ((dZ x i).1 k)) := fun k hk => hI.2.2.2.1 _ (dre_X hI (show i < 3 by omega) k (by omega))
  intro p1 p2 hu hA hl hk
  obtain ⟨r1, r2, r3, r4, r5, r6, r7, r8⟩ := ap_rec hI hL hi hn hs hj hc
  refine ap_A hE hG hgo hL.1 hs (by omega) ((hT.2.2.2 j hj).2.1.trans r1) (by omega) ((ePl (dW x ((dZ x i).1 j))).toNatClampNeg - p) p T U l (by omega) p1 hA (by omega) (fun T1 U1 hT9 => ?_)
  refine v_aload_n dX10_apply_138 rfl (by rfl) ?_
  refine v_iload dX10_apply_139 (by rfl) ?_
  refine v_aload_n dX10_apply_141 rfl (by rfl) ?_
  refine v_getf hE dX10_apply_142 fX10_100 mdS_M (by rfl) ?_
  refine v_bipush (v := nI 6) dX10_apply_145 (by decide) ?_
  refine v_iload dX10_apply_147 (by rfl) ?_
  refine v_imulN dX10_apply_149 ?_
  refine v_iconst (v := nI 2) dX10_apply_150 (by decide) ?_
  refine v_iload_n dX10_apply_151 rfl (by rfl) ?_
  refine v_imulN dX10_apply_152 ?_
  refine v_iaddN dX10_apply_153 ?_
  refine v_iload_n dX10_apply_154 rfl (by rfl) ?_
  refine v_iaddN dX10_apply_155 ?_
  refine m_iald hE (k := 29) dX10_apply_156 (by decide) (by decide) rfl (show _ < 1440 by omega) (by omega) ?_
  refine v_eqi (y := nI (eCall (dW x ((dZ x i).1 j)) n w).toNatClampNeg) ((((hT.2.2.2 j hj).2.2.2.2.2.2.2.2.2 n hn).2.2 w r4).trans r5) ?_
  refine w_callV hE dX10_apply_157 kX10_369 mdS_M (by rfl) (by rfl) (sX10_addRow hE (y := y) (m := (dZ x i).2.1.1) (p := (ePl (dW x ((dZ x i).1 j))).toNatClampNeg) (w := (dW x ((dZ x i).1 j))) hT9 (by rw [List.length_append, apSg_l]; omega) (hT.2.2.2 j hj) r7 (by omega) r6 r1 (by omega) r8) rfl (by decide) (by decide) (by exact Nat.le_of_ble_eq_true rfl) (by omega) (by omega) (fun v9 g9 u9 h9 => ?_) (fun _ _ _ h => by cases h.1)
  obtain ⟨hv9, hu9, T2, U2, hg9, hk9⟩ := h9
  replace hu9 := hu9.symm
  subst hu9
  subst hg9
  cases hv9
  refine v_istore dX10_apply_160 (by decide) ?_
  refine v_iincN (y := 1) dX10_apply_162 (by rfl) (by decide) (by decide) ?_
  refine v_aload_n dX10_apply_165 rfl (by rfl) ?_
  refine v_iload_n dX10_apply_166 rfl (by rfl) ?_
  refine v_iload_n dX10_apply_167 rfl (by rfl) ?_
  refine v_iload_n dX10_apply_168 rfl (by rfl) ?_
  refine v_iload dX10_apply_169 (by rfl) ?_
  refine v_iload dX10_apply_171 (by rfl) ?_
  refine w_callV hE dX10_apply_173 kX10_365 mdS_M (by rfl) (by rfl) (sX10_nextCalled hE (n := (dZ x i).2.2) (m := (dZ x i).2.1.1) (w := (fun k => dW x ((dZ x i).1 k))) (s := s) hT.1 hz8 (by omega) (fun k hk => hT.2.2.2 k hk) hwo hm3 hn hw) rfl (by decide) (by decide) (by exact Nat.le_of_ble_eq_true rfl) (by omega) (by omega) (fun v9 g9 u9 h9 => ?_) (fun _ _ _ h => by cases h.1)
  obtain ⟨hv9, hu9, hg9⟩ := h9
  replace hu9 := hu9.symm
  subst hu9
  subst hg9
  cases hv9
  refine v_istore dX10_apply_176 (by decide) ?_
  refine v_goto (tgt := 100) dX10_apply_178 (by decide) ?_
  exact hk T2 U2 hk9

set_option maxRecDepth 100000 in
set_option maxHeartbeats 4000000 in
/-- all records, where none clash -/
theorem ap_G {E : eN} (hE : eOk E) {f : aH} {t M : Nat} {Q : aP} {y : mV} {x : dV} {D i n w s : Nat} (hR : mRel x y) (hI : dOk D x) (hi : i < 2) (hn : n < (dZ x i).2.1.1) (hw : w < 2) (hs : s < gCt (dG x 0)) (hcl : apCl x i n w s = true) : ∀ (d k : Nat) (T U : Nat → Int32) (l : List (Int32 × Int32)), k + d = (apC x i n w s).2 → kTl T U l → l ++ (apM (dG x 0) s (gnSz (dG x 0) s) (apE x i n w s) (apP x i n w s) (apR x i n w s) d k ((apN (apE x i n w s) (apP x i n w s)) k)) = (apO x i n w s) → (∀ T' U' l', kTl T' U' l' → l' ++ (apSg (dG x 0) s ((apN (apE x i n w s) (apP x i n w s)) (apC x i n w s).2) (gnSz (dG x 0) s + 1)) = (apO x i n w s) → V E mX10_apply 0 0 Q 181 [some (.ref M), some (.int (nI i)), some (.int (nI n)), some (.int (nI w)), some (.int (nI s)), some (.int (nI ((apN (apE x i n w s) (apP x i n w s)) (apC x i n w s).2))), some (.int (nI (apC x i n w s).2)), some (.int (-1)), none] [] (mdS f M (kS y T' U' l'.length)) t 0 0) → V E mX10_apply 0 0 Q 100 [some (.ref M), some (.int (nI i)), some (.int (nI n)), some (.int (nI w)), some (.int (nI s)), some (.int (nI ((apN (apE x i n w s) (apP x i n w s)) k))), some (.int (nI k)), some (.int (nxV i (nxL (fun k => dW x ((dZ x i).1 k)) n w s ((apN (apE x i n w s) (apP x i n w s)) k) ((dZ x i).2.2 - 0) 0 none))), none] [] (mdS f M (kS y T U l.length)) t 0 0 := by
  have hT := hR.2.2.2.1 i hi
  have hG := hR.2.2.1
  have hL := hR.2.2.2.2.2.2.2
  have hgo := hI.2.1 0 (by omega)
  have hgt := hgo.2.2.1
  have hgc := hgo.1.1
  have hg1 := hgo.2.1
  have hgz := hgo.2.2.2 s hs
  have hzo := hI.2.2.1 i (by omega)
  have hz8 := hzo.2
  have hm3 := hzo.1.1
  have hwo : ∀ k, k < (dZ x i).2.2 → enOk (dW x ((dZ x i).1 k)) := fun k hk => hI.2.2.2.1 _ (dre_X hI (show i < 3 by omega) k (by omega))
  obtain ⟨q1, q2, q3, q4, q5'⟩ := ap_Q hI hi hn hw hs hcl
  obtain ⟨l1, -, -⟩ := ap_len hI hi hn hw hs hcl
  obtain ⟨hch, hcn⟩ := ap_ch (n := n) (w := w) (s := s) hI hi
  have hN6 := (ap_ok hI hi hn hw hs).2.1
  have hsz : gnSz (dG x 0) s = gSz (dG x 0) s := if_pos hs
  have hpl : ∀ k, k < (dZ x i).2.2 → clP (fun k => dW x ((dZ x i).1 k)) n w s k = true → ePl ((fun k => dW x ((dZ x i).1 k)) k) = nI ((fun k => (ePl (dW x ((dZ x i).1 k))).toNatClampNeg) k) ∧ (fun k => (ePl (dW x ((dZ x i).1 k))).toNatClampNeg) k + (fun k => eRs (dW x ((dZ x i).1 k)) 0) k < 2 ^ 31 ∧ 1 ≤ (fun k => eRs (dW x ((dZ x i).1 k)) 0) k := fun k hk _ => by
    obtain ⟨a1, a2, a3, a4⟩ := ap_pl hI hi hk
    exact ⟨a1, by show (ePl (dW x ((dZ x i).1 k))).toNatClampNeg + eRs (dW x ((dZ x i).1 k)) 0 < 2 ^ 31; omega, a4⟩
  have q5 : ∀ k, k ≤ (apC x i n w s).2 → (apN (apE x i n w s) (apP x i n w s)) k ≤ 3001 ∧ 1 ≤ (apN (apE x i n w s) (apP x i n w s)) k ∧ 1 ≤ (apN (apE x i n w s) (apP x i n w s)) k := fun k hk => by
    refine ⟨(q5' k hk).2, ?_⟩
    cases k with
    | zero => exact ⟨Nat.le_refl _, Nat.le_refl _⟩
    | succ k =>
      have := ((ap_ok hI hi hn hw hs).1 k (by omega)).2.1
      exact ⟨by show 1 ≤ apP x i n w s k + _; omega, by show 1 ≤ apP x i n w s k + _; omega⟩
  have hnx : ∀ k, k ≤ (apC x i n w s).2 → nxL (fun k => dW x ((dZ x i).1 k)) n w s ((apN (apE x i n w s) (apP x i n w s)) k) ((dZ x i).2.2 - 0) 0 none = if k < (apC x i n w s).2 then some ((apC x i n w s).1 k) else none := fun k hk => by
    refine nx_ch (pl := fun k => (ePl (dW x ((dZ x i).1 k))).toNatClampNeg) (sz := fun k => eRs (dW x ((dZ x i).1 k)) 0) hpl (by have := (q5 k hk).1; omega) hch (fun k h1 h2 => ?_) hk (fun a ha => ?_) (fun h => (q1 k h).2.2.2.2.1)
    · have h3 := (q1 k h2).2.2.2.2.1
      rw [show k = k - 1 + 1 by omega] at h3
      have h4 : (apN (apE x i n w s) (apP x i n w s)) (k - 1 + 1) = apP x i n w s (k - 1) + eRs (apE x i n w s (k - 1)) 0 := rfl
      rw [h4, show k - 1 + 1 = k by omega] at h3
      exact h3
    · obtain ⟨b, hb⟩ : ∃ b, k = b + 1 := ⟨k - 1, by omega⟩
      subst hb
      show _ < apP x i n w s b + eRs (apE x i n w s b) 0
      have h5 := (hch.2.1 b (by omega)).1
      have h6 := (ap_pl hI hi h5).2.2.2
      have h7 : (ePl (dW x ((dZ x i).1 ((apC x i n w s).1 a)))).toNatClampNeg ≤ (ePl (dW x ((dZ x i).1 ((apC x i n w s).1 b)))).toNatClampNeg := by
        by_cases e : a = b
        · rw [e]
          exact Nat.le_refl _
        · exact hch.2.2.1 a b (by omega) (by omega)
      show (ePl (dW x ((dZ x i).1 ((apC x i n w s).1 a)))).toNatClampNeg < (ePl (dW x ((dZ x i).1 ((apC x i n w s).1 b)))).toNatClampNeg + eRs (dW x ((dZ x i).1 ((apC x i n w s).1 b))) 0
      omega
  intro d
  induction d using Nat.strongRecOn with
  | _ d ih =>
  intro k T U l hd hA hO hk
  have hlen : l.length ≤ 4500 := by
    have := congrArg List.length hO
    rw [List.length_append] at this
    omega
  by_cases ck : k < (apC x i n w s).2
  · rw [hnx k (by omega), if_pos ck]
    obtain ⟨k1, k2⟩ := hch.2.1 k ck
    have q6 := (q1 k ck).2.2.2.2.1
    have q7 := q4 k ck
    have q8 := hch.1
    show V E mX10_apply 0 0 Q 100 [some (.ref M), some (.int (nI i)), some (.int (nI n)), some (.int (nI w)), some (.int (nI s)), some (.int (nI ((apN (apE x i n w s) (apP x i n w s)) k))), some (.int (nI k)), some (.int (nI (60 * i + (apC x i n w s).1 k))), none] [] (mdS f M (kS y T U l.length)) t 0 0
    refine v_iload dX10_apply_100 (by rfl) ?_
    refine v_iconst (v := (-1)) dX10_apply_102 (by decide) ?_
    refine v_icmp_eq (tgt := 181) dX10_apply_103 (by decide) (fun c103 => ?_) (fun c103 => ?_)
    · exact absurd c103 (nI_m1 (by omega))
    · refine ap_E hE hR hI hi hn hw hs k1 k2 (q5 k (by omega)).2.2 q6 (by omega) hA (by show l.length + (apP x i n w s k - (apN (apE x i n w s) (apP x i n w s)) k) ≤ 8000; omega) (fun T2 U2 hk2 => ?_)
      show V E mX10_apply 0 0 Q 100 [some (.ref M), some (.int (nI i)), some (.int (nI n)), some (.int (nI w)), some (.int (nI s)), some (.int (nI ((apN (apE x i n w s) (apP x i n w s)) (k + 1)))), some (.int (nI (k + 1))), some (.int (nxV i (nxL (fun k => dW x ((dZ x i).1 k)) n w s ((apN (apE x i n w s) (apP x i n w s)) (k + 1)) ((dZ x i).2.2 - 0) 0 none))), none] [] (mdS f M (kS y T2 U2 (l ++ apSg (dG x 0) s ((apN (apE x i n w s) (apP x i n w s)) k) (apP x i n w s k) ++ adT (apE x i n w s k) (apR x i n w s k) (apP x i n w s k) (eRs (apE x i n w s k) (apR x i n w s k))).length)) t 0 0
      exact ih (d - 1) (by omega) (k + 1) T2 U2 _ (by omega) hk2 (by
        rw [show d = d - 1 + 1 by omega] at hO
        rw [← hO, List.append_assoc, List.append_assoc]
        rfl) hk
  · rw [hnx k (by omega), if_neg ck]
    have hkN : k = (apC x i n w s).2 := by omega
    show V E mX10_apply 0 0 Q 100 [some (.ref M), some (.int (nI i)), some (.int (nI n)), some (.int (nI w)), some (.int (nI s)), some (.int (nI ((apN (apE x i n w s) (apP x i n w s)) k))), some (.int (nI k)), some (.int (-1)), none] [] (mdS f M (kS y T U l.length)) t 0 0
    rw [hkN]
    refine v_iload dX10_apply_100 (by rfl) ?_
    refine v_iconst (v := (-1)) dX10_apply_102 (by decide) ?_
    refine v_icmp_eq (tgt := 181) dX10_apply_103 (by decide) (fun c103 => ?_) (fun c103 => ?_)
    · exact hk T U l hA (by
        rw [show d = 0 by omega, hkN] at hO
        exact hO)
    · exact absurd rfl c103

set_option maxRecDepth 100000 in
set_option maxHeartbeats 4000000 in
/-- all records, where two clash -/
theorem ap_K {E : eN} (hE : eOk E) {f : aH} {t M : Nat} {Q : aP} {y : mV} {x : dV} {D i n w s : Nat} {A B : Nat} (hR : mRel x y) (hI : dOk D x) (hi : i < 2) (hn : n < (dZ x i).2.1.1) (hw : w < 2) (hs : s < gCt (dG x 0)) (A1 : A < (dZ x i).2.2) (B1 : B < (dZ x i).2.2) (hne : A ≠ B) (cA : clP (fun k => dW x ((dZ x i).1 k)) n w s A = true) (cB : clP (fun k => dW x ((dZ x i).1 k)) n w s B = true) (ab1 : (ePl (dW x ((dZ x i).1 A))).toNatClampNeg ≤ (ePl (dW x ((dZ x i).1 B))).toNatClampNeg) (ab2 : (ePl (dW x ((dZ x i).1 B))).toNatClampNeg < (ePl (dW x ((dZ x i).1 A))).toNatClampNeg + eRs (dW x ((dZ x i).1 A)) 0) : ∀ (d u p : Nat) (T U : Nat → Int32) (l : List (Int32 × Int32)), p + d = 3001 → 1 ≤ p → kTl T U l → l.length + 1 ≤ p + 24 * u → clJ (fun k => dW x ((dZ x i).1 k)) n w s (dZ x i).2.2 (apC x i n w s).2 (ePl (dW x ((dZ x i).1 A))).toNatClampNeg p u → (∀ (u p : Nat) (T' U' : Nat → Int32) (m : Nat), u < (apC x i n w s).2 → p ≤ 3001 → (∀ j, vp_nar .byte (T' j) = T' j) → V E mX10_apply 0 0 Q 181 [some (.ref M), some (.int (nI i)), some (.int (nI n)), some (.int (nI w)), some (.int (nI s)), some (.int (nI p)), some (.int (nI u)), some (.int (-1)), none] [] (mdS f M (kS y T' U' m)) t 0 0) → V E mX10_apply 0 0 Q 100 [some (.ref M), some (.int (nI i)), some (.int (nI n)), some (.int (nI w)), some (.int (nI s)), some (.int (nI p)), some (.int (nI u)), some (.int (nxV i (nxL (fun k => dW x ((dZ x i).1 k)) n w s p ((dZ x i).2.2 - 0) 0 none))), none] [] (mdS f M (kS y T U l.length)) t 0 0 := by
  have hT := hR.2.2.2.1 i hi
  have hG := hR.2.2.1
  have hL := hR.2.2.2.2.2.2.2
  have hgo := hI.2.1 0 (by omega)
  have hgt := hgo.2.2.1
  have hgc := hgo.1.1
  have hg1 := hgo.2.1
  have hgz := hgo.2.2.2 s hs
  have hzo := hI.2.2.1 i (by omega)
  have hz8 := hzo.2
  have hm3 := hzo.1.1
  have hwo : ∀ k, k < (dZ x i).2.2 → enOk (dW x ((dZ x i).1 k)) := fun k hk => hI.2.2.2.1 _ (dre_X hI (show i < 3 by omega) k (by omega))
  have hN6 := (ap_ok hI hi hn hw hs).2.1
  have hpl : ∀ k, k < (dZ x i).2.2 → clP (fun k => dW x ((dZ x i).1 k)) n w s k = true → ePl ((fun k => dW x ((dZ x i).1 k)) k) = nI ((fun k => (ePl (dW x ((dZ x i).1 k))).toNatClampNeg) k) ∧ (fun k => (ePl (dW x ((dZ x i).1 k))).toNatClampNeg) k + (fun k => eRs (dW x ((dZ x i).1 k)) 0) k < 2 ^ 31 ∧ 1 ≤ (fun k => eRs (dW x ((dZ x i).1 k)) 0) k := fun k hk _ => by
    obtain ⟨a1, a2, a3, a4⟩ := ap_pl hI hi hk
    exact ⟨a1, by show (ePl (dW x ((dZ x i).1 k))).toNatClampNeg + eRs (dW x ((dZ x i).1 k)) 0 < 2 ^ 31; omega, a4⟩
  intro d
  induction d using Nat.strongRecOn with
  | _ d ih =>
  intro u p T U l hd h1 hA hl hJ hk
  have hJ1 := hJ.1
  obtain ⟨n1, n2⟩ := nxL_0 (w := (fun k => dW x ((dZ x i).1 k))) (q := n) (c := w) (s := s) (l := p) (n := (dZ x i).2.2)
  generalize nxL (fun k => dW x ((dZ x i).1 k)) n w s p ((dZ x i).2.2 - 0) 0 none = b at n1 n2
  cases b with
  | none =>
    have hlt : u < (apC x i n w s).2 := by
      have a1 := n1 rfl A A1
      have a2 : (ePl (dW x ((dZ x i).1 A))).toNatClampNeg < p := by
        apply Classical.byContradiction
        intro z
        obtain ⟨p1, p2, p3, p4⟩ := ap_pl hI hi A1
        rw [(nxP_p (w := (fun k => dW x ((dZ x i).1 k))) (q := n) (c := w) (s := s) (l := p) (k := A) p1 (by omega) (by omega)).mpr ⟨cA, by omega⟩] at a1
        exact Bool.noConfusion a1
      have := hJ.2 a2
      omega
    show V E mX10_apply 0 0 Q 100 [some (.ref M), some (.int (nI i)), some (.int (nI n)), some (.int (nI w)), some (.int (nI s)), some (.int (nI p)), some (.int (nI u)), some (.int (-1)), none] [] (mdS f M (kS y T U l.length)) t 0 0
    refine v_iload dX10_apply_100 (by rfl) ?_
    refine v_iconst (v := (-1)) dX10_apply_102 (by decide) ?_
    refine v_icmp_eq (tgt := 181) dX10_apply_103 (by decide) (fun c103 => ?_) (fun c103 => ?_)
    · exact hk u p T U l.length hlt (by omega) hA.2
    · exact absurd rfl c103
  | some j =>
    obtain ⟨b1, b2, -⟩ := n2 j rfl
    obtain ⟨p1, p2, p3, p4⟩ := ap_pl hI hi b1
    obtain ⟨cj, b5⟩ := (nxP_p (w := (fun k => dW x ((dZ x i).1 k))) (q := n) (c := w) (s := s) (l := p) (k := j) p1 (by omega) (by omega)).mp b2
    show V E mX10_apply 0 0 Q 100 [some (.ref M), some (.int (nI i)), some (.int (nI n)), some (.int (nI w)), some (.int (nI s)), some (.int (nI p)), some (.int (nI u)), some (.int (nI (60 * i + j))), none] [] (mdS f M (kS y T U l.length)) t 0 0
    refine v_iload dX10_apply_100 (by rfl) ?_
    refine v_iconst (v := (-1)) dX10_apply_102 (by decide) ?_
    refine v_icmp_eq (tgt := 181) dX10_apply_103 (by decide) (fun c103 => ?_) (fun c103 => ?_)
    · exact absurd c103 (nI_m1 (by omega))
    · obtain ⟨r1, r2, r3, r4, r5, r6, r7, r8⟩ := ap_rec hI hL hi hn hs b1 cj
      have r9 := (ap_pl hI hi b1).2.2.2
      have r10 := (ap_pl hI hi b1).2.2.1
      have r11 := r7.2.1 (eCall (dW x ((dZ x i).1 j)) n w).toNatClampNeg
      refine ap_E hE hR hI hi hn hw hs b1 cj h1 b5 (by omega) hA (by omega) (fun T2 U2 hk2 => ?_)
      refine ih (3001 - ((ePl (dW x ((dZ x i).1 j))).toNatClampNeg + eRs (dW x ((dZ x i).1 j)) 0)) (by omega) (u + 1) ((ePl (dW x ((dZ x i).1 j))).toNatClampNeg + eRs (dW x ((dZ x i).1 j)) 0) T2 U2 _ (by omega) (by omega) hk2 ?_ (clJ_s (pl := fun k => (ePl (dW x ((dZ x i).1 k))).toNatClampNeg) (sz := fun k => eRs (dW x ((dZ x i).1 k)) 0) hpl (by omega) A1 B1 hne cA cB ab1 ab2 b1 b2 hJ) hk
      rw [List.length_append, List.length_append, apSg_l, adT_l]
      omega
