/-! apply, pure: the places carried over -/
theorem apM_e {g : gV} {j Z : Nat} {E : Nat → eV} {P R F S A B nn LL : Nat → Nat} {N : Nat} (h : apQ E P R F S A B nn LL N) {d k : Nat} (hk : k < N) : (apM g j Z E P R (d + 1) k (nn k)).length = (P k - nn k) + eRs (E k) (R k) + (apM g j Z E P R d (k + 1) (nn (k + 1))).length ∧ (∀ q, q < P k - nn k → ((apM g j Z E P R (d + 1) k (nn k)).getD q (0, 0)).2 = nI (nn k + q)) ∧ (∀ i, i < eRs (E k) (R k) → ((apM g j Z E P R (d + 1) k (nn k)).getD (P k - nn k + i) (0, 0)).2 = if i < eRs (E k) 0 then nI (P k + i) else -1) ∧ ∀ q, (apM g j Z E P R (d + 1) k (nn k)).getD (P k - nn k + eRs (E k) (R k) + q) (0, 0) = (apM g j Z E P R d (k + 1) (nn (k + 1))).getD q (0, 0) := by
  obtain ⟨h1, h2, h3, h4, h5, h6, h7⟩ := h k hk
  have hL : (apM g j Z E P R (d + 1) k (nn k)) = apSg g j (nn k) (P k) ++ (adT (E k) (R k) (P k) (eRs (E k) (R k)) ++ (apM g j Z E P R d (k + 1) (nn (k + 1)))) := by
    rw [h6]
    rfl
  rw [hL]
  refine ⟨?_, fun q hq => ?_, fun i hi => ?_, fun q => ?_⟩
  · rw [List.length_append, List.length_append, apSg_l, adT_l]
    omega
  · rw [gP_l (by rw [apSg_l]; exact hq)]
    unfold apSg
    rw [mapR_g hq]
  · rw [gP_a (by rw [apSg_l]; omega), apSg_l, show P k - nn k + i - (P k - nn k) = i by omega, gP_l (by rw [adT_l]; exact hi)]
    unfold adT
    rw [mapR_g hi]
    rfl
  · rw [gP_a (by rw [apSg_l]; omega), apSg_l, gP_a (by rw [adT_l]; omega), adT_l, show P k - nn k + eRs (E k) (R k) + q - (P k - nn k) - eRs (E k) (R k) = q by omega]
theorem apM_r {g : gV} {j Z : Nat} {E : Nat → eV} {P R F S A B nn LL : Nat → Nat} {N : Nat} (h : apQ E P R F S A B nn LL N) (hZ : ∀ i, i < N → P i + eRs (E i) 0 ≤ Z + 1) : ∀ (d k : Nat), k + d = N → ∀ q, q < (apM g j Z E P R d k (nn k)).length → ((apM g j Z E P R d k (nn k)).getD q (0, 0)).2 = -1 ∨ ∃ p, nn k ≤ p ∧ p ≤ Z ∧ ((apM g j Z E P R d k (nn k)).getD q (0, 0)).2 = nI p := by
  intro d
  induction d with
  | zero =>
    intro k _ q hq
    replace hq : q < (apSg g j (nn k) (Z + 1)).length := hq
    rw [apSg_l] at hq
    refine Or.inr ⟨nn k + q, by omega, by omega, ?_⟩
    show ((apSg g j (nn k) (Z + 1)).getD q (0, 0)).2 = _
    unfold apSg
    rw [mapR_g hq]
  | succ d ih =>
    intro k hk q hq
    obtain ⟨e1, e2, e3, e4⟩ := apM_e (g := g) (j := j) (Z := Z) (d := d) h (show k < N by omega)
    obtain ⟨h1, h2, h3, h4, h5, h6, h7⟩ := h k (by omega)
    have hz := hZ k (by omega)
    rw [e1] at hq
    by_cases c1 : q < P k - nn k
    · exact Or.inr ⟨nn k + q, by omega, by omega, e2 q c1⟩
    · by_cases c2 : q - (P k - nn k) < eRs (E k) (R k)
      · have h8 := e3 _ c2
        rw [show P k - nn k + (q - (P k - nn k)) = q by omega] at h8
        rw [h8]
        by_cases c3 : q - (P k - nn k) < eRs (E k) 0
        · rw [if_pos c3]
          exact Or.inr ⟨_, by omega, by omega, rfl⟩
        · rw [if_neg c3]
          exact Or.inl rfl
      · have h8 := e4 (q - (P k - nn k) - eRs (E k) (R k))
        rw [show P k - nn k + eRs (E k) (R k) + (q - (P k - nn k) - eRs (E k) (R k)) = q by omega] at h8
        rw [h8]
        rcases ih (k + 1) (by omega) (q - (P k - nn k) - eRs (E k) (R k)) (by omega) with h9 | ⟨p, p1, p2, p3⟩
        · exact Or.inl h9
        · exact Or.inr ⟨p, by omega, p2, p3⟩
theorem apM_c {g : gV} {j Z : Nat} {E : Nat → eV} {P R F S A B nn LL : Nat → Nat} {N : Nat} (h : apQ E P R F S A B nn LL N) (hZ : ∀ i, i < N → P i + eRs (E i) 0 ≤ Z + 1) (hZ2 : Z < 2 ^ 30) : ∀ (d k : Nat), k + d = N → ∀ p, nn k ≤ p → p ≤ Z → (∃ q, q < (apM g j Z E P R d k (nn k)).length ∧ ((apM g j Z E P R d k (nn k)).getD q (0, 0)).2 = nI p ∧ (∀ q', q' < (apM g j Z E P R d k (nn k)).length → ((apM g j Z E P R d k (nn k)).getD q' (0, 0)).2 = nI p → q' = q) ∧ hMovL F S A B p d k (nI (LL k + 1) - nI (nn k)) = nI (LL k + 1 + q)) ∨ ((∀ q, q < (apM g j Z E P R d k (nn k)).length → ((apM g j Z E P R d k (nn k)).getD q (0, 0)).2 ≠ nI p) ∧ hMovL F S A B p d k (nI (LL k + 1) - nI (nn k)) = -1) := by
  have sh : ∀ n p b, n ≤ p → nI p + (nI b - nI n) = nI (b + (p - n)) := fun n p b hn => by
    have h9 := nI_sh (a := n) (b := b) (q := p - n)
    rw [show n + (p - n) = p by omega] at h9
    exact h9
  intro d
  induction d with
  | zero =>
    intro k _ p hp hpz
    refine Or.inl ⟨p - nn k, ?_, ?_, fun q' hq' hv => ?_, ?_⟩
    · show p - nn k < (apSg g j (nn k) (Z + 1)).length
      rw [apSg_l]
      omega
    · show ((apSg g j (nn k) (Z + 1)).getD (p - nn k) (0, 0)).2 = _
      unfold apSg
      rw [mapR_g (by omega)]
      show nI (nn k + (p - nn k)) = _
      rw [show nn k + (p - nn k) = p by omega]
    · replace hq' : q' < (apSg g j (nn k) (Z + 1)).length := hq'
      rw [apSg_l] at hq'
      replace hv : ((apSg g j (nn k) (Z + 1)).getD q' (0, 0)).2 = nI p := hv
      unfold apSg at hv
      rw [mapR_g hq'] at hv
      have := nI_inj hv (by omega) (by omega)
      omega
    · exact sh _ _ _ hp
  | succ d ih =>
    intro k hk p hp hpz
    obtain ⟨e1, e2, e3, e4⟩ := apM_e (g := g) (j := j) (Z := Z) (d := d) h (show k < N by omega)
    obtain ⟨h1, h2, h3, h4, h5, h6, h7⟩ := h k (by omega)
    have hz := hZ k (by omega)
    have hr := apM_r (g := g) (j := j) h hZ d (k + 1) (by omega)
    have hmov : hMovL F S A B p (d + 1) k (nI (LL k + 1) - nI (nn k)) = if p < F k then nI p + (nI (LL k + 1) - nI (nn k)) else if p - F k < S k then (if p - F k < B k then nI (A k + (p - F k)) else -1) else hMovL F S A B p d (k + 1) (nI (A k + B k) - nI (F k) - nI (S k)) := rfl
    rw [hmov, e1]
    -- what stands where
    have cs : ∀ q', q' < P k - nn k + eRs (E k) (R k) + (apM g j Z E P R d (k + 1) (nn (k + 1))).length → ((apM g j Z E P R (d + 1) k (nn k)).getD q' (0, 0)).2 = nI p → (q' < P k - nn k ∧ nn k + q' = p) ∨ (P k ≤ p ∧ p < P k + eRs (E k) 0 ∧ p - P k < eRs (E k) (R k) ∧ q' = P k - nn k + (p - P k)) ∨ (nn (k + 1) ≤ p ∧ P k - nn k + eRs (E k) (R k) ≤ q' ∧ q' - (P k - nn k + eRs (E k) (R k)) < (apM g j Z E P R d (k + 1) (nn (k + 1))).length ∧ ((apM g j Z E P R d (k + 1) (nn (k + 1))).getD (q' - (P k - nn k + eRs (E k) (R k))) (0, 0)).2 = nI p) := fun q' hq' hv => by
      by_cases c1 : q' < P k - nn k
      · rw [e2 q' c1] at hv
        exact Or.inl ⟨c1, nI_inj hv (by omega) (by omega)⟩
      · by_cases c2 : q' - (P k - nn k) < eRs (E k) (R k)
        · have h8 := e3 _ c2
          rw [show P k - nn k + (q' - (P k - nn k)) = q' by omega, hv] at h8
          by_cases c3 : q' - (P k - nn k) < eRs (E k) 0
          · rw [if_pos c3] at h8
            have := nI_inj h8 (by omega) (by omega)
            exact Or.inr (Or.inl ⟨by omega, by omega, by omega, by omega⟩)
          · rw [if_neg c3] at h8
            exact absurd h8 (nI_m1 (by omega))
        · have h8 := e4 (q' - (P k - nn k + eRs (E k) (R k)))
          rw [show P k - nn k + eRs (E k) (R k) + (q' - (P k - nn k + eRs (E k) (R k))) = q' by omega] at h8
          rw [h8] at hv
          refine Or.inr (Or.inr ⟨?_, by omega, by omega, hv⟩)
          rcases hr (q' - (P k - nn k + eRs (E k) (R k))) (by omega) with h9 | ⟨p', p1, p2, p3⟩
          · rw [h9] at hv
            exact absurd hv.symm (nI_m1 (by omega))
          · rw [p3] at hv
            have := nI_inj hv (by omega) (by omega)
            omega
    by_cases c1 : p < P k
    · rw [h1, if_pos c1]
      refine Or.inl ⟨p - nn k, by omega, ?_, fun q' hq' hv => ?_, sh _ _ _ hp⟩
      · rw [e2 _ (by omega), show nn k + (p - nn k) = p by omega]
      · rcases cs q' hq' hv with x | x | x <;> omega
    · rw [h1, if_neg c1, h2]
      by_cases c2 : p - P k < eRs (E k) 0
      · rw [if_pos c2, h3]
        by_cases c3 : p - P k < eRs (E k) (R k)
        · rw [if_pos c3]
          refine Or.inl ⟨P k - nn k + (p - P k), by omega, ?_, fun q' hq' hv => ?_, ?_⟩
          · rw [e3 _ c3, if_pos c2, show P k + (p - P k) = p by omega]
          · rcases cs q' hq' hv with x | x | x <;> omega
          · rw [h4]
            exact congrArg nI (by omega)
        · rw [if_neg c3]
          refine Or.inr ⟨fun q' hq' hv => ?_, rfl⟩
          rcases cs q' hq' hv with x | x | x <;> omega
      · rw [if_neg c2, nI_sb, h3, ← h6, show A k + eRs (E k) (R k) = LL (k + 1) + 1 by omega]
        rcases ih (k + 1) (by omega) p (by omega) hpz with ⟨q, q1, q2, q3, q4⟩ | ⟨q1, q2⟩
        · refine Or.inl ⟨P k - nn k + eRs (E k) (R k) + q, by omega, by rw [e4]; exact q2, fun q' hq' hv => ?_, ?_⟩
          · rcases cs q' hq' hv with x | x | ⟨x1, x2, x3, x4⟩
            · omega
            · omega
            · have := q3 _ x3 x4
              omega
          · rw [q4]
            exact congrArg nI (by omega)
        · refine Or.inr ⟨fun q' hq' hv => ?_, q2⟩
          rcases cs q' hq' hv with x | x | ⟨x1, x2, x3, x4⟩
          · omega
          · omega
          · exact q1 _ x3 x4
