/-! lines and columns: class and model -/
theorem mCE_eq {u : tS} {k e : Nat} : ∀ (d a : Nat), a + d = e → a ≤ k → k ≤ e → (∀ p, a ≤ p → p < k → ¬ mOct u p = nI 9) → (mOct u k = nI 9 ∨ k = e) → mCE u d a = k := by
  intro d
  induction d with
  | zero => intro a h1 h2 h3 _ _; show a = k; omega
  | succ d ih =>
    intro a h1 h2 h3 h4 h5
    show (if mOct u a = nI 9 then a else mCE u d (a + 1)) = k
    by_cases e1 : a = k
    · subst e1
      rcases h5 with q | q
      · rw [if_pos q]
      · omega
    · rw [if_neg (h4 a (Nat.le_refl _) (by omega))]
      exact ih (a + 1) (by omega) (by omega) h3 (fun p p1 p2 => h4 p (by omega) p2) h5
theorem cntN_1 {p : Nat → Bool} : ∀ (d k c : Nat), cntN p d k (c + 1) = cntN p d k c + 1 := by
  intro d
  induction d with
  | zero => intro k c; rfl
  | succ d ih =>
    intro k c
    show cntN p d (k + 1) (if p k = true then c + 1 + 1 else c + 1) = cntN p d (k + 1) (if p k = true then c + 1 else c) + 1
    split
    · exact ih _ _
    · exact ih _ _
theorem qCutL_f {u : tS} {e b : Nat} : ∀ (d k : Nat) (x : (Nat → Nat) × Nat × Nat), k + d = e + 1 → b ≤ x.2.1 → x.2.1 ≤ k → (d = 0 → x.2.1 = e + 1) → (∀ p, x.2.1 ≤ p → p < k → ¬ mOct u p = nI 9) → (∀ c, c < x.2.2 → c < 12 → x.1 c ≤ e ∧ x.1 (c + 1) = mCE u (e - x.1 c) (x.1 c) + 1) → (0 < x.2.2 → x.1 0 = b) → (0 < x.2.2 → x.2.2 ≤ 12 → x.1 x.2.2 = x.2.1) → (x.2.2 = 0 → x.2.1 = b) → (d ≠ 0 ∨ 0 < x.2.2) → (∀ c, c < (qCutL u e d k x).2.2 → c < 12 → (qCutL u e d k x).1 c ≤ e ∧ (qCutL u e d k x).1 (c + 1) = mCE u (e - (qCutL u e d k x).1 c) ((qCutL u e d k x).1 c) + 1) ∧ (qCutL u e d k x).1 0 = b ∧ ((qCutL u e d k x).2.2 ≤ 12 → (qCutL u e d k x).1 (qCutL u e d k x).2.2 = e + 1) ∧ (qCutL u e d k x).2.2 = cntN (mTab u) (d - 1) k (if d = 0 then x.2.2 else x.2.2 + 1) ∧ 0 < (qCutL u e d k x).2.2 := by
  intro d
  induction d with
  | zero =>
    intro k x h1 h2 h3 h4 h5 h6 h7 h8 h9 h10
    have hp : 0 < x.2.2 := h10.elim (fun z => absurd rfl z) id
    exact ⟨h6, h7 hp, fun q => (h8 hp q).trans (h4 rfl), rfl, hp⟩
  | succ d ih =>
    intro k x h1 h2 h3 h4 h5 h6 h7 h8 h9 h10
    have e0 : qCutL u e (d + 1) k x = qCutL u e d (k + 1) (qCutS u e k x) := rfl
    rw [e0]
    by_cases c : k = e ∨ mOct u k = nI 9
    · have es : qCutS u e k x = (if x.2.2 < 12 then va_up (va_up x.1 x.2.2 x.2.1) (x.2.2 + 1) (k + 1) else x.1, k + 1, x.2.2 + 1) := if_pos c
      have hce : mCE u (e - x.2.1) x.2.1 = k := mCE_eq (e - x.2.1) x.2.1 (by omega) h3 (by omega) h5 (c.symm.imp id id)
      rw [es]
      have hst : ∀ c', c' < x.2.2 + 1 → c' < 12 → (if x.2.2 < 12 then va_up (va_up x.1 x.2.2 x.2.1) (x.2.2 + 1) (k + 1) else x.1) c' = if c' = x.2.2 then x.2.1 else x.1 c' := fun c' a1 a2 => by
        by_cases q : x.2.2 < 12
        · rw [if_pos q, va_up_ne _ _ (by omega)]
          by_cases q2 : c' = x.2.2
          · rw [if_pos q2, q2, va_up_self]
          · rw [if_neg q2, va_up_ne _ _ q2]
        · rw [if_neg q, if_neg (by omega)]
      obtain ⟨r1, r2, r3, r4, r5⟩ := ih (k + 1) (if x.2.2 < 12 then va_up (va_up x.1 x.2.2 x.2.1) (x.2.2 + 1) (k + 1) else x.1, k + 1, x.2.2 + 1) (by omega) (by show b ≤ k + 1; omega) (Nat.le_refl _) (fun z => by show k + 1 = e + 1; omega) (fun p p1 p2 => by have p1 : k + 1 ≤ p := p1; omega) (fun c' a1 a2 => by
        have a1 : c' < x.2.2 + 1 := a1
        dsimp only
        rw [hst c' a1 a2]
        by_cases q2 : c' = x.2.2
        · subst q2
          rw [if_pos rfl, hce, if_pos a2, va_up_self]
          exact ⟨by omega, rfl⟩
        · rw [if_neg q2]
          obtain ⟨s1, s2⟩ := h6 c' (by omega) a2
          refine ⟨s1, ?_⟩
          rw [← s2]
          by_cases q : x.2.2 < 12
          · rw [if_pos q, va_up_ne _ _ (by omega)]
            by_cases q3 : c' + 1 = x.2.2
            · rw [q3, va_up_self, h8 (by omega) (by omega)]
            · rw [va_up_ne _ _ q3]
          · rw [if_neg q]) (fun _ => by
        show (if x.2.2 < 12 then va_up (va_up x.1 x.2.2 x.2.1) (x.2.2 + 1) (k + 1) else x.1) 0 = b
        rw [hst 0 (by omega) (by omega)]
        by_cases q2 : 0 = x.2.2
        · rw [if_pos q2]
          exact h9 q2.symm
        · rw [if_neg q2]
          exact h7 (by omega)) (fun _ a => by
        have a : x.2.2 + 1 ≤ 12 := a
        show (if x.2.2 < 12 then va_up (va_up x.1 x.2.2 x.2.1) (x.2.2 + 1) (k + 1) else x.1) (x.2.2 + 1) = k + 1
        rw [if_pos (by omega), va_up_self]) (fun z => absurd z (Nat.succ_ne_zero _)) (Or.inr (Nat.succ_pos _))
      refine ⟨r1, r2, r3, ?_, r5⟩
      rw [r4, if_neg (Nat.succ_ne_zero d)]
      show cntN (mTab u) (d - 1) (k + 1) (if d = 0 then x.2.2 + 1 else x.2.2 + 1 + 1) = cntN (mTab u) d k (x.2.2 + 1)
      cases d with
      | zero => rfl
      | succ d =>
        have ct : mOct u k = nI 9 := c.elim (fun z => by omega) id
        show cntN (mTab u) d (k + 1) (x.2.2 + 1 + 1) = cntN (mTab u) d (k + 1) (if mTab u k = true then x.2.2 + 1 + 1 else x.2.2 + 1)
        rw [if_pos (show mTab u k = true from decide_eq_true ct)]
    · have es : qCutS u e k x = x := if_neg c
      rw [es]
      have hk : k ≠ e := fun z => c (Or.inl z)
      obtain ⟨r1, r2, r3, r4, r5⟩ := ih (k + 1) x (by omega) h2 (by omega) (fun z => by omega) (fun p p1 p2 => by
        by_cases q : p = k
        · rw [q]; exact fun z => c (Or.inr z)
        · exact h5 p p1 (by omega)) h6 h7 h8 h9 (Or.inl (by omega))
      refine ⟨r1, r2, r3, ?_, r5⟩
      rw [r4, if_neg (by omega), if_neg (by omega)]
      show _ = cntN (mTab u) d k (x.2.2 + 1)
      obtain ⟨d', hd⟩ : ∃ d', d = d' + 1 := ⟨d - 1, by omega⟩
      subst hd
      show cntN (mTab u) d' (k + 1) (x.2.2 + 1) = cntN (mTab u) d' (k + 1) (if mTab u k = true then x.2.2 + 1 + 1 else x.2.2 + 1)
      rw [if_neg (show ¬ mTab u k = true from fun z => c (Or.inr (of_decide_eq_true z)))]
/-- the columns of a line -/
theorem qCut_f {u : tS} {v : qV} (h : qBg v ≤ qE v) : qCm (qCut u v) = cntN (mTab u) (qE v - qBg v) (qBg v) 1 ∧ 0 < qCm (qCut u v) ∧ qSt (qCut u v) 0 = qBg v ∧ (∀ c, c < qCm (qCut u v) → c < 12 → qSt (qCut u v) c ≤ qE v ∧ qSt (qCut u v) (c + 1) = mCE u (qE v - qSt (qCut u v) c) (qSt (qCut u v) c) + 1) ∧ (qCm (qCut u v) ≤ 12 → qSt (qCut u v) (qCm (qCut u v)) = qE v + 1) := by
  obtain ⟨r1, r2, r3, r4, r5⟩ := qCutL_f (u := u) (e := qE v) (b := qBg v) (qE v + 1 - qBg v) (qBg v) (qSt v, qBg v, 0) (by omega) (Nat.le_refl _) (Nat.le_refl _) (fun z => by omega) (fun p p1 p2 => by have p1 : qBg v ≤ p := p1; omega) (fun c a _ => absurd a (Nat.not_lt_zero _)) (fun a => absurd a (Nat.lt_irrefl _)) (fun a _ => absurd a (Nat.lt_irrefl _)) (fun _ => rfl) (Or.inl (by omega))
  refine ⟨?_, r5, r2, r1, r3⟩
  have r4 : qCm (qCut u v) = _ := r4
  rw [r4, if_neg (by omega), show qE v + 1 - qBg v - 1 = qE v - qBg v by omega]
/-- the end of a line -/
theorem mLE_f {u : tS} (hu : u.1 ≤ 8000) : ∀ (d i : Nat), i + d = u.1 → tFind u.2.1 (nI 10) d i = if mLE u d i < u.1 then nI (mLE u d i) else -1 := by
  intro d
  induction d with
  | zero => intro i h; exact (if_neg (by show ¬ i < u.1; omega)).symm
  | succ d ih =>
    intro i h
    show (if u.2.1 i = nI 10 then nI i else tFind u.2.1 (nI 10) d (i + 1)) = if (if mOct u i = nI 10 then i else mLE u d (i + 1)) < u.1 then nI (if mOct u i = nI 10 then i else mLE u d (i + 1)) else -1
    rw [mOct_in (by omega) hu]
    by_cases c : u.2.1 i = nI 10
    · rw [if_pos c, if_pos c, if_pos (by omega)]
    · rw [if_neg c, if_neg c]
      exact ih (i + 1) (by omega)
theorem qLine_m {u : tS} {v : qV} (hu : u.1 ≤ 8000) (hn : qNx v ≤ u.1) : (mLE u (u.1 - qNx v) (qNx v) < u.1 → qLine u v = (true, uNx (uEn (uBg v (qNx v)) (nI (mLE u (u.1 - qNx v) (qNx v)))) (mLE u (u.1 - qNx v) (qNx v) + 1))) ∧ (¬ mLE u (u.1 - qNx v) (qNx v) < u.1 → (qLine u v).1 = false ∧ qFa (qLine u v).2 = 1 ∧ qFp (qLine u v).2 = u.1) := by
  have e : qLnE u v = if mLE u (u.1 - qNx v) (qNx v) < u.1 then nI (mLE u (u.1 - qNx v) (qNx v)) else -1 := mLE_f hu (u.1 - qNx v) (qNx v) (by omega)
  unfold qLine
  rw [e]
  refine ⟨fun h => ?_, fun h => ?_⟩
  · rw [if_pos h, if_neg (nI_m1 (by omega)), nI_clamp (n := mLE u (u.1 - qNx v) (qNx v)) (by omega)]
  · rw [if_neg h, if_pos rfl]
    exact ⟨rfl, rfl, rfl⟩