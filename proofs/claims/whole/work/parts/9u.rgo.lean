/-! what a record that was read keeps -/
theorem qRow_I {u : tS} {r i j : Nat} {w : eV} (hj : j - i < 2 ^ 31) (h : (qRow u r i j w).1 = true) : r < 4 ∧ i < j ∧ j - i ≤ 24 ∧ ∃ L : Nat → Int32, (qRow u r i j w).2 = wRo (wRs (wLe w L) (va_up (eRs w) r (j - i))) (r + 1) ∧ (∀ k, k < j - i → ∃ c, c < 128 ∧ L (r * 24 + k) = nI c) ∧ ∀ k, k < r * 24 → L k = eLe w k := by
  have hr : r < 4 := by
    by_cases e : r < 4
    · exact e
    · unfold qRow at h
      rw [if_pos (Or.inl (by omega))] at h
      exact Bool.noConfusion h
  obtain ⟨e1, e2⟩ := qRow_f (u := u) (i := i) (w := w) hr hj
  rw [e1] at h
  obtain ⟨L, eL, hL⟩ := e2 h
  unfold rwOk at h
  rw [Bool.and_eq_true, in24 hj, allB_iff] at h
  obtain ⟨⟨h1, h2⟩, h3⟩ := h
  refine ⟨hr, h1, h2, L, eL, fun k hk => ?_, fun k hk => ?_⟩
  · rw [hL, if_pos (by omega)]
    have h4 := h3 (i + k) (by omega) (by omega)
    unfold rwP at h4
    have h5 := ltr_c (of_decide_eq_true h4)
    rw [show i + (r * 24 + k - r * 24) = i + k by omega]
    exact h5
  · rw [hL, if_neg (by omega)]
def rI (w : eV) : Prop := enOk w ∧ eSm w ∧ eDs w
theorem qAlt_I {u : tS} {i j : Nat} {w : eV} (hI : rI w) (hj : j - i < 2 ^ 31) (h1 : 1 ≤ eRo w) (h : (qAlt u i j w).1 = true) : rI (qAlt u i j w).2 ∧ eRo (qAlt u i j w).2 = eRo w + 1 ∧ eRs (qAlt u i j w).2 0 = eRs w 0 := by
  obtain ⟨i1, i2, i3⟩ := hI
  have hok := qAlt_ok (u := u) (i := i) (j := j) i1
  rw [qAlt_2] at hok ⊢
  unfold qAlt at h
  by_cases hr : (qRow u (eRo w) i j w).1 = true
  · rw [if_pos hr] at h
    obtain ⟨r4, hij, h24, L, eL, hS, hO⟩ := qRow_I hj hr
    rw [eL] at h hok ⊢
    replace h := (allB_iff _ _).mp h
    have hz := i1.2.1
    have eo : ∀ o, o < eRo w → va_up (eRs w) (eRo w) (j - i) o = eRs w o := fun o ho => va_up_ne _ _ (by omega)
    have es : va_up (eRs w) (eRo w) (j - i) (eRo w) = j - i := va_up_self ..
    refine ⟨⟨hok, fun o ho => ?_, fun p q hp hpq hq => ?_⟩, rfl, eo 0 (by omega)⟩
    · replace ho : o < eRo w + 1 := ho
      show 1 ≤ va_up (eRs w) (eRo w) (j - i) o ∧ ∀ k, k < va_up (eRs w) (eRo w) (j - i) o → ∃ c, c < 128 ∧ L (o * 24 + k) = nI c
      by_cases e : o = eRo w
      · rw [e, es]
        exact ⟨by omega, hS⟩
      · rw [eo o (by omega)]
        refine ⟨(i2 o (by omega)).1, fun k hk => ?_⟩
        have := hz o
        rw [hO _ (by omega)]
        exact (i2 o (by omega)).2 k hk
    · replace hq : q < eRo w + 1 := hq
      show va_up (eRs w) (eRo w) (j - i) p = va_up (eRs w) (eRo w) (j - i) q → ¬ ∀ k, k < va_up (eRs w) (eRo w) (j - i) p → L (p * 24 + k) = L (q * 24 + k)
      rw [eo p (by omega)]
      intro hsz hall
      by_cases e : q = eRo w
      · have h5 := h p (by omega) (by omega)
        have a1 : eRs (wRo (wRs (wLe w L) (va_up (eRs w) (eRo w) (j - i))) (eRo w + 1)) p = eRs w p := eo p (by omega)
        have a2 : eRs (wRo (wRs (wLe w L) (va_up (eRs w) (eRo w) (j - i))) (eRo w + 1)) (eRo w) = j - i := es
        rw [e, es] at hsz
        have h6 : eRowIs (wRo (wRs (wLe w L) (va_up (eRs w) (eRo w) (j - i))) (eRo w + 1)) p (wRo (wRs (wLe w L) (va_up (eRs w) (eRo w) (j - i))) (eRo w + 1)) (eRo w) = true := by
          unfold eRowIs
          rw [Bool.and_eq_true, decide_eq_true_eq, allB_iff]
          refine ⟨by rw [a1, a2]; exact hsz, fun k _ hk => decide_eq_true ?_⟩
          have hk1 : k < eRs (wRo (wRs (wLe w L) (va_up (eRs w) (eRo w) (j - i))) (eRo w + 1)) p := by omega
          rw [eLet_in hk1 (hok.2.1 _), eLet_in (by rw [a2, ← hsz, ← a1]; exact hk1) (hok.2.1 _)]
          have h7 := hall k (by rw [← a1]; exact hk1)
          rw [e] at h7
          exact h7
        rw [h6] at h5
        exact Bool.noConfusion h5
      · rw [eo q (by omega)] at hsz
        refine i3 p q hp hpq (by omega) hsz (fun k hk => ?_)
        have h7 := hall k hk
        have z1 := hz p
        have z2 := hz q
        rw [hO _ (by omega), hO _ (by omega)] at h7
        exact h7
  · rw [if_neg hr] at h
    exact Bool.noConfusion h
theorem qAltL_I {u : tS} {j : Nat} : ∀ (d k i : Nat) (w : eV), k + d < 2 ^ 31 → rI w → 1 ≤ eRo w → (qAltL u j d k i w).1 = true → rI (qAltL u j d k i w).2 ∧ 1 ≤ eRo (qAltL u j d k i w).2 ∧ eRs (qAltL u j d k i w).2 0 = eRs w 0 := by
  intro d
  induction d with
  | zero => intro k i w _ h h1 _; exact ⟨h, h1, rfl⟩
  | succ d ih =>
    intro k i w hd hI h1 h
    unfold qAltL at h ⊢
    by_cases c : k = j ∨ ocAt u.1 u.2.1 (nI k) = nI 44
    · rw [if_pos c] at h ⊢
      by_cases c2 : (qAlt u i k w).1 = true
      · rw [if_pos c2] at h ⊢
        obtain ⟨a1, a2, a3⟩ := qAlt_I hI (by omega) h1 c2
        obtain ⟨b1, b2, b3⟩ := ih (k + 1) (k + 1) _ (by omega) a1 (by omega) h
        exact ⟨b1, b2, b3.trans a3⟩
      · rw [if_neg c2] at h
        exact Bool.noConfusion h
    · rw [if_neg c] at h ⊢
      exact ih (k + 1) i w (by omega) hI h1 h
theorem qAlts_I {u : tS} {v : qV} {w : eV} (hS : ∀ k, qSt v k ≤ 8001) (hI : rI w) (h1 : 1 ≤ eRo w) (h : (qAlts u v w).1 = true) : rI (qAlts u v w).2 ∧ 1 ≤ eRo (qAlts u v w).2 ∧ eRs (qAlts u v w).2 0 = eRs w 0 := by
  unfold qAlts at h ⊢
  by_cases c : qCol u v 4 tx7 = true
  · rw [if_pos c]
    exact ⟨hI, h1, rfl⟩
  · rw [if_neg c] at h ⊢
    have s4 := hS 4
    have s5 := hS 5
    exact qAltL_I _ _ _ w (by omega) hI h1 h
theorem qAlts_9 {u : tS} {v : qV} {w : eV} : eK9 (qAlts u v w).2 w := by
  unfold qAlts
  split
  · exact eK9_r
  · exact qAltL_9 _ _ _ _
/-- calls of r samples -/
def clI (w : eV) (r : Nat) : Prop := ∀ i, i < r → 1 ≤ eCn w i ∧ ∀ c, c < eCn w i → eCa w (i * 2 + c) = -1 ∨ ∃ m : Nat, m < eRo w ∧ eCa w (i * 2 + c) = nI m
def eHd (y w : eV) : Prop := eId y = eId w ∧ eIz y = eIz w ∧ eRo y = eRo w ∧ eRs y = eRs w ∧ eLe y = eLe w ∧ eSq y = eSq w ∧ ePl y = ePl w ∧ eQu y = eQu w
theorem eHd_t {a b c : eV} (h : eHd a b) (h2 : eHd b c) : eHd a c := ⟨h.1.trans h2.1, h.2.1.trans h2.2.1, h.2.2.1.trans h2.2.2.1, h.2.2.2.1.trans h2.2.2.2.1, h.2.2.2.2.1.trans h2.2.2.2.2.1, h.2.2.2.2.2.1.trans h2.2.2.2.2.2.1, h.2.2.2.2.2.2.1.trans h2.2.2.2.2.2.2.1, h.2.2.2.2.2.2.2.trans h2.2.2.2.2.2.2.2⟩
theorem qCaA_I {u : tS} {i j n : Nat} (hn : 1 ≤ n) (h : ¬ qCaA u i j n = -2) : qCaA u i j n = -1 ∨ ∃ m : Nat, m < n ∧ qCaA u i j n = nI m := by
  unfold qCaA at h ⊢
  by_cases c : tIs u i j tx7 = true
  · rw [if_pos c]
    exact Or.inl rfl
  · rw [if_neg c] at h ⊢
    by_cases c2 : tNum u i j (n - 1) = -1
    · rw [if_pos c2] at h
      exact absurd rfl h
    · rw [if_neg c2]
      rcases tNum_r (u := u) (i := i) (j := j) (L := n - 1) with q | ⟨p, p1, p2⟩
      · exact absurd q c2
      · exact Or.inr ⟨p, by omega, p2⟩
theorem qCls_I {u : tS} {i j r : Nat} {w : eV} (hw : enOk w) (h1 : 1 ≤ eRo w) (hI : clI w r) (h : (qCls u i j r w).1 = true) : clI (qCls u i j r w).2 (r + 1) ∧ eHd (qCls u i j r w).2 w := by
  unfold qCls at h ⊢
  by_cases c : qCaA u i (qMid u i j) (eRo w) = -2 ∨ qCl2 u i j (eRo w) = -2
  · rw [if_pos c] at h
    exact Bool.noConfusion h
  · rw [if_neg c]
    refine ⟨fun a ha => ?_, rfl, rfl, rfl, rfl, rfl, rfl, rfl, rfl⟩
    show 1 ≤ va_up (eCn w) r (if qMid u i j < j then 2 else 1) a ∧ ∀ c, c < va_up (eCn w) r (if qMid u i j < j then 2 else 1) a → upd (upd (eCa w) (r * 2 + 0) (qCaA u i (qMid u i j) (eRo w))) (r * 2 + 1) (qCl2 u i j (eRo w)) (a * 2 + c) = -1 ∨ ∃ m : Nat, m < eRo w ∧ upd (upd (eCa w) (r * 2 + 0) (qCaA u i (qMid u i j) (eRo w))) (r * 2 + 1) (qCl2 u i j (eRo w)) (a * 2 + c) = nI m
    by_cases e : a = r
    · subst e
      rw [va_up_self]
      refine ⟨by split <;> omega, fun b hb => ?_⟩
      have hb2 : b = 0 ∨ b = 1 := by
        split at hb <;> omega
      rcases hb2 with e | e
      · subst e
        rw [updN (by omega), updS]
        exact qCaA_I h1 (fun z => c (Or.inl z))
      · subst e
        rw [updS]
        have h2 : ¬ qCl2 u i j (eRo w) = -2 := fun z => c (Or.inr z)
        unfold qCl2 at h2 ⊢
        by_cases c3 : qMid u i j < j
        · rw [if_pos c3] at h2 ⊢
          exact qCaA_I h1 h2
        · rw [if_neg c3]
          exact Or.inl rfl
    · rw [va_up_ne _ _ e]
      refine ⟨(hI a (by omega)).1, fun b hb => ?_⟩
      have ha2 : a < r := by omega
      by_cases hb2 : b < 2
      · rw [updN (by omega), updN (by omega)]
        exact (hI a ha2).2 b hb
      · exact absurd hb2 (by have := hw.2.2.1 a; omega)
theorem qAll_I {u : tS} {v : qV} : ∀ (d r : Nat) (w : eV), enOk w → 1 ≤ eRo w → clI w r → (qAll u v d r w).1 = true → clI (qAll u v d r w).2.2 (r + d) ∧ eHd (qAll u v d r w).2.2 w := by
  intro d
  induction d with
  | zero => intro r w _ _ h _; exact ⟨h, rfl, rfl, rfl, rfl, rfl, rfl, rfl, rfl⟩
  | succ d ih =>
    intro r w hw h1 hI h
    unfold qAll at h ⊢
    by_cases c : (qCls u (qSt v (9 + r)) (qSt v (9 + r + 1) - 1) r w).1 = true
    · rw [if_pos c] at h ⊢
      obtain ⟨a1, a2⟩ := qCls_I hw h1 hI c
      obtain ⟨b1, b2⟩ := ih (r + 1) _ (qCls_ok hw) (by rw [qCls_ro]; exact h1) a1 h
      rw [show r + (d + 1) = r + 1 + d by omega]
      exact ⟨b1, eHd_t b2 a2⟩
    · rw [if_neg c] at h
      exact Bool.noConfusion h
theorem qThn_i {r : Bool × eV} {bad : qV} {k : eV → Bool × qV × eV} (h : (qThn r bad k).1 = true) : r.1 = true ∧ (k r.2).1 = true ∧ (qThn r bad k).2.2 = (k r.2).2.2 := by
  unfold qThn at h ⊢
  by_cases c : r.1 = true
  · rw [if_pos c] at h ⊢
    exact ⟨c, h, rfl⟩
  · rw [if_neg c] at h
    exact Bool.noConfusion h
def quI (w : eV) : Prop := eQu w = -1 ∨ ∃ q : Nat, q ≤ 999999 ∧ eQu w = nI q
theorem qE6_I {u : tS} {v : qV} {g : gV} {n : Nat} {y : eV} (h : (qE6 u v g n y).1 = true) : (qE6 u v g n y).2.2 = wPa (wQu y (qQuaR u v)) (qCol u v 6 tx8) := by
  obtain ⟨a1, h, e1⟩ := qThn_i h
  obtain ⟨a2, h, e2⟩ := qThn_i h
  obtain ⟨a3, h, e3⟩ := qThn_i h
  obtain ⟨a4, h, e4⟩ := qThn_i h
  exact e1.trans (e2.trans (e3.trans e4))
theorem qId_I {u : tS} {v : qV} {w : eV} (h : (qId u v w).1 = true) : (∀ k, k < eIz (qId u v w).2 → ∃ c, c < 128 ∧ eId (qId u v w).2 k = nI c) ∧ eRo (qId u v w).2 = eRo w := by
  unfold qId at h ⊢
  by_cases c : qCol u v 2 tx7 = true
  · rw [if_pos c]
    exact ⟨fun k hk => absurd hk (Nat.not_lt_zero _), rfl⟩
  · rw [if_neg c] at h ⊢
    by_cases c2 : tWord u (qSt v 2) (qSt v 3 - 1) = true
    · rw [if_pos c2]
      have hw2 := c2
      unfold tWord at hw2
      rw [Bool.and_eq_true, Bool.and_eq_true, decide_eq_true_eq, decide_eq_true_eq, allB_iff] at hw2
      obtain ⟨hlt, h20, hall⟩ := hw2
      obtain ⟨I, a1, a2⟩ := qIdL_f (u := u) (qSt v 3 - 1 - qSt v 2) (qSt v 2) (wIz w 0) (by show 0 + (qSt v 3 - 1 - qSt v 2) ≤ 20; omega)
      rw [a1]
      refine ⟨fun k hk => ?_, rfl⟩
      replace hk : k < 0 + (qSt v 3 - 1 - qSt v 2) := hk
      show ∃ c, c < 128 ∧ I k = nI c
      rw [a2 k]
      show ∃ c, c < 128 ∧ (if 0 ≤ k ∧ k < 0 + (qSt v 3 - 1 - qSt v 2) then mOct u (qSt v 2 + (k - 0)) else eId w k) = nI c
      rw [if_pos (by omega)]
      have h5 := hall (qSt v 2 + (k - 0)) (by omega) (by omega)
      rw [okO_eq] at h5
      obtain ⟨n, n1, n2, n3⟩ := mIn_nat h5 (by decide) (by decide)
      exact ⟨n, by omega, n3⟩
    · rw [if_neg c2] at h
      exact Bool.noConfusion h
def rPl (g : gV) (w : eV) : Prop := ∃ s p : Nat, eSq w = nI s ∧ ePl w = nI p ∧ s < gCt g ∧ 1 ≤ p ∧ p + eRs w 0 ≤ gSz g s + 1
def rId (w : eV) : Prop := ∀ k, k < eIz w → ∃ c, c < 128 ∧ eId w k = nI c
theorem qRef_I {g : gV} {s p : Nat} {w : eV} (hp : 1 ≤ p) (h0 : 1 ≤ eRs w 0) (h24 : eRs w 0 ≤ 24) (hl : ∀ k, k < eRs w 0 → ∃ c, c < 128 ∧ eLe w (0 * 24 + k) = nI c) (h : qRef g s p w = true) : p + eRs w 0 ≤ gSz g s + 1 := by
  have h1 := (allB_iff _ _).mp h (eRs w 0 - 1) (by omega) (by omega)
  replace h1 := of_decide_eq_true h1
  rw [eLet_in (by omega) h24] at h1
  obtain ⟨c, c1, c2⟩ := hl (eRs w 0 - 1) (by omega)
  rw [c2] at h1
  by_cases e : p + eRs w 0 ≤ gSz g s + 1
  · exact e
  · rw [gnLet_out (by omega)] at h1
    exact absurd h1.symm (nI_m1 (v := c) (by omega))
theorem qE2_I {u : tS} {v : qV} {g : gV} {n s p : Nat} {y : eV} (hS : ∀ k, qSt v k ≤ 8001) (hw : enOk y) (hsq : eSq y = nI s) (hpl : ePl y = nI p) (hs : s < gCt g) (hs8 : s < 2 ^ 31) (hp : 1 ≤ p) (hp8 : p < 2 ^ 31) (h : (qE2 u v g n y).1 = true) : rI (qE2 u v g n y).2.2 ∧ 1 ≤ eRo (qE2 u v g n y).2.2 ∧ rPl g (qE2 u v g n y).2.2 ∧ quI (qE2 u v g n y).2.2 ∧ rId (qE2 u v g n y).2.2 := by
  obtain ⟨a2, h, e2⟩ := qThn_i h
  obtain ⟨a3, h, e3⟩ := qThn_i h
  obtain ⟨a4, h, e4⟩ := qThn_i h
  obtain ⟨a5, h, e5⟩ := qThn_i h
  have e6 := qE6_I h
  rw [show (qE2 u v g n y).2.2 = _ from e2.trans (e3.trans (e4.trans (e5.trans e6)))]
  have k3 := qId_k (u := u) (v := v) (w := y)
  have i3 := (qId_I a2).1
  have o3 := qId_ok (u := u) (v := v) hw
  generalize (qId u v y).2 = y3 at *
  have k4 := qRow_9 (u := u) (r := 0) (i := qSt v 3) (j := qSt v 4 - 1) (w := y3)
  have o4 := qRow_ok (u := u) (r := 0) (i := qSt v 3) (j := qSt v 4 - 1) o3
  have s4 := hS 4
  obtain ⟨_, r1, r2, L, eL, hL, _⟩ := qRow_I (show qSt v 4 - 1 - qSt v 3 < 2 ^ 31 by omega) a3
  have z0 : eRs (qRow u 0 (qSt v 3) (qSt v 4 - 1) y3).2 0 = qSt v 4 - 1 - qSt v 3 := by
    rw [eL]
    show va_up (eRs y3) 0 (qSt v 4 - 1 - qSt v 3) 0 = _
    exact va_up_self ..
  have z1 : eRo (qRow u 0 (qSt v 3) (qSt v 4 - 1) y3).2 = 1 := by
    rw [eL]
  have z2 : eLe (qRow u 0 (qSt v 3) (qSt v 4 - 1) y3).2 = L := by
    rw [eL]
  generalize (qRow u 0 (qSt v 3) (qSt v 4 - 1) y3).2 = y4 at *
  have q4 : eSq y4 = nI s := k4.2.2.2.2.2.1.trans (k3.1.trans hsq)
  have p4 : ePl y4 = nI p := k4.2.2.2.2.2.2.1.trans (k3.2.trans hpl)
  have I4 : rI y4 := by
    refine ⟨o4, fun o ho => ?_, fun a b h1 h2 h3 => absurd h3 (by omega)⟩
    have e : o = 0 := by omega
    subst e
    rw [z0, z2]
    exact ⟨by omega, hL⟩
  replace a4 : qRef g (eSq y4).toNatClampNeg (ePl y4).toNatClampNeg y4 = true := a4
  rw [q4, p4, nI_clamp (n := s) hs8, nI_clamp (n := p) hp8] at a4
  have c4 := qRef_I hp (I4.2.1 0 (by omega)).1 (o4.2.1 0) (I4.2.1 0 (by omega)).2 a4
  have k5 := qAlts_9 (u := u) (v := v) (w := y4)
  obtain ⟨I5, m5, r5⟩ := qAlts_I hS I4 (by omega) a5
  generalize (qAlts u v y4).2 = y5 at *
  refine ⟨I5, m5, ⟨s, p, k5.2.2.2.2.2.1.trans q4, k5.2.2.2.2.2.2.1.trans p4, hs, hp, ?_⟩, ?_, fun k hk => ?_⟩
  · show p + eRs y5 0 ≤ gSz g s + 1
    rw [r5]
    exact c4
  · show qQuaR u v = -1 ∨ ∃ q : Nat, q ≤ 999999 ∧ qQuaR u v = nI q
    exact tNum_r
  · replace hk : k < eIz y5 := hk
    show ∃ c, c < 128 ∧ eId y5 k = nI c
    rw [k5.2.1, k4.2.1] at hk
    rw [k5.1, k4.1]
    exact i3 k hk
theorem qE0_I {u : tS} {v : qV} {g : gV} {n : Nat} {y : eV} (hgo : gOk g) (hS : ∀ k, qSt v k ≤ 8001) (hw : enOk y) (h : (qE0 u v g n y).1 = true) : rI (qE0 u v g n y).2.2 ∧ 1 ≤ eRo (qE0 u v g n y).2.2 ∧ rPl g (qE0 u v g n y).2.2 ∧ quI (qE0 u v g n y).2.2 ∧ rId (qE0 u v g n y).2.2 := by
  obtain ⟨a0, h, e0⟩ := qThn_i h
  obtain ⟨a1, h, e1⟩ := qThn_i h
  rw [show (qE0 u v g n y).2.2 = _ from e0.trans e1]
  have hc8 := hgo.1.1
  have hc9 := hgo.2.1
  have hto := hgo.2.2.1
  obtain ⟨s, s1, s2⟩ := nmIn_r (of_decide_eq_true a0)
  have s9 : (qSeqR u v g).toNatClampNeg = s := by
    rw [show qSeqR u v g = nI s from s2, nI_clamp (n := s) (by omega)]
  have b1 : ¬ qPlcR u v g (qSeqR u v g).toNatClampNeg ≤ 0 := of_decide_eq_true a1
  have hgz := hgo.2.2.2 s (by omega)
  rcases tNum_r (u := u) (i := qSt v 1) (j := qSt v 2 - 1) (L := gnSz g (qSeqR u v g).toNatClampNeg) with q | ⟨p, p1, p2⟩
  · rw [show qPlcR u v g (qSeqR u v g).toNatClampNeg = -1 from q] at b1
    exact absurd (by decide) b1
  · rw [show qPlcR u v g (qSeqR u v g).toNatClampNeg = nI p from p2] at b1
    have hgs : gnSz g (qSeqR u v g).toNatClampNeg = gSz g s := by
      rw [s9]
      exact if_pos (by omega)
    rw [hgs] at p1
    refine qE2_I (s := s) (p := p) hS hw s2 p2 (by omega) (by omega) ?_ (by omega) h
    by_cases e : p = 0
    · rw [e] at b1
      exact absurd (by decide) b1
    · omega
/-- a record that was read -/
theorem qRcd_I {u : tS} {q : qV} {g : gV} {n k : Nat} {w : eV} (hgo : gOk g) (hS : ∀ k, qSt (qCut u q) k ≤ 8001) (hw : enOk w) (h : (qRcd u q g n k w).1 = true) : enOk (qRcd u q g n k w).2.2 ∧ eGo (qRcd u q g n k w).2.2 n g ∧ eLv (qRcd u q g n k w).2.2 := by
  unfold qRcd at h ⊢
  by_cases h1 : k = 60
  · rw [if_pos h1] at h
    exact Bool.noConfusion h
  · rw [if_neg h1] at h ⊢
    by_cases h2 : qCm (qCut u q) = (if n = 0 then 8 else 9 + n)
    · rw [if_pos h2] at h ⊢
      unfold qFin at h ⊢
      by_cases h3 : (qE0 u (qCut u q) g n w).1 = true
      · rw [if_pos h3] at h ⊢
        obtain ⟨b1, b2, b3, b4, b5⟩ := qE0_I hgo hS hw h3
        generalize (qE0 u (qCut u q) g n w).2.2 = y at *
        obtain ⟨c1, c2⟩ := qAll_I _ _ y b1.1 b2 (fun i hi => absurd hi (Nat.not_lt_zero _)) h
        have c3 := qAll_ok (u := u) (v := qCut u q) (n - 0) 0 y b1.1
        generalize (qAll u (qCut u q) (n - 0) 0 y).2.2 = z at *
        rw [show 0 + (n - 0) = n by omega] at c1
        obtain ⟨d1, d2, d3, d4, d5, d6, d7, d8⟩ := c2
        obtain ⟨s, p, t1, t2, t3, t4, t5⟩ := b3
        refine ⟨c3, ⟨⟨s, p, by rw [d6]; exact t1, by rw [d7]; exact t2, t3, t4, by rw [d4]; exact t5⟩, by rw [d3]; exact b2, fun r hr => ?_, by rw [d8]; exact b4, c1⟩, ⟨fun o k ho hk => ?_, fun k hk => ?_, fun a b x1 x2 x3 => ?_⟩⟩
        · rw [d4]
          exact (b1.2.1 r (by rw [← d3]; exact hr)).1
        · rw [d5]
          exact (b1.2.1 o (by rw [← d3]; exact ho)).2 k (by rw [← d4]; exact hk)
        · rw [d1]
          exact b5 k (by rw [← d2]; exact hk)
        · rw [d4, d5]
          exact b1.2.2 a b x1 x2 (by rw [← d3]; exact x3)
      · rw [if_neg h3] at h
        exact absurd h h3
    · rw [if_neg h2] at h
      exact Bool.noConfusion h
