/-! merge, pure: the class's pairing -/
theorem fndB_n {p : Nat → Bool} : ∀ (d i : Nat), i + d < 2 ^ 31 → fndB p d i = -1 → ∀ k, i ≤ k → k < i + d → p k = false := by
  intro d
  induction d with
  | zero => intro i _ _ k h1 h2; omega
  | succ d ih =>
    intro i hi h k h1 h2
    unfold fndB at h
    split at h
    · exact absurd h (nI_m1 (by omega))
    · rename_i hp
      by_cases e : k = i
      · rw [e]
        exact Bool.eq_false_iff.mpr hp
      · exact ih (i + 1) (by omega) h k (by omega) (by omega)
theorem fndB_f {p : Nat → Bool} : ∀ (d i : Nat), ¬ fndB p d i = -1 → ∃ q : Nat, i ≤ q ∧ q < i + d ∧ fndB p d i = nI q ∧ p q = true ∧ ∀ k, i ≤ k → k < q → p k = false := by
  intro d
  induction d with
  | zero => intro i h; exact absurd rfl h
  | succ d ih =>
    intro i h
    unfold fndB at h ⊢
    by_cases hp : p i = true
    · rw [if_pos hp]
      exact ⟨i, Nat.le_refl _, by omega, rfl, hp, fun k h1 h2 => by omega⟩
    · rw [if_neg hp] at h ⊢
      obtain ⟨q, h1, h2, h3, h4, h5⟩ := ih (i + 1) h
      refine ⟨q, by omega, by omega, h3, h4, fun k k1 k2 => ?_⟩
      by_cases e : k = i
      · rw [e]
        exact Bool.eq_false_iff.mpr hp
      · exact h5 k (by omega) k2
/-- only the marks have changed -/
def kPr (W U : Nat → eV) : Prop := ∀ y, U y = wPr (W y) (ePr (U y))
theorem kPr_u {W U : Nat → eV} {a : Nat} {x : Int32} (h : kPr W U) : kPr W (va_up U a (wPr (U a) x)) := by
  intro y
  by_cases e : y = a
  · rw [e, va_up_self, h a]
  · rw [va_up_ne _ _ e]
    exact h y
/-- alike -/
def lkR (a b : eV) : Bool := eWith a b && eAllR a b
theorem kPr_l {W U : Nat → eV} (h : kPr W U) (a b : Nat) : lkR (U a) (U b) = lkR (W a) (W b) := by
  rw [h a, h b]
  rfl
theorem prL1_f {e : Nat → Nat} {W : Nat → eV} : ∀ (d i : Nat) (U : Nat → eV), kPr W U → (∀ k, k < i → ePr (U (e k)) = -1) → kPr W (prL1 e d i U) ∧ ∀ k, k < i + d → ePr (prL1 e d i U (e k)) = -1 := by
  intro d
  induction d with
  | zero => intro i U h h1; exact ⟨h, h1⟩
  | succ d ih =>
    intro i U h h1
    rw [show i + (d + 1) = i + 1 + d by omega]
    refine ih (i + 1) _ (kPr_u h) (fun k hk => ?_)
    by_cases c : e k = e i
    · rw [c, va_up_self]
    · rw [va_up_ne _ _ c]
      refine h1 k ?_
      by_cases c2 : k = i
      · rw [c2] at c
        exact absurd rfl c
      · omega
theorem prL2_I {e u : Nat → Nat} {W : Nat → eV} {n m : Nat} (hn : n ≤ 60) (hm : m ≤ 60) (hd : sDj e u) : ∀ (d J : Nat) (U : Nat → eV) (c : Nat) (M : Nat → Nat → Prop), J + d = m → kPr W U → gS n J (fun i j => lkR (W (e i)) (W (u j)) = true) M (fun i => ePr (U (e i))) (fun j => ePr (U (u j))) → c = cntN (fun j => decide (¬ ePr (U (u j)) = -1)) J 0 0 → kPr W (prL2 e u n d J U c).1 ∧ (∃ M, gS n m (fun i j => lkR (W (e i)) (W (u j)) = true) M (fun i => ePr ((prL2 e u n d J U c).1 (e i))) (fun j => ePr ((prL2 e u n d J U c).1 (u j)))) ∧ (prL2 e u n d J U c).2 = cntN (fun j => decide (¬ ePr ((prL2 e u n d J U c).1 (u j)) = -1)) m 0 0 := by
  intro d
  induction d with
  | zero =>
    intro J U c M hJ hU hG hc
    have e0 : J = m := by omega
    subst e0
    exact ⟨hU, ⟨M, hG⟩, hc⟩
  | succ d ih =>
    intro J U c M hJ hU hG hc
    have eu : ∀ i, i < n → e i ≠ u J := fun i hi => (hd i J (by omega) (by omega)).2
    have uu : ∀ j, j < J → u j ≠ u J := fun j hj => ((hd j J (by omega) (by omega)).1 (by omega)).2
    have ee : ∀ i q, i < n → q < n → i ≠ q → e i ≠ e q := fun i q hi hq hne => ((hd i q (by omega) (by omega)).1 hne).1
    have fp : ∀ i, frP U e (u J) i = (decide (ePr (U (e i)) = -1) && lkR (W (e i)) (W (u J))) := fun i => by
      show (decide (ePr (U (e i)) = -1) && lkR (U (e i)) (U (u J))) = _
      rw [kPr_l hU]
    unfold prL2
    by_cases hc1 : frL U e n (u J) = -1
    · rw [if_pos hc1, hc1]
      refine ih (J + 1) _ c M (by omega) (kPr_u hU) (gS_c (gS_f hG (fun i hi hL z => ?_)) (fun i hi => ?_) (fun j hj => ?_)) (hc.trans ?_)
      · have h1 := fndB_n _ _ (by omega) hc1 i (by omega) (by omega)
        rw [fp i, decide_eq_true z, Bool.true_and] at h1
        rw [h1] at hL
        exact Bool.noConfusion hL
      · show ePr (va_up U (u J) _ (e i)) = _
        rw [va_up_ne _ _ (eu i hi)]
      · show ePr (va_up U (u J) _ (u j)) = _
        by_cases ej : j = J
        · rw [ej, va_up_self, updS]
        · rw [va_up_ne _ _ (uu j (by omega)), updN ej]
      · rw [cnt_s, if_neg (by rw [va_up_self]; exact fun z => of_decide_eq_true z rfl)]
        exact cnt_c (fun k hk => by rw [va_up_ne _ _ (uu k hk)])
    · rw [if_neg hc1]
      obtain ⟨q, q1, q2, q3, q4, q5⟩ := fndB_f _ _ hc1
      rw [show frL U e n (u J) = nI q from q3, nI_clamp (by omega), va_up_ne _ _ (eu q (by omega))]
      rw [fp q, Bool.and_eq_true, decide_eq_true_eq] at q4
      have hne : e q ≠ u J := eu q (by omega)
      have qe : ∀ j, j < J + 1 → u j ≠ e q := fun j hj z => (hd q j (by omega) (by omega)).2 z.symm
      have h9 : kPr W (va_up (va_up U (u J) (wPr (U (u J)) (nI q))) (e q) (wPr (U (e q)) (nI J))) := by
        have h8 := kPr_u (a := e q) (x := nI J) (kPr_u (a := u J) (x := nI q) hU)
        rw [va_up_ne _ _ hne] at h8
        exact h8
      refine ih (J + 1) _ (c + 1) _ (by omega) h9 (gS_c (gS_t hG (by omega) (show q < n by omega) q4.2 q4.1 (fun i hi hL z => ?_)) (fun i hi => ?_) (fun j hj => ?_)) (hc ▸ ?_)
      · have h1 := q5 i (by omega) hi
        rw [fp i, decide_eq_true z, Bool.true_and] at h1
        rw [h1] at hL
        exact Bool.noConfusion hL
      · show ePr (va_up (va_up U (u J) _) (e q) _ (e i)) = _
        by_cases ei : i = q
        · rw [ei, va_up_self, updS]
        · rw [va_up_ne _ _ (ee i q hi (by omega) ei), va_up_ne _ _ (eu i hi), updN ei]
      · show ePr (va_up (va_up U (u J) _) (e q) _ (u j)) = _
        rw [va_up_ne _ _ (qe j hj)]
        by_cases ej : j = J
        · rw [ej, va_up_self, updS]
        · rw [va_up_ne _ _ (uu j (by omega)), updN ej]
      · rw [cnt_s, if_pos (by rw [va_up_ne _ _ (qe J (by omega)), va_up_self]; exact decide_eq_true (nI_m1 (by omega)))]
        exact congrArg (· + 1) (cnt_c (fun k hk => by rw [va_up_ne _ _ (qe k (by omega)), va_up_ne _ _ (uu k hk)]))
theorem prW_I {W : Nat → eV} {v w : sV} (hv : v.2.2 ≤ 60) (hw : w.2.2 ≤ 60) (hd : sDj v.1 w.1) : kPr W (prW W v w).1 ∧ (∃ M, gS v.2.2 w.2.2 (fun i j => lkR (W (v.1 i)) (W (w.1 j)) = true) M (fun i => ePr ((prW W v w).1 (v.1 i))) (fun j => ePr ((prW W v w).1 (w.1 j)))) ∧ (prW W v w).2 = cntN (fun j => decide (¬ ePr ((prW W v w).1 (w.1 j)) = -1)) w.2.2 0 0 := by
  obtain ⟨h1, h2⟩ := prL1_f (e := v.1) (W := W) (v.2.2 - 0) 0 W (fun y => rfl) (fun k hk => absurd hk (Nat.not_lt_zero _))
  exact prL2_I hv hw hd (w.2.2 - 0) 0 _ 0 _ (by omega) h1 (gS_0 (fun i hi => h2 i (by omega))) rfl
/-! samples: the same, or none -/
def eBs (v w : eV) : Prop := v = wPh (wCn (wCa w (eCa v)) (eCn v)) (ePh v)
def eSmp (v : eV) (s : Nat) (w : eV) (r : Nat) : Prop := eCn v s = eCn w r ∧ ePh v s = ePh w r ∧ ∀ c, c < 2 → eCa v (s * 2 + c) = eCa w (r * 2 + c)
def eNo (v : eV) (s : Nat) : Prop := eCn v s = 1 ∧ ePh v s = false ∧ eCa v (s * 2) = -1
theorem eBs_t {u v w : eV} (h : eBs u v) (h2 : eBs v w) : eBs u w := by
  unfold eBs at *
  rw [h2] at h
  exact h
theorem eSmp_r {v : eV} {s : Nat} : eSmp v s v s := ⟨rfl, rfl, fun _ _ => rfl⟩
theorem eSmp_t {u v w : eV} {a b c : Nat} (h : eSmp u a v b) (h2 : eSmp v b w c) : eSmp u a w c := ⟨h.1.trans h2.1, h.2.1.trans h2.2.1, fun k hk => (h.2.2 k hk).trans (h2.2.2 k hk)⟩
theorem eSmp_n {u v : eV} {a b : Nat} (h : eSmp u a v b) (h2 : eNo v b) : eNo u a := ⟨h.1.trans h2.1, h.2.1.trans h2.2.1, (h.2.2 0 (by omega)).trans h2.2.2⟩
theorem eNoC_f {v : eV} {i : Nat} : eBs (eNoC v i) v ∧ eNo (eNoC v i) i ∧ ∀ s, s ≠ i → eSmp (eNoC v i) s v s := by
  refine ⟨rfl, ⟨va_up_self _ _ _, va_up_self _ _ _, updS⟩, fun s hs => ⟨va_up_ne _ _ hs, va_up_ne _ _ hs, fun c hc => ?_⟩⟩
  exact updN (by omega)
theorem eNoCs_f : ∀ (d i : Nat) (v : eV), eBs (eNoCs d i v) v ∧ (∀ s, i ≤ s → s < i + d → eNo (eNoCs d i v) s) ∧ ∀ s, s < i ∨ i + d ≤ s → eSmp (eNoCs d i v) s v s := by
  intro d
  induction d with
  | zero => intro i v; exact ⟨rfl, fun s h1 h2 => by omega, fun s _ => eSmp_r⟩
  | succ d ih =>
    intro i v
    obtain ⟨a1, a2, a3⟩ := ih (i + 1) (eNoC v i)
    obtain ⟨b1, b2, b3⟩ := eNoC_f (v := v) (i := i)
    refine ⟨eBs_t a1 b1, fun s h1 h2 => ?_, fun s hs => ?_⟩
    · by_cases e : s = i
      · rw [e]
        exact eSmp_n (a3 i (by omega)) b2
      · exact a2 s (by omega) (by omega)
    · exact eSmp_t (a3 s (by omega)) (b3 s (by omega))
theorem eCopyC_f {v w : eV} {i j : Nat} : eBs (eCopyC v i w j) v ∧ eSmp (eCopyC v i w j) i w j ∧ ∀ s, s ≠ i → eSmp (eCopyC v i w j) s v s := by
  refine ⟨rfl, ⟨va_up_self _ _ _, va_up_self _ _ _, fun c hc => ?_⟩, fun s hs => ⟨va_up_ne _ _ hs, va_up_ne _ _ hs, fun c hc => ?_⟩⟩
  · show upd (upd (eCa v) (i * 2 + 0) _) (i * 2 + (0 + 1)) _ (i * 2 + c) = _
    rcases (show c = 0 ∨ c = 1 by omega) with e | e
    · rw [e, updN (by omega), updS]
    · rw [e, updS]
  · show upd (upd (eCa v) (i * 2 + 0) _) (i * 2 + (0 + 1)) _ (s * 2 + c) = _
    rw [updN (by omega), updN (by omega)]
theorem eMvC_f {w : eV} {s : Nat} : ∀ (c : Nat) (v : eV), eBs (eMvC w s c v) v ∧ (∀ r, r < c → eSmp (eMvC w s c v) (s + r) w r) ∧ ∀ r, r < s ∨ s + c ≤ r → eSmp (eMvC w s c v) r v r := by
  intro c
  induction c with
  | zero => intro v; exact ⟨rfl, fun r hr => by omega, fun r _ => eSmp_r⟩
  | succ c ih =>
    intro v
    obtain ⟨a1, a2, a3⟩ := ih (eCopyC v (c + s) w c)
    obtain ⟨b1, b2, b3⟩ := eCopyC_f (v := v) (w := w) (i := c + s) (j := c)
    refine ⟨eBs_t a1 b1, fun r hr => ?_, fun r hr => eSmp_t (a3 r (by omega)) (b3 r (by omega))⟩
    by_cases e : r = c
    · rw [e, show s + c = c + s by omega]
      exact eSmp_t (a3 (c + s) (by omega)) b2
    · exact a2 r (by omega)
theorem eMvS_f {s : Nat} : ∀ (c : Nat) (v : eV), eBs (eMvS s c v) v ∧ (∀ r, r < c → eSmp (eMvS s c v) (s + r) v r) ∧ ∀ r, r < s ∨ s + c ≤ r → eSmp (eMvS s c v) r v r := by
  intro c
  induction c with
  | zero => intro v; exact ⟨rfl, fun r hr => by omega, fun r _ => eSmp_r⟩
  | succ c ih =>
    intro v
    obtain ⟨a1, a2, a3⟩ := ih (eCopyC v (c + s) v c)
    obtain ⟨b1, b2, b3⟩ := eCopyC_f (v := v) (w := v) (i := c + s) (j := c)
    refine ⟨eBs_t a1 b1, fun r hr => ?_, fun r hr => eSmp_t (a3 r (by omega)) (b3 r (by omega))⟩
    by_cases e : r = c
    · rw [e, show s + c = c + s by omega]
      exact eSmp_t (a3 (c + s) (by omega)) b2
    · exact eSmp_t (a2 r (by omega)) (b3 r (by omega))
/-! what the class makes of a record of the one table, and of the other -/
def mgA (k m : Nat) (w : eV) : eV := eNoCs m k w
def mgB (k m : Nat) (w u : eV) : eV := eMvC u k m (eNoCs m k w)
def mgC (k m : Nat) (u : eV) : eV := eNoCs k 0 (eMvS k m u)
theorem mgA_f {k m : Nat} {w : eV} : eBs (mgA k m w) w ∧ (∀ s, s < k → eSmp (mgA k m w) s w s) ∧ ∀ s, s < m → eNo (mgA k m w) (k + s) := by
  obtain ⟨a1, a2, a3⟩ := eNoCs_f m k w
  exact ⟨a1, fun s hs => a3 s (Or.inl hs), fun s hs => a2 (k + s) (by omega) (by omega)⟩
theorem mgB_f {k m : Nat} {w u : eV} : eBs (mgB k m w u) w ∧ (∀ s, s < k → eSmp (mgB k m w u) s w s) ∧ ∀ s, s < m → eSmp (mgB k m w u) (k + s) u s := by
  obtain ⟨a1, a2, a3⟩ := eNoCs_f m k w
  obtain ⟨b1, b2, b3⟩ := eMvC_f (w := u) (s := k) m (eNoCs m k w)
  exact ⟨eBs_t b1 a1, fun s hs => eSmp_t (b3 s (Or.inl hs)) (a3 s (Or.inl hs)), fun s hs => b2 s hs⟩
theorem mgC_f {k m : Nat} {u : eV} : eBs (mgC k m u) u ∧ (∀ s, s < k → eNo (mgC k m u) s) ∧ ∀ s, s < m → eSmp (mgC k m u) (k + s) u s := by
  obtain ⟨a1, a2, a3⟩ := eMvS_f (s := k) m u
  obtain ⟨b1, b2, b3⟩ := eNoCs_f k 0 (eMvS k m u)
  exact ⟨eBs_t b1 a1, fun s hs => b2 s (by omega) (by omega), fun s hs => eSmp_t (b3 (k + s) (Or.inr (by omega))) (a2 s hs)⟩
