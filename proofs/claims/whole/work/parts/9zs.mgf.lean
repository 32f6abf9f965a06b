/-! merge, pure: the class's side, and how the two meet -/
theorem eNoCs_p : ∀ (d i : Nat) (v : eV) (p : Int32), eNoCs d i (wPr v p) = wPr (eNoCs d i v) p := by
  intro d
  induction d with
  | zero => intro i v p; rfl
  | succ d ih => intro i v p; exact ih (i + 1) (eNoC v i) p
theorem eMvC_p {w : eV} {s : Nat} {q : Int32} : ∀ (c : Nat) (v : eV) (p : Int32), eMvC (wPr w q) s c (wPr v p) = wPr (eMvC w s c v) p := by
  intro c
  induction c with
  | zero => intro v p; rfl
  | succ c ih => intro v p; exact ih (eCopyC v (c + s) w c) p
theorem eMvS_p {s : Nat} : ∀ (c : Nat) (v : eV) (p : Int32), eMvS s c (wPr v p) = wPr (eMvS s c v) p := by
  intro c
  induction c with
  | zero => intro v p; rfl
  | succ c ih => intro v p; exact ih (eCopyC v (c + s) v c) p
theorem mgA_p {k m : Nat} {w : eV} {p : Int32} : mgA k m (wPr w p) = wPr (mgA k m w) p := eNoCs_p _ _ _ _
theorem mgB_p {k m : Nat} {w u : eV} {p q : Int32} : mgB k m (wPr w p) (wPr u q) = wPr (mgB k m w u) p := by
  unfold mgB
  rw [eNoCs_p]
  exact eMvC_p _ _ _
theorem mgC_p {k m : Nat} {w : eV} {p : Int32} : mgC k m (wPr w p) = wPr (mgC k m w) p := by
  unfold mgC
  rw [eMvS_p]
  exact eNoCs_p _ _ _ _
theorem cnt_u {p : Nat → Bool} {c : Nat} : ∀ {m : Nat}, c < cntN p m 0 0 → ∃ j, j < m ∧ p j = true ∧ cntN p j 0 0 = c := by
  intro m
  induction m with
  | zero => intro h; exact absurd h (Nat.not_lt_zero _)
  | succ m ih =>
    intro h
    by_cases h1 : c < cntN p m 0 0
    · obtain ⟨j, j1, j2⟩ := ih h1
      exact ⟨j, by omega, j2⟩
    · rw [cnt_s] at h
      by_cases h2 : p m = true
      · rw [if_pos h2] at h
        exact ⟨m, by omega, h2, by omega⟩
      · rw [if_neg h2] at h
        omega
theorem rk_sur (w : Nat → eV) (n : Nat) : ∀ p, p < n → ∃ i, i < n ∧ rk w n i = p := (pioI_n (W := w) (e0 := fun k => k) (n := n) (fun a b _ _ e => e)).2.2.1
theorem lk_w {a b : eV} (h : lkR a b = true) : eSq a = eSq b ∧ ePl a = ePl b ∧ eRo a = eRo b := by
  unfold lkR at h
  rw [Bool.and_eq_true] at h
  have h1 := h.1
  have h2 := h.2
  unfold eWith at h1
  unfold eAllR at h2
  rw [Bool.and_eq_true] at h1 h2
  exact ⟨of_decide_eq_true h1.1, of_decide_eq_true h1.2, of_decide_eq_true h2.1⟩
/-- likes of a third keep their order -/
theorem rk_lk {w : Nat → eV} {n i k : Nat} (hk : k < n) (h1 : eSq (w i) = eSq (w k)) (h2 : ePl (w i) = ePl (w k)) (h : k < i) : rk w n k < rk w n i := by
  refine rk_ord hk ?_
  have e : eBeh (w k) (w i) = false := by
    rw [eBeh_n, h1, h2]
    omega
  unfold rkP
  rw [e, decide_eq_true h]
  simp
theorem mg_c1 {D : Nat} {x : dV} (hI : dOk D x) : kPr (dW x) (prW (dW x) (dZ x 0) (dZ x 1)).1 ∧ (∀ j, j < (dZ x 1).2.2 → ePr ((prW (dW x) (dZ x 0) (dZ x 1)).1 ((dZ x 1).1 j)) = -1 ∨ ∃ i, i < (dZ x 0).2.2 ∧ ePr ((prW (dW x) (dZ x 0) (dZ x 1)).1 ((dZ x 1).1 j)) = nI i ∧ ePr ((prW (dW x) (dZ x 0) (dZ x 1)).1 ((dZ x 0).1 i)) = nI j ∧ lkR (dW x ((dZ x 0).1 i)) (dW x ((dZ x 1).1 j)) = true) ∧ (prW (dW x) (dZ x 0) (dZ x 1)).2 = cntN (fun j => decide (¬ ePr ((prW (dW x) (dZ x 0) (dZ x 1)).1 ((dZ x 1).1 j)) = -1)) (dZ x 1).2.2 0 0 ∧ (prW (dW x) (dZ x 0) (dZ x 1)).2 + cntN (fun j => decide (ePr ((prW (dW x) (dZ x 0) (dZ x 1)).1 ((dZ x 1).1 j)) = -1)) (dZ x 1).2.2 0 0 = (dZ x 1).2.2 := by
  have hv8 := (hI.2.2.1 0 (by omega)).2
  have hw8 := (hI.2.2.1 1 (by omega)).2
  obtain ⟨h1, ⟨P, g1, g2, g3⟩, h3⟩ := prW_I (W := dW x) hv8 hw8 (dre_j hI (i := 0) (j := 1) (by omega) (by omega) (by omega))
  refine ⟨h1, fun j hj => ?_, h3, ?_⟩
  · rcases g3 j hj with ⟨q, -⟩ | ⟨i, i1, i2, i3⟩
    · exact Or.inl q
    · refine Or.inr ⟨i, i1, i2, ?_, (g1.1 i j i3).2.2⟩
      rcases g2 i i1 with ⟨-, q⟩ | ⟨j', q1, q2, q3⟩
      · exact absurd i3 (q j)
      · exact q2.trans (congrArg nI (g1.2.1 i j' j q3 i3))
  · rw [h3]
    have h9 := cnt_n (p := (fun j => decide (ePr ((prW (dW x) (dZ x 0) (dZ x 1)).1 ((dZ x 1).1 j)) = -1))) (n := (dZ x 1).2.2)
    have h8 : cntN (fun k => ! decide (ePr ((prW (dW x) (dZ x 0) (dZ x 1)).1 ((dZ x 1).1 k)) = -1)) (dZ x 1).2.2 0 0 = cntN (fun j => decide (¬ ePr ((prW (dW x) (dZ x 0) (dZ x 1)).1 ((dZ x 1).1 j)) = -1)) (dZ x 1).2.2 0 0 := cnt_c (fun k _ => by
      show (! decide (ePr ((prW (dW x) (dZ x 0) (dZ x 1)).1 ((dZ x 1).1 k)) = -1)) = decide (¬ ePr ((prW (dW x) (dZ x 0) (dZ x 1)).1 ((dZ x 1).1 k)) = -1)
      rw [decide_not])
    omega
theorem mg_c2 {D : Nat} {x : dV} (hI : dOk D x) (h3 : (dZ x 0).2.1.1 + (dZ x 1).2.1.1 ≤ 3) (hz : (dZ x 0).2.2 + cntN (fun j => decide (ePr ((prW (dW x) (dZ x 0) (dZ x 1)).1 ((dZ x 1).1 j)) = -1)) (dZ x 1).2.2 0 0 ≤ 60) : tkJ (prW (dW x) (dZ x 0) (dZ x 1)).1 (dZ x 0).1 (dZ x 1).1 (dZ x 0).2.2 (dZ x 0).2.1.1 (dZ x 1).2.1.1 (dZ x 1).2.2 (mgK x) := by
  have hv8 := (hI.2.2.1 0 (by omega)).2
  have hw8 := (hI.2.2.1 1 (by omega)).2
  obtain ⟨-, c2, -, -⟩ := mg_c1 hI
  refine tkW_J hv8 hw8 (dre_j hI (by omega) (by omega) (by omega)) (nmAll_f (hI.2.2.1 1 (by omega)).1.2.2 h3).1 (fun j hj => ?_) (fun i j l hi hj hl e1 e2 => ?_) hz
  · rcases c2 j hj with h | ⟨i, i1, i2, -⟩
    · exact Or.inl h
    · exact Or.inr ⟨i, i1, i2⟩
  · have key : ∀ j, j < (dZ x 1).2.2 → ePr ((prW (dW x) (dZ x 0) (dZ x 1)).1 ((dZ x 1).1 j)) = nI i → ePr ((prW (dW x) (dZ x 0) (dZ x 1)).1 ((dZ x 0).1 i)) = nI j := fun j hj e => by
      rcases c2 j hj with h | ⟨i', i1, i2, i3, -⟩
      · rw [h] at e
        exact absurd e.symm (nI_m1 (by omega))
      · have := nI_inj (e.symm.trans i2) (by omega) (by omega)
        subst this
        exact i3
    exact nI_inj ((key j hj e1).symm.trans (key l hl e2)) (by omega) (by omega)
theorem mg_tk {D : Nat} {x : dV} (hI : dOk D x) : tkI (dX D) (mgK x) := tkW_I (hI.2.2.1 0 (by omega)) (hI.2.2.1 1 (by omega)) (prW_ok (hI.2.2.1 0 (by omega)) (hI.2.2.1 1 (by omega)) hI.2.2.2.1 (dre_X hI (by omega)) (dre_X hI (by omega))) (dre_X hI (by omega)) (dre_X hI (by omega)) (dre_j hI (by omega) (by omega) (by omega))
theorem mg_pi {D : Nat} {x : dV} (hI : dOk D x) : pioI (mgK x).1 (mgK x).2.1 (mgK x).2.2.2 (mgP x) := by
  have hk := mg_tk hI
  have h60 := hk.2.2.2.2
  exact pioI_n (fun a b a1 b1 e => Classical.byContradiction (fun q => ((hk.2.2.2.1 a b (by omega) (by omega)).1 q).1 e))
/-- the records of the merged table -/
theorem mg_rec {D : Nat} {x : dV} (hI : dOk D x) (h3 : (dZ x 0).2.1.1 + (dZ x 1).2.1.1 ≤ 3) (hz : (dZ x 0).2.2 + cntN (fun j => decide (ePr ((prW (dW x) (dZ x 0) (dZ x 1)).1 ((dZ x 1).1 j)) = -1)) (dZ x 1).2.2 0 0 ≤ 60) {k : Nat} (hk : k < (dZ x 0).2.2 + cntN (fun j => decide (ePr ((prW (dW x) (dZ x 0) (dZ x 1)).1 ((dZ x 1).1 j)) = -1)) (dZ x 1).2.2 0 0) : (∃ i, i < (dZ x 0).2.2 ∧ (mgP x).2 k = (dZ x 0).1 i ∧ rk (fun k => (mgK x).1 ((mgK x).2.1 k)) ((dZ x 0).2.2 + cntN (fun j => decide (ePr ((prW (dW x) (dZ x 0) (dZ x 1)).1 ((dZ x 1).1 j)) = -1)) (dZ x 1).2.2 0 0) i = k ∧ ((∃ j, j < (dZ x 1).2.2 ∧ ePr ((prW (dW x) (dZ x 0) (dZ x 1)).1 ((dZ x 1).1 j)) = nI i ∧ (mgK x).1 ((dZ x 0).1 i) = mgB (dZ x 0).2.1.1 (dZ x 1).2.1.1 ((prW (dW x) (dZ x 0) (dZ x 1)).1 ((dZ x 0).1 i)) ((prW (dW x) (dZ x 0) (dZ x 1)).1 ((dZ x 1).1 j))) ∨ ((∀ j, j < (dZ x 1).2.2 → ¬ ePr ((prW (dW x) (dZ x 0) (dZ x 1)).1 ((dZ x 1).1 j)) = nI i) ∧ (mgK x).1 ((dZ x 0).1 i) = mgA (dZ x 0).2.1.1 (dZ x 1).2.1.1 ((prW (dW x) (dZ x 0) (dZ x 1)).1 ((dZ x 0).1 i))))) ∨ ∃ j, j < (dZ x 1).2.2 ∧ ePr ((prW (dW x) (dZ x 0) (dZ x 1)).1 ((dZ x 1).1 j)) = -1 ∧ (mgP x).2 k = (dZ x 1).1 j ∧ rk (fun k => (mgK x).1 ((mgK x).2.1 k)) ((dZ x 0).2.2 + cntN (fun j => decide (ePr ((prW (dW x) (dZ x 0) (dZ x 1)).1 ((dZ x 1).1 j)) = -1)) (dZ x 1).2.2 0 0) ((dZ x 0).2.2 + cntN (fun j => decide (ePr ((prW (dW x) (dZ x 0) (dZ x 1)).1 ((dZ x 1).1 j)) = -1)) j 0 0) = k ∧ (mgK x).1 ((dZ x 1).1 j) = mgC (dZ x 0).2.1.1 (dZ x 1).2.1.1 ((prW (dW x) (dZ x 0) (dZ x 1)).1 ((dZ x 1).1 j)) := by
  obtain ⟨a1, a2, a3, a4, a5, a6, a7, a8, a9⟩ := mg_c2 hI h3 hz
  have hpi := mg_pi hI
  rw [a1] at hpi
  obtain ⟨j0, j1, j2⟩ := hpi.2.2.1 k hk
  have e0 : (mgP x).2 k = (mgK x).2.1 j0 := by rw [← j2]; exact hpi.2.1 j0 j1
  by_cases c : j0 < (dZ x 0).2.2
  · refine Or.inl ⟨j0, c, e0.trans (a2 j0 c), j2, ?_⟩
    rcases a5 j0 c with ⟨j, q1, q2, q3⟩ | q
    · exact Or.inl ⟨j, q1, q2, q3⟩
    · exact Or.inr q
  · obtain ⟨j, q1, q2, q3⟩ := cnt_u (p := (fun j => decide (ePr ((prW (dW x) (dZ x 0) (dZ x 1)).1 ((dZ x 1).1 j)) = -1))) (c := j0 - (dZ x 0).2.2) (m := (dZ x 1).2.2) (by omega)
    have q4 : ePr ((prW (dW x) (dZ x 0) (dZ x 1)).1 ((dZ x 1).1 j)) = -1 := of_decide_eq_true q2
    have e1 : j0 = (dZ x 0).2.2 + cntN (fun j => decide (ePr ((prW (dW x) (dZ x 0) (dZ x 1)).1 ((dZ x 1).1 j)) = -1)) j 0 0 := by omega
    refine Or.inr ⟨j, q1, q4, ?_, ?_, a6 j q1 q4⟩
    · rw [e0, e1]
      exact a3 j q1 q4
    · rw [← e1]
      exact j2
theorem mg_wh {D : Nat} {x : dV} (hI : dOk D x) (h3 : (dZ x 0).2.1.1 + (dZ x 1).2.1.1 ≤ 3) (hz : (dZ x 0).2.2 + cntN (fun j => decide (ePr ((prW (dW x) (dZ x 0) (dZ x 1)).1 ((dZ x 1).1 j)) = -1)) (dZ x 1).2.2 0 0 ≤ 60) : (∀ i, i < (dZ x 0).2.2 → eSq ((fun k => (mgK x).1 ((mgK x).2.1 k)) i) = eSq ((fun i => dW x ((dZ x 0).1 i)) i) ∧ ePl ((fun k => (mgK x).1 ((mgK x).2.1 k)) i) = ePl ((fun i => dW x ((dZ x 0).1 i)) i)) ∧ ∀ j, j < (dZ x 1).2.2 → (fun j => decide (ePr ((prW (dW x) (dZ x 0) (dZ x 1)).1 ((dZ x 1).1 j)) = -1)) j = true → eSq ((fun k => (mgK x).1 ((mgK x).2.1 k)) ((dZ x 0).2.2 + cntN (fun j => decide (ePr ((prW (dW x) (dZ x 0) (dZ x 1)).1 ((dZ x 1).1 j)) = -1)) j 0 0)) = eSq ((fun j => dW x ((dZ x 1).1 j)) j) ∧ ePl ((fun k => (mgK x).1 ((mgK x).2.1 k)) ((dZ x 0).2.2 + cntN (fun j => decide (ePr ((prW (dW x) (dZ x 0) (dZ x 1)).1 ((dZ x 1).1 j)) = -1)) j 0 0)) = ePl ((fun j => dW x ((dZ x 1).1 j)) j) := by
  obtain ⟨a1, a2, a3, a4, a5, a6, a7, a8, a9⟩ := mg_c2 hI h3 hz
  have hp := (mg_c1 hI).1
  refine ⟨fun i hi => ?_, fun j hj hq => ?_⟩
  · show eSq ((mgK x).1 ((mgK x).2.1 i)) = eSq (dW x ((dZ x 0).1 i)) ∧ ePl ((mgK x).1 ((mgK x).2.1 i)) = ePl (dW x ((dZ x 0).1 i))
    rw [a2 i hi]
    rcases a5 i hi with ⟨j, q1, q2, q3⟩ | ⟨q1, q3⟩
    · rw [q3, mgB_f.1, hp ((dZ x 0).1 i)]
      exact ⟨rfl, rfl⟩
    · rw [q3, mgA_f.1, hp ((dZ x 0).1 i)]
      exact ⟨rfl, rfl⟩
  · have q4 : ePr ((prW (dW x) (dZ x 0) (dZ x 1)).1 ((dZ x 1).1 j)) = -1 := of_decide_eq_true hq
    show eSq ((mgK x).1 ((mgK x).2.1 ((dZ x 0).2.2 + cntN (fun j => decide (ePr ((prW (dW x) (dZ x 0) (dZ x 1)).1 ((dZ x 1).1 j)) = -1)) j 0 0))) = eSq (dW x ((dZ x 1).1 j)) ∧ ePl ((mgK x).1 ((mgK x).2.1 ((dZ x 0).2.2 + cntN (fun j => decide (ePr ((prW (dW x) (dZ x 0) (dZ x 1)).1 ((dZ x 1).1 j)) = -1)) j 0 0))) = ePl (dW x ((dZ x 1).1 j))
    rw [a3 j hj q4, a6 j hj q4, mgC_f.1, hp ((dZ x 1).1 j)]
    exact ⟨rfl, rfl⟩
/-- the partners of the two sides -/
theorem mg_pa {D : Nat} {x : dV} (hI : dOk D x) {u v : Nat → eV} {A B : Nat → Int32} {P' : Nat → Nat → Prop} (hu : ∀ i, i < (dZ x 0).2.2 → u (rk (fun i => dW x ((dZ x 0).1 i)) (dZ x 0).2.2 i) = dW x ((dZ x 0).1 i)) (hv : ∀ j, j < (dZ x 1).2.2 → v (rk (fun j => dW x ((dZ x 1).1 j)) (dZ x 1).2.2 j) = dW x ((dZ x 1).1 j)) (hG : gS (dZ x 0).2.2 (dZ x 1).2.2 (fun a b => lkR (u a) (v b) = true) P' A B) : (∀ i, i < (dZ x 0).2.2 → (ePr ((prW (dW x) (dZ x 0) (dZ x 1)).1 ((dZ x 0).1 i)) = -1 ∧ A (rk (fun i => dW x ((dZ x 0).1 i)) (dZ x 0).2.2 i) = -1) ∨ ∃ j, j < (dZ x 1).2.2 ∧ ePr ((prW (dW x) (dZ x 0) (dZ x 1)).1 ((dZ x 0).1 i)) = nI j ∧ A (rk (fun i => dW x ((dZ x 0).1 i)) (dZ x 0).2.2 i) = nI (rk (fun j => dW x ((dZ x 1).1 j)) (dZ x 1).2.2 j) ∧ ePr ((prW (dW x) (dZ x 0) (dZ x 1)).1 ((dZ x 1).1 j)) = nI i) ∧ ∀ j, j < (dZ x 1).2.2 → (ePr ((prW (dW x) (dZ x 0) (dZ x 1)).1 ((dZ x 1).1 j)) = -1 ∧ B (rk (fun j => dW x ((dZ x 1).1 j)) (dZ x 1).2.2 j) = -1) ∨ ∃ i, i < (dZ x 0).2.2 ∧ ePr ((prW (dW x) (dZ x 0) (dZ x 1)).1 ((dZ x 1).1 j)) = nI i ∧ B (rk (fun j => dW x ((dZ x 1).1 j)) (dZ x 1).2.2 j) = nI (rk (fun i => dW x ((dZ x 0).1 i)) (dZ x 0).2.2 i) ∧ ePr ((prW (dW x) (dZ x 0) (dZ x 1)).1 ((dZ x 0).1 i)) = nI j := by
  have hv8 := (hI.2.2.1 0 (by omega)).2
  have hw8 := (hI.2.2.1 1 (by omega)).2
  obtain ⟨h1, ⟨P, hP⟩, h3⟩ := prW_I (W := dW x) hv8 hw8 (dre_j hI (i := 0) (j := 1) (by omega) (by omega) (by omega))
  refine gS_u hP hG (fun i hi => rk_lt hi) (fun j hj => rk_lt hj) (fun i k hi hk e => rk_inj hi hk e) (fun i k hi hk e => rk_inj hi hk e) (rk_sur _ _) (rk_sur _ _) (fun i j hi hj => ?_) (fun i k j hi hk hj e1 e2 hlt => ?_) (fun i j k hi hj hk e1 e2 hlt => ?_)
  · rw [hu i hi, hv j hj]
  · obtain ⟨p1, p2, -⟩ := lk_w e1
    obtain ⟨q1, q2, -⟩ := lk_w e2
    exact rk_lk (w := (fun i => dW x ((dZ x 0).1 i))) hk (p1.trans q1.symm) (p2.trans q2.symm) hlt
  · obtain ⟨p1, p2, -⟩ := lk_w e1
    obtain ⟨q1, q2, -⟩ := lk_w e2
    exact rk_lk (w := (fun j => dW x ((dZ x 1).1 j))) hk (p1.symm.trans q1) (p2.symm.trans q2) hlt
theorem mg_cn {D : Nat} {x : dV} (hI : dOk D x) {u v : Nat → eV} {A B : Nat → Int32} {P' : Nat → Nat → Prop} (hu : ∀ i, i < (dZ x 0).2.2 → u (rk (fun i => dW x ((dZ x 0).1 i)) (dZ x 0).2.2 i) = dW x ((dZ x 0).1 i)) (hv : ∀ j, j < (dZ x 1).2.2 → v (rk (fun j => dW x ((dZ x 1).1 j)) (dZ x 1).2.2 j) = dW x ((dZ x 1).1 j)) (hG : gS (dZ x 0).2.2 (dZ x 1).2.2 (fun a b => lkR (u a) (v b) = true) P' A B) : cntN (fun b => decide (B b = -1)) (dZ x 1).2.2 0 0 = cntN (fun j => decide (ePr ((prW (dW x) (dZ x 0) (dZ x 1)).1 ((dZ x 1).1 j)) = -1)) (dZ x 1).2.2 0 0 ∧ cntN (fun b => decide (¬ B b = -1)) (dZ x 1).2.2 0 0 = (prW (dW x) (dZ x 0) (dZ x 1)).2 := by
  have hw8 := (hI.2.2.1 1 (by omega)).2
  have hv8 := (hI.2.2.1 0 (by omega)).2
  obtain ⟨-, q⟩ := mg_pa hI hu hv hG
  have key : ∀ j, j < (dZ x 1).2.2 → (B (rk (fun j => dW x ((dZ x 1).1 j)) (dZ x 1).2.2 j) = -1 ↔ ePr ((prW (dW x) (dZ x 0) (dZ x 1)).1 ((dZ x 1).1 j)) = -1) := fun j hj => by
    rcases q j hj with ⟨q1, q2⟩ | ⟨i, i1, i2, i3, -⟩
    · rw [q1, q2]
    · have hr := rk_lt (w := (fun i => dW x ((dZ x 0).1 i))) i1
      rw [i2, i3]
      exact ⟨fun z => absurd z (nI_m1 (by omega)), fun z => absurd z (nI_m1 (by omega))⟩
  refine ⟨?_, ?_⟩
  · rw [← cnt_p (q := fun b => decide (B b = -1)) (f := rk (fun j => dW x ((dZ x 1).1 j)) (dZ x 1).2.2) (fun k hk => rk_lt hk) (fun k l hk hl => rk_inj hk hl)]
    exact cnt_c (fun j hj => decide_eq_decide.mpr (key j hj))
  · rw [(mg_c1 hI).2.2.1, ← cnt_p (q := fun b => decide (¬ B b = -1)) (f := rk (fun j => dW x ((dZ x 1).1 j)) (dZ x 1).2.2) (fun k hk => rk_lt hk) (fun k l hk hl => rk_inj hk hl)]
    exact cnt_c (fun j hj => decide_eq_decide.mpr (not_congr (key j hj)))
/-- what the model has made are the class's records -/
theorem mg_fin {D : Nat} {x : dV} (hI : dOk D x) (h3 : (dZ x 0).2.1.1 + (dZ x 1).2.1.1 ≤ 3) (hz : (dZ x 0).2.2 + cntN (fun j => decide (ePr ((prW (dW x) (dZ x 0) (dZ x 1)).1 ((dZ x 1).1 j)) = -1)) (dZ x 1).2.2 0 0 ≤ 60) {Y z : mV} {u v : Nat → eV} {A B : Nat → Int32} {P' : Nat → Nat → Prop} {nn : Nat} (hu : ∀ i, i < (dZ x 0).2.2 → u (rk (fun i => dW x ((dZ x 0).1 i)) (dZ x 0).2.2 i) = dW x ((dZ x 0).1 i)) (hv : ∀ j, j < (dZ x 1).2.2 → v (rk (fun j => dW x ((dZ x 1).1 j)) (dZ x 1).2.2 j) = dW x ((dZ x 1).1 j)) (hG : gS (dZ x 0).2.2 (dZ x 1).2.2 (fun a b => lkR (u a) (v b) = true) P' A B) (hZ : mgZ Y (dZ x 0).2.2 (dZ x 1).2.2 (dZ x 0).2.1.1 (dZ x 1).2.1.1 u v A B (dZ x 0).2.2 (dZ x 1).2.2 nn z) : ∀ k, k < (dZ x 0).2.2 + cntN (fun j => decide (ePr ((prW (dW x) (dZ x 0) (dZ x 1)).1 ((dZ x 1).1 j)) = -1)) (dZ x 1).2.2 0 0 → mE z k ((mgP x).1 ((mgP x).2 k)) ((dZ x 0).2.1.1 + (dZ x 1).2.1.1) := by
  intro k hk
  have hw8 := (hI.2.2.1 1 (by omega)).2
  have hv8 := (hI.2.2.1 0 (by omega)).2
  have hp := (mg_c1 hI).1
  obtain ⟨hA, hB⟩ := mg_pa hI hu hv hG
  obtain ⟨w0, w1⟩ := mg_wh hI h3 hz
  have hq : ∀ j, j < (dZ x 1).2.2 → (fun b => decide (B b = -1)) (rk (fun j => dW x ((dZ x 1).1 j)) (dZ x 1).2.2 j) = (fun j => decide (ePr ((prW (dW x) (dZ x 0) (dZ x 1)).1 ((dZ x 1).1 j)) = -1)) j := fun j hj => by
    refine decide_eq_decide.mpr ?_
    rcases hB j hj with ⟨q1, q2⟩ | ⟨i, i1, i2, i3, -⟩
    · rw [q1, q2]
    · have hr := rk_lt (w := (fun i => dW x ((dZ x 0).1 i))) i1
      rw [i2, i3]
      exact ⟨fun z => absurd z (nI_m1 (by omega)), fun z => absurd z (nI_m1 (by omega))⟩
  obtain ⟨-, -, -, z4, z5⟩ := hZ
  rw [(mg_pi hI).1]
  rcases mg_rec hI h3 hz hk with ⟨i, i1, i2, i3, i4⟩ | ⟨j, j1, j2, j3, j4, j5⟩
  · rw [i2]
    have hr := rk_lt (w := (fun i => dW x ((dZ x 0).1 i))) i1
    have ep : poA (dZ x 1).2.2 u v (fun b => decide (B b = -1)) (rk (fun i => dW x ((dZ x 0).1 i)) (dZ x 0).2.2 i) = k := by
      rw [← i3]
      exact (rk_A w0 w1 hu hv hq i1).symm
    obtain ⟨-, q⟩ := z4 (rk (fun i => dW x ((dZ x 0).1 i)) (dZ x 0).2.2 i) hr
    rw [ep, hu i i1] at q
    rcases i4 with ⟨j, q1, q2, q3⟩ | ⟨q1, q3⟩
    · rw [q3, hp ((dZ x 0).1 i), hp ((dZ x 1).1 j), mgB_p]
      rcases q with ⟨r1, -⟩ | ⟨b, r1, r2, r3⟩
      · exfalso
        rcases hB j q1 with ⟨s1, -⟩ | ⟨i', s1, s2, s3, s4⟩
        · rw [s1] at q2
          exact nI_m1 (by omega) q2.symm
        · have := nI_inj (s2.symm.trans q2) (by omega) (by omega)
          subst this
          rcases hA i' i1 with ⟨t1, -⟩ | ⟨j', t1, t2, t3, t4⟩
          · rw [t1] at s4
            exact nI_m1 (by omega) s4.symm
          · have hr' := rk_lt (w := (fun j => dW x ((dZ x 1).1 j))) t1
            rw [t3] at r1
            exact nI_m1 (by omega) r1
      · rcases hA i i1 with ⟨-, t1⟩ | ⟨j', t1, t2, t3, t4⟩
        · rw [t1] at r2
          exact absurd r2.symm (nI_m1 (by omega))
        · have hr' := rk_lt (w := (fun j => dW x ((dZ x 1).1 j))) t1
          have e1 := nI_inj (t3.symm.trans r2) (by omega) (by omega)
          have e2 : j' = j := by
            rcases hB j q1 with ⟨s1, -⟩ | ⟨i', s1, s2, s3, s4⟩
            · rw [s1] at q2
              exact absurd q2.symm (nI_m1 (by omega))
            · have := nI_inj (s2.symm.trans q2) (by omega) (by omega)
              subst this
              exact nI_inj (t2.symm.trans s4) (by omega) (by omega)
          subst e2
          rw [← e1, hv j' t1] at r3
          exact r3
    · rw [q3, hp ((dZ x 0).1 i), mgA_p]
      rcases q with ⟨-, r1⟩ | ⟨b, r1, r2, r3⟩
      · exact r1
      · exfalso
        rcases hA i i1 with ⟨-, t1⟩ | ⟨j', t1, t2, t3, t4⟩
        · rw [t1] at r2
          exact nI_m1 (by omega) r2.symm
        · exact q1 j' t1 t4
  · rw [j3, j5, hp ((dZ x 1).1 j), mgC_p]
    have hr := rk_lt (w := (fun j => dW x ((dZ x 1).1 j))) j1
    have hBj : B (rk (fun j => dW x ((dZ x 1).1 j)) (dZ x 1).2.2 j) = -1 := by
      have := hq j j1
      rw [show (fun j => decide (ePr ((prW (dW x) (dZ x 0) (dZ x 1)).1 ((dZ x 1).1 j)) = -1)) j = true from decide_eq_true j2] at this
      exact of_decide_eq_true this
    have ep : poB (dZ x 0).2.2 u v (fun b => decide (B b = -1)) (rk (fun j => dW x ((dZ x 1).1 j)) (dZ x 1).2.2 j) = k := by
      rw [← j4]
      exact (rk_B w0 w1 hu hv hq j1 (decide_eq_true j2)).symm
    obtain ⟨-, q⟩ := z5 (rk (fun j => dW x ((dZ x 1).1 j)) (dZ x 1).2.2 j) hr hBj
    rw [ep, hv j j1] at q
    exact q