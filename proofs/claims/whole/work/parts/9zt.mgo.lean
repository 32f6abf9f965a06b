/-! merge: the invariant, and the relation behind it -/
theorem eBs_e {v w : eV} (h : eBs v w) : eSq v = eSq w ∧ ePl v = ePl w ∧ eRs v = eRs w ∧ eRo v = eRo w ∧ eQu v = eQu w ∧ eLe v = eLe w ∧ eIz v = eIz w ∧ eId v = eId w := by
  have h1 : v = wPh (wCn (wCa w (eCa v)) (eCn v)) (ePh v) := h
  exact ⟨(congrArg eSq h1).trans rfl, (congrArg ePl h1).trans rfl, (congrArg eRs h1).trans rfl, (congrArg eRo h1).trans rfl, (congrArg eQu h1).trans rfl, (congrArg eLe h1).trans rfl, (congrArg eIz h1).trans rfl, (congrArg eId h1).trans rfl⟩
theorem eLv_b {v w : eV} (hb : eBs v w) (h : eLv w) : eLv v := by
  obtain ⟨-, -, e3, e4, -, e6, e7, e8⟩ := eBs_e hb
  unfold eLv eDs at *
  rw [e3, e4, e6, e7, e8]
  exact h
def caO (v : eV) (s R : Nat) : Prop := 1 ≤ eCn v s ∧ ∀ c, c < eCn v s → eCa v (s * 2 + c) = -1 ∨ ∃ q : Nat, q < R ∧ eCa v (s * 2 + c) = nI q
theorem caO_m {v w : eV} {s r R : Nat} (h : eSmp v s w r) (hc : eCn w r ≤ 2) (hg : caO w r R) : caO v s R := by
  obtain ⟨a1, a2, a3⟩ := h
  refine ⟨by rw [a1]; exact hg.1, fun c hc2 => ?_⟩
  rw [a1] at hc2
  rw [a3 c (by omega)]
  exact hg.2 c hc2
theorem caO_n {v : eV} {s R : Nat} (h : eNo v s) : caO v s R := by
  obtain ⟨a1, a2, a3⟩ := h
  refine ⟨by rw [a1]; exact Nat.le_refl _, fun c hc => ?_⟩
  rw [a1] at hc
  have e : c = 0 := by omega
  subst e
  exact Or.inl a3
theorem eGo_b {v w : eV} {n m : Nat} {g : gV} (hb : eBs v w) (hw : eGo w m g) (hs : ∀ s, s < n → caO v s (eRo w)) : eGo v n g := by
  obtain ⟨e1, e2, e3, e4, e5, -, -, -⟩ := eBs_e hb
  obtain ⟨g1, g2, g3, g4, -⟩ := hw
  refine ⟨by rw [e1, e2, e3]; exact g1, by rw [e4]; exact g2, ?_, by rw [e5]; exact g4, fun s hs' => by rw [e4]; exact hs s hs'⟩
  unfold ePos at *
  rw [e3, e4]
  exact g3
theorem eGo_A {w : eV} {k m : Nat} {g : gV} (hw : eGo w k g) (ho : enOk w) : eGo (mgA k m w) (k + m) g := by
  obtain ⟨a1, a2, a3⟩ := mgA_f (k := k) (m := m) (w := w)
  refine eGo_b a1 hw (fun s hs => ?_)
  by_cases c : s < k
  · exact caO_m (a2 s c) (ho.2.2.1 s) (hw.2.2.2.2 s c)
  · have h := caO_n (R := eRo w) (a3 (s - k) (by omega))
    rw [show k + (s - k) = s by omega] at h
    exact h
theorem eGo_B {w u : eV} {k m : Nat} {g : gV} (hw : eGo w k g) (ho : enOk w) (hu : eGo u m g) (huo : enOk u) (e : eRo w = eRo u) : eGo (mgB k m w u) (k + m) g := by
  obtain ⟨a1, a2, a3⟩ := mgB_f (k := k) (m := m) (w := w) (u := u)
  refine eGo_b a1 hw (fun s hs => ?_)
  by_cases c : s < k
  · exact caO_m (a2 s c) (ho.2.2.1 s) (hw.2.2.2.2 s c)
  · have h9 : caO u (s - k) (eRo w) := by rw [e]; exact hu.2.2.2.2 (s - k) (by omega)
    have h := caO_m (a3 (s - k) (by omega)) (huo.2.2.1 _) h9
    rw [show k + (s - k) = s by omega] at h
    exact h
theorem eGo_C {u : eV} {k m : Nat} {g : gV} (hu : eGo u m g) (huo : enOk u) : eGo (mgC k m u) (k + m) g := by
  obtain ⟨a1, a2, a3⟩ := mgC_f (k := k) (m := m) (u := u)
  refine eGo_b a1 hu (fun s hs => ?_)
  by_cases c : s < k
  · exact caO_n (a2 s c)
  · have h := caO_m (a3 (s - k) (by omega)) (huo.2.2.1 _) (hu.2.2.2.2 (s - k) (by omega))
    rw [show k + (s - k) = s by omega] at h
    exact h
/-- the number of records behind a merge -/
theorem mg_le {D : Nat} {x : dV} (hI : dOk D x) : (nI ((dZ x 0).2.2 + (dZ x 1).2.2) - nI (prW (dW x) (dZ x 0) (dZ x 1)).2 ≤ nI 60) ↔ (dZ x 0).2.2 + cntN (fun j => decide (ePr ((prW (dW x) (dZ x 0) (dZ x 1)).1 ((dZ x 1).1 j)) = -1)) (dZ x 1).2.2 0 0 ≤ 60 := by
  have hv8 := (hI.2.2.1 0 (by omega)).2
  have hw8 := (hI.2.2.1 1 (by omega)).2
  have hc := (mg_c1 hI).2.2.2
  have e : nI ((dZ x 0).2.2 + (dZ x 1).2.2) - nI (prW (dW x) (dZ x 0) (dZ x 1)).2 = nI ((dZ x 0).2.2 + cntN (fun j => decide (ePr ((prW (dW x) (dZ x 0) (dZ x 1)).1 ((dZ x 1).1 j)) = -1)) (dZ x 1).2.2 0 0) := by
    have h2 := nI_add ((dZ x 0).2.2 + cntN (fun j => decide (ePr ((prW (dW x) (dZ x 0) (dZ x 1)).1 ((dZ x 1).1 j)) = -1)) (dZ x 1).2.2 0 0) (prW (dW x) (dZ x 0) (dZ x 1)).2
    rw [show (dZ x 0).2.2 + cntN (fun j => decide (ePr ((prW (dW x) (dZ x 0) (dZ x 1)).1 ((dZ x 1).1 j)) = -1)) (dZ x 1).2.2 0 0 + (prW (dW x) (dZ x 0) (dZ x 1)).2 = (dZ x 0).2.2 + (dZ x 1).2.2 by omega] at h2
    rw [← h2]
    exact Int32.add_sub_cancel _ _
  rw [e, Int32.le_iff_toInt_le, nI_toInt (by omega), nI_toInt (by omega)]
  omega
theorem mg_z {D : Nat} {x : dV} (hI : dOk D x) (h3 : (dZ x 0).2.1.1 + (dZ x 1).2.1.1 ≤ 3) (hz : (dZ x 0).2.2 + cntN (fun j => decide (ePr ((prW (dW x) (dZ x 0) (dZ x 1)).1 ((dZ x 1).1 j)) = -1)) (dZ x 1).2.2 0 0 ≤ 60) {k : Nat} (hk : k < (dZ x 0).2.2 + cntN (fun j => decide (ePr ((prW (dW x) (dZ x 0) (dZ x 1)).1 ((dZ x 1).1 j)) = -1)) (dZ x 1).2.2 0 0) : eGo ((mgP x).1 ((mgP x).2 k)) ((dZ x 0).2.1.1 + (dZ x 1).2.1.1) (dG x 0) ∧ (dLv x → eLv ((mgP x).1 ((mgP x).2 k))) := by
  have hp := (mg_c1 hI).1
  have c2 := (mg_c1 hI).2.1
  have o0 : ∀ i, i < (dZ x 0).2.2 → enOk (dW x ((dZ x 0).1 i)) := fun i hi => hI.2.2.2.1 _ (dre_X hI (show 0 < 3 by omega) i (by have := (hI.2.2.1 0 (by omega)).2; omega))
  have o1 : ∀ j, j < (dZ x 1).2.2 → enOk (dW x ((dZ x 1).1 j)) := fun j hj => hI.2.2.2.1 _ (dre_X hI (show 1 < 3 by omega) j (by have := (hI.2.2.1 1 (by omega)).2; omega))
  have g0 : ∀ i, i < (dZ x 0).2.2 → eGo (dW x ((dZ x 0).1 i)) (dZ x 0).2.1.1 (dG x 0) := fun i hi => hI.2.2.2.2.2.1 0 i (by omega) hi
  have g1 : ∀ j, j < (dZ x 1).2.2 → eGo (dW x ((dZ x 1).1 j)) (dZ x 1).2.1.1 (dG x 0) := fun j hj => hI.2.2.2.2.2.1 1 j (by omega) hj
  rw [(mg_pi hI).1]
  rcases mg_rec hI h3 hz hk with ⟨i, i1, i2, i3, i4⟩ | ⟨j, j1, j2, j3, j4, j5⟩
  · rw [i2]
    rcases i4 with ⟨j, q1, q2, q3⟩ | ⟨q1, q3⟩
    · rw [q3, hp ((dZ x 0).1 i), hp ((dZ x 1).1 j), mgB_p]
      have e : eRo (dW x ((dZ x 0).1 i)) = eRo (dW x ((dZ x 1).1 j)) := by
        rcases c2 j q1 with h | ⟨i', r1, r2, r3, r4⟩
        · rw [h] at q2
          exact absurd q2.symm (nI_m1 (by have := (hI.2.2.1 0 (by omega)).2; omega))
        · have h60 := (hI.2.2.1 0 (by omega)).2
          have := nI_inj (r2.symm.trans q2) (by omega) (by omega)
          subst this
          exact (lk_w r4).2.2
      exact ⟨eGo_B (g0 i i1) (o0 i i1) (g1 j q1) (o1 j q1) e, fun hl => eLv_b (v := mgB (dZ x 0).2.1.1 (dZ x 1).2.1.1 (dW x ((dZ x 0).1 i)) (dW x ((dZ x 1).1 j))) mgB_f.1 ((hl.2 0 (by omega)).2 i i1)⟩
    · rw [q3, hp ((dZ x 0).1 i), mgA_p]
      exact ⟨eGo_A (g0 i i1) (o0 i i1), fun hl => eLv_b (v := mgA (dZ x 0).2.1.1 (dZ x 1).2.1.1 (dW x ((dZ x 0).1 i))) mgA_f.1 ((hl.2 0 (by omega)).2 i i1)⟩
  · rw [j3, j5, hp ((dZ x 1).1 j), mgC_p]
    exact ⟨eGo_C (g1 j j1) (o1 j j1), fun hl => eLv_b (v := mgC (dZ x 0).2.1.1 (dZ x 1).2.1.1 (dW x ((dZ x 1).1 j))) mgC_f.1 ((hl.2 1 (by omega)).2 j j1)⟩
theorem mgX_0 {x : dV} : dZ (mgX4 x) 0 = ((mgP x).2, (mgV x).2) := by
  show va_up (dZ (mgX3 x)) 0 ((mgP x).2, (mgV x).2) 0 = _
  exact va_up_self _ _ _
theorem mgX_1 {x : dV} : dZ (mgX4 x) 1 = ((mgK x).2.2.1, (0, (dZ x 1).2.1.2), 0) := by
  show va_up (dZ (mgX3 x)) 0 ((mgP x).2, (mgV x).2) 1 = _
  rw [va_up_ne _ _ (by decide)]
  show va_up (dZ (mgX2 x)) 1 ((mgK x).2.2.1, (0, (dZ x 1).2.1.2), 0) 1 = _
  exact va_up_self _ _ _
theorem mgX_2 {x : dV} : dZ (mgX4 x) 2 = dZ x 2 := by
  show va_up (dZ (mgX3 x)) 0 ((mgP x).2, (mgV x).2) 2 = _
  rw [va_up_ne _ _ (by decide)]
  show va_up (dZ (mgX2 x)) 1 ((mgK x).2.2.1, (0, (dZ x 1).2.1.2), 0) 2 = _
  rw [va_up_ne _ _ (by decide)]
  show va_up (va_up (dZ x) 1 ((mgK x).2.2.1, (dZ x 1).2)) 0 (mgV x) 2 = _
  rw [va_up_ne _ _ (by decide), va_up_ne _ _ (by decide)]
theorem dOk_mgx {D : Nat} {x : dV} (h : dOk D x) (h3 : (dZ x 0).2.1.1 + (dZ x 1).2.1.1 ≤ 3) (hz : (dZ x 0).2.2 + cntN (fun j => decide (ePr ((prW (dW x) (dZ x 0) (dZ x 1)).1 ((dZ x 1).1 j)) = -1)) (dZ x 1).2.2 0 0 ≤ 60) : dOk D (mgX4 x) := by
  obtain ⟨a1, a2, a3, a4, a5, a6, a7⟩ := id h
  obtain ⟨t1, t2, t3, t4, t5, t6, t7, t8, t9⟩ := mg_c2 h h3 hz
  have hk := mg_tk h
  have hpi := mg_pi h
  have n0 := a3 0 (by omega)
  have n1 := a3 1 (by omega)
  have src : ∀ k, k < 60 → ∃ j, j < 60 ∧ (mgP x).2 k = (mgK x).2.1 j ∧ ((k < (mgK x).2.2.2 ∧ j < (mgK x).2.2.2 ∧ rk (fun k => (mgK x).1 ((mgK x).2.1 k)) (mgK x).2.2.2 j = k) ∨ ((mgK x).2.2.2 ≤ k ∧ j = k)) := fun k hk60 => pio_src hpi hk.2.2.2.2 hk60
  have ad : ∀ a, a < 60 → ∃ i b, i < 2 ∧ b < 60 ∧ (mgK x).2.1 a = (dZ x i).1 b := fun a ha => by
    obtain ⟨b, b1, b2⟩ := t8 a ha
    rcases b2 with b2 | b2
    · exact ⟨0, b, by omega, b1, b2⟩
    · exact ⟨1, b, by omega, b1, b2⟩
  have ad2 : ∀ a, a < 60 → ∃ i b, i < 2 ∧ b < 60 ∧ (mgK x).2.2.1 a = (dZ x i).1 b := fun a ha => by
    obtain ⟨b, b1, b2⟩ := t9 a ha
    rcases b2 with b2 | b2
    · exact ⟨0, b, by omega, b1, b2⟩
    · exact ⟨1, b, by omega, b1, b2⟩
  have c00 : ∀ k l, k < 60 → l < 60 → (mgP x).2 k = (mgP x).2 l → k = l := fun k l hk1 hl1 e => by
    obtain ⟨j, j1, j2, j3⟩ := src k hk1
    obtain ⟨i, i1, i2, i3⟩ := src l hl1
    rw [j2, i2] at e
    by_cases c : j = i
    · subst c
      omega
    · exact absurd e ((hk.2.2.2.1 j i j1 i1).1 c).1
  have c01 : ∀ k l, k < 60 → l < 60 → (mgP x).2 k ≠ (mgK x).2.2.1 l := fun k l hk1 hl1 e => by
    obtain ⟨j, j1, j2, j3⟩ := src k hk1
    rw [j2] at e
    exact (hk.2.2.2.1 j l j1 hl1).2 e
  have c11 : ∀ k l, k < 60 → l < 60 → (mgK x).2.2.1 k = (mgK x).2.2.1 l → k = l := fun k l hk1 hl1 e => by
    by_cases c : k = l
    · exact c
    · exact absurd e ((hk.2.2.2.1 k l hk1 hl1).1 c).2
  have c02 : ∀ k l, k < 60 → l < 60 → (mgP x).2 k ≠ (dZ x 2).1 l := fun k l hk1 hl1 e => by
    obtain ⟨j, j1, j2, j3⟩ := src k hk1
    obtain ⟨i, b, i1, b1, e2⟩ := ad j j1
    rw [j2, e2] at e
    have := (a5.2 i b 2 l (by omega) b1 (by omega) hl1 e).1
    omega
  have c12 : ∀ k l, k < 60 → l < 60 → (mgK x).2.2.1 k ≠ (dZ x 2).1 l := fun k l hk1 hl1 e => by
    obtain ⟨i, b, i1, b1, e2⟩ := ad2 k hk1
    rw [e2] at e
    have := (a5.2 i b 2 l (by omega) b1 (by omega) hl1 e).1
    omega
  refine ⟨a1, a2, fun i hi => ?_, fun y hy => ?_, ⟨fun i k hi hk1 => ?_, fun i k j l hi hk1 hj hl1 e => ?_⟩, fun i k hi hk1 => ?_, a7⟩
  · rcases (show i = 0 ∨ i = 1 ∨ i = 2 by omega) with e | e | e <;> subst e
    · rw [mgX_0]
      exact ⟨nmAll_ok n0.1, hk.2.2.2.2⟩
    · rw [mgX_1]
      exact ⟨⟨Nat.zero_le _, n1.1.2.1, n1.1.2.2⟩, Nat.zero_le _⟩
    · rw [mgX_2]
      exact a3 2 (by omega)
  · show enOk ((mgP x).1 y)
    rw [hpi.1]
    exact hk.1 y hy
  · rcases (show i = 0 ∨ i = 1 ∨ i = 2 by omega) with e | e | e <;> subst e
    · rw [mgX_0]
      show dXs D ((mgP x).2 k)
      obtain ⟨j, j1, j2, j3⟩ := src k hk1
      obtain ⟨i, b, i1, b1, e2⟩ := ad j j1
      rw [j2, e2]
      exact a5.1 i b (by omega) b1
    · rw [mgX_1]
      show dXs D ((mgK x).2.2.1 k)
      obtain ⟨i, b, i1, b1, e2⟩ := ad2 k hk1
      rw [e2]
      exact a5.1 i b (by omega) b1
    · rw [mgX_2]
      exact a5.1 2 k (by omega) hk1
  · rcases (show i = 0 ∨ i = 1 ∨ i = 2 by omega) with ei | ei | ei <;> rcases (show j = 0 ∨ j = 1 ∨ j = 2 by omega) with ej | ej | ej <;> subst ei <;> subst ej
    · rw [mgX_0] at e
      exact ⟨rfl, c00 k l hk1 hl1 e⟩
    · rw [mgX_0, mgX_1] at e
      exact absurd e (c01 k l hk1 hl1)
    · rw [mgX_0, mgX_2] at e
      exact absurd e (c02 k l hk1 hl1)
    · rw [mgX_0, mgX_1] at e
      exact absurd e.symm (c01 l k hl1 hk1)
    · rw [mgX_1] at e
      exact ⟨rfl, c11 k l hk1 hl1 e⟩
    · rw [mgX_1, mgX_2] at e
      exact absurd e (c12 k l hk1 hl1)
    · rw [mgX_0, mgX_2] at e
      exact absurd e.symm (c02 l k hl1 hk1)
    · rw [mgX_1, mgX_2] at e
      exact absurd e.symm (c12 l k hl1 hk1)
    · rw [mgX_2] at e
      exact a5.2 2 k 2 l (by omega) hk1 (by omega) hl1 e
  · rcases (show i = 0 ∨ i = 1 by omega) with e | e <;> subst e
    · rw [mgX_0] at hk1 ⊢
      replace hk1 : k < (mgK x).2.2.2 := hk1
      show eGo ((mgP x).1 ((mgP x).2 k)) (nmAll 3 (dZ x 0).2.1 (dZ x 1).2.1).1 (dG x 0)
      rw [(nmAll_f n1.1.2.2 h3).1]
      exact (mg_z h h3 hz (by rw [t1] at hk1; exact hk1)).1
    · rw [mgX_1] at hk1
      exact absurd hk1 (Nat.not_lt_zero _)
theorem sc_le {v w : sV} (h : shCan v w = true) : v.2.1.1 + w.2.1.1 ≤ 3 := by
  unfold shCan at h
  rw [Bool.and_eq_true] at h
  exact of_decide_eq_true h.1
theorem dOk_pr {D : Nat} {x : dV} (h : dOk D x) : dOk D (xW x (prW (dW x) (dZ x 0) (dZ x 1)).1) := by
  obtain ⟨a1, a2, a3, a4, a5, a6, a7⟩ := id h
  have hp := (mg_c1 h).1
  refine ⟨a1, a2, a3, fun y hy => ?_, a5, fun i k hi hk => ?_, a7⟩
  · show enOk ((prW (dW x) (dZ x 0) (dZ x 1)).1 y)
    rw [hp y]
    exact a4 y hy
  · show eGo ((prW (dW x) (dZ x 0) (dZ x 1)).1 ((dZ x i).1 k)) (dZ x i).2.1.1 (dG x 0)
    rw [hp]
    exact a6 i k hi hk
theorem dOk_mer {D : Nat} {x : dV} (h : dOk D x) : dOk D (pMer x).2 := by
  unfold pMer
  split
  · rename_i hs
    split
    · rename_i hc
      exact dOk_mgx h (sc_le hs) ((mg_le h).mp hc)
    · exact dOk_pr h
  · exact h
theorem mE_kk {y z : mV} {r n : Nat} {w : eV} (h : mE y r w n) (e : ∀ k, 20 ≤ k → k ≤ 31 → z.1 k = y.1 k) : mE z r w n := by
  obtain ⟨a1, a2, a3, a4, a5, a6, a7, a8, a9, a10⟩ := h
  refine ⟨?_, ?_, ?_, ?_, ?_, a6, ?_, ?_, ?_, ?_⟩
  · rw [e 20 (by omega) (by omega)]; exact a1
  · rw [e 21 (by omega) (by omega)]; exact a2
  · rw [e 23 (by omega) (by omega)]; exact a3
  · rw [e 22 (by omega) (by omega)]; exact a4
  · rw [e 24 (by omega) (by omega)]; exact a5
  · rw [e 26 (by omega) (by omega), e 25 (by omega) (by omega)]; exact a7
  · rw [e 27 (by omega) (by omega)]; exact a8
  · rw [e 28 (by omega) (by omega)]; exact a9
  · rw [e 30 (by omega) (by omega), e 31 (by omega) (by omega), e 29 (by omega) (by omega)]; exact a10
/-- the relation behind a merge -/
theorem mg_end {D : Nat} {x : dV} {y z q y' : mV} (hI : dOk D x) (hR : mRel x y) (h3 : (dZ x 0).2.1.1 + (dZ x 1).2.1.1 ≤ 3) (hz : (dZ x 0).2.2 + cntN (fun j => decide (ePr ((prW (dW x) (dZ x 0) (dZ x 1)).1 ((dZ x 1).1 j)) = -1)) (dZ x 1).2.2 0 0 ≤ 60) (b1 : ∀ k, k < 16 ∨ (17 ≤ k ∧ k < 20) ∨ (31 < k ∧ k < 35) → z.1 k = y.1 k) (b2 : ∀ j, 0 < j → j < 51 → z.2 j = y.2 j) (b3 : ∀ k, k < (dZ x 0).2.2 + cntN (fun j => decide (ePr ((prW (dW x) (dZ x 0) (dZ x 1)).1 ((dZ x 1).1 j)) = -1)) (dZ x 1).2.2 0 0 → mE z k ((mgP x).1 ((mgP x).2 k)) ((dZ x 0).2.1.1 + (dZ x 1).2.1.1)) (hS : mgS (va_up z.1 16 (upd (z.1 16) 0 (nI ((dZ x 0).2.2 + cntN (fun j => decide (ePr ((prW (dW x) (dZ x 0) (dZ x 1)).1 ((dZ x 1).1 j)) = -1)) (dZ x 1).2.2 0 0))), z.2) (dZ x 0).2.1.1 (dZ x 1).2.1.1 q) (g1 : ∀ k, k ≠ 16 → k ≠ 17 → y'.1 k = q.1 k) (g2 : y'.2 = q.2) (g3 : y'.1 16 0 = nI ((dZ x 0).2.2 + cntN (fun j => decide (ePr ((prW (dW x) (dZ x 0) (dZ x 1)).1 ((dZ x 1).1 j)) = -1)) (dZ x 1).2.2 0 0)) (g4 : y'.1 17 0 = nI ((dZ x 0).2.1.1 + (dZ x 1).2.1.1)) (g5 : y'.1 16 1 = nI 0) (g6 : y'.1 17 1 = nI 0) (g7 : aNw y'.1) : mRel (mgX4 x) y' := by
  obtain ⟨s1, s2, s3, s4, s5, s6⟩ := hS
  have n0 := hI.2.2.1 0 (by omega)
  have n1 := hI.2.2.1 1 (by omega)
  have qk : ∀ k, k ≠ 16 → k ≠ 18 → k ≠ 19 → q.1 k = z.1 k := fun k k1 k2 k3 => (s1 k k2 k3).trans (va_up_ne _ _ k1)
  have z19 : z.1 19 = y.1 19 := b1 19 (by omega)
  have z18 : z.1 18 = y.1 18 := b1 18 (by omega)
  replace s4 : ∀ c, c < (dZ x 0).2.1.1 ∨ 3 ≤ c → q.1 19 c = z.1 19 c := s4
  replace s5 : ∀ c, c < 20 * (dZ x 0).2.1.1 ∨ 60 ≤ c → q.1 18 c = z.1 18 c := s5
  replace s6 : ∀ p, p < (dZ x 1).2.1.1 → q.1 19 ((dZ x 0).2.1.1 + p) = z.1 19 (3 + p) ∧ ∀ k, k < 20 → q.1 18 (20 * ((dZ x 0).2.1.1 + p) + k) = z.1 18 (20 * (3 + p) + k) := s6
  obtain ⟨t1, t2, t3, t4⟩ := hR.2.2.2.1 0 (by omega)
  obtain ⟨r1, r2, r3, r4⟩ := hR.2.2.2.1 1 (by omega)
  obtain ⟨w1, w2, w3, w4⟩ := nmAll_f (L := 3) (v := (dZ x 0).2.1) (w := (dZ x 1).2.1) n1.1.2.2 h3
  have ht := (mg_c2 hI h3 hz).1
  have hl := hR.2.2.2.2.2.2.2
  have eX : mgX4 x = xW (xZ x (dZ (mgX4 x))) (mgP x).1 := rfl
  rw [eX]
  refine mRel_z2 hR (fun k hk => ?_) (fun j j1 j2 => ?_) g7 (fun i hi => ?_) (dLv_z hl.1 (fun i hi => ?_))
  · rw [g1 k (by omega) (by omega), qk k (by omega) (by omega) (by omega)]
    exact b1 k (by omega)
  · rw [g2, s2]
    exact b2 j j1 j2
  · rcases (show i = 0 ∨ i = 1 by omega) with e | e <;> subst e
    · rw [mgX_0]
      refine ⟨?_, ?_, fun s hs => ?_, fun k hk => ?_⟩
      · rw [g3]
        exact congrArg nI ht.symm
      · rw [g4]
        exact congrArg nI w1.symm
      · replace hs : s < (nmAll 3 (dZ x 0).2.1 (dZ x 1).2.1).1 := hs
        show y'.1 19 (3 * 0 + s) = nI ((nmAll 3 (dZ x 0).2.1 (dZ x 1).2.1).2.2 s) ∧ ∀ k, k < (nmAll 3 (dZ x 0).2.1 (dZ x 1).2.1).2.2 s → y'.1 18 (20 * (3 * 0 + s) + k) = (nmAll 3 (dZ x 0).2.1 (dZ x 1).2.1).2.1 (s * 20 + k)
        rw [g1 19 (by decide) (by decide), g1 18 (by decide) (by decide)]
        by_cases c : s < (dZ x 0).2.1.1
        · obtain ⟨u1, u2⟩ := t3 s c
          have b20 := n0.1.2.2 s
          rw [w2 s c]
          refine ⟨by rw [s4 _ (by omega), z19]; exact u1, fun k hk => ?_⟩
          rw [s5 _ (by omega), z18, w3 _ (by omega)]
          exact u2 k hk
        · obtain ⟨p, hp⟩ : ∃ p, s = (dZ x 0).2.1.1 + p := ⟨s - (dZ x 0).2.1.1, by omega⟩
          subst hp
          have hp1 : p < (dZ x 1).2.1.1 := by rw [w1] at hs; omega
          obtain ⟨u1, u2⟩ := r3 p hp1
          obtain ⟨v1, v2⟩ := w4 p hp1
          obtain ⟨x1, x2⟩ := s6 p hp1
          have b20 := n1.1.2.2 p
          rw [v1]
          refine ⟨?_, fun k hk => ?_⟩
          · rw [show 3 * 0 + ((dZ x 0).2.1.1 + p) = (dZ x 0).2.1.1 + p by omega, x1, z19]
            exact u1
          · rw [show 20 * (3 * 0 + ((dZ x 0).2.1.1 + p)) + k = 20 * ((dZ x 0).2.1.1 + p) + k by omega, x2 k (by omega), z18, v2 k hk]
            exact u2 k hk
      · replace hk : k < (mgK x).2.2.2 := hk
        rw [ht] at hk
        show mE y' (60 * 0 + k) ((mgP x).1 ((mgP x).2 k)) (nmAll 3 (dZ x 0).2.1 (dZ x 1).2.1).1
        rw [w1, show 60 * 0 + k = k by omega]
        exact mE_kk (b3 k hk) (fun j j1 j2 => by rw [g1 j (by omega) (by omega), qk j (by omega) (by omega) (by omega)])
    · rw [mgX_1]
      exact ⟨g5, g6, fun s hs => absurd hs (Nat.not_lt_zero _), fun k hk => absurd hk (Nat.not_lt_zero _)⟩
  · rcases (show i = 0 ∨ i = 1 by omega) with e | e <;> subst e
    · rw [mgX_0]
      refine ⟨fun s k hs hk => ?_, fun k hk => ?_⟩
      · replace hs : s < (nmAll 3 (dZ x 0).2.1 (dZ x 1).2.1).1 := hs
        replace hk : k < (nmAll 3 (dZ x 0).2.1 (dZ x 1).2.1).2.2 s := hk
        show ∃ c, c < 128 ∧ (nmAll 3 (dZ x 0).2.1 (dZ x 1).2.1).2.1 (s * 20 + k) = nI c
        by_cases c : s < (dZ x 0).2.1.1
        · have b20 := n0.1.2.2 s
          rw [w2 s c] at hk
          rw [w3 _ (by omega)]
          exact (hl.2 0 (by omega)).1 s k c hk
        · obtain ⟨p, hp⟩ : ∃ p, s = (dZ x 0).2.1.1 + p := ⟨s - (dZ x 0).2.1.1, by omega⟩
          subst hp
          have hp1 : p < (dZ x 1).2.1.1 := by rw [w1] at hs; omega
          obtain ⟨v1, v2⟩ := w4 p hp1
          rw [v1] at hk
          rw [v2 k hk]
          exact (hl.2 1 (by omega)).1 p k hp1 hk
      · replace hk : k < (mgK x).2.2.2 := hk
        rw [ht] at hk
        exact (mg_z hI h3 hz hk).2 hl
    · rw [mgX_1]
      exact ⟨fun s k hs => absurd hs (Nat.not_lt_zero _), fun k hk => absurd hk (Nat.not_lt_zero _)⟩
theorem mRel_pr {D : Nat} {x : dV} {y y' : mV} (hI : dOk D x) (hR : mRel x y) (b1 : ∀ k, k < 16 ∨ (17 ≤ k ∧ k < 20) ∨ (31 < k ∧ k < 35) → y'.1 k = y.1 k) (b2 : ∀ j, 0 < j → j < 51 → y'.2 j = y.2 j) (b3 : aNw y'.1) (b4 : ∀ i, i < 2 → y'.1 16 i = y.1 16 i) (b5 : ∀ i k, i < 2 → k < (dZ x i).2.2 → mE y' (60 * i + k) (dW x ((dZ x i).1 k)) (dZ x i).2.1.1) : mRel (xW x (prW (dW x) (dZ x 0) (dZ x 1)).1) y' := by
  have hp := (mg_c1 hI).1
  have hl := hR.2.2.2.2.2.2.2
  have eX : xW x (prW (dW x) (dZ x 0) (dZ x 1)).1 = xW (xZ x (dZ x)) (prW (dW x) (dZ x 0) (dZ x 1)).1 := rfl
  rw [eX]
  refine mRel_z2 hR (fun k hk => b1 k (by omega)) b2 b3 (fun i hi => ?_) (dLv_z hl.1 (fun i hi => ⟨(hl.2 i hi).1, fun k hk => ?_⟩))
  · obtain ⟨t1, t2, t3, t4⟩ := hR.2.2.2.1 i hi
    refine ⟨(b4 i hi).trans t1, by rw [b1 17 (by omega)]; exact t2, by rw [b1 19 (by omega), b1 18 (by omega)]; exact t3, fun k hk => ?_⟩
    rw [hp]
    exact b5 i k hi hk
  · rw [hp]
    exact (hl.2 i hi).2 k hk