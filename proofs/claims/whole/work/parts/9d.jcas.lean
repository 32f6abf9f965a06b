/-! joining two records: the calls -/
/-- all but the calls is alike -/
def eNq (y v : eV) : Prop := eId y = eId v ∧ eIz y = eIz v ∧ eLe y = eLe v ∧ eRs y = eRs v ∧ eSq y = eSq v ∧ ePl y = ePl v ∧ eRo y = eRo v ∧ eQu y = eQu v ∧ ePa y = ePa v
theorem eNq_r {v : eV} : eNq v v := ⟨rfl, rfl, rfl, rfl, rfl, rfl, rfl, rfl, rfl⟩
theorem eNq_t {u y v : eV} (h : eNq u y) (h2 : eNq y v) : eNq u v := by
  obtain ⟨a1, a2, a3, a4, a5, a6, a7, a8, a9⟩ := h
  obtain ⟨b1, b2, b3, b4, b5, b6, b7, b8, b9⟩ := h2
  exact ⟨a1.trans b1, a2.trans b2, a3.trans b3, a4.trans b4, a5.trans b5, a6.trans b6, a7.trans b7, a8.trans b8, a9.trans b9⟩
theorem jCaL_f {w : eV} {g : Nat → Int32} {i : Nat} : ∀ (d c : Nat) (v : eV), jCaL w g i d c v = wCa v (eCa (jCaL w g i d c v)) ∧ ∀ j, eCa (jCaL w g i d c v) j = if i * 2 + c ≤ j ∧ j < i * 2 + c + d then jCall g (eCall v i (j - i * 2)) (eCall w i (j - i * 2)) else eCa v j := by
  intro d
  induction d with
  | zero => intro c v; exact ⟨rfl, fun j => (if_neg (by omega)).symm⟩
  | succ d ih =>
    intro c v
    have e : jCaL w g i (d + 1) c v = jCaL w g i d (c + 1) (wCa v (upd (eCa v) (i * 2 + c) (jCall g (eCall v i c) (eCall w i c)))) := rfl
    rw [e]
    obtain ⟨a1, a2⟩ := ih (c + 1) (wCa v (upd (eCa v) (i * 2 + c) (jCall g (eCall v i c) (eCall w i c))))
    refine ⟨a1, fun j => ?_⟩
    rw [a2 j]
    by_cases e1 : j = i * 2 + c
    · subst e1
      rw [if_neg (by omega), if_pos (by omega), show i * 2 + c - i * 2 = c by omega]
      exact updS
    · by_cases e2 : i * 2 + (c + 1) ≤ j ∧ j < i * 2 + (c + 1) + d
      · rw [if_pos e2, if_pos (by omega)]
        have : eCall (wCa v (upd (eCa v) (i * 2 + c) (jCall g (eCall v i c) (eCall w i c)))) i (j - i * 2) = eCall v i (j - i * 2) := by
          unfold eCall
          show (if j - i * 2 < eCn v i then upd (eCa v) (i * 2 + c) (jCall g (if c < eCn v i then eCa v (i * 2 + c) else -1) (if c < eCn w i then eCa w (i * 2 + c) else -1)) (i * 2 + (j - i * 2)) else -1) = _
          rw [updN (by omega)]
        rw [this]
      · rw [if_neg e2, if_neg (by omega)]
        exact updN e1
theorem jCa_f {v w : eV} {g : Nat → Int32} {i : Nat} (hv : eCn v i ≤ 2) (hw : eCn w i ≤ 2) : eNq (jCa v w g i) v ∧ eCn (jCa v w g i) i = max (eCn v i) (eCn w i) ∧ ePh (jCa v w g i) i = jPh v w i ∧ (∀ c, c < max (eCn v i) (eCn w i) → eCa (jCa v w g i) (i * 2 + c) = jCall g (eCall v i c) (eCall w i c)) ∧ ∀ s, s ≠ i → eCn (jCa v w g i) s = eCn v s ∧ ePh (jCa v w g i) s = ePh v s ∧ ∀ c, c < 2 → eCa (jCa v w g i) (s * 2 + c) = eCa v (s * 2 + c) := by
  obtain ⟨a1, a2⟩ := jCaL_f (w := w) (g := g) (i := i) (max (eCn v i) (eCn w i) - 0) 0 v
  unfold jCa
  generalize jCaL w g i (max (eCn v i) (eCn w i) - 0) 0 v = z at a1 a2
  have hz : eNq z v := by
    rw [a1]
    exact eNq_r
  refine ⟨hz, va_up_self _ _ _, va_up_self _ _ _, fun c hc => ?_, fun s hs => ⟨va_up_ne _ _ hs, va_up_ne _ _ hs, fun c hc => ?_⟩⟩
  · show eCa z (i * 2 + c) = _
    rw [a2, if_pos (by omega), show i * 2 + c - i * 2 = c by omega]
  · show eCa z (s * 2 + c) = _
    rw [a2, if_neg (by omega)]
theorem jCaS_f {w : eV} {g : Nat → Int32} (hw : ∀ s, eCn w s ≤ 2) : ∀ (d i : Nat) (v : eV), (∀ s, eCn v s ≤ 2) → eNq (jCaS w g d i v) v ∧ (∀ s, i ≤ s → s < i + d → eCn (jCaS w g d i v) s = max (eCn v s) (eCn w s) ∧ ePh (jCaS w g d i v) s = jPh v w s ∧ ∀ c, c < max (eCn v s) (eCn w s) → eCa (jCaS w g d i v) (s * 2 + c) = jCall g (eCall v s c) (eCall w s c)) ∧ ∀ s, s < i ∨ i + d ≤ s → eCn (jCaS w g d i v) s = eCn v s ∧ ePh (jCaS w g d i v) s = ePh v s ∧ ∀ c, c < 2 → eCa (jCaS w g d i v) (s * 2 + c) = eCa v (s * 2 + c) := by
  intro d
  induction d with
  | zero => intro i v _; exact ⟨eNq_r, fun s h1 h2 => by omega, fun s _ => ⟨rfl, rfl, fun _ _ => rfl⟩⟩
  | succ d ih =>
    intro i v hv
    have e : jCaS w g (d + 1) i v = jCaS w g d (i + 1) (jCa v w g i) := rfl
    rw [e]
    obtain ⟨a1, a2, a3, a4, a5⟩ := jCa_f (v := v) (w := w) (g := g) (hv i) (hw i)
    obtain ⟨b1, b2, b3⟩ := ih (i + 1) (jCa v w g i) (fun s => by
      by_cases q : s = i
      · rw [q, a2]
        have := hv i
        have := hw i
        omega
      · rw [(a5 s q).1]; exact hv s)
    refine ⟨eNq_t b1 a1, fun s h1 h2 => ?_, fun s hs => ?_⟩
    · by_cases q : s = i
      · subst q
        obtain ⟨c1, c2, c3⟩ := b3 s (by omega)
        have := hv s
        have := hw s
        exact ⟨c1.trans a2, c2.trans a3, fun c hc => (c3 c (by omega)).trans (a4 c hc)⟩
      · obtain ⟨c1, c2, c3⟩ := b2 s (by omega) (by omega)
        obtain ⟨d1, d2, d3⟩ := a5 s q
        have hj : jPh (jCa v w g i) w s = jPh v w s := by
          unfold jPh
          rw [d1, d2]
        have hc : ∀ c, eCall (jCa v w g i) s c = eCall v s c := fun c => by
          unfold eCall
          rw [d1]
          by_cases e2 : c < eCn v s
          · rw [if_pos e2, if_pos e2]
            have := hv s
            exact d3 c (by omega)
          · rw [if_neg e2, if_neg e2]
        rw [d1] at c1 c3
        exact ⟨c1, c2.trans hj, fun c hcc => by rw [c3 c hcc, hc]⟩
    · obtain ⟨c1, c2, c3⟩ := b3 s (by omega)
      obtain ⟨d1, d2, d3⟩ := a5 s (by omega)
      exact ⟨c1.trans d1, c2.trans d2, fun c hc => (c3 c hc).trans (d3 c hc)⟩
/-- the model's three rounds of calls -/
theorem mJC_o {y : mV} {s a b r m : Nat} {pa pb : Bool} {w : eV} (h : mE y r w m) (hwo : enOk w) (hm : m ≤ 3) (hr : r < 180) (hs : s < 3) : mE (mJC y 180 s a b pa pb) r w m := by
  obtain ⟨h1, h2, h3, h4, h5, h6, h7, h8, h9, h10⟩ := h
  refine ⟨h1, h2, h3, h4, h5, h6, h7, h8, h9, fun t ht => ?_⟩
  obtain ⟨c1, c2, c3⟩ := h10 t ht
  refine ⟨?_, ?_, fun c hc => ?_⟩
  · show upd (y.1 30) (3 * 180 + s) _ (3 * r + t) = _
    rw [updN (by omega)]
    exact c1
  · show upd (y.1 31) (3 * 180 + s) _ (3 * r + t) = _
    rw [updN (by omega)]
    exact c2
  · have := hwo.2.2.1 t
    show jCl y 180 s a b 2 (6 * r + 2 * t + c) = _
    rw [jCl_o (by omega)]
    exact c3 c hc
theorem jCl_3 {y : mV} {j s a b : Nat} (h : aNw y.1) : ∀ k i, jCl y j s a b k i ≤ nI 3 := by
  intro k
  induction k with
  | zero => intro i; exact h.2.2 29 i (Or.inl rfl)
  | succ k ih =>
    intro i
    show upd (jCl y j s a b k) (6 * j + 2 * s + k) _ i ≤ _
    unfold upd
    split
    · unfold jcV
      split
      · split
        · split <;> decide
        · exact h.2.2 35 _ (Or.inr rfl)
      · exact mCA_3 h
    · exact ih i
theorem mJC_nw {y : mV} {j s a b : Nat} {pa pb : Bool} (h : aNw y.1) : aNw (mJC y j s a b pa pb).1 := by
  refine aNw_1 (aNw_1 (aNw_i h rfl) (fun z => by cases z) (fun _ => upd_nar (fun i => h.2.1 31 i rfl) nar_bb)) (fun z => by cases z) (fun z => by cases z) (fun _ i => jCl_3 h 2 i)
/-- cells of record 180 after the calls of sample s are joined -/
theorem mJC_s {y : mV} {s a b : Nat} {pa pb : Bool} : (mJC y 180 s a b pa pb).1 30 (3 * 180 + s) = jMx (y.1 30 (3 * a + s)) (y.1 30 (3 * b + s)) ∧ (mJC y 180 s a b pa pb).1 31 (3 * 180 + s) = bI (jPb (y.1 30 (3 * a + s)) (y.1 30 (3 * b + s)) pa pb) ∧ ∀ c, c < 2 → (mJC y 180 s a b pa pb).1 29 (6 * 180 + 2 * s + c) = jcV (y.1 35) (mCA y a s c) (mCA y b s c) := by
  refine ⟨updS, updS, fun c hc => ?_⟩
  show upd (upd (y.1 29) (6 * 180 + 2 * s + 0) _) (6 * 180 + 2 * s + 1) _ (6 * 180 + 2 * s + c) = _
  rcases (show c = 0 ∨ c = 1 by omega) with e | e <;> subst e
  · rw [updN (by omega)]
    exact updS
  · exact updS
theorem mJC_t {y : mV} {s t a b : Nat} {pa pb : Bool} (h : t ≠ s) (hs : s < 3) (ht : t < 3) : (mJC y 180 s a b pa pb).1 30 (3 * 180 + t) = y.1 30 (3 * 180 + t) ∧ (mJC y 180 s a b pa pb).1 31 (3 * 180 + t) = y.1 31 (3 * 180 + t) ∧ ∀ c, c < 2 → (mJC y 180 s a b pa pb).1 29 (6 * 180 + 2 * t + c) = y.1 29 (6 * 180 + 2 * t + c) := by
  refine ⟨updN (by omega), updN (by omega), fun c hc => ?_⟩
  exact jCl_o (k := 2) (by omega)
theorem mJC_ca {y : mV} {s a b r t c : Nat} {pa pb : Bool} (hr : r < 180) (ht : t < 3) (hs : s < 3) (hc : c < 2) : mCA (mJC y 180 s a b pa pb) r t c = mCA y r t c := by
  unfold mCA
  have e1 : (mJC y 180 s a b pa pb).1 30 (3 * r + t) = y.1 30 (3 * r + t) := updN (by omega)
  have e2 : (mJC y 180 s a b pa pb).1 29 (6 * r + 2 * t + c) = y.1 29 (6 * r + 2 * t + c) := jCl_o (k := 2) (by omega)
  rw [e1, e2]
theorem mCA_e {y : mV} {r s c m : Nat} {w : eV} (h : mE y r w m) (hw : enOk w) (hs : s < m) (hc : c < 2) : mCA y r s c = eCall w s c := by
  obtain ⟨c1, c2, c3⟩ := h.2.2.2.2.2.2.2.2.2 s hs
  have h2 := hw.2.2.1 s
  unfold mCA eCall
  rw [c1]
  by_cases e : c < eCn w s
  · rw [if_neg (nI_nle2 e (by omega)), if_pos e, c3 c e]
  · rw [if_pos (nI_le (by omega) (by omega)), if_neg e]
theorem jMx_n {a b : Nat} (ha : a < 2 ^ 31) (hb : b < 2 ^ 31) : jMx (nI a) (nI b) = nI (max a b) := by
  unfold jMx
  by_cases e : a ≤ b
  · rw [if_pos (nI_le e hb), Nat.max_eq_right e]
  · rw [if_neg (nI_nle2 (by omega) ha), Nat.max_eq_left (by omega)]
theorem jPb_n {v w : eV} {i : Nat} (hv : eCn v i ≤ 2) (hw : eCn w i ≤ 2) : jPb (nI (eCn v i)) (nI (eCn w i)) (ePh v i) (ePh w i) = jPh v w i := by
  unfold jPb jPh
  by_cases e : eCn v i = 1
  · rw [e, if_pos rfl, if_pos rfl]
  · rw [if_neg (nI_n e (by omega) (by omega)), if_neg e]
    by_cases e2 : eCn w i = 1
    · rw [e2, if_pos rfl, decide_eq_true rfl, Bool.true_or, Bool.and_true]
    · rw [if_neg (nI_n e2 (by omega) (by omega)), decide_eq_false e2, Bool.false_or]
theorem jcV_n {N g : Nat → Int32} {x y : Int32} {B : Nat} (hB : B ≤ 3) (hN : ∀ q, 1 ≤ q → q ≤ B → N q = g q) (hy : y = -1 ∨ ∃ n : Nat, n ≤ B ∧ y = nI n) : jcV N x y = jCall g x y := by
  unfold jcV jCall
  split
  · rcases hy with e | ⟨n, e1, e2⟩
    · have h0 : y ≤ 0 := by rw [e]; decide
      rw [if_pos h0, if_pos (show y ≤ 0 ∨ nI 4 ≤ y from Or.inl h0)]
    · subst e2
      by_cases e : n = 0
      · subst e
        rw [if_pos (show nI 0 ≤ 0 by decide), if_pos (show nI 0 ≤ 0 ∨ nI 4 ≤ nI 0 from Or.inl (by decide))]
      · rw [if_neg (fun q => e (by have := nI_le_n (b := 0) q (by omega) (by decide); omega)), if_neg (fun q => q.elim (fun q => e (by have := nI_le_n (b := 0) q (by omega) (by decide); omega)) (fun q => by have := nI_le_n q (by decide) (by omega); omega)), nI_clamp (n := n) (by omega)]
        exact hN n (by omega) (by omega)
  · rfl