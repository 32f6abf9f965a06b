/-! apply, pure: the chosen records in their order -/
theorem hIns_f {W : Nat → eV} {e : Nat → Nat} {i : Nat} : ∀ (n : Nat) (c : Nat → Nat), ∃ m, m ≤ n ∧ (∀ k, hIns W e i n c k = if k < m then c k else if k = m then i else if k ≤ n then c (k - 1) else c k) ∧ (0 < m → ¬ eBeh (W (e (c (m - 1)))) (W (e i)) = true) ∧ ∀ k, m ≤ k → k < n → eBeh (W (e (c k))) (W (e i)) = true := by
  intro n
  induction n with
  | zero =>
    intro c
    refine ⟨0, Nat.le_refl _, fun k => ?_, fun h => absurd h (Nat.lt_irrefl _), fun k _ h => absurd h (Nat.not_lt_zero _)⟩
    show va_up c 0 i k = _
    rw [if_neg (Nat.not_lt_zero _)]
    by_cases e : k = 0
    · rw [if_pos e, e, va_up_self]
    · rw [if_neg e, if_neg (by omega), va_up_ne _ _ e]
  | succ n ih =>
    intro c
    by_cases hb : eBeh (W (e (c n))) (W (e i)) = true
    · have hs : hIns W e i (n + 1) c = hIns W e i n (va_up c (n + 1) (c n)) := if_pos hb
      rw [hs]
      obtain ⟨m, m1, m2, m3, m4⟩ := ih (va_up c (n + 1) (c n))
      have hc : ∀ k, k ≤ n → va_up c (n + 1) (c n) k = c k := fun k hk => va_up_ne _ _ (by omega)
      refine ⟨m, by omega, fun k => ?_, fun h => ?_, fun k h1 h2 => ?_⟩
      · rw [m2 k]
        by_cases c1 : k < m
        · rw [if_pos c1, if_pos c1, hc k (by omega)]
        · rw [if_neg c1, if_neg c1]
          by_cases c2 : k = m
          · rw [if_pos c2, if_pos c2]
          · rw [if_neg c2, if_neg c2]
            by_cases c3 : k ≤ n
            · rw [if_pos c3, if_pos (by omega), hc _ (by omega)]
            · rw [if_neg c3]
              by_cases c4 : k = n + 1
              · rw [if_pos (by omega), c4, va_up_self]
                rfl
              · rw [if_neg (by omega), va_up_ne _ _ c4]
      · have h5 := m3 h
        rw [hc _ (by omega)] at h5
        exact h5
      · by_cases c1 : k = n
        · rw [c1]
          exact hb
        · have h5 := m4 k h1 (by omega)
          rw [hc _ (by omega)] at h5
          exact h5
    · have hs : hIns W e i (n + 1) c = va_up c (n + 1) i := if_neg hb
      rw [hs]
      refine ⟨n + 1, Nat.le_refl _, fun k => ?_, fun _ => hb, fun k h1 h2 => absurd h1 (by omega)⟩
      by_cases c1 : k < n + 1
      · rw [if_pos c1, va_up_ne _ _ (by omega)]
      · rw [if_neg c1]
        by_cases c2 : k = n + 1
        · rw [if_pos c2, c2, va_up_self]
        · rw [if_neg c2, if_neg (by omega), va_up_ne _ _ c2]
theorem nI_lt9 {a b : Nat} (ha : a < 2 ^ 31) (hb : b < 2 ^ 31) : nI a < nI b ↔ a < b := by
  constructor
  · intro h
    by_cases c : a < b
    · exact c
    · exact absurd (nI_le (show b ≤ a by omega) ha) (Int32.not_le.mpr h)
  · intro h
    refine Int32.not_le.mp (fun c => ?_)
    have := nI_le_n c hb ha
    omega
theorem beh_s {v w : eV} {s a b : Nat} (h1 : eSq v = nI s) (h2 : eSq w = nI s) (h3 : ePl v = nI a) (h4 : ePl w = nI b) (ha : a < 2 ^ 31) (hb : b < 2 ^ 31) : eBeh v w = true ↔ b < a := by
  unfold eBeh
  rw [h1, h2, h3, h4, decide_eq_false (show ¬ nI s < nI s from Int32.lt_irrefl), show decide (nI s = nI s) = true from decide_eq_true rfl, Bool.false_or, Bool.true_and, decide_eq_true_eq]
  exact nI_lt9 hb ha
/-- the chosen records: in the order of their places, each once, all of them -/
def chI (Q : Nat → Prop) (pl : Nat → Nat) (i : Nat) (x : (Nat → Nat) × Nat) : Prop := x.2 ≤ i ∧ (∀ a, a < x.2 → x.1 a < i ∧ Q (x.1 a)) ∧ (∀ a b, a < b → b < x.2 → pl (x.1 a) ≤ pl (x.1 b)) ∧ (∀ k, k < i → Q k → ∃ a, a < x.2 ∧ x.1 a = k) ∧ ∀ a b, a < b → b < x.2 → x.1 a ≠ x.1 b
theorem chI_s {W : Nat → eV} {e : Nat → Nat} {q r s n i : Nat} {pl : Nat → Nat} {x : (Nat → Nat) × Nat} (hpl : ∀ k, k < n → eSq (W (e k)) = nI s ∧ ¬ eCall (W (e k)) q r ≤ 0 → ePl (W (e k)) = nI (pl k) ∧ pl k < 2 ^ 31) (hi : i < n) (h : chI (fun k => eSq (W (e k)) = nI s ∧ ¬ eCall (W (e k)) q r ≤ 0) pl i x) : chI (fun k => eSq (W (e k)) = nI s ∧ ¬ eCall (W (e k)) q r ≤ 0) pl (i + 1) (hChS W e q r s i x) := by
  obtain ⟨i0, i1, i2, i3, i4⟩ := h
  unfold hChS
  by_cases c : eSq (W (e i)) = nI s ∧ ¬ eCall (W (e i)) q r ≤ 0
  · rw [if_pos c]
    obtain ⟨m, m1, m2, m3, m4⟩ := hIns_f (W := W) (e := e) (i := i) x.2 x.1
    obtain ⟨p1, p2⟩ := hpl i hi c
    have lo : ∀ k, k < m → hIns W e i x.2 x.1 k = x.1 k := fun k hk => by rw [m2, if_pos hk]
    have at' : hIns W e i x.2 x.1 m = i := by rw [m2, if_neg (Nat.lt_irrefl _), if_pos rfl]
    have up : ∀ k, m < k → k ≤ x.2 → hIns W e i x.2 x.1 k = x.1 (k - 1) := fun k hk h2 => by rw [m2, if_neg (by omega), if_neg (by omega), if_pos h2]
    have bl : ∀ a, a < m → pl (x.1 a) ≤ pl i := fun a ha => by
      obtain ⟨q1, q2⟩ := i1 (m - 1) (by omega)
      obtain ⟨q3, q4⟩ := hpl _ (show x.1 (m - 1) < n by omega) q2
      have h5 := m3 (by omega)
      rw [beh_s q2.1 c.1 q3 p1 q4 p2] at h5
      by_cases ea : a = m - 1
      · rw [ea]
        omega
      · have := i2 a (m - 1) (by omega) (by omega)
        omega
    have ab : ∀ k, m ≤ k → k < x.2 → pl i < pl (x.1 k) := fun k h1 h2 => by
      obtain ⟨q1, q2⟩ := i1 k h2
      obtain ⟨q3, q4⟩ := hpl _ (show x.1 k < n by omega) q2
      have h5 := m4 k h1 h2
      rw [beh_s q2.1 c.1 q3 p1 q4 p2] at h5
      exact h5
    refine ⟨by show x.2 + 1 ≤ _; omega, fun a ha => ?_, fun a b hab hb => ?_, fun k hk hq => ?_, fun a b hab hb => ?_⟩
    · replace ha : a < x.2 + 1 := ha
      show hIns W e i x.2 x.1 a < i + 1 ∧ _
      show hIns W e i x.2 x.1 a < i + 1 ∧ (eSq (W (e (hIns W e i x.2 x.1 a))) = nI s ∧ ¬ eCall (W (e (hIns W e i x.2 x.1 a))) q r ≤ 0)
      rcases Nat.lt_trichotomy a m with h | h | h
      · rw [lo a h]
        exact ⟨by have := (i1 a (by omega)).1; omega, (i1 a (by omega)).2⟩
      · rw [h, at']
        exact ⟨by omega, c⟩
      · rw [up a h (by omega)]
        exact ⟨by have := (i1 (a - 1) (by omega)).1; omega, (i1 (a - 1) (by omega)).2⟩
    · replace hb : b < x.2 + 1 := hb
      show pl (hIns W e i x.2 x.1 a) ≤ pl (hIns W e i x.2 x.1 b)
      rcases Nat.lt_trichotomy a m with h | h | h
      · rw [lo a h]
        rcases Nat.lt_trichotomy b m with h' | h' | h'
        · rw [lo b h']
          exact i2 a b hab (by omega)
        · rw [h', at']
          exact bl a h
        · rw [up b h' (by omega)]
          exact i2 a (b - 1) (by omega) (by omega)
      · rw [h, at', up b (by omega) (by omega)]
        exact Nat.le_of_lt (ab (b - 1) (by omega) (by omega))
      · rw [up a h (by omega), up b (by omega) (by omega)]
        exact i2 (a - 1) (b - 1) (by omega) (by omega)
    · by_cases ek : k = i
      · exact ⟨m, by show m < x.2 + 1; omega, by rw [ek]; exact at'⟩
      · obtain ⟨a, a1, a2⟩ := i3 k (by omega) hq
        by_cases h : a < m
        · exact ⟨a, by show a < x.2 + 1; omega, (lo a h).trans a2⟩
        · exact ⟨a + 1, by show a + 1 < x.2 + 1; omega, (up (a + 1) (by omega) (by omega)).trans a2⟩
    · replace hb : b < x.2 + 1 := hb
      show hIns W e i x.2 x.1 a ≠ hIns W e i x.2 x.1 b
      rcases Nat.lt_trichotomy a m with h | h | h
      · rw [lo a h]
        rcases Nat.lt_trichotomy b m with h' | h' | h'
        · rw [lo b h']
          exact i4 a b hab (by omega)
        · rw [h', at']
          have := (i1 a (by omega)).1
          omega
        · rw [up b h' (by omega)]
          exact i4 a (b - 1) (by omega) (by omega)
      · rw [h, at', up b (by omega) (by omega)]
        have := (i1 (b - 1) (by omega)).1
        omega
      · rw [up a h (by omega), up b (by omega) (by omega)]
        exact i4 (a - 1) (b - 1) (by omega) (by omega)
  · rw [if_neg c]
    refine ⟨by omega, fun a ha => ⟨by have := (i1 a ha).1; omega, (i1 a ha).2⟩, i2, fun k hk hq => ?_, i4⟩
    by_cases ek : k = i
    · rw [ek] at hq
      exact absurd hq c
    · exact i3 k (by omega) hq
theorem hChL_I {W : Nat → eV} {e : Nat → Nat} {q r s n : Nat} {pl : Nat → Nat} (hpl : ∀ k, k < n → eSq (W (e k)) = nI s ∧ ¬ eCall (W (e k)) q r ≤ 0 → ePl (W (e k)) = nI (pl k) ∧ pl k < 2 ^ 31) : ∀ (d i : Nat) (x : (Nat → Nat) × Nat), i + d = n → chI (fun k => eSq (W (e k)) = nI s ∧ ¬ eCall (W (e k)) q r ≤ 0) pl i x → chI (fun k => eSq (W (e k)) = nI s ∧ ¬ eCall (W (e k)) q r ≤ 0) pl n (hChL W e q r s d i x) ∧ (hChL W e q r s d i x).2 = cntN (clP (fun k => W (e k)) q r s) d i x.2 := by
  intro d
  induction d with
  | zero =>
    intro i x hi h
    rw [← show i = n by omega]
    exact ⟨h, rfl⟩
  | succ d ih =>
    intro i x hi h
    obtain ⟨a1, a2⟩ := ih (i + 1) (hChS W e q r s i x) (by omega) (chI_s hpl (by omega) h)
    refine ⟨a1, ?_⟩
    show (hChL W e q r s d (i + 1) (hChS W e q r s i x)).2 = _
    rw [a2]
    show _ = cntN (clP (fun k => W (e k)) q r s) d (i + 1) (if clP (fun k => W (e k)) q r s i = true then x.2 + 1 else x.2)
    refine congrArg (cntN (clP (fun k => W (e k)) q r s) d (i + 1)) ?_
    unfold hChS clP
    by_cases c : eSq (W (e i)) = nI s ∧ ¬ eCall (W (e i)) q r ≤ 0
    · rw [if_pos c, if_pos (by rw [decide_eq_true c.1, decide_eq_true c.2]; rfl)]
    · rw [if_neg c, if_neg (by rw [Bool.and_eq_true, decide_eq_true_eq, decide_eq_true_eq]; exact c)]
