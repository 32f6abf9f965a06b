/-! two records that show the same -/
def eEq (w v : eV) (n : Nat) : Prop := eSq v = eSq w ∧ ePl v = ePl w ∧ eIz v = eIz w ∧ (∀ k, k < eIz w → eId v k = eId w k) ∧ eRo v = eRo w ∧ (∀ q, q < eRo w → eRs v q = eRs w q ∧ ∀ k, k < eRs w q → eLe v (q * 24 + k) = eLe w (q * 24 + k)) ∧ eQu v = eQu w ∧ ePa v = ePa w ∧ ∀ s, s < n → eCn v s = eCn w s ∧ ePh v s = ePh w s ∧ ∀ c, c < eCn w s → eCa v (s * 2 + c) = eCa w (s * 2 + c)
theorem eEq_r {w : eV} {n : Nat} : eEq w w n := ⟨rfl, rfl, rfl, fun _ _ => rfl, rfl, fun _ _ => ⟨rfl, fun _ _ => rfl⟩, rfl, rfl, fun _ _ => ⟨rfl, rfl, fun _ _ => rfl⟩⟩
theorem eEq_s {w v : eV} {n : Nat} (h : eEq w v n) : eEq v w n := by
  obtain ⟨a1, a2, a3, a4, a5, a6, a7, a8, a9⟩ := h
  refine ⟨a1.symm, a2.symm, a3.symm, fun k hk => (a4 k (by omega)).symm, a5.symm, fun q hq => ?_, a7.symm, a8.symm, fun s hs => ?_⟩
  · obtain ⟨b1, b2⟩ := a6 q (by omega)
    exact ⟨b1.symm, fun k hk => (b2 k (by omega)).symm⟩
  · obtain ⟨b1, b2, b3⟩ := a9 s hs
    exact ⟨b1.symm, b2.symm, fun c hc => (b3 c (by omega)).symm⟩
theorem eEq_t {w v u : eV} {n : Nat} (h : eEq w v n) (h2 : eEq v u n) : eEq w u n := by
  obtain ⟨a1, a2, a3, a4, a5, a6, a7, a8, a9⟩ := h
  obtain ⟨b1, b2, b3, b4, b5, b6, b7, b8, b9⟩ := h2
  refine ⟨b1.trans a1, b2.trans a2, b3.trans a3, fun k hk => (b4 k (by omega)).trans (a4 k hk), b5.trans a5, fun q hq => ?_, b7.trans a7, b8.trans a8, fun s hs => ?_⟩
  · obtain ⟨c1, c2⟩ := a6 q hq
    obtain ⟨d1, d2⟩ := b6 q (by omega)
    exact ⟨d1.trans c1, fun k hk => (d2 k (by omega)).trans (c2 k hk)⟩
  · obtain ⟨c1, c2, c3⟩ := a9 s hs
    obtain ⟨d1, d2, d3⟩ := b9 s hs
    exact ⟨d1.trans c1, d2.trans c2, fun c hc => (d3 c (by omega)).trans (c3 c hc)⟩
theorem eEq_m {w v : eV} {n m : Nat} (h : eEq w v n) (hm : m ≤ n) : eEq w v m := by
  obtain ⟨a1, a2, a3, a4, a5, a6, a7, a8, a9⟩ := h
  exact ⟨a1, a2, a3, a4, a5, a6, a7, a8, fun s hs => a9 s (by omega)⟩
theorem mE_q {y : mV} {r n : Nat} {w v : eV} (h : mE y r w n) (e : eEq w v n) : mE y r v n := by
  obtain ⟨h1, h2, h3, h4, h5, h6, h7, h8, h9, h10⟩ := h
  obtain ⟨a1, a2, a3, a4, a5, a6, a7, a8, a9⟩ := e
  refine ⟨h1.trans a1.symm, h2.trans a2.symm, by rw [a3]; exact h3, fun k hk => (h4 k (by omega)).trans (a4 k (by omega)).symm, by rw [a5]; exact h5, by omega, fun q hq => ?_, h8.trans a7.symm, by rw [a8]; exact h9, fun s hs => ?_⟩
  · obtain ⟨b1, b2⟩ := a6 q (by omega)
    obtain ⟨c1, c2⟩ := h7 q (by omega)
    exact ⟨by rw [b1]; exact c1, fun k hk => (c2 k (by omega)).trans (b2 k (by omega)).symm⟩
  · obtain ⟨b1, b2, b3⟩ := a9 s hs
    obtain ⟨c1, c2, c3⟩ := h10 s hs
    exact ⟨by rw [b1]; exact c1, by rw [b2]; exact c2, fun c hc => (c3 c (by omega)).trans (b3 c (by omega)).symm⟩
theorem eLv_q {w v : eV} {n : Nat} (h : eLv w) (e : eEq w v n) : eLv v := by
  obtain ⟨a1, a2, a3, a4, a5, a6, a7, a8, a9⟩ := e
  refine ⟨fun q k hq hk => ?_, fun k hk => ?_, fun p q h1 h2 h3 h4 h5 => ?_⟩
  · obtain ⟨b1, b2⟩ := a6 q (by omega)
    rw [b2 k (by omega)]
    exact h.1 q k (by omega) (by omega)
  · rw [a4 k (by omega)]
    exact h.2.1 k (by omega)
  · obtain ⟨b1, b2⟩ := a6 p (by omega)
    obtain ⟨c1, c2⟩ := a6 q (by omega)
    refine h.2.2 p q h1 h2 (by omega) (by omega) (fun k hk => ?_)
    rw [← b2 k hk, ← c2 k (by omega)]
    exact h5 k (by omega)
theorem eGo_q {w v : eV} {n : Nat} {g : gV} (h : eGo w n g) (e : eEq w v n) : eGo v n g := by
  obtain ⟨⟨s, p, b1, b2, b3, b4, b5⟩, h2, h3, h4, h5⟩ := h
  obtain ⟨a1, a2, a3, a4, a5, a6, a7, a8, a9⟩ := e
  refine ⟨⟨s, p, a1.trans b1, a2.trans b2, b3, b4, by rw [(a6 0 (by omega)).1]; exact b5⟩, by omega, fun r hr => by rw [(a6 r (by omega)).1]; exact h3 r (by omega), by rw [a7]; exact h4, fun i hi => ?_⟩
  obtain ⟨c1, c2, c3⟩ := a9 i hi
  refine ⟨by rw [c1]; exact (h5 i hi).1, fun c hcc => ?_⟩
  rw [c1] at hcc
  rw [c3 c hcc, a5]
  exact (h5 i hi).2 c hcc
theorem enOk_q {w v : eV} {n : Nat} (h : enOk w) (e : eEq w v n) : eRo v ≤ 4 ∧ (∀ k, k < eRo v → eRs v k ≤ 24) ∧ eIz v ≤ 20 := by
  obtain ⟨a1, a2, a3, a4, a5, a6, a7, a8, a9⟩ := e
  exact ⟨by rw [a5]; exact h.1, fun k hk => by rw [(a6 k (by omega)).1]; exact h.2.1 k, by rw [a3]; exact h.2.2.2⟩
theorem cpy_i {α : Type} {f g : Nat → α} {n k : Nat} (h : k < n) : va_cpy f g 0 0 n k = f k := by
  unfold va_cpy
  rw [if_pos ⟨Nat.zero_le _, by omega⟩]
  exact congrArg f (by omega)
theorem eCopy_q {v w : eV} (hw : enOk w) : eEq w (eCopy v w) 3 := by
  obtain ⟨k1, k2, k3, k4⟩ := hw
  refine ⟨rfl, rfl, rfl, fun k hk => cpy_i (by omega), rfl, fun q hq => ⟨cpy_i (by omega), fun k hk => cpy_i (by have := k2 q; omega)⟩, rfl, rfl, fun s hs => ?_⟩
  rcases (show s = 0 ∨ s = 1 ∨ s = 2 by omega) with e | e | e <;> subst e <;> refine ⟨rfl, rfl, fun c hc => ?_⟩ <;> (have := k3 0; have := k3 1; have := k3 2; rcases (show c = 0 ∨ c = 1 by omega) with e | e <;> subst e <;> rfl)
/-- one of several other rows, by its number -/
def splC (q : Nat) (x : Int32) : Int32 := if x ≤ 0 then x else if x = nI q then nI 1 else nI 0
theorem eAltC_f {q i : Nat} : ∀ (d c : Nat) (y : eV), c + d = eCn y i → eAltC q i d c y = wCa y (eCa (eAltC q i d c y)) ∧ ∀ j, eCa (eAltC q i d c y) j = if i * 2 + c ≤ j ∧ j < i * 2 + c + d then splC q (eCa y j) else eCa y j := by
  intro d
  induction d with
  | zero => intro c y h; exact ⟨rfl, fun j => (if_neg (by omega)).symm⟩
  | succ d ih =>
    intro c y h
    have e : (if eCall y i c ≤ 0 then y else wCa y (upd (eCa y) (i * 2 + c) (if eCall y i c = nI q then nI 1 else nI 0))) = wCa y (upd (eCa y) (i * 2 + c) (splC q (eCa y (i * 2 + c)))) := by
      have e1 : eCall y i c = eCa y (i * 2 + c) := if_pos (by omega)
      rw [e1]
      unfold splC
      split
      · have : upd (eCa y) (i * 2 + c) (eCa y (i * 2 + c)) = eCa y := by
          funext j
          by_cases q : j = i * 2 + c
          · rw [q, updS]
          · rw [updN q]
        rw [this]
      · rfl
    have e2 : eAltC q i (d + 1) c y = eAltC q i d (c + 1) (wCa y (upd (eCa y) (i * 2 + c) (splC q (eCa y (i * 2 + c))))) := by
      rw [← e]
      rfl
    rw [e2]
    obtain ⟨a1, a2⟩ := ih (c + 1) (wCa y (upd (eCa y) (i * 2 + c) (splC q (eCa y (i * 2 + c))))) (by show c + 1 + d = eCn y i; omega)
    refine ⟨a1, fun j => ?_⟩
    rw [a2 j]
    show (if i * 2 + (c + 1) ≤ j ∧ j < i * 2 + (c + 1) + d then splC q (upd (eCa y) (i * 2 + c) (splC q (eCa y (i * 2 + c))) j) else upd (eCa y) (i * 2 + c) (splC q (eCa y (i * 2 + c))) j) = _
    by_cases e3 : j = i * 2 + c
    · subst e3
      rw [if_neg (by omega), updS, if_pos (by omega)]
    · rw [updN e3]
      by_cases e4 : i * 2 + (c + 1) ≤ j ∧ j < i * 2 + (c + 1) + d
      · rw [if_pos e4, if_pos (by omega)]
      · rw [if_neg e4, if_neg (by omega)]
theorem eAltS_f {q : Nat} : ∀ (d i : Nat) (y : eV), (∀ s, eCn y s ≤ 2) → eAltS q d i y = wCa y (eCa (eAltS q d i y)) ∧ ∀ s c, c < eCn y s → eCa (eAltS q d i y) (s * 2 + c) = if i ≤ s ∧ s < i + d then splC q (eCa y (s * 2 + c)) else eCa y (s * 2 + c) := by
  intro d
  induction d with
  | zero => intro i y h; exact ⟨rfl, fun s c _ => (if_neg (by omega)).symm⟩
  | succ d ih =>
    intro i y h
    obtain ⟨a1, a2⟩ := eAltC_f (q := q) (i := i) (eCn y i - 0) 0 y (by omega)
    have e2 : eAltS q (d + 1) i y = eAltS q d (i + 1) (eAltC q i (eCn y i - 0) 0 y) := rfl
    rw [e2]
    have hcn : ∀ s, eCn (eAltC q i (eCn y i - 0) 0 y) s = eCn y s := fun s => by rw [a1]
    obtain ⟨b1, b2⟩ := ih (i + 1) (eAltC q i (eCn y i - 0) 0 y) (fun s => by rw [hcn]; exact h s)
    refine ⟨by rw [b1, a1], fun s c hc => ?_⟩
    have := h s
    have := h i
    rw [b2 s c (by rw [hcn]; exact hc), a2 (s * 2 + c)]
    by_cases e : s = i
    · subst e
      rw [if_neg (by omega), if_pos (by omega), if_pos (by omega)]
    · by_cases e4 : i + 1 ≤ s ∧ s < i + 1 + d
      · rw [if_pos e4, if_neg (by omega), if_pos (by omega)]
      · rw [if_neg e4, if_neg (by omega), if_neg (by omega)]
abbrev eTkW (w : eV) (q : Nat) : eV := wCa (wRo (eCopyR w 1 w q) 2) (fun j => splC q (eCa w j))
theorem eTake_q {v w : eV} {q m : Nat} (hv : enOk v) (hw : enOk w) (hm : m ≤ 3) (hq : q < eRo w) (h1 : 1 ≤ q) : eEq (eTkW w q) (eTake v w q m) m := by
  obtain ⟨c1, c2, c3, c4, c5, c6, c7, c8, c9⟩ := eCopy_q (v := v) hw
  have hok := eCopy_ok hv hw
  obtain ⟨k1, k2, k3, k4⟩ := hw
  obtain ⟨a1, a2⟩ := eAltS_f (q := q) (m - 0) 0 (wRo (eCopyR (eCopy v w) 1 w q) 2) hok.2.2.1
  have e : eTake v w q m = eAltS q (m - 0) 0 (wRo (eCopyR (eCopy v w) 1 w q) 2) := rfl
  rw [e]
  generalize hC : eCa (eAltS q (m - 0) 0 (wRo (eCopyR (eCopy v w) 1 w q) 2)) = C at a1 a2
  rw [a1]
  refine ⟨c1, c2, c3, c4, rfl, fun r hr => ?_, c7, c8, fun s hs => ⟨(c9 s (by omega)).1, (c9 s (by omega)).2.1, fun c hc => ?_⟩⟩
  · have hr : r < 2 := hr
    rcases (show r = 0 ∨ r = 1 by omega) with e | e <;> subst e
    · refine ⟨(c6 0 (by omega)).1, fun k hk => ?_⟩
      have hk : k < eRs w 0 := hk
      have := k2 0
      show va_cpy (eLe w) (eLe (eCopy v w)) (q * 24) (1 * 24) 24 (0 * 24 + k) = va_cpy (eLe w) (eLe w) (q * 24) (1 * 24) 24 (0 * 24 + k)
      unfold va_cpy
      rw [if_neg (by omega), if_neg (by omega)]
      exact (c6 0 (by omega)).2 k hk
    · refine ⟨rfl, fun k hk => ?_⟩
      have hk : k < eRs w q := hk
      have := k2 q
      show va_cpy (eLe w) (eLe (eCopy v w)) (q * 24) (1 * 24) 24 (1 * 24 + k) = va_cpy (eLe w) (eLe w) (q * 24) (1 * 24) 24 (1 * 24 + k)
      unfold va_cpy
      rw [if_pos (by omega), if_pos (by omega)]
  · have hc : c < eCn w s := hc
    have := a2 s c (by show c < eCn (eCopy v w) s; rw [(c9 s (by omega)).1]; exact hc)
    show C (s * 2 + c) = splC q (eCa w (s * 2 + c))
    rw [this, if_pos (by omega)]
    show splC q (eCa (eCopy v w) (s * 2 + c)) = splC q (eCa w (s * 2 + c))
    rw [(c9 s (by omega)).2.2 c hc]
/-- a record with one other row is what its splitting gives -/
theorem eTkW_1 {w : eV} {m : Nat} {g : gV} (hw : enOk w) (hg : eGo w m g) (h2 : eRo w = 2) : eEq (eTkW w 1) w m := by
  refine ⟨rfl, rfl, rfl, fun _ _ => rfl, h2, fun r hr => ?_, rfl, rfl, fun s hs => ⟨rfl, rfl, fun c hc => ?_⟩⟩
  · have hr : r < 2 := hr
    rcases (show r = 0 ∨ r = 1 by omega) with e | e <;> subst e
    · refine ⟨rfl, fun k hk => ?_⟩
      have hk : k < eRs w 0 := hk
      have := hw.2.1 0
      show _ = va_cpy (eLe w) (eLe w) (1 * 24) (1 * 24) 24 (0 * 24 + k)
      unfold va_cpy
      rw [if_neg (by omega)]
    · refine ⟨rfl, fun k hk => ?_⟩
      have hk : k < eRs w 1 := hk
      have := hw.2.1 1
      show _ = va_cpy (eLe w) (eLe w) (1 * 24) (1 * 24) 24 (1 * 24 + k)
      unfold va_cpy
      rw [if_pos (by omega)]
      exact congrArg (eLe w) (by omega)
  · have hc : c < eCn w s := hc
    have := hw.2.2.1 s
    show eCa w (s * 2 + c) = splC 1 (eCa w (s * 2 + c))
    rcases (hg.2.2.2.2 s hs).2 c hc with q | ⟨n, q1, q2⟩
    · rw [q]
      decide
    · rw [q2]
      rcases (show n = 0 ∨ n = 1 by omega) with e | e <;> subst e <;> decide
theorem eTkW_Lv {w : eV} {q : Nat} (h : eLv w) (hw : enOk w) (hq : q < eRo w) : eLv (eTkW w q) := by
  refine ⟨fun r k hr hk => ?_, h.2.1, fun p q' h1 h2 h3 => absurd (show q' < 2 from h3) (by omega)⟩
  have hr : r < 2 := hr
  have := hw.2.1 0
  have := hw.2.1 q
  rcases (show r = 0 ∨ r = 1 by omega) with e | e <;> subst e
  · have hk : k < eRs w 0 := hk
    show ∃ c, c < 128 ∧ va_cpy (eLe w) (eLe w) (q * 24) (1 * 24) 24 (0 * 24 + k) = nI c
    unfold va_cpy
    rw [if_neg (by omega)]
    exact h.1 0 k (by omega) hk
  · have hk : k < eRs w q := hk
    show ∃ c, c < 128 ∧ va_cpy (eLe w) (eLe w) (q * 24) (1 * 24) 24 (1 * 24 + k) = nI c
    unfold va_cpy
    rw [if_pos (by omega), show 1 * 24 + k - 1 * 24 = k by omega]
    exact h.1 q k hq hk
theorem splC_ok {q : Nat} {x : Int32} {m : Nat} (hm : m ≤ 4) (h : x = -1 ∨ ∃ n : Nat, n < m ∧ x = nI n) : splC q x = -1 ∨ ∃ n : Nat, n < 2 ∧ splC q x = nI n := by
  unfold splC
  split
  · rename_i hx
    rcases h with h | ⟨n, h1, h2⟩
    · exact Or.inl h
    · rw [h2] at hx ⊢
      by_cases hb : n < 2 ^ 31
      · have : n ≤ 0 := nI_le_n hx hb (by decide)
        exact Or.inr ⟨n, by omega, rfl⟩
      · exact absurd hm (by omega)
  · split
    · exact Or.inr ⟨1, by decide, rfl⟩
    · exact Or.inr ⟨0, by decide, rfl⟩
