/-! what making normal does to a record -/
def eRst (y v : eV) : Prop := eId y = eId v ∧ eIz y = eIz v ∧ eCa y = eCa v ∧ eCn y = eCn v ∧ ePh y = ePh v ∧ eSq y = eSq v ∧ eRo y = eRo v ∧ eQu y = eQu v ∧ ePa y = ePa v
theorem eRst_r {v : eV} : eRst v v := ⟨rfl, rfl, rfl, rfl, rfl, rfl, rfl, rfl, rfl⟩
theorem eRst_t {u y v : eV} (h : eRst u y) (h2 : eRst y v) : eRst u v := by
  obtain ⟨a1, a2, a3, a4, a5, a6, a7, a8, a9⟩ := h
  obtain ⟨b1, b2, b3, b4, b5, b6, b7, b8, b9⟩ := h2
  exact ⟨a1.trans b1, a2.trans b2, a3.trans b3, a4.trans b4, a5.trans b5, a6.trans b6, a7.trans b7, a8.trans b8, a9.trans b9⟩
theorem eDecL_r : ∀ (d r : Nat) (y : eV), eDecL d r y = wRs y (eRs (eDecL d r y)) := by
  intro d
  induction d with
  | zero => intro r y; rfl
  | succ d ih =>
    intro r y
    show eDecL d (r + 1) (eDec1 y r) = wRs y (eRs (eDecL d (r + 1) (eDec1 y r)))
    rw [ih]
theorem eDec_f {y : eV} : eRst (eDec y) y ∧ ePl (eDec y) = ePl y ∧ eLe (eDec y) = eLe y ∧ ∀ q, q < eRo y → eRs (eDec y) q = eRs y q - 1 := by
  have e := eDecL_r (eRo y - 0) 0 y
  have h := eDecL_rs (eRo y - 0) 0 y
  unfold eDec
  generalize eDecL (eRo y - 0) 0 y = z at e h
  rw [e]
  refine ⟨eRst_r, rfl, rfl, fun q hq => ?_⟩
  show eRs z q = _
  rw [h q, if_pos (by omega)]
theorem eMov_c {y v : eV} {g : gV} {s p r k n : Nat} (hk : k < 24) (hs : eRs y r = eRs v r) (h : ∀ j, j ≤ k → eLe y (r * 24 + j) = eLe v (r * 24 + j)) : eMov y g s p r k n = eMov v g s p r k n := by
  unfold eMov
  split
  · rfl
  · unfold eLet
    rw [hs]
    split
    · rw [nI_clamp (n := k - n) (by omega)]
      exact h _ (by omega)
    · rfl
theorem eMvL_f {g : gV} {s p n r : Nat} : ∀ (m : Nat) (y : eV), m ≤ 24 → eMvL g s p n r m y = wLe y (eLe (eMvL g s p n r m y)) ∧ ∀ j, eLe (eMvL g s p n r m y) j = if r * 24 ≤ j ∧ j < r * 24 + m then eMov y g s p r (j - r * 24) n else eLe y j := by
  intro m
  induction m with
  | zero => intro y _; exact ⟨rfl, fun j => (if_neg (by omega)).symm⟩
  | succ m ih =>
    intro y hm
    obtain ⟨a1, a2⟩ := ih (wLe y (upd (eLe y) (r * 24 + m) (eMov y g s p r m n))) (by omega)
    have e : eMvL g s p n r (m + 1) y = eMvL g s p n r m (wLe y (upd (eLe y) (r * 24 + m) (eMov y g s p r m n))) := rfl
    rw [e]
    refine ⟨a1, fun j => ?_⟩
    rw [a2 j]
    by_cases e1 : j = r * 24 + m
    · subst e1
      rw [if_neg (by omega), if_pos (by omega), show r * 24 + m - r * 24 = m by omega]
      exact updS
    · by_cases e2 : r * 24 ≤ j ∧ j < r * 24 + m
      · rw [if_pos e2, if_pos (by omega)]
        refine eMov_c (by omega) rfl (fun i hi => ?_)
        exact updN (by omega)
      · rw [if_neg e2, if_neg (by omega)]
        exact updN e1
theorem eMvR_f {g : gV} {s p n : Nat} : ∀ (d r : Nat) (y : eV), (∀ k, eRs y k ≤ 24) → eMvR g s p n d r y = wLe y (eLe (eMvR g s p n d r y)) ∧ ∀ q k, k < 24 → eLe (eMvR g s p n d r y) (q * 24 + k) = if (r ≤ q ∧ q < r + d) ∧ k < eRs y q then eMov y g s p q k n else eLe y (q * 24 + k) := by
  intro d
  induction d with
  | zero => intro r y _; exact ⟨rfl, fun q k _ => (if_neg (by omega)).symm⟩
  | succ d ih =>
    intro r y hy
    obtain ⟨a1, a2⟩ := eMvL_f (g := g) (s := s) (p := p) (n := n) (r := r) (eRs y r) y (hy r)
    have e : eMvR g s p n (d + 1) r y = eMvR g s p n d (r + 1) (eMvL g s p n r (eRs y r) y) := rfl
    rw [e]
    generalize eMvL g s p n r (eRs y r) y = z at a1 a2
    have hz : eRs z = eRs y := by rw [a1]
    obtain ⟨b1, b2⟩ := ih (r + 1) z (fun k => by rw [hz]; exact hy k)
    refine ⟨by rw [b1, a1], fun q k hk => ?_⟩
    have := hy r
    rw [b2 q k hk, hz]
    by_cases e1 : q = r
    · subst e1
      rw [if_neg (by omega), a2]
      by_cases e2 : k < eRs y q
      · rw [if_pos (by omega), if_pos (by omega), show q * 24 + k - q * 24 = k by omega]
      · rw [if_neg (by omega), if_neg (by omega)]
    · by_cases e2 : (r + 1 ≤ q ∧ q < r + 1 + d) ∧ k < eRs y q
      · rw [if_pos e2, if_pos (by omega)]
        refine eMov_c hk (congrFun hz q) (fun j hj => ?_)
        rw [a2, if_neg (by omega)]
      · rw [if_neg e2, if_neg (by omega), a2, if_neg (by omega)]
theorem eMvA_f {v : eV} {g : gV} {s p n : Nat} (hv : ∀ k, eRs v k ≤ 24) : eRst (eMvA v g s p n) v ∧ ePl (eMvA v g s p n) = nI (p - n) ∧ eRs (eMvA v g s p n) = eRs v ∧ ∀ q k, q < eRo v → k < eRs v q → eLe (eMvA v g s p n) (q * 24 + k) = eMov v g s p q k n := by
  obtain ⟨a1, a2⟩ := eMvR_f (g := g) (s := s) (p := p) (n := n) (eRo v - 0) 0 v hv
  unfold eMvA
  generalize eMvR g s p n (eRo v - 0) 0 v = z at a1 a2
  rw [a1]
  refine ⟨eRst_r, rfl, rfl, fun q k hq hk => ?_⟩
  have := hv q
  show eLe z (q * 24 + k) = _
  rw [a2 q k (by omega), if_pos ⟨by omega, hk⟩]
theorem eShL_f {r c : Nat} : ∀ (d k : Nat) (y : eV), eRs y r + c = k → eRs y r + d ≤ 24 → eShL r d k y = wRs (wLe y (eLe (eShL r d k y))) (va_up (eRs y) r (eRs y r + d)) ∧ ∀ j, eLe (eShL r d k y) j = if r * 24 + eRs y r ≤ j ∧ j < r * 24 + eRs y r + d then eLe y (j + c) else eLe y j := by
  intro d
  induction d with
  | zero =>
    intro k y h1 h2
    refine ⟨?_, fun j => (if_neg (by omega)).symm⟩
    show y = wRs (wLe y (eLe y)) (va_up (eRs y) r (eRs y r))
    rw [va_up_id rfl]
  | succ d ih =>
    intro k y h1 h2
    have e0 : eAddL y r (eLe y (r * 24 + k)) = wRs (wLe y (upd (eLe y) (r * 24 + eRs y r) (eLe y (r * 24 + k)))) (va_up (eRs y) r (eRs y r + 1)) := if_pos (by omega)
    have e : eShL r (d + 1) k y = eShL r d (k + 1) (eAddL y r (eLe y (r * 24 + k))) := rfl
    rw [e, e0]
    have e3 : eRs (wRs (wLe y (upd (eLe y) (r * 24 + eRs y r) (eLe y (r * 24 + k)))) (va_up (eRs y) r (eRs y r + 1))) r = eRs y r + 1 := va_up_self _ _ _
    obtain ⟨a1, a2⟩ := ih (k + 1) (wRs (wLe y (upd (eLe y) (r * 24 + eRs y r) (eLe y (r * 24 + k)))) (va_up (eRs y) r (eRs y r + 1))) (by rw [e3]; omega) (by rw [e3]; omega)
    rw [e3] at a1 a2
    generalize eShL r d (k + 1) (wRs (wLe y (upd (eLe y) (r * 24 + eRs y r) (eLe y (r * 24 + k)))) (va_up (eRs y) r (eRs y r + 1))) = z at a1 a2
    refine ⟨?_, fun j => ?_⟩
    · rw [a1]
      show wRs (wLe y (eLe z)) (va_up (va_up (eRs y) r (eRs y r + 1)) r (eRs y r + 1 + d)) = wRs (wLe y (eLe z)) (va_up (eRs y) r (eRs y r + (d + 1)))
      rw [va_up_up, show eRs y r + 1 + d = eRs y r + (d + 1) by omega]
    · rw [a2 j]
      show (if r * 24 + (eRs y r + 1) ≤ j ∧ j < r * 24 + (eRs y r + 1) + d then upd (eLe y) (r * 24 + eRs y r) (eLe y (r * 24 + k)) (j + c) else upd (eLe y) (r * 24 + eRs y r) (eLe y (r * 24 + k)) j) = _
      by_cases e1 : j = r * 24 + eRs y r
      · subst e1
        rw [if_neg (by omega), updS, if_pos (by omega)]
        exact congrArg (eLe y) (by omega)
      · by_cases e2 : r * 24 + (eRs y r + 1) ≤ j ∧ j < r * 24 + (eRs y r + 1) + d
        · rw [if_pos e2, if_pos (by omega), updN (by omega)]
        · rw [if_neg e2, if_neg (by omega), updN e1]
theorem eShR_f {c : Nat} : ∀ (d r : Nat) (y : eV), (∀ k, eRs y k ≤ 24) → eRst (eShR c d r y) y ∧ ePl (eShR c d r y) = ePl y ∧ (∀ q, eRs (eShR c d r y) q = if r ≤ q ∧ q < r + d then eRs y q - c else eRs y q) ∧ ∀ q k, k < 24 → eLe (eShR c d r y) (q * 24 + k) = if (r ≤ q ∧ q < r + d) ∧ k < eRs y q - c then eLe y (q * 24 + k + c) else eLe y (q * 24 + k) := by
  intro d
  induction d with
  | zero => intro r y _; exact ⟨eRst_r, rfl, fun q => (if_neg (by omega)).symm, fun q k _ => (if_neg (by omega)).symm⟩
  | succ d ih =>
    intro r y hy
    have e3 : eRs (wRs y (va_up (eRs y) r 0)) r = 0 := va_up_self _ _ _
    have := hy r
    obtain ⟨a1, a2⟩ := eShL_f (r := r) (c := c) (eRs y r - c) c (wRs y (va_up (eRs y) r 0)) (by rw [e3]; omega) (by rw [e3]; omega)
    rw [e3] at a1 a2
    have e : eShR c (d + 1) r y = eShR c d (r + 1) (eShL r (eRs y r - c) c (wRs y (va_up (eRs y) r 0))) := rfl
    rw [e]
    generalize eShL r (eRs y r - c) c (wRs y (va_up (eRs y) r 0)) = z at a1 a2
    have hz : eRs z = va_up (eRs y) r (eRs y r - c) := by
      rw [a1]
      show va_up (va_up (eRs y) r 0) r (0 + (eRs y r - c)) = _
      rw [va_up_up, Nat.zero_add]
    have hzr : eRst z y ∧ ePl z = ePl y := by
      rw [a1]
      exact ⟨eRst_r, rfl⟩
    obtain ⟨b0, b1, b2, b3⟩ := ih (r + 1) z (fun k => by
      rw [hz]
      by_cases q : k = r
      · rw [q, va_up_self]; omega
      · rw [va_up_ne _ _ q]; exact hy k)
    have ha : ∀ j, eLe z j = if r * 24 ≤ j ∧ j < r * 24 + (eRs y r - c) then eLe y (j + c) else eLe y j := fun j => by
      rw [a2 j]
      show (if r * 24 + 0 ≤ j ∧ j < r * 24 + 0 + (eRs y r - c) then eLe y (j + c) else eLe y j) = _
      rw [Nat.add_zero]
    refine ⟨eRst_t b0 hzr.1, b1.trans hzr.2, fun q => ?_, fun q k hk => ?_⟩
    · rw [b2 q, hz]
      by_cases e1 : q = r
      · subst e1
        rw [if_neg (by omega), va_up_self, if_pos (by omega)]
      · rw [va_up_ne _ _ e1]
        by_cases e2 : r + 1 ≤ q ∧ q < r + 1 + d
        · rw [if_pos e2, if_pos (by omega)]
        · rw [if_neg e2, if_neg (by omega)]
    · rw [b3 q k hk, hz]
      by_cases e1 : q = r
      · subst e1
        rw [if_neg (by omega), ha]
        by_cases e2 : k < eRs y q - c
        · rw [if_pos (by omega), if_pos (by omega)]
        · rw [if_neg (by omega), if_neg (by omega)]
      · rw [va_up_ne _ _ e1]
        by_cases e2 : (r + 1 ≤ q ∧ q < r + 1 + d) ∧ k < eRs y q - c
        · have := hy q
          rw [if_pos e2, if_pos (by omega), ha, if_neg (by omega)]
        · rw [if_neg e2, if_neg (by omega), ha, if_neg (by omega)]
theorem eTrim_f {v : eV} {p : Nat} (hv : ∀ k, eRs v k ≤ 24) : eRst (eTrim v p) v ∧ ePl (eTrim v p) = nI (p + eBeg v) ∧ ∀ q, q < eRo v → eRs (eTrim v p) q = eRs v q - eBeg v ∧ ∀ k, k < eRs v q - eBeg v → eLe (eTrim v p) (q * 24 + k) = eLe v (q * 24 + k + eBeg v) := by
  obtain ⟨b0, b1, b2, b3⟩ := eShR_f (c := eBeg v) (eRo v - 0) 0 v hv
  unfold eTrim
  refine ⟨b0, rfl, fun q hq => ⟨?_, fun k hk => ?_⟩⟩
  · show eRs (eShR (eBeg v) (eRo v - 0) 0 v) q = _
    rw [b2 q, if_pos (by omega)]
  · have := hv q
    show eLe (eShR (eBeg v) (eRo v - 0) 0 v) (q * 24 + k) = _
    rw [b3 q k (by omega), if_pos ⟨by omega, hk⟩]
theorem eEnd_a {y : eV} {g : gV} {s p n : Nat} (h : eEnd y g s p n = true) : ∀ r, r < eRo y → eMov y g s p r (eRs y r - 1) n = eMov y g s p 0 (eRs y 0 - 1) n := by
  intro r hr
  by_cases e : r = 0
  · rw [e]
  · exact of_decide_eq_true ((allB_iff _ _ |>.mp h) r (by omega) (by omega))
theorem eStepL_a {v : eV} {g : gV} {s p : Nat} : ∀ (d n m : Nat), n ≤ m → m < eStepL v g s p d n → eEnd v g s p m = true := by
  intro d
  induction d with
  | zero => intro n m h1 h2; exact absurd (show m < n from h2) (by omega)
  | succ d ih =>
    intro n m h1 h2
    have h2 : m < if eEnd v g s p n = true then eStepL v g s p d (n + 1) else n := h2
    split at h2
    · rename_i q
      by_cases e : m = n
      · rw [e]; exact q
      · exact ih (n + 1) m (by omega) h2
    · omega
theorem eBegL_a {v : eV} : ∀ (d c k : Nat), c ≤ k → k < eBegL v d c → eAlike v k = true := by
  intro d
  induction d with
  | zero => intro n m h1 h2; exact absurd (show m < n from h2) (by omega)
  | succ d ih =>
    intro n m h1 h2
    have h2 : m < if eAlike v n = true then eBegL v d (n + 1) else n := h2
    split at h2
    · rename_i q
      by_cases e : m = n
      · rw [e]; exact q
      · exact ih (n + 1) m (by omega) h2
    · omega
theorem eMov_0 {v : eV} {g : gV} {s p q k : Nat} (hk : k < eRs v q) (hv : eRs v q ≤ 24) : eMov v g s p q k 0 = eLe v (q * 24 + k) := by
  unfold eMov
  rw [if_neg (by omega)]
  exact eLet_in hk hv
theorem eDec_24 {v : eV} (hv : ∀ k, eRs v k ≤ 24) : ∀ k, eRs (eDec v) k ≤ 24 := fun k => by
  unfold eDec
  rw [eDecL_rs (eRo v - 0) 0 v k]
  have := hv k
  split <;> omega
/-- cutting the ends, with its count -/
theorem eCutL_f {g : gV} {s p : Nat} : ∀ (d c : Nat) (y : eV), (∀ k, eRs y k ≤ 24) → (∀ q, q < eRo y → d < eRs y q) → ∃ m, m ≤ d ∧ (eCutL g s p d c y).1 = c + m ∧ eRst (eCutL g s p d c y).2 y ∧ ePl (eCutL g s p d c y).2 = ePl y ∧ eLe (eCutL g s p d c y).2 = eLe y ∧ (∀ q, q < eRo y → eRs (eCutL g s p d c y).2 q = eRs y q - m) ∧ ∀ a b, a < eRo y → b < eRo y → eRs y a = eRs y b → ∀ j, j < m → eLe y (a * 24 + (eRs y a - 1 - j)) = eLe y (b * 24 + (eRs y b - 1 - j)) := by
  intro d
  induction d with
  | zero => intro c y _ _; exact ⟨0, Nat.le_refl _, rfl, eRst_r, rfl, rfl, fun q _ => rfl, fun _ _ _ _ _ j hj => absurd hj (Nat.not_lt_zero _)⟩
  | succ d ih =>
    intro c y hy hd
    unfold eCutL
    split
    · rename_i hE
      obtain ⟨d1, d2, d3, d4⟩ := eDec_f (y := y)
      have hro : eRo (eDec y) = eRo y := d1.2.2.2.2.2.2.1
      obtain ⟨m, h0, h1, h2, h3, h4, h5, h6⟩ := ih (c + 1) (eDec y) (eDec_24 hy) (fun q hq => by
        rw [hro] at hq
        rw [d4 q hq]
        have := hd q hq
        omega)
      refine ⟨m + 1, by omega, by rw [h1]; omega, eRst_t h2 d1, h3.trans d2, h4.trans d3, fun q hq => ?_, fun a b ha hb hab j hj => ?_⟩
      · rw [h5 q (by omega), d4 q hq]
        omega
      · by_cases e : j = 0
        · subst e
          have qa := eEnd_a hE a ha
          have qb := eEnd_a hE b hb
          have ka := hd a ha
          have kb := hd b hb
          rw [eMov_0 (by omega) (hy a)] at qa
          rw [eMov_0 (by omega) (hy b)] at qb
          exact qa.trans qb.symm
        · have q := h6 a b (by omega) (by omega) (by rw [d4 a ha, d4 b hb, hab]) (j - 1) (by omega)
          rw [d3, d4 a ha, d4 b hb, show eRs y a - 1 - 1 - (j - 1) = eRs y a - 1 - j by omega, show eRs y b - 1 - 1 - (j - 1) = eRs y b - 1 - j by omega] at q
          exact q
    · exact ⟨0, Nat.zero_le _, rfl, eRst_r, rfl, rfl, fun q _ => rfl, fun _ _ _ _ _ j hj => absurd hj (Nat.not_lt_zero _)⟩
theorem eMin_f {v : eV} (hv : ∀ k, eRs v k ≤ 24) {x : Nat} (hx : x ≤ 24) : x ≤ eMin v ↔ ∀ q, q < eRo v → x ≤ eRs v q := ⟨fun h q hq => Nat.le_trans h (eMin_le hq), fun h => eMinL_ge _ _ _ hx (fun q _ h2 => h q (by omega))⟩