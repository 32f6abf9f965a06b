/-! joining two records: the rows -/
def xs (w u : eV) (q : Nat) : Nat := eRs w q + min (eRs u 0 - eRs w 0) (26 - eRs w q)
def xl (w u : eV) (q k : Nat) : Int32 := if k < eRs w q then eLe w (q * 24 + k) else eLe u (eRs w 0 + (k - eRs w q))
/-- row q of record r: s letters l -/
def rwA (v : mV) (r q s : Nat) (l : Nat → Int32) : Prop := v.1 26 (4 * r + q) = nI s ∧ ∀ k, k < s → v.1 25 (26 * (4 * r + q) + k) = l k
theorem rwA_c {v : mV} {r q s : Nat} {l l' : Nat → Int32} (h : rwA v r q s l) (e : ∀ k, k < s → l k = l' k) : rwA v r q s l' := ⟨h.1, fun k hk => (h.2 k hk).trans (e k hk)⟩
/-- the rows of a row made longer -/
theorem lg_row {v : mV} {a q b p w : Nat} {wf u : eV} (hb : ∀ r, r < eRo wf → rwA v b r (eRs wf r) (fun k => eLe wf (r * 24 + k))) (hu : rwA v w 0 (eRs u 0) (fun k => eLe u (0 * 24 + k))) (hp : p < eRo wf) (ha : a ≠ b) (haw : a ≠ w) (hq : q < 4) (hp4 : p < 4) (hz : ∀ r, eRs wf r ≤ 24) (hzu : eRs u 0 ≤ 24) : rwA (mLg v a q b p w (eRs wf p) (eRs wf 0) (eRs u 0)) a q (xs wf u p) (xl wf u p) := by
  have h0 := hz p
  have h00 := hz 0
  refine ⟨?_, fun k hk => ?_⟩
  · show upd (v.1 26) (4 * a + q) _ (4 * a + q) = _
    rw [updS]
    rfl
  · show mCp (mCp (v.1 25) (26 * (4 * b + p)) (26 * (4 * a + q)) (eRs wf p)) (104 * w + eRs wf 0) (26 * (4 * a + q) + eRs wf p) (min (eRs u 0 - eRs wf 0) (26 - eRs wf p)) (26 * (4 * a + q) + k) = _
    have hk : k < eRs wf p + min (eRs u 0 - eRs wf 0) (26 - eRs wf p) := hk
    unfold xl
    by_cases e : k < eRs wf p
    · rw [if_pos e, mCp_o (by omega), mCp_i e]
      exact (hb p hp).2 k e
    · rw [if_neg e, show 26 * (4 * a + q) + k = 26 * (4 * a + q) + eRs wf p + (k - eRs wf p) by omega, mCp_i (by omega), mCp_o (by omega)]
      have := hu.2 (eRs wf 0 + (k - eRs wf p)) (by omega)
      rw [show 104 * w + eRs wf 0 + (k - eRs wf p) = 26 * (4 * w + 0) + (eRs wf 0 + (k - eRs wf p)) by omega, this]
      exact congrArg (eLe u) (by omega)
theorem lg_oth {v : mV} {a q b p w n k0 kw r q' s : Nat} {l : Nat → Int32} (h : rwA v r q' s l) (hne : 4 * r + q' ≠ 4 * a + q) (hs : s ≤ 26) (hn : n ≤ 26) : rwA (mLg v a q b p w n k0 kw) r q' s l := by
  refine ⟨?_, fun k hk => ?_⟩
  · show upd (v.1 26) (4 * a + q) _ (4 * r + q') = _
    rw [updN hne]
    exact h.1
  · show mCp (mCp (v.1 25) _ (26 * (4 * a + q)) n) _ (26 * (4 * a + q) + n) (min (kw - k0) (26 - n)) (26 * (4 * r + q') + k) = _
    rw [mCp_o (by omega), mCp_o (by omega)]
    exact h.2 k hk
theorem mLg_nw {v : mV} {a q b p w n k0 kw : Nat} (h : aNw v.1) : aNw (mLg v a q b p w n k0 kw).1 := aNw_i (aNw_1 h (fun _ => mCp_nar (mCp_nar (fun i => h.1 25 i rfl))) (fun z => by cases z)) rfl
/-- records below 180 are as they were, and all but rows and numbers -/
def tjS (y v : mV) : Prop := v.2 = y.2 ∧ (∀ k, k ≠ 24 → k ≠ 25 → k ≠ 26 → k ≠ 35 → v.1 k = y.1 k) ∧ (∀ i, i < 180 → v.1 24 i = y.1 24 i) ∧ (∀ i, i < 720 → v.1 26 i = y.1 26 i) ∧ (∀ i, i < 18720 → v.1 25 i = y.1 25 i) ∧ aNw v.1
theorem tjS_r {y : mV} (h : aNw y.1) : tjS y y := ⟨rfl, fun _ _ _ _ _ => rfl, fun _ _ => rfl, fun _ _ => rfl, fun _ _ => rfl, h⟩
theorem tjS_lg {y v : mV} {a q b p w n k0 kw : Nat} (h : tjS y v) (ha : 180 ≤ a) (hn : n ≤ 26) : tjS y (mLg v a q b p w n k0 kw) := by
  obtain ⟨h1, h2, h3, h4, h5, h6⟩ := h
  refine ⟨h1, fun k a b c d => (va_up_ne _ _ c).trans ((va_up_ne _ _ b).trans (h2 k a b c d)), h3, fun i hi => ?_, fun i hi => ?_, mLg_nw h6⟩
  · show upd (v.1 26) _ _ i = _
    rw [updN (by omega)]
    exact h4 i hi
  · show mCp (mCp (v.1 25) _ (26 * (4 * a + q)) n) _ (26 * (4 * a + q) + n) (min (kw - k0) (26 - n)) i = _
    rw [mCp_o (by omega), mCp_o (by omega)]
    exact h5 i hi
theorem tjS_35 {y v : mV} {i : Nat} {x : Int32} (h : tjS y v) (hx : x ≤ nI 3) : tjS y (va_up v.1 35 (upd (v.1 35) i x), v.2) := by
  obtain ⟨h1, h2, h3, h4, h5, h6⟩ := h
  refine ⟨h1, fun k a b c d => (va_up_ne _ _ d).trans (h2 k a b c d), h3, h4, h5, aNw_1 h6 (fun z => by cases z) (fun z => by cases z) (fun _ j => ?_)⟩
  unfold upd
  split
  · exact hx
  · exact h6.2.2 35 j (Or.inr rfl)
theorem tjS_24 {y v : mV} {i : Nat} {x : Int32} (h : tjS y v) (hi : 180 ≤ i) : tjS y (va_up v.1 24 (upd (v.1 24) i x), v.2) := by
  obtain ⟨h1, h2, h3, h4, h5, h6⟩ := h
  refine ⟨h1, fun k a b c d => (va_up_ne _ _ a).trans (h2 k a b c d), fun j hj => ?_, h4, h5, aNw_i h6 rfl⟩
  show upd (v.1 24) i x j = _
  rw [updN (by omega)]
  exact h3 j hj
/-- the last of 1 .. k with p, or 0 -/
def lm (p : Nat → Bool) : Nat → Nat
  | 0 => 0
  | k + 1 => if p (k + 1) = true then k + 1 else lm p k
theorem lm_le {p : Nat → Bool} : ∀ k, lm p k ≤ k ∧ (lm p k ≠ 0 → p (lm p k) = true) ∧ (lm p k = 0 → ∀ o, 1 ≤ o → o ≤ k → p o = false) := by
  intro k
  induction k with
  | zero => exact ⟨Nat.le_refl _, fun h => absurd rfl h, fun _ o h1 h2 => by omega⟩
  | succ k ih =>
    show (if p (k + 1) = true then k + 1 else lm p k) ≤ k + 1 ∧ ((if p (k + 1) = true then k + 1 else lm p k) ≠ 0 → p (if p (k + 1) = true then k + 1 else lm p k) = true) ∧ ((if p (k + 1) = true then k + 1 else lm p k) = 0 → _)
    split
    · rename_i h
      exact ⟨Nat.le_refl _, fun _ => h, fun q => by omega⟩
    · rename_i h
      refine ⟨by omega, ih.2.1, fun q o h1 h2 => ?_⟩
      by_cases e : o = k + 1
      · rw [e]; exact Bool.eq_false_iff.mpr h
      · exact ih.2.2 q o h1 (by omega)
theorem fnd_lm {p : Nat → Bool} {k : Nat} (hk : k ≤ 3) (hu : ∀ a b, 1 ≤ a → a ≤ k → 1 ≤ b → b ≤ k → p a = true → p b = true → a = b) : fndB p k 1 = if lm p k = 0 then -1 else nI (lm p k) := by
  obtain ⟨h1, h2, h3⟩ := lm_le (p := p) k
  by_cases e : lm p k = 0
  · rw [if_pos e]
    refine Classical.byContradiction (fun q => ?_)
    obtain ⟨o, o1, o2, o3, o4⟩ := fndB_r k 1 q
    rw [h3 e o o1 (by omega)] at o4
    exact Bool.noConfusion o4
  · rw [if_neg e]
    refine (fnd_eq (by omega) (h2 e) k 1 (by omega) (by omega)).mpr (fun j j1 j2 => ?_)
    refine Bool.eq_false_iff.mpr (fun q => ?_)
    have := hu j (lm p k) j1 (by omega) (by omega) h1 q (h2 e)
    omega
/-- alike, as the model sees it -/
theorem mSR_raw {v : mV} {o s n : Nat} {l m : Nat → Int32} {r q : Nat} (h1 : rwA v 180 o n l) (h2 : rwA v r q s m) (hn : n ≤ 26) (hs : s ≤ 26) : mSR v (4 * 180 + o) (4 * r + q) n = true ↔ (n = s ∧ ∀ k, k < n → l k = m k) := by
  unfold mSR
  rw [Bool.and_eq_true, decide_eq_true_eq, allB_iff, h2.1]
  constructor
  · rintro ⟨a, b⟩
    have e : n = s := nI_inj a (by omega) (by omega)
    refine ⟨e, fun k hk => ?_⟩
    have := of_decide_eq_true (b k (by omega) (by omega))
    rw [h1.2 k hk, h2.2 k (by omega)] at this
    exact this
  · rintro ⟨a, b⟩
    refine ⟨by rw [a], fun k _ hk => decide_eq_true ?_⟩
    rw [h1.2 k (by omega), h2.2 k (by omega)]
    exact b k (by omega)
theorem eRowIs_raw {v w : eV} {o q : Nat} (hv : eRs v o ≤ 24) (hw : eRs w q ≤ 24) : eRowIs v o w q = true ↔ (eRs v o = eRs w q ∧ ∀ k, k < eRs v o → eLe v (o * 24 + k) = eLe w (q * 24 + k)) := by
  unfold eRowIs
  rw [Bool.and_eq_true, decide_eq_true_eq, allB_iff]
  constructor
  · rintro ⟨a, b⟩
    refine ⟨a, fun k hk => ?_⟩
    have := of_decide_eq_true (b k (by omega) (by omega))
    rw [eLet_in hk hv, eLet_in (by omega) hw] at this
    exact this
  · rintro ⟨a, b⟩
    refine ⟨a, fun k _ hk => decide_eq_true ?_⟩
    rw [eLet_in (by omega) hv, eLet_in (by omega) hw]
    exact b k (by omega)
/-- all but the rows -/
def eHq (w v : eV) (n : Nat) : Prop := eSq v = eSq w ∧ ePl v = ePl w ∧ eIz v = eIz w ∧ (∀ k, k < eIz w → eId v k = eId w k) ∧ eQu v = eQu w ∧ ePa v = ePa w ∧ ∀ s, s < n → eCn v s = eCn w s ∧ ePh v s = ePh w s ∧ ∀ c, c < eCn w s → eCa v (s * 2 + c) = eCa w (s * 2 + c)
/-- the first and the second record, made as long as each other -/
theorem jRow {va w u : eV} (hva : enOk va) (hw : enOk w) (hfit : ∀ q, q < eRo w → eRs w q + (max (eRs w 0) (eRs u 0) - eRs w 0) ≤ 24) (hro : 1 ≤ eRo w) : enOk (eRch (eCopy va w) u) ∧ eRo (eRch (eCopy va w) u) = eRo w ∧ eHq w (eRch (eCopy va w) u) 3 ∧ ∀ q, q < eRo w → eRs (eRch (eCopy va w) u) q = eRs w q + (max (eRs w 0) (eRs u 0) - eRs w 0) ∧ ∀ k, k < eRs (eRch (eCopy va w) u) q → eLe (eRch (eCopy va w) u) (q * 24 + k) = if k < eRs w q then eLe w (q * 24 + k) else eLet u 0 (nI (eRs w 0 + (k - eRs w q))) := by
  obtain ⟨c1, c2, c3, c4, c5, c6, c7, c8, c9⟩ := eCopy_q (v := va) hw
  have hok := eCopy_ok hva hw
  have h0 := (c6 0 (by omega)).1
  have hd : ∀ q, q < eRo w → eRs (eCopy va w) q + (eRs u 0 - eRs (eCopy va w) 0) ≤ 24 := fun q hq => by
    rw [(c6 q hq).1, h0]
    have := hfit q hq
    omega
  obtain ⟨b0, b1, b2⟩ := eRch_f (v := eCopy va w) (w := u) hok.2.1 (fun q hq => hd q (by omega))
  obtain ⟨r1, r2, r3, r4, r5, r6, r7, r8, r9⟩ := b0
  refine ⟨eRch_ok hok, r7.trans c5, ⟨r6.trans c1, b1.trans c2, r2.trans c3, fun k hk => by rw [r1]; exact c4 k hk, r8.trans c7, r9.trans c8, fun s hs => by rw [r3, r4, r5]; exact c9 s hs⟩, fun q hq => ?_⟩
  obtain ⟨d1, d2, d3⟩ := b2 q (by omega)
  have e1 := (c6 q hq).1
  refine ⟨by rw [d1, e1, h0]; omega, fun k hk => ?_⟩
  rw [d1, e1, h0] at hk
  by_cases e : k < eRs w q
  · rw [if_pos e, d2 k (by omega)]
    exact (c6 q hq).2 k e
  · rw [if_neg e]
    have := d3 (k - eRs w q) (by omega)
    rw [e1, h0, show eRs w q + (k - eRs w q) = k by omega] at this
    exact this
theorem xs_fit {w u W : eV} {q : Nat} (hf : eRs w q + (max (eRs w 0) (eRs u 0) - eRs w 0) ≤ 24) (hW : eRs W 0 = max (eRs w 0) (eRs u 0)) : xs w W q = eRs w q + (max (eRs w 0) (eRs u 0) - eRs w 0) := by
  unfold xs
  rw [hW]
  omega
theorem xs_no {w W : eV} {q m : Nat} (hf : ¬ eRs w q + (m - eRs w 0) ≤ 24) (hW : eRs W 0 = m) (hw : eRs w q ≤ 24) : 24 < xs w W q := by
  unfold xs
  rw [hW]
  omega
theorem xs_26 {w W : eV} {q : Nat} (hw : eRs w q ≤ 24) : xs w W q ≤ 26 := by
  unfold xs
  omega