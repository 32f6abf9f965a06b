/-! merge: the model's samples -/
def mSm (y : mV) (r s : Nat) (w : eV) (q : Nat) : Prop := y.1 30 (3 * r + s) = nI (eCn w q) ∧ y.1 31 (3 * r + s) = bI (ePh w q) ∧ ∀ c, c < eCn w q → y.1 29 (6 * r + 2 * s + c) = eCa w (q * 2 + c)
def mNo (y : mV) (r s : Nat) : Prop := y.1 30 (3 * r + s) = nI 1 ∧ y.1 31 (3 * r + s) = bI false ∧ y.1 29 (6 * r + 2 * s) = -1
theorem mE_i {y : mV} {r n : Nat} {w : eV} : mE y r w n ↔ mE y r w 0 ∧ ∀ s, s < n → mSm y r s w s := by
  constructor
  · rintro ⟨a1, a2, a3, a4, a5, a6, a7, a8, a9, a10⟩
    exact ⟨⟨a1, a2, a3, a4, a5, a6, a7, a8, a9, fun s hs => absurd hs (Nat.not_lt_zero _)⟩, a10⟩
  · rintro ⟨⟨a1, a2, a3, a4, a5, a6, a7, a8, a9, -⟩, a10⟩
    exact ⟨a1, a2, a3, a4, a5, a6, a7, a8, a9, a10⟩
theorem mE_b {y : mV} {r : Nat} {v w : eV} (h : eBs v w) (hw : mE y r w 0) : mE y r v 0 := by
  obtain ⟨a1, a2, a3, a4, a5, a6, a7, a8, a9, -⟩ := hw
  rw [h]
  exact ⟨a1, a2, a3, a4, a5, a6, a7, a8, a9, fun s hs => absurd hs (Nat.not_lt_zero _)⟩
theorem mSm_e {y : mV} {r s q p : Nat} {v w : eV} (h : mSm y r s w q) (he : eSmp v p w q) (hc : eCn w q ≤ 2) : mSm y r s v p := ⟨by rw [he.1]; exact h.1, by rw [he.2.1]; exact h.2.1, fun c hc2 => by
  rw [he.1] at hc2
  rw [he.2.2 c (by omega)]
  exact h.2.2 c hc2⟩
theorem mNo_e {y : mV} {r s p : Nat} {v : eV} (h : mNo y r s) (he : eNo v p) : mSm y r s v p := ⟨by rw [he.1]; exact h.1, by rw [he.2.1]; exact h.2.1, fun c hc2 => by
  rw [he.1] at hc2
  have e : c = 0 := by omega
  subst e
  exact h.2.2.trans he.2.2.symm⟩
/-- only sample s of record a has changed -/
def fr3 (y z : mV) (a s : Nat) : Prop := (∀ k, k ≠ 29 → k ≠ 30 → k ≠ 31 → z.1 k = y.1 k) ∧ (∀ c, c ≠ 3 * a + s → z.1 30 c = y.1 30 c ∧ z.1 31 c = y.1 31 c) ∧ (∀ c, c < 6 * a + 2 * s ∨ 6 * a + 2 * s + 1 < c → z.1 29 c = y.1 29 c) ∧ z.2 = y.2 ∧ aNw z.1
theorem fr3_0 {y z : mV} {a s r : Nat} {w : eV} (h : fr3 y z a s) (hw : mE y r w 0) : mE z r w 0 := by
  obtain ⟨a1, a2, a3, a4, a5, a6, a7, a8, a9, -⟩ := hw
  obtain ⟨h1, -⟩ := h
  refine ⟨?_, ?_, ?_, ?_, ?_, a6, ?_, ?_, ?_, fun s hs => absurd hs (Nat.not_lt_zero _)⟩
  · rw [h1 20 (by decide) (by decide) (by decide)]; exact a1
  · rw [h1 21 (by decide) (by decide) (by decide)]; exact a2
  · rw [h1 23 (by decide) (by decide) (by decide)]; exact a3
  · rw [h1 22 (by decide) (by decide) (by decide)]; exact a4
  · rw [h1 24 (by decide) (by decide) (by decide)]; exact a5
  · rw [h1 26 (by decide) (by decide) (by decide), h1 25 (by decide) (by decide) (by decide)]; exact a7
  · rw [h1 27 (by decide) (by decide) (by decide)]; exact a8
  · rw [h1 28 (by decide) (by decide) (by decide)]; exact a9
theorem fr3_m {y z : mV} {a s r p q : Nat} {w : eV} (h : fr3 y z a s) (hn : 3 * r + p ≠ 3 * a + s) (hc : eCn w q ≤ 2) (hw : mSm y r p w q) : mSm z r p w q := by
  obtain ⟨-, h2, h3, -⟩ := h
  obtain ⟨b1, b2⟩ := h2 _ hn
  exact ⟨b1.trans hw.1, b2.trans hw.2.1, fun c hc2 => (h3 _ (by omega)).trans (hw.2.2 c hc2)⟩
theorem fr3_n {y z : mV} {a s r p : Nat} (h : fr3 y z a s) (hn : 3 * r + p ≠ 3 * a + s) (hw : mNo y r p) : mNo z r p := by
  obtain ⟨-, h2, h3, -⟩ := h
  obtain ⟨b1, b2⟩ := h2 _ hn
  exact ⟨b1.trans hw.1, b2.trans hw.2.1, (h3 _ (by omega)).trans hw.2.2⟩
theorem fr3_E {y z : mV} {a s r n : Nat} {w : eV} (h : fr3 y z a s) (hn : r ≠ a) (hs : s < 3) (hw : mE y r w n) (hwo : enOk w) (h3 : n ≤ 3) : mE z r w n := by
  obtain ⟨h1, h2⟩ := mE_i.mp hw
  exact mE_i.mpr ⟨fr3_0 h h1, fun p hp => fr3_m h (by omega) (hwo.2.2.1 p) (h2 p hp)⟩
theorem fr3_F {B : Nat → Prop} {x y z : mV} {a s : Nat} (hx : mFr B x y) (h : fr3 y z a s) (ha : B a) (hs : s < 3) : mFr B x z := by
  obtain ⟨f1, f2, f3, f4⟩ := hx
  have h' := h
  obtain ⟨h1, -, -, h4, h5⟩ := h'
  exact ⟨h4.trans f1, fun k hk => (h1 k (by omega) (by omega) (by omega)).trans (f2 k hk), h5, fun r w m hB hr hw hm => fr3_E h (fun e => hB (e ▸ ha)) hs (f4 r w m hB hr hw hm) hw hm⟩
theorem mCC_f {y : mV} {a s b r : Nat} (hO : aNw y.1) : fr3 y (mCC y a s b r) a s := by
  refine ⟨fun k h1 h2 h3 => ?_, fun c hc => ⟨updN hc, updN hc⟩, fun c hc => (updN (by omega)).trans (updN (by omega)), rfl, ?_⟩
  · show va_up (va_up (va_up y.1 30 _) 31 _) 29 _ k = _
    rw [va_up_ne _ _ h1, va_up_ne _ _ h3, va_up_ne _ _ h2]
  · refine aNw_1 (aNw_up hO (aNw_up hO hO)) (fun h => absurd h (by decide)) (fun h => absurd h (by decide)) (fun _ i => ?_)
    have h3 := hO.2.2 29
    unfold upd
    split
    · exact h3 _ (Or.inl rfl)
    · split <;> exact h3 _ (Or.inl rfl)
theorem mCC_a {y : mV} {a s b r q : Nat} {w : eV} (h : mSm y b r w q) (hc : eCn w q ≤ 2) : mSm (mCC y a s b r) a s w q := by
  refine ⟨?_, ?_, fun c hc2 => ?_⟩
  · show upd (y.1 30) (3 * a + s) _ (3 * a + s) = _
    rw [updS]; exact h.1
  · show upd (y.1 31) (3 * a + s) _ (3 * a + s) = _
    rw [updS]; exact h.2.1
  · show upd (upd (y.1 29) (6 * a + 2 * s + 0) _) (6 * a + 2 * s + (0 + 1)) _ (6 * a + 2 * s + c) = _
    rcases (show c = 0 ∨ c = 1 by omega) with e | e
    · subst e
      rw [updN (by omega), updS]; exact h.2.2 0 hc2
    · subst e
      rw [updS]; exact h.2.2 1 hc2
theorem mNC_f {y : mV} {a s : Nat} (hO : aNw y.1) : fr3 y (mNC y a s) a s := by
  refine ⟨fun k h1 h2 h3 => ?_, fun c hc => ⟨updN hc, updN hc⟩, fun c hc => (updN (by omega)).trans (updN (by omega)), rfl, ?_⟩
  · show va_up (va_up (va_up y.1 30 _) 31 _) 29 _ k = _
    rw [va_up_ne _ _ h1, va_up_ne _ _ h3, va_up_ne _ _ h2]
  · refine aNw_1 (aNw_1 (aNw_1 hO (fun h => absurd h (by decide)) (fun h => absurd h (by decide))) (fun h => absurd h (by decide)) (fun _ => upd_nar (fun i => hO.2.1 31 i rfl) nar_0)) (fun h => absurd h (by decide)) (fun h => absurd h (by decide)) (fun _ i => ?_)
    have h3 := hO.2.2 29
    unfold upd
    split
    · decide
    · split
      · decide
      · exact h3 _ (Or.inl rfl)
theorem mNC_a {y : mV} {a s : Nat} : mNo (mNC y a s) a s := by
  refine ⟨updS, updS, ?_⟩
  show upd (upd (y.1 29) (6 * a + 2 * s) (-1)) (6 * a + 2 * s + 1) (-1) (6 * a + 2 * s) = -1
  rw [updN (by omega), updS]
