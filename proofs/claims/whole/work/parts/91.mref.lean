theorem hMov_z {h : hV} (h1 : hCt h = 0) (h2 : hTo h = 0) (h3 : hNt h = 0) (q : Int32) : hCar h q = -1 ∧ hBac h q = -1 := by
  have k : ∀ s l n m c, hMov s l n m c q = -1 ∨ ¬ q ≤ nI 0 := by
    intro s l n m c
    by_cases h1 : nI 1 ≤ q
    · right
      intro h2
      exact absurd (Int32.le_trans h1 h2) (by decide)
    · left
      unfold hMov
      rw [if_neg h1]
  constructor
  · unfold hCar
    rw [h2]
    split
    · rename_i hc
      exact (k _ _ _ _ _).resolve_right (fun z => z hc)
    · rfl
  · unfold hBac
    rw [h3]
    split
    · rename_i hc
      exact (k _ _ _ _ _).resolve_right (fun z => z hc)
    · rfl
/-- the model's new reference is g -/
def rfQ (z : mV) (g : gV) : Prop := gCt g ≤ 8 ∧ g.1.1 = gCt g ∧ (∀ i, i < gCt g → z.1 10 i = nI (g.1.2.2 i) ∧ g.1.2.2 i ≤ 20 ∧ ∀ k, k < g.1.2.2 i → z.1 9 (20 * i + k) = g.1.2.1 (i * 20 + k) ∧ ∃ c, c < 128 ∧ g.1.2.1 (i * 20 + k) = nI c) ∧ z.2 45 = nI (gTo g) ∧ gTo g ≤ 3000 ∧ (∀ k, k < gTo g → z.1 11 k = gLe g k ∧ ∃ c, c < 128 ∧ gLe g k = nI c) ∧ ∀ i, i < gCt g → z.1 12 i = nI (gSt g i) ∧ z.1 13 i = nI (gSz g i) ∧ z.1 14 i = gTp g i ∧ z.1 15 i = nI (gWi g i)
abbrev gNx (nm : nV) (g : gV) : gV := (nm, gLe g, va_up (gSt g) (gCt g) (gTo g), va_up (gSz g) (gCt g) 0, va_up (gWi g) (gCt g) 0, upd (gTp g) (gCt g) (-1), gCt g + 1, gTo g)
theorem rfQ_s {z y1 y2 : mV} {g g3 : gV} {nm : nV} {p2 p3 w : Nat} {x : Int32} (hq : rfQ z g) (hs : gCt g < 8) (h1 : rN1 z y1) (h2 : mNm y1 nm (gCt g)) (h3 : nmL nm (gCt g + 1)) (h4 : nm.1 = gCt g + 1) (h5 : ltQ y2 g3 (gNx nm g) (gCt g) p2 p3 w) (h6 : gSz g3 (gCt g) ≠ 0) (h7 : y2.1 15 (gCt g) = nI w) (h8 : rL1 y1 y2 (gCt g) (gSt (gNx nm g) (gCt g)) p2) : rfQ (y2.1, va_up y2.2 12 x) g3 := by
  obtain ⟨a1, a2, a3, a4, a5, a6, a7⟩ := hq
  obtain ⟨b1, b2, b3, b4, b5, b6, b7, b8, b9, b10, b11, b12⟩ := h5
  obtain ⟨⟨c1, c2⟩, c3, c4, c5, c6⟩ := h8
  refine ⟨by omega, by rw [b1]; show nm.1 = _; omega, fun i hi => ?_, b6, b5, b7, fun i hi => ?_⟩
  · obtain ⟨d1, d2, d3⟩ := h2 i (by omega)
    rw [b1]
    refine ⟨by show y2.1 10 i = _; rw [c1 10 (by omega)]; exact d1, d2, fun k hk => ⟨?_, h3 i k (by omega) hk⟩⟩
    show y2.1 9 _ = _
    rw [c1 9 (by omega)]
    exact d3 k hk
  · by_cases e : i = gCt g
    · subst e
      refine ⟨by show y2.1 12 _ = _; rw [c4, b3], b8, ?_, by show y2.1 15 _ = _; rw [h7, b12]⟩
      show y2.1 14 _ = _
      rw [c5, b11 h6]
    · obtain ⟨d1, d2, d3, d4⟩ := a7 i (by omega)
      obtain ⟨e1, e2, e3⟩ := b4 i e
      have f3 : gSt g3 i = gSt g i := by rw [b3]; exact va_up_ne _ _ e
      have f1 : gSz g3 i = gSz g i := e1.trans (va_up_ne _ _ e)
      have f2 : gWi g3 i = gWi g i := e2.trans (va_up_ne _ _ e)
      have f4 : gTp g3 i = gTp g i := e3.trans (updN e)
      rw [f1, f2, f3, f4]
      have g1 : ∀ k, 12 ≤ k → y2.1 k i = z.1 k i := fun k hk => (c3 k i e hk).trans (congrFun (h1.1 k (by omega) (by omega)) i)
      exact ⟨(g1 12 (by omega)).trans d1, (g1 13 (by omega)).trans d2, (g1 14 (by omega)).trans d3, (g1 15 (by omega)).trans d4⟩
theorem rfQ_0 {z : mV} {g : gV} (h : gCt g = 0) (h1 : g.1.1 = 0) (h2 : gTo g = 0) (h3 : z.2 45 = nI 0) : rfQ z g := ⟨by omega, by omega, fun i hi => by omega, by rw [h2]; exact h3, by omega, fun k hk => by omega, fun i hi => by omega⟩
theorem ref_no {x : dV} {y z : mV} {v2 : rV} {g2 : gV} {F Q : Nat} (hR : mRel x y) (h1 : ∀ k, k < 9 ∨ 15 < k → z.1 k = y.1 k) (h2 : aNw z.1) (h3 : ∀ j, j ≠ 0 → j ≠ 2 → j ≠ 3 → j ≠ 12 → j ≠ 43 → j ≠ 44 → j ≠ 45 → z.2 j = y.2 j) (h4 : z.2 2 = nI 0) (h5 : z.2 3 = nI Q) (h6 : z.2 0 = nI 0) (hr : rfR x = (false, v2, g2)) (hf : rFa v2 = F) (hq : rFp v2 = Q) : (pRef x).1 = some (- nI F) ∧ mRel (pRef x).2 z ∧ z.2 0 = bI (pRef x).1.isNone := by
  have e : pRef x = (some (- nI F), xF (rfX1 x) (nI Q)) := by
    unfold pRef
    rw [hr, if_neg (fun q => Bool.noConfusion q), hf, hq]
  rw [e]
  obtain ⟨a1, ⟨b1, b2, b3⟩, ⟨c1, c2, c3⟩, a4, ⟨d1, d2, d3⟩, ⟨e1, e2, e3, f1, f2, f3, f4, f5, f6, f7⟩, a7, a8⟩ := hR
  have H : ∀ j, j ≠ 0 → j ≠ 2 → j ≠ 3 → j ≠ 12 → j < 43 → z.2 j = y.2 j := fun j k0 k1 k2 k3 k4 => h3 j k0 k1 k2 k3 (by omega) (by omega) (by omega)
  refine ⟨rfl, ⟨h2, ⟨h4, Nat.zero_le _, fun k hk => absurd hk (Nat.not_lt_zero _)⟩, ⟨(H 4 (by decide) (by decide) (by decide) (by decide) (by decide)).trans c1, fun s hs => ?_, fun k hk => ?_⟩, fun i hi => ?_, ⟨(H 37 (by decide) (by decide) (by decide) (by decide) (by decide)).trans d1, d2, fun k hk => ?_⟩, ⟨e1, e2, e3, (H 38 (by decide) (by decide) (by decide) (by decide) (by decide)).trans f1, (H 39 (by decide) (by decide) (by decide) (by decide) (by decide)).trans f2, f3, (H 40 (by decide) (by decide) (by decide) (by decide) (by decide)).trans f4, f5, fun q => ?_, fun q => ?_⟩, h5, a8⟩, h6⟩
  · rw [h1 3 (by omega), h1 2 (by omega), h1 5 (by omega), h1 6 (by omega), h1 7 (by omega), h1 8 (by omega)]; exact c2 s hs
  · rw [h1 4 (by omega)]; exact c3 k hk
  · obtain ⟨t1, t2, t3, t4⟩ := a4 i hi
    refine ⟨by rw [h1 16 (by omega)]; exact t1, by rw [h1 17 (by omega)]; exact t2, fun s hs => by rw [h1 19 (by omega), h1 18 (by omega)]; exact t3 s hs, fun k hk => ?_⟩
    have q := t4 k hk
    unfold mE at q ⊢
    rw [h1 20 (by omega), h1 21 (by omega), h1 22 (by omega), h1 23 (by omega), h1 24 (by omega), h1 25 (by omega), h1 26 (by omega), h1 27 (by omega), h1 28 (by omega), h1 29 (by omega), h1 30 (by omega), h1 31 (by omega)]
    exact q
  · rw [h1 32 (by omega)]; exact d3 k hk
  · rw [h1 33 (by omega)]; exact f6 q
  · rw [h1 34 (by omega)]; exact f7 q
/-- the new reference laid over the old -/
def cpQ (z : mV) (A : Nat → Nat → Int32) (n : Nat) : Prop := (∀ i, i < n → A 3 i = z.1 10 i ∧ A 5 i = z.1 12 i ∧ A 6 i = z.1 13 i ∧ A 7 i = z.1 14 i ∧ A 8 i = z.1 15 i ∧ ∀ k, k < 20 → A 2 (20 * i + k) = z.1 9 (20 * i + k)) ∧ (∀ k, k ≠ 2 → k ≠ 3 → k ≠ 5 → k ≠ 6 → k ≠ 7 → k ≠ 8 → A k = z.1 k) ∧ aNw A
theorem cpQ_k {z : mV} {A : Nat → Nat → Int32} {n j : Nat} (h : cpQ z A n) (hj : 20 * n ≤ j) : cpQ z (va_up A 2 (upd (A 2) j (A 9 j))) n := by
  obtain ⟨h1, h2, h3⟩ := h
  refine ⟨fun i hi => ?_, fun k a b c d e g => (va_up_ne _ _ a).trans (h2 k a b c d e g), aNw_1 h3 (fun _ => upd_nar (fun i => h3.1 2 i rfl) (h3.1 9 _ rfl)) (fun q => by cases q)⟩
  obtain ⟨a1, a2, a3, a4, a5, a6⟩ := h1 i hi
  refine ⟨a1, a2, a3, a4, a5, fun k hk => ?_⟩
  rw [va_up_self, updN (by omega)]
  exact a6 k hk
theorem cpQ_n {z : mV} {A : Nat → Nat → Int32} {n : Nat} (h : cpQ z A n) (hk : ∀ k, k < 20 → A 2 (20 * n + k) = z.1 9 (20 * n + k)) : cpQ z (va_up (va_up (va_up (va_up (va_up A 3 (upd (A 3) n (A 10 n))) 5 (upd (A 5) n (A 12 n))) 6 (upd (A 6) n (A 13 n))) 7 (upd (A 7) n (A 14 n))) 8 (upd (A 8) n (A 15 n))) (n + 1) := by
  obtain ⟨h1, h2, h3⟩ := h
  have g10 : A 10 = z.1 10 := h2 10 (by decide) (by decide) (by decide) (by decide) (by decide) (by decide)
  have g12 : A 12 = z.1 12 := h2 12 (by decide) (by decide) (by decide) (by decide) (by decide) (by decide)
  have g13 : A 13 = z.1 13 := h2 13 (by decide) (by decide) (by decide) (by decide) (by decide) (by decide)
  have g14 : A 14 = z.1 14 := h2 14 (by decide) (by decide) (by decide) (by decide) (by decide) (by decide)
  have g15 : A 15 = z.1 15 := h2 15 (by decide) (by decide) (by decide) (by decide) (by decide) (by decide)
  refine ⟨fun i hi => ?_, fun k a b c d e g => ?_, aNw_i (aNw_i (aNw_i (aNw_i (aNw_i h3 rfl) rfl) rfl) rfl) rfl⟩
  · show upd (A 3) n (A 10 n) i = z.1 10 i ∧ upd (A 5) n (A 12 n) i = z.1 12 i ∧ upd (A 6) n (A 13 n) i = z.1 13 i ∧ upd (A 7) n (A 14 n) i = z.1 14 i ∧ upd (A 8) n (A 15 n) i = z.1 15 i ∧ ∀ k, k < 20 → A 2 (20 * i + k) = z.1 9 (20 * i + k)
    by_cases e : i = n
    · subst e
      rw [updS, updS, updS, updS, updS, g10, g12, g13, g14, g15]
      exact ⟨rfl, rfl, rfl, rfl, rfl, hk⟩
    · rw [updN e, updN e, updN e, updN e, updN e]
      exact h1 i (by omega)
  · rw [va_up_ne _ _ g, va_up_ne _ _ e, va_up_ne _ _ d, va_up_ne _ _ c, va_up_ne _ _ b]
    exact h2 k a b c d e g
def lpQ (z : mV) (A : Nat → Nat → Int32) (n m : Nat) : Prop := (∀ i, i < n → A 3 i = z.1 10 i ∧ A 5 i = z.1 12 i ∧ A 6 i = z.1 13 i ∧ A 7 i = z.1 14 i ∧ A 8 i = z.1 15 i ∧ ∀ k, k < 20 → A 2 (20 * i + k) = z.1 9 (20 * i + k)) ∧ (∀ k, 8 < k ∨ k < 2 → A k = z.1 k) ∧ aNw A ∧ ∀ k, k < m → A 4 k = z.1 11 k
theorem lpQ_s {z : mV} {A : Nat → Nat → Int32} {n m : Nat} (h : lpQ z A n m) : lpQ z (va_up A 4 (upd (A 4) m (A 11 m))) n (m + 1) := by
  obtain ⟨h1, h2, h3, h4⟩ := h
  refine ⟨h1, fun k a => (va_up_ne _ _ (by omega)).trans (h2 k a), aNw_1 h3 (fun _ => upd_nar (fun i => h3.1 4 i rfl) (h3.1 11 _ rfl)) (fun q => by cases q), fun k hk => ?_⟩
  rw [va_up_self]
  by_cases e : k = m
  · subst e
    rw [updS, h2 11 (by omega)]
  · rw [updN e]
    exact h4 k (by omega)
theorem ref_yes {x : dV} {y z w : mV} {v2 : rV} {g2 : gV} {A : Nat → Nat → Int32} (hR : mRel x y) (h1 : ∀ k, k < 9 ∨ 15 < k → z.1 k = y.1 k) (hq : rfQ z g2) (hA : lpQ z A (gCt g2) (gTo g2)) (hw : w.1 = va_up (va_up (va_up (va_up A 16 (upd (A 16) 0 (nI 0))) 16 (upd (upd (A 16) 0 (nI 0)) 1 (nI 0))) 17 (upd (A 17) 0 (nI 0))) 17 (upd (upd (A 17) 0 (nI 0)) 1 (nI 0))) (h3 : ∀ j, j ≠ 0 → j ≠ 2 → j ≠ 4 → j ≠ 12 → j ≠ 38 → j ≠ 43 → j ≠ 44 → j ≠ 45 → w.2 j = y.2 j) (h4 : w.2 2 = nI 0) (h5 : w.2 4 = nI (gCt g2)) (h6 : w.2 0 = nI 0) (h7 : w.2 38 = nI 0) (hr : rfR x = (true, v2, g2)) : (pRef x).1 = some (nI (gCt g2)) ∧ mRel (pRef x).2 w ∧ w.2 0 = bI (pRef x).1.isNone := by
  have e : pRef x = (some (nI (gCt g2)), rfX5 x) := by
    unfold pRef
    rw [hr, if_pos rfl]
  have eG : dG (rfX5 x) 0 = g2 := by
    show (rfR x).2.2 = g2
    rw [hr]
  rw [e]
  obtain ⟨a1, ⟨b1, b2, b3⟩, ⟨c1, c2, c3⟩, a4, ⟨d1, d2, d3⟩, ⟨e1, e2, e3, f1, f2, f3, f4, f5, f6, f7⟩, a7, a8⟩ := hR
  obtain ⟨p1, p2, p3, p4, p5, p6, p7⟩ := hq
  obtain ⟨q1, q2, q3, q4⟩ := hA
  have H : ∀ j, j ≠ 0 → j ≠ 2 → j ≠ 4 → j ≠ 12 → j ≠ 38 → j < 43 → w.2 j = y.2 j := fun j k0 k1 k2 k3 k5 k4 => h3 j k0 k1 k2 k3 k5 (by omega) (by omega) (by omega)
  have hk : ∀ k, k ≠ 16 → k ≠ 17 → w.1 k = A k := fun k a b => by
    rw [hw, va_up_ne _ _ b, va_up_ne _ _ b, va_up_ne _ _ a, va_up_ne _ _ a]
  have hy : ∀ k, 17 < k → w.1 k = y.1 k := fun k a => (hk k (by omega) (by omega)).trans ((q2 k (by omega)).trans (h1 k (by omega)))
  have hnw : aNw w.1 := by
    rw [hw]
    exact aNw_i (aNw_i (aNw_i (aNw_i q3 rfl) rfl) rfl) rfl
  refine ⟨rfl, ⟨hnw, ⟨h4, Nat.zero_le _, fun k hk => absurd hk (Nat.not_lt_zero _)⟩, ?_, fun i hi => ⟨?_, ?_, fun s hs => ?_, fun k hk => ?_⟩, ⟨(H 37 (by decide) (by decide) (by decide) (by decide) (by decide) (by decide)).trans d1, d2, fun k hk => ?_⟩, ⟨false, e2, e3, h7, (H 39 (by decide) (by decide) (by decide) (by decide) (by decide) (by decide)).trans f2, f3, (H 40 (by decide) (by decide) (by decide) (by decide) (by decide) (by decide)).trans f4, f5, fun q => ?_, fun q => ?_⟩, (H 3 (by decide) (by decide) (by decide) (by decide) (by decide) (by decide)).trans a7, ?_⟩, h6⟩
  · rw [eG]
    refine ⟨h5, fun s hs => ?_, fun k hk2 => ?_⟩
    · obtain ⟨r1, r2, r3, r4, r5, r6⟩ := q1 s hs
      obtain ⟨s1, s2, s3⟩ := p3 s hs
      obtain ⟨t1, t2, t3, t4⟩ := p7 s hs
      rw [hk 3 (by omega) (by omega), hk 2 (by omega) (by omega), hk 5 (by omega) (by omega), hk 6 (by omega) (by omega), hk 7 (by omega) (by omega), hk 8 (by omega) (by omega)]
      exact ⟨r1.trans s1, fun k hk => (r6 k (by omega)).trans (s3 k hk).1, r2.trans t1, r3.trans t2, r4.trans t3, r5.trans t4⟩
    · rw [hk 4 (by omega) (by omega), q4 k hk2]
      exact (p6 k hk2).1
  · have : (dZ (rfX5 x) i).2.2 = 0 := by
      rcases (show i = 0 ∨ i = 1 by omega) with q | q <;> (subst q; rfl)
    rw [this, hw]
    show upd (upd (A 16) 0 (nI 0)) 1 (nI 0) i = nI 0
    rcases (show i = 0 ∨ i = 1 by omega) with q | q <;> subst q
    · rw [updN (by decide), updS]
    · rw [updS]
  · have : (dZ (rfX5 x) i).2.1.1 = 0 := by
      rcases (show i = 0 ∨ i = 1 by omega) with q | q <;> (subst q; rfl)
    rw [this, hw]
    show upd (upd (A 17) 0 (nI 0)) 1 (nI 0) i = nI 0
    rcases (show i = 0 ∨ i = 1 by omega) with q | q <;> subst q
    · rw [updN (by decide), updS]
    · rw [updS]
  · exfalso
    rcases (show i = 0 ∨ i = 1 by omega) with q | q <;> (subst q; exact Nat.not_lt_zero _ hs)
  · exfalso
    rcases (show i = 0 ∨ i = 1 by omega) with q | q <;> (subst q; exact Nat.not_lt_zero _ hk)
  · rw [hy 32 (by omega)]; exact d3 k hk
  · rw [if_neg (fun z => Bool.false_ne_true z.1)]
    exact (hMov_z rfl rfl rfl q).1
  · rw [if_neg (fun z => Bool.false_ne_true z.1)]
    exact (hMov_z rfl rfl rfl q).2
  · unfold dLv
    rw [eG]
    refine ⟨⟨fun k hk => (p6 k hk).2, fun s k hs hk => ((p3 s hs).2.2 k hk).2⟩, fun i hi => ⟨fun s k hs => ?_, fun k hk => ?_⟩⟩
    · exfalso
      rcases (show i = 0 ∨ i = 1 by omega) with q | q <;> (subst q; exact Nat.not_lt_zero _ hs)
    · exfalso
      rcases (show i = 0 ∨ i = 1 by omega) with q | q <;> (subst q; exact Nat.not_lt_zero _ hk)
set_option maxRecDepth 100000 in
set_option maxHeartbeats 4000000 in
/-- model: reference -/
theorem sX10_reference {E : eN} (hE : eOk E) {f : aH} {t : Nat} {M D : Nat} {y : mV} {x : dV} (hR : mRel x y) (hI : dOk D x) : mT E mX10_reference 0 0 [.ref M] (mdS f M y) t (fun o f' t' => o = .inl (some (.int ((pRef x).1.getD (nI 0)))) ∧ t' = t ∧ mAns M f (pRef x) f') := by
  refine mT_of (n := 4) (lo := [some (.ref M), none, none, none, none]) (by decide) (by exact Nat.le_of_ble_eq_true rfl) rfl rfl ?_
  have hp := hR.2.1
  have hu8 := hp.2.1
  have lpL : ∀ (z : mV) (g2 : gV) (v2 : rV) (s9 : Nat → Int32) (pp mm : Int32), rfR x = (true, v2, g2) → rfQ z g2 → (∀ k, k < 9 ∨ 15 < k → z.1 k = y.1 k) → (∀ j, j ≠ 0 → j ≠ 2 → j ≠ 4 → j ≠ 12 → j ≠ 43 → j ≠ 44 → j ≠ 45 → s9 j = y.2 j) → s9 2 = nI 0 → s9 4 = nI (gCt g2) → s9 0 = nI 0 → s9 45 = nI (gTo g2) → ∀ (d k : Nat) (A : Nat → Nat → Int32) (z4 : Option Value), k + d = gTo g2 → lpQ z A (gCt g2) k → V E mX10_reference 0 0 (fun o f' t' => o = .inl (some (.int ((pRef x).1.getD (nI 0)))) ∧ t' = t ∧ mAns M f (pRef x) f') 241 [some (.ref M), some (.int pp), some (.int mm), some (.int (nI k)), z4] [] (mdS f M (A, s9)) t 0 0 := by
    intro z g2 v2 s9 pp mm hr2 hq h1 h3 h42 h44 h40 h45 d
    have hto := hq.2.2.2.2.1
    induction d using Nat.strongRecOn with
    | _ d ih =>
    intro k A z4 hk hA
    refine v_iload_n dX10_reference_241 rfl (by rfl) ?_
    refine v_aload_n dX10_reference_242 rfl (by rfl) ?_
    refine v_getf hE dX10_reference_243 fX10_171 mdS_M (by rfl) ?_
    refine v_eqi (y := nI (gTo g2)) h45 ?_
    refine v_icmp_geN (tgt := 267) dX10_reference_246 (by decide) (by omega) (by omega) (fun c246 => ?_) (fun c246 => ?_)
    · refine v_aload_n dX10_reference_267 rfl (by rfl) ?_
      refine v_getf hE dX10_reference_268 fX10_60 mdS_M (by rfl) ?_
      refine v_iconst (v := nI 0) dX10_reference_271 (by decide) ?_
      refine v_iconst (v := nI 0) dX10_reference_272 (by decide) ?_
      refine m_iast hE (k := 16) dX10_reference_273 (by decide) (by decide) rfl (show _ < 4 by omega) (by omega) ?_
      refine v_aload_n dX10_reference_274 rfl (by rfl) ?_
      refine v_getf hE dX10_reference_275 fX10_60 mdS_M (by rfl) ?_
      refine v_iconst (v := nI 1) dX10_reference_278 (by decide) ?_
      refine v_iconst (v := nI 0) dX10_reference_279 (by decide) ?_
      refine m_iast hE (k := 16) dX10_reference_280 (by decide) (by decide) rfl (show _ < 4 by omega) (by omega) ?_
      refine v_aload_n dX10_reference_281 rfl (by rfl) ?_
      refine v_getf hE dX10_reference_282 fX10_63 mdS_M (by rfl) ?_
      refine v_iconst (v := nI 0) dX10_reference_285 (by decide) ?_
      refine v_iconst (v := nI 0) dX10_reference_286 (by decide) ?_
      refine m_iast hE (k := 17) dX10_reference_287 (by decide) (by decide) rfl (show _ < 4 by omega) (by omega) ?_
      refine v_aload_n dX10_reference_288 rfl (by rfl) ?_
      refine v_getf hE dX10_reference_289 fX10_63 mdS_M (by rfl) ?_
      refine v_iconst (v := nI 1) dX10_reference_292 (by decide) ?_
      refine v_iconst (v := nI 0) dX10_reference_293 (by decide) ?_
      refine m_iast hE (k := 17) dX10_reference_294 (by decide) (by decide) rfl (show _ < 4 by omega) (by omega) ?_
      refine v_aload_n dX10_reference_295 rfl (by rfl) ?_
      refine v_iconst (v := nI 0) dX10_reference_296 (by decide) ?_
      refine m_put hE (j := 38) dX10_reference_297 fX10_186 (by exact Nat.le_of_ble_eq_true rfl) (by rfl) (by rfl) (by rfl) (by rfl) ?_
      refine v_aload_n dX10_reference_300 rfl (by rfl) ?_
      refine v_getf hE dX10_reference_301 fX10_183 mdS_M (by rfl) ?_
      refine v_eqi (y := nI (gCt g2)) h44 ?_
      refine v_iret dX10_reference_304 rfl (by first | rfl | exact nar_bI) ?_
      have e9 : k = gTo g2 := by omega
      subst e9
      obtain ⟨r1, r2, r3⟩ := ref_yes (w := (_, va_up s9 38 (nI 0))) hR h1 hq hA rfl (fun j a b c d e g h i => (va_up_ne _ _ e).trans (h3 j a b c d g h i)) h42 h44 h40 rfl hr2
      exact ⟨by rw [r1]; rfl, rfl, _, rfl, r2, r3⟩
    · refine v_aload_n dX10_reference_249 rfl (by rfl) ?_
      refine v_getf hE dX10_reference_250 fX10_24 mdS_M (by rfl) ?_
      refine v_iload_n dX10_reference_253 rfl (by rfl) ?_
      refine v_aload_n dX10_reference_254 rfl (by rfl) ?_
      refine v_getf hE dX10_reference_255 fX10_45 mdS_M (by rfl) ?_
      refine v_iload_n dX10_reference_258 rfl (by rfl) ?_
      refine m_bald hE (k := 11) dX10_reference_259 (by decide) (by decide) rfl (show _ < 3001 by omega) (by omega) ?_
      refine m_bast hE (k := 4) dX10_reference_260 (by decide) (by decide) rfl (show _ < 3001 by omega) (by omega) ?_
      rw [hA.2.2.1.1 11 _ rfl]
      refine v_iincN (y := 1) dX10_reference_261 (by rfl) (by decide) (by decide) ?_
      refine v_goto (tgt := 241) dX10_reference_264 (by decide) ?_
      exact ih (d - 1) (by omega) (k + 1) _ z4 (by omega) (lpQ_s hA)
  have lpS : ∀ (z : mV) (g2 : gV) (v2 : rV) (s9 : Nat → Int32) (pp mm : Int32), rfR x = (true, v2, g2) → rfQ z g2 → (∀ k, k < 9 ∨ 15 < k → z.1 k = y.1 k) → (∀ j, j ≠ 0 → j ≠ 2 → j ≠ 4 → j ≠ 12 → j ≠ 43 → j ≠ 44 → j ≠ 45 → s9 j = y.2 j) → s9 2 = nI 0 → s9 4 = nI (gCt g2) → s9 0 = nI 0 → s9 45 = nI (gTo g2) → ∀ (d i : Nat) (A : Nat → Nat → Int32) (z4 : Option Value), i + d = (gCt g2) → cpQ z A i → V E mX10_reference 0 0 (fun o f' t' => o = .inl (some (.int ((pRef x).1.getD (nI 0)))) ∧ t' = t ∧ mAns M f (pRef x) f') 125 [some (.ref M), some (.int pp), some (.int mm), some (.int (nI i)), z4] [] (mdS f M (A, s9)) t 0 0 := by
    intro z g2 v2 s9 pp mm hr2 hq h1 h3 h42 h44 h40 h45 d
    have hc8 := hq.1
    induction d using Nat.strongRecOn with
    | _ d ih =>
    intro i A z4 hd hA
    have lk : i < (gCt g2) → ∀ (d2 k : Nat) (A : Nat → Nat → Int32), k + d2 = 20 → cpQ z A i → (∀ j, j < k → A 2 (20 * i + j) = z.1 9 (20 * i + j)) → V E mX10_reference 0 0 (fun o f' t' => o = .inl (some (.int ((pRef x).1.getD (nI 0)))) ∧ t' = t ∧ mAns M f (pRef x) f') 136 [some (.ref M), some (.int pp), some (.int mm), some (.int (nI i)), some (.int (nI k))] [] (mdS f M (A, s9)) t 0 0 := by
      intro hi d2
      induction d2 using Nat.strongRecOn with
      | _ d2 ih2 =>
      intro k A hk hA hK
      refine v_iload dX10_reference_136 (by rfl) ?_
      refine v_bipush (v := nI 20) dX10_reference_138 (by decide) ?_
      refine v_icmp_geN (tgt := 173) dX10_reference_140 (by decide) (by omega) (by omega) (fun c140 => ?_) (fun c140 => ?_)
      · have e9 : k = 20 := by omega
        subst e9
        refine v_aload_n dX10_reference_173 rfl (by rfl) ?_
        refine v_getf hE dX10_reference_174 fX10_20 mdS_M (by rfl) ?_
        refine v_iload_n dX10_reference_177 rfl (by rfl) ?_
        refine v_aload_n dX10_reference_178 rfl (by rfl) ?_
        refine v_getf hE dX10_reference_179 fX10_42 mdS_M (by rfl) ?_
        refine v_iload_n dX10_reference_182 rfl (by rfl) ?_
        refine m_iald hE (k := 10) dX10_reference_183 (by decide) (by decide) rfl (show _ < 9 by omega) (by omega) ?_
        refine m_iast hE (k := 3) dX10_reference_184 (by decide) (by decide) rfl (show _ < 9 by omega) (by omega) ?_
        refine v_aload_n dX10_reference_185 rfl (by rfl) ?_
        refine v_getf hE dX10_reference_186 fX10_27 mdS_M (by rfl) ?_
        refine v_iload_n dX10_reference_189 rfl (by rfl) ?_
        refine v_aload_n dX10_reference_190 rfl (by rfl) ?_
        refine v_getf hE dX10_reference_191 fX10_48 mdS_M (by rfl) ?_
        refine v_iload_n dX10_reference_194 rfl (by rfl) ?_
        refine m_iald hE (k := 12) dX10_reference_195 (by decide) (by decide) rfl (show _ < 9 by omega) (by omega) ?_
        refine m_iast hE (k := 5) dX10_reference_196 (by decide) (by decide) rfl (show _ < 9 by omega) (by omega) ?_
        refine v_aload_n dX10_reference_197 rfl (by rfl) ?_
        refine v_getf hE dX10_reference_198 fX10_30 mdS_M (by rfl) ?_
        refine v_iload_n dX10_reference_201 rfl (by rfl) ?_
        refine v_aload_n dX10_reference_202 rfl (by rfl) ?_
        refine v_getf hE dX10_reference_203 fX10_51 mdS_M (by rfl) ?_
        refine v_iload_n dX10_reference_206 rfl (by rfl) ?_
        refine m_iald hE (k := 13) dX10_reference_207 (by decide) (by decide) rfl (show _ < 9 by omega) (by omega) ?_
        refine m_iast hE (k := 6) dX10_reference_208 (by decide) (by decide) rfl (show _ < 9 by omega) (by omega) ?_
        refine v_aload_n dX10_reference_209 rfl (by rfl) ?_
        refine v_getf hE dX10_reference_210 fX10_33 mdS_M (by rfl) ?_
        refine v_iload_n dX10_reference_213 rfl (by rfl) ?_
        refine v_aload_n dX10_reference_214 rfl (by rfl) ?_
        refine v_getf hE dX10_reference_215 fX10_54 mdS_M (by rfl) ?_
        refine v_iload_n dX10_reference_218 rfl (by rfl) ?_
        refine m_iald hE (k := 14) dX10_reference_219 (by decide) (by decide) rfl (show _ < 9 by omega) (by omega) ?_
        refine m_iast hE (k := 7) dX10_reference_220 (by decide) (by decide) rfl (show _ < 9 by omega) (by omega) ?_
        refine v_aload_n dX10_reference_221 rfl (by rfl) ?_
        refine v_getf hE dX10_reference_222 fX10_36 mdS_M (by rfl) ?_
        refine v_iload_n dX10_reference_225 rfl (by rfl) ?_
        refine v_aload_n dX10_reference_226 rfl (by rfl) ?_
        refine v_getf hE dX10_reference_227 fX10_57 mdS_M (by rfl) ?_
        refine v_iload_n dX10_reference_230 rfl (by rfl) ?_
        refine m_iald hE (k := 15) dX10_reference_231 (by decide) (by decide) rfl (show _ < 9 by omega) (by omega) ?_
        refine m_iast hE (k := 8) dX10_reference_232 (by decide) (by decide) rfl (show _ < 9 by omega) (by omega) ?_
        refine v_iincN (y := 1) dX10_reference_233 (by rfl) (by decide) (by decide) ?_
        refine v_goto (tgt := 125) dX10_reference_236 (by decide) ?_
        exact ih (d - 1) (by omega) (i + 1) _ _ (by omega) (cpQ_n hA hK)
      · refine v_aload_n dX10_reference_143 rfl (by rfl) ?_
        refine v_getf hE dX10_reference_144 fX10_17 mdS_M (by rfl) ?_
        refine v_bipush (v := nI 20) dX10_reference_147 (by decide) ?_
        refine v_iload_n dX10_reference_149 rfl (by rfl) ?_
        refine v_imulN dX10_reference_150 ?_
        refine v_iload dX10_reference_151 (by rfl) ?_
        refine v_iaddN dX10_reference_153 ?_
        refine v_aload_n dX10_reference_154 rfl (by rfl) ?_
        refine v_getf hE dX10_reference_155 fX10_39 mdS_M (by rfl) ?_
        refine v_bipush (v := nI 20) dX10_reference_158 (by decide) ?_
        refine v_iload_n dX10_reference_160 rfl (by rfl) ?_
        refine v_imulN dX10_reference_161 ?_
        refine v_iload dX10_reference_162 (by rfl) ?_
        refine v_iaddN dX10_reference_164 ?_
        refine m_bald hE (k := 9) dX10_reference_165 (by decide) (by decide) rfl (show _ < 180 by omega) (by omega) ?_
        refine m_bast hE (k := 2) dX10_reference_166 (by decide) (by decide) rfl (show _ < 180 by omega) (by omega) ?_
        rw [hA.2.2.1 9 _ rfl]
        refine v_iincN (y := 1) dX10_reference_167 (by rfl) (by decide) (by decide) ?_
        refine v_goto (tgt := 136) dX10_reference_170 (by decide) ?_
        exact ih2 (d2 - 1) (by omega) (k + 1) _ (by omega) (cpQ_k hA (by omega)) (fun j hj => by
          rw [va_up_self]
          by_cases e : j = k
          · subst e
            rw [updS, hA.2.1 9 (by decide) (by decide) (by decide) (by decide) (by decide) (by decide)]
          · rw [updN (by omega)]
            exact hK j (by omega))
    refine v_iload_n dX10_reference_125 rfl (by rfl) ?_
    refine v_aload_n dX10_reference_126 rfl (by rfl) ?_
    refine v_getf hE dX10_reference_127 fX10_183 mdS_M (by rfl) ?_
    refine v_eqi (y := nI (gCt g2)) h44 ?_
    refine v_icmp_geN (tgt := 239) dX10_reference_130 (by decide) (by omega) (by omega) (fun c130 => ?_) (fun c130 => ?_)
    · refine v_iconst (v := nI 0) dX10_reference_239 (by decide) ?_
      refine v_istore_n dX10_reference_240 rfl (by decide) ?_
      have e9 : i = (gCt g2) := by omega
      subst e9
      exact lpL z g2 v2 s9 pp mm hr2 hq h1 h3 h42 h44 h40 h45 (gTo g2) 0 A z4 (by omega) ⟨hA.1, fun k a => hA.2.1 k (by omega) (by omega) (by omega) (by omega) (by omega) (by omega), hA.2.2, fun k hk => absurd hk (Nat.not_lt_zero _)⟩
    · refine v_iconst (v := nI 0) dX10_reference_133 (by decide) ?_
      refine v_istore dX10_reference_134 (by decide) ?_
      exact lk (by omega) 20 0 A (by omega) hA (fun j hj => absurd hj (Nat.not_lt_zero _))
  have lp : ∀ (d p : Nat) (z : mV) (v : rV) (g : gV) (mm : Option Value), p + d = (dT x 0).1 → (∀ k, k < 9 ∨ 15 < k → z.1 k = y.1 k) → aNw z.1 → (∀ j, j ≠ 0 → j ≠ 12 → j ≠ 43 → j ≠ 44 → j ≠ 45 → z.2 j = y.2 j) → z.2 0 = nI 0 → z.2 43 = nI 0 → z.2 12 = nI (gCt g) → rfQ z g → (rSt v = 0 ∨ (rSt v = 5 ∧ p < (dT x 0).1 ∧ mOct (dT x 0) p = nI 62)) → rfR x = rRunL (dT x 0) ((dT x 0).1 - p) p v g → V E mX10_reference 0 0 (fun o f' t' => o = .inl (some (.int ((pRef x).1.getD (nI 0)))) ∧ t' = t ∧ mAns M f (pRef x) f') 35 [some (.ref M), some (.int (nI p)), mm, none, none] [] (mdS f M z) t 0 0 := by
    intro d
    induction d using Nat.strongRecOn with
    | _ d ih =>
    intro p z v g mm hd hz1 hz2 hz3 hz4 hF hM hq hst hr
    have hpz : mTp z (dT x 0) := ⟨(hz3 2 (by decide) (by decide) (by decide) (by decide) (by decide)).trans hp.1, hp.2.1, by rw [hz1 1 (by omega)]; exact hp.2.2⟩
    refine v_aload_n dX10_reference_35 rfl (by rfl) ?_
    refine v_iload_n dX10_reference_36 rfl (by rfl) ?_
    refine w_callV hE dX10_reference_37 kX10_177 mdS_M (by rfl) (by rfl) (sX10_readName hE (v := v) (g := g) hpz hz2 hF hM hq.1 hq.2.1 hq.2.2.1 (by omega) hst) rfl (by decide) (by decide) (by exact Nat.le_of_ble_eq_true rfl) (by omega) (by omega) (fun v9 g9 u9 h9 => ?_) (fun _ _ _ h => by obtain ⟨_, _, _, h, _⟩ := h; cases h)
    obtain ⟨hu9, y1, o1, hv9, hg9, hn1, hcase⟩ := h9
    replace hu9 := hu9.symm
    subst hu9
    subst hg9
    cases hv9
    rcases hcase with ⟨hfr, hf⟩ | ⟨hy2, p2, v2, nm, no, nl1, nl2, n0, n1, n2, n3, n4, n5, n6, n7, hs⟩
    · obtain ⟨F, Q, v3, g3, f1, f2, f3, f4, f5, f6, f7⟩ := hf
      refine v_istore_n dX10_reference_40 rfl (by decide) ?_
      refine v_aload_n dX10_reference_41 rfl (by rfl) ?_
      refine v_getf hE dX10_reference_42 fX10_147 mdS_M (by rfl) ?_
      refine v_eqi (y := nI F) f1 ?_
      refine v_if_neN (tgt := 54) dX10_reference_45 (by decide) (by omega) (fun c45 => ?_) (fun c45 => ?_)
      · refine v_aload_n dX10_reference_54 rfl (by rfl) ?_
        refine v_dup dX10_reference_55 rfl ?_
        refine v_getf hE dX10_reference_56 fX10_153 mdS_M (by rfl) ?_
        refine v_eqi (y := nI (gCt g)) ((hfr 12 (by decide) (by decide)).trans hM) ?_
        refine v_iconst (v := nI 1) dX10_reference_59 (by decide) ?_
        refine v_iaddN dX10_reference_60 ?_
        refine m_put hE (j := 12) dX10_reference_61 fX10_153 (by exact Nat.le_of_ble_eq_true rfl) (by rfl) (by rfl) (by rfl) (by rfl) ?_
        refine v_aload_n dX10_reference_64 rfl (by rfl) ?_
        refine v_getf hE dX10_reference_65 fX10_147 mdS_M (by rfl) ?_
        refine v_eqi (y := nI F) f1 ?_
        refine v_if_neN (tgt := 84) dX10_reference_68 (by decide) (by omega) (fun c68 => ?_) (fun c68 => ?_)
        · refine v_iconst (v := nI 0) dX10_reference_84 (by decide) ?_
          refine v_istore_n dX10_reference_85 rfl (by decide) ?_
          refine v_goto (tgt := 24) dX10_reference_86 (by decide) ?_
          refine v_iload_n dX10_reference_24 rfl (by rfl) ?_
          refine v_if_eqN (tgt := 89) dX10_reference_25 (by decide) (by omega) (fun c25 => ?_) (fun c25 => ?_)
          · refine v_aload_n dX10_reference_89 rfl (by rfl) ?_
            refine v_iconst (v := nI 0) dX10_reference_90 (by decide) ?_
            refine m_put hE (j := 2) dX10_reference_91 fX10_140 (by exact Nat.le_of_ble_eq_true rfl) (by rfl) (by rfl) (by rfl) (by rfl) ?_
            refine v_aload_n dX10_reference_94 rfl (by rfl) ?_
            refine v_getf hE dX10_reference_95 fX10_147 mdS_M (by rfl) ?_
            refine v_eqi (y := nI F) f1 ?_
            refine v_if_eqN (tgt := 115) dX10_reference_98 (by decide) (by omega) (fun c98 => ?_) (fun c98 => ?_)
            · exact absurd c98 (by omega)
            · refine v_aload_n dX10_reference_101 rfl (by rfl) ?_
              refine v_aload_n dX10_reference_102 rfl (by rfl) ?_
              refine v_getf hE dX10_reference_103 fX10_150 mdS_M (by rfl) ?_
              refine v_eqi (y := nI Q) f4 ?_
              refine m_put hE (j := 3) dX10_reference_106 fX10_13 (by exact Nat.le_of_ble_eq_true rfl) (by rfl) (by rfl) (by rfl) (by rfl) ?_
              refine v_aload_n dX10_reference_109 rfl (by rfl) ?_
              refine v_getf hE dX10_reference_110 fX10_147 mdS_M (by rfl) ?_
              refine v_eqi (y := nI F) f1 ?_
              refine v_ineg dX10_reference_113 ?_
              refine v_iret dX10_reference_114 rfl (by first | rfl | exact nar_bI) ?_
              obtain ⟨r1, r2, r3⟩ := ref_no (z := (y1.1, va_up (va_up (va_up y1.2 12 (nI (gCt g + 1))) 2 (nI 0)) 3 (nI Q))) hR (fun k a => (hn1.1 k (by omega) (by omega)).trans (hz1 k a)) (hn1.2) (fun j a b c d e g h => (va_up_ne _ _ c).trans ((va_up_ne _ _ b).trans ((va_up_ne _ _ d).trans ((hfr j e g).trans (hz3 j a d e g h))))) rfl rfl ((hfr 0 (by decide) (by decide)).trans hz4) (hr.trans f5) f6 f7
              exact ⟨by rw [r1]; rfl, rfl, _, rfl, r2, r3⟩
          · exact absurd rfl c25
        · exact absurd c68 (by omega)
      · exact absurd c45 (by omega)
    · have hp1 : mTp y1 (dT x 0) := ⟨by rw [hy2]; exact hpz.1, hpz.2.1, by rw [hn1.1 1 (by decide) (by decide)]; exact hpz.2.2⟩
      rw [show (gnOpen g).2 = (gLe g, va_up (gSt g) (gCt g) (gTo g), va_up (gSz g) (gCt g) 0, va_up (gWi g) (gCt g) 0, upd (gTp g) (gCt g) (-1), gCt g + 1, gTo g) by rw [gnOpen_2 hs]] at n0
      subst no
      refine v_istore_n dX10_reference_40 rfl (by decide) ?_
      refine v_aload_n dX10_reference_41 rfl (by rfl) ?_
      refine v_getf hE dX10_reference_42 fX10_147 mdS_M (by rfl) ?_
      refine v_eqi (y := nI 0) (by rw [hy2]; exact hF) ?_
      refine v_if_neN (tgt := 54) dX10_reference_45 (by decide) (by omega) (fun c45 => ?_) (fun c45 => ?_)
      · exact absurd rfl c45
      · refine v_aload_n dX10_reference_48 rfl (by rfl) ?_
        refine v_iload_n dX10_reference_49 rfl (by rfl) ?_
        refine w_callV hE dX10_reference_50 kX10_180 mdS_M (by rfl) (by rfl) (sX10_readLetters hE (u := (dT x 0)) (v := v2) (g := gNx nm g) (s := gCt g) hp1 hn1.2 (by rw [hy2]; exact hF) (by rw [hy2]; exact hM) hs rfl (by rw [hy2]; exact hq.2.2.2.1) hq.2.2.2.2.1 (by rw [hn1.1 11 (by decide) (by decide)]; exact hq.2.2.2.2.2.1) (va_up_self _ _ _) (va_up_self _ _ _) (va_up_self _ _ _) (by omega) n1 n2 n3 n4) rfl (by decide) (by decide) (by exact Nat.le_of_ble_eq_true rfl) (by omega) (by omega) (fun v9 g9 u9 h9 => ?_) (fun _ _ _ h => by obtain ⟨_, _, _, h, _⟩ := h; cases h)
        obtain ⟨hu9, y2, o2, hv9, hg9, hn2, hcase⟩ := h9
        replace hu9 := hu9.symm
        subst hu9
        subst hg9
        cases hv9
        rcases hcase with ⟨hfr, hf⟩ | ⟨p3, w3, v3, g3, mo, m1, m2, m3, m4, m5, m6, m7, m8, m9⟩
        · obtain ⟨F, Q, v3, g3, f1, f2, f3, f4, f5, f6, f7⟩ := hf
          refine v_istore_n dX10_reference_53 rfl (by decide) ?_
          refine v_aload_n dX10_reference_54 rfl (by rfl) ?_
          refine v_dup dX10_reference_55 rfl ?_
          refine v_getf hE dX10_reference_56 fX10_153 mdS_M (by rfl) ?_
          refine v_eqi (y := nI (gCt g)) ((hfr 12 (by decide) (by decide) (by decide)).trans (by rw [hy2]; exact hM)) ?_
          refine v_iconst (v := nI 1) dX10_reference_59 (by decide) ?_
          refine v_iaddN dX10_reference_60 ?_
          refine m_put hE (j := 12) dX10_reference_61 fX10_153 (by exact Nat.le_of_ble_eq_true rfl) (by rfl) (by rfl) (by rfl) (by rfl) ?_
          refine v_aload_n dX10_reference_64 rfl (by rfl) ?_
          refine v_getf hE dX10_reference_65 fX10_147 mdS_M (by rfl) ?_
          refine v_eqi (y := nI F) f1 ?_
          refine v_if_neN (tgt := 84) dX10_reference_68 (by decide) (by omega) (fun c68 => ?_) (fun c68 => ?_)
          · refine v_iconst (v := nI 0) dX10_reference_84 (by decide) ?_
            refine v_istore_n dX10_reference_85 rfl (by decide) ?_
            refine v_goto (tgt := 24) dX10_reference_86 (by decide) ?_
            refine v_iload_n dX10_reference_24 rfl (by rfl) ?_
            refine v_if_eqN (tgt := 89) dX10_reference_25 (by decide) (by omega) (fun c25 => ?_) (fun c25 => ?_)
            · refine v_aload_n dX10_reference_89 rfl (by rfl) ?_
              refine v_iconst (v := nI 0) dX10_reference_90 (by decide) ?_
              refine m_put hE (j := 2) dX10_reference_91 fX10_140 (by exact Nat.le_of_ble_eq_true rfl) (by rfl) (by rfl) (by rfl) (by rfl) ?_
              refine v_aload_n dX10_reference_94 rfl (by rfl) ?_
              refine v_getf hE dX10_reference_95 fX10_147 mdS_M (by rfl) ?_
              refine v_eqi (y := nI F) f1 ?_
              refine v_if_eqN (tgt := 115) dX10_reference_98 (by decide) (by omega) (fun c98 => ?_) (fun c98 => ?_)
              · exact absurd c98 (by omega)
              · refine v_aload_n dX10_reference_101 rfl (by rfl) ?_
                refine v_aload_n dX10_reference_102 rfl (by rfl) ?_
                refine v_getf hE dX10_reference_103 fX10_150 mdS_M (by rfl) ?_
                refine v_eqi (y := nI Q) f4 ?_
                refine m_put hE (j := 3) dX10_reference_106 fX10_13 (by exact Nat.le_of_ble_eq_true rfl) (by rfl) (by rfl) (by rfl) (by rfl) ?_
                refine v_aload_n dX10_reference_109 rfl (by rfl) ?_
                refine v_getf hE dX10_reference_110 fX10_147 mdS_M (by rfl) ?_
                refine v_eqi (y := nI F) f1 ?_
                refine v_ineg dX10_reference_113 ?_
                refine v_iret dX10_reference_114 rfl (by first | rfl | exact nar_bI) ?_
                obtain ⟨r1, r2, r3⟩ := ref_no (z := (y2.1, va_up (va_up (va_up y2.2 12 (nI (gCt g + 1))) 2 (nI 0)) 3 (nI Q))) hR (fun k a => (hn2.1 k (by omega)).trans ((hn1.1 k (by omega) (by omega)).trans (hz1 k a))) (hn2.2) (fun j a b c d e g h => (va_up_ne _ _ c).trans ((va_up_ne _ _ b).trans ((va_up_ne _ _ d).trans ((hfr j e g h).trans ((congrFun hy2 j).trans (hz3 j a d e g h)))))) rfl rfl ((hfr 0 (by decide) (by decide) (by decide)).trans ((congrFun hy2 0).trans hz4)) ((hr.trans n0).trans f5) f6 f7
                exact ⟨by rw [r1]; rfl, rfl, _, rfl, r2, r3⟩
            · exact absurd rfl c25
          · exact absurd c68 (by omega)
        · subst mo
          have h2j : ∀ j, j ≠ 45 → y2.2 j = z.2 j := fun j a => (m9.2.2.2.2 j a).trans (congrFun hy2 j)
          have h43 : y2.2 43 = nI 0 := (h2j 43 (by decide)).trans hF
          have hp2 : mTp (y2.1, va_up y2.2 12 (nI (gCt g + 1))) (dT x 0) := ⟨(h2j 2 (by decide)).trans hpz.1, hpz.2.1, by show ∀ k, _ → _ = y2.1 1 k &&& _; rw [hn2.1 1 (by omega), hn1.1 1 (by decide) (by decide)]; exact hpz.2.2⟩
          have hq3 : rfQ (y2.1, va_up y2.2 12 (nI (gCt g + 1))) g3 := rfQ_s hq hs hn1 n6 n7 n5 m6 m7 m8 m9
          have hr3 := (hr.trans n0).trans m3
          have hzz : ∀ k, k < 9 ∨ 15 < k → y2.1 k = y.1 k := fun k a => (hn2.1 k (by omega)).trans ((hn1.1 k (by omega) (by omega)).trans (hz1 k a))
          refine v_istore_n dX10_reference_53 rfl (by decide) ?_
          refine v_aload_n dX10_reference_54 rfl (by rfl) ?_
          refine v_dup dX10_reference_55 rfl ?_
          refine v_getf hE dX10_reference_56 fX10_153 mdS_M (by rfl) ?_
          refine v_eqi (y := nI (gCt g)) ((h2j 12 (by decide)).trans hM) ?_
          refine v_iconst (v := nI 1) dX10_reference_59 (by decide) ?_
          refine v_iaddN dX10_reference_60 ?_
          refine m_put hE (j := 12) dX10_reference_61 fX10_153 (by exact Nat.le_of_ble_eq_true rfl) (by rfl) (by rfl) (by rfl) (by rfl) ?_
          refine v_aload_n dX10_reference_64 rfl (by rfl) ?_
          refine v_getf hE dX10_reference_65 fX10_147 mdS_M (by rfl) ?_
          refine v_eqi (y := nI 0) h43 ?_
          refine v_if_neN (tgt := 84) dX10_reference_68 (by decide) (by omega) (fun c68 => ?_) (fun c68 => ?_)
          · exact absurd rfl c68
          · refine v_aload_n dX10_reference_71 rfl (by rfl) ?_
            refine v_iload_n dX10_reference_72 rfl (by rfl) ?_
            refine w_callV hE dX10_reference_73 kX10_156 mdS_M (by rfl) (by rfl) (sX10_at hE (y := (y2.1, va_up y2.2 12 (nI (gCt g + 1)))) (u := (dT x 0)) hp2 (by omega)) rfl (by decide) (by decide) (by exact Nat.le_of_ble_eq_true rfl) (by omega) (by omega) (fun v9 g9 u9 h9 => ?_) (fun _ _ _ h => by cases h.1)
            obtain ⟨hv9, hu9, hg9⟩ := h9
            replace hu9 := hu9.symm
            subst hu9
            subst hg9
            cases hv9
            refine v_iconst (v := (-1)) dX10_reference_76 (by decide) ?_
            refine v_icmp_eq (tgt := 84) dX10_reference_77 (by decide) (fun c77 => ?_) (fun c77 => ?_)
            · refine v_iconst (v := nI 0) dX10_reference_84 (by decide) ?_
              refine v_istore_n dX10_reference_85 rfl (by decide) ?_
              refine v_goto (tgt := 24) dX10_reference_86 (by decide) ?_
              refine v_iload_n dX10_reference_24 rfl (by rfl) ?_
              refine v_if_eqN (tgt := 89) dX10_reference_25 (by decide) (by omega) (fun c25 => ?_) (fun c25 => ?_)
              · refine v_aload_n dX10_reference_89 rfl (by rfl) ?_
                refine v_iconst (v := nI 0) dX10_reference_90 (by decide) ?_
                refine m_put hE (j := 2) dX10_reference_91 fX10_140 (by exact Nat.le_of_ble_eq_true rfl) (by rfl) (by rfl) (by rfl) (by rfl) ?_
                refine v_aload_n dX10_reference_94 rfl (by rfl) ?_
                refine v_getf hE dX10_reference_95 fX10_147 mdS_M (by rfl) ?_
                refine v_eqi (y := nI 0) h43 ?_
                refine v_if_eqN (tgt := 115) dX10_reference_98 (by decide) (by omega) (fun c98 => ?_) (fun c98 => ?_)
                · refine v_aload_n dX10_reference_115 rfl (by rfl) ?_
                  refine v_aload_n dX10_reference_116 rfl (by rfl) ?_
                  refine v_getf hE dX10_reference_117 fX10_153 mdS_M (by rfl) ?_
                  refine v_eqi (y := nI (gCt g3)) (by show nI (gCt g + 1) = _; rw [m6.2.1]) ?_
                  refine m_put hE (j := 4) dX10_reference_120 fX10_183 (by exact Nat.le_of_ble_eq_true rfl) (by rfl) (by rfl) (by rfl) (by rfl) ?_
                  refine v_iconst (v := nI 0) dX10_reference_123 (by decide) ?_
                  refine v_istore_n dX10_reference_124 rfl (by decide) ?_
                  have hle := (mTp_o hp2 p3 (by omega)).mp c77
                  have hr4 := hr3.trans (rst_t hle m4)
                  exact lpS (y2.1, va_up y2.2 12 (nI (gCt g + 1))) g3 _ _ _ _ hr4 hq3 hzz (fun j a b c d e g h => (va_up_ne _ _ c).trans ((va_up_ne _ _ b).trans ((va_up_ne _ _ d).trans ((h2j j h).trans (hz3 j a d e g h))))) rfl rfl ((h2j 0 (by decide)).trans hz4) m6.2.2.2.2.2.1 (gCt g3) 0 y2.1 none (by omega) ⟨fun i hi => absurd hi (Nat.not_lt_zero _), fun k _ _ _ _ _ _ => rfl, hn2.2⟩
                · exact absurd rfl c98
              · exact absurd rfl c25
            · refine v_iconst (v := nI 1) dX10_reference_80 (by decide) ?_
              refine v_goto (tgt := 85) dX10_reference_81 (by decide) ?_
              refine v_istore_n dX10_reference_85 rfl (by decide) ?_
              refine v_goto (tgt := 24) dX10_reference_86 (by decide) ?_
              refine v_iload_n dX10_reference_24 rfl (by rfl) ?_
              refine v_if_eqN (tgt := 89) dX10_reference_25 (by decide) (by omega) (fun c25 => ?_) (fun c25 => ?_)
              · exact absurd c25 (by decide)
              · refine v_aload_n dX10_reference_28 rfl (by rfl) ?_
                refine v_getf hE dX10_reference_29 fX10_147 mdS_M (by rfl) ?_
                refine v_eqi (y := nI 0) h43 ?_
                refine v_if_neN (tgt := 89) dX10_reference_32 (by decide) (by omega) (fun c32 => ?_) (fun c32 => ?_)
                · exact absurd rfl c32
                · have hlt : p3 < (dT x 0).1 := by
                    by_cases q : p3 < (dT x 0).1
                    · exact q
                    · exact absurd ((mTp_o hp2 p3 (by omega)).mpr (by omega)) c77
                  exact ih ((dT x 0).1 - p3) (by omega) p3 (y2.1, va_up y2.2 12 (nI (gCt g + 1))) v3 g3 _ (by omega) hzz hn2.2 (fun j a b c d e => (va_up_ne _ _ b).trans ((h2j j e).trans (hz3 j a b c d e))) ((h2j 0 (by decide)).trans hz4) h43 (by show nI (gCt g + 1) = _; rw [m6.2.1]) hq3 (Or.inr ⟨m4, hlt, m5 hlt⟩) hr3
  refine v_aload_n dX10_reference_0 rfl (by rfl) ?_
  refine v_iconst (v := nI 0) dX10_reference_1 (by decide) ?_
  refine m_put hE (j := 0) dX10_reference_2 fX10_133 (by exact Nat.le_of_ble_eq_true rfl) (by rfl) (by rfl) (by rfl) (by rfl) ?_
  refine v_aload_n dX10_reference_5 rfl (by rfl) ?_
  refine v_iconst (v := nI 0) dX10_reference_6 (by decide) ?_
  refine m_put hE (j := 43) dX10_reference_7 fX10_147 (by exact Nat.le_of_ble_eq_true rfl) (by rfl) (by rfl) (by rfl) (by rfl) ?_
  refine v_aload_n dX10_reference_10 rfl (by rfl) ?_
  refine v_iconst (v := nI 0) dX10_reference_11 (by decide) ?_
  refine m_put hE (j := 12) dX10_reference_12 fX10_153 (by exact Nat.le_of_ble_eq_true rfl) (by rfl) (by rfl) (by rfl) (by rfl) ?_
  refine v_aload_n dX10_reference_15 rfl (by rfl) ?_
  refine v_iconst (v := nI 0) dX10_reference_16 (by decide) ?_
  refine m_put hE (j := 45) dX10_reference_17 fX10_171 (by exact Nat.le_of_ble_eq_true rfl) (by rfl) (by rfl) (by rfl) (by rfl) ?_
  refine v_iconst (v := nI 0) dX10_reference_20 (by decide) ?_
  refine v_istore_n dX10_reference_21 rfl (by decide) ?_
  refine v_iconst (v := nI 1) dX10_reference_22 (by decide) ?_
  refine v_istore_n dX10_reference_23 rfl (by decide) ?_
  refine v_iload_n dX10_reference_24 rfl (by rfl) ?_
  refine v_if_eqN (tgt := 89) dX10_reference_25 (by decide) (by omega) (fun c25 => ?_) (fun c25 => ?_)
  · exact absurd c25 (by decide)
  · refine v_aload_n dX10_reference_28 rfl (by rfl) ?_
    refine v_getf hE dX10_reference_29 fX10_147 mdS_M (by rfl) ?_
    refine v_eqi (y := nI 0) rfl ?_
    refine v_if_neN (tgt := 89) dX10_reference_32 (by decide) (by omega) (fun c32 => ?_) (fun c32 => ?_)
    · exact absurd rfl c32
    · exact lp (dT x 0).1 0 _ rNew (gnZero (dG x 1)) _ (by omega) (fun k _ => rfl) hR.1 (fun j a b c d e => (va_up_ne _ _ e).trans ((va_up_ne _ _ b).trans ((va_up_ne _ _ c).trans (va_up_ne _ _ a)))) rfl rfl rfl (rfQ_0 rfl rfl rfl rfl) (Or.inl rfl) rfl
