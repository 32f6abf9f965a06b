/-! a record, column by column: the class -/
abbrev sqN (w : eV) : Nat := (eSq w).toNatClampNeg
abbrev plN (w : eV) : Nat := (ePl w).toNatClampNeg
def cSt (u : tS) (g : gV) (i j : Nat) (w : eV) : Nat → Nat × eV
  | 0 => (if nmIn 8 g.1 u i j = -1 then 4 else 0, wSq w (nmIn 8 g.1 u i j))
  | 1 => (if tNum u i j (gSz g (sqN w)) ≤ 0 then 4 else 0, wPl w (tNum u i j (gSz g (sqN w))))
  | 2 => (if tWord u i j = true then 0 else 4, qIdR u i j w)
  | 3 => (rfF u g i j (sqN w) (plN w), (qRow u 0 i j w).2)
  | 4 => (if (qAltR u i j w).1 = true then 0 else 4, (qAltR u i j w).2)
  | 5 => (if tNum u i j 999999 = -1 ∧ ¬ tIs u i j tx7 = true then 4 else 0, wQu w (tNum u i j 999999))
  | 6 => (if tIs u i j tx8 = true ∨ tIs u i j tx7 = true then 0 else 4, wPa w (tIs u i j tx8))
  | 7 => (if tIs u i j tx7 = true then 0 else 4, w)
  | 8 => (if tIs u i j tx9 = true then 0 else 4, w)
  | s + 9 => (if okC u i j (eRo w - 1) = true then 0 else 4, wPh (wCn (wCa w (upd (upd (eCa w) (s * 2 + 0) (mCO (eRo w - 1) (mOct u i))) (s * 2 + 1) (if j - i = 3 then mCO (eRo w - 1) (mOct u (i + 2)) else -1))) (va_up (eCn w) s (if j - i = 3 then 2 else 1))) (va_up (ePh w) s (decide (j - i = 3) && decide (mOct u (i + 1) = nI 124))))
def qFin (u : tS) (C : qV) (n : Nat) (X : Bool × qV × eV) : Bool × qV × eV := if X.1 = true then qAll u C (n - 0) 0 X.2.2 else X
def qT (u : tS) (C : qV) (g : gV) (n : Nat) (w : eV) : Nat → Bool × qV × eV
  | 0 => qFin u C n (qE0 u C g n w)
  | 1 => qFin u C n (qE1 u C g n w)
  | 2 => qFin u C n (qE2 u C g n w)
  | 3 => qFin u C n (qE3 u C g n w)
  | 4 => qFin u C n (qE5 u C g n w)
  | 5 => qFin u C n (qE6 u C g n w)
  | 6 => qFin u C n (qE7 u C g n w)
  | 7 => qFin u C n (qE8 u C g n w)
  | 8 => qFin u C n (qE9 u C g n w)
  | s + 9 => qAll u C (n - s) s w
/-- what is known of a record after c columns -/
def cI (g : gV) (w : eV) (c : Nat) : Prop := enOk w ∧ (0 < c → eSq w = nI (sqN w) ∧ sqN w < gCt g) ∧ (1 < c → ePl w = nI (plN w) ∧ 1 ≤ plN w ∧ plN w ≤ gSz g (sqN w)) ∧ (3 < c → 1 ≤ eRo w)
theorem qThn_s {u : tS} {C bad : qV} {n : Nat} {r : Bool × eV} {k : eV → Bool × qV × eV} : qFin u C n (qThn r bad k) = if r.1 = true then qFin u C n (k r.2) else (false, bad, r.2) := by
  unfold qThn
  by_cases h : r.1 = true
  · rw [if_pos h, if_pos h]
  · rw [if_neg h, if_neg h]
    exact if_neg (fun z => Bool.noConfusion z)
/-- one column of the class's run -/
def qTs (u : tS) (C : qV) (g : gV) (n c : Nat) (w : eV) (F : Nat) (w' : eV) : Prop := (F = 0 → qT u C g n w c = qT u C g n w' (c + 1)) ∧ (F ≠ 0 → (qT u C g n w c).1 = false ∧ qFa (qT u C g n w c).2.1 = F ∧ qFp (qT u C g n w c).2.1 = qSt C c)
theorem qTs_1 {u : tS} {C : qV} {g : gV} {n c : Nat} {w w' : eV} {r : Bool × eV} {k : eV → Bool × qV × eV} {F : Nat} (h1 : qT u C g n w c = qFin u C n (qThn r (qFC C c) k)) (h2 : ∀ x, qT u C g n x (c + 1) = qFin u C n (k x)) (hF : F = if r.1 = true then 0 else 4) (hw : r.1 = true → r.2 = w') : qTs u C g n c w F w' := by
  unfold qTs
  rw [h1, qThn_s, hF]
  by_cases h : r.1 = true
  · rw [if_pos h, if_pos h, h2, hw h]
    exact ⟨fun _ => rfl, fun z => absurd rfl z⟩
  · rw [if_neg h, if_neg h]
    exact ⟨fun z => absurd z (by decide), fun _ => ⟨rfl, rfl, rfl⟩⟩
theorem dec_f {p : Prop} [Decidable p] : (if p then (4 : Nat) else 0) = if decide (¬ p) = true then 0 else 4 := by
  by_cases h : p
  · rw [if_pos h, if_neg (by rw [decide_eq_false (fun z => z h)]; decide)]
  · rw [if_neg h, if_pos (decide_eq_true h)]
theorem tIs_wd {u : tS} {i j : Nat} (hu : u.1 ≤ 8000) (h : tIs u i j tx7 = true) : tWord u i j = true := by
  unfold tIs tBeg at h
  rw [Bool.and_eq_true, Bool.and_eq_true, decide_eq_true_eq, decide_eq_true_eq, allB_iff] at h
  obtain ⟨h1, h2, h3⟩ := h
  have h1 : j - i = 1 := h1
  have h2 : i + 1 ≤ u.1 := h2
  have h4 := of_decide_eq_true (h3 0 (Nat.le_refl _) (by decide))
  have h4 : u.2.1 i = nI 46 := h4
  unfold tWord
  rw [decide_eq_true (show i < j by omega), decide_eq_true (show j - i ≤ 20 by omega), Bool.true_and, Bool.true_and, allB_iff]
  intro k k1 k2
  rw [show k = i by omega, okO_eq, mOct_in (by omega) hu, h4]
  decide
theorem qTs_c {y : mV} {u : tS} {C : qV} {g : gV} {n c : Nat} {w : eV} (hp : mTp y u) (hgo : gOk g) (hI : cI g w c) (hij : qSt C c ≤ qSt C (c + 1) - 1) (hj : qSt C (c + 1) - 1 ≤ u.1) (hc : c < (if n = 0 then 8 else 9 + n)) (hn : n ≤ 3) : qTs u C g n c w (cSt u g (qSt C c) (qSt C (c + 1) - 1) w c).1 (cSt u g (qSt C c) (qSt C (c + 1) - 1) w c).2 := by
  have hu := hp.2.1
  rcases (show c = 0 ∨ c = 1 ∨ c = 2 ∨ c = 3 ∨ c = 4 ∨ c = 5 ∨ c = 6 ∨ c = 7 ∨ c = 8 ∨ 9 ≤ c by omega) with e | e | e | e | e | e | e | e | e | e
  · subst e
    exact qTs_1 (r := qSeq u C g w) rfl (fun _ => rfl) dec_f (fun _ => rfl)
  · subst e
    have hs := hI.2.1 (by decide)
    refine qTs_1 (r := qPlc u C g (sqN w) w) rfl (fun _ => rfl) ?_ (fun _ => ?_)
    · show (if tNum u (qSt C 1) (qSt C (1 + 1) - 1) (gSz g (sqN w)) ≤ 0 then 4 else 0) = if decide (¬ tNum u (qSt C 1) (qSt C 2 - 1) (gnSz g (sqN w)) ≤ 0) = true then 0 else 4
      rw [show gnSz g (sqN w) = gSz g (sqN w) from if_pos hs.2]
      exact dec_f
    · show wPl w (tNum u (qSt C 1) (qSt C 2 - 1) (gnSz g (sqN w))) = wPl w (tNum u (qSt C 1) (qSt C 2 - 1) (gSz g (sqN w)))
      rw [show gnSz g (sqN w) = gSz g (sqN w) from if_pos hs.2]
  · subst e
    refine qTs_1 (r := qId u C w) rfl (fun _ => rfl) ?_ (fun hr => ?_)
    · show (if tWord u (qSt C 2) (qSt C 3 - 1) = true then 0 else 4) = _
      unfold qId qCol
      by_cases h : tIs u (qSt C 2) (qSt C (2 + 1) - 1) tx7 = true
      · rw [if_pos h, if_pos (tIs_wd hu h), if_pos rfl]
      · rw [if_neg h]
        by_cases h2 : tWord u (qSt C 2) (qSt C 3 - 1) = true
        · rw [if_pos h2, if_pos h2, if_pos rfl]
        · rw [if_neg h2, if_neg h2, if_neg (fun z => Bool.noConfusion z)]
    · show _ = qIdR u (qSt C 2) (qSt C 3 - 1) w
      unfold qId qCol at hr ⊢
      unfold qIdR
      by_cases h : tIs u (qSt C 2) (qSt C (2 + 1) - 1) tx7 = true
      · rw [if_pos h, if_pos h]
      · rw [if_neg h] at hr ⊢
        rw [if_neg h]
        by_cases h2 : tWord u (qSt C 2) (qSt C 3 - 1) = true
        · rw [if_pos h2]
        · rw [if_neg h2] at hr
          exact Bool.noConfusion hr
  · subst e
    obtain ⟨f1, f2⟩ := qRow_f (u := u) (r := 0) (i := qSt C 3) (j := qSt C (3 + 1) - 1) (w := w) (by decide) (by omega)
    have hcs : (cSt u g (qSt C 3) (qSt C (3 + 1) - 1) w 3).1 = rfF u g (qSt C 3) (qSt C (3 + 1) - 1) (sqN w) (plN w) := rfl
    unfold qTs
    rw [hcs]
    have h1 : qT u C g n w 3 = qFin u C n (qThn (qRow u 0 (qSt C 3) (qSt C (3 + 1) - 1) w) (qFC C 3) (qE4 u C g n)) := rfl
    rw [h1, qThn_s, f1]
    unfold rfF
    cases hb : rwOk u (qSt C 3) (qSt C (3 + 1) - 1) with
    | false =>
      rw [if_pos rfl, if_neg (by decide)]
      exact ⟨fun z => absurd z (by decide), fun _ => ⟨rfl, rfl, rfl⟩⟩
    | true =>
      obtain ⟨L, l1, l2⟩ := f2 hb
      rw [if_neg (by decide), if_pos rfl]
      have hsq : sqN (qRow u 0 (qSt C 3) (qSt C (3 + 1) - 1) w).2 = sqN w := by rw [l1]
      have hpl : plN (qRow u 0 (qSt C 3) (qSt C (3 + 1) - 1) w).2 = plN w := by rw [l1]
      have h4 : qFin u C n (qE4 u C g n (qRow u 0 (qSt C 3) (qSt C (3 + 1) - 1) w).2) = if qRef g (sqN w) (plN w) (qRow u 0 (qSt C 3) (qSt C (3 + 1) - 1) w).2 = true then qFin u C n (qE5 u C g n (qRow u 0 (qSt C 3) (qSt C (3 + 1) - 1) w).2) else (false, qFail C 5 (qSt C 3), (qRow u 0 (qSt C 3) (qSt C (3 + 1) - 1) w).2) := by
        unfold qE4
        rw [qThn_s]
        show (if qRef g (sqN (qRow u 0 (qSt C 3) (qSt C (3 + 1) - 1) w).2) (plN (qRow u 0 (qSt C 3) (qSt C (3 + 1) - 1) w).2) (qRow u 0 (qSt C 3) (qSt C (3 + 1) - 1) w).2 = true then _ else _) = _
        rw [hsq, hpl]
      rw [h4]
      have h24 : qSt C 3 < qSt C (3 + 1) - 1 ∧ qSt C (3 + 1) - 1 - qSt C 3 ≤ 24 := (in24 (by omega)).mp (by have c9 := hb; unfold rwOk at c9; rw [Bool.and_eq_true] at c9; exact c9.1)
      have hq : qRef g (sqN w) (plN w) (qRow u 0 (qSt C 3) (qSt C (3 + 1) - 1) w).2 = allB (rfP u g (qSt C 3) (sqN w) (plN w)) (qSt C (3 + 1) - 1 - qSt C 3 - 0) 0 := by
        unfold qRef
        rw [l1]
        have e1 : eRs (wRo (wRs (wLe w L) (va_up (eRs w) 0 (qSt C (3 + 1) - 1 - qSt C 3))) (0 + 1)) 0 = qSt C (3 + 1) - 1 - qSt C 3 := by
          show va_up (eRs w) 0 (qSt C (3 + 1) - 1 - qSt C 3) 0 = _
          exact va_up_self _ _ _
        rw [e1]
        refine allB_c (fun k _ hk => ?_)
        unfold rfP
        rw [eLet_in (by rw [e1]; omega) (by rw [e1]; omega)]
        show decide (gnLet g (sqN w) (plN w + k) = L (0 * 24 + k)) = _
        rw [l2, if_pos (by omega), show 0 * 24 + k - 0 * 24 = k by omega]
      rw [hq]
      cases hb2 : allB (rfP u g (qSt C 3) (sqN w) (plN w)) (qSt C (3 + 1) - 1 - qSt C 3 - 0) 0 with
      | false =>
        rw [if_pos rfl, if_neg (by decide)]
        exact ⟨fun z => absurd z (by decide), fun _ => ⟨rfl, rfl, rfl⟩⟩
      | true =>
        rw [if_neg (by decide), if_pos rfl]
        exact ⟨fun _ => rfl, fun z => absurd rfl z⟩
  · subst e
    exact qTs_1 (r := qAlts u C w) rfl (fun _ => rfl) rfl (fun _ => rfl)
  · subst e
    refine qTs_1 (r := qQua u C w) rfl (fun _ => rfl) ?_ (fun _ => rfl)
    show (if tNum u (qSt C 5) (qSt C 6 - 1) 999999 = -1 ∧ ¬ tIs u (qSt C 5) (qSt C 6 - 1) tx7 = true then 4 else 0) = if (decide (¬ tNum u (qSt C 5) (qSt C 6 - 1) 999999 = -1) || tIs u (qSt C 5) (qSt C 6 - 1) tx7) = true then 0 else 4
    by_cases h : tNum u (qSt C 5) (qSt C 6 - 1) 999999 = -1
    · rw [decide_eq_false (fun z => z h), Bool.false_or]
      by_cases h2 : tIs u (qSt C 5) (qSt C 6 - 1) tx7 = true
      · rw [if_neg (fun z => z.2 h2), if_pos h2]
      · rw [if_pos ⟨h, h2⟩, if_neg h2]
    · rw [if_neg (fun z => h z.1), decide_eq_true h, Bool.true_or, if_pos rfl]
  · subst e
    refine qTs_1 (r := qPas u C w) rfl (fun _ => rfl) ?_ (fun _ => rfl)
    show (if tIs u (qSt C 6) (qSt C 7 - 1) tx8 = true ∨ tIs u (qSt C 6) (qSt C 7 - 1) tx7 = true then 0 else 4) = if (tIs u (qSt C 6) (qSt C 7 - 1) tx8 || tIs u (qSt C 6) (qSt C 7 - 1) tx7) = true then 0 else 4
    by_cases h : tIs u (qSt C 6) (qSt C 7 - 1) tx8 = true
    · rw [if_pos (Or.inl h), h, Bool.true_or, if_pos rfl]
    · by_cases h2 : tIs u (qSt C 6) (qSt C 7 - 1) tx7 = true
      · rw [if_pos (Or.inr h2), h2, Bool.or_true, if_pos rfl]
      · rw [if_neg (fun z => z.elim h h2), Bool.eq_false_iff.mpr h, Bool.eq_false_iff.mpr h2]
        rfl
  · subst e
    exact qTs_1 (r := (qCol u C 7 tx7, w)) rfl (fun _ => rfl) rfl (fun _ => rfl)
  · subst e
    have hn0 : n ≠ 0 := fun z => by rw [if_pos z] at hc; omega
    refine qTs_1 (r := (decide (n = 0) || qCol u C 8 tx9, w)) (k := fun y => (true, C, y)) rfl (fun x => ?_) ?_ (fun _ => rfl)
    · show qAll u C (n - 0) 0 x = qFin u C n (true, C, x)
      exact (if_pos rfl).symm
    · show (if tIs u (qSt C 8) (qSt C 9 - 1) tx9 = true then 0 else 4) = _
      rw [decide_eq_false hn0, Bool.false_or]
      rfl
  · obtain ⟨s, rfl⟩ : ∃ s, c = s + 9 := ⟨c - 9, by omega⟩
    have hsn : s < n := by
      by_cases h0 : n = 0
      · rw [if_pos h0] at hc
        omega
      · rw [if_neg h0] at hc
        omega
    have hro := hI.2.2.2 (by omega)
    have hro4 := hI.1.1
    obtain ⟨q1, q2⟩ := qCls_f (s := s) hp hij hj (show eRo w - 1 ≤ 3 by omega) (show eRo w = eRo w - 1 + 1 by omega)
    have h1 : qT u C g n w (s + 9) = if (qCls u (qSt C (s + 9)) (qSt C (s + 9 + 1) - 1) s w).1 = true then qAll u C (n - (s + 1)) (s + 1) (qCls u (qSt C (s + 9)) (qSt C (s + 9 + 1) - 1) s w).2 else (false, qFC C (s + 9), (qCls u (qSt C (s + 9)) (qSt C (s + 9 + 1) - 1) s w).2) := by
      show qAll u C (n - s) s w = _
      rw [show n - s = (n - (s + 1)) + 1 by omega, show s + 9 = 9 + s by omega]
      rfl
    show ((if okC u (qSt C (s + 9)) (qSt C (s + 9 + 1) - 1) (eRo w - 1) = true then 0 else 4) = 0 → _) ∧ ((if okC u (qSt C (s + 9)) (qSt C (s + 9 + 1) - 1) (eRo w - 1) = true then 0 else 4) ≠ 0 → _ ∧ _ = (if okC u (qSt C (s + 9)) (qSt C (s + 9 + 1) - 1) (eRo w - 1) = true then 0 else 4) ∧ _)
    rw [h1]
    cases hb : okC u (qSt C (s + 9)) (qSt C (s + 9 + 1) - 1) (eRo w - 1) with
    | true =>
      rw [q1 hb, if_pos rfl, if_pos rfl]
      exact ⟨fun _ => rfl, fun z => absurd rfl z⟩
    | false =>
      rw [if_neg (by decide), if_neg (by rw [q2 hb]; decide)]
      exact ⟨fun z => absurd z (by decide), fun _ => ⟨rfl, rfl, rfl⟩⟩
theorem qT_end {u : tS} {C : qV} {g : gV} {n : Nat} {w : eV} : qT u C g n w (if n = 0 then 8 else 9 + n) = (true, C, w) := by
  by_cases h : n = 0
  · rw [if_pos h]
    show qFin u C n (qThn (decide (n = 0) || qCol u C 8 tx9, w) (qFC C 8) (fun y => (true, C, y))) = _
    rw [qThn_s, decide_eq_true h, Bool.true_or, if_pos rfl]
    show qFin u C n (true, C, w) = _
    unfold qFin
    rw [if_pos rfl, h]
    rfl
  · rw [if_neg h, Nat.add_comm]
    show qAll u C (n - n) n w = _
    rw [Nat.sub_self]
    rfl
theorem cI_s {u : tS} {g : gV} {i j c : Nat} {w : eV} (hgo : gOk g) (hI : cI g w c) (hj : j - i < 2 ^ 31) (hz : (cSt u g i j w c).1 = 0) : cI g (cSt u g i j w c).2 (c + 1) := by
  obtain ⟨h1, h2, h3, h4⟩ := hI
  have hc8 := hgo.1.1
  have hc9 := hgo.2.1
  have hto := hgo.2.2.1
  rcases (show c = 0 ∨ c = 1 ∨ c = 2 ∨ c = 3 ∨ c = 4 ∨ c = 5 ∨ c = 6 ∨ c = 7 ∨ c = 8 ∨ 9 ≤ c by omega) with e | e | e | e | e | e | e | e | e | e
  · subst e
    have hz : (if nmIn 8 g.1 u i j = -1 then 4 else 0) = 0 := hz
    have hx : ¬ nmIn 8 g.1 u i j = -1 := fun z => by rw [if_pos z] at hz; exact absurd hz (by decide)
    obtain ⟨q, q1, q2, q3, q4⟩ := fndB_r _ _ hx
    have q3 : nmIn 8 g.1 u i j = nI q := q3
    have e1 : sqN (wSq w (nmIn 8 g.1 u i j)) = q := by
      show (nmIn 8 g.1 u i j).toNatClampNeg = q
      rw [q3, nI_clamp (n := q) (by omega)]
    refine ⟨h1, fun _ => ?_, fun z => absurd z (by decide), fun z => absurd z (by decide)⟩
    show nmIn 8 g.1 u i j = nI (sqN (wSq w (nmIn 8 g.1 u i j))) ∧ sqN (wSq w (nmIn 8 g.1 u i j)) < gCt g
    rw [e1]
    exact ⟨q3, by omega⟩
  · subst e
    have hz : (if tNum u i j (gSz g (sqN w)) ≤ 0 then 4 else 0) = 0 := hz
    have hx : ¬ tNum u i j (gSz g (sqN w)) ≤ 0 := fun z => by rw [if_pos z] at hz; exact absurd hz (by decide)
    have hs := h2 (by decide)
    have hgz := hgo.2.2.2 (sqN w) hs.2
    rcases tNum_r (u := u) (i := i) (j := j) (L := gSz g (sqN w)) with q | ⟨p, p1, p2⟩
    · rw [q] at hx
      exact absurd (by decide) hx
    · have e1 : plN (wPl w (tNum u i j (gSz g (sqN w)))) = p := by
        show (tNum u i j (gSz g (sqN w))).toNatClampNeg = p
        rw [p2, nI_clamp (n := p) (by omega)]
      refine ⟨h1, fun _ => hs, fun _ => ?_, fun z => absurd z (by decide)⟩
      show tNum u i j (gSz g (sqN w)) = nI (plN (wPl w (tNum u i j (gSz g (sqN w))))) ∧ 1 ≤ plN (wPl w (tNum u i j (gSz g (sqN w)))) ∧ plN (wPl w (tNum u i j (gSz g (sqN w)))) ≤ gSz g (sqN w)
      rw [e1]
      refine ⟨p2, ?_, p1⟩
      by_cases h0 : p = 0
      · rw [p2, h0] at hx
        exact absurd (by decide) hx
      · omega
  · subst e
    have hk : eK2 (qIdR u i j w) w := by
      unfold qIdR
      split
      · exact ⟨rfl, rfl⟩
      · exact qIdL_k _ _ _
    have hok : enOk (qIdR u i j w) := by
      unfold qIdR
      split
      · exact ⟨h1.1, h1.2.1, h1.2.2.1, Nat.zero_le _⟩
      · exact qIdL_ok _ _ _ ⟨h1.1, h1.2.1, h1.2.2.1, Nat.zero_le _⟩
    refine ⟨hok, fun _ => ?_, fun _ => ?_, fun z => absurd z (by decide)⟩
    · show eSq (qIdR u i j w) = nI (eSq (qIdR u i j w)).toNatClampNeg ∧ (eSq (qIdR u i j w)).toNatClampNeg < gCt g
      rw [hk.1]
      exact h2 (by decide)
    · show ePl (qIdR u i j w) = nI (ePl (qIdR u i j w)).toNatClampNeg ∧ 1 ≤ (ePl (qIdR u i j w)).toNatClampNeg ∧ (ePl (qIdR u i j w)).toNatClampNeg ≤ gSz g (eSq (qIdR u i j w)).toNatClampNeg
      rw [hk.1, hk.2]
      exact h3 (by decide)
  · subst e
    have hyes : rwOk u i j = true := by
      cases hb : rwOk u i j with
      | true => rfl
      | false =>
        have hz : rfF u g i j (sqN w) (plN w) = 0 := hz
        unfold rfF at hz
        rw [if_pos hb] at hz
        exact absurd hz (by decide)
    obtain ⟨L, l1, l2⟩ := (qRow_f (u := u) (r := 0) (i := i) (j := j) (w := w) (by decide) hj).2 hyes
    have h24 : i < j ∧ j - i ≤ 24 := (in24 hj).mp (by have c9 := hyes; unfold rwOk at c9; rw [Bool.and_eq_true] at c9; exact c9.1)
    show cI g (qRow u 0 i j w).2 (3 + 1)
    rw [l1]
    exact ⟨⟨by show 0 + 1 ≤ 4; decide, va_up_le h1.2.1 h24.2, h1.2.2.1, h1.2.2.2⟩, fun _ => h2 (by decide), fun _ => h3 (by decide), fun _ => Nat.le_refl _⟩
  · subst e
    have hro := h4 (by decide)
    have hk : eK2 (qAltR u i j w).2 w ∧ 1 ≤ eRo (qAltR u i j w).2 := by
      unfold qAltR
      split
      · exact ⟨⟨rfl, rfl⟩, hro⟩
      · exact qAltL_k _ _ _ _ hro
    have hok : enOk (qAltR u i j w).2 := by
      unfold qAltR
      split
      · exact h1
      · exact qAltL_ok _ _ _ _ h1
    refine ⟨hok, fun _ => ?_, fun _ => ?_, fun _ => hk.2⟩
    · show eSq (qAltR u i j w).2 = nI (eSq (qAltR u i j w).2).toNatClampNeg ∧ (eSq (qAltR u i j w).2).toNatClampNeg < gCt g
      rw [hk.1.1]
      exact h2 (by decide)
    · show ePl (qAltR u i j w).2 = nI (ePl (qAltR u i j w).2).toNatClampNeg ∧ 1 ≤ (ePl (qAltR u i j w).2).toNatClampNeg ∧ (ePl (qAltR u i j w).2).toNatClampNeg ≤ gSz g (eSq (qAltR u i j w).2).toNatClampNeg
      rw [hk.1.1, hk.1.2]
      exact h3 (by decide)
  · subst e
    exact ⟨h1, fun _ => h2 (by decide), fun _ => h3 (by decide), fun _ => h4 (by decide)⟩
  · subst e
    exact ⟨h1, fun _ => h2 (by decide), fun _ => h3 (by decide), fun _ => h4 (by decide)⟩
  · subst e
    exact ⟨h1, fun _ => h2 (by decide), fun _ => h3 (by decide), fun _ => h4 (by decide)⟩
  · subst e
    exact ⟨h1, fun _ => h2 (by decide), fun _ => h3 (by decide), fun _ => h4 (by decide)⟩
  · obtain ⟨s, rfl⟩ : ∃ s, c = s + 9 := ⟨c - 9, by omega⟩
    refine ⟨⟨h1.1, h1.2.1, va_up_le h1.2.2.1 (by split <;> omega), h1.2.2.2⟩, fun _ => h2 (by omega), fun _ => h3 (by omega), fun _ => h4 (by omega)⟩