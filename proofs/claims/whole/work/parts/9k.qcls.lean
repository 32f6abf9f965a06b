/-! reading a sample's calls -/
def isSp (u : tS) (k : Nat) : Prop := mOct u k = nI 47 ∨ mOct u k = nI 124
theorem qMdL_f {u : tS} {i : Nat} : ∀ (d m : Nat), (qMdL u i d m = m ∧ ∀ k, i ≤ k → k < i + d → ¬ isSp u k) ∨ (i ≤ qMdL u i d m ∧ qMdL u i d m < i + d ∧ isSp u (qMdL u i d m) ∧ ∀ k, i ≤ k → k < qMdL u i d m → ¬ isSp u k) := by
  intro d
  induction d with
  | zero => intro m; exact Or.inl ⟨rfl, fun k h1 h2 => by omega⟩
  | succ d ih =>
    intro m
    have e : qMdL u i (d + 1) m = qMdL u i d (if mOct u (i + d) = nI 47 ∨ mOct u (i + d) = nI 124 then i + d else m) := rfl
    rw [e]
    rcases ih (if mOct u (i + d) = nI 47 ∨ mOct u (i + d) = nI 124 then i + d else m) with ⟨h1, h2⟩ | ⟨h1, h2, h3, h4⟩
    · rw [h1]
      by_cases c : mOct u (i + d) = nI 47 ∨ mOct u (i + d) = nI 124
      · rw [if_pos c]
        exact Or.inr ⟨by omega, by omega, c, h2⟩
      · rw [if_neg c]
        refine Or.inl ⟨rfl, fun k k1 k2 => ?_⟩
        by_cases e2 : k = i + d
        · rw [e2]; exact c
        · exact h2 k k1 (by omega)
    · exact Or.inr ⟨h1, by omega, h3, h4⟩
theorem mCO_3 {A : Nat} {x : Int32} (hA : A ≤ 3) : mCO A x ≤ nI 3 := by
  unfold mCO
  split
  · decide
  · split
    · rename_i h
      obtain ⟨n, h1, h2, h3⟩ := mIn_nat h (by decide) (by omega)
      rw [h3, sub_nI h1]
      exact nI_le (by omega) (by decide)
    · decide
/-- one octet -/
theorem qCaA_1 {y : mV} {u : tS} {i A : Nat} (hp : mTp y u) (hi : i < u.1) (hA : A ≤ 3) : qCaA u i (i + 1) (A + 1) = mCO A (mOct u i) := by
  obtain ⟨c, c1, c2⟩ := mTp_oct hp hi
  have hu := hp.2.1
  have e0 : u.2.1 i = nI c := by rw [← c2]; exact (mOct_in hi hu).symm
  have hT : tIs u i (i + 1) tx7 = decide (c = 46) := by
    unfold tIs tBeg tx7
    rw [show i + 1 - i = 1 by omega]
    show (decide (1 = 1) && (decide (i + 1 ≤ u.1) && (decide (u.2.1 (i + 0) = nI 46) && true))) = _
    rw [decide_eq_true rfl, decide_eq_true (show i + 1 ≤ u.1 by omega), Bool.true_and, Bool.true_and, Bool.and_true, Nat.add_zero, e0]
    by_cases e : c = 46
    · rw [e, decide_eq_true rfl, decide_eq_true rfl]
    · rw [decide_eq_false (nI_n e (by omega) (by decide)), decide_eq_false e]
  have hN : tNum u i (i + 1) (A + 1 - 1) = if c < 48 ∨ 57 < c then -1 else if A < c - 48 then -1 else nI (c - 48) := by
    unfold tNum
    rw [if_neg (fun z => z.elim (by omega) (fun z => by omega)), show i + 1 - i = 0 + 1 by omega]
    show (if mOct u i < nI 48 ∨ nI 57 < mOct u i then -1 else if A + 1 - 1 < 0 * 10 + (mOct u i).toNatClampNeg - 48 then -1 else nI (0 * 10 + (mOct u i).toNatClampNeg - 48)) = _
    rw [c2, nI_clamp (n := c) (by omega), Nat.zero_mul, Nat.zero_add, Nat.add_sub_cancel]
    by_cases e : c < 48 ∨ 57 < c
    · rw [if_pos e, if_pos (e.imp (fun z => nI_lt z (by decide)) (fun z => nI_lt z (by omega)))]
    · rw [if_neg e, if_neg (fun z => e (z.imp (fun z => (nI_ltI (by omega) (by decide)).mp z) (fun z => (nI_ltI (by decide) (by omega)).mp z)))]
  unfold qCaA mCO
  rw [hT, hN, c2]
  by_cases e : c = 46
  · rw [e, decide_eq_true rfl, if_pos rfl, if_pos rfl]
  · rw [decide_eq_false e, if_neg (by decide), if_neg (nI_n e (by omega) (by decide))]
    by_cases e2 : 48 ≤ c ∧ c ≤ 48 + A
    · rw [if_neg (show ¬ (c < 48 ∨ 57 < c) by omega), if_neg (show ¬ A < c - 48 by omega), if_neg (nI_m1 (by omega)), if_pos (mIn_of e2.1 e2.2 (by omega)), sub_nI e2.1]
    · have hz : (if c < 48 ∨ 57 < c then (-1 : Int32) else if A < c - 48 then -1 else nI (c - 48)) = -1 := by
        by_cases e3 : c < 48 ∨ 57 < c
        · rw [if_pos e3]
        · rw [if_neg e3, if_pos (by omega)]
      rw [hz, if_pos rfl, if_neg (fun z => by
        obtain ⟨n, h1, h2, h3⟩ := mIn_nat z (by decide) (by omega)
        have := nI_inj h3 (by omega) (by omega)
        omega)]
/-- none, or more than one octet -/
theorem qCaA_n {u : tS} {i j A : Nat} (hA : A ≤ 3) (hj : j - i ≠ 1) : qCaA u i j (A + 1) = -2 := by
  have hT : tIs u i j tx7 = false := by
    unfold tIs
    rw [decide_eq_false (show ¬ j - i = tx7.length from hj), Bool.false_and]
  have hN : tNum u i j (A + 1 - 1) = -1 := by
    unfold tNum
    by_cases c : j ≤ i ∨ (1 < j - i ∧ ocAt u.1 u.2.1 (nI i) = nI 48)
    · rw [if_pos c]
    · rw [if_neg c]
      obtain ⟨d, hd⟩ : ∃ d, j - i = d + 1 + 1 := ⟨j - i - 2, by omega⟩
      rw [hd]
      unfold tNumL
      split
      · rfl
      · rename_i h1
        split
        · rfl
        · rename_i h2
          unfold tNumL
          split
          · rfl
          · rename_i h3
            have hne : ¬ ocAt u.1 u.2.1 (nI i) = nI 48 := fun z => c (Or.inr ⟨by omega, z⟩)
            have hb : mIn (ocAt u.1 u.2.1 (nI i)) (nI 48) (nI 57) = true := in48.mpr h1
            obtain ⟨n, n1, n2, n3⟩ := mIn_nat hb (by decide) (by decide)
            have hb2 : mIn (ocAt u.1 u.2.1 (nI (i + 1))) (nI 48) (nI 57) = true := in48.mpr h3
            obtain ⟨n', m1, m2, m3⟩ := mIn_nat hb2 (by decide) (by decide)
            have hn48 : n ≠ 48 := fun z => hne (by rw [n3, z])
            rw [n3, nI_clamp (n := n) (by omega)] at h2
            rw [if_pos]
            rw [n3, m3, nI_clamp (n := n) (by omega), nI_clamp (n := n') (by omega)]
            omega
  unfold qCaA
  rw [hT, hN, if_neg (by decide), if_pos rfl]
def okC (u : tS) (i j A : Nat) : Bool := (decide (j - i = 1) && decide (¬ mCO A (mOct u i) = -2)) || (decide (j - i = 3) && ((decide (mOct u (i + 1) = nI 47) || decide (mOct u (i + 1) = nI 124)) && (decide (¬ mCO A (mOct u i) = -2) && decide (¬ mCO A (mOct u (i + 2)) = -2))))
theorem sp_mCO {u : tS} {k A : Nat} (h : isSp u k) (hA : A ≤ 3) : mCO A (mOct u k) = -2 := by
  have : ∀ c : Nat, c = 47 ∨ c = 124 → mCO A (nI c) = -2 := fun c hc => by
    unfold mCO
    rw [if_neg (nI_n (by omega) (by omega) (by decide)), if_neg (fun z => by
      obtain ⟨n, h1, h2, h3⟩ := mIn_nat z (by decide) (by omega)
      have := nI_inj h3 (by omega) (by omega)
      omega)]
  rcases h with e | e <;> rw [e]
  · exact this 47 (Or.inl rfl)
  · exact this 124 (Or.inr rfl)
theorem qCls_f {y : mV} {u : tS} {i j A s : Nat} {w : eV} (hp : mTp y u) (hij : i ≤ j) (hj : j ≤ u.1) (hA : A ≤ 3) (hw : eRo w = A + 1) : (okC u i j A = true → qCls u i j s w = (true, wPh (wCn (wCa w (upd (upd (eCa w) (s * 2 + 0) (mCO A (mOct u i))) (s * 2 + 1) (if j - i = 3 then mCO A (mOct u (i + 2)) else -1))) (va_up (eCn w) s (if j - i = 3 then 2 else 1))) (va_up (ePh w) s (decide (j - i = 3) && decide (mOct u (i + 1) = nI 124))))) ∧ (okC u i j A = false → (qCls u i j s w).1 = false) := by
  have hmid := qMdL_f (u := u) (i := i) (j - i) j
  have hmid : (qMid u i j = j ∧ ∀ k, i ≤ k → k < i + (j - i) → ¬ isSp u k) ∨ (i ≤ qMid u i j ∧ qMid u i j < i + (j - i) ∧ isSp u (qMid u i j) ∧ ∀ k, i ≤ k → k < qMid u i j → ¬ isSp u k) := hmid
  unfold qCls qCl2
  rw [hw]
  generalize qMid u i j = md at hmid
  -- the class answers no where a part isn't one octet
  have hno : ∀ {X : eV}, (qCaA u i md (A + 1) = -2 ∨ (if md < j then qCaA u (md + 1) j (A + 1) else -1) = -2) → ((if qCaA u i md (A + 1) = -2 ∨ (if md < j then qCaA u (md + 1) j (A + 1) else -1) = -2 then (false, w) else (true, X)) : Bool × eV).1 = false := fun {X} h => by rw [if_pos h]
  by_cases n1 : j - i = 1
  · by_cases c : mCO A (mOct u i) = -2
    · have hF : okC u i j A = false := by
        unfold okC
        rw [decide_eq_true n1, decide_eq_false (fun z => z c), decide_eq_false (show ¬ j - i = 3 by omega)]
        rfl
      refine ⟨fun z => by rw [hF] at z; exact Bool.noConfusion z, fun _ => hno (Or.inl ?_)⟩
      rcases hmid with ⟨h1, h2⟩ | ⟨h1, h2, h3, h4⟩
      · rw [h1, show j = i + 1 by omega, qCaA_1 hp (by omega) hA]
        exact c
      · exact qCaA_n hA (by omega)
    · have hT : okC u i j A = true := by
        unfold okC
        rw [decide_eq_true n1, decide_eq_true c]
        rfl
      refine ⟨fun _ => ?_, fun z => by rw [hT] at z; exact Bool.noConfusion z⟩
      have hm : md = j := by
        rcases hmid with ⟨h1, h2⟩ | ⟨h1, h2, h3, h4⟩
        · exact h1
        · exact absurd (sp_mCO (show isSp u i by rw [show i = md by omega]; exact h3) hA) c
      have e1 : qCaA u i j (A + 1) = mCO A (mOct u i) := by rw [show j = i + 1 by omega]; exact qCaA_1 hp (by omega) hA
      subst hm
      rw [if_neg (Nat.lt_irrefl md), e1, if_neg (fun z => z.elim c (by decide)), if_neg (Nat.lt_irrefl md), if_neg (show ¬ md - i = 3 by omega), if_neg (show ¬ md - i = 3 by omega), decide_eq_false (Nat.lt_irrefl md), decide_eq_false (show ¬ md - i = 3 by omega), Bool.false_and, Bool.false_and]
  · by_cases n3 : j - i = 3
    · by_cases c1 : isSp u (i + 1)
      · by_cases c : mCO A (mOct u i) = -2
        · have hF : okC u i j A = false := by
            unfold okC
            rw [decide_eq_false n1, decide_eq_false (fun z => z c), Bool.false_and, Bool.false_and, Bool.and_false, Bool.and_false]
            rfl
          refine ⟨fun z => by rw [hF] at z; exact Bool.noConfusion z, fun _ => hno (Or.inl ?_)⟩
          rcases hmid with ⟨h1, h2⟩ | ⟨h1, h2, h3, h4⟩
          · exact absurd c1 (h2 (i + 1) (by omega) (by omega))
          · by_cases e : md = i + 1
            · rw [e, qCaA_1 hp (by omega) hA]
              exact c
            · exact qCaA_n hA (by omega)
        · have hm : md = i + 1 := by
            rcases hmid with ⟨h1, h2⟩ | ⟨h1, h2, h3, h4⟩
            · exact absurd c1 (h2 (i + 1) (by omega) (by omega))
            · by_cases e : md = i
              · exact absurd (sp_mCO (show isSp u i by rw [← e]; exact h3) hA) c
              · by_cases e2 : md = i + 1
                · exact e2
                · exact absurd c1 (h4 (i + 1) (by omega) (by omega))
          have e1 : qCaA u i (i + 1) (A + 1) = mCO A (mOct u i) := qCaA_1 hp (by omega) hA
          have e2 : qCaA u (i + 1 + 1) j (A + 1) = mCO A (mOct u (i + 2)) := by rw [show j = i + 2 + 1 by omega]; exact qCaA_1 hp (by omega) hA
          subst hm
          have hs2 : (decide (mOct u (i + 1) = nI 47) || decide (mOct u (i + 1) = nI 124)) = true := by
            rcases c1 with e | e
            · rw [decide_eq_true e]; rfl
            · rw [decide_eq_true e, Bool.or_true]
          rw [if_pos (show i + 1 < j by omega), e1, e2]
          by_cases c2 : mCO A (mOct u (i + 2)) = -2
          · have hF : okC u i j A = false := by
              unfold okC
              rw [decide_eq_false n1, decide_eq_false (show ¬ ¬ mCO A (mOct u (i + 2)) = -2 from fun z => z c2), Bool.false_and, Bool.and_false, Bool.and_false, Bool.and_false]
              rfl
            refine ⟨fun z => by rw [hF] at z; exact Bool.noConfusion z, fun _ => ?_⟩
            rw [if_pos (Or.inr c2)]
          · have hT : okC u i j A = true := by
              unfold okC
              rw [decide_eq_true n3, decide_eq_true c, decide_eq_true c2, hs2]
              cases decide (j - i = 1) <;> rfl
            refine ⟨fun _ => ?_, fun z => by rw [hT] at z; exact Bool.noConfusion z⟩
            rw [if_neg (fun z => z.elim c c2), if_pos n3, if_pos n3, if_pos (show i + 1 < j by omega), decide_eq_true (show i + 1 < j by omega), decide_eq_true n3]
            rfl
      · have hF : okC u i j A = false := by
          unfold okC
          rw [decide_eq_false n1, decide_eq_false (fun z => c1 (Or.inl z)), decide_eq_false (fun z => c1 (Or.inr z))]
          cases decide (j - i = 3) <;> rfl
        refine ⟨fun z => by rw [hF] at z; exact Bool.noConfusion z, fun _ => hno (Or.inl ?_)⟩
        rcases hmid with ⟨h1, h2⟩ | ⟨h1, h2, h3, h4⟩
        · exact qCaA_n hA (by omega)
        · refine qCaA_n hA (fun z => ?_)
          exact c1 (by rw [show i + 1 = md by omega]; exact h3)
    · have hF : okC u i j A = false := by
        unfold okC
        rw [decide_eq_false n1, decide_eq_false n3]
        rfl
      refine ⟨fun z => by rw [hF] at z; exact Bool.noConfusion z, fun _ => hno ?_⟩
      rcases hmid with ⟨h1, h2⟩ | ⟨h1, h2, h3, h4⟩
      · exact Or.inl (qCaA_n hA (by omega))
      · by_cases e : md - i = 1
        · refine Or.inr ?_
          rw [if_pos (by omega)]
          exact qCaA_n hA (by omega)
        · exact Or.inl (qCaA_n hA e)