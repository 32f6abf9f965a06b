/-! apply, pure: what is made, and the places carried back -/
def apSg (g : gV) (j n P : Nat) : List (Int32 × Int32) := (List.range (P - n)).map (fun a => (gLe g (gSt g j + n - 1 + a), nI (n + a)))
theorem apSg_l {g : gV} {j n P : Nat} : (apSg g j n P).length = P - n := by
  unfold apSg
  rw [List.length_map, List.length_range]
theorem mapR_g {f : Nat → Int32 × Int32} {n k : Nat} (h : k < n) : ((List.range n).map f).getD k (0, 0) = f k := by
  rw [List.getD_eq_getElem?_getD, List.getElem?_map, List.getElem?_range h]
  rfl
theorem gP_a {l m : List (Int32 × Int32)} {k : Nat} (h : l.length ≤ k) : (l ++ m).getD k (0, 0) = m.getD (k - l.length) (0, 0) := by
  rw [List.getD_eq_getElem?_getD, List.getD_eq_getElem?_getD, List.getElem?_append_right h]
/-- what is left to be made from change k and place n on -/
def apM (g : gV) (j Z : Nat) (E : Nat → eV) (P R : Nat → Nat) : Nat → Nat → Nat → List (Int32 × Int32)
  | 0, _, n => apSg g j n (Z + 1)
  | d + 1, k, n => apSg g j n (P k) ++ (adT (E k) (R k) (P k) (eRs (E k) (R k)) ++ apM g j Z E P R d (k + 1) (P k + eRs (E k) 0))
/-- the changes in a row: nn the next old place, LL the length so far -/
def apQ (E : Nat → eV) (P R F S A B nn LL : Nat → Nat) (N : Nat) : Prop := ∀ i, i < N → F i = P i ∧ S i = eRs (E i) 0 ∧ B i = eRs (E i) (R i) ∧ A i = LL i + (P i - nn i) + 1 ∧ nn i ≤ P i ∧ nn (i + 1) = P i + eRs (E i) 0 ∧ LL (i + 1) = LL i + (P i - nn i) + eRs (E i) (R i)
theorem nI_add9 {a b : Nat} : nI (a + b) = nI a + nI b := Int32.ofNat_add a b
theorem nI_sh {a b q : Nat} : nI (a + q) + (nI b - nI a) = nI (b + q) := by
  have e1 : nI (a + q) = nI a + nI q := nI_add9
  have e2 : nI (b + q) = nI b + nI q := nI_add9
  rw [e1, e2, Int32.sub_eq_add_neg, Int32.add_comm (nI a) (nI q), Int32.add_assoc, Int32.add_comm (nI b) (-nI a), ← Int32.add_assoc (nI a), Int32.add_right_neg, Int32.zero_add, Int32.add_comm]
theorem nI_sb {a b c : Nat} : nI a - nI b - nI c = nI a - nI (b + c) := by
  have e1 : nI (b + c) = nI b + nI c := nI_add9
  rw [e1, Int32.sub_eq_add_neg, Int32.sub_eq_add_neg, Int32.sub_eq_add_neg, Int32.neg_add, Int32.sub_eq_add_neg, Int32.add_assoc]
theorem apM_b {g : gV} {j Z : Nat} {E : Nat → eV} {P R F S A B nn LL : Nat → Nat} {N : Nat} (h : apQ E P R F S A B nn LL N) : ∀ (d k : Nat), k + d = N → ∀ q, q < (apM g j Z E P R d k (nn k)).length → hMovL A B F S (LL k + 1 + q) d k (nI (nn k) - nI (LL k + 1)) = ((apM g j Z E P R d k (nn k)).getD q (0, 0)).2 := by
  intro d
  induction d with
  | zero =>
    intro k _ q hq
    replace hq : q < (apSg g j (nn k) (Z + 1)).length := hq
    rw [apSg_l] at hq
    show nI (LL k + 1 + q) + (nI (nn k) - nI (LL k + 1)) = ((apSg g j (nn k) (Z + 1)).getD q (0, 0)).2
    rw [nI_sh]
    unfold apSg
    rw [mapR_g hq]
  | succ d ih =>
    intro k hk q hq
    obtain ⟨h1, h2, h3, h4, h5, h6, h7⟩ := h k (by omega)
    have hL : apM g j Z E P R (d + 1) k (nn k) = apSg g j (nn k) (P k) ++ (adT (E k) (R k) (P k) (eRs (E k) (R k)) ++ apM g j Z E P R d (k + 1) (nn (k + 1))) := by
      rw [h6]
      rfl
    rw [hL] at hq ⊢
    rw [List.length_append, List.length_append, apSg_l, adT_l] at hq
    show (if LL k + 1 + q < A k then nI (LL k + 1 + q) + (nI (nn k) - nI (LL k + 1)) else if LL k + 1 + q - A k < B k then (if LL k + 1 + q - A k < S k then nI (F k + (LL k + 1 + q - A k)) else -1) else hMovL A B F S (LL k + 1 + q) d (k + 1) (nI (F k + S k) - nI (A k) - nI (B k))) = _
    by_cases c1 : q < P k - nn k
    · rw [if_pos (by omega), gP_l (by rw [apSg_l]; exact c1), nI_sh]
      unfold apSg
      rw [mapR_g c1]
    · rw [if_neg (by omega), gP_a (by rw [apSg_l]; omega), apSg_l]
      by_cases c2 : q - (P k - nn k) < eRs (E k) (R k)
      · rw [if_pos (by omega), gP_l (by rw [adT_l]; exact c2)]
        unfold adT
        rw [mapR_g c2]
        show _ = if q - (P k - nn k) < eRs (E k) 0 then nI (P k + (q - (P k - nn k))) else -1
        rw [h1, h2, show LL k + 1 + q - A k = q - (P k - nn k) by omega]
      · rw [if_neg (by omega), gP_a (by rw [adT_l]; omega), adT_l, nI_sb, h1, h2, h3, ← h6]
        have h8 := ih (k + 1) (by omega) (q - (P k - nn k) - eRs (E k) (R k)) (by omega)
        rw [show LL (k + 1) + 1 + (q - (P k - nn k) - eRs (E k) (R k)) = LL k + 1 + q by omega, show LL (k + 1) + 1 = A k + eRs (E k) (R k) by omega] at h8
        exact h8
