section AAD
variable {E : eN} {I : mR} {mc ms : Nat} {Q : aP} {pc : Nat} {lo : List (Option Value)} {st : List Value} {f : aH} {t bc bs : Nat}
theorem v_aaldD (hE : eOk E) {a i : Nat} {A : Nat → Nat} (d : decode I.2.1 pc = .ok (.aaload, 1)) (hf : f a = sA A) (hi : i < 2) (kk : V E I mc ms Q (pc + 1) lo (.ref (A (5 + i)) :: st) f t bc bs) : V E I mc ms Q pc lo (.int (nI i) :: .ref a :: st) f t bc bs := by
  refine v_aaldS hE d hf hi (by omega) ?_
  rw [if_pos hi]
  exact kk
theorem va_some2 {A : Nat → Nat} {i x : Nat} (h : i < 2) : va_up (fun k => if k < 2 then some (A (5 + k)) else none) i (some x) = fun k => if k < 2 then some (va_up A (5 + i) x (5 + k)) else none := by
  funext k
  by_cases q : k = i
  · subst q; rw [va_up_self, va_up_self, if_pos h]
  · rw [va_up_ne _ _ q, va_up_ne _ _ (by omega)]
theorem v_aastD (hE : eOk E) {a v i : Nat} {A : Nat → Nat} {vs : List Value} (d : decode I.2.1 pc = .ok (.aastore, 1)) (hf : f a = sA A) (hv : f v = .inr (7, vs)) (hi : i < 2) (kk : V E I mc ms Q (pc + 1) lo st (va_up f a (sA (va_up A (5 + i) v))) t bc bs) : V E I mc ms Q pc lo (.ref v :: .int (nI i) :: .ref a :: st) f t bc bs := by
  refine v_aastS hE d hf hv hi (by omega) ?_
  rw [va_some2 hi]
  exact kk
end AAD
/-- a number as an index below n -/
def ix (n : Nat) (q : Int32) : Option Nat := if 0 ≤ q ∧ q < nI n then some q.toNatClampNeg else none
theorem ix_some {n : Nat} {q : Int32} (h1 : ¬ q < 0) (h2 : q < nI n) (hn : n < 2 ^ 31) : ∃ k, k < n ∧ q = nI k ∧ ix n q = some k := by
  have h0 : 0 ≤ q := Int32.not_lt.mp h1
  have e0 : 0 ≤ q.toInt := by have := Int32.le_iff_toInt_le.mp h0; simpa using this
  have e1 : q.toInt < n := by have := Int32.lt_iff_toInt_lt.mp h2; rwa [nI_toInt hn] at this
  have e2 : q = nI q.toInt.toNat := by
    apply Int32.toInt_inj.mp
    rw [nI_toInt (by omega)]
    omega
  refine ⟨q.toInt.toNat, by omega, e2, ?_⟩
  unfold ix
  rw [if_pos ⟨h0, h2⟩]
  exact congrArg some ((congrArg Int32.toNatClampNeg e2).trans (nI_clamp (by omega)))
theorem ix_none {n : Nat} {q : Int32} (h : q < 0 ∨ ¬ q < nI n) : ix n q = none := if_neg (fun z => h.elim (fun y => absurd z.1 (Int32.not_le.mpr y)) (fun y => y z.2))
def eGo (w : eV) (n : Nat) (g : gV) : Prop := (∃ s p : Nat, eSq w = nI s ∧ ePl w = nI p ∧ s < gCt g ∧ 1 ≤ p ∧ p + eRs w 0 ≤ gSz g s + 1) ∧ 1 ≤ eRo w ∧ ePos w ∧ (eQu w = -1 ∨ ∃ q : Nat, q ≤ 999999 ∧ eQu w = nI q) ∧ ∀ i, i < n → 1 ≤ eCn w i ∧ ∀ c, c < eCn w i → eCa w (i * 2 + c) = -1 ∨ ∃ m : Nat, m < eRo w ∧ eCa w (i * 2 + c) = nI m
/-- the records of the sheets -/
def dXs (D x : Nat) : Prop := (∃ i, i < 60 ∧ x = D + 31 + 7 * i) ∨ (∃ i, i < 60 ∧ x = D + 456 + 7 * i) ∨ (∃ i, i < 60 ∧ x = D + 881 + 7 * i)
def dRe (D : Nat) (Z : Nat → sV) : Prop := (∀ i k, i < 3 → k < 60 → dXs D ((Z i).1 k)) ∧ ∀ i k j l, i < 3 → k < 60 → j < 3 → l < 60 → (Z i).1 k = (Z j).1 l → i = j ∧ k = l
def dHo (h : hV) : Prop := hBd h ∧ ∀ k, hCh h k < 60
def dOk (D : Nat) (x : dV) : Prop := dAd D (dA x) ∧ (∀ i, i < 2 → gOk (dG x i)) ∧ (∀ i, i < 3 → shOk (dZ x i)) ∧ (∀ y, dX D y → enOk (dW x y)) ∧ dRe D (dZ x) ∧ (∀ i k, i < 2 → k < (dZ x i).2.2 → eGo (dW x ((dZ x i).1 k)) (dZ x i).2.1.1 (dG x 0)) ∧ dHo (dH x)
theorem dXs_X {D x : Nat} (h : dXs D x) : dX D x := by
  rcases h with h | h | h
  · exact Or.inl h
  · exact Or.inr (Or.inl h)
  · exact Or.inr (Or.inr (Or.inl h))
theorem dXs_n {D x : Nat} (h : dXs D x) : x ≠ D + 1302 ∧ x ≠ D + 1309 := by
  rcases h with ⟨i, h1, h2⟩ | ⟨i, h1, h2⟩ | ⟨i, h1, h2⟩ <;> omega
def dSh (x : dV) (q : Int32) : Option Nat := ix 2 q
def dOut (c : String) (r : Option Int32) : aO := match r with
  | none => .inr c
  | some a => .inl (some (.int a))

set_option maxRecDepth 100000 in
set_option maxHeartbeats 4000000 in
/-- sheetAt -/
theorem sX9_sheetAt {E : eN} (hE : eOk E) {f : aH} {t : Nat} {D : Nat} {x : dV} {q : Int32} (hS : eSt E) (hT : eTh E) (hI : dOk D x) (hk : dkP f D x) (ht : D + 1322 < t) : mT E mX9_sheetAt 1 6 [.ref D, .int q] f t (fun o f' t' => (ix 2 q = none ∧ o = .inr nIO ∧ f' = f ∧ t ≤ t') ∨ (∃ i, ix 2 q = some i ∧ i < 2 ∧ q = nI i ∧ o = .inl (some (.ref (dA x (5 + i)))) ∧ t' = t ∧ f' = f)) := by
  refine mT_of (n := 0) (lo := [some (.ref D), some (.int q)]) (by decide) (by exact Nat.le_of_ble_eq_true rfl) rfl rfl ?_
  obtain ⟨k0, k1, hkT, hkG, hkZ, hkW, k6, k7, k8⟩ := id hk
  have hA := hI.1
  refine v_iload_n dX9_sheetAt_0 rfl (by rfl) ?_
  refine v_if_lt (tgt := 9) dX9_sheetAt_1 (by decide) (fun c1 => ?_) (fun c1 => ?_)
  · refine v_throwW hE hS hT (cls := nIO) (r := (RX9, 273, "no such table", tx2)) thIO rfl (by unfold strTab; repeat (first | exact List.Mem.head _ | apply List.Mem.tail)) rfl rfl dX9_sheetAt_9 dX9_sheetAt_12 dX9_sheetAt_13 dX9_sheetAt_16 dX9_sheetAt_19 (by decide) (by decide) (by omega) (by omega) (fun u9 hu9 => ?_)
    exact Or.inl ⟨ix_none (by first | exact Or.inl c1 | exact Or.inr c6), rfl, rfl, hu9⟩
  · refine v_iload_n dX9_sheetAt_4 rfl (by rfl) ?_
    refine v_iconst (v := nI 2) dX9_sheetAt_5 (by decide) ?_
    refine v_icmp_lt (tgt := 20) dX9_sheetAt_6 (by decide) (fun c6 => ?_) (fun c6 => ?_)
    · obtain ⟨i, hi, e, hx⟩ := ix_some (n := 2) c1 c6 (by decide)
      subst e
      refine v_aload_n dX9_sheetAt_20 rfl (by rfl) ?_
      refine v_getf hE dX9_sheetAt_21 fX9_34 (by repeat (first | assumption | exact va_up_self _ _ _ | refine (va_up_ne _ _ (by omega)).trans ?_)) (by rfl) ?_
      refine v_iload_n dX9_sheetAt_24 rfl (by rfl) ?_
      refine v_aaldD hE dX9_sheetAt_25 (by repeat (first | assumption | exact va_up_self _ _ _ | refine (va_up_ne _ _ (by omega)).trans ?_)) (by omega) ?_
      refine v_aret dX9_sheetAt_26 rfl (by first | exact Or.inl ⟨_, rfl⟩ | exact Or.inr ⟨_, rfl⟩) (Or.inr ⟨_, rfl⟩) ?_
      exact Or.inr ⟨i, hx, hi, rfl, rfl, rfl, rfl⟩
    · refine v_throwW hE hS hT (cls := nIO) (r := (RX9, 273, "no such table", tx2)) thIO rfl (by unfold strTab; repeat (first | exact List.Mem.head _ | apply List.Mem.tail)) rfl rfl dX9_sheetAt_9 dX9_sheetAt_12 dX9_sheetAt_13 dX9_sheetAt_16 dX9_sheetAt_19 (by decide) (by decide) (by omega) (by omega) (fun u9 hu9 => ?_)
      exact Or.inl ⟨ix_none (by first | exact Or.inl c1 | exact Or.inr c6), rfl, rfl, hu9⟩

set_option maxRecDepth 100000 in
set_option maxHeartbeats 4000000 in
/-- entryAt -/
theorem sX9_entryAt {E : eN} (hE : eOk E) {f : aH} {t : Nat} {D : Nat} {x : dV} {q r : Int32} (hS : eSt E) (hT : eTh E) (hI : dOk D x) (hk : dkP f D x) (ht : D + 1322 < t) : mT E mX9_entryAt 2 12 [.ref D, .int q, .int r] f t (fun o f' t' => ((∀ i k, ix 2 q = some i → ix (dZ x i).2.2 r = some k → False) ∧ o = .inr nIO ∧ f' = f ∧ t ≤ t') ∨ (∃ i k, ix 2 q = some i ∧ i < 2 ∧ q = nI i ∧ ix (dZ x i).2.2 r = some k ∧ k < (dZ x i).2.2 ∧ r = nI k ∧ o = .inl (some (.ref ((dZ x i).1 k))) ∧ t' = t ∧ f' = f)) := by
  refine mT_of (n := 1) (lo := [some (.ref D), some (.int q), some (.int r), none]) (by decide) (by exact Nat.le_of_ble_eq_true rfl) rfl rfl ?_
  obtain ⟨k0, k1, hkT, hkG, hkZ, hkW, k6, k7, k8⟩ := id hk
  have hA := hI.1
  refine v_aload_n dX9_entryAt_0 rfl (by rfl) ?_
  refine v_iload_n dX9_entryAt_1 rfl (by rfl) ?_
  refine w_callV hE dX9_entryAt_2 kX9_98 (by repeat (first | assumption | exact va_up_self _ _ _ | refine (va_up_ne _ _ (by omega)).trans ?_)) (by rfl) (by rfl) (sX9_sheetAt hE hS hT hI hk ht) rfl (by decide) (by decide) (by exact Nat.le_of_ble_eq_true rfl) (by omega) (by omega) (fun v9 g9 u9 h9 => ?_) (fun c9 g9 u9 h9 => h9.elim (fun z => by obtain ⟨z1, z2, z3, z4⟩ := z; cases z2; exact Or.inl ⟨fun i k z5 => by (rw [z1] at z5; cases z5), rfl, z3, z4⟩) (fun z => by obtain ⟨_, _, _, _, z, _⟩ := z; cases z))
  obtain ⟨i, hi0, hi, hqi, hv9, hu9, hg9⟩ := h9.resolve_left (fun z => by cases z.2.1)
  replace hu9 := hu9.symm
  replace hg9 := hg9.symm
  subst hu9
  subst hg9
  cases hv9
  obtain ⟨z0, z1, z2, z3, z4⟩ := hkZ i (by omega)
  have hzo := hI.2.2.1 i (by omega)
  have hz8 := hzo.2
  refine v_astore_n dX9_entryAt_5 rfl (by decide) ?_
  refine v_iload_n dX9_entryAt_6 rfl (by rfl) ?_
  refine v_if_lt (tgt := 18) dX9_entryAt_7 (by decide) (fun c7 => ?_) (fun c7 => ?_)
  · refine v_throwW hE hS hT (cls := nIO) (r := (RX9, 275, "no such record", tx14)) thIO rfl (by unfold strTab; repeat (first | exact List.Mem.head _ | apply List.Mem.tail)) rfl rfl dX9_entryAt_18 dX9_entryAt_21 dX9_entryAt_22 dX9_entryAt_25 dX9_entryAt_28 (by decide) (by decide) (by omega) (by omega) (fun u9 hu9 => ?_)
    exact Or.inl ⟨fun j k z5 z6 => by (rw [hi0] at z5; cases z5; rw [ix_none (by first | exact Or.inl c7 | exact Or.inr c15)] at z6; cases z6), rfl, rfl, hu9⟩
  · refine v_iload_n dX9_entryAt_10 rfl (by rfl) ?_
    refine v_aload_n dX9_entryAt_11 rfl (by rfl) ?_
    refine v_getf hE dX9_entryAt_12 fX9_113 (by repeat (first | assumption | exact va_up_self _ _ _ | refine (va_up_ne _ _ (by omega)).trans ?_)) (by rfl) ?_
    refine v_icmp_lt (tgt := 29) dX9_entryAt_15 (by decide) (fun c15 => ?_) (fun c15 => ?_)
    · obtain ⟨k, hk1, e, hx⟩ := ix_some (n := (dZ x i).2.2) c7 c15 (by omega)
      subst e
      refine v_aload_n dX9_entryAt_29 rfl (by rfl) ?_
      refine v_getf hE dX9_entryAt_30 fX9_203 (by repeat (first | assumption | exact va_up_self _ _ _ | refine (va_up_ne _ _ (by omega)).trans ?_)) (by rfl) ?_
      refine v_iload_n dX9_entryAt_33 rfl (by rfl) ?_
      refine v_aaldC hE dX9_entryAt_34 (by repeat (first | assumption | exact va_up_self _ _ _ | refine (va_up_ne _ _ (by omega)).trans ?_)) (by omega) ?_
      refine v_aret dX9_entryAt_35 rfl (by first | exact Or.inl ⟨_, rfl⟩ | exact Or.inr ⟨_, rfl⟩) (Or.inr ⟨_, rfl⟩) ?_
      exact Or.inr ⟨i, k, hi0, hi, hqi, hx, hk1, rfl, rfl, rfl, rfl⟩
    · refine v_throwW hE hS hT (cls := nIO) (r := (RX9, 275, "no such record", tx14)) thIO rfl (by unfold strTab; repeat (first | exact List.Mem.head _ | apply List.Mem.tail)) rfl rfl dX9_entryAt_18 dX9_entryAt_21 dX9_entryAt_22 dX9_entryAt_25 dX9_entryAt_28 (by decide) (by decide) (by omega) (by omega) (fun u9 hu9 => ?_)
      exact Or.inl ⟨fun j k z5 z6 => by (rw [hi0] at z5; cases z5; rw [ix_none (by first | exact Or.inl c7 | exact Or.inr c15)] at z6; cases z6), rfl, rfl, hu9⟩

set_option maxRecDepth 100000 in
set_option maxHeartbeats 4000000 in
/-- checkSample -/
theorem sX9_checkSample {E : eN} (hE : eOk E) {f : aH} {t : Nat} {D : Nat} {x : dV} {q r : Int32} (hS : eSt E) (hT : eTh E) (hI : dOk D x) (hk : dkP f D x) (ht : D + 1322 < t) : mT E mX9_checkSample 2 12 [.ref D, .int q, .int r] f t (fun o f' t' => ((∀ i k, ix 2 q = some i → ix (dZ x i).2.1.1 r = some k → False) ∧ o = .inr nIO ∧ f' = f ∧ t ≤ t') ∨ (∃ i k, ix 2 q = some i ∧ i < 2 ∧ q = nI i ∧ ix (dZ x i).2.1.1 r = some k ∧ k < (dZ x i).2.1.1 ∧ r = nI k ∧ o = .inl none ∧ t' = t ∧ f' = f)) := by
  refine mT_of (n := 0) (lo := [some (.ref D), some (.int q), some (.int r)]) (by decide) (by exact Nat.le_of_ble_eq_true rfl) rfl rfl ?_
  obtain ⟨k0, k1, hkT, hkG, hkZ, hkW, k6, k7, k8⟩ := id hk
  have hA := hI.1
  refine v_iload_n dX9_checkSample_0 rfl (by rfl) ?_
  refine v_if_lt (tgt := 19) dX9_checkSample_1 (by decide) (fun c1 => ?_) (fun c1 => ?_)
  · refine v_throwW hE hS hT (cls := nIO) (r := (RX9, 277, "no such sample", tx17)) thIO rfl (by unfold strTab; repeat (first | exact List.Mem.head _ | apply List.Mem.tail)) rfl rfl dX9_checkSample_19 dX9_checkSample_22 dX9_checkSample_23 dX9_checkSample_26 dX9_checkSample_29 (by decide) (by decide) (by omega) (by omega) (fun u9 hu9 => ?_)
    first
      | exact Or.inl ⟨fun j k z5 z6 => by (rw [ix_none (Or.inl c1)] at z6; cases z6), rfl, rfl, hu9⟩
      | exact Or.inl ⟨fun j k z5 z6 => by (rw [hi0] at z5; cases z5; rw [ix_none (Or.inr c16)] at z6; cases z6), rfl, rfl, hu9⟩
  · refine v_iload_n dX9_checkSample_4 rfl (by rfl) ?_
    refine v_aload_n dX9_checkSample_5 rfl (by rfl) ?_
    refine v_iload_n dX9_checkSample_6 rfl (by rfl) ?_
    refine w_callV hE dX9_checkSample_7 kX9_98 (by repeat (first | assumption | exact va_up_self _ _ _ | refine (va_up_ne _ _ (by omega)).trans ?_)) (by rfl) (by rfl) (sX9_sheetAt hE hS hT hI hk ht) rfl (by decide) (by decide) (by exact Nat.le_of_ble_eq_true rfl) (by omega) (by omega) (fun v9 g9 u9 h9 => ?_) (fun c9 g9 u9 h9 => h9.elim (fun z => by obtain ⟨z1, z2, z3, z4⟩ := z; cases z2; exact Or.inl ⟨fun i k z5 => by (rw [z1] at z5; cases z5), rfl, z3, z4⟩) (fun z => by obtain ⟨_, _, _, _, z, _⟩ := z; cases z))
    obtain ⟨i, hi0, hi, hqi, hv9, hu9, hg9⟩ := h9.resolve_left (fun z => by cases z.2.1)
    replace hu9 := hu9.symm
    replace hg9 := hg9.symm
    subst hu9
    subst hg9
    cases hv9
    obtain ⟨z0, z1, z2, z3, z4⟩ := hkZ i (by omega)
    have hzo := hI.2.2.1 i (by omega)
    have hz8 := hzo.2
    have hn3 := hzo.1.1
    refine v_getf hE dX9_checkSample_10 fX9_152 (by repeat (first | assumption | exact va_up_self _ _ _ | refine (va_up_ne _ _ (by omega)).trans ?_)) (by rfl) ?_
    refine v_getf hE dX9_checkSample_13 fX9_153 (by repeat (first | assumption | exact va_up_self _ _ _ | refine (va_up_ne _ _ (by omega)).trans ?_)) (by rfl) ?_
    refine v_icmp_lt (tgt := 30) dX9_checkSample_16 (by decide) (fun c16 => ?_) (fun c16 => ?_)
    · obtain ⟨k, hk1, e, hx⟩ := ix_some (n := (dZ x i).2.1.1) c1 c16 (by omega)
      subst e
      refine v_ret dX9_checkSample_30 rfl ?_
      exact Or.inr ⟨i, k, hi0, hi, hqi, hx, hk1, rfl, rfl, rfl, rfl⟩
    · refine v_throwW hE hS hT (cls := nIO) (r := (RX9, 277, "no such sample", tx17)) thIO rfl (by unfold strTab; repeat (first | exact List.Mem.head _ | apply List.Mem.tail)) rfl rfl dX9_checkSample_19 dX9_checkSample_22 dX9_checkSample_23 dX9_checkSample_26 dX9_checkSample_29 (by decide) (by decide) (by omega) (by omega) (fun u9 hu9 => ?_)
      first
        | exact Or.inl ⟨fun j k z5 z6 => by (rw [ix_none (Or.inl c1)] at z6; cases z6), rfl, rfl, hu9⟩
        | exact Or.inl ⟨fun j k z5 z6 => by (rw [hi0] at z5; cases z5; rw [ix_none (Or.inr c16)] at z6; cases z6), rfl, rfl, hu9⟩

set_option maxRecDepth 100000 in
set_option maxHeartbeats 4000000 in
/-- checkSequence -/
theorem sX9_checkSequence {E : eN} (hE : eOk E) {f : aH} {t : Nat} {D : Nat} {x : dV} {r : Int32} (hS : eSt E) (hT : eTh E) (hI : dOk D x) (hk : dkP f D x) (ht : D + 1322 < t) : mT E mX9_checkSequence 1 6 [.ref D, .int r] f t (fun o f' t' => (ix (gCt (dG x 0)) r = none ∧ o = .inr nIO ∧ f' = f ∧ t ≤ t') ∨ (∃ k, ix (gCt (dG x 0)) r = some k ∧ k < gCt (dG x 0) ∧ r = nI k ∧ o = .inl none ∧ t' = t ∧ f' = f)) := by
  refine mT_of (n := 0) (lo := [some (.ref D), some (.int r)]) (by decide) (by exact Nat.le_of_ble_eq_true rfl) rfl rfl ?_
  obtain ⟨k0, k1, hkT, hkG, hkZ, hkW, k6, k7, k8⟩ := id hk
  have hA := hI.1
  obtain ⟨g0, g1, g2, g3, g4, g5, g6, g7, g8⟩ := hkG 0 (by omega)
  have hgo := hI.2.1 0 (by omega)
  have hgc := hgo.1.1
  have hg1 := hgo.2.1
  refine v_iload_n dX9_checkSequence_0 rfl (by rfl) ?_
  refine v_if_lt (tgt := 15) dX9_checkSequence_1 (by decide) (fun c1 => ?_) (fun c1 => ?_)
  · refine v_throwW hE hS hT (cls := nIO) (r := (RX9, 279, "no such sequence", tx10)) thIO rfl (by unfold strTab; repeat (first | exact List.Mem.head _ | apply List.Mem.tail)) rfl rfl dX9_checkSequence_15 dX9_checkSequence_18 dX9_checkSequence_19 dX9_checkSequence_22 dX9_checkSequence_25 (by decide) (by decide) (by omega) (by omega) (fun u9 hu9 => ?_)
    exact Or.inl ⟨ix_none (by first | exact Or.inl c1 | exact Or.inr c12), rfl, rfl, hu9⟩
  · refine v_iload_n dX9_checkSequence_4 rfl (by rfl) ?_
    refine v_aload_n dX9_checkSequence_5 rfl (by rfl) ?_
    refine v_getf hE dX9_checkSequence_6 fX9_25 (by repeat (first | assumption | exact va_up_self _ _ _ | refine (va_up_ne _ _ (by omega)).trans ?_)) (by rfl) ?_
    refine v_getf hE dX9_checkSequence_9 fX9_95 (by repeat (first | assumption | exact va_up_self _ _ _ | refine (va_up_ne _ _ (by omega)).trans ?_)) (by rfl) ?_
    refine v_icmp_lt (tgt := 26) dX9_checkSequence_12 (by decide) (fun c12 => ?_) (fun c12 => ?_)
    · obtain ⟨k, hk1, e, hx⟩ := ix_some (n := gCt (dG x 0)) c1 c12 (by omega)
      subst e
      refine v_ret dX9_checkSequence_26 rfl ?_
      exact Or.inr ⟨k, hx, hk1, rfl, rfl, rfl, rfl⟩
    · refine v_throwW hE hS hT (cls := nIO) (r := (RX9, 279, "no such sequence", tx10)) thIO rfl (by unfold strTab; repeat (first | exact List.Mem.head _ | apply List.Mem.tail)) rfl rfl dX9_checkSequence_15 dX9_checkSequence_18 dX9_checkSequence_19 dX9_checkSequence_22 dX9_checkSequence_25 (by decide) (by decide) (by omega) (by omega) (fun u9 hu9 => ?_)
      exact Or.inl ⟨ix_none (by first | exact Or.inl c1 | exact Or.inr c12), rfl, rfl, hu9⟩
