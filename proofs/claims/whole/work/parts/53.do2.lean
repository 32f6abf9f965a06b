theorem dre_X {D : Nat} {x : dV} (h : dOk D x) {i : Nat} (hi : i < 3) : ∀ k, k < 60 → dX D ((dZ x i).1 k) := fun k hk => dXs_X (h.2.2.2.2.1.1 i k hi hk)
theorem dre_d {D : Nat} {x : dV} (h : dOk D x) {i j : Nat} (hi : i < 3) (hj : j < 3) (hn : i ≠ j) : ∀ k l, k < 60 → l < 60 → (dZ x i).1 k ≠ (dZ x j).1 l := fun k l hk hl e => hn (h.2.2.2.2.1.2 i k j l hi hk hj hl e).1
theorem dre_i {D : Nat} {x : dV} (h : dOk D x) {i : Nat} (hi : i < 3) : ∀ k l, k < 60 → l < 60 → k ≠ l → (dZ x i).1 k ≠ (dZ x i).1 l := fun k l hk hl hn e => hn (h.2.2.2.2.1.2 i k i l hi hk hi hl e).2
theorem dsa {D : Nat} {x : dV} (h : dOk D x) {i : Nat} (hi : i < 3) : saA (dX D) (dA x (5 + i)) (D + 1301) := ⟨dSe h.1 hi, ⟨dX_ap, Or.inr (Or.inr (Or.inr (Or.inl rfl))), Or.inr (Or.inr (Or.inr (Or.inr rfl))), fun y hy => by have := dX_in hy; omega⟩, by have := dAd_Z h.1 hi; omega⟩

set_option maxRecDepth 100000 in
set_option maxHeartbeats 4000000 in
/-- same -/
theorem sX9_same {E : eN} (hE : eOk E) {f : aH} {t : Nat} {D : Nat} {x : dV} {q r m p : Int32} (hS : eSt E) (hT : eTh E) (hI : dOk D x) (hk : dkP f D x) (ht : D + 1322 < t) : mT E mX9_same 4 24 [.ref D, .int q, .int r, .int m, .int p] f t (fun o f' t' => o = dOut nIO (aSam x q r m p) ∧ t ≤ t' ∧ dkF D t f f' x) := by
  refine mT_of (n := 2) (lo := [some (.ref D), some (.int q), some (.int r), some (.int m), some (.int p), none, none]) (by decide) (by exact Nat.le_of_ble_eq_true rfl) rfl rfl ?_
  obtain ⟨k0, k1, hkT, hkG, hkZ, hkW, k6, k7, k8⟩ := id hk
  have hA := hI.1
  obtain ⟨g0, -⟩ := hkG 0 (by omega)
  have hgo := hI.2.1 0 (by omega)
  have hgc := hgo.1.1
  have hg1 := hgo.2.1
  have hgt := hgo.2.2.1
  refine v_aload_n dX9_same_0 rfl (by rfl) ?_
  refine v_iload_n dX9_same_1 rfl (by rfl) ?_
  refine v_iload_n dX9_same_2 rfl (by rfl) ?_
  refine w_callV hE dX9_same_3 kX9_154 (by repeat (first | assumption | exact va_up_self _ _ _ | refine (va_up_ne _ _ (by omega)).trans ?_)) (by rfl) (by rfl) (sX9_entryAt hE hS hT hI hk ht) rfl (by decide) (by decide) (by exact Nat.le_of_ble_eq_true rfl) (by omega) (by omega) (fun v9 g9 u9 h9 => ?_) (fun c9 g9 u9 h9 => h9.elim (fun z => by obtain ⟨z1, z2, z3, z4⟩ := z; cases z2; subst z3; refine ⟨?_, z4, dkF_0 hk⟩; rw [show aSam x q r m p = none from by unfold aSam; rw [dEn_none z1]]; rfl) (fun z => by obtain ⟨_, _, _, _, _, _, _, _, z, _⟩ := z; cases z))
  obtain ⟨i, k, hi0a, hia, hqia, hr0a, hk1a, hrka, hv9, hu9, hg9⟩ := h9.resolve_left (fun z => by cases z.2.1)
  replace hu9 := hu9.symm
  replace hg9 := hg9.symm
  subst hu9
  subst hg9
  cases hv9
  have hz8a := (hI.2.2.1 i (by omega)).2
  have hXa := dXs_X (hI.2.2.2.2.1.1 i k (by omega) (by omega))
  have hena := hkW _ hXa
  have hoka := hI.2.2.2.1 _ hXa
  obtain ⟨e0a, -⟩ := id hena
  have hdea := dEn_some hi0a hr0a
  obtain ⟨⟨sa, pa, hs1a, hs2a, hs3a, hs4a, hs5a⟩, -⟩ := hI.2.2.2.2.2.1 i k hia hk1a
  have hgsa := hgo.2.2.2 sa hs3a
  refine v_astore dX9_same_6 (by decide) ?_
  refine v_aload_n dX9_same_8 rfl (by rfl) ?_
  refine v_iload_n dX9_same_9 rfl (by rfl) ?_
  refine v_iload dX9_same_10 (by rfl) ?_
  refine w_callV hE dX9_same_12 kX9_154 (by repeat (first | assumption | exact va_up_self _ _ _ | refine (va_up_ne _ _ (by omega)).trans ?_)) (by rfl) (by rfl) (sX9_entryAt hE hS hT hI hk ht) rfl (by decide) (by decide) (by exact Nat.le_of_ble_eq_true rfl) (by omega) (by omega) (fun v9 g9 u9 h9 => ?_) (fun c9 g9 u9 h9 => h9.elim (fun z => by obtain ⟨z1, z2, z3, z4⟩ := z; cases z2; subst z3; refine ⟨?_, z4, dkF_0 hk⟩; rw [show aSam x q r m p = none from by unfold aSam; rw [hdea]; show (match dEn x m p with | none => none | some d => _) = _; rw [dEn_none z1]]; rfl) (fun z => by obtain ⟨_, _, _, _, _, _, _, _, z, _⟩ := z; cases z))
  obtain ⟨j, l, hi0b, hib, hqib, hr0b, hk1b, hrkb, hv9, hu9, hg9⟩ := h9.resolve_left (fun z => by cases z.2.1)
  replace hu9 := hu9.symm
  replace hg9 := hg9.symm
  subst hu9
  subst hg9
  cases hv9
  have hz8b := (hI.2.2.1 j (by omega)).2
  have hXb := dXs_X (hI.2.2.2.2.1.1 j l (by omega) (by omega))
  have henb := hkW _ hXb
  have hokb := hI.2.2.2.1 _ hXb
  obtain ⟨e0b, -⟩ := id henb
  have hdeb := dEn_some hi0b hr0b
  obtain ⟨⟨sb, pb, hs1b, hs2b, hs3b, hs4b, hs5b⟩, -⟩ := hI.2.2.2.2.2.1 j l hib hk1b
  have hgsb := hgo.2.2.2 sb hs3b
  refine v_astore dX9_same_15 (by decide) ?_
  refine v_aload dX9_same_17 (by rfl) ?_
  refine v_aload dX9_same_19 (by rfl) ?_
  refine v_aload_n dX9_same_21 rfl (by rfl) ?_
  refine v_getf hE dX9_same_22 fX9_25 (by repeat (first | assumption | exact va_up_self _ _ _ | refine (va_up_ne _ _ (by omega)).trans ?_)) (by rfl) ?_
  refine w_callV hE dX9_same_25 kX9_256 (by repeat (first | assumption | exact va_up_self _ _ _ | refine (va_up_ne _ _ (by omega)).trans ?_)) (by rfl) (by rfl) (sX0_meansSameAs hE hena hoka henb hokb (hkG 0 (by omega)) hgo hs1a hs2a (fun z => z.symm.trans hs1a) hs2b (by omega) (by omega) (by omega)) rfl (by decide) (by decide) (by exact Nat.le_of_ble_eq_true rfl) (by omega) (by omega) (fun v9 g9 u9 h9 => ?_) (fun _ _ _ h => by cases h.1)
  obtain ⟨hv9, hu9, hg9⟩ := h9
  replace hu9 := hu9.symm
  replace hg9 := hg9.symm
  subst hu9
  subst hg9
  cases hv9
  refine v_iret dX9_same_28 rfl (by first | rfl | exact nar_bI) ?_
  refine ⟨?_, Nat.le_refl _, dkF_0 hk⟩
  unfold aSam
  rw [hdea]
  show _ = dOut nIO (match dEn x m p with | none => none | some d => _)
  rw [hdeb]
  show _ = dOut nIO (some (bI (eMean _ _ _ _ _ _)))
  rw [hs1a, hs2a, hs2b, nI_clamp (by omega), nI_clamp (by omega), nI_clamp (by omega)]
  rfl

def pSor (x : dV) (q : Int32) : Option Int32 × dV := match ix 2 q with
  | none => (none, x)
  | some i => (some (nI (cntN (pioP (pioL ((dZ x i).2.2 - 0) 0 (dW x, (dZ x i).1))) ((dZ x i).2.2 - 0) 0 0)), xW (xZ x (va_up (dZ x) i ((pioL ((dZ x i).2.2 - 0) 0 (dW x, (dZ x i).1)).2, (dZ x i).2))) (pioL ((dZ x i).2.2 - 0) 0 (dW x, (dZ x i).1)).1)
set_option maxRecDepth 100000 in
set_option maxHeartbeats 4000000 in
/-- sort -/
theorem sX9_sort {E : eN} (hE : eOk E) {f : aH} {t : Nat} {D : Nat} {x : dV} {q : Int32} (hS : eSt E) (hT : eTh E) (hI : dOk D x) (hk : dkP f D x) (ht : D + 1322 < t) : mT E mX9_sort 1 6 [.ref D, .int q] f t (fun o f' t' => o = dOut nIO (pSor x q).1 ∧ t ≤ t' ∧ dkF D t f f' (pSor x q).2) := by
  refine mT_of (n := 0) (lo := [some (.ref D), some (.int q)]) (by decide) (by exact Nat.le_of_ble_eq_true rfl) rfl rfl ?_
  have hk0 := dkF_0 (t := t) hk
  obtain ⟨k0, k1, hkT, hkG, hkZ, hkW, k6, k7, k8⟩ := id hk
  have hA := hI.1
  refine v_aload_n dX9_sort_0 rfl (by rfl) ?_
  refine v_iload_n dX9_sort_1 rfl (by rfl) ?_
  refine w_callV hE dX9_sort_2 kX9_98 (by repeat (first | assumption | exact va_up_self _ _ _ | refine (va_up_ne _ _ (by omega)).trans ?_)) (by rfl) (by rfl) (sX9_sheetAt hE hS hT hI hk ht) rfl (by decide) (by decide) (by exact Nat.le_of_ble_eq_true rfl) (by omega) (by omega) (fun v9 g9 u9 h9 => ?_) (fun c9 g9 u9 h9 => h9.elim (fun z => by obtain ⟨z1, z2, z3, z4⟩ := z; cases z2; subst z3; rw [show pSor x q = (none, x) from by unfold pSor; rw [z1]]; exact ⟨rfl, z4, dkF_0 hk⟩) (fun z => by obtain ⟨_, _, _, _, z, _⟩ := z; cases z))
  obtain ⟨i, hi0, hi, hqi, hv9, hu9, hg9⟩ := h9.resolve_left (fun z => by cases z.2.1)
  replace hu9 := hu9.symm
  replace hg9 := hg9.symm
  subst hu9
  subst hg9
  cases hv9
  obtain ⟨z0, z1, z2, z3, z4⟩ := hkZ i (by omega)
  have hzo := hI.2.2.1 i (by omega)
  have hz8 := hzo.2
  have hn3 := hzo.1.1
  have hse : seP f (dX D) (dW x) (dA x (5 + i)) (dZ x i) := ⟨hkZ i (by omega), hkW⟩
  refine w_callV hE dX9_sort_5 kX9_223 (by repeat (first | assumption | exact va_up_self _ _ _ | refine (va_up_ne _ _ (by omega)).trans ?_)) (by rfl) (by rfl) (sX7_putInOrder hE (dSe hA (by omega)) hse hzo hI.2.2.2.1 (dre_X hI (by omega))) rfl (by decide) (by decide) (by exact Nat.le_of_ble_eq_true rfl) (by omega) (by omega) (fun v9 g9 u9 h9 => ?_) (fun _ _ _ h => by cases h.1)
  obtain ⟨hv9, hu9, hg9⟩ := h9
  replace hu9 := hu9.symm
  replace hg9 := hg9.symm
  subst hu9
  subst hg9
  cases hv9
  refine v_iret dX9_sort_8 rfl (by first | rfl | exact nar_bI) ?_
  unfold pSor
  rw [hi0]
  exact ⟨rfl, Nat.le_refl _, dk_W hA hk0 (by omega)⟩

def pJoi (D : Nat) (x : dV) (q : Int32) : Option Int32 × dV := match ix 2 q with
  | none => (none, x)
  | some i => (some (nI (min (dZ x i).2.2 ((jaL (dZ x i).2.1.1 (D + 1301) ((dZ x i).2.2 - 1) 1 (dW x, (dZ x i).1, dJ x, 0)).2.2.2 + 1))), xJ (xW (xZ x (va_up (dZ x) i ((jaL (dZ x i).2.1.1 (D + 1301) ((dZ x i).2.2 - 1) 1 (dW x, (dZ x i).1, dJ x, 0)).2.1, (dZ x i).2.1, min (dZ x i).2.2 ((jaL (dZ x i).2.1.1 (D + 1301) ((dZ x i).2.2 - 1) 1 (dW x, (dZ x i).1, dJ x, 0)).2.2.2 + 1)))) (jaL (dZ x i).2.1.1 (D + 1301) ((dZ x i).2.2 - 1) 1 (dW x, (dZ x i).1, dJ x, 0)).1) (jaL (dZ x i).2.1.1 (D + 1301) ((dZ x i).2.2 - 1) 1 (dW x, (dZ x i).1, dJ x, 0)).2.2.1)
set_option maxRecDepth 100000 in
set_option maxHeartbeats 4000000 in
/-- join -/
theorem sX9_join {E : eN} (hE : eOk E) {f : aH} {t : Nat} {D : Nat} {x : dV} {q : Int32} (hS : eSt E) (hT : eTh E) (hI : dOk D x) (hk : dkP f D x) (ht : D + 1322 < t) : mT E mX9_join 1 6 [.ref D, .int q] f t (fun o f' t' => o = dOut nIO (pJoi D x q).1 ∧ t ≤ t' ∧ dkF D t f f' (pJoi D x q).2) := by
  refine mT_of (n := 1) (lo := [some (.ref D), some (.int q), none]) (by decide) (by exact Nat.le_of_ble_eq_true rfl) rfl rfl ?_
  have hk0 := dkF_0 (t := t) hk
  obtain ⟨k0, k1, hkT, hkG, hkZ, hkW, k6, k7, k8⟩ := id hk
  have hA := hI.1
  refine v_aload_n dX9_join_0 rfl (by rfl) ?_
  refine v_iload_n dX9_join_1 rfl (by rfl) ?_
  refine w_callV hE dX9_join_2 kX9_98 (by repeat (first | assumption | exact va_up_self _ _ _ | refine (va_up_ne _ _ (by omega)).trans ?_)) (by rfl) (by rfl) (sX9_sheetAt hE hS hT hI hk ht) rfl (by decide) (by decide) (by exact Nat.le_of_ble_eq_true rfl) (by omega) (by omega) (fun v9 g9 u9 h9 => ?_) (fun c9 g9 u9 h9 => h9.elim (fun z => by obtain ⟨z1, z2, z3, z4⟩ := z; cases z2; subst z3; rw [show pJoi D x q = (none, x) from by unfold pJoi; rw [z1]]; exact ⟨rfl, z4, dkF_0 hk⟩) (fun z => by obtain ⟨_, _, _, _, z, _⟩ := z; cases z))
  obtain ⟨i, hi0, hi, hqi, hv9, hu9, hg9⟩ := h9.resolve_left (fun z => by cases z.2.1)
  replace hu9 := hu9.symm
  replace hg9 := hg9.symm
  subst hu9
  subst hg9
  cases hv9
  obtain ⟨z0, z1, z2, z3, z4⟩ := hkZ i (by omega)
  have hzo := hI.2.2.1 i (by omega)
  have hz8 := hzo.2
  have hn3 := hzo.1.1
  have hse : seP f (dX D) (dW x) (dA x (5 + i)) (dZ x i) := ⟨hkZ i (by omega), hkW⟩
  refine v_astore_n dX9_join_5 rfl (by decide) ?_
  refine v_aload_n dX9_join_6 rfl (by rfl) ?_
  refine v_aload_n dX9_join_7 rfl (by rfl) ?_
  refine v_getf hE dX9_join_8 fX9_46 (by repeat (first | assumption | exact va_up_self _ _ _ | refine (va_up_ne _ _ (by omega)).trans ?_)) (by rfl) ?_
  refine w_callV hE dX9_join_11 kX9_219 (by repeat (first | assumption | exact va_up_self _ _ _ | refine (va_up_ne _ _ (by omega)).trans ?_)) (by rfl) (by rfl) (sX7_joinAll hE (g := dJ x) (dsa hI (by omega)) ⟨hse, k6, k7⟩ hzo hI.2.2.2.1 (fun k hk => ⟨dre_X hI (by omega) k hk, (dXs_n (hI.2.2.2.2.1.1 i k (by omega) hk)).1, (dXs_n (hI.2.2.2.2.1.1 i k (by omega) hk)).2⟩) (dre_i hI (by omega))) rfl (by decide) (by decide) (by exact Nat.le_of_ble_eq_true rfl) (by omega) (by omega) (fun v9 g9 u9 h9 => ?_) (fun _ _ _ h => by cases h.1)
  obtain ⟨hv9, hu9, hg9⟩ := h9
  replace hu9 := hu9.symm
  replace hg9 := hg9.symm
  subst hu9
  subst hg9
  cases hv9
  obtain ⟨⟨y0, -⟩, -⟩ := sa_se (f := f) (W := (jaL (dZ x i).2.1.1 (D + 1301) ((dZ x i).2.2 - 1) 1 (dW x, (dZ x i).1, dJ x, 0)).1) (v := ((jaL (dZ x i).2.1.1 (D + 1301) ((dZ x i).2.2 - 1) 1 (dW x, (dZ x i).1, dJ x, 0)).2.1, (dZ x i).2.1, min (dZ x i).2.2 ((jaL (dZ x i).2.1.1 (D + 1301) ((dZ x i).2.2 - 1) 1 (dW x, (dZ x i).1, dJ x, 0)).2.2.2 + 1))) (g := (jaL (dZ x i).2.1.1 (D + 1301) ((dZ x i).2.2 - 1) 1 (dW x, (dZ x i).1, dJ x, 0)).2.2.1) (dsa hI (i := i) (by omega))
  refine v_aload_n dX9_join_14 rfl (by rfl) ?_
  refine v_getf hE dX9_join_15 fX9_113 (by repeat (first | assumption | exact va_up_self _ _ _ | refine (va_up_ne _ _ (by omega)).trans ?_)) (by rfl) ?_
  refine v_iret dX9_join_18 rfl (by first | rfl | exact nar_bI) ?_
  unfold pJoi
  rw [hi0]
  exact ⟨rfl, Nat.le_refl _, dk_J hA hk0 (by omega) (dsa hI (by omega))⟩

def nrS (g : gV) (w : eV) : Bool × eV := eNorm w g (eSq w).toNatClampNeg (ePl w).toNatClampNeg
def nrL (g : gV) (e : Nat → Nat) : Nat → Nat → (Nat → eV) → Nat → (Nat → eV) × Nat
  | 0, _, U, c => (U, c)
  | d + 1, i, U, c => nrL g e d (i + 1) (va_up U (e i) (nrS g (U (e i))).2) (if (nrS g (U (e i))).1 = true then c + 1 else c)
def pNor (x : dV) (q : Int32) : Option Int32 × dV := match ix 2 q with
  | none => (none, x)
  | some i => (some (nI (nrL (dG x 0) (dZ x i).1 ((dZ x i).2.2 - 0) 0 (dW x) 0).2), xW x (nrL (dG x 0) (dZ x i).1 ((dZ x i).2.2 - 0) 0 (dW x) 0).1)
theorem dk_W0 {D t : Nat} {f0 f : aH} {x : dV} {i : Nat} {U : Nat → eV} (hA : dAd D (dA x)) (h : dkF D t f0 f x) (hi : i < 3) : dkF D t f0 (seS f (dX D) U (dA x (5 + i)) (dZ x i)) (xW x U) := by
  have q := dk_W (u := dZ x i) (U := U) hA h hi
  rw [va_up_id rfl] at q
  exact q
theorem en_ok_norm {v : eV} {g : gV} {s p : Nat} : True := trivial
set_option maxRecDepth 100000 in
set_option maxHeartbeats 4000000 in
/-- normalise -/
theorem sX9_normalise {E : eN} (hE : eOk E) {f : aH} {t : Nat} {D : Nat} {x : dV} {q : Int32} (hS : eSt E) (hT : eTh E) (hI : dOk D x) (hk : dkP f D x) (ht : D + 1322 < t) : mT E mX9_normalise 1 6 [.ref D, .int q] f t (fun o f' t' => o = dOut nIO (pNor x q).1 ∧ t ≤ t' ∧ dkF D t f f' (pNor x q).2) := by
  refine mT_of (n := 3) (lo := [some (.ref D), some (.int q), none, none, none]) (by decide) (by exact Nat.le_of_ble_eq_true rfl) rfl rfl ?_
  have hk0 := dkF_0 (t := t) hk
  obtain ⟨k0, k1, hkT, hkG, hkZ, hkW, k6, k7, k8⟩ := id hk
  have hA := hI.1
  obtain ⟨g0, -⟩ := hkG 0 (by omega)
  have hgo := hI.2.1 0 (by omega)
  have hgc := hgo.1.1
  have hg1 := hgo.2.1
  have hgt := hgo.2.2.1
  have lp : ∀ i : Nat, ix 2 q = some i → i < 2 → (dZ x i).2.2 ≤ 60 → ∀ (d : Nat) (k : Nat) (U : Nat → eV) (c : Nat), k + d = (dZ x i).2.2 → c ≤ k → (∀ l, k ≤ l → l < 60 → U ((dZ x i).1 l) = dW x ((dZ x i).1 l)) → (nrL (dG x 0) (dZ x i).1 ((dZ x i).2.2 - 0) 0 (dW x) 0) = nrL (dG x 0) (dZ x i).1 ((dZ x i).2.2 - k) k U c → V E mX9_normalise 1 6 (fun o f' t' => o = dOut nIO (pNor x q).1 ∧ t ≤ t' ∧ dkF D t f f' (pNor x q).2) 11 [some (.ref D), some (.int q), some (.ref (dA x (5 + i))), some (.int (nI c)), some (.int (nI k))] [] (seS f (dX D) U (dA x (5 + i)) (dZ x i)) t 0 0 := by
    intro i hi0 hi hz8 d
    induction d using Nat.strongRecOn with
    | _ d ih =>
    intro k U c hkd hc hU he
    have hk2 := dk_W0 (U := U) hA hk0 (show i < 3 by omega)
    obtain ⟨⟨m0, m1, -, mG, mZ, mW, -⟩, -⟩ := id hk2
    obtain ⟨z0, z1, z2, z3, z4⟩ : shP (seS f (dX D) U (dA x (5 + i)) (dZ x i)) (dA x (5 + i)) (dZ x i) := mZ i (by omega)
    have hgn : gnP (seS f (dX D) U (dA x (5 + i)) (dZ x i)) (dA x 3) (dG x 0) := mG 0 (by omega)
    obtain ⟨g0, -⟩ := id hgn
    refine v_iload dX9_normalise_11 (by rfl) ?_
    refine v_aload_n dX9_normalise_13 rfl (by rfl) ?_
    refine v_getf hE dX9_normalise_14 fX9_113 (by repeat (first | assumption | exact va_up_self _ _ _ | refine (va_up_ne _ _ (by omega)).trans ?_)) (by rfl) ?_
    refine v_icmp_geN (tgt := 46) dX9_normalise_17 (by decide) (by omega) (by omega) (fun c17 => ?_) (fun c17 => ?_)
    · refine v_iload_n dX9_normalise_46 rfl (by rfl) ?_
      refine v_iret dX9_normalise_47 rfl (by first | rfl | exact nar_bI) ?_
      have hR : pNor x q = (some (nI c), xW x U) := by
        unfold pNor
        rw [hi0]
        show (some (nI (nrL (dG x 0) (dZ x i).1 ((dZ x i).2.2 - 0) 0 (dW x) 0).2), xW x (nrL (dG x 0) (dZ x i).1 ((dZ x i).2.2 - 0) 0 (dW x) 0).1) = _
        rw [he, show (dZ x i).2.2 - k = 0 by omega]
        rfl
      rw [hR]
      exact ⟨rfl, Nat.le_refl _, hk2⟩
    · have hkk : k < 60 := by omega
      have hXk := dre_X hI (show i < 3 by omega) k hkk
      have hen : enP (seS f (dX D) U (dA x (5 + i)) (dZ x i)) ((dZ x i).1 k) (U ((dZ x i).1 k)) := mW _ hXk
      obtain ⟨e0, -⟩ := id hen
      have hUk := hU k (by omega) hkk
      obtain ⟨⟨s1, p1, hs1, hs2, hs3, hs4, hs5⟩, hs6, hs7, -⟩ := hI.2.2.2.2.2.1 i k hi (by omega)
      have hgs := hgo.2.2.2 s1 hs3
      have hwo : enOk (U ((dZ x i).1 k)) := by rw [hUk]; exact hI.2.2.2.1 _ hXk
      have ha1 := dAd_G hA (i := 0) (by omega)
      have ha2 := dX_in hXk
      have hnr : nrS (dG x 0) (U ((dZ x i).1 k)) = eNorm (U ((dZ x i).1 k)) (dG x 0) s1 p1 := by unfold nrS; rw [hUk, hs1, hs2, nI_clamp (by omega), nI_clamp (by omega)]
      refine v_aload_n dX9_normalise_20 rfl (by rfl) ?_
      refine v_getf hE dX9_normalise_21 fX9_203 (by repeat (first | assumption | exact va_up_self _ _ _ | refine (va_up_ne _ _ (by omega)).trans ?_)) (by rfl) ?_
      refine v_iload dX9_normalise_24 (by rfl) ?_
      refine v_aaldC hE dX9_normalise_26 (by repeat (first | assumption | exact va_up_self _ _ _ | refine (va_up_ne _ _ (by omega)).trans ?_)) (by omega) ?_
      refine v_aload_n dX9_normalise_27 rfl (by rfl) ?_
      refine v_getf hE dX9_normalise_28 fX9_25 (by repeat (first | assumption | exact va_up_self _ _ _ | refine (va_up_ne _ _ (by omega)).trans ?_)) (by rfl) ?_
      refine w_callV hE dX9_normalise_31 kX9_207 (by repeat (first | assumption | exact va_up_self _ _ _ | refine (va_up_ne _ _ (by omega)).trans ?_)) (by rfl) (by rfl) (sX0_makeNormal hE hen hwo hgn hgo (by have ha1 : dA x 3 = D + 7 ∨ dA x 3 = D + 16 := ha1; omega) (by rw [hUk]; exact hs1) (by rw [hUk]; exact hs2) (by omega) (by omega) (by rw [hUk]; exact hs7) hs4) rfl (by decide) (by decide) (by exact Nat.le_of_ble_eq_true rfl) (by omega) (by omega) (fun v9 g9 u9 h9 => ?_) (fun _ _ _ h => by cases h.1)
      obtain ⟨hv9, hu9, hg9⟩ := h9
      replace hu9 := hu9.symm
      replace hg9 := hg9.symm
      subst hu9
      subst hg9
      cases hv9
      refine v_hp (seS_up (dSe hA (by omega)) hXk) ?_
      refine v_if_eqB (tgt := 40) dX9_normalise_34 (by decide) (fun c34 => ?_) (fun c34 => ?_)
      · refine v_iincN (y := 1) dX9_normalise_40 (by rfl) (by decide) (by decide) ?_
        refine v_goto (tgt := 11) dX9_normalise_43 (by decide) ?_
        first
          | exact ih (d - 1) (by omega) (k + 1) (va_up U ((dZ x i).1 k) (eNorm (U ((dZ x i).1 k)) (dG x 0) s1 p1).2) (c + 1) (by omega) (by omega) (fun l hl hl2 => (va_up_ne _ _ (dre_i hI (show i < 3 by omega) l k hl2 hkk (by omega))).trans (hU l (by omega) hl2)) (he.trans (by rw [show (dZ x i).2.2 - k = ((dZ x i).2.2 - (k + 1)) + 1 by omega, nrL, hnr, if_pos c34]))
          | exact ih (d - 1) (by omega) (k + 1) (va_up U ((dZ x i).1 k) (eNorm (U ((dZ x i).1 k)) (dG x 0) s1 p1).2) c (by omega) (by omega) (fun l hl hl2 => (va_up_ne _ _ (dre_i hI (show i < 3 by omega) l k hl2 hkk (by omega))).trans (hU l (by omega) hl2)) (he.trans (by rw [show (dZ x i).2.2 - k = ((dZ x i).2.2 - (k + 1)) + 1 by omega, nrL, hnr, if_neg (by rw [c34]; decide)]))
      · refine v_iincN (y := 1) dX9_normalise_37 (by rfl) (by decide) (by decide) ?_
        refine v_iincN (y := 1) dX9_normalise_40 (by rfl) (by decide) (by decide) ?_
        refine v_goto (tgt := 11) dX9_normalise_43 (by decide) ?_
        first
          | exact ih (d - 1) (by omega) (k + 1) (va_up U ((dZ x i).1 k) (eNorm (U ((dZ x i).1 k)) (dG x 0) s1 p1).2) (c + 1) (by omega) (by omega) (fun l hl hl2 => (va_up_ne _ _ (dre_i hI (show i < 3 by omega) l k hl2 hkk (by omega))).trans (hU l (by omega) hl2)) (he.trans (by rw [show (dZ x i).2.2 - k = ((dZ x i).2.2 - (k + 1)) + 1 by omega, nrL, hnr, if_pos c34]))
          | exact ih (d - 1) (by omega) (k + 1) (va_up U ((dZ x i).1 k) (eNorm (U ((dZ x i).1 k)) (dG x 0) s1 p1).2) c (by omega) (by omega) (fun l hl hl2 => (va_up_ne _ _ (dre_i hI (show i < 3 by omega) l k hl2 hkk (by omega))).trans (hU l (by omega) hl2)) (he.trans (by rw [show (dZ x i).2.2 - k = ((dZ x i).2.2 - (k + 1)) + 1 by omega, nrL, hnr, if_neg (by rw [c34]; decide)]))
  refine v_aload_n dX9_normalise_0 rfl (by rfl) ?_
  refine v_iload_n dX9_normalise_1 rfl (by rfl) ?_
  refine w_callV hE dX9_normalise_2 kX9_98 (by repeat (first | assumption | exact va_up_self _ _ _ | refine (va_up_ne _ _ (by omega)).trans ?_)) (by rfl) (by rfl) (sX9_sheetAt hE hS hT hI hk ht) rfl (by decide) (by decide) (by exact Nat.le_of_ble_eq_true rfl) (by omega) (by omega) (fun v9 g9 u9 h9 => ?_) (fun c9 g9 u9 h9 => h9.elim (fun z => by obtain ⟨z1, z2, z3, z4⟩ := z; cases z2; subst z3; rw [show pNor x q = (none, x) from by unfold pNor; rw [z1]]; exact ⟨rfl, z4, dkF_0 hk⟩) (fun z => by obtain ⟨_, _, _, _, z, _⟩ := z; cases z))
  obtain ⟨i, hi0, hi, hqi, hv9, hu9, hg9⟩ := h9.resolve_left (fun z => by cases z.2.1)
  replace hu9 := hu9.symm
  replace hg9 := hg9.symm
  subst hu9
  subst hg9
  cases hv9
  obtain ⟨z0, z1, z2, z3, z4⟩ := hkZ i (by omega)
  have hzo := hI.2.2.1 i (by omega)
  have hz8 := hzo.2
  have hn3 := hzo.1.1
  have hse : seP f (dX D) (dW x) (dA x (5 + i)) (dZ x i) := ⟨hkZ i (by omega), hkW⟩
  refine v_astore_n dX9_normalise_5 rfl (by decide) ?_
  refine v_iconst (v := nI 0) dX9_normalise_6 (by decide) ?_
  refine v_istore_n dX9_normalise_7 rfl (by decide) ?_
  refine v_iconst (v := nI 0) dX9_normalise_8 (by decide) ?_
  refine v_istore dX9_normalise_9 (by decide) ?_
  refine v_hp (show f = seS f (dX D) (dW x) (dA x (5 + i)) (dZ x i) from (seS_id (dSe hA (by omega)) hse).symm) ?_
  exact lp i hi0 hi hz8 (dZ x i).2.2 0 (dW x) 0 (by omega) (by omega) (fun l _ _ => rfl) rfl
