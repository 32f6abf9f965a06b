theorem prL1_ok {X : Nat → Prop} {e : Nat → Nat} : ∀ (d i : Nat) (U : Nat → eV), (∀ z, X z → enOk (U z)) → (∀ k, k < 60 → X (e k)) → i + d ≤ 60 → ∀ z, X z → enOk (prL1 e d i U z) := by
  intro d
  induction d with
  | zero => intro i U h _ _; exact h
  | succ d ih => intro i U h hX hi; exact ih (i + 1) _ (upW_ok h (wPr_ok (h _ (hX i (by omega))))) hX (by omega)
theorem frL_r {W : Nat → eV} {e : Nat → Nat} {n y : Nat} (h : ¬ frL W e n y = -1) : ∃ q : Nat, q < n ∧ frL W e n y = nI q ∧ frP W e y q = true := by
  obtain ⟨q, h1, h2, h3, h4⟩ := fndB_r _ _ h
  exact ⟨q, by omega, h3, h4⟩
theorem prL2_ok {X : Nat → Prop} {e u : Nat → Nat} {n : Nat} (hn : n ≤ 60) (hX : ∀ k, k < 60 → X (e k)) (hXu : ∀ k, k < 60 → X (u k)) : ∀ (d j : Nat) (U : Nat → eV) (c : Nat), (∀ z, X z → enOk (U z)) → j + d ≤ 60 → ∀ z, X z → enOk ((prL2 e u n d j U c).1 z) := by
  intro d
  induction d with
  | zero => intro j U c h _; exact h
  | succ d ih =>
    intro j U c h hj
    unfold prL2
    split
    · exact ih _ _ _ (upW_ok h (wPr_ok (h _ (hXu j (by omega))))) (by omega)
    · rename_i hc
      obtain ⟨q, q1, q2, -⟩ := frL_r hc
      refine ih _ _ _ (upW_ok (upW_ok h (wPr_ok (h _ (hXu j (by omega))))) (wPr_ok ?_)) (by omega)
      rw [q2, nI_clamp (by omega)]
      exact upW_ok h (wPr_ok (h _ (hXu j (by omega)))) _ (hX q (by omega))
theorem prW_ok {X : Nat → Prop} {W : Nat → eV} {v w : sV} (hv : shOk v) (hw : shOk w) (hW : ∀ z, X z → enOk (W z)) (hX : ∀ i, i < 60 → X (v.1 i)) (hXw : ∀ i, i < 60 → X (w.1 i)) : ∀ z, X z → enOk ((prW W v w).1 z) := by
  have h1 := hv.2
  have h2 := hw.2
  exact prL2_ok h1 hX hXw _ _ _ _ (prL1_ok _ _ _ hW hX (by omega)) (by omega)
def tkI (X : Nat → Prop) (x : tkV) : Prop := (∀ z, X z → enOk (x.1 z)) ∧ (∀ k, k < 60 → X (x.2.1 k)) ∧ (∀ k, k < 60 → X (x.2.2.1 k)) ∧ sDj x.2.1 x.2.2.1 ∧ x.2.2.2 ≤ 60
theorem tkS_I {X : Nat → Prop} {x : tkV} {k m j : Nat} (h : tkI X x) (hj : j < 60) : tkI X (tkS k m j x) := by
  obtain ⟨h1, h2, h3, h4, h5⟩ := h
  unfold tkS
  split
  · split
    · rename_i hc
      exact ⟨upW_ok h1 (eNoCs_ok _ _ _ (eMvS_ok _ _ (h1 _ (h3 j hj)))), upX h2 (h3 j hj), upX h3 (h2 _ hc), sDj_swap h4 hc hj, by show x.2.2.2 + 1 ≤ 60; omega⟩
    · exact ⟨h1, h2, h3, h4, h5⟩
  · rename_i hc
    obtain ⟨q, q1, q2, -⟩ := ix_some (n := x.2.2.2) (fun z => hc (Or.inl z)) (Int32.not_le.mp (fun z => hc (Or.inr z))) (by omega)
    refine ⟨upW_ok h1 (eMvC_ok (h1 _ (h3 j hj)) _ _ (h1 _ ?_)), h2, h3, h4, h5⟩
    rw [q2, nI_clamp (by omega)]
    exact h2 q (by omega)
theorem tkL_I {X : Nat → Prop} {k m : Nat} : ∀ (d j : Nat) (x : tkV), tkI X x → j + d ≤ 60 → tkI X (tkL k m d j x) := by
  intro d
  induction d with
  | zero => intro j x h _; exact h
  | succ d ih => intro j x h hj; exact ih (j + 1) _ (tkS_I h (by omega)) (by omega)
theorem tkL1_ok {X : Nat → Prop} {e : Nat → Nat} {k m : Nat} : ∀ (d i : Nat) (U : Nat → eV), (∀ z, X z → enOk (U z)) → (∀ k, k < 60 → X (e k)) → i + d ≤ 60 → ∀ z, X z → enOk (tkL1 e k m d i U z) := by
  intro d
  induction d with
  | zero => intro i U h _ _; exact h
  | succ d ih => intro i U h hX hi; exact ih (i + 1) _ (upW_ok h (eNoCs_ok _ _ _ (h _ (hX i (by omega))))) hX (by omega)
theorem tkW_I {X : Nat → Prop} {W : Nat → eV} {v w : sV} (hv : shOk v) (hw : shOk w) (hW : ∀ z, X z → enOk (W z)) (hX : ∀ i, i < 60 → X (v.1 i)) (hXw : ∀ i, i < 60 → X (w.1 i)) (hdj : sDj v.1 w.1) : tkI X (tkW W v w) := by
  have h1 := hv.2
  have h2 := hw.2
  exact tkL_I _ _ _ ⟨tkL1_ok _ _ _ hW hX (by omega), hX, hXw, hdj, h1⟩ (by omega)
theorem dre_j {D : Nat} {x : dV} (h : dOk D x) {i j : Nat} (hi : i < 3) (hj : j < 3) (hn : i ≠ j) : sDj (dZ x i).1 (dZ x j).1 := fun k l hk hl => ⟨fun hkl => ⟨dre_i h hi k l hk hl hkl, dre_i h hj k l hk hl hkl⟩, dre_d h hi hj hn k l hk hl⟩
theorem dds {D : Nat} {A : Nat → Nat} (hA : dAd D A) {i j : Nat} (hi : i < 3) (hj : j < 3) (hn : i ≠ j) : dsA (dX D) (A (5 + i)) (A (5 + j)) := ⟨dSe hA hi, fun y hy => dXZ hA hj hy, by have := dAd_Z2 hA hi hj hn; omega⟩

def mgK (x : dV) : tkV := (tkW (prW (dW x) (dZ x 0) (dZ x 1)).1 (dZ x 0) (dZ x 1))
def mgV (x : dV) : sV := ((mgK x).2.1, nmAll 3 (dZ x 0).2.1 (dZ x 1).2.1, (mgK x).2.2.2)
def mgX2 (x : dV) : dV := xW (xZ x (va_up (va_up (dZ x) 1 ((mgK x).2.2.1, (dZ x 1).2)) 0 (mgV x))) (mgK x).1
def mgX3 (x : dV) : dV := xZ (mgX2 x) (va_up (dZ (mgX2 x)) 1 ((mgK x).2.2.1, (0, (dZ x 1).2.1.2), 0))
def mgP (x : dV) : (Nat → eV) × (Nat → Nat) := pioL ((mgK x).2.2.2 - 0) 0 ((mgK x).1, (mgK x).2.1)
def mgX4 (x : dV) : dV := xW (xZ (mgX3 x) (va_up (dZ (mgX3 x)) 0 ((mgP x).2, (mgV x).2))) (mgP x).1
def pMer (x : dV) : Option Int32 × dV := if shCan (dZ x 0) (dZ x 1) = true then (if nI ((dZ x 0).2.2 + (dZ x 1).2.2) - nI (prW (dW x) (dZ x 0) (dZ x 1)).2 ≤ nI 60 then (some (nI (prW (dW x) (dZ x 0) (dZ x 1)).2), mgX4 x) else (some (-1), xW x (prW (dW x) (dZ x 0) (dZ x 1)).1)) else (some (-1), x)
set_option maxRecDepth 100000 in
set_option maxHeartbeats 4000000 in
/-- merge -/
theorem sX9_merge {E : eN} (hE : eOk E) {f : aH} {t : Nat} {D : Nat} {x : dV} (hS : eSt E) (hT : eTh E) (hI : dOk D x) (hk : dkP f D x) (ht : D + 1322 < t) : mT E mX9_merge 0 0 [.ref D] f t (fun o f' t' => o = dOut nIO (pMer x).1 ∧ t ≤ t' ∧ dkF D t f f' (pMer x).2) := by
  refine mT_of (n := 3) (lo := [some (.ref D), none, none, none]) (by decide) (by exact Nat.le_of_ble_eq_true rfl) rfl rfl ?_
  have hk0 := dkF_0 (t := t) hk
  obtain ⟨k0, k1, hkT, hkG, hkZ, hkW, k6, k7, k8⟩ := id hk
  have hA := hI.1
  have hz0 := hI.2.2.1 0 (by omega)
  have hz1 := hI.2.2.1 1 (by omega)
  have b0 := hz0.2
  have b1 := hz1.2
  have hse : seP f (dX D) (dW x) (dA x (5 + 0)) (dZ x 0) := ⟨hkZ 0 (by omega), hkW⟩
  have hpo := prW_ok (X := dX D) hz0 hz1 hI.2.2.2.1 (dre_X hI (by omega)) (dre_X hI (by omega))
  have htk := tkW_I (X := dX D) hz0 hz1 hpo (dre_X hI (by omega)) (dre_X hI (by omega)) (dre_j hI (i := 0) (j := 1) (by omega) (by omega) (by omega))
  obtain ⟨y0, -⟩ := hkZ 0 (by omega)
  obtain ⟨y1, -⟩ := hkZ 1 (by omega)
  refine v_aload_n dX9_merge_0 rfl (by rfl) ?_
  refine v_getf hE dX9_merge_1 fX9_34 (by repeat (first | assumption | exact va_up_self _ _ _ | refine (va_up_ne _ _ (by omega)).trans ?_)) (by rfl) ?_
  refine v_iconst (v := nI 0) dX9_merge_4 (by decide) ?_
  refine v_aaldD hE dX9_merge_5 (by repeat (first | assumption | exact va_up_self _ _ _ | refine (va_up_ne _ _ (by omega)).trans ?_)) (by omega) ?_
  refine v_astore_n dX9_merge_6 rfl (by decide) ?_
  refine v_aload_n dX9_merge_7 rfl (by rfl) ?_
  refine v_getf hE dX9_merge_8 fX9_34 (by repeat (first | assumption | exact va_up_self _ _ _ | refine (va_up_ne _ _ (by omega)).trans ?_)) (by rfl) ?_
  refine v_iconst (v := nI 1) dX9_merge_11 (by decide) ?_
  refine v_aaldD hE dX9_merge_12 (by repeat (first | assumption | exact va_up_self _ _ _ | refine (va_up_ne _ _ (by omega)).trans ?_)) (by omega) ?_
  refine v_astore_n dX9_merge_13 rfl (by decide) ?_
  refine v_aload_n dX9_merge_14 rfl (by rfl) ?_
  refine v_aload_n dX9_merge_15 rfl (by rfl) ?_
  refine w_callV hE dX9_merge_16 kX9_226 (by repeat (first | assumption | exact va_up_self _ _ _ | refine (va_up_ne _ _ (by omega)).trans ?_)) (by rfl) (by rfl) (sX7_canTakeSamples hE (hkZ 0 (by omega)) hz0 (hkZ 1 (by omega)) hz1) rfl (by decide) (by decide) (by exact Nat.le_of_ble_eq_true rfl) (by omega) (by omega) (fun v9 g9 u9 h9 => ?_) (fun _ _ _ h => by cases h.1)
  obtain ⟨hv9, hu9, hg9⟩ := h9
  replace hu9 := hu9.symm
  replace hg9 := hg9.symm
  subst hu9
  subst hg9
  cases hv9
  refine v_if_neB (tgt := 24) dX9_merge_19 (by decide) (fun c19 => ?_) (fun c19 => ?_)
  · refine v_aload_n dX9_merge_24 rfl (by rfl) ?_
    refine v_aload_n dX9_merge_25 rfl (by rfl) ?_
    refine w_callV hE dX9_merge_26 kX9_230 (by repeat (first | assumption | exact va_up_self _ _ _ | refine (va_up_ne _ _ (by omega)).trans ?_)) (by rfl) (by rfl) (sX7_pairWith hE (dSe hA (i := 0) (by omega)) hse hz0 hI.2.2.2.1 (dre_X hI (by omega)) (hkZ 1 (by omega)) hz1 (fun y hy => dXZ hA (by omega) hy) (by have := dAd_Z2 hA (i := 0) (j := 1) (by omega) (by omega) (by omega); omega) (dre_X hI (by omega)) (dre_d hI (by omega) (by omega) (by omega))) rfl (by decide) (by decide) (by exact Nat.le_of_ble_eq_true rfl) (by omega) (by omega) (fun v9 g9 u9 h9 => ?_) (fun _ _ _ h => by cases h.1)
    obtain ⟨hv9, hu9, hg9⟩ := h9
    replace hu9 := hu9.symm
    replace hg9 := hg9.symm
    subst hu9
    subst hg9
    cases hv9
    have hk1 : dkF D t f (seS f (dX D) (prW (dW x) (dZ x 0) (dZ x 1)).1 (dA x (5 + 0)) (dZ x 0)) (xW x (prW (dW x) (dZ x 0) (dZ x 1)).1) := dk_W0 hA hk0 (show 0 < 3 by omega)
    have mz0 : shP (seS f (dX D) (prW (dW x) (dZ x 0) (dZ x 1)).1 (dA x (5 + 0)) (dZ x 0)) (dA x (5 + 0)) (dZ x 0) := hk1.1.2.2.2.2.1 0 (by omega)
    have mz1 : shP (seS f (dX D) (prW (dW x) (dZ x 0) (dZ x 1)).1 (dA x (5 + 0)) (dZ x 0)) (dA x (5 + 1)) (dZ x 1) := hk1.1.2.2.2.2.1 1 (by omega)
    have mW : esP (seS f (dX D) (prW (dW x) (dZ x 0) (dZ x 1)).1 (dA x (5 + 0)) (dZ x 0)) (dX D) (prW (dW x) (dZ x 0) (dZ x 1)).1 := hk1.1.2.2.2.2.2.1
    obtain ⟨r0, -⟩ := id mz0
    obtain ⟨r1, -⟩ := id mz1
    refine v_istore_n dX9_merge_29 rfl (by decide) ?_
    refine v_aload_n dX9_merge_30 rfl (by rfl) ?_
    refine v_getf hE dX9_merge_31 fX9_113 (by repeat (first | assumption | exact va_up_self _ _ _ | refine (va_up_ne _ _ (by omega)).trans ?_)) (by rfl) ?_
    refine v_aload_n dX9_merge_34 rfl (by rfl) ?_
    refine v_getf hE dX9_merge_35 fX9_113 (by repeat (first | assumption | exact va_up_self _ _ _ | refine (va_up_ne _ _ (by omega)).trans ?_)) (by rfl) ?_
    refine v_iaddN dX9_merge_38 ?_
    refine v_iload_n dX9_merge_39 rfl (by rfl) ?_
    refine v_isub dX9_merge_40 ?_
    refine v_bipush (v := nI 60) dX9_merge_41 (by decide) ?_
    refine v_icmp_le (tgt := 48) dX9_merge_43 (by decide) (fun c43 => ?_) (fun c43 => ?_)
    · have hcan : (dZ x 0).2.1.1 + (dZ x 1).2.1.1 ≤ 3 := by
        have := c19
        unfold shCan at this
        exact of_decide_eq_true (Bool.and_eq_true _ _ ▸ this).1
      refine v_aload_n dX9_merge_48 rfl (by rfl) ?_
      refine v_aload_n dX9_merge_49 rfl (by rfl) ?_
      refine w_callV hE dX9_merge_50 kX9_234 (by repeat (first | assumption | exact va_up_self _ _ _ | refine (va_up_ne _ _ (by omega)).trans ?_)) (by rfl) (by rfl) (sX7_takeAll hE (dds hA (by omega) (by omega) (by omega)) ⟨⟨mz0, mW⟩, mz1⟩ hz0 hz1 hpo (dre_X hI (by omega)) (dre_X hI (by omega)) (dre_j hI (by omega) (by omega) (by omega)) hcan) rfl (by decide) (by decide) (by exact Nat.le_of_ble_eq_true rfl) (by omega) (by omega) (fun v9 g9 u9 h9 => ?_) (fun _ _ _ h => by cases h.1)
      obtain ⟨hv9, hu9, hg9⟩ := h9
      replace hu9 := hu9.symm
      replace hg9 := hg9.symm
      subst hu9
      subst hg9
      cases hv9
      refine v_hp (show _ = (dsS (seS f (dX D) (prW (dW x) (dZ x 0) (dZ x 1)).1 (dA x (5 + 0)) (dZ x 0)) (dX D) (mgK x).1 (dA x (5 + 0)) (mgV x) (dA x (5 + 1)) ((mgK x).2.2.1, (dZ x 1).2)) from rfl) ?_
      have hk2 : dkF D t f (dsS (seS f (dX D) (prW (dW x) (dZ x 0) (dZ x 1)).1 (dA x (5 + 0)) (dZ x 0)) (dX D) (mgK x).1 (dA x (5 + 0)) (mgV x) (dA x (5 + 1)) ((mgK x).2.2.1, (dZ x 1).2)) (mgX2 x) := dk_2 (x := xW x (prW (dW x) (dZ x 0) (dZ x 1)).1) hA hk1 (show 0 < 3 by omega) (show 1 < 3 by omega) (by omega) (dds hA (by omega) (by omega) (by omega))
      have n1 : shP (dsS (seS f (dX D) (prW (dW x) (dZ x 0) (dZ x 1)).1 (dA x (5 + 0)) (dZ x 0)) (dX D) (mgK x).1 (dA x (5 + 0)) (mgV x) (dA x (5 + 1)) ((mgK x).2.2.1, (dZ x 1).2)) (dA x (5 + 1)) ((mgK x).2.2.1, (dZ x 1).2) := hk2.1.2.2.2.2.1 1 (by omega)
      obtain ⟨s1, -⟩ := id n1
      refine v_aload_n dX9_merge_53 rfl (by rfl) ?_
      refine w_callV hE dX9_merge_54 kX9_93 (by repeat (first | assumption | exact va_up_self _ _ _ | refine (va_up_ne _ _ (by omega)).trans ?_)) (by rfl) (by rfl) (sX7_clear hE n1 hz1) rfl (by decide) (by decide) (by exact Nat.le_of_ble_eq_true rfl) (by omega) (by omega) (fun v9 g9 u9 h9 => ?_) (fun _ _ _ h => by cases h.1)
      obtain ⟨hv9, hu9, hg9⟩ := h9
      replace hu9 := hu9.symm
      replace hg9 := hg9.symm
      subst hu9
      subst hg9
      cases hv9
      refine v_hp (show _ = (shS (dsS (seS f (dX D) (prW (dW x) (dZ x 0) (dZ x 1)).1 (dA x (5 + 0)) (dZ x 0)) (dX D) (mgK x).1 (dA x (5 + 0)) (mgV x) (dA x (5 + 1)) ((mgK x).2.2.1, (dZ x 1).2)) (dA x (5 + 1)) ((mgK x).2.2.1, (0, (dZ x 1).2.1.2), 0)) from rfl) ?_
      have hk3 : dkF D t f (shS (dsS (seS f (dX D) (prW (dW x) (dZ x 0) (dZ x 1)).1 (dA x (5 + 0)) (dZ x 0)) (dX D) (mgK x).1 (dA x (5 + 0)) (mgV x) (dA x (5 + 1)) ((mgK x).2.2.1, (dZ x 1).2)) (dA x (5 + 1)) ((mgK x).2.2.1, (0, (dZ x 1).2.1.2), 0)) (mgX3 x) := dk_Z (x := mgX2 x) hA hk2 (show 1 < 3 by omega)
      have n0 : shP (shS (dsS (seS f (dX D) (prW (dW x) (dZ x 0) (dZ x 1)).1 (dA x (5 + 0)) (dZ x 0)) (dX D) (mgK x).1 (dA x (5 + 0)) (mgV x) (dA x (5 + 1)) ((mgK x).2.2.1, (dZ x 1).2)) (dA x (5 + 1)) ((mgK x).2.2.1, (0, (dZ x 1).2.1.2), 0)) (dA x (5 + 0)) (mgV x) := hk3.1.2.2.2.2.1 0 (by omega)
      have nW : esP (shS (dsS (seS f (dX D) (prW (dW x) (dZ x 0) (dZ x 1)).1 (dA x (5 + 0)) (dZ x 0)) (dX D) (mgK x).1 (dA x (5 + 0)) (mgV x) (dA x (5 + 1)) ((mgK x).2.2.1, (dZ x 1).2)) (dA x (5 + 1)) ((mgK x).2.2.1, (0, (dZ x 1).2.1.2), 0)) (dX D) (mgK x).1 := hk3.1.2.2.2.2.2.1
      obtain ⟨s0, -⟩ := id n0
      refine v_aload_n dX9_merge_57 rfl (by rfl) ?_
      refine w_callV hE dX9_merge_58 kX9_223 (by repeat (first | assumption | exact va_up_self _ _ _ | refine (va_up_ne _ _ (by omega)).trans ?_)) (by rfl) (by rfl) (sX7_putInOrder hE (dSe hA (i := 0) (by omega)) ⟨n0, nW⟩ ⟨nmAll_ok hz0.1, htk.2.2.2.2⟩ htk.1 htk.2.1) rfl (by decide) (by decide) (by exact Nat.le_of_ble_eq_true rfl) (by omega) (by omega) (fun v9 g9 u9 h9 => ?_) (fun _ _ _ h => by cases h.1)
      obtain ⟨hv9, hu9, hg9⟩ := h9
      replace hu9 := hu9.symm
      replace hg9 := hg9.symm
      subst hu9
      subst hg9
      cases hv9
      have hk4 : dkF D t f _ (mgX4 x) := dk_W (x := mgX3 x) hA hk3 (show 0 < 3 by omega)
      refine v_pop dX9_merge_61 rfl ?_
      refine v_iload_n dX9_merge_62 rfl (by rfl) ?_
      refine v_iret dX9_merge_63 rfl (by first | rfl | exact nar_bI) ?_
      first
        | (have hR : pMer x = (some (-1), x) := if_neg (by rw [c19]; decide)
           rw [hR]; exact ⟨rfl, Nat.le_refl _, hk0⟩)
        | (have hR : pMer x = (some (nI (prW (dW x) (dZ x 0) (dZ x 1)).2), mgX4 x) := (if_pos c19).trans (if_pos c43)
           rw [hR]; exact ⟨rfl, Nat.le_refl _, hk4⟩)
        | (have hR : pMer x = (some (-1), xW x (prW (dW x) (dZ x 0) (dZ x 1)).1) := (if_pos c19).trans (if_neg c43)
           rw [hR]; exact ⟨rfl, Nat.le_refl _, hk1⟩)
    · refine v_iconst (v := (-1)) dX9_merge_46 (by decide) ?_
      refine v_iret dX9_merge_47 rfl (by first | rfl | exact nar_bI) ?_
      first
        | (have hR : pMer x = (some (-1), x) := if_neg (by rw [c19]; decide)
           rw [hR]; exact ⟨rfl, Nat.le_refl _, hk0⟩)
        | (have hR : pMer x = (some (nI (prW (dW x) (dZ x 0) (dZ x 1)).2), mgX4 x) := (if_pos c19).trans (if_pos c43)
           rw [hR]; exact ⟨rfl, Nat.le_refl _, hk4⟩)
        | (have hR : pMer x = (some (-1), xW x (prW (dW x) (dZ x 0) (dZ x 1)).1) := (if_pos c19).trans (if_neg c43)
           rw [hR]; exact ⟨rfl, Nat.le_refl _, hk1⟩)
  · refine v_iconst (v := (-1)) dX9_merge_22 (by decide) ?_
    refine v_iret dX9_merge_23 rfl (by first | rfl | exact nar_bI) ?_
    first
      | (have hR : pMer x = (some (-1), x) := if_neg (by rw [c19]; decide)
         rw [hR]; exact ⟨rfl, Nat.le_refl _, hk0⟩)
      | (have hR : pMer x = (some (nI (prW (dW x) (dZ x 0) (dZ x 1)).2), mgX4 x) := (if_pos c19).trans (if_pos c43)
         rw [hR]; exact ⟨rfl, Nat.le_refl _, hk4⟩)
      | (have hR : pMer x = (some (-1), xW x (prW (dW x) (dZ x 0) (dZ x 1)).1) := (if_pos c19).trans (if_neg c43)
         rw [hR]; exact ⟨rfl, Nat.le_refl _, hk1⟩)
