theorem allB_all {p : Nat → Bool} : ∀ (d i : Nat), allB p d i = true → ∀ j, i ≤ j → j < i + d → p j = true := by
  intro d
  induction d with
  | zero => intro i _ j h1 h2; omega
  | succ d ih =>
    intro i h j h1 h2
    unfold allB at h
    rw [Bool.and_eq_true] at h
    by_cases e : j = i
    · rw [e]; exact h.1
    · exact ih (i + 1) h.2 j (by omega) (by omega)
theorem hIns_p {W : Nat → eV} {e : Nat → Nat} {i : Nat} {p : Nat → Prop} (hi : p i) : ∀ (n m : Nat) (c : Nat → Nat), n ≤ m → (∀ k, k < m + 1 → k ≠ n → p (c k)) → ∀ k, k < m + 1 → p (hIns W e i n c k) := by
  intro n
  induction n with
  | zero =>
    intro m c hm h k hk
    unfold hIns
    by_cases e : k = 0
    · rw [e, va_up_self]; exact hi
    · rw [va_up_ne _ _ e]; exact h k hk e
  | succ n ih =>
    intro m c hm h k hk
    unfold hIns
    split
    · refine ih m _ (by omega) (fun j hj hn => ?_) k hk
      by_cases e : j = n + 1
      · rw [e, va_up_self]; exact h n (by omega) (by omega)
      · rw [va_up_ne _ _ e]; exact h j hj e
    · by_cases e : k = n + 1
      · rw [e, va_up_self]; exact hi
      · rw [va_up_ne _ _ e]; exact h k hk e
/-- what is true of every record that is chosen -/
def hCp (W : Nat → eV) (e : Nat → Nat) (q r s n k : Nat) : Prop := k < n ∧ eSq (W (e k)) = nI s ∧ ¬ eCall (W (e k)) q r ≤ 0
theorem hChL_p {W : Nat → eV} {e : Nat → Nat} {q r s n : Nat} : ∀ (d i : Nat) (x : (Nat → Nat) × Nat), i + d ≤ n → (∀ k, k < x.2 → hCp W e q r s n (x.1 k)) → x.2 ≤ i → (∀ k, k < (hChL W e q r s d i x).2 → hCp W e q r s n ((hChL W e q r s d i x).1 k)) ∧ (hChL W e q r s d i x).2 ≤ i + d := by
  intro d
  induction d with
  | zero => intro i x _ h h2; exact ⟨h, h2⟩
  | succ d ih =>
    intro i x hi h h2
    have q1 : (∀ k, k < (hChS W e q r s i x).2 → hCp W e q r s n ((hChS W e q r s i x).1 k)) ∧ (hChS W e q r s i x).2 ≤ i + 1 := by
      unfold hChS
      split
      · rename_i hc
        refine ⟨fun k hk => ?_, by show x.2 + 1 ≤ i + 1; omega⟩
        exact hIns_p (p := hCp W e q r s n) ⟨by omega, hc.1, hc.2⟩ x.2 x.2 x.1 (by omega) (fun j hj hn => h j (by omega)) k hk
      · exact ⟨h, by omega⟩
    obtain ⟨a1, a2⟩ := ih (i + 1) (hChS W e q r s i x) (by omega) q1.1 q1.2
    exact ⟨a1, by show (hChL W e q r s d (i + 1) (hChS W e q r s i x)).2 ≤ _; omega⟩
theorem hChL_lt {W : Nat → eV} {e : Nat → Nat} {q r s : Nat} : ∀ (d i : Nat) (x : (Nat → Nat) × Nat), i + d ≤ 60 → (∀ k, x.1 k < 60) → ∀ k, (hChL W e q r s d i x).1 k < 60 := by
  intro d
  induction d with
  | zero => intro i x _ h; exact h
  | succ d ih =>
    intro i x hi h
    refine ih (i + 1) _ (by omega) ?_
    unfold hChS
    split
    · exact hIns_lt (by omega) _ _ h
    · exact h
theorem nI_inj {a b : Nat} (h : nI a = nI b) (ha : a < 2 ^ 31) (hb : b < 2 ^ 31) : a = b := by
  rw [← nI_clamp ha, ← nI_clamp hb, h]
theorem nI_le_n {a b : Nat} (h : nI a ≤ nI b) (ha : a < 2 ^ 31) (hb : b < 2 ^ 31) : a ≤ b := by
  have := Int32.le_iff_toInt_le.mp h
  rw [nI_toInt ha, nI_toInt hb] at this
  omega
/-- apply: what is chosen, then what is put on -/
def apC (x : dV) (i n w k : Nat) : (Nat → Nat) × Nat := hChL (dW x) (dZ x i).1 n w k ((dZ x i).2.2 - 0) 0 (hCh (dH x), 0)
def apH (x : dV) (i n w k : Nat) : hV := iCc (iCh (dH x) (apC x i n w k).1) (apC x i n w k).2
def apE (x : dV) (i n w k j : Nat) : eV := dW x ((dZ x i).1 ((apC x i n w k).1 j))
def apP (x : dV) (i n w k j : Nat) : Nat := (ePl (apE x i n w k j)).toNatClampNeg
def apR (x : dV) (i n w k j : Nat) : Nat := (eCall (apE x i n w k j) n w).toNatClampNeg
def apL (x : dV) (i n w k : Nat) : ((Nat → Nat) × (Nat → Nat) × (Nat → Nat) × (Nat → Nat)) × tS × Nat := hPtL (dW x) (dZ x i).1 (apC x i n w k).1 (apP x i n w k) (apR x i n w k) (dG x 0) k ((apC x i n w k).2 - 0) 0 (hFr (dH x)) (hSz (dH x)) (hNf (dH x)) (hNz (dH x)) (0, (dT x 1).2.1, 0) 1
def apT (x : dV) (i n w k : Nat) : tS := tAdds (apL x i n w k).2.1 (prt (gLe (dG x 0)) (gnSz (dG x 0) k + 1 - (apL x i n w k).2.2) (gSt (dG x 0) k + (apL x i n w k).2.2 - 1))
def apZ (x : dV) (i n w k : Nat) : hV := ((apC x i n w k).1, (apL x i n w k).1.1, (apL x i n w k).1.2.1, (apL x i n w k).1.2.2.1, (apL x i n w k).1.2.2.2, (apC x i n w k).2, (apC x i n w k).2, gnSz (dG x 0) k, (apT x i n w k).1)
def apCl (x : dV) (i n w k : Nat) : Bool := allB (hClB (dW x) (dZ x i).1 (apC x i n w k).1) ((apC x i n w k).2 - 1) 1
def pApp (x : dV) (q r m p : Int32) : Option Int32 × dV := match ix 2 q with
  | none => (none, x)
  | some i => match ix (dZ x i).2.1.1 r with
    | none => (none, x)
    | some n => match ix 2 m with
      | none => (none, x)
      | some w => match ix (gCt (dG x 0)) p with
        | none => (none, x)
        | some k => if apCl x i n w k = true then (some (nI (apT x i n w k).1), xT (xH x (apZ x i n w k)) (va_up (dT x) 1 (apT x i n w k))) else (some (-1), xH x (apH x i n w k))

theorem ap_ok {D : Nat} {x : dV} (h : dOk D x) {i n w k : Nat} (hi : i < 2) (hn : n < (dZ x i).2.1.1) (hw : w < 2) (hk : k < gCt (dG x 0)) : (∀ j, j < (apC x i n w k).2 → ePl (apE x i n w k j) = nI (apP x i n w k j) ∧ 1 ≤ apP x i n w k j ∧ apP x i n w k j + eRs (apE x i n w k j) 0 ≤ gSz (dG x 0) k + 1 ∧ eCall (apE x i n w k j) n w = nI (apR x i n w k j) ∧ apR x i n w k j < 4) ∧ (apC x i n w k).2 ≤ 60 ∧ ∀ j, (apC x i n w k).1 j < 60 := by
  have hz := (h.2.2.1 i (by omega)).2
  have hgo := h.2.1 0 (by omega)
  have k1 := hgo.2.2.1
  have k2 := hgo.2.1
  have k3 := hgo.1.1
  obtain ⟨c1, c2⟩ := hChL_p (W := dW x) (e := (dZ x i).1) (q := n) (r := w) (s := k) (n := (dZ x i).2.2) ((dZ x i).2.2 - 0) 0 (hCh (dH x), 0) (by omega) (fun j hj => by have hj : j < 0 := hj; omega) (Nat.le_refl _)
  refine ⟨fun j hj => ?_, by show (hChL _ _ _ _ _ _ _ _).2 ≤ 60; omega, hChL_lt _ _ _ (by omega) h.2.2.2.2.2.2.2⟩
  obtain ⟨q1, q2, q3⟩ := c1 j hj
  obtain ⟨⟨s, p, a1, a2, a3, a4, a5⟩, a6, a7, a8, a9⟩ := h.2.2.2.2.2.1 i _ hi q1
  have hwo := (h.2.2.2.1 _ (dre_X h (show i < 3 by omega) ((apC x i n w k).1 j) (hChL_lt _ _ _ (by omega) h.2.2.2.2.2.2.2 j))).1
  have es : s = k := nI_inj (a1.symm.trans q2) (by omega) (by omega)
  subst es
  have k4 := hgo.2.2.2 s a3
  have ep : apP x i n w s j = p := (congrArg Int32.toNatClampNeg a2).trans (nI_clamp (by omega))
  have hc : ∃ m, m < eRo (apE x i n w s j) ∧ eCall (apE x i n w s j) n w = nI m := by
    have b1 : ¬ eCall (apE x i n w s j) n w ≤ 0 := q3
    unfold eCall at b1 ⊢
    split at b1
    · rename_i hcn
      rw [if_pos hcn]
      rcases (a9 n hn).2 w hcn with b2 | ⟨m, b2, b3⟩
      · exact absurd (show eCa (apE x i n w s j) (n * 2 + w) ≤ 0 by rw [show eCa (apE x i n w s j) (n * 2 + w) = -1 from b2]; decide) b1
      · exact ⟨m, b2, b3⟩
    · exact absurd (by decide) b1
  obtain ⟨m, b2, b3⟩ := hc
  have er : apR x i n w s j = m := (congrArg Int32.toNatClampNeg b3).trans (nI_clamp (by have : eRo (apE x i n w s j) ≤ 4 := hwo; omega))
  rw [ep, er]
  exact ⟨a2, a4, a5, b3, by have : eRo (apE x i n w s j) ≤ 4 := hwo; omega⟩
theorem ap_cl {D : Nat} {x : dV} (h : dOk D x) {i n w k : Nat} (hi : i < 2) (hn : n < (dZ x i).2.1.1) (hw : w < 2) (hk : k < gCt (dG x 0)) (hc : apCl x i n w k = true) : ∀ j, j + 1 < (apC x i n w k).2 → apP x i n w k j + eRs (apE x i n w k j) 0 ≤ apP x i n w k (j + 1) := by
  intro j hj
  obtain ⟨o1, o2, o3⟩ := ap_ok h hi hn hw hk
  obtain ⟨a1, a2, a3, -⟩ := o1 j (by omega)
  obtain ⟨b1, b2, b3, -⟩ := o1 (j + 1) hj
  have hgo := h.2.1 0 (by omega)
  have k1 := hgo.2.2.1
  have k4 := hgo.2.2.2 k hk
  have q := of_decide_eq_true (allB_all _ _ hc (j + 1) (by omega) (by omega))
  have q2 : ePl (apE x i n w k j) + nI (eRs (apE x i n w k j) 0) ≤ ePl (apE x i n w k (j + 1)) := q
  rw [a1, b1, nI_add] at q2
  exact nI_le_n q2 (by omega) (by omega)
theorem hPtL_le {W : Nat → eV} {e c P R : Nat → Nat} {g : gV} {j : Nat} : ∀ (d k : Nat) (F S A B : Nat → Nat) (u : tS) (n : Nat), u.1 ≤ 8000 → (hPtL W e c P R g j d k F S A B u n).2.1.1 ≤ 8000 := by
  intro d
  induction d with
  | zero => intro k F S A B u n h; exact h
  | succ d ih => intro k F S A B u n h; exact ih _ _ _ _ _ _ _ (tAdds_le (tAdds_le h))
theorem hw_2 {f : aH} {a b : Nat} {z z' : hV} {u u' : tS} (hd : b + 1 < a ∨ a + 5 < b) : oS (haS (oS (haS f a z) b u) a z') b u' = oS (haS f a z') b u' := by
  refine hw_ext (ha_oS (haP_S _ _ _) hd) (oc_S _ _ _ _ _) (fun y n1 n2 n3 => ?_)
  rw [oS_ne n2 n3, haS_ne n1, oS_ne n2 n3, haS_ne n1]
set_option maxRecDepth 100000 in
set_option maxHeartbeats 4000000 in
/-- apply -/
theorem sX9_apply {E : eN} (hE : eOk E) {f : aH} {t : Nat} {D : Nat} {x : dV} {q r m p : Int32} (hS : eSt E) (hT : eTh E) (hI : dOk D x) (hk : dkP f D x) (ht : D + 1322 < t) : mT E mX9_apply 5 30 [.ref D, .int q, .int r, .int m, .int p] f t (fun o f' t' => o = dOut nIO (pApp x q r m p).1 ∧ t ≤ t' ∧ dkF D t f f' (pApp x q r m p).2) := by
  refine mT_of (n := 1) (lo := [some (.ref D), some (.int q), some (.int r), some (.int m), some (.int p), none]) (by decide) (by exact Nat.le_of_ble_eq_true rfl) rfl rfl ?_
  have hk0 := dkF_0 (t := t) hk
  obtain ⟨k0, k1, hkT, hkG, hkZ, hkW, k6, k7, k8⟩ := id hk
  have hA := hI.1
  obtain ⟨y8, -⟩ := id k8
  obtain ⟨g0, -⟩ := hkG 0 (by omega)
  have hgo := hI.2.1 0 (by omega)
  have hgc := hgo.1.1
  have hg1 := hgo.2.1
  have hgt := hgo.2.2.1
  refine v_aload_n dX9_apply_0 rfl (by rfl) ?_
  refine v_iload_n dX9_apply_1 rfl (by rfl) ?_
  refine w_callV hE dX9_apply_2 kX9_98 (by repeat (first | assumption | exact va_up_self _ _ _ | refine (va_up_ne _ _ (by omega)).trans ?_)) (by rfl) (by rfl) (sX9_sheetAt hE hS hT hI hk ht) rfl (by decide) (by decide) (by exact Nat.le_of_ble_eq_true rfl) (by omega) (by omega) (fun v9 g9 u9 h9 => ?_) (fun c9 g9 u9 h9 => h9.elim (fun z => by obtain ⟨z1, z2, z3, z4⟩ := z; cases z2; subst z3; rw [show pApp x q r m p = (none, x) from by unfold pApp; rw [z1]]; exact ⟨rfl, z4, dkF_0 hk⟩) (fun z => by obtain ⟨_, _, _, _, z, _⟩ := z; cases z))
  obtain ⟨i, hi0, hi, hqi, hv9, hu9, hg9⟩ := h9.resolve_left (fun z => by cases z.2.1)
  replace hu9 := hu9.symm
  replace hg9 := hg9.symm
  subst hu9
  subst hg9
  cases hv9
  have hzo := hI.2.2.1 i (by omega)
  have hse : seP f (dX D) (dW x) (dA x (5 + i)) (dZ x i) := ⟨hkZ i (by omega), hkW⟩
  refine v_astore dX9_apply_5 (by decide) ?_
  refine v_aload_n dX9_apply_7 rfl (by rfl) ?_
  refine v_iload_n dX9_apply_8 rfl (by rfl) ?_
  refine v_iload_n dX9_apply_9 rfl (by rfl) ?_
  refine w_callV hE dX9_apply_10 kX9_187 (by repeat (first | assumption | exact va_up_self _ _ _ | refine (va_up_ne _ _ (by omega)).trans ?_)) (by rfl) (by rfl) (sX9_checkSample hE hS hT hI hk ht) rfl (by decide) (by decide) (by exact Nat.le_of_ble_eq_true rfl) (by omega) (by omega) (fun v9 g9 u9 h9 => ?_) (fun c9 g9 u9 h9 => h9.elim (fun z => by obtain ⟨z1, z2, z3, z4⟩ := z; cases z2; subst z3; rw [show pApp x q r m p = (none, x) from by unfold pApp; rw [hi0]; show (match ix (dZ x i).2.1.1 _ with | none => (none, x) | some n => _) = _; cases hcc : ix (dZ x i).2.1.1 r with | none => rfl | some n => exact (z1 i n hi0 hcc).elim]; exact ⟨rfl, z4, dkF_0 hk⟩) (fun z => by obtain ⟨_, _, _, _, _, _, _, _, z, _⟩ := z; cases z))
  obtain ⟨i2, n, hj0, hj, hqj, hn0, hn1, hmn, hv9, hu9, hg9⟩ := h9.resolve_left (fun z => by cases z.2.1)
  replace hu9 := hu9.symm
  replace hg9 := hg9.symm
  subst hu9
  subst hg9
  cases hv9
  rw [hi0] at hj0
  cases hj0
  subst hmn
  have hn3 := hzo.1.1
  have hn4 := hzo.1.2.1
  refine v_iload_n dX9_apply_13 rfl (by rfl) ?_
  refine v_if_lt (tgt := 22) dX9_apply_14 (by decide) (fun c14 => ?_) (fun c14 => ?_)
  · refine v_throw hE hS hT (cls := nIO) (r := (RX9, 237, "no such haplotype", tx19)) thIO rfl (by unfold strTab; repeat (first | exact List.Mem.head _ | apply List.Mem.tail)) rfl rfl dX9_apply_22 dX9_apply_25 dX9_apply_26 dX9_apply_28 dX9_apply_31 (by decide) (by decide) (by omega) (by omega) (fun u9 hu9 => ?_)
    have hR : pApp x q (nI n) m p = (none, x) := by
      unfold pApp
      rw [hi0]
      show (match ix (dZ x i).2.1.1 _ with | none => (none, x) | some n => _) = _
      rw [hn0]
      show (match ix 2 _ with | none => (none, x) | some w => _) = _
      rw [ix_none (by first | exact Or.inl c14 | exact Or.inr c19)]
    rw [hR]
    exact ⟨rfl, hu9, dkF_0 hk⟩
  · refine v_iload_n dX9_apply_17 rfl (by rfl) ?_
    refine v_iconst (v := nI 2) dX9_apply_18 (by decide) ?_
    refine v_icmp_lt (tgt := 32) dX9_apply_19 (by decide) (fun c19 => ?_) (fun c19 => ?_)
    · obtain ⟨w, hw1, e, hwx⟩ := ix_some (n := 2) c14 c19 (by decide)
      subst e
      refine v_aload_n dX9_apply_32 rfl (by rfl) ?_
      refine v_iload dX9_apply_33 (by rfl) ?_
      refine w_callV hE dX9_apply_35 kX9_114 (by repeat (first | assumption | exact va_up_self _ _ _ | refine (va_up_ne _ _ (by omega)).trans ?_)) (by rfl) (by rfl) (sX9_checkSequence hE hS hT hI hk ht) rfl (by decide) (by decide) (by exact Nat.le_of_ble_eq_true rfl) (by omega) (by omega) (fun v9 g9 u9 h9 => ?_) (fun c9 g9 u9 h9 => h9.elim (fun z => by obtain ⟨z1, z2, z3, z4⟩ := z; cases z2; subst z3; rw [show pApp x q (nI n) (nI w) p = (none, x) from by unfold pApp; rw [hi0]; show (match ix (dZ x i).2.1.1 _ with | none => (none, x) | some n => _) = _; rw [hn0]; show (match ix 2 _ with | none => (none, x) | some w => _) = _; rw [hwx]; show (match ix (gCt (dG x 0)) _ with | none => (none, x) | some k => _) = _; rw [z1]]; exact ⟨rfl, z4, dkF_0 hk⟩) (fun z => by obtain ⟨_, _, _, _, z, _⟩ := z; cases z))
      obtain ⟨k, hq0, hk1, hpk, hv9, hu9, hg9⟩ := h9.resolve_left (fun z => by cases z.2.1)
      replace hu9 := hu9.symm
      replace hg9 := hg9.symm
      subst hu9
      subst hg9
      cases hv9
      subst hpk
      have a1 := dAd_T hA (i := 1) (by omega)
      have a3 : dA x 3 = D + 7 ∨ dA x 3 = D + 16 := dAd_G hA (i := 0) (by omega)
      have a5 := dAd_Z hA (i := i) (by omega)
      obtain ⟨o1, o2, o3⟩ := ap_ok hI hi hn1 hw1 hk1
      refine v_aload_n dX9_apply_38 rfl (by rfl) ?_
      refine v_getf hE dX9_apply_39 fX9_53 (by repeat (first | assumption | exact va_up_self _ _ _ | refine (va_up_ne _ _ (by omega)).trans ?_)) (by rfl) ?_
      refine v_aload dX9_apply_42 (by rfl) ?_
      refine v_iload_n dX9_apply_44 rfl (by rfl) ?_
      refine v_iload_n dX9_apply_45 rfl (by rfl) ?_
      refine v_iload dX9_apply_46 (by rfl) ?_
      refine w_callV hE dX9_apply_48 kX9_239 (by repeat (first | assumption | exact va_up_self _ _ _ | refine (va_up_ne _ _ (by omega)).trans ?_)) (by rfl) (by rfl) (sX3_choose hE k8 hse hzo hI.2.2.2.1 (dre_X hI (by omega)) (fun y hy => by have := dX_in hy; omega) (by omega) (by omega) hw1 hI.2.2.2.2.2.2.2) rfl (by decide) (by decide) (by exact Nat.le_of_ble_eq_true rfl) (by omega) (by omega) (fun v9 g9 u9 h9 => ?_) (fun _ _ _ h => by cases h.1)
      obtain ⟨hv9, hu9, hg9⟩ := h9
      replace hu9 := hu9.symm
      replace hg9 := hg9.symm
      subst hu9
      subst hg9
      cases hv9
      refine v_hp (show _ = (haS f (D + 1317) (apH x i n w k)) from rfl) ?_
      have hk2 : dkF D t f (haS f (D + 1317) (apH x i n w k)) (xH x (apH x i n w k)) := dk_H hA hk0
      have m0 : (haS f (D + 1317) (apH x i n w k)) D = dC D (dA x) (dF x) := hk2.1.1
      have mT : oP (haS f (D + 1317) (apH x i n w k)) (dA x 1) (dT x 1) := hk2.1.2.2.1 1 (by omega)
      have mZ : seP (haS f (D + 1317) (apH x i n w k)) (dX D) (dW x) (dA x (5 + i)) (dZ x i) := ⟨hk2.1.2.2.2.2.1 i (by omega), hk2.1.2.2.2.2.2.1⟩
      have mH : haP (haS f (D + 1317) (apH x i n w k)) (D + 1317) (apH x i n w k) := haP_S _ _ _
      obtain ⟨y0, -⟩ := id mH
      obtain ⟨⟨w0, w1⟩, -⟩ := id mT
      refine v_aload_n dX9_apply_51 rfl (by rfl) ?_
      refine v_getf hE dX9_apply_52 fX9_53 (by repeat (first | assumption | exact va_up_self _ _ _ | refine (va_up_ne _ _ (by omega)).trans ?_)) (by rfl) ?_
      refine v_aload dX9_apply_55 (by rfl) ?_
      refine w_callV hE dX9_apply_57 kX9_243 (by repeat (first | assumption | exact va_up_self _ _ _ | refine (va_up_ne _ _ (by omega)).trans ?_)) (by rfl) (by rfl) (sX3_clashes hE mH mZ hzo hI.2.2.2.1 (dre_X hI (by omega)) (fun y hy => by have := dX_in hy; omega) (by omega) o2 o3) rfl (by decide) (by decide) (by exact Nat.le_of_ble_eq_true rfl) (by omega) (by omega) (fun v9 g9 u9 h9 => ?_) (fun _ _ _ h => by cases h.1)
      obtain ⟨hv9, hu9, hg9⟩ := h9
      replace hu9 := hu9.symm
      replace hg9 := hg9.symm
      subst hu9
      subst hg9
      cases hv9
      refine v_if_eqB (tgt := 65) dX9_apply_60 (by decide) (fun c60 => ?_) (fun c60 => ?_)
      · have hcl : apCl x i n w k = true := by
          have q := c60
          rw [Bool.not_eq_false'] at q
          exact q
        refine v_aload_n dX9_apply_65 rfl (by rfl) ?_
        refine v_getf hE dX9_apply_66 fX9_16 (by repeat (first | assumption | exact va_up_self _ _ _ | refine (va_up_ne _ _ (by omega)).trans ?_)) (by rfl) ?_
        refine w_callV hE dX9_apply_69 kX9_86 (by repeat (first | assumption | exact va_up_self _ _ _ | refine (va_up_ne _ _ (by omega)).trans ?_)) (by rfl) (by rfl) (sX6_clear hE mT.1) rfl (by decide) (by decide) (by exact Nat.le_of_ble_eq_true rfl) (by omega) (by omega) (fun v9 g9 u9 h9 => ?_) (fun _ _ _ h => by cases h.1)
        obtain ⟨hv9, hu9, hg9⟩ := h9
        replace hu9 := hu9.symm
        replace hg9 := hg9.symm
        subst hu9
        subst hg9
        cases hv9
        refine v_hp (show _ = (oS (haS f (D + 1317) (apH x i n w k)) (dA x 1) ((0, (dT x 1).2.1, 0) : tS)) from rfl) ?_
        have hk3 : dkF D t f (oS (haS f (D + 1317) (apH x i n w k)) (dA x 1) ((0, (dT x 1).2.1, 0) : tS)) _ := dk_T (x := xH x (apH x i n w k)) (j := 1) (u := ((0, (dT x 1).2.1, 0) : tS)) hA hk2 (by omega) (Nat.zero_le _)
        have m1 : (oS (haS f (D + 1317) (apH x i n w k)) (dA x 1) ((0, (dT x 1).2.1, 0) : tS)) D = dC D (dA x) (dF x) := hk3.1.1
        have mG2 : gnP (oS (haS f (D + 1317) (apH x i n w k)) (dA x 1) ((0, (dT x 1).2.1, 0) : tS)) (dA x 3) (dG x 0) := hk3.1.2.2.2.1 0 (by omega)
        have mT2 : oP (oS (haS f (D + 1317) (apH x i n w k)) (dA x 1) ((0, (dT x 1).2.1, 0) : tS)) (dA x 1) ((0, (dT x 1).2.1, 0) : tS) := oP_S (Nat.zero_le _)
        have mZ2 : seP (oS (haS f (D + 1317) (apH x i n w k)) (dA x 1) ((0, (dT x 1).2.1, 0) : tS)) (dX D) (dW x) (dA x (5 + i)) (dZ x i) := ⟨hk3.1.2.2.2.2.1 i (by omega), hk3.1.2.2.2.2.2.1⟩
        have mH2 : haP (oS (haS f (D + 1317) (apH x i n w k)) (dA x 1) ((0, (dT x 1).2.1, 0) : tS)) (D + 1317) (apH x i n w k) := hk3.1.2.2.2.2.2.2.2.2
        obtain ⟨y2, -⟩ := id mH2
        refine v_aload_n dX9_apply_72 rfl (by rfl) ?_
        refine v_getf hE dX9_apply_73 fX9_53 (by repeat (first | assumption | exact va_up_self _ _ _ | refine (va_up_ne _ _ (by omega)).trans ?_)) (by rfl) ?_
        refine v_aload dX9_apply_76 (by rfl) ?_
        refine v_iload_n dX9_apply_78 rfl (by rfl) ?_
        refine v_iload_n dX9_apply_79 rfl (by rfl) ?_
        refine v_aload_n dX9_apply_80 rfl (by rfl) ?_
        refine v_getf hE dX9_apply_81 fX9_25 (by repeat (first | assumption | exact va_up_self _ _ _ | refine (va_up_ne _ _ (by omega)).trans ?_)) (by rfl) ?_
        refine v_iload dX9_apply_84 (by rfl) ?_
        refine v_aload_n dX9_apply_86 rfl (by rfl) ?_
        refine v_getf hE dX9_apply_87 fX9_16 (by repeat (first | assumption | exact va_up_self _ _ _ | refine (va_up_ne _ _ (by omega)).trans ?_)) (by rfl) ?_
        refine w_callV hE dX9_apply_90 kX9_246 (by repeat (first | assumption | exact va_up_self _ _ _ | refine (va_up_ne _ _ (by omega)).trans ?_)) (by rfl) (by rfl) (sX3_putOn hE mH2 mZ2 hzo hI.2.2.2.1 (dre_X hI (by omega)) (fun y hy => by have := dX_in hy; omega) (by omega) mG2 hgo (by omega) mT2 (by omega) (fun y hy => by have := dX_in hy; omega) (by omega) (by omega) (by omega) hw1 hk1 o2 o3 (P := apP x i n w k) (R := apR x i n w k) o1 (ap_cl hI hi hn1 hw1 hk1 hcl)) rfl (by decide) (by decide) (by exact Nat.le_of_ble_eq_true rfl) (by omega) (by omega) (fun v9 g9 u9 h9 => ?_) (fun _ _ _ h => by cases h.1)
        obtain ⟨hv9, hu9, hg9⟩ := h9
        replace hu9 := hu9.symm
        replace hg9 := hg9.symm
        subst hu9
        subst hg9
        cases hv9
        have htl : (apT x i n w k).1 ≤ 8000 := tAdds_le (hPtL_le _ _ _ _ _ _ _ _ (Nat.zero_le _))
        refine v_hp (show _ = oS (haS f (D + 1317) (apZ x i n w k)) (dA x 1) (apT x i n w k) from hw_2 (by omega)) ?_
        have hk4 : dkF D t f _ (xT (xH x (apZ x i n w k)) (va_up (dT x) 1 (apT x i n w k))) := dk_T (x := xH x (apZ x i n w k)) (j := 1) hA (dk_H hA hk0) (by omega) htl
        have m4 : oS (haS f (D + 1317) (apZ x i n w k)) (dA x 1) (apT x i n w k) D = dC D (dA x) (dF x) := hk4.1.1
        obtain ⟨⟨v0, v1⟩, -⟩ := oP_S (f := haS f (D + 1317) (apZ x i n w k)) (a := dA x 1) htl
        refine v_aload_n dX9_apply_93 rfl (by rfl) ?_
        refine v_getf hE dX9_apply_94 fX9_16 (by repeat (first | assumption | exact va_up_self _ _ _ | refine (va_up_ne _ _ (by omega)).trans ?_)) (by rfl) ?_
        refine v_getf hE dX9_apply_97 fX9_68 (by repeat (first | assumption | exact va_up_self _ _ _ | refine (va_up_ne _ _ (by omega)).trans ?_)) (by rfl) ?_
        refine v_iret dX9_apply_100 rfl (by first | rfl | exact nar_bI) ?_
        first
          | (have hR : pApp x q (nI n) (nI w) (nI k) = (some (nI (apT x i n w k).1), xT (xH x (apZ x i n w k)) (va_up (dT x) 1 (apT x i n w k))) := by
               unfold pApp
               rw [hi0]
               show (match ix (dZ x i).2.1.1 _ with | none => (none, x) | some n => _) = _
               rw [hn0]
               show (match ix 2 _ with | none => (none, x) | some w => _) = _
               rw [hwx]
               show (match ix (gCt (dG x 0)) _ with | none => (none, x) | some k => _) = _
               rw [hq0]
               exact if_pos hcl
             rw [hR]; exact ⟨rfl, Nat.le_refl _, hk4⟩)
          | (have hR : pApp x q (nI n) (nI w) (nI k) = (some (-1), xH x (apH x i n w k)) := by
               unfold pApp
               rw [hi0]
               show (match ix (dZ x i).2.1.1 _ with | none => (none, x) | some n => _) = _
               rw [hn0]
               show (match ix 2 _ with | none => (none, x) | some w => _) = _
               rw [hwx]
               show (match ix (gCt (dG x 0)) _ with | none => (none, x) | some k => _) = _
               rw [hq0]
               refine if_neg (fun hh => ?_)
               have q9 := c60
               rw [show allB (hClB (dW x) (dZ x i).1 (hCh (apH x i n w k))) (hCc (apH x i n w k) - 1) 1 = true from hh] at q9
               cases q9
             rw [hR]; exact ⟨rfl, Nat.le_refl _, hk2⟩)
      · refine v_iconst (v := (-1)) dX9_apply_63 (by decide) ?_
        refine v_iret dX9_apply_64 rfl (by first | rfl | exact nar_bI) ?_
        first
          | (have hR : pApp x q (nI n) (nI w) (nI k) = (some (nI (apT x i n w k).1), xT (xH x (apZ x i n w k)) (va_up (dT x) 1 (apT x i n w k))) := by
               unfold pApp
               rw [hi0]
               show (match ix (dZ x i).2.1.1 _ with | none => (none, x) | some n => _) = _
               rw [hn0]
               show (match ix 2 _ with | none => (none, x) | some w => _) = _
               rw [hwx]
               show (match ix (gCt (dG x 0)) _ with | none => (none, x) | some k => _) = _
               rw [hq0]
               exact if_pos hcl
             rw [hR]; exact ⟨rfl, Nat.le_refl _, hk4⟩)
          | (have hR : pApp x q (nI n) (nI w) (nI k) = (some (-1), xH x (apH x i n w k)) := by
               unfold pApp
               rw [hi0]
               show (match ix (dZ x i).2.1.1 _ with | none => (none, x) | some n => _) = _
               rw [hn0]
               show (match ix 2 _ with | none => (none, x) | some w => _) = _
               rw [hwx]
               show (match ix (gCt (dG x 0)) _ with | none => (none, x) | some k => _) = _
               rw [hq0]
               refine if_neg (fun hh => ?_)
               have q9 := c60
               rw [show allB (hClB (dW x) (dZ x i).1 (hCh (apH x i n w k))) (hCc (apH x i n w k) - 1) 1 = true from hh] at q9
               cases q9
             rw [hR]; exact ⟨rfl, Nat.le_refl _, hk2⟩)
    · refine v_throw hE hS hT (cls := nIO) (r := (RX9, 237, "no such haplotype", tx19)) thIO rfl (by unfold strTab; repeat (first | exact List.Mem.head _ | apply List.Mem.tail)) rfl rfl dX9_apply_22 dX9_apply_25 dX9_apply_26 dX9_apply_28 dX9_apply_31 (by decide) (by decide) (by omega) (by omega) (fun u9 hu9 => ?_)
      have hR : pApp x q (nI n) m p = (none, x) := by
        unfold pApp
        rw [hi0]
        show (match ix (dZ x i).2.1.1 _ with | none => (none, x) | some n => _) = _
        rw [hn0]
        show (match ix 2 _ with | none => (none, x) | some w => _) = _
        rw [ix_none (by first | exact Or.inl c14 | exact Or.inr c19)]
      rw [hR]
      exact ⟨rfl, hu9, dkF_0 hk⟩
