def pSpX (x : dV) (i : Nat) : dV := (xW (xZ x (va_up (dZ x) 2 ((dZ x 2).1, (nmAll 3 (0, (dZ x 2).2.1.2) (dZ x i).2.1), (sSplL (dZ x 2).1 (dZ x i).1 (nmAll 3 (0, (dZ x 2).2.1.2) (dZ x i).2.1).1 ((dZ x i).2.2 - 0) 0 (dW x, 0)).2))) (sSplL (dZ x 2).1 (dZ x i).1 (nmAll 3 (0, (dZ x 2).2.1.2) (dZ x i).2.1).1 ((dZ x i).2.2 - 0) 0 (dW x, 0)).1)
def pSpl (x : dV) (q : Int32) : Option Int32 × dV := match ix 2 q with
  | none => (none, x)
  | some i => if shSp (dW x) (dZ x i) ≤ 60 then (some (nI (sSplL (dZ x 2).1 (dZ x i).1 (nmAll 3 (0, (dZ x 2).2.1.2) (dZ x i).2.1).1 ((dZ x i).2.2 - 0) 0 (dW x, 0)).2), dSwp (pSpX x i) i) else (some (-1), x)
theorem us_ {E : eN} (hE : eOk E) {f : aH} {t : Nat} {D t0 i : Nat} {f0 : aH} {x : dV} (hA : dAd D (dA x)) (hk : dkF D t0 f0 f x) (hi : i < 2) : mT E mX9_useSpareSheet 0 0 [.ref D, .int (nI i)] f t (fun o f' t' => o = .inl none ∧ t' = t ∧ dkF D t0 f0 f' (dSwp x i)) := by
  rcases (show i = 0 ∨ i = 1 by omega) with e | e <;> subst e
  · exact sX9_useSpare0 hE hA hk
  · exact sX9_useSpare1 hE hA hk
theorem dSwp_A {x : dV} {i : Nat} (hi : i < 2) : dA (dSwp x i) (5 + i) = dA x 7 := (swG_l (by omega) : swG (dA x) (5 + i) 7 (5 + i) = _)
theorem dSwp_Z {x : dV} {i : Nat} (hi : i < 2) : dZ (dSwp x i) i = dZ x 2 := (swG_l (by omega) : swG (dZ x) i 2 i = _)
theorem dk_5 {D t : Nat} {f0 f : aH} {x : dV} {i : Nat} (h : dkF D t f0 f (dSwp x i)) (hi : i < 2) : f (D + 25) = sA (dA (dSwp x i)) ∧ shP f (dA (dSwp x i) (5 + i)) (dZ x 2) := by
  have q := h.1.2.2.2.2.1 i (by omega)
  rw [dSwp_Z hi] at q
  exact ⟨h.1.2.1, q⟩
theorem shSpL_le {W : Nat → eV} {e : Nat → Nat} (h : ∀ k, k < 60 → eRo (W (e k)) ≤ 4) : ∀ (d i c : Nat), i + d ≤ 60 → shSpL W e d i c ≤ c + 4 * d := by
  intro d
  induction d with
  | zero => intro i c _; exact Nat.le_refl _
  | succ d ih =>
    intro i c hi
    have h1 := h i (by omega)
    unfold shSpL
    exact Nat.le_trans (ih _ _ (by omega)) (by omega)
set_option maxRecDepth 100000 in
set_option maxHeartbeats 4000000 in
/-- split -/
theorem sX9_split {E : eN} (hE : eOk E) {f : aH} {t : Nat} {D : Nat} {x : dV} {q : Int32} (hS : eSt E) (hT : eTh E) (hI : dOk D x) (hk : dkP f D x) (ht : D + 1322 < t) : mT E mX9_split 1 6 [.ref D, .int q] f t (fun o f' t' => o = dOut nIO (pSpl x q).1 ∧ t ≤ t' ∧ dkF D t f f' (pSpl x q).2) := by
  refine mT_of (n := 1) (lo := [some (.ref D), some (.int q), none]) (by decide) (by exact Nat.le_of_ble_eq_true rfl) rfl rfl ?_
  have hk0 := dkF_0 (t := t) hk
  obtain ⟨k0, k1, hkT, hkG, hkZ, hkW, k6, k7, k8⟩ := id hk
  have hA := hI.1
  obtain ⟨n0, -⟩ := hkZ 2 (by omega)
  refine v_aload_n dX9_split_0 rfl (by rfl) ?_
  refine v_iload_n dX9_split_1 rfl (by rfl) ?_
  refine w_callV hE dX9_split_2 kX9_98 (by repeat (first | assumption | exact va_up_self _ _ _ | refine (va_up_ne _ _ (by omega)).trans ?_)) (by rfl) (by rfl) (sX9_sheetAt hE hS hT hI hk ht) rfl (by decide) (by decide) (by exact Nat.le_of_ble_eq_true rfl) (by omega) (by omega) (fun v9 g9 u9 h9 => ?_) (fun c9 g9 u9 h9 => h9.elim (fun z => by obtain ⟨z1, z2, z3, z4⟩ := z; cases z2; subst z3; rw [show pSpl x q = (none, x) from by unfold pSpl; rw [z1]]; exact ⟨rfl, z4, dkF_0 hk⟩) (fun z => by obtain ⟨_, _, _, _, z, _⟩ := z; cases z))
  obtain ⟨i, hi0, hi, hqi, hv9, hu9, hg9⟩ := h9.resolve_left (fun z => by cases z.2.1)
  replace hu9 := hu9.symm
  replace hg9 := hg9.symm
  subst hu9
  subst hg9
  cases hv9
  obtain ⟨z0, z1, z2, z3, z4⟩ := hkZ i (by omega)
  have hzo := hI.2.2.1 i (by omega)
  have hz8 := hzo.2
  have hn3 := hzo.1.1
  have hse : seP f (dX D) (dW x) (dA x (5 + i)) (dZ x i) := ⟨hkZ i (by omega), hkW⟩
  subst hqi
  refine v_astore_n dX9_split_5 rfl (by decide) ?_
  refine v_aload_n dX9_split_6 rfl (by rfl) ?_
  refine w_callV hE dX9_split_7 kX9_211 (by repeat (first | assumption | exact va_up_self _ _ _ | refine (va_up_ne _ _ (by omega)).trans ?_)) (by rfl) (by rfl) (sX7_sizeWhenSplit hE (dSe hA (by omega)) hse hzo hI.2.2.2.1 (dre_X hI (by omega)) (fun k hk => (hI.2.2.2.2.2.1 i k hi hk).2.1)) rfl (by decide) (by decide) (by exact Nat.le_of_ble_eq_true rfl) (by omega) (by omega) (fun v9 g9 u9 h9 => ?_) (fun _ _ _ h => by cases h.1)
  obtain ⟨hv9, hu9, hg9⟩ := h9
  replace hu9 := hu9.symm
  replace hg9 := hg9.symm
  subst hu9
  subst hg9
  cases hv9
  have hsl : shSp (dW x) (dZ x i) ≤ 0 + 4 * ((dZ x i).2.2 - 0) := shSpL_le (fun k hk => (hI.2.2.2.1 _ (dre_X hI (show i < 3 by omega) k hk)).1) _ _ _ (by omega)
  refine v_bipush (v := nI 60) dX9_split_10 (by decide) ?_
  refine v_icmp_leN (tgt := 17) dX9_split_12 (by decide) (by omega) (by omega) (fun c12 => ?_) (fun c12 => ?_)
  · refine v_aload_n dX9_split_17 rfl (by rfl) ?_
    refine v_getf hE dX9_split_18 fX9_39 (by repeat (first | assumption | exact va_up_self _ _ _ | refine (va_up_ne _ _ (by omega)).trans ?_)) (by rfl) ?_
    refine v_aload_n dX9_split_21 rfl (by rfl) ?_
    refine w_callV hE dX9_split_22 kX9_215 (by repeat (first | assumption | exact va_up_self _ _ _ | refine (va_up_ne _ _ (by omega)).trans ?_)) (by rfl) (by rfl) (sX7_takeSplit hE (dSe hA (i := 2) (by omega)) ⟨hkZ 2 (by omega), hkW⟩ (hI.2.2.1 2 (by omega)) hI.2.2.2.1 (dre_X hI (i := 2) (by omega)) (hkZ i (by omega)) hzo (fun y hy => dXZ hA (by omega) hy) (by have := dAd_Z2 hA (i := i) (j := 2) (by omega) (by omega) (by omega); omega) (dre_X hI (by omega)) (dre_d hI (by omega) (by omega) (by omega))) rfl (by decide) (by decide) (by exact Nat.le_of_ble_eq_true rfl) (by omega) (by omega) (fun v9 g9 u9 h9 => ?_) (fun _ _ _ h => by cases h.1)
    obtain ⟨hv9, hu9, hg9⟩ := h9
    replace hu9 := hu9.symm
    replace hg9 := hg9.symm
    subst hu9
    subst hg9
    cases hv9
    have hk2 : dkF D t f _ (pSpX x i) := dk_W hA hk0 (show 2 < 3 by omega)
    have m9 := hk2.1.1
    refine v_aload_n dX9_split_25 rfl (by rfl) ?_
    refine v_iload_n dX9_split_26 rfl (by rfl) ?_
    refine w_callV hE dX9_split_27 kX9_110 (by repeat (first | assumption | exact va_up_self _ _ _ | refine (va_up_ne _ _ (by omega)).trans ?_)) (by rfl) (by rfl) (us_ hE (x := pSpX x i) hA hk2 hi) rfl (by decide) (by decide) (by exact Nat.le_of_ble_eq_true rfl) (by omega) (by omega) (fun v9 g9 u9 h9 => ?_) (fun _ _ _ h => by cases h.1)
    obtain ⟨hv9, hu9, hk3⟩ := h9
    replace hu9 := hu9.symm
    subst hu9
    cases hv9
    obtain ⟨m0, m1⟩ := dk_5 hk3 hi
    obtain ⟨y0, y1, y2, y3, y4⟩ := id m1
    have m2 := hk3.1.1
    refine v_aload_n dX9_split_30 rfl (by rfl) ?_
    refine v_getf hE dX9_split_31 fX9_34 (by repeat (first | assumption | exact va_up_self _ _ _ | refine (va_up_ne _ _ (by omega)).trans ?_)) (by rfl) ?_
    refine v_iload_n dX9_split_34 rfl (by rfl) ?_
    refine v_aaldD hE dX9_split_35 m0 hi ?_
    refine v_getf hE dX9_split_36 fX9_113 (by repeat (first | assumption | exact va_up_self _ _ _ | refine (va_up_ne _ _ (by omega)).trans ?_)) (by rfl) ?_
    refine v_iret dX9_split_39 rfl (by first | rfl | exact nar_bI) ?_
    first
      | (have hR : pSpl x (nI i) = (some (-1), x) := by
          unfold pSpl
          rw [hi0]
          exact if_neg (by omega)
         rw [hR]; exact ⟨rfl, Nat.le_refl _, hk0⟩)
      | (have hR : pSpl x (nI i) = (some (nI (sSplL (dZ x 2).1 (dZ x i).1 (nmAll 3 (0, (dZ x 2).2.1.2) (dZ x i).2.1).1 ((dZ x i).2.2 - 0) 0 (dW x, 0)).2), dSwp (pSpX x i) i) := by
          unfold pSpl
          rw [hi0]
          exact if_pos (by omega)
         rw [hR]; exact ⟨rfl, Nat.le_refl _, hk3⟩)
  · refine v_iconst (v := (-1)) dX9_split_15 (by decide) ?_
    refine v_iret dX9_split_16 rfl (by first | rfl | exact nar_bI) ?_
    first
      | (have hR : pSpl x (nI i) = (some (-1), x) := by
          unfold pSpl
          rw [hi0]
          exact if_neg (by omega)
         rw [hR]; exact ⟨rfl, Nat.le_refl _, hk0⟩)
      | (have hR : pSpl x (nI i) = (some (nI (sSplL (dZ x 2).1 (dZ x i).1 (nmAll 3 (0, (dZ x 2).2.1.2) (dZ x i).2.1).1 ((dZ x i).2.2 - 0) 0 (dW x, 0)).2), dSwp (pSpX x i) i) := by
          unfold pSpl
          rw [hi0]
          exact if_pos (by omega)
         rw [hR]; exact ⟨rfl, Nat.le_refl _, hk3⟩)

def pWrT (x : dV) (i : Nat) : tS := tAdds (0, (dT x 2).2.1, 0) (shWr (dW x) (dZ x i) (dG x 0))
def pWri (x : dV) (q : Int32) : Option Int32 × dV := match ix 2 q with
  | none => (none, x)
  | some i => if (pWrT x i).2.2 = 0 then (some (nI (pWrT x i).1), dSwT (xT x (va_up (dT x) 2 (pWrT x i)))) else (some (-1), xT x (va_up (dT x) 2 (pWrT x i)))
theorem eGo_Gd {w : eV} {n : Nat} {g : gV} (h : eGo w n g) (hg : gOk g) (hw : enOk w) : eGd w n g := by
  obtain ⟨⟨s, p, h1, h2, h3, h4, h5⟩, h6, h7, h8, h9⟩ := h
  have k1 := hg.2.2.1
  have k2 := hg.2.2.2 s h3
  have k3 := hg.2.1
  refine ⟨⟨s, p, h1, h2, by omega, by omega⟩, ?_, fun i hi c hc => ?_⟩
  · rcases h8 with h8 | ⟨q, h8, h10⟩
    · exact Or.inl h8
    · exact Or.inr ⟨q, by omega, h10⟩
  · rcases (h9 i hi).2 c hc with h10 | ⟨m, h10, h11⟩
    · exact Or.inl h10
    · exact Or.inr ⟨m, by have := hw.1; omega, h11⟩
set_option maxRecDepth 100000 in
set_option maxHeartbeats 4000000 in
/-- write -/
theorem sX9_write {E : eN} (hE : eOk E) {f : aH} {t : Nat} {D : Nat} {x : dV} {q : Int32} (hS : eSt E) (hT : eTh E) (hI : dOk D x) (hk : dkP f D x) (ht : D + 1322 < t) : mT E mX9_write 1 6 [.ref D, .int q] f t (fun o f' t' => o = dOut nIO (pWri x q).1 ∧ t ≤ t' ∧ dkF D t f f' (pWri x q).2) := by
  refine mT_of (n := 2) (lo := [some (.ref D), some (.int q), none, none]) (by decide) (by exact Nat.le_of_ble_eq_true rfl) rfl rfl ?_
  have hk0 := dkF_0 (t := t) hk
  obtain ⟨k0, k1, hkT, hkG, hkZ, hkW, k6, k7, k8⟩ := id hk
  have hA := hI.1
  obtain ⟨g0, -⟩ := hkG 0 (by omega)
  have hgo := hI.2.1 0 (by omega)
  have hgc := hgo.1.1
  have hg1 := hgo.2.1
  have hgt := hgo.2.2.1
  obtain ⟨⟨q0, q1⟩, q2⟩ := hkT 2 (by omega)
  refine v_aload_n dX9_write_0 rfl (by rfl) ?_
  refine v_iload_n dX9_write_1 rfl (by rfl) ?_
  refine w_callV hE dX9_write_2 kX9_98 (by repeat (first | assumption | exact va_up_self _ _ _ | refine (va_up_ne _ _ (by omega)).trans ?_)) (by rfl) (by rfl) (sX9_sheetAt hE hS hT hI hk ht) rfl (by decide) (by decide) (by exact Nat.le_of_ble_eq_true rfl) (by omega) (by omega) (fun v9 g9 u9 h9 => ?_) (fun c9 g9 u9 h9 => h9.elim (fun z => by obtain ⟨z1, z2, z3, z4⟩ := z; cases z2; subst z3; rw [show pWri x q = (none, x) from by unfold pWri; rw [z1]]; exact ⟨rfl, z4, dkF_0 hk⟩) (fun z => by obtain ⟨_, _, _, _, z, _⟩ := z; cases z))
  obtain ⟨i, hi0, hi, hqi, hv9, hu9, hg9⟩ := h9.resolve_left (fun z => by cases z.2.1)
  replace hu9 := hu9.symm
  replace hg9 := hg9.symm
  subst hu9
  subst hg9
  cases hv9
  obtain ⟨z0, z1, z2, z3, z4⟩ := hkZ i (by omega)
  have hzo := hI.2.2.1 i (by omega)
  have hz8 := hzo.2
  have hn3 := hzo.1.1
  have hse : seP f (dX D) (dW x) (dA x (5 + i)) (dZ x i) := ⟨hkZ i (by omega), hkW⟩
  refine v_astore_n dX9_write_5 rfl (by decide) ?_
  refine v_aload_n dX9_write_6 rfl (by rfl) ?_
  refine v_getf hE dX9_write_7 fX9_19 (by repeat (first | assumption | exact va_up_self _ _ _ | refine (va_up_ne _ _ (by omega)).trans ?_)) (by rfl) ?_
  refine w_callV hE dX9_write_10 kX9_86 (by repeat (first | assumption | exact va_up_self _ _ _ | refine (va_up_ne _ _ (by omega)).trans ?_)) (by rfl) (by rfl) (sX6_clear hE (hkT 2 (by omega)).1) rfl (by decide) (by decide) (by exact Nat.le_of_ble_eq_true rfl) (by omega) (by omega) (fun v9 g9 u9 h9 => ?_) (fun _ _ _ h => by cases h.1)
  obtain ⟨hv9, hu9, hg9⟩ := h9
  replace hu9 := hu9.symm
  replace hg9 := hg9.symm
  subst hu9
  subst hg9
  cases hv9
  refine v_hp (show _ = oS f (dA x 2) ((0, (dT x 2).2.1, 0) : tS) from rfl) ?_
  have hk2 : dkF D t f _ _ := dk_T (u := ((0, (dT x 2).2.1, 0) : tS)) hA hk0 (show 2 < 3 by omega) (Nat.zero_le _)
  obtain ⟨⟨m0, m1, mT, mG, mZ, mW, -⟩, -⟩ := id hk2
  have m0 : oS f (dA x 2) ((0, (dT x 2).2.1, 0) : tS) D = dC D (dA x) (dF x) := m0
  have mZ : shP (oS f (dA x 2) ((0, (dT x 2).2.1, 0) : tS)) (dA x (5 + i)) (dZ x i) := mZ i (by omega)
  have mG : gnP (oS f (dA x 2) ((0, (dT x 2).2.1, 0) : tS)) (dA x 3) (dG x 0) := mG 0 (by omega)
  have mW : esP (oS f (dA x 2) ((0, (dT x 2).2.1, 0) : tS)) (dX D) (dW x) := mW
  have a2 := dAd_T hA (i := 2) (by omega)
  have a3 : dA x 3 = D + 7 ∨ dA x 3 = D + 16 := dAd_G hA (i := 0) (by omega)
  have a4 := dAd_Z hA (i := i) (by omega)
  have hoT : oP (oS f (dA x 2) ((0, (dT x 2).2.1, 0) : tS)) (dA x 2) ((0, (dT x 2).2.1, 0) : tS) := oP_S (Nat.zero_le _)
  obtain ⟨y0, -⟩ := id mZ
  refine v_aload_n dX9_write_13 rfl (by rfl) ?_
  refine v_aload_n dX9_write_14 rfl (by rfl) ?_
  refine v_getf hE dX9_write_15 fX9_19 (by repeat (first | assumption | exact va_up_self _ _ _ | refine (va_up_ne _ _ (by omega)).trans ?_)) (by rfl) ?_
  refine v_aload_n dX9_write_18 rfl (by rfl) ?_
  refine v_getf hE dX9_write_19 fX9_25 (by repeat (first | assumption | exact va_up_self _ _ _ | refine (va_up_ne _ _ (by omega)).trans ?_)) (by rfl) ?_
  refine w_callV hE dX9_write_22 kX9_260 (by repeat (first | assumption | exact va_up_self _ _ _ | refine (va_up_ne _ _ (by omega)).trans ?_)) (by rfl) (by rfl) (sX7_writeTo hE hS (v := dZ x i) ⟨mZ, mW⟩ hzo hI.2.2.2.1 (dre_X hI (by omega)) hoT mG hgo (by omega) (by omega) (fun y hy => by have := dX_in hy; omega) (fun k hk => eGo_Gd (hI.2.2.2.2.2.1 i k hi hk) hgo (hI.2.2.2.1 _ (dre_X hI (by omega) k (by omega))))) rfl (by decide) (by decide) (by exact Nat.le_of_ble_eq_true rfl) (by omega) (by omega) (fun v9 g9 u9 h9 => ?_) (fun _ _ _ h => by cases h.1)
  obtain ⟨hv9, hu9, hg9⟩ := h9
  replace hu9 := hu9.symm
  replace hg9 := hg9.symm
  subst hu9
  subst hg9
  cases hv9
  have htl : (pWrT x i).1 ≤ 8000 := tAdds_le (Nat.zero_le _)
  refine v_hp (show _ = oS f (dA x 2) (pWrT x i) from oS_S) ?_
  have hk3 := dk_T (u := pWrT x i) hA hk0 (show 2 < 3 by omega) htl
  have m3 : oS f (dA x 2) (pWrT x i) D = dC D (dA x) (dF x) := hk3.1.1
  obtain ⟨⟨o0, o1⟩, -⟩ := oP_S (f := f) (a := dA x 2) htl
  refine v_aload_n dX9_write_25 rfl (by rfl) ?_
  refine v_getf hE dX9_write_26 fX9_19 (by repeat (first | assumption | exact va_up_self _ _ _ | refine (va_up_ne _ _ (by omega)).trans ?_)) (by rfl) ?_
  refine v_getf hE dX9_write_29 fX9_263 (by repeat (first | assumption | exact va_up_self _ _ _ | refine (va_up_ne _ _ (by omega)).trans ?_)) (by rfl) ?_
  refine v_if_eq (tgt := 37) dX9_write_32 (by decide) (fun c32 => ?_) (fun c32 => ?_)
  · refine v_aload_n dX9_write_37 rfl (by rfl) ?_
    refine v_getf hE dX9_write_38 fX9_16 (by repeat (first | assumption | exact va_up_self _ _ _ | refine (va_up_ne _ _ (by omega)).trans ?_)) (by rfl) ?_
    refine v_astore_n dX9_write_41 rfl (by decide) ?_
    refine v_aload_n dX9_write_42 rfl (by rfl) ?_
    refine v_aload_n dX9_write_43 rfl (by rfl) ?_
    refine v_getf hE dX9_write_44 fX9_19 (by repeat (first | assumption | exact va_up_self _ _ _ | refine (va_up_ne _ _ (by omega)).trans ?_)) (by rfl) ?_
    refine v_putf hE dX9_write_47 fX9_16 (by repeat (first | assumption | exact va_up_self _ _ _ | refine (va_up_ne _ _ (by omega)).trans ?_)) (by exact Nat.le_of_ble_eq_true rfl) (by rfl) (by rfl) (by rfl) ?_
    refine v_aload_n dX9_write_50 rfl (by rfl) ?_
    refine v_aload_n dX9_write_51 rfl (by rfl) ?_
    refine v_putf hE dX9_write_52 fX9_19 (by repeat (first | assumption | exact va_up_self _ _ _ | refine (va_up_ne _ _ (by omega)).trans ?_)) (by exact Nat.le_of_ble_eq_true rfl) (by rfl) (by rfl) (by rfl) ?_
    refine v_hp (show _ = va_up (oS f (dA x 2) (pWrT x i)) D (dC D (swG (dA x) 1 2) (dF x)) from bx_uu _ _ _ _) ?_
    have hk4 := dk_sT (x := xT x (va_up (dT x) 2 (pWrT x i))) hA hk3
    have m4 : va_up (oS f (dA x 2) (pWrT x i)) D (dC D (swG (dA x) 1 2) (dF x)) D = .inr (9, [.ref (D + 1), .ref (D + 25), .ref (D + 1301), .ref (D + 1317), .ref (dA x 2), .ref (dA x 1), .ref (dA x 3), .ref (dA x 4), .ref (dA x 7), .int (dF x)]) := va_up_self _ _ _
    have hne : dA x 2 ≠ D := by have := dAd_T hA (i := 2) (by omega); omega
    refine v_aload_n dX9_write_55 rfl (by rfl) ?_
    refine v_getf hE dX9_write_56 fX9_16 (by repeat (first | assumption | exact va_up_self _ _ _ | refine (va_up_ne _ _ (by omega)).trans ?_)) (by rfl) ?_
    refine v_getf hE dX9_write_59 fX9_68 (by repeat (first | assumption | exact va_up_self _ _ _ | refine (va_up_ne _ _ (by omega)).trans ?_)) (by rfl) ?_
    refine v_iret dX9_write_62 rfl (by first | rfl | exact nar_bI) ?_
    first
      | (have hR : pWri x q = (some (-1), xT x (va_up (dT x) 2 (pWrT x i))) := by
          unfold pWri
          rw [hi0]
          exact if_neg c32
         rw [hR]; exact ⟨rfl, Nat.le_refl _, hk3⟩)
      | (have hR : pWri x q = (some (nI (pWrT x i).1), dSwT (xT x (va_up (dT x) 2 (pWrT x i)))) := by
          unfold pWri
          rw [hi0]
          exact if_pos c32
         rw [hR]; exact ⟨rfl, Nat.le_refl _, hk4⟩)
  · refine v_iconst (v := (-1)) dX9_write_35 (by decide) ?_
    refine v_iret dX9_write_36 rfl (by first | rfl | exact nar_bI) ?_
    first
      | (have hR : pWri x q = (some (-1), xT x (va_up (dT x) 2 (pWrT x i))) := by
          unfold pWri
          rw [hi0]
          exact if_neg c32
         rw [hR]; exact ⟨rfl, Nat.le_refl _, hk3⟩)
      | (have hR : pWri x q = (some (nI (pWrT x i).1), dSwT (xT x (va_up (dT x) 2 (pWrT x i)))) := by
          unfold pWri
          rw [hi0]
          exact if_pos c32
         rw [hR]; exact ⟨rfl, Nat.le_refl _, hk4⟩)
