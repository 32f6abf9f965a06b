theorem dk_sr {D t : Nat} {f0 f : aH} {x : dV} {tp c s q : Nat} {v : qV} (hA : dAd D (dA x)) (h : dkF D t f0 f x) (hq : t ≤ q) (ht : D + 1322 < t) : dkF D t f0 (srS tp c s f q v) x := dk_n hA (dk_n hA h (by omega) ht) hq ht
/-- a sheet without records and names -/
def zC (z : sV) : sV := (z.1, (0, z.2.1.2), 0)
def rfR (x : dV) : Bool × rV × gV := rRun (dT x 0) (dG x 1)
def rfX1 (x : dV) : dV := xT (xG x (va_up (dG x) 1 (rfR x).2.2)) (va_up (dT x) 0 (0, (dT x 0).2.1, 0))
def rfX3 (x : dV) : dV := xZ (dSwG (rfX1 x)) (va_up (dZ x) 0 (zC (dZ x 0)))
def rfX4 (x : dV) : dV := xZ (rfX3 x) (va_up (dZ (rfX3 x)) 1 (zC (dZ x 1)))
def rfX5 (x : dV) : dV := xH (rfX4 x) (iNt (iTo (iCt (dH x) 0) 0) 0)
def pRef (x : dV) : Option Int32 × dV := if (rfR x).1 = true then (some (nI (gCt (rfR x).2.2)), rfX5 x) else (some (- nI (rFa (rfR x).2.1)), xF (rfX1 x) (nI (rFp (rfR x).2.1)))
def rdR (x : dV) : Bool × qV × (Nat → eV) × sV := qRun (dT x 0) (dG x 0) (dZ x 2) (dW x)
def rdX1 (x : dV) : dV := xT (xW (xZ x (va_up (dZ x) 2 (rdR x).2.2.2)) (rdR x).2.2.1) (va_up (dT x) 0 (0, (dT x 0).2.1, 0))
def pRea (x : dV) (q : Int32) : Option Int32 × dV := match ix 2 q with
  | none => (none, x)
  | some i => if (rdR x).1 = true then (some (nI (rdR x).2.2.2.2.2), dSwp (rdX1 x) i) else (some (- nI (qFa (rdR x).2.1)), xF (rdX1 x) (nI (qFp (rdR x).2.1)))

set_option maxRecDepth 100000 in
set_option maxHeartbeats 4000000 in
/-- read -/
theorem sX9_read {E : eN} (hE : eOk E) {f : aH} {t : Nat} {D : Nat} {x : dV} {q : Int32} (hS : eSt E) (hT : eTh E) (hI : dOk D x) (hk : dkP f D x) (ht : D + 1322 < t) : mT E mX9_read 3 29 [.ref D, .int q] f t (fun o f' t' => o = dOut nIO (pRea x q).1 ∧ t ≤ t' ∧ dkF D t f f' (pRea x q).2) := by
  refine mT_of (n := 2) (lo := [some (.ref D), some (.int q), none, none]) (by decide) (by exact Nat.le_of_ble_eq_true rfl) rfl rfl ?_
  have hk0 := dkF_0 (t := t) hk
  obtain ⟨k0, k1, hkT, hkG, hkZ, hkW, k6, k7, k8⟩ := id hk
  have hA := hI.1
  have hgo := hI.2.1 0 (by omega)
  have a0 := hA.1
  have a3 : dA x 3 = D + 7 ∨ dA x 3 = D + 16 := dAd_G hA (i := 0) (by omega)
  have a7 : dA x 7 = D + 26 ∨ dA x 7 = D + 451 ∨ dA x 7 = D + 876 := dAd_Z hA (i := 2) (by omega)
  refine v_aload_n dX9_read_0 rfl (by rfl) ?_
  refine v_iload_n dX9_read_1 rfl (by rfl) ?_
  refine w_callV hE dX9_read_2 kX9_98 (by repeat (first | assumption | exact va_up_self _ _ _ | refine (va_up_ne _ _ (by omega)).trans ?_)) (by rfl) (by rfl) (sX9_sheetAt hE hS hT hI hk ht) rfl (by decide) (by decide) (by exact Nat.le_of_ble_eq_true rfl) (by omega) (by omega) (fun v9 g9 u9 h9 => ?_) (fun c9 g9 u9 h9 => h9.elim (fun z => by obtain ⟨z1, z2, z3, z4⟩ := z; cases z2; subst z3; rw [show pRea x q = (none, x) from by unfold pRea; rw [z1]]; exact ⟨rfl, z4, dkF_0 hk⟩) (fun z => by obtain ⟨_, _, _, _, z, _⟩ := z; cases z))
  obtain ⟨i, hi0, hi, hqi, hv9, hu9, hg9⟩ := h9.resolve_left (fun z => by cases z.2.1)
  replace hu9 := hu9.symm
  replace hg9 := hg9.symm
  subst hu9
  subst hg9
  cases hv9
  clear h9
  subst hqi
  refine v_pop dX9_read_5 rfl ?_
  refine v_new hE (ci := 8) (N := 10) (fs := [.null, .null, .null, .null, .int 0, .int 0, .int 0, .int 0, .int 0, .int 0]) dX9_read_6 nX9_102 rfl (by decide) (by omega) (by omega) ?_
  refine v_dup dX9_read_9 rfl ?_
  refine v_aload_n dX9_read_10 rfl (by rfl) ?_
  refine v_getf hE dX9_read_11 fX9_10 (by repeat (first | assumption | exact va_up_self _ _ _ | refine (va_up_ne _ _ (by omega)).trans ?_)) (by rfl) ?_
  refine v_aload_n dX9_read_14 rfl (by rfl) ?_
  refine v_getf hE dX9_read_15 fX9_25 (by repeat (first | assumption | exact va_up_self _ _ _ | refine (va_up_ne _ _ (by omega)).trans ?_)) (by rfl) ?_
  refine v_aload_n dX9_read_18 rfl (by rfl) ?_
  refine v_getf hE dX9_read_19 fX9_39 (by repeat (first | assumption | exact va_up_self _ _ _ | refine (va_up_ne _ _ (by omega)).trans ?_)) (by rfl) ?_
  refine w_callI hE dX9_read_22 kX9_104 rfl (by rfl) (sX8_init hE (va_up_self _ _ _) rfl) rfl (fun _ _ _ h => by cases h.1) (by decide) (by decide) (by exact Nat.le_of_ble_eq_true rfl) (by omega) (by omega) (fun v9 g9 u9 h9 => ?_)
  obtain ⟨hv9, hu9, hg9⟩ := h9
  replace hu9 := hu9.symm
  replace hg9 := hg9.symm
  subst hu9
  subst hg9
  cases hv9
  refine v_hp (show _ = (srS (D + 1) (dA x 3) (dA x 7) (va_up f t (.inr (8, [.null, .null, .null, .null, .int 0, .int 0, .int 0, .int 0, .int 0, .int 0]))) t qNew) from rfl) ?_
  have hkn : dkF D t f (va_up f t (.inr (8, [.null, .null, .null, .null, .int 0, .int 0, .int 0, .int 0, .int 0, .int 0]))) x := dk_n hA hk0 (Nat.le_refl _) ht
  have hk1 : dkF D t f (srS (D + 1) (dA x 3) (dA x 7) (va_up f t (.inr (8, [.null, .null, .null, .null, .int 0, .int 0, .int 0, .int 0, .int 0, .int 0]))) t qNew) x := dk_sr hA hkn (Nat.le_refl _) ht
  have hsr : srP (D + 1) (dA x 3) (dA x 7) (srS (D + 1) (dA x 3) (dA x 7) (va_up f t (.inr (8, [.null, .null, .null, .null, .int 0, .int 0, .int 0, .int 0, .int 0, .int 0]))) t qNew) t qNew := srP_S _ _ _ _ _ _
  obtain ⟨r0, r1⟩ := id hsr
  have mT : oP (srS (D + 1) (dA x 3) (dA x 7) (va_up f t (.inr (8, [.null, .null, .null, .null, .int 0, .int 0, .int 0, .int 0, .int 0, .int 0]))) t qNew) (dA x 0) (dT x 0) := hk1.1.2.2.1 0 (by omega)
  rw [a0] at mT
  have mG : gnP (srS (D + 1) (dA x 3) (dA x 7) (va_up f t (.inr (8, [.null, .null, .null, .null, .int 0, .int 0, .int 0, .int 0, .int 0, .int 0]))) t qNew) (dA x 3) (dG x 0) := hk1.1.2.2.2.1 0 (by omega)
  have mZ : seP (srS (D + 1) (dA x 3) (dA x 7) (va_up f t (.inr (8, [.null, .null, .null, .null, .int 0, .int 0, .int 0, .int 0, .int 0, .int 0]))) t qNew) (dX D) (dW x) (dA x 7) (dZ x 2) := ⟨hk1.1.2.2.2.2.1 2 (by omega), hk1.1.2.2.2.2.2.1⟩
  refine v_astore_n dX9_read_25 rfl (by decide) ?_
  refine v_aload_n dX9_read_26 rfl (by rfl) ?_
  refine w_callV hE dX9_read_27 kX9_107 (by repeat (first | assumption | exact va_up_self _ _ _ | refine (va_up_ne _ _ (by omega)).trans ?_)) (by rfl) (by rfl) (sX8_run hE hsr mT mG hgo (dSe hA (i := 2) (by omega)) mZ (hI.2.2.1 2 (by omega)) hI.2.2.2.1 (dre_X hI (i := 2) (by omega)) hS (fun y hy => by have := dX_in hy; omega) (fun y hy => by have := dX_in hy; omega) (fun y hy => by have := dX_in hy; omega) (by omega) (by omega) (by omega) (by omega) (by omega)) rfl (by decide) (by decide) (by exact Nat.le_of_ble_eq_true rfl) (by omega) (by omega) (fun v9 g9 u9 h9 => ?_) (fun _ _ _ h => by cases h.1)
  obtain ⟨hv9, hu9, hg9⟩ := h9
  replace hu9 := hu9.symm
  replace hg9 := hg9.symm
  subst hu9
  subst hg9
  cases hv9
  refine v_hp (show _ = (seS (srS (D + 1) (dA x 3) (dA x 7) (srS (D + 1) (dA x 3) (dA x 7) (va_up f t (.inr (8, [.null, .null, .null, .null, .int 0, .int 0, .int 0, .int 0, .int 0, .int 0]))) t qNew) t (rdR x).2.1) (dX D) (rdR x).2.2.1 (dA x 7) (rdR x).2.2.2) from rfl) ?_
  have hk2 : dkF D t f (seS (srS (D + 1) (dA x 3) (dA x 7) (srS (D + 1) (dA x 3) (dA x 7) (va_up f t (.inr (8, [.null, .null, .null, .null, .int 0, .int 0, .int 0, .int 0, .int 0, .int 0]))) t qNew) t (rdR x).2.1) (dX D) (rdR x).2.2.1 (dA x 7) (rdR x).2.2.2) (xW (xZ x (va_up (dZ x) 2 (rdR x).2.2.2)) (rdR x).2.2.1) := dk_W (j := 2) hA (dk_sr hA hk1 (Nat.le_refl _) ht) (by omega)
  have m1 : (seS (srS (D + 1) (dA x 3) (dA x 7) (srS (D + 1) (dA x 3) (dA x 7) (va_up f t (.inr (8, [.null, .null, .null, .null, .int 0, .int 0, .int 0, .int 0, .int 0, .int 0]))) t qNew) t (rdR x).2.1) (dX D) (rdR x).2.2.1 (dA x 7) (rdR x).2.2.2) D = dC D (dA x) (dF x) := hk2.1.1
  have mT2 : oP (seS (srS (D + 1) (dA x 3) (dA x 7) (srS (D + 1) (dA x 3) (dA x 7) (va_up f t (.inr (8, [.null, .null, .null, .null, .int 0, .int 0, .int 0, .int 0, .int 0, .int 0]))) t qNew) t (rdR x).2.1) (dX D) (rdR x).2.2.1 (dA x 7) (rdR x).2.2.2) (dA x 0) (dT x 0) := hk2.1.2.2.1 0 (by omega)
  rw [a0] at mT2
  obtain ⟨⟨t0, t1⟩, -⟩ := id mT2
  refine v_istore_n dX9_read_30 rfl (by decide) ?_
  refine v_aload_n dX9_read_31 rfl (by rfl) ?_
  refine v_getf hE dX9_read_32 fX9_10 (by repeat (first | assumption | exact va_up_self _ _ _ | refine (va_up_ne _ _ (by omega)).trans ?_)) (by rfl) ?_
  refine w_callV hE dX9_read_35 kX9_86 (by repeat (first | assumption | exact va_up_self _ _ _ | refine (va_up_ne _ _ (by omega)).trans ?_)) (by rfl) (by rfl) (sX6_clear hE mT2.1) rfl (by decide) (by decide) (by exact Nat.le_of_ble_eq_true rfl) (by omega) (by omega) (fun v9 g9 u9 h9 => ?_) (fun _ _ _ h => by cases h.1)
  obtain ⟨hv9, hu9, hg9⟩ := h9
  replace hu9 := hu9.symm
  replace hg9 := hg9.symm
  subst hu9
  subst hg9
  cases hv9
  refine v_hp (show _ = (oS (seS (srS (D + 1) (dA x 3) (dA x 7) (srS (D + 1) (dA x 3) (dA x 7) (va_up f t (.inr (8, [.null, .null, .null, .null, .int 0, .int 0, .int 0, .int 0, .int 0, .int 0]))) t qNew) t (rdR x).2.1) (dX D) (rdR x).2.2.1 (dA x 7) (rdR x).2.2.2) (D + 1) ((0, (dT x 0).2.1, 0) : tS)) from rfl) ?_
  have hk3 : dkF D t f (oS (seS (srS (D + 1) (dA x 3) (dA x 7) (srS (D + 1) (dA x 3) (dA x 7) (va_up f t (.inr (8, [.null, .null, .null, .null, .int 0, .int 0, .int 0, .int 0, .int 0, .int 0]))) t qNew) t (rdR x).2.1) (dX D) (rdR x).2.2.1 (dA x 7) (rdR x).2.2.2) (D + 1) ((0, (dT x 0).2.1, 0) : tS)) (rdX1 x) := by
    have q := dk_T (x := xW (xZ x (va_up (dZ x) 2 (rdR x).2.2.2)) (rdR x).2.2.1) (j := 0) (u := ((0, (dT x 0).2.1, 0) : tS)) hA hk2 (by omega) (Nat.zero_le _)
    rw [show dA (xW (xZ x (va_up (dZ x) 2 (rdR x).2.2.2)) (rdR x).2.2.1) 0 = D + 1 from a0] at q
    exact q
  have m2 : (oS (seS (srS (D + 1) (dA x 3) (dA x 7) (srS (D + 1) (dA x 3) (dA x 7) (va_up f t (.inr (8, [.null, .null, .null, .null, .int 0, .int 0, .int 0, .int 0, .int 0, .int 0]))) t qNew) t (rdR x).2.1) (dX D) (rdR x).2.2.1 (dA x 7) (rdR x).2.2.2) (D + 1) ((0, (dT x 0).2.1, 0) : tS)) D = dC D (dA x) (dF x) := hk3.1.1
  have r2 : (oS (seS (srS (D + 1) (dA x 3) (dA x 7) (srS (D + 1) (dA x 3) (dA x 7) (va_up f t (.inr (8, [.null, .null, .null, .null, .int 0, .int 0, .int 0, .int 0, .int 0, .int 0]))) t qNew) t (rdR x).2.1) (dX D) (rdR x).2.2.1 (dA x 7) (rdR x).2.2.2) (D + 1) ((0, (dT x 0).2.1, 0) : tS)) t = .inr (8, [.ref (D + 1), .ref (dA x 3), .ref (dA x 7), .ref (t + 1), .int (nI (qBg (rdR x).2.1)), .int (qEn (rdR x).2.1), .int (nI (qNx (rdR x).2.1)), .int (nI (qCm (rdR x).2.1)), .int (nI (qFa (rdR x).2.1)), .int (nI (qFp (rdR x).2.1))]) := (oS_ne (by omega) (by omega)).trans ((seS_ne (noX (by omega)) (by omega)).trans (srP_S _ _ _ _ _ _).1)
  refine v_iload_n dX9_read_38 rfl (by rfl) ?_
  refine v_if_neB (tgt := 56) dX9_read_39 (by decide) (fun c39 => ?_) (fun c39 => ?_)
  · refine v_aload_n dX9_read_56 rfl (by rfl) ?_
    refine v_iload_n dX9_read_57 rfl (by rfl) ?_
    refine w_callV hE dX9_read_58 kX9_110 (by repeat (first | assumption | exact va_up_self _ _ _ | refine (va_up_ne _ _ (by omega)).trans ?_)) (by rfl) (by rfl) (us_ hE (x := rdX1 x) hA hk3 hi) rfl (by decide) (by decide) (by exact Nat.le_of_ble_eq_true rfl) (by omega) (by omega) (fun v9 g9 u9 h9 => ?_) (fun _ _ _ h => by cases h.1)
    obtain ⟨hv9, hu9, hk6⟩ := h9
    replace hu9 := hu9.symm
    subst hu9
    cases hv9
    obtain ⟨m5, m6⟩ := dk_5 hk6 hi
    obtain ⟨y5, -⟩ := id m6
    have m7 := hk6.1.1
    refine v_aload_n dX9_read_61 rfl (by rfl) ?_
    refine v_getf hE dX9_read_62 fX9_34 (by repeat (first | assumption | exact va_up_self _ _ _ | refine (va_up_ne _ _ (by omega)).trans ?_)) (by rfl) ?_
    refine v_iload_n dX9_read_65 rfl (by rfl) ?_
    refine v_aaldD hE dX9_read_66 m5 hi ?_
    refine v_getf hE dX9_read_67 fX9_113 (by repeat (first | assumption | exact va_up_self _ _ _ | refine (va_up_ne _ _ (by omega)).trans ?_)) (by rfl) ?_
    refine v_iret dX9_read_70 rfl (by first | rfl | exact nar_bI) ?_
    first
      | (have hR : pRea x (nI i) = (some (nI (rdR x).2.2.2.2.2), dSwp (rdX1 x) i) := by
           unfold pRea
           rw [hi0]
           exact if_pos c39
         rw [hR]; exact ⟨rfl, by omega, hk6⟩)
      | (have hR : pRea x (nI i) = (some (- nI (qFa (rdR x).2.1)), xF (rdX1 x) (nI (qFp (rdR x).2.1))) := by
           unfold pRea
           rw [hi0]
           exact if_neg (fun hh => by rw [show (rdR x).1 = false from c39] at hh; cases hh)
         rw [hR]; exact ⟨rfl, by omega, hk4⟩)
  · refine v_aload_n dX9_read_42 rfl (by rfl) ?_
    refine v_aload_n dX9_read_43 rfl (by rfl) ?_
    refine v_getf hE dX9_read_44 fX9_108 (by repeat (first | assumption | exact va_up_self _ _ _ | refine (va_up_ne _ _ (by omega)).trans ?_)) (by rfl) ?_
    refine v_putf hE dX9_read_47 fX9_57 (by repeat (first | assumption | exact va_up_self _ _ _ | refine (va_up_ne _ _ (by omega)).trans ?_)) (by exact Nat.le_of_ble_eq_true rfl) (by rfl) (by rfl) (by rfl) ?_
    refine v_hp (show _ = va_up (oS (seS (srS (D + 1) (dA x 3) (dA x 7) (srS (D + 1) (dA x 3) (dA x 7) (va_up f t (.inr (8, [.null, .null, .null, .null, .int 0, .int 0, .int 0, .int 0, .int 0, .int 0]))) t qNew) t (rdR x).2.1) (dX D) (rdR x).2.2.1 (dA x 7) (rdR x).2.2.2) (D + 1) ((0, (dT x 0).2.1, 0) : tS)) D (dC D (dA x) (nI (qFp (rdR x).2.1))) from rfl) ?_
    have hk4 : dkF D t f _ (xF (rdX1 x) (nI (qFp (rdR x).2.1))) := dk_F (x := rdX1 x) hA hk3
    have r3 := (va_up_ne (oS (seS (srS (D + 1) (dA x 3) (dA x 7) (srS (D + 1) (dA x 3) (dA x 7) (va_up f t (.inr (8, [.null, .null, .null, .null, .int 0, .int 0, .int 0, .int 0, .int 0, .int 0]))) t qNew) t (rdR x).2.1) (dX D) (rdR x).2.2.1 (dA x 7) (rdR x).2.2.2) (D + 1) ((0, (dT x 0).2.1, 0) : tS)) (dC D (dA x) (nI (qFp (rdR x).2.1))) (show t ≠ D by omega)).trans r2
    refine v_aload_n dX9_read_50 rfl (by rfl) ?_
    refine v_getf hE dX9_read_51 fX9_109 (by repeat (first | assumption | exact va_up_self _ _ _ | refine (va_up_ne _ _ (by omega)).trans ?_)) (by rfl) ?_
    refine v_ineg dX9_read_54 ?_
    refine v_iret dX9_read_55 rfl (by first | rfl | exact nar_bI) ?_
    first
      | (have hR : pRea x (nI i) = (some (nI (rdR x).2.2.2.2.2), dSwp (rdX1 x) i) := by
           unfold pRea
           rw [hi0]
           exact if_pos c39
         rw [hR]; exact ⟨rfl, by omega, hk6⟩)
      | (have hR : pRea x (nI i) = (some (- nI (qFa (rdR x).2.1)), xF (rdX1 x) (nI (qFp (rdR x).2.1))) := by
           unfold pRea
           rw [hi0]
           exact if_neg (fun hh => by rw [show (rdR x).1 = false from c39] at hh; cases hh)
         rw [hR]; exact ⟨rfl, by omega, hk4⟩)

theorem dAd_sG {D : Nat} {A : Nat → Nat} (h : dAd D A) : dAd D (swG A 3 4) := by
  obtain ⟨h0, h1, h2, h3⟩ := h
  refine ⟨h0, h1, ?_, h3⟩
  show (A 4 = D + 7 ∧ A 3 = D + 16) ∨ (A 4 = D + 16 ∧ A 3 = D + 7)
  omega
set_option maxRecDepth 100000 in
set_option maxHeartbeats 4000000 in
/-- reference -/
theorem sX9_reference {E : eN} (hE : eOk E) {f : aH} {t : Nat} {D : Nat} {x : dV} (hS : eSt E) (hT : eTh E) (hI : dOk D x) (hk : dkP f D x) (ht : D + 1322 < t) : mT E mX9_reference 1 11 [.ref D] f t (fun o f' t' => o = dOut nIO (pRef x).1 ∧ t ≤ t' ∧ dkF D t f f' (pRef x).2) := by
  refine mT_of (n := 4) (lo := [some (.ref D), none, none, none, none]) (by decide) (by exact Nat.le_of_ble_eq_true rfl) rfl rfl ?_
  have hk0 := dkF_0 (t := t) hk
  obtain ⟨k0, k1, hkT, hkG, hkZ, hkW, k6, k7, k8⟩ := id hk
  have hA := hI.1
  have a0 := hA.1
  have a4 : dA x 4 = D + 7 ∨ dA x 4 = D + 16 := dAd_G hA (i := 1) (by omega)
  have hz0 := hI.2.2.1 0 (by omega)
  have hz1 := hI.2.2.1 1 (by omega)
  refine v_new hE (ci := 2) (N := 11) (fs := [.null, .null, .int 0, .int 0, .int 0, .int 0, .int 0, .int 0, .int 0, .int 0, .int 0]) dX9_reference_0 nX9_77 rfl (by decide) (by omega) (by omega) ?_
  refine v_dup dX9_reference_3 rfl ?_
  refine v_aload_n dX9_reference_4 rfl (by rfl) ?_
  refine v_getf hE dX9_reference_5 fX9_10 (by repeat (first | assumption | exact va_up_self _ _ _ | refine (va_up_ne _ _ (by omega)).trans ?_)) (by rfl) ?_
  refine v_aload_n dX9_reference_8 rfl (by rfl) ?_
  refine v_getf hE dX9_reference_9 fX9_29 (by repeat (first | assumption | exact va_up_self _ _ _ | refine (va_up_ne _ _ (by omega)).trans ?_)) (by rfl) ?_
  refine w_callI hE dX9_reference_12 kX9_79 rfl (by rfl) (sX2_init hE (va_up_self _ _ _)) rfl (fun _ _ _ h => by cases h.1) (by decide) (by decide) (by exact Nat.le_of_ble_eq_true rfl) (by omega) (by omega) (fun v9 g9 u9 h9 => ?_)
  obtain ⟨hv9, hu9, hg9⟩ := h9
  replace hu9 := hu9.symm
  replace hg9 := hg9.symm
  subst hu9
  subst hg9
  cases hv9
  refine v_hp (show _ = (va_up (va_up f t (.inr (2, [.null, .null, .int 0, .int 0, .int 0, .int 0, .int 0, .int 0, .int 0, .int 0, .int 0]))) t (rC (D + 1) (dA x 4) rNew)) from rfl) ?_
  have hkn : dkF D t f (va_up f t (.inr (2, [.null, .null, .int 0, .int 0, .int 0, .int 0, .int 0, .int 0, .int 0, .int 0, .int 0]))) x := dk_n hA hk0 (Nat.le_refl _) ht
  have hk1 : dkF D t f (va_up (va_up f t (.inr (2, [.null, .null, .int 0, .int 0, .int 0, .int 0, .int 0, .int 0, .int 0, .int 0, .int 0]))) t (rC (D + 1) (dA x 4) rNew)) x := dk_n hA hkn (Nat.le_refl _) ht
  have r0 : (va_up (va_up f t (.inr (2, [.null, .null, .int 0, .int 0, .int 0, .int 0, .int 0, .int 0, .int 0, .int 0, .int 0]))) t (rC (D + 1) (dA x 4) rNew)) t = rC (D + 1) (dA x 4) rNew := va_up_self _ _ _
  have mT : oP (va_up (va_up f t (.inr (2, [.null, .null, .int 0, .int 0, .int 0, .int 0, .int 0, .int 0, .int 0, .int 0, .int 0]))) t (rC (D + 1) (dA x 4) rNew)) (dA x 0) (dT x 0) := hk1.1.2.2.1 0 (by omega)
  rw [a0] at mT
  have mG : gnP (va_up (va_up f t (.inr (2, [.null, .null, .int 0, .int 0, .int 0, .int 0, .int 0, .int 0, .int 0, .int 0, .int 0]))) t (rC (D + 1) (dA x 4) rNew)) (dA x 4) (dG x 1) := hk1.1.2.2.2.1 1 (by omega)
  refine v_astore_n dX9_reference_15 rfl (by decide) ?_
  refine v_aload_n dX9_reference_16 rfl (by rfl) ?_
  refine w_callV hE dX9_reference_17 kX9_82 (by repeat (first | assumption | exact va_up_self _ _ _ | refine (va_up_ne _ _ (by omega)).trans ?_)) (by rfl) (by rfl) (sX2_run hE ⟨r0, mG⟩ (hI.2.1 1 (by omega)) mT (by omega) (by omega) (by omega) (by omega)) rfl (by decide) (by decide) (by exact Nat.le_of_ble_eq_true rfl) (by omega) (by omega) (fun v9 g9 u9 h9 => ?_) (fun _ _ _ h => by cases h.1)
  obtain ⟨hv9, hu9, hg9⟩ := h9
  replace hu9 := hu9.symm
  replace hg9 := hg9.symm
  subst hu9
  subst hg9
  cases hv9
  refine v_hp (show _ = (rgS (D + 1) (dA x 4) (va_up (va_up f t (.inr (2, [.null, .null, .int 0, .int 0, .int 0, .int 0, .int 0, .int 0, .int 0, .int 0, .int 0]))) t (rC (D + 1) (dA x 4) rNew)) t (rfR x).2.1 (rfR x).2.2) from rfl) ?_
  have hk2 : dkF D t f (rgS (D + 1) (dA x 4) (va_up (va_up f t (.inr (2, [.null, .null, .int 0, .int 0, .int 0, .int 0, .int 0, .int 0, .int 0, .int 0, .int 0]))) t (rC (D + 1) (dA x 4) rNew)) t (rfR x).2.1 (rfR x).2.2) (xG x (va_up (dG x) 1 (rfR x).2.2)) := dk_n (x := xG x (va_up (dG x) 1 (rfR x).2.2)) hA (dk_G (j := 1) hA hk1 (by omega)) (Nat.le_refl _) ht
  have m1 : (rgS (D + 1) (dA x 4) (va_up (va_up f t (.inr (2, [.null, .null, .int 0, .int 0, .int 0, .int 0, .int 0, .int 0, .int 0, .int 0, .int 0]))) t (rC (D + 1) (dA x 4) rNew)) t (rfR x).2.1 (rfR x).2.2) D = dC D (dA x) (dF x) := hk2.1.1
  have mT2 : oP (rgS (D + 1) (dA x 4) (va_up (va_up f t (.inr (2, [.null, .null, .int 0, .int 0, .int 0, .int 0, .int 0, .int 0, .int 0, .int 0, .int 0]))) t (rC (D + 1) (dA x 4) rNew)) t (rfR x).2.1 (rfR x).2.2) (dA x 0) (dT x 0) := hk2.1.2.2.1 0 (by omega)
  rw [a0] at mT2
  obtain ⟨⟨t0, t1⟩, -⟩ := id mT2
  refine v_istore_n dX9_reference_20 rfl (by decide) ?_
  refine v_aload_n dX9_reference_21 rfl (by rfl) ?_
  refine v_getf hE dX9_reference_22 fX9_10 (by repeat (first | assumption | exact va_up_self _ _ _ | refine (va_up_ne _ _ (by omega)).trans ?_)) (by rfl) ?_
  refine w_callV hE dX9_reference_25 kX9_86 (by repeat (first | assumption | exact va_up_self _ _ _ | refine (va_up_ne _ _ (by omega)).trans ?_)) (by rfl) (by rfl) (sX6_clear hE mT2.1) rfl (by decide) (by decide) (by exact Nat.le_of_ble_eq_true rfl) (by omega) (by omega) (fun v9 g9 u9 h9 => ?_) (fun _ _ _ h => by cases h.1)
  obtain ⟨hv9, hu9, hg9⟩ := h9
  replace hu9 := hu9.symm
  replace hg9 := hg9.symm
  subst hu9
  subst hg9
  cases hv9
  refine v_hp (show _ = (oS (rgS (D + 1) (dA x 4) (va_up (va_up f t (.inr (2, [.null, .null, .int 0, .int 0, .int 0, .int 0, .int 0, .int 0, .int 0, .int 0, .int 0]))) t (rC (D + 1) (dA x 4) rNew)) t (rfR x).2.1 (rfR x).2.2) (D + 1) ((0, (dT x 0).2.1, 0) : tS)) from rfl) ?_
  have hk3 : dkF D t f (oS (rgS (D + 1) (dA x 4) (va_up (va_up f t (.inr (2, [.null, .null, .int 0, .int 0, .int 0, .int 0, .int 0, .int 0, .int 0, .int 0, .int 0]))) t (rC (D + 1) (dA x 4) rNew)) t (rfR x).2.1 (rfR x).2.2) (D + 1) ((0, (dT x 0).2.1, 0) : tS)) (rfX1 x) := by
    have q := dk_T (x := xG x (va_up (dG x) 1 (rfR x).2.2)) (j := 0) (u := ((0, (dT x 0).2.1, 0) : tS)) hA hk2 (by omega) (Nat.zero_le _)
    rw [show dA (xG x (va_up (dG x) 1 (rfR x).2.2)) 0 = D + 1 from a0] at q
    exact q
  have m2 : (oS (rgS (D + 1) (dA x 4) (va_up (va_up f t (.inr (2, [.null, .null, .int 0, .int 0, .int 0, .int 0, .int 0, .int 0, .int 0, .int 0, .int 0]))) t (rC (D + 1) (dA x 4) rNew)) t (rfR x).2.1 (rfR x).2.2) (D + 1) ((0, (dT x 0).2.1, 0) : tS)) D = dC D (dA x) (dF x) := hk3.1.1
  have r2 : (oS (rgS (D + 1) (dA x 4) (va_up (va_up f t (.inr (2, [.null, .null, .int 0, .int 0, .int 0, .int 0, .int 0, .int 0, .int 0, .int 0, .int 0]))) t (rC (D + 1) (dA x 4) rNew)) t (rfR x).2.1 (rfR x).2.2) (D + 1) ((0, (dT x 0).2.1, 0) : tS)) t = rC (D + 1) (dA x 4) (rfR x).2.1 := (oS_ne (by omega) (by omega)).trans (va_up_self _ _ _)
  refine v_iload_n dX9_reference_28 rfl (by rfl) ?_
  refine v_if_neB (tgt := 46) dX9_reference_29 (by decide) (fun c29 => ?_) (fun c29 => ?_)
  · refine v_aload_n dX9_reference_46 rfl (by rfl) ?_
    refine v_getf hE dX9_reference_47 fX9_25 (by repeat (first | assumption | exact va_up_self _ _ _ | refine (va_up_ne _ _ (by omega)).trans ?_)) (by rfl) ?_
    refine v_astore_n dX9_reference_50 rfl (by decide) ?_
    refine v_aload_n dX9_reference_51 rfl (by rfl) ?_
    refine v_aload_n dX9_reference_52 rfl (by rfl) ?_
    refine v_getf hE dX9_reference_53 fX9_29 (by repeat (first | assumption | exact va_up_self _ _ _ | refine (va_up_ne _ _ (by omega)).trans ?_)) (by rfl) ?_
    refine v_putf hE dX9_reference_56 fX9_25 (by repeat (first | assumption | exact va_up_self _ _ _ | refine (va_up_ne _ _ (by omega)).trans ?_)) (by exact Nat.le_of_ble_eq_true rfl) (by rfl) (by rfl) (by rfl) ?_
    refine v_aload_n dX9_reference_59 rfl (by rfl) ?_
    refine v_aload_n dX9_reference_60 rfl (by rfl) ?_
    refine v_putf hE dX9_reference_61 fX9_29 (by repeat (first | assumption | exact va_up_self _ _ _ | refine (va_up_ne _ _ (by omega)).trans ?_)) (by exact Nat.le_of_ble_eq_true rfl) (by rfl) (by rfl) (by rfl) ?_
    refine v_hp (show _ = (va_up (oS (rgS (D + 1) (dA x 4) (va_up (va_up f t (.inr (2, [.null, .null, .int 0, .int 0, .int 0, .int 0, .int 0, .int 0, .int 0, .int 0, .int 0]))) t (rC (D + 1) (dA x 4) rNew)) t (rfR x).2.1 (rfR x).2.2) (D + 1) ((0, (dT x 0).2.1, 0) : tS)) D (dC D (swG (dA x) 3 4) (dF x))) from bx_uu _ _ _ _) ?_
    have hk5 : dkF D t f (va_up (oS (rgS (D + 1) (dA x 4) (va_up (va_up f t (.inr (2, [.null, .null, .int 0, .int 0, .int 0, .int 0, .int 0, .int 0, .int 0, .int 0, .int 0]))) t (rC (D + 1) (dA x 4) rNew)) t (rfR x).2.1 (rfR x).2.2) (D + 1) ((0, (dT x 0).2.1, 0) : tS)) D (dC D (swG (dA x) 3 4) (dF x))) (dSwG (rfX1 x)) := dk_sG (x := rfX1 x) hA hk3
    have hA5 : dAd D (swG (dA x) 3 4) := dAd_sG hA
    have hk5D : (va_up (oS (rgS (D + 1) (dA x 4) (va_up (va_up f t (.inr (2, [.null, .null, .int 0, .int 0, .int 0, .int 0, .int 0, .int 0, .int 0, .int 0, .int 0]))) t (rC (D + 1) (dA x 4) rNew)) t (rfR x).2.1 (rfR x).2.2) (D + 1) ((0, (dT x 0).2.1, 0) : tS)) D (dC D (swG (dA x) 3 4) (dF x))) D = .inr (9, [.ref (D + 1), .ref (D + 25), .ref (D + 1301), .ref (D + 1317), .ref (dA x 1), .ref (dA x 2), .ref (dA x 4), .ref (dA x 3), .ref (dA x 7), .int (dF x)]) := hk5.1.1
    have hk5S : (va_up (oS (rgS (D + 1) (dA x 4) (va_up (va_up f t (.inr (2, [.null, .null, .int 0, .int 0, .int 0, .int 0, .int 0, .int 0, .int 0, .int 0, .int 0]))) t (rC (D + 1) (dA x 4) rNew)) t (rfR x).2.1 (rfR x).2.2) (D + 1) ((0, (dT x 0).2.1, 0) : tS)) D (dC D (swG (dA x) 3 4) (dF x))) (D + 25) = sA (dA x) := hk5.1.2.1.trans (sA_c (fun k hk => swG_n (by omega) (by omega)))
    have hk5Z : shP (va_up (oS (rgS (D + 1) (dA x 4) (va_up (va_up f t (.inr (2, [.null, .null, .int 0, .int 0, .int 0, .int 0, .int 0, .int 0, .int 0, .int 0, .int 0]))) t (rC (D + 1) (dA x 4) rNew)) t (rfR x).2.1 (rfR x).2.2) (D + 1) ((0, (dT x 0).2.1, 0) : tS)) D (dC D (swG (dA x) 3 4) (dF x))) (dA x (5 + 0)) (dZ x 0) := hk5.1.2.2.2.2.1 0 (by omega)
    obtain ⟨y5, -⟩ := id hk5Z
    refine v_iconst (v := nI 0) dX9_reference_64 (by decide) ?_
    refine v_istore dX9_reference_65 (by decide) ?_
    refine v_iload dX9_reference_67 (by rfl) ?_
    refine v_iconst (v := nI 2) dX9_reference_69 (by decide) ?_
    refine v_icmp_geN (tgt := 89) dX9_reference_70 (by decide) (by omega) (by omega) (fun c70 => ?_) (fun c70 => ?_)
    · exact absurd c70 (by omega)
    · refine v_aload_n dX9_reference_73 rfl (by rfl) ?_
      refine v_getf hE dX9_reference_74 fX9_34 (by repeat (first | assumption | exact va_up_self _ _ _ | refine (va_up_ne _ _ (by omega)).trans ?_)) (by rfl) ?_
      refine v_iload dX9_reference_77 (by rfl) ?_
      refine v_aaldD hE dX9_reference_79 hk5S (by omega) ?_
      refine w_callV hE dX9_reference_80 kX9_93 (by repeat (first | assumption | exact va_up_self _ _ _ | refine (va_up_ne _ _ (by omega)).trans ?_)) (by rfl) (by rfl) (sX7_clear hE hk5Z hz0) rfl (by decide) (by decide) (by exact Nat.le_of_ble_eq_true rfl) (by omega) (by omega) (fun v9 g9 u9 h9 => ?_) (fun _ _ _ h => by cases h.1)
      obtain ⟨hv9, hu9, hg9⟩ := h9
      replace hu9 := hu9.symm
      replace hg9 := hg9.symm
      subst hu9
      subst hg9
      cases hv9
      refine v_hp (show _ = (shS (va_up (oS (rgS (D + 1) (dA x 4) (va_up (va_up f t (.inr (2, [.null, .null, .int 0, .int 0, .int 0, .int 0, .int 0, .int 0, .int 0, .int 0, .int 0]))) t (rC (D + 1) (dA x 4) rNew)) t (rfR x).2.1 (rfR x).2.2) (D + 1) ((0, (dT x 0).2.1, 0) : tS)) D (dC D (swG (dA x) 3 4) (dF x))) (dA x (5 + 0)) (zC (dZ x 0))) from rfl) ?_
      have hk6 : dkF D t f (shS (va_up (oS (rgS (D + 1) (dA x 4) (va_up (va_up f t (.inr (2, [.null, .null, .int 0, .int 0, .int 0, .int 0, .int 0, .int 0, .int 0, .int 0, .int 0]))) t (rC (D + 1) (dA x 4) rNew)) t (rfR x).2.1 (rfR x).2.2) (D + 1) ((0, (dT x 0).2.1, 0) : tS)) D (dC D (swG (dA x) 3 4) (dF x))) (dA x (5 + 0)) (zC (dZ x 0))) (rfX3 x) := dk_Z (j := 0) (x := (dSwG (rfX1 x))) hA5 hk5 (by omega)
      have hk6D : (shS (va_up (oS (rgS (D + 1) (dA x 4) (va_up (va_up f t (.inr (2, [.null, .null, .int 0, .int 0, .int 0, .int 0, .int 0, .int 0, .int 0, .int 0, .int 0]))) t (rC (D + 1) (dA x 4) rNew)) t (rfR x).2.1 (rfR x).2.2) (D + 1) ((0, (dT x 0).2.1, 0) : tS)) D (dC D (swG (dA x) 3 4) (dF x))) (dA x (5 + 0)) (zC (dZ x 0))) D = .inr (9, [.ref (D + 1), .ref (D + 25), .ref (D + 1301), .ref (D + 1317), .ref (dA x 1), .ref (dA x 2), .ref (dA x 4), .ref (dA x 3), .ref (dA x 7), .int (dF x)]) := hk6.1.1
      have hk6S : (shS (va_up (oS (rgS (D + 1) (dA x 4) (va_up (va_up f t (.inr (2, [.null, .null, .int 0, .int 0, .int 0, .int 0, .int 0, .int 0, .int 0, .int 0, .int 0]))) t (rC (D + 1) (dA x 4) rNew)) t (rfR x).2.1 (rfR x).2.2) (D + 1) ((0, (dT x 0).2.1, 0) : tS)) D (dC D (swG (dA x) 3 4) (dF x))) (dA x (5 + 0)) (zC (dZ x 0))) (D + 25) = sA (dA x) := hk6.1.2.1.trans (sA_c (fun k hk => swG_n (by omega) (by omega)))
      have hk6Z : shP (shS (va_up (oS (rgS (D + 1) (dA x 4) (va_up (va_up f t (.inr (2, [.null, .null, .int 0, .int 0, .int 0, .int 0, .int 0, .int 0, .int 0, .int 0, .int 0]))) t (rC (D + 1) (dA x 4) rNew)) t (rfR x).2.1 (rfR x).2.2) (D + 1) ((0, (dT x 0).2.1, 0) : tS)) D (dC D (swG (dA x) 3 4) (dF x))) (dA x (5 + 0)) (zC (dZ x 0))) (dA x (5 + 1)) (dZ x 1) := hk6.1.2.2.2.2.1 1 (by omega)
      obtain ⟨y09, -⟩ := id hk6Z
      refine v_iincN (y := 1) dX9_reference_83 (by rfl) (by decide) (by decide) ?_
      refine v_goto (tgt := 67) dX9_reference_86 (by decide) ?_
      refine v_iload dX9_reference_67 (by rfl) ?_
      refine v_iconst (v := nI 2) dX9_reference_69 (by decide) ?_
      refine v_icmp_geN (tgt := 89) dX9_reference_70 (by decide) (by omega) (by omega) (fun c70 => ?_) (fun c70 => ?_)
      · exact absurd c70 (by omega)
      · refine v_aload_n dX9_reference_73 rfl (by rfl) ?_
        refine v_getf hE dX9_reference_74 fX9_34 (by repeat (first | assumption | exact va_up_self _ _ _ | refine (va_up_ne _ _ (by omega)).trans ?_)) (by rfl) ?_
        refine v_iload dX9_reference_77 (by rfl) ?_
        refine v_aaldD hE dX9_reference_79 hk6S (by omega) ?_
        refine w_callV hE dX9_reference_80 kX9_93 (by repeat (first | assumption | exact va_up_self _ _ _ | refine (va_up_ne _ _ (by omega)).trans ?_)) (by rfl) (by rfl) (sX7_clear hE hk6Z hz1) rfl (by decide) (by decide) (by exact Nat.le_of_ble_eq_true rfl) (by omega) (by omega) (fun v9 g9 u9 h9 => ?_) (fun _ _ _ h => by cases h.1)
        obtain ⟨hv9, hu9, hg9⟩ := h9
        replace hu9 := hu9.symm
        replace hg9 := hg9.symm
        subst hu9
        subst hg9
        cases hv9
        refine v_hp (show _ = (shS (shS (va_up (oS (rgS (D + 1) (dA x 4) (va_up (va_up f t (.inr (2, [.null, .null, .int 0, .int 0, .int 0, .int 0, .int 0, .int 0, .int 0, .int 0, .int 0]))) t (rC (D + 1) (dA x 4) rNew)) t (rfR x).2.1 (rfR x).2.2) (D + 1) ((0, (dT x 0).2.1, 0) : tS)) D (dC D (swG (dA x) 3 4) (dF x))) (dA x (5 + 0)) (zC (dZ x 0))) (dA x (5 + 1)) (zC (dZ x 1))) from rfl) ?_
        have hk7 : dkF D t f (shS (shS (va_up (oS (rgS (D + 1) (dA x 4) (va_up (va_up f t (.inr (2, [.null, .null, .int 0, .int 0, .int 0, .int 0, .int 0, .int 0, .int 0, .int 0, .int 0]))) t (rC (D + 1) (dA x 4) rNew)) t (rfR x).2.1 (rfR x).2.2) (D + 1) ((0, (dT x 0).2.1, 0) : tS)) D (dC D (swG (dA x) 3 4) (dF x))) (dA x (5 + 0)) (zC (dZ x 0))) (dA x (5 + 1)) (zC (dZ x 1))) (rfX4 x) := dk_Z (j := 1) (x := (rfX3 x)) hA5 hk6 (by omega)
        have hk7D : (shS (shS (va_up (oS (rgS (D + 1) (dA x 4) (va_up (va_up f t (.inr (2, [.null, .null, .int 0, .int 0, .int 0, .int 0, .int 0, .int 0, .int 0, .int 0, .int 0]))) t (rC (D + 1) (dA x 4) rNew)) t (rfR x).2.1 (rfR x).2.2) (D + 1) ((0, (dT x 0).2.1, 0) : tS)) D (dC D (swG (dA x) 3 4) (dF x))) (dA x (5 + 0)) (zC (dZ x 0))) (dA x (5 + 1)) (zC (dZ x 1))) D = .inr (9, [.ref (D + 1), .ref (D + 25), .ref (D + 1301), .ref (D + 1317), .ref (dA x 1), .ref (dA x 2), .ref (dA x 4), .ref (dA x 3), .ref (dA x 7), .int (dF x)]) := hk7.1.1
        have hk7S : (shS (shS (va_up (oS (rgS (D + 1) (dA x 4) (va_up (va_up f t (.inr (2, [.null, .null, .int 0, .int 0, .int 0, .int 0, .int 0, .int 0, .int 0, .int 0, .int 0]))) t (rC (D + 1) (dA x 4) rNew)) t (rfR x).2.1 (rfR x).2.2) (D + 1) ((0, (dT x 0).2.1, 0) : tS)) D (dC D (swG (dA x) 3 4) (dF x))) (dA x (5 + 0)) (zC (dZ x 0))) (dA x (5 + 1)) (zC (dZ x 1))) (D + 25) = sA (dA x) := hk7.1.2.1.trans (sA_c (fun k hk => swG_n (by omega) (by omega)))
        refine v_iincN (y := 1) dX9_reference_83 (by rfl) (by decide) (by decide) ?_
        refine v_goto (tgt := 67) dX9_reference_86 (by decide) ?_
        refine v_iload dX9_reference_67 (by rfl) ?_
        refine v_iconst (v := nI 2) dX9_reference_69 (by decide) ?_
        refine v_icmp_geN (tgt := 89) dX9_reference_70 (by decide) (by omega) (by omega) (fun c70 => ?_) (fun c70 => ?_)
        · have mH : haP (shS (shS (va_up (oS (rgS (D + 1) (dA x 4) (va_up (va_up f t (.inr (2, [.null, .null, .int 0, .int 0, .int 0, .int 0, .int 0, .int 0, .int 0, .int 0, .int 0]))) t (rC (D + 1) (dA x 4) rNew)) t (rfR x).2.1 (rfR x).2.2) (D + 1) ((0, (dT x 0).2.1, 0) : tS)) D (dC D (swG (dA x) 3 4) (dF x))) (dA x (5 + 0)) (zC (dZ x 0))) (dA x (5 + 1)) (zC (dZ x 1))) (D + 1317) (dH x) := hk7.1.2.2.2.2.2.2.2.2
          obtain ⟨h8, -⟩ := id mH
          refine v_aload_n dX9_reference_89 rfl (by rfl) ?_
          refine v_getf hE dX9_reference_90 fX9_53 (by repeat (first | assumption | exact va_up_self _ _ _ | refine (va_up_ne _ _ (by omega)).trans ?_)) (by rfl) ?_
          refine w_callV hE dX9_reference_93 kX9_94 (by repeat (first | assumption | exact va_up_self _ _ _ | refine (va_up_ne _ _ (by omega)).trans ?_)) (by rfl) (by rfl) (sX3_clear hE mH) rfl (by decide) (by decide) (by exact Nat.le_of_ble_eq_true rfl) (by omega) (by omega) (fun v9 g9 u9 h9 => ?_) (fun _ _ _ h => by cases h.1)
          obtain ⟨hv9, hu9, hg9⟩ := h9
          replace hu9 := hu9.symm
          replace hg9 := hg9.symm
          subst hu9
          subst hg9
          cases hv9
          have hk8 : dkF D t f (haS (shS (shS (va_up (oS (rgS (D + 1) (dA x 4) (va_up (va_up f t (.inr (2, [.null, .null, .int 0, .int 0, .int 0, .int 0, .int 0, .int 0, .int 0, .int 0, .int 0]))) t (rC (D + 1) (dA x 4) rNew)) t (rfR x).2.1 (rfR x).2.2) (D + 1) ((0, (dT x 0).2.1, 0) : tS)) D (dC D (swG (dA x) 3 4) (dF x))) (dA x (5 + 0)) (zC (dZ x 0))) (dA x (5 + 1)) (zC (dZ x 1))) (D + 1317) (iNt (iTo (iCt (dH x) 0) 0) 0)) (rfX5 x) := dk_H (x := rfX4 x) hA5 hk7
          have hk8D : (haS (shS (shS (va_up (oS (rgS (D + 1) (dA x 4) (va_up (va_up f t (.inr (2, [.null, .null, .int 0, .int 0, .int 0, .int 0, .int 0, .int 0, .int 0, .int 0, .int 0]))) t (rC (D + 1) (dA x 4) rNew)) t (rfR x).2.1 (rfR x).2.2) (D + 1) ((0, (dT x 0).2.1, 0) : tS)) D (dC D (swG (dA x) 3 4) (dF x))) (dA x (5 + 0)) (zC (dZ x 0))) (dA x (5 + 1)) (zC (dZ x 1))) (D + 1317) (iNt (iTo (iCt (dH x) 0) 0) 0)) D = .inr (9, [.ref (D + 1), .ref (D + 25), .ref (D + 1301), .ref (D + 1317), .ref (dA x 1), .ref (dA x 2), .ref (dA x 4), .ref (dA x 3), .ref (dA x 7), .int (dF x)]) := hk8.1.1
          have mG8 : gnP (haS (shS (shS (va_up (oS (rgS (D + 1) (dA x 4) (va_up (va_up f t (.inr (2, [.null, .null, .int 0, .int 0, .int 0, .int 0, .int 0, .int 0, .int 0, .int 0, .int 0]))) t (rC (D + 1) (dA x 4) rNew)) t (rfR x).2.1 (rfR x).2.2) (D + 1) ((0, (dT x 0).2.1, 0) : tS)) D (dC D (swG (dA x) 3 4) (dF x))) (dA x (5 + 0)) (zC (dZ x 0))) (dA x (5 + 1)) (zC (dZ x 1))) (D + 1317) (iNt (iTo (iCt (dH x) 0) 0) 0)) (dA x 4) (rfR x).2.2 := hk8.1.2.2.2.1 0 (by omega)
          obtain ⟨g8, -⟩ := id mG8
          refine v_aload_n dX9_reference_96 rfl (by rfl) ?_
          refine v_getf hE dX9_reference_97 fX9_25 (by repeat (first | assumption | exact va_up_self _ _ _ | refine (va_up_ne _ _ (by omega)).trans ?_)) (by rfl) ?_
          refine v_getf hE dX9_reference_100 fX9_95 (by repeat (first | assumption | exact va_up_self _ _ _ | refine (va_up_ne _ _ (by omega)).trans ?_)) (by rfl) ?_
          refine v_iret dX9_reference_103 rfl (by first | rfl | exact nar_bI) ?_
          have hR : pRef x = (some (nI (gCt (rfR x).2.2)), rfX5 x) := if_pos c29
          rw [hR]
          exact ⟨rfl, by omega, hk8⟩
        · exact absurd c70 (by omega)
  · refine v_aload_n dX9_reference_32 rfl (by rfl) ?_
    refine v_aload_n dX9_reference_33 rfl (by rfl) ?_
    refine v_getf hE dX9_reference_34 fX9_89 (by repeat (first | assumption | exact va_up_self _ _ _ | refine (va_up_ne _ _ (by omega)).trans ?_)) (by rfl) ?_
    refine v_putf hE dX9_reference_37 fX9_57 (by repeat (first | assumption | exact va_up_self _ _ _ | refine (va_up_ne _ _ (by omega)).trans ?_)) (by exact Nat.le_of_ble_eq_true rfl) (by rfl) (by rfl) (by rfl) ?_
    refine v_hp (show _ = va_up (oS (rgS (D + 1) (dA x 4) (va_up (va_up f t (.inr (2, [.null, .null, .int 0, .int 0, .int 0, .int 0, .int 0, .int 0, .int 0, .int 0, .int 0]))) t (rC (D + 1) (dA x 4) rNew)) t (rfR x).2.1 (rfR x).2.2) (D + 1) ((0, (dT x 0).2.1, 0) : tS)) D (dC D (dA x) (nI (rFp (rfR x).2.1))) from rfl) ?_
    have hk4 : dkF D t f _ (xF (rfX1 x) (nI (rFp (rfR x).2.1))) := dk_F (x := rfX1 x) hA hk3
    have r3 := (va_up_ne (oS (rgS (D + 1) (dA x 4) (va_up (va_up f t (.inr (2, [.null, .null, .int 0, .int 0, .int 0, .int 0, .int 0, .int 0, .int 0, .int 0, .int 0]))) t (rC (D + 1) (dA x 4) rNew)) t (rfR x).2.1 (rfR x).2.2) (D + 1) ((0, (dT x 0).2.1, 0) : tS)) (dC D (dA x) (nI (rFp (rfR x).2.1))) (show t ≠ D by omega)).trans r2
    refine v_aload_n dX9_reference_40 rfl (by rfl) ?_
    refine v_getf hE dX9_reference_41 fX9_90 (by repeat (first | assumption | exact va_up_self _ _ _ | refine (va_up_ne _ _ (by omega)).trans ?_)) (by rfl) ?_
    refine v_ineg dX9_reference_44 ?_
    refine v_iret dX9_reference_45 rfl (by first | rfl | exact nar_bI) ?_
    have hR : pRef x = (some (- nI (rFa (rfR x).2.1)), xF (rfX1 x) (nI (rFp (rfR x).2.1))) := if_neg (fun hh => by rw [show (rfR x).1 = false from c29] at hh; cases hh)
    rw [hR]
    exact ⟨rfl, by omega, hk4⟩
