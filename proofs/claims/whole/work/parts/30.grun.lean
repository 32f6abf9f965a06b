/-- what holds of reader and genome when k octets are taken -/
def rInv (v : rV) (g : gV) (k : Nat) : Prop := gOk g ∧ (rSt v ≠ 0 → 0 < gCt g) ∧ rSt v ≤ 5 ∧ rAt v ≤ 8000 ∧ rNs v ≤ 20 ∧ rNt v ≤ 8001 ∧ rWi v ≤ k ∧ rLs v ≤ k ∧ rLl v ≤ k ∧ rFa v ≤ 5 ∧ rFp v ≤ 8001
theorem rInv_B {v : rV} {g : gV} {k : Nat} (h : rInv v g k) (hk : k ≤ 8001) : rB v := by
  obtain ⟨i1, i2, i3, i4, i5, i6, i7, i8, i9, i10, i11⟩ := h
  refine ⟨?_, ?_, ?_, ?_, ?_, ?_, ?_, ?_, ?_⟩ <;> omega
theorem rInv_le {v : rV} {g : gV} {k n : Nat} (h : rInv v g k) (hk : k ≤ n) : rInv v g n := by
  obtain ⟨i1, i2, i3, i4, i5, i6, i7, i8, i9, i10, i11⟩ := h
  exact ⟨i1, i2, i3, i4, i5, i6, by omega, by omega, by omega, i10, i11⟩
theorem rInv_fail {v : rV} {g : gV} {k n : Nat} (h : rInv v g k) (hn : n ≤ 5) : rInv (rFail v n) g (k + 1) := by
  obtain ⟨i1, i2, i3, i4, i5, i6, i7, i8, i9, i10, i11⟩ := h
  refine ⟨i1, i2, i3, i4, i5, i6, ?_, ?_, ?_, ?_, ?_⟩ <;> (dsimp only [rSt, rAt, rNs, rNt, rWi, rLs, rLl, rFa, rFp, pSt, pAt, pNs, pNt, pWi, pLs, pLl, pFa, pFp, rFail] at *; omega)
theorem gnAdd_ct {g : gV} {x y : Int32} : gCt (gnAdd g x y) = gCt g := by
  unfold gnAdd
  split <;> rfl
theorem nmAdd_1 {v : nV} {x : Int32} : (nmAdd v x).1 = v.1 := by
  unfold nmAdd
  split <;> rfl
theorem rInv_L {v : rV} {g : gV} {k : Nat} {x : Int32} (h : rInv v g k) (hc : 0 < gCt g) : rInv (rTakeL v g x).2.1 (rTakeL v g x).2.2 (k + 1) := by
  unfold rTakeL
  split
  · exact rInv_fail h (by omega)
  · split
    · exact rInv_fail h (by omega)
    · obtain ⟨i1, i2, i3, i4, i5, i6, i7, i8, i9, i10, i11⟩ := h
      refine ⟨gnAdd_ok i1, fun _ => by rw [gnAdd_ct]; exact hc, ?_, i4, i5, i6, ?_, ?_, ?_, i10, i11⟩ <;> (dsimp only [rSt, rAt, rNs, rNt, rWi, rLs, rLl, rFa, rFp, pSt, pAt, pNs, pNt, pWi, pLs, pLl, pFa, pFp, rFail] at *; omega)
theorem rInv_E {v : rV} {g : gV} {k : Nat} (h : rInv v g k) (hc : 0 < gCt g) : rInv (rEndL v g).1 (rEndL v g).2 (k + 1) := by
  obtain ⟨i1, i2, i3, i4, i5, i6, i7, i8, i9, i10, i11⟩ := h
  unfold rEndL
  split
  · refine ⟨gnWidth_ok i1, fun _ => hc, ?_, i4, i5, i6, ?_, ?_, ?_, i10, i11⟩ <;> (dsimp only [rSt, rAt, rNs, rNt, rWi, rLs, rLl, rFa, rFp, pSt, pAt, pNs, pNt, pWi, pLs, pLl, pFa, pFp, rFail] at *; omega)
  · refine ⟨i1, fun _ => hc, ?_, i4, i5, i6, ?_, ?_, ?_, i10, i11⟩ <;> (dsimp only [rSt, rAt, rNs, rNt, rWi, rLs, rLl, rFa, rFp, pSt, pAt, pNs, pNt, pWi, pLs, pLl, pFa, pFp, rFail] at *; omega)
theorem rInv_O {v : rV} {g : gV} {k : Nat} (h : rInv v g k) : rInv (rOpen v g).2.1 (rOpen v g).2.2 (k + 1) := by
  unfold rOpen
  split
  · exact rInv_fail h (by omega)
  · rename_i hc
    obtain ⟨i1, i2, i3, i4, i5, i6, i7, i8, i9, i10, i11⟩ := h
    have hg := i1
    obtain ⟨⟨k0, k1, k2⟩, k3, k4, k5⟩ := hg
    refine ⟨gnOpen_ok i1, fun _ => ?_, ?_, i4, ?_, ?_, ?_, ?_, ?_, i10, i11⟩
    · unfold gnOpen
      rw [if_pos (by omega)]
      show 0 < gCt g + 1
      omega
    all_goals (dsimp only [rSt, rAt, rNs, rNt, rWi, rLs, rLl, rFa, rFp, pSt, pAt, pNs, pNt, pWi, pLs, pLl, pFa, pFp, rFail] at *; omega)
theorem rInv_N {v : rV} {g : gV} {k : Nat} (h : rInv v g k) (hc : 0 < gCt g) : rInv (rEndN v g).2.1 (rEndN v g).2.2 (k + 1) := by
  obtain ⟨i1, i2, i3, i4, i5, i6, i7, i8, i9, i10, i11⟩ := h
  unfold rEndN
  split
  · refine ⟨i1, fun _ => hc, ?_, i4, i5, i6, ?_, ?_, ?_, i10, i11⟩ <;> (dsimp only [rSt, rAt, rNs, rNt, rWi, rLs, rLl, rFa, rFp, pSt, pAt, pNs, pNt, pWi, pLs, pLl, pFa, pFp, rFail] at *; omega)
  · refine ⟨i1, i2, i3, i4, i5, i6, ?_, ?_, ?_, ?_, ?_⟩ <;> (dsimp only [rSt, rAt, rNs, rNt, rWi, rLs, rLl, rFa, rFp, pSt, pAt, pNs, pNt, pWi, pLs, pLl, pFa, pFp, rFail] at *; omega)
theorem rInv_st2 {v : rV} {g : gV} {k : Nat} (h : rInv v g k) (hc : 0 < gCt g) : rInv (pSt v 2) g k := by
  obtain ⟨i1, i2, i3, i4, i5, i6, i7, i8, i9, i10, i11⟩ := h
  exact ⟨i1, fun _ => hc, by dsimp only [rSt, rAt, rNs, rNt, rWi, rLs, rLl, rFa, rFp, pSt, pAt, pNs, pNt, pWi, pLs, pLl, pFa, pFp, rFail] at *; omega, i4, i5, i6, i7, i8, i9, i10, i11⟩
theorem rInv_name {v : rV} {g : gV} {k : Nat} {x : Int32} (h : rInv v g k) (hc : 0 < gCt g) : rInv (rName v g x).2.1 (rName v g x).2.2 (k + 1) := by
  unfold rName
  split
  · split
    · exact rInv_fail h (by omega)
    · obtain ⟨i1, i2, i3, i4, i5, i6, i7, i8, i9, i10, i11⟩ := h
      refine ⟨⟨nmAdd_ok i1.1, nmAdd_1.trans i1.2.1, i1.2.2.1, i1.2.2.2⟩, fun _ => hc, i3, i4, ?_, i6, ?_, ?_, ?_, i10, i11⟩ <;> (dsimp only [rSt, rAt, rNs, rNt, rWi, rLs, rLl, rFa, rFp, pSt, pAt, pNs, pNt, pWi, pLs, pLl, pFa, pFp, rFail] at *; omega)
  · split
    · exact rInv_fail h (by omega)
    · split
      · exact rInv_N h hc
      · split
        · exact rInv_le (rInv_st2 h hc) (by omega)
        · exact rInv_fail (rInv_st2 h hc) (by omega)
theorem rInv_rem {v : rV} {g : gV} {k : Nat} {x : Int32} (h : rInv v g k) (hc : 0 < gCt g) : rInv (rRem v g x).2.1 (rRem v g x).2.2 (k + 1) := by
  unfold rRem
  split
  · exact rInv_N h hc
  · split
    · exact rInv_fail h (by omega)
    · exact rInv_le h (by omega)
theorem rInv_lett {v : rV} {g : gV} {k : Nat} {x : Int32} (h : rInv v g k) (hc : 0 < gCt g) : rInv (rLett v g x).2.1 (rLett v g x).2.2 (k + 1) := by
  unfold rLett
  split
  · exact rInv_E h hc
  · split
    · exact rInv_fail h (by omega)
    · exact rInv_L h hc
theorem rInv_line {v : rV} {g : gV} {k : Nat} {x : Int32} (h : rInv v g k) : rInv (rLine v g x).2.1 (rLine v g x).2.2 (k + 1) := by
  unfold rLine
  split
  · exact rInv_O h
  · split
    · rename_i q
      exact rInv_L h (h.2.1 q.2)
    · exact rInv_fail h (by omega)
theorem rInv_take {v : rV} {g : gV} {k : Nat} {x : Int32} (h : rInv v g k) : rInv (rTake v g x).2.1 (rTake v g x).2.2 (k + 1) := by
  unfold rTake
  split
  · exact rInv_name h (h.2.1 (by omega))
  · split
    · exact rInv_rem h (h.2.1 (by omega))
    · split
      · exact rInv_lett h (h.2.1 (by omega))
      · exact rInv_line h
theorem rInv_at {v : rV} {g : gV} {k n : Nat} (h : rInv v g k) (hn : n ≤ 8000) : rInv (pAt v n) g k := by
  obtain ⟨i1, i2, i3, i4, i5, i6, i7, i8, i9, i10, i11⟩ := h
  exact ⟨i1, i2, i3, hn, i5, i6, i7, i8, i9, i10, i11⟩
def rRunL (s : tS) : Nat → Nat → rV → gV → Bool × rV × gV
  | 0, _, v, g => if rSt v = 5 then (true, pAt v s.1, g) else (false, rFail (pAt v s.1) 1, g)
  | d + 1, k, v, g => if (rTake (pAt v k) g (ocAt s.1 s.2.1 (nI k))).1 = true then rRunL s d (k + 1) (rTake (pAt v k) g (ocAt s.1 s.2.1 (nI k))).2.1 (rTake (pAt v k) g (ocAt s.1 s.2.1 (nI k))).2.2 else (false, (rTake (pAt v k) g (ocAt s.1 s.2.1 (nI k))).2)
def rNew : rV := (0, 0, 0, 0, 0, 0, 0, 0, 0)
def gnZero (g : gV) : gV := ((0, g.1.2), gLe g, gSt g, gSz g, gWi g, gTp g, 0, 0)
def rRun (s : tS) (g : gV) : Bool × rV × gV := rRunL s (s.1 - 0) 0 rNew (gnZero g)
theorem gnZero_ok {g : gV} (h : gOk g) : gOk (gnZero g) := ⟨⟨Nat.zero_le _, h.1.2.1, h.1.2.2⟩, rfl, Nat.zero_le _, fun s hs => by have hs : s < 0 := hs; omega⟩
theorem oP_rg {tp c : Nat} {f : aH} {a : Nat} {v : rV} {g : gV} {s : tS} (h : oP f tp s) (d1 : tp ≠ a) (d2 : tp + 1 ≠ a) (d3 : tp + 1 < c ∨ c + 8 < tp) : oP (rgS tp c f a v g) tp s := ⟨⟨(rgS_ne d1 (by omega)).trans h.1.1, (rgS_ne d2 (by omega)).trans h.1.2⟩, h.2⟩

set_option maxRecDepth 100000 in
set_option maxHeartbeats 4000000 in
/-- GenomeReader.run -/
theorem sX2_run {E : eN} (hE : eOk E) {f : aH} {t : Nat} {a c tp : Nat} {g : gV} {s : tS} (h : rgP tp c f a rNew g) (hg : gOk g) (ht : oP f tp s) (hd : a < c ∨ c + 8 < a) (d1 : tp ≠ a) (d2 : tp + 1 ≠ a) (d3 : tp + 1 < c ∨ c + 8 < tp) : mT E mX2_run 0 0 [.ref a] f t (fun o f' t' => o = .inl (some (.int (bI (rRun s g).1))) ∧ t' = t ∧ f' = rgS tp c f a (rRun s g).2.1 (rRun s g).2.2) := by
  refine mT_of (n := 1) (lo := [some (.ref a), none]) (by decide) (by exact Nat.le_of_ble_eq_true rfl) rfl rfl ?_
  obtain ⟨h9, h0, h1, h2, h3, h4, h5, h6, h7, h8⟩ := id h
  have ht9 := ht.2
  obtain ⟨⟨u1, u2⟩, u3⟩ := id ht
  have lp : ∀ (d : Nat) (k : Nat) (v : rV) (y : gV), k + d = s.1 → rInv v y k → rRun s g = rRunL s (s.1 - k) k v y → V E mX2_run 0 0 (fun o f' t' => o = .inl (some (.int (bI (rRun s g).1))) ∧ t' = t ∧ f' = rgS tp c f a (rRun s g).2.1 (rRun s g).2.2) 9 [some (.ref a), some (.int (nI k))] [] (rgS tp c f a v y) t 0 0 := by
    intro d
    induction d using Nat.strongRecOn with
    | _ d ih =>
    intro k v y hk hi he
    obtain ⟨z0, z1, z2, z3, z4, z5, z6, z7, z8, z9⟩ := id (rgP_S (f := f) (a := a) (tp := tp) (v := v) (g := y) hd)
    have tt := oP_rg (v := v) (g := y) ht d1 d2 d3
    obtain ⟨⟨t1, t2⟩, t3⟩ := id tt
    have hB := rInv_B hi (by omega)
    have i3 := hi.2.2.1
    have q5 : rSt (pAt v s.1) = rSt v := rfl
    refine v_iload_n dX2_run_9 rfl (by rfl) ?_
    refine v_aload_n dX2_run_10 rfl (by rfl) ?_
    refine v_getf hE dX2_run_11 fX2_9 (by repeat (first | assumption | exact va_up_self _ _ _ | refine (va_up_ne _ _ (by omega)).trans ?_)) (by rfl) ?_
    refine v_getf hE dX2_run_14 fX2_28 (by repeat (first | assumption | exact va_up_self _ _ _ | refine (va_up_ne _ _ (by omega)).trans ?_)) (by rfl) ?_
    refine v_icmp_geN (tgt := 48) dX2_run_17 (by decide) (by omega) (by omega) (fun c17 => ?_) (fun c17 => ?_)
    · refine v_aload_n dX2_run_48 rfl (by rfl) ?_
      refine v_aload_n dX2_run_49 rfl (by rfl) ?_
      refine v_getf hE dX2_run_50 fX2_9 (by repeat (first | assumption | exact va_up_self _ _ _ | refine (va_up_ne _ _ (by omega)).trans ?_)) (by rfl) ?_
      refine v_getf hE dX2_run_53 fX2_28 (by repeat (first | assumption | exact va_up_self _ _ _ | refine (va_up_ne _ _ (by omega)).trans ?_)) (by rfl) ?_
      refine v_putf hE dX2_run_56 fX2_33 (by repeat (first | assumption | exact va_up_self _ _ _ | refine (va_up_ne _ _ (by omega)).trans ?_)) (by exact Nat.le_of_ble_eq_true rfl) (by rfl) (by rfl) (by rfl) ?_
      refine v_hp (show _ = rgS tp c f a (pAt v s.1) y from (rg_v (w := pAt v s.1) hd (rgP_S hd)).trans (rgS_S hd)) ?_
      have x0 := (rgP_S (f := f) (a := a) (tp := tp) (v := pAt v s.1) (g := y) hd).1
      refine v_aload_n dX2_run_59 rfl (by rfl) ?_
      refine v_getf hE dX2_run_60 fX2_19 (by repeat (first | assumption | exact va_up_self _ _ _ | refine (va_up_ne _ _ (by omega)).trans ?_)) (by rfl) ?_
      refine v_iconst (v := nI 5) dX2_run_63 (by decide) ?_
      refine v_icmp_eqN (tgt := 75) dX2_run_64 (by decide) (by omega) (by omega) (fun c64 => ?_) (fun c64 => ?_)
      · refine v_iconst (v := nI 1) dX2_run_75 (by decide) ?_
        refine v_goto (tgt := 80) dX2_run_76 (by decide) ?_
        refine v_iret dX2_run_80 rfl (by rfl) ?_
        have hR : (rRun s g) = _ := he
        first | (rw [show s.1 - k = (s.1 - (k + 1)) + 1 by omega] at hR; have hR2 := hR.trans (if_neg (by rw [c37]; decide)); rw [hR2]; exact ⟨rfl, rfl, rfl⟩) | (rw [show s.1 - k = 0 by omega] at hR; have hR2 := hR.trans (if_pos c64); rw [hR2]; exact ⟨rfl, rfl, rfl⟩) | (rw [show s.1 - k = 0 by omega] at hR; have hR2 := hR.trans (if_neg c64); rw [hR2]; exact ⟨rfl, rfl, rfl⟩)
      · refine v_aload_n dX2_run_67 rfl (by rfl) ?_
        refine v_iconst (v := nI 1) dX2_run_68 (by decide) ?_
        refine w_callV hE dX2_run_69 kX2_43 (by repeat (first | assumption | exact va_up_self _ _ _ | refine (va_up_ne _ _ (by omega)).trans ?_)) (by rfl) (by rfl) (sX2_fail hE (rgP_S hd) hi.1 (rInv_B (rInv_at (n := s.1) hi (by omega)) (by omega)) hd) rfl (by decide) (by decide) (by exact Nat.le_of_ble_eq_true rfl) (by omega) (by omega) (fun v9 g9 u9 h9 => ?_) (fun _ _ _ h => by cases h.1)
        obtain ⟨hv9, hu9, hg9⟩ := h9
        replace hu9 := hu9.symm
        replace hg9 := hg9.symm
        subst hu9
        subst hg9
        cases hv9
        refine v_hp (rgS_S hd) ?_
        refine v_if_eqB (tgt := 79) dX2_run_72 (by decide) (fun c72 => ?_) (fun c72 => ?_)
        · refine v_iconst (v := nI 0) dX2_run_79 (by decide) ?_
          refine v_iret dX2_run_80 rfl (by rfl) ?_
          have hR : (rRun s g) = _ := he
          first | (rw [show s.1 - k = (s.1 - (k + 1)) + 1 by omega] at hR; have hR2 := hR.trans (if_neg (by rw [c37]; decide)); rw [hR2]; exact ⟨rfl, rfl, rfl⟩) | (rw [show s.1 - k = 0 by omega] at hR; have hR2 := hR.trans (if_pos c64); rw [hR2]; exact ⟨rfl, rfl, rfl⟩) | (rw [show s.1 - k = 0 by omega] at hR; have hR2 := hR.trans (if_neg c64); rw [hR2]; exact ⟨rfl, rfl, rfl⟩)
        · exact absurd c72 (by decide)
    · refine v_aload_n dX2_run_20 rfl (by rfl) ?_
      refine v_iload_n dX2_run_21 rfl (by rfl) ?_
      refine v_putf hE dX2_run_22 fX2_33 (by repeat (first | assumption | exact va_up_self _ _ _ | refine (va_up_ne _ _ (by omega)).trans ?_)) (by exact Nat.le_of_ble_eq_true rfl) (by rfl) (by rfl) (by rfl) ?_
      refine v_hp (show _ = rgS tp c f a (pAt v k) y from (rg_v (w := pAt v k) hd (rgP_S hd)).trans (rgS_S hd)) ?_
      have x0 := (rgP_S (f := f) (a := a) (tp := tp) (v := pAt v k) (g := y) hd).1
      refine v_aload_n dX2_run_25 rfl (by rfl) ?_
      refine v_aload_n dX2_run_26 rfl (by rfl) ?_
      refine v_getf hE dX2_run_27 fX2_9 (by repeat (first | assumption | exact va_up_self _ _ _ | refine (va_up_ne _ _ (by omega)).trans ?_)) (by rfl) ?_
      refine v_iload_n dX2_run_30 rfl (by rfl) ?_
      refine w_callV hE dX2_run_31 kX2_36 (by repeat (first | assumption | exact va_up_self _ _ _ | refine (va_up_ne _ _ (by omega)).trans ?_)) (by rfl) (by rfl) (sX6_at hE (oP_rg (v := pAt v k) (g := y) ht d1 d2 d3).1 ht.2) rfl (by decide) (by decide) (by exact Nat.le_of_ble_eq_true rfl) (by omega) (by omega) (fun v9 g9 u9 h9 => ?_) (fun _ _ _ h => by cases h.1)
      obtain ⟨hv9, hu9, hg9⟩ := h9
      replace hu9 := hu9.symm
      replace hg9 := hg9.symm
      subst hu9
      subst hg9
      cases hv9
      refine w_callV hE dX2_run_34 kX2_39 (by repeat (first | assumption | exact va_up_self _ _ _ | refine (va_up_ne _ _ (by omega)).trans ?_)) (by rfl) (by rfl) (sX2_take hE (rgP_S hd) hi.1 (rInv_B (rInv_at (n := k) hi (by omega)) (by omega)) hd hi.2.1) rfl (by decide) (by decide) (by exact Nat.le_of_ble_eq_true rfl) (by omega) (by omega) (fun v9 g9 u9 h9 => ?_) (fun _ _ _ h => by cases h.1)
      obtain ⟨hv9, hu9, hg9⟩ := h9
      replace hu9 := hu9.symm
      replace hg9 := hg9.symm
      subst hu9
      subst hg9
      cases hv9
      refine v_hp (rgS_S hd) ?_
      refine v_if_neB (tgt := 42) dX2_run_37 (by decide) (fun c37 => ?_) (fun c37 => ?_)
      · refine v_iincN (y := 1) dX2_run_42 (by rfl) (by decide) (by decide) ?_
        refine v_goto (tgt := 9) dX2_run_45 (by decide) ?_
        exact ih (d - 1) (by omega) (k + 1) _ _ (by omega) (rInv_take (rInv_at hi (by omega))) (he.trans (by rw [show s.1 - k = (s.1 - (k + 1)) + 1 by omega]; exact if_pos c37))
      · refine v_iconst (v := nI 0) dX2_run_40 (by decide) ?_
        refine v_iret dX2_run_41 rfl (by rfl) ?_
        have hR : (rRun s g) = _ := he
        first | (rw [show s.1 - k = (s.1 - (k + 1)) + 1 by omega] at hR; have hR2 := hR.trans (if_neg (by rw [c37]; decide)); rw [hR2]; exact ⟨rfl, rfl, rfl⟩) | (rw [show s.1 - k = 0 by omega] at hR; have hR2 := hR.trans (if_pos c64); rw [hR2]; exact ⟨rfl, rfl, rfl⟩) | (rw [show s.1 - k = 0 by omega] at hR; have hR2 := hR.trans (if_neg c64); rw [hR2]; exact ⟨rfl, rfl, rfl⟩)
  refine v_aload_n dX2_run_0 rfl (by rfl) ?_
  refine v_getf hE dX2_run_1 fX2_15 (by repeat (first | assumption | exact va_up_self _ _ _ | refine (va_up_ne _ _ (by omega)).trans ?_)) (by rfl) ?_
  refine w_callV hE dX2_run_4 kX2_23 (by repeat (first | assumption | exact va_up_self _ _ _ | refine (va_up_ne _ _ (by omega)).trans ?_)) (by rfl) (by rfl) (sX1_clear hE h.2 hg) rfl (by decide) (by decide) (by exact Nat.le_of_ble_eq_true rfl) (by omega) (by omega) (fun v9 g9 u9 h9 => ?_) (fun _ _ _ h => by cases h.1)
  obtain ⟨hv9, hu9, hg9⟩ := h9
  replace hu9 := hu9.symm
  replace hg9 := hg9.symm
  subst hu9
  subst hg9
  cases hv9
  refine v_hp (rg_g (k := gnZero g) hd h) ?_
  refine v_iconst (v := nI 0) dX2_run_7 (by decide) ?_
  refine v_istore_n dX2_run_8 rfl (by decide) ?_
  exact lp s.1 0 rNew (gnZero g) (by omega) ⟨gnZero_ok hg, fun q => absurd rfl q, by decide, by decide, by decide, by decide, by decide, by decide, by decide, by decide, by decide⟩ rfl

set_option maxRecDepth 100000 in
set_option maxHeartbeats 4000000 in
/-- GenomeReader() -/
theorem sX2_init {E : eN} (hE : eOk E) {f : aH} {t : Nat} {a c tp : Nat} (h : f a = .inr (2, [.null, .null, .int 0, .int 0, .int 0, .int 0, .int 0, .int 0, .int 0, .int 0, .int 0])) : mT E mX2_init 0 0 [.ref a, .ref tp, .ref c] f t (fun o f' t' => o = .inl none ∧ t' = t ∧ f' = va_up f a (rC tp c rNew)) := by
  refine mT_of (n := 0) (lo := [some (.ref a), some (.ref tp), some (.ref c)]) (by decide) (by exact Nat.le_of_ble_eq_true rfl) rfl rfl ?_
  refine v_aload_n dX2_init_0 rfl (by rfl) ?_
  refine v_oinit hE dX2_init_1 oX2_3 (by decide) (by exact Nat.le_of_ble_eq_true rfl) ?_
  refine v_aload_n dX2_init_4 rfl (by rfl) ?_
  refine v_aload_n dX2_init_5 rfl (by rfl) ?_
  refine v_putF hE dX2_init_6 fX2_9 (by rfl) (by rfl) (by repeat (first | assumption | exact va_up_self _ _ _ | refine (va_up_ne _ _ (by omega)).trans ?_)) (by exact Nat.le_of_ble_eq_true rfl) (by rfl) (by rfl) (by rfl) ?_
  refine v_aload_n dX2_init_9 rfl (by rfl) ?_
  refine v_aload_n dX2_init_10 rfl (by rfl) ?_
  refine v_putF hE dX2_init_11 fX2_15 (by rfl) (by rfl) (by repeat (first | assumption | exact va_up_self _ _ _ | refine (va_up_ne _ _ (by omega)).trans ?_)) (by exact Nat.le_of_ble_eq_true rfl) (by rfl) (by rfl) (by rfl) ?_
  refine v_aload_n dX2_init_14 rfl (by rfl) ?_
  refine v_iconst (v := nI 0) dX2_init_15 (by decide) ?_
  refine v_putf hE dX2_init_16 fX2_19 (by repeat (first | assumption | exact va_up_self _ _ _ | refine (va_up_ne _ _ (by omega)).trans ?_)) (by exact Nat.le_of_ble_eq_true rfl) (by rfl) (by rfl) (by rfl) ?_
  refine v_ret dX2_init_19 rfl ?_
  refine ⟨rfl, rfl, ?_⟩
  rw [bx_uu, bx_uu]
  rfl
