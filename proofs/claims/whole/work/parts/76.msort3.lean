/-- only tables have changed -/
theorem mRel_z {x : dV} {y y' : mV} {Z : Nat → sV} {W : Nat → eV} (h : mRel x y) (h1 : ∀ k, k < 16 ∨ 31 < k → y'.1 k = y.1 k) (h2 : ∀ j, 0 < j → j < 52 → y'.2 j = y.2 j) (h3 : aNw y'.1) (h4 : ∀ i, i < 2 → mTb y' i (Z i) W) (h5 : dLv (xW (xZ x Z) W)) : mRel (xW (xZ x Z) W) y' := by
  obtain ⟨a1, ⟨b1, b2, b3⟩, ⟨c1, c2, c3⟩, a4, ⟨d1, d2, d3⟩, ⟨e1, e2, e3, f1, f2, f3, f4, f5, f6, f7⟩, a7, a8⟩ := h
  refine ⟨h3, ⟨(h2 2 (by decide) (by decide)).trans b1, b2, fun k hk => ?_⟩, ⟨(h2 4 (by decide) (by decide)).trans c1, fun s hs => ?_, fun k hk => ?_⟩, h4, ⟨(h2 37 (by decide) (by decide)).trans d1, d2, fun k hk => ?_⟩, ⟨e1, e2, e3, (h2 38 (by decide) (by decide)).trans f1, (h2 39 (by decide) (by decide)).trans f2, f3, (h2 40 (by decide) (by decide)).trans f4, f5, fun q => ?_, fun q => ?_⟩, (h2 3 (by decide) (by decide)).trans a7, h5⟩
  · rw [h1 1 (by omega)]; exact b3 k hk
  · rw [h1 3 (by omega), h1 2 (by omega), h1 5 (by omega), h1 6 (by omega), h1 7 (by omega), h1 8 (by omega)]; exact c2 s hs
  · rw [h1 4 (by omega)]; exact c3 k hk
  · rw [h1 32 (by omega)]; exact d3 k hk
  · rw [h1 33 (by omega)]; exact f6 q
  · rw [h1 34 (by omega)]; exact f7 q
theorem dLv_z {x : dV} {Z : Nat → sV} {W : Nat → eV} (h1 : gLv (dG x 0)) (h2 : ∀ i, i < 2 → (∀ s k, s < (Z i).2.1.1 → k < (Z i).2.1.2.2 s → ∃ c, c < 128 ∧ (Z i).2.1.2.1 (s * 20 + k) = nI c) ∧ ∀ k, k < (Z i).2.2 → eLv (W ((Z i).1 k))) : dLv (xW (xZ x Z) W) := ⟨h1, h2⟩
theorem cntN_c {p q : Nat → Bool} : ∀ (d k c : Nat), (∀ l, k ≤ l → l < k + d → p l = q l) → cntN p d k c = cntN q d k c := by
  intro d
  induction d with
  | zero => intro k c _; rfl
  | succ d ih =>
    intro k c h
    unfold cntN
    rw [h k (by omega) (by omega)]
    exact ih _ _ (fun l h1 h2 => h l (by omega) (by omega))
theorem cnt_rk {W : Nat → eV} {e0 : Nat → Nat} {n : Nat} {X : (Nat → eV) × (Nat → Nat)} (h : pioI W e0 n X) (hn : n ≤ 60) : cntN (pioP X) (n - 0) 0 0 = cntN (rkN (fun k => W (e0 k)) n) (n - 0) 0 0 := by
  obtain ⟨h1, h2, h3, h4, h5⟩ := h
  refine cntN_c _ _ _ (fun k _ hk => ?_)
  have hk : k < n := by omega
  obtain ⟨j, j1, j2⟩ := h3 k hk
  have e : X.2 k = e0 j := by rw [← j2]; exact h2 j j1
  unfold pioP rkN
  rw [e, h5 j j1]
  by_cases q : j = k
  · subst q
    rw [decide_eq_false (show ¬ ¬ nI j = nI j from fun z => z rfl), decide_eq_false (show ¬ ¬ rk (fun k => W (e0 k)) n j = j from fun z => z j2)]
  · rw [decide_eq_true (show ¬ nI j = nI k from nI_n q (by omega) (by omega)), decide_eq_true (show ¬ rk (fun k => W (e0 k)) n k = k from fun z => q (rk_inj j1 hk (j2.trans z.symm)))]
set_option maxRecDepth 100000 in
set_option maxHeartbeats 600000 in
/-- model: sort -/
theorem sX10_sort {E : eN} (hE : eOk E) {f : aH} {t : Nat} {M D : Nat} {y : mV} {x : dV} {q : Int32} (hR : mRel x y) (hI : dOk D x) : mT E mX10_sort 0 0 [.ref M, .int q] (mdS f M y) t (fun o f' t' => o = .inl (some (.int ((pSor x q).1.getD (nI 0)))) ∧ t' = t ∧ mAns M f (pSor x q) f') := by
  refine mT_of (n := 2) (lo := [some (.ref M), some (.int q), none, none]) (by decide) (by exact Nat.le_of_ble_eq_true rfl) rfl rfl ?_
  have lp : ∀ i : Nat, ix 2 (nI i) = some i → i < 2 → ∀ z : mV, mFr (tB 2) (y.1, va_up y.2 0 (bI (! true))) z → (∀ j, j < (dZ x i).2.2 → mE z (60 * 2 + rk (fun k => dW x ((dZ x i).1 k)) (dZ x i).2.2 j) (dW x ((dZ x i).1 j)) (dZ x i).2.1.1) → ∀ (d k : Nat) (v : mV), k + d = (dZ x i).2.2 → mFr (tB i) (va_up z.1 16 (upd (y.1 16) 2 (nI (dZ x i).2.2)), z.2) v → (∀ j, j < (dZ x i).2.2 → rk (fun k => dW x ((dZ x i).1 k)) (dZ x i).2.2 j < k → mE v (60 * i + rk (fun k => dW x ((dZ x i).1 k)) (dZ x i).2.2 j) (dW x ((dZ x i).1 j)) (dZ x i).2.1.1) → V E mX10_sort 0 0 (fun o f' t' => o = .inl (some (.int ((pSor x (nI i)).1.getD (nI 0)))) ∧ t' = t ∧ mAns M f (pSor x (nI i)) f') 24 [some (.ref M), some (.int (nI i)), some (.int (nI (cntN (rkN (fun k => dW x ((dZ x i).1 k)) (dZ x i).2.2) ((dZ x i).2.2 - 0) 0 0))), some (.int (nI k))] [] (mdS f M v) t 0 0 := by
    intro i hi0 i2 z hz hz9 d
    have hzo := hI.2.2.1 i (by omega)
    have hz8 := hzo.2
    have hn3 := hzo.1.1
    have hwo : ∀ j, j < (dZ x i).2.2 → enOk (dW x ((dZ x i).1 j)) := fun j hj => hI.2.2.2.1 _ (dre_X hI (show i < 3 by omega) j (by omega))
    have hpi := pioI_n (W := dW x) (e0 := (dZ x i).1) (n := (dZ x i).2.2) (fun a b h1 h2 e => Classical.byContradiction (fun q => dre_i hI (show i < 3 by omega) a b (by omega) (by omega) q e))
    have hT1 := (hR.2.2.2.1 i i2).1
    induction d using Nat.strongRecOn with
    | _ d ih =>
    intro k v hd hv hv9
    have hMv : v.1 16 i = nI (dZ x i).2.2 := by
      rw [hv.2.1 16 (by omega)]
      show va_up z.1 16 (upd (y.1 16) 2 (nI (dZ x i).2.2)) 16 i = _
      rw [va_up_self, updN (by omega)]
      exact hT1
    refine v_iload_n dX10_sort_24 rfl (by rfl) ?_
    refine v_aload_n dX10_sort_25 rfl (by rfl) ?_
    refine v_getf hE dX10_sort_26 fX10_60 mdS_M (by rfl) ?_
    refine v_iload_n dX10_sort_29 rfl (by rfl) ?_
    refine m_iald hE (k := 16) dX10_sort_30 (by decide) (by decide) rfl (show _ < 4 by omega) (by omega) ?_
    refine v_eqi (y := nI (dZ x i).2.2) hMv ?_
    refine v_icmp_geN (tgt := 54) dX10_sort_31 (by decide) (by omega) (by omega) (fun c31 => ?_) (fun c31 => ?_)
    · refine v_iload_n dX10_sort_54 rfl (by rfl) ?_
      refine v_iret dX10_sort_55 rfl (by first | rfl | exact nar_bI) ?_
      have hR2 : pSor x (nI i) = (some (nI (cntN (pioP (pioL ((dZ x i).2.2 - 0) 0 (dW x, (dZ x i).1))) ((dZ x i).2.2 - 0) 0 0)), xW (xZ x (va_up (dZ x) i ((pioL ((dZ x i).2.2 - 0) 0 (dW x, (dZ x i).1)).2, (dZ x i).2))) (pioL ((dZ x i).2.2 - 0) 0 (dW x, (dZ x i).1)).1) := by
        unfold pSor
        rw [hi0]
      rw [hR2, cnt_rk hpi hz8]
      refine ⟨rfl, rfl, v, rfl, ?_, ?_⟩
      · refine mRel_z hR (fun k hk => ?_) (fun j h0 h52 => ?_) hv.2.2.1 (fun i' hi' => ?_) ?_
        · rw [hv.2.1 k (by omega)]
          show va_up z.1 16 (upd (y.1 16) 2 (nI (dZ x i).2.2)) k = y.1 k
          rw [va_up_ne _ _ (by omega), hz.2.1 k (by omega)]
        · rw [hv.1]
          show z.2 j = y.2 j
          rw [hz.1]
          exact va_up_ne _ _ (by omega)
        · have hv16 : v.1 16 = upd (y.1 16) 2 (nI (dZ x i).2.2) := by
            rw [hv.2.1 16 (by omega)]
            show va_up z.1 16 (upd (y.1 16) 2 (nI (dZ x i).2.2)) 16 = _
            exact va_up_self _ _ _
          have hvk : ∀ k, 16 < k → k < 20 → v.1 k = y.1 k := fun k k1 k2 => by
            rw [hv.2.1 k (by omega)]
            show va_up z.1 16 (upd (y.1 16) 2 (nI (dZ x i).2.2)) k = y.1 k
            rw [va_up_ne _ _ (by omega), hz.2.1 k (by omega)]
          obtain ⟨t1, t2, t3, t4⟩ := hR.2.2.2.1 i' hi'
          by_cases e : i' = i
          · have e' := e.symm
            subst e'
            rw [va_up_self]
            refine ⟨by rw [hv16, updN (by omega)]; exact t1, by rw [hvk 17 (by omega) (by omega)]; exact t2, fun s hs => by rw [hvk 19 (by omega) (by omega), hvk 18 (by omega) (by omega)]; exact t3 s hs, fun p hp => ?_⟩
            have hp : p < (dZ x i).2.2 := hp
            obtain ⟨j, j1, j2⟩ := hpi.2.2.1 p hp
            have q1 : (pioL ((dZ x i).2.2 - 0) 0 (dW x, (dZ x i).1)).2 p = (dZ x i).1 j := by rw [← j2]; exact hpi.2.1 j j1
            have q2 := hv9 j j1 (by rw [j2]; omega)
            rw [j2] at q2
            show mE v _ ((pioL ((dZ x i).2.2 - 0) 0 (dW x, (dZ x i).1)).1 ((pioL ((dZ x i).2.2 - 0) 0 (dW x, (dZ x i).1)).2 p)) _
            rw [q1, hpi.1]
            exact q2
          · rw [va_up_ne _ _ e]
            refine ⟨by rw [hv16, updN (by omega)]; exact t1, by rw [hvk 17 (by omega) (by omega)]; exact t2, fun s hs => by rw [hvk 19 (by omega) (by omega), hvk 18 (by omega) (by omega)]; exact t3 s hs, fun p hp => ?_⟩
            have hz' := (hI.2.2.1 i' (by omega)).2
            have hw' := hI.2.2.2.1 _ (dre_X hI (show i' < 3 by omega) p (by omega))
            have hn' := (hI.2.2.1 i' (by omega)).1.1
            rw [hpi.1]
            exact hv.2.2.2 _ _ _ (fun z => by have := z.1; have := z.2; omega) (hz.2.2.2 _ _ _ (fun z => by have := z.1; have := z.2; omega) (t4 p hp) hw' hn') hw' hn'
        · obtain ⟨l1, l2⟩ := hR.2.2.2.2.2.2.2
          refine dLv_z l1 (fun i' hi' => ?_)
          by_cases e : i' = i
          · have e' := e.symm
            subst e'
            rw [va_up_self]
            refine ⟨(l2 i hi').1, fun p hp => ?_⟩
            have hp : p < (dZ x i).2.2 := hp
            obtain ⟨j, j1, j2⟩ := hpi.2.2.1 p hp
            have q1 : (pioL ((dZ x i).2.2 - 0) 0 (dW x, (dZ x i).1)).2 p = (dZ x i).1 j := by rw [← j2]; exact hpi.2.1 j j1
            show eLv ((pioL ((dZ x i).2.2 - 0) 0 (dW x, (dZ x i).1)).1 ((pioL ((dZ x i).2.2 - 0) 0 (dW x, (dZ x i).1)).2 p))
            rw [q1, hpi.1]
            exact (l2 i hi').2 j j1
          · rw [va_up_ne _ _ e]
            refine ⟨(l2 i' hi').1, fun p hp => ?_⟩
            rw [hpi.1]
            exact (l2 i' hi').2 p hp
      · rw [hv.1]
        show z.2 0 = _
        rw [hz.1]
        rfl
    · obtain ⟨j, j1, j2⟩ := hpi.2.2.1 k (by omega)
      refine v_aload_n dX10_sort_34 rfl (by rfl) ?_
      refine v_bipush (v := nI 60) dX10_sort_35 (by decide) ?_
      refine v_iload_n dX10_sort_37 rfl (by rfl) ?_
      refine v_imulN dX10_sort_38 ?_
      refine v_iload_n dX10_sort_39 rfl (by rfl) ?_
      refine v_iaddN dX10_sort_40 ?_
      refine v_bipush (v := nI 120) dX10_sort_41 (by decide) ?_
      refine v_iload_n dX10_sort_43 rfl (by rfl) ?_
      refine v_iaddN dX10_sort_44 ?_
      refine w_callV hE dX10_sort_45 kX10_197 mdS_M (by rfl) (by rfl) (sX10_copy hE hv.2.2.1 (by omega) (by omega) (by omega)) rfl (by decide) (by decide) (by exact Nat.le_of_ble_eq_true rfl) (by omega) (by omega) (fun v9 g9 u9 h9 => ?_) (fun _ _ _ h => by cases h.1)
      obtain ⟨hv9, hu9, hg9⟩ := h9
      replace hu9 := hu9.symm
      subst hu9
      subst hg9
      cases hv9
      refine v_iincN (y := 1) dX10_sort_48 (by rfl) (by decide) (by decide) ?_
      refine v_goto (tgt := 24) dX10_sort_51 (by decide) ?_
      have hsrc : mE v (120 + k) (dW x ((dZ x i).1 j)) (dZ x i).2.1.1 := by
        have := hv.2.2.2 (60 * 2 + rk (fun k => dW x ((dZ x i).1 k)) (dZ x i).2.2 j) _ _ (fun z => by have := z.1; have := z.2; omega) (hz9 j j1) (hwo j j1) hn3
        rw [j2] at this
        exact this
      exact ih (d - 1) (by omega) (k + 1) _ (by omega) (mFr_c hv ⟨by omega, by omega⟩) (fun j' hj' hr' => by
        by_cases e : rk (fun k => dW x ((dZ x i).1 k)) (dZ x i).2.2 j' = k
        · have e2 : j' = j := rk_inj (w := (fun k => dW x ((dZ x i).1 k))) (n := (dZ x i).2.2) hj' j1 (e.trans j2.symm)
          subst e2
          rw [e]
          exact mCopy_a hsrc (hwo j' hj') hn3
        · exact mCopy_o (hv9 j' hj' (by omega)) (hwo j' hj') hn3 (by omega))
  refine v_aload_n dX10_sort_0 rfl (by rfl) ?_
  refine v_iload_n dX10_sort_1 rfl (by rfl) ?_
  refine v_iconst (v := nI 0) dX10_sort_2 (by decide) ?_
  refine v_iconst (v := nI 1) dX10_sort_3 (by decide) ?_
  refine w_callS hE dX10_sort_4 kX10_136 (by rfl) (sX10_in hE) rfl (by decide) (by decide) (by exact Nat.le_of_ble_eq_true rfl) (by omega) (by omega) (fun v9 g9 u9 h9 => ?_) (fun _ _ _ h => by cases h.1)
  obtain ⟨hv9, hu9, hg9⟩ := h9
  replace hu9 := hu9.symm
  replace hg9 := hg9.symm
  subst hu9
  subst hg9
  cases hv9
  rw [in_ix1 (n := 1) (by omega)]
  refine w_callV hE dX10_sort_7 kX10_143 mdS_M (by rfl) (by rfl) (sX10_goes hE) rfl (by decide) (by decide) (by exact Nat.le_of_ble_eq_true rfl) (by omega) (by omega) (fun v9 g9 u9 h9 => ?_) (fun _ _ _ h => by cases h.1)
  obtain ⟨hv9, hu9, hg9⟩ := h9
  replace hu9 := hu9.symm
  subst hu9
  subst hg9
  cases hv9
  refine v_if_neB (tgt := 15) dX10_sort_10 (by decide) (fun c10 => ?_) (fun c10 => ?_)
  · obtain ⟨i, hi0⟩ := Option.isSome_iff_exists.mp c10
    obtain ⟨i2, i3⟩ := ix_r hi0 (by omega)
    subst i3
    have hTb := hR.2.2.2.1 i i2
    have hzo := hI.2.2.1 i (by omega)
    have hz8 := hzo.2
    have hn3 := hzo.1.1
    have hwo : ∀ j, j < (dZ x i).2.2 → enOk (dW x ((dZ x i).1 j)) := fun j hj => hI.2.2.2.1 _ (dre_X hI (show i < 3 by omega) j (by omega))
    rw [c10]
    refine v_aload_n dX10_sort_15 rfl (by rfl) ?_
    refine v_iconst (v := nI 2) dX10_sort_16 (by decide) ?_
    refine v_iload_n dX10_sort_17 rfl (by rfl) ?_
    refine w_callV hE dX10_sort_18 kX10_350 mdS_M (by rfl) (by rfl) (sX10_sortInto hE (y := (y.1, va_up y.2 0 (bI (! true)))) (w := (fun k => dW x ((dZ x i).1 k))) (m := (dZ x i).2.1.1) hR.1 hTb.1 hz8 (by omega) hTb.2.2.2 hwo hn3 (by omega) (by omega)) rfl (by decide) (by decide) (by exact Nat.le_of_ble_eq_true rfl) (by omega) (by omega) (fun v9 g9 u9 h9 => ?_) (fun _ _ _ h => by cases h.1)
    obtain ⟨hv9, hu9, z, hg9, hz, hz9⟩ := h9
    replace hu9 := hu9.symm
    subst hu9
    subst hg9
    cases hv9
    refine v_istore_n dX10_sort_21 rfl (by decide) ?_
    refine v_iconst (v := nI 0) dX10_sort_22 (by decide) ?_
    refine v_istore_n dX10_sort_23 rfl (by decide) ?_
    exact lp i hi0 i2 z hz hz9 (dZ x i).2.2 0 _ (by omega) (mFr_0 (aNw_i hz.2.2.1 rfl)) (fun j _ h => absurd h (Nat.not_lt_zero _))
  · refine v_iconst (v := nI 0) dX10_sort_13 (by decide) ?_
    refine v_iret dX10_sort_14 rfl (by first | rfl | exact nar_bI) ?_
    have hA : pSor x q = (none, x) := by
      unfold pSor
      split
      · rfl
      · rename_i i hi
        exfalso
        rw [show ix 2 q = some i from hi] at c10
        exact Bool.noConfusion c10
    rw [hA, c10]
    exact ⟨rfl, rfl, _, rfl, mRel_0 hR, rfl⟩
