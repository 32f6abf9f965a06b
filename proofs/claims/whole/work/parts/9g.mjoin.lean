theorem mRel_z2 {x : dV} {y y' : mV} {Z : Nat → sV} {W : Nat → eV} (h : mRel x y) (h1 : ∀ k, k < 16 ∨ (31 < k ∧ k < 35) → y'.1 k = y.1 k) (h2 : ∀ j, 0 < j → j < 51 → y'.2 j = y.2 j) (h3 : aNw y'.1) (h4 : ∀ i, i < 2 → mTb y' i (Z i) W) (h5 : dLv (xW (xZ x Z) W)) : mRel (xW (xZ x Z) W) y' := by
  obtain ⟨a1, ⟨b1, b2, b3⟩, ⟨c1, c2, c3⟩, a4, ⟨d1, d2, d3⟩, ⟨e1, e2, e3, f1, f2, f3, f4, f5, f6, f7⟩, a7, a8⟩ := h
  refine ⟨h3, ⟨(h2 2 (by decide) (by decide)).trans b1, b2, fun k hk => ?_⟩, ⟨(h2 4 (by decide) (by decide)).trans c1, fun s hs => ?_, fun k hk => ?_⟩, h4, ⟨(h2 37 (by decide) (by decide)).trans d1, d2, fun k hk => ?_⟩, ⟨e1, e2, e3, (h2 38 (by decide) (by decide)).trans f1, (h2 39 (by decide) (by decide)).trans f2, f3, (h2 40 (by decide) (by decide)).trans f4, f5, fun q => ?_, fun q => ?_⟩, (h2 3 (by decide) (by decide)).trans a7, h5⟩
  · rw [h1 1 (by omega)]; exact b3 k hk
  · rw [h1 3 (by omega), h1 2 (by omega), h1 5 (by omega), h1 6 (by omega), h1 7 (by omega), h1 8 (by omega)]; exact c2 s hs
  · rw [h1 4 (by omega)]; exact c3 k hk
  · rw [h1 32 (by omega)]; exact d3 k hk
  · rw [h1 33 (by omega)]; exact f6 q
  · rw [h1 34 (by omega)]; exact f7 q
/-- records below 120 are as they were -/
def jF (y v : mV) : Prop := v.2 = y.2 ∧ (∀ k, k < 20 ∨ (31 < k ∧ k ≠ 35) → v.1 k = y.1 k) ∧ aNw v.1 ∧ ∀ r w n, r < 120 → mE y r w n → enOk w → n ≤ 3 → mE v r w n
theorem jF_0 {y : mV} (h : aNw y.1) : jF y y := ⟨rfl, fun _ _ => rfl, h, fun _ _ _ _ h _ _ => h⟩
theorem jF_t {y v z : mV} (h : jF y v) (h2 : tjF v z) : jF y z := ⟨h2.1.trans h.1, fun k hk => (h2.2.1 k hk).trans (h.2.1 k hk), h2.2.2.1, fun r w n hr hw ho hn => h2.2.2.2 r w n (by omega) (h.2.2.2 r w n hr hw ho hn) ho hn⟩
theorem jF_c {y v : mV} {a b : Nat} (h : jF y v) (ha : 120 ≤ a) : jF y (mCopy v a b) := by
  have hf := mFr_c (B := fun r => 120 ≤ r) (a := a) (b := b) (mFr_0 h.2.2.1) ha
  exact ⟨hf.1.trans h.1, fun k hk => (hf.2.1 k (by omega)).trans (h.2.1 k hk), hf.2.2.1, fun r w n hr hw ho hn => mCopy_o (h.2.2.2 r w n hr hw ho hn) ho hn (by omega)⟩
theorem jaS_yes {X : Nat → Prop} {W0 : Nat → eV} {u : Nat → Nat} {G : gV} {m D i : Nat} {x : jaV} (hX : ∀ k, k < 60 → X (u k) ∧ u k ≠ D + 1301 + 1 ∧ u k ≠ D + 1301 + 8) (hi : i < 60) (h : jaI X W0 u G m D i x) (c : (jFit (x.1 (x.2.1 x.2.2.2)) (W0 (u i)) && (jAl (eRch (eCopy (x.1 (D + 1301 + 1)) (x.1 (x.2.1 x.2.2.2))) (W0 (u i))) (eRch (eCopy (x.1 (D + 1301 + 8)) (W0 (u i))) (x.1 (x.2.1 x.2.2.2))) x.2.2.1).1) = true) : (jaS m (D + 1301) i x).2.2.2 = x.2.2.2 ∧ (jaS m (D + 1301) i x).1 ((jaS m (D + 1301) i x).2.1 x.2.2.2) = eCopy (x.1 (x.2.1 x.2.2.2)) (jCaS (eRch (eCopy (x.1 (D + 1301 + 8)) (W0 (u i))) (x.1 (x.2.1 x.2.2.2))) (jAl (eRch (eCopy (x.1 (D + 1301 + 1)) (x.1 (x.2.1 x.2.2.2))) (W0 (u i))) (eRch (eCopy (x.1 (D + 1301 + 8)) (W0 (u i))) (x.1 (x.2.1 x.2.2.2))) x.2.2.1).2.2 (m - 0) 0 (jAl (eRch (eCopy (x.1 (D + 1301 + 1)) (x.1 (x.2.1 x.2.2.2))) (W0 (u i))) (eRch (eCopy (x.1 (D + 1301 + 8)) (W0 (u i))) (x.1 (x.2.1 x.2.2.2))) x.2.2.1).2.1) ∧ ∀ k, k < x.2.2.2 → (jaS m (D + 1301) i x).1 ((jaS m (D + 1301) i x).2.1 k) = x.1 (x.2.1 k) := by
  obtain ⟨a1, a2, a3, a4, a5, a6, a7⟩ := h
  obtain ⟨l, l1, l2⟩ := a3 x.2.2.2 (by omega)
  have hxl := hX l l1
  rw [← l2] at hxl
  have hei := (a6 i (Nat.le_refl _) hi).1
  have hwi := (a6 i (Nat.le_refl _) hi).2
  obtain ⟨j1, j2, j3, j4⟩ := jJ_f (W := x.1) (x := x.2.1 x.2.2.2) (y := x.2.1 i) (j := D + 1301) (m := m) (g := x.2.2.1) hxl.2.1 hxl.2.2
  have hwi2 : x.1 (x.2.1 i) = W0 (u i) := by rw [hei]; exact hwi
  have c' : (jJoin x.1 (x.2.1 x.2.2.2) (x.2.1 i) (D + 1301) m x.2.2.1).1 = true := by
    rw [j2]
    unfold jFst jSnd
    rw [hwi2]
    exact c
  have e : jaS m (D + 1301) i x = ((jJoin x.1 (x.2.1 x.2.2.2) (x.2.1 i) (D + 1301) m x.2.2.1).2.1, x.2.1, (jJoin x.1 (x.2.1 x.2.2.2) (x.2.1 i) (D + 1301) m x.2.2.1).2.2, x.2.2.2) := if_pos c'
  rw [e]
  refine ⟨rfl, ?_, fun k hk => ?_⟩
  · have q := j3 c'
    unfold jFst jSnd at q
    rw [hwi2] at q
    exact q
  · obtain ⟨l', l1', l2'⟩ := a3 k (by omega)
    have hxk := hX l' l1'
    rw [← l2'] at hxk
    exact j1 (x.2.1 k) (a4 k x.2.2.2 (by omega) (by omega) (by omega)) hxk.2.1 hxk.2.2
theorem jaS_no {X : Nat → Prop} {W0 : Nat → eV} {u : Nat → Nat} {G : gV} {m D i : Nat} {x : jaV} (hX : ∀ k, k < 60 → X (u k) ∧ u k ≠ D + 1301 + 1 ∧ u k ≠ D + 1301 + 8) (hi : i < 60) (h : jaI X W0 u G m D i x) (c : (jFit (x.1 (x.2.1 x.2.2.2)) (W0 (u i)) && (jAl (eRch (eCopy (x.1 (D + 1301 + 1)) (x.1 (x.2.1 x.2.2.2))) (W0 (u i))) (eRch (eCopy (x.1 (D + 1301 + 8)) (W0 (u i))) (x.1 (x.2.1 x.2.2.2))) x.2.2.1).1) = false) : (jaS m (D + 1301) i x).2.2.2 = x.2.2.2 + 1 ∧ (jaS m (D + 1301) i x).1 ((jaS m (D + 1301) i x).2.1 (x.2.2.2 + 1)) = W0 (u i) ∧ ∀ k, k ≤ x.2.2.2 → (jaS m (D + 1301) i x).1 ((jaS m (D + 1301) i x).2.1 k) = x.1 (x.2.1 k) := by
  obtain ⟨a1, a2, a3, a4, a5, a6, a7⟩ := h
  obtain ⟨l, l1, l2⟩ := a3 x.2.2.2 (by omega)
  have hxl := hX l l1
  rw [← l2] at hxl
  have hxi := hX i hi
  have hei := (a6 i (Nat.le_refl _) hi).1
  have hwi := (a6 i (Nat.le_refl _) hi).2
  obtain ⟨j1, j2, j3, j4⟩ := jJ_f (W := x.1) (x := x.2.1 x.2.2.2) (y := x.2.1 i) (j := D + 1301) (m := m) (g := x.2.2.1) hxl.2.1 hxl.2.2
  have hwi2 : x.1 (x.2.1 i) = W0 (u i) := by rw [hei]; exact hwi
  have c' : (jJoin x.1 (x.2.1 x.2.2.2) (x.2.1 i) (D + 1301) m x.2.2.1).1 = false := by
    rw [j2]
    unfold jFst jSnd
    rw [hwi2]
    exact c
  have e : jaS m (D + 1301) i x = ((jJoin x.1 (x.2.1 x.2.2.2) (x.2.1 i) (D + 1301) m x.2.2.1).2.1, swp x.2.1 (x.2.2.2 + 1) i, (jJoin x.1 (x.2.1 x.2.2.2) (x.2.1 i) (D + 1301) m x.2.2.1).2.2, x.2.2.2 + 1) := if_neg (by rw [c']; decide)
  rw [e]
  have hW : ∀ z, z ≠ D + 1301 + 1 → z ≠ D + 1301 + 8 → (jJoin x.1 (x.2.1 x.2.2.2) (x.2.1 i) (D + 1301) m x.2.2.1).2.1 z = x.1 z := fun z h2 h3 => by
    by_cases e : z = x.2.1 x.2.2.2
    · rw [e]
      exact j4 c'
    · exact j1 z e h2 h3
  refine ⟨rfl, ?_, fun k hk => ?_⟩
  · have hs1 : swp x.2.1 (x.2.2.2 + 1) i (x.2.2.2 + 1) = u i := by
      show va_up (va_up x.2.1 (x.2.2.2 + 1) (x.2.1 i)) i (x.2.1 (x.2.2.2 + 1)) (x.2.2.2 + 1) = _
      by_cases e : x.2.2.2 + 1 = i
      · rw [e, va_up_self]
        exact hei
      · rw [va_up_ne _ _ e, va_up_self]
        exact hei
    show (jJoin x.1 (x.2.1 x.2.2.2) (x.2.1 i) (D + 1301) m x.2.2.1).2.1 (swp x.2.1 (x.2.2.2 + 1) i (x.2.2.2 + 1)) = _
    rw [hs1, hW _ hxi.2.1 hxi.2.2]
    exact hwi
  · have hsw : swp x.2.1 (x.2.2.2 + 1) i k = x.2.1 k := by
      show va_up (va_up x.2.1 (x.2.2.2 + 1) (x.2.1 i)) i (x.2.1 (x.2.2.2 + 1)) k = _
      rw [va_up_ne _ _ (by omega), va_up_ne _ _ (by omega)]
    obtain ⟨l', l1', l2'⟩ := a3 k (by omega)
    have hxk := hX l' l1'
    rw [← l2'] at hxk
    show (jJoin x.1 (x.2.1 x.2.2.2) (x.2.1 i) (D + 1301) m x.2.2.1).2.1 (swp x.2.1 (x.2.2.2 + 1) i k) = _
    rw [hsw, hW _ hxk.2.1 hxk.2.2]
set_option maxRecDepth 100000 in
set_option maxHeartbeats 1500000 in
/-- model: join -/
theorem sX10_join {E : eN} (hE : eOk E) {f : aH} {t : Nat} {M D : Nat} {y : mV} {x : dV} {q : Int32} (hR : mRel x y) (hI : dOk D x) : mT E mX10_join 0 0 [.ref M, .int q] (mdS f M y) t (fun o f' t' => o = .inl (some (.int ((pJoi D x q).1.getD (nI 0)))) ∧ t' = t ∧ mAns M f (pJoi D x q) f') := by
  refine mT_of (n := 5) (lo := [some (.ref M), some (.int q), none, none, none, none, none]) (by decide) (by exact Nat.le_of_ble_eq_true rfl) rfl rfl ?_
  have lpF : ∀ i : Nat, ix 2 (nI i) = some i → i < 2 → ∀ (n : Nat) (z : mV) (z4 z5 z6 : Option Value), min (dZ x i).2.2 ((jaL (dZ x i).2.1.1 (D + 1301) ((dZ x i).2.2 - 1) 1 (dW x, (dZ x i).1, dJ x, 0)).2.2.2 + 1) = n → jF (y.1, va_up y.2 0 (bI (! true))) z → (∀ k, k < n → mE z (120 + k) ((jaL (dZ x i).2.1.1 (D + 1301) ((dZ x i).2.2 - 1) 1 (dW x, (dZ x i).1, dJ x, 0)).1 ((jaL (dZ x i).2.1.1 (D + 1301) ((dZ x i).2.2 - 1) 1 (dW x, (dZ x i).1, dJ x, 0)).2.1 k)) (dZ x i).2.1.1) → (∀ w, (∀ k, k < 60 → w ≠ (dZ x i).1 k) → w ≠ D + 1301 + 1 → w ≠ D + 1301 + 8 → (jaL (dZ x i).2.1.1 (D + 1301) ((dZ x i).2.2 - 1) 1 (dW x, (dZ x i).1, dJ x, 0)).1 w = dW x w) → (∀ k, k < n → enOk ((jaL (dZ x i).2.1.1 (D + 1301) ((dZ x i).2.2 - 1) 1 (dW x, (dZ x i).1, dJ x, 0)).1 ((jaL (dZ x i).2.1.1 (D + 1301) ((dZ x i).2.2 - 1) 1 (dW x, (dZ x i).1, dJ x, 0)).2.1 k))) → (∀ k, k < n → eLv ((jaL (dZ x i).2.1.1 (D + 1301) ((dZ x i).2.2 - 1) 1 (dW x, (dZ x i).1, dJ x, 0)).1 ((jaL (dZ x i).2.1.1 (D + 1301) ((dZ x i).2.2 - 1) 1 (dW x, (dZ x i).1, dJ x, 0)).2.1 k))) → ∀ (d k : Nat) (v : mV), k + d = n → mFr (tB i) (va_up z.1 16 (upd (z.1 16) i (nI n)), z.2) v → (∀ j, j < k → mE v (60 * i + j) ((jaL (dZ x i).2.1.1 (D + 1301) ((dZ x i).2.2 - 1) 1 (dW x, (dZ x i).1, dJ x, 0)).1 ((jaL (dZ x i).2.1.1 (D + 1301) ((dZ x i).2.2 - 1) 1 (dW x, (dZ x i).1, dJ x, 0)).2.1 j)) (dZ x i).2.1.1) → V E mX10_join 0 0 (fun o f' t' => o = .inl (some (.int ((pJoi D x (nI i)).1.getD (nI 0)))) ∧ t' = t ∧ mAns M f (pJoi D x (nI i)) f') 106 [some (.ref M), some (.int (nI i)), some (.int (nI n)), some (.int (nI k)), z4, z5, z6] [] (mdS f M v) t 0 0 := by
    intro i hi0 i2 n z z4 z5 z6 hn hz hz9 hfr hok hlv d
    have hzo := hI.2.2.1 i (by omega)
    have hz8 := hzo.2
    have hn3 := hzo.1.1
    have hwo : ∀ j, j < 60 → enOk (dW x ((dZ x i).1 j)) := fun j hj => hI.2.2.2.1 _ (dre_X hI (show i < 3 by omega) j hj)
    have hTb := hR.2.2.2.1 i i2
    have hgo := hI.2.1 0 (by omega)
    have hX : ∀ k, k < 60 → dX D ((dZ x i).1 k) ∧ (dZ x i).1 k ≠ D + 1301 + 1 ∧ (dZ x i).1 k ≠ D + 1301 + 8 := fun k hk => ⟨dre_X hI (show i < 3 by omega) k hk, dXs_n (hI.2.2.2.2.1.1 i k (by omega) hk)⟩
    have hjA : jsA (dX D) (D + 1301) := (dsa hI (show i < 3 by omega)).2.1
    have hgl : ∀ k, k < (dZ x i).2.2 → eGo (dW x ((dZ x i).1 k)) (dZ x i).2.1.1 (dG x 0) ∧ eLv (dW x ((dZ x i).1 k)) := fun k hk => ⟨hI.2.2.2.2.2.1 i k i2 hk, (hR.2.2.2.2.2.2.2.2 i i2).2 k hk⟩
    induction d using Nat.strongRecOn with
    | _ d ih =>
    intro k v hd hv hv9
    refine v_iload_n dX10_join_106 rfl (by rfl) ?_
    refine v_iload_n dX10_join_107 rfl (by rfl) ?_
    refine v_icmp_geN (tgt := 131) dX10_join_108 (by decide) (by omega) (by omega) (fun c108 => ?_) (fun c108 => ?_)
    · refine v_iload_n dX10_join_131 rfl (by rfl) ?_
      refine v_iret dX10_join_132 rfl (by first | rfl | exact nar_bI) ?_
      have e9 : k = n := by omega
      subst e9
      have hR2 : pJoi D x (nI i) = (some (nI k), xJ (xW (xZ x (va_up (dZ x) i ((jaL (dZ x i).2.1.1 (D + 1301) ((dZ x i).2.2 - 1) 1 (dW x, (dZ x i).1, dJ x, 0)).2.1, (dZ x i).2.1, k))) (jaL (dZ x i).2.1.1 (D + 1301) ((dZ x i).2.2 - 1) 1 (dW x, (dZ x i).1, dJ x, 0)).1) (jaL (dZ x i).2.1.1 (D + 1301) ((dZ x i).2.2 - 1) 1 (dW x, (dZ x i).1, dJ x, 0)).2.2.1) := by
        unfold pJoi
        rw [hi0]
        dsimp only
        rw [hn]
      rw [hR2]
      have hv16 : v.1 16 = upd (y.1 16) i (nI k) := by
        rw [hv.2.1 16 (by omega)]
        show va_up z.1 16 (upd (z.1 16) i (nI k)) 16 = _
        rw [va_up_self, hz.2.1 16 (by omega)]
      have hvk : ∀ k', k' ≠ 16 → k' < 20 ∨ (31 < k' ∧ k' ≠ 35) → v.1 k' = y.1 k' := fun k' k1 k2 => by
        rw [hv.2.1 k' (by omega)]
        show va_up z.1 16 (upd (z.1 16) i (nI k)) k' = y.1 k'
        rw [va_up_ne _ _ k1, hz.2.1 k' k2]
      have hoth : ∀ i' p, i' < 2 → i' ≠ i → p < 60 → (jaL (dZ x i).2.1.1 (D + 1301) ((dZ x i).2.2 - 1) 1 (dW x, (dZ x i).1, dJ x, 0)).1 ((dZ x i').1 p) = dW x ((dZ x i').1 p) := fun i' p h1 h2 h3 => hfr _ (fun l hl q => by have := (hI.2.2.2.2.1.2 i' p i l (by omega) h3 (by omega) hl q).1; omega) (dXs_n (hI.2.2.2.2.1.1 i' p (by omega) h3)).1 (dXs_n (hI.2.2.2.2.1.1 i' p (by omega) h3)).2
      have hmr : mRel (xW (xZ x (va_up (dZ x) i ((jaL (dZ x i).2.1.1 (D + 1301) ((dZ x i).2.2 - 1) 1 (dW x, (dZ x i).1, dJ x, 0)).2.1, (dZ x i).2.1, k))) (jaL (dZ x i).2.1.1 (D + 1301) ((dZ x i).2.2 - 1) 1 (dW x, (dZ x i).1, dJ x, 0)).1) v := by
        refine mRel_z2 hR (fun k' hk => hvk k' (by omega) (by omega)) (fun j h0 h52 => ?_) hv.2.2.1 (fun i' hi' => ?_) ?_
        · rw [hv.1]
          show z.2 j = y.2 j
          rw [hz.1]
          exact va_up_ne _ _ (by omega)
        · obtain ⟨t1, t2, t3, t4⟩ := hR.2.2.2.1 i' hi'
          by_cases e : i' = i
          · have e' := e.symm
            subst e'
            rw [va_up_self]
            refine ⟨by rw [hv16, updS], by rw [hvk 17 (by omega) (by omega)]; exact t2, fun s hs => by rw [hvk 19 (by omega) (by omega), hvk 18 (by omega) (by omega)]; exact t3 s hs, fun p hp => hv9 p hp⟩
          · rw [va_up_ne _ _ e]
            refine ⟨by rw [hv16, updN (by omega)]; exact t1, by rw [hvk 17 (by omega) (by omega)]; exact t2, fun s hs => by rw [hvk 19 (by omega) (by omega), hvk 18 (by omega) (by omega)]; exact t3 s hs, fun p hp => ?_⟩
            have hz' := (hI.2.2.1 i' (by omega)).2
            have hw' := hI.2.2.2.1 _ (dre_X hI (show i' < 3 by omega) p (by omega))
            have hn' := (hI.2.2.1 i' (by omega)).1.1
            rw [hoth i' p hi' e (by omega)]
            exact hv.2.2.2 _ _ _ (fun z => by have := z.1; have := z.2; omega) (hz.2.2.2 _ _ _ (by omega) (t4 p hp) hw' hn') hw' hn'
        · obtain ⟨l1, l2⟩ := hR.2.2.2.2.2.2.2
          refine dLv_z l1 (fun i' hi' => ?_)
          by_cases e : i' = i
          · have e' := e.symm
            subst e'
            rw [va_up_self]
            exact ⟨(l2 i hi').1, fun p hp => hlv p hp⟩
          · rw [va_up_ne _ _ e]
            refine ⟨(l2 i' hi').1, fun p hp => ?_⟩
            have hz' := (hI.2.2.1 i' (by omega)).2
            rw [hoth i' p hi' e (by omega)]
            exact (l2 i' hi').2 p hp
      refine ⟨rfl, rfl, v, rfl, hmr, ?_⟩
      rw [hv.1]
      show z.2 0 = _
      rw [hz.1]
      rfl
    · refine v_aload_n dX10_join_111 rfl (by rfl) ?_
      refine v_bipush (v := nI 60) dX10_join_112 (by decide) ?_
      refine v_iload_n dX10_join_114 rfl (by rfl) ?_
      refine v_imulN dX10_join_115 ?_
      refine v_iload_n dX10_join_116 rfl (by rfl) ?_
      refine v_iaddN dX10_join_117 ?_
      refine v_bipush (v := nI 120) dX10_join_118 (by decide) ?_
      refine v_iload_n dX10_join_120 rfl (by rfl) ?_
      refine v_iaddN dX10_join_121 ?_
      refine w_callV hE dX10_join_122 kX10_197 mdS_M (by rfl) (by rfl) (sX10_copy hE hv.2.2.1 (by omega) (by omega) (by omega)) rfl (by decide) (by decide) (by exact Nat.le_of_ble_eq_true rfl) (by omega) (by omega) (fun v9 g9 u9 h9 => ?_) (fun _ _ _ h => by cases h.1)
      obtain ⟨hv9, hu9, hg9⟩ := h9
      replace hu9 := hu9.symm
      subst hu9
      subst hg9
      cases hv9
      refine v_iincN (y := 1) dX10_join_125 (by rfl) (by decide) (by decide) ?_
      refine v_goto (tgt := 106) dX10_join_128 (by decide) ?_
      have hsrc : mE v (120 + k) ((jaL (dZ x i).2.1.1 (D + 1301) ((dZ x i).2.2 - 1) 1 (dW x, (dZ x i).1, dJ x, 0)).1 ((jaL (dZ x i).2.1.1 (D + 1301) ((dZ x i).2.2 - 1) 1 (dW x, (dZ x i).1, dJ x, 0)).2.1 k)) (dZ x i).2.1.1 := hv.2.2.2 (120 + k) _ _ (fun z => by have := z.1; have := z.2; omega) (hz9 k (by omega)) (hok k (by omega)) hn3
      exact ih (d - 1) (by omega) (k + 1) _ (by omega) (mFr_c hv ⟨by omega, by omega⟩) (fun j hj => by
        by_cases e : j = k
        · subst e
          exact mCopy_a hsrc (hok j (by omega)) hn3
        · exact mCopy_o (hv9 j (by omega)) (hok j (by omega)) hn3 (by omega))
  have lp : ∀ i : Nat, ix 2 (nI i) = some i → i < 2 → ∀ (d k : Nat) (x' : jaV) (L : Nat) (v : mV) (z4 z5 z6 : Option Value), k + d = (dZ x i).2.2 → 1 ≤ k → x'.2.2.2 = L → jF (y.1, va_up y.2 0 (bI (! true))) v → (jaL (dZ x i).2.1.1 (D + 1301) ((dZ x i).2.2 - 1) 1 (dW x, (dZ x i).1, dJ x, 0)) = jaL (dZ x i).2.1.1 (D + 1301) ((dZ x i).2.2 - k) k x' → (jaI (dX D) (dW x) (dZ x i).1 (dG x 0) (dZ x i).2.1.1 D k x') → (∀ l, l ≤ L → mE v (120 + l) (x'.1 (x'.2.1 l)) (dZ x i).2.1.1) → V E mX10_join 0 0 (fun o f' t' => o = .inl (some (.int ((pJoi D x (nI i)).1.getD (nI 0)))) ∧ t' = t ∧ mAns M f (pJoi D x (nI i)) f') 19 [some (.ref M), some (.int (nI i)), some (.int (nI (L + 1))), some (.int (nI k)), z4, z5, z6] [] (mdS f M v) t 0 0 := by
    intro i hi0 i2 d
    have hzo := hI.2.2.1 i (by omega)
    have hz8 := hzo.2
    have hn3 := hzo.1.1
    have hwo : ∀ j, j < 60 → enOk (dW x ((dZ x i).1 j)) := fun j hj => hI.2.2.2.1 _ (dre_X hI (show i < 3 by omega) j hj)
    have hTb := hR.2.2.2.1 i i2
    have hgo := hI.2.1 0 (by omega)
    have hX : ∀ k, k < 60 → dX D ((dZ x i).1 k) ∧ (dZ x i).1 k ≠ D + 1301 + 1 ∧ (dZ x i).1 k ≠ D + 1301 + 8 := fun k hk => ⟨dre_X hI (show i < 3 by omega) k hk, dXs_n (hI.2.2.2.2.1.1 i k (by omega) hk)⟩
    have hjA : jsA (dX D) (D + 1301) := (dsa hI (show i < 3 by omega)).2.1
    have hgl : ∀ k, k < (dZ x i).2.2 → eGo (dW x ((dZ x i).1 k)) (dZ x i).2.1.1 (dG x 0) ∧ eLv (dW x ((dZ x i).1 k)) := fun k hk => ⟨hI.2.2.2.2.2.1 i k i2 hk, (hR.2.2.2.2.2.2.2.2 i i2).2 k hk⟩
    induction d using Nat.strongRecOn with
    | _ d ih =>
    intro k x' L v z4 z5 z6 hd hk1 hL hv hr hj hv9
    have hLk := hj.2.2.2.2.1
    have hMv : v.1 16 i = nI (dZ x i).2.2 := by
      rw [hv.2.1 16 (by omega)]
      exact hTb.1
    refine v_iload_n dX10_join_19 rfl (by rfl) ?_
    refine v_aload_n dX10_join_20 rfl (by rfl) ?_
    refine v_getf hE dX10_join_21 fX10_60 mdS_M (by rfl) ?_
    refine v_iload_n dX10_join_24 rfl (by rfl) ?_
    refine m_iald hE (k := 16) dX10_join_25 (by decide) (by decide) rfl (show _ < 4 by omega) (by omega) ?_
    refine v_eqi (y := nI (dZ x i).2.2) hMv ?_
    refine v_icmp_geN (tgt := 97) dX10_join_26 (by decide) (by omega) (by omega) (fun c26 => ?_) (fun c26 => ?_)
    · refine v_aload_n dX10_join_97 rfl (by rfl) ?_
      refine v_getf hE dX10_join_98 fX10_60 mdS_M (by rfl) ?_
      refine v_iload_n dX10_join_101 rfl (by rfl) ?_
      refine v_iload_n dX10_join_102 rfl (by rfl) ?_
      refine m_iast hE (k := 16) dX10_join_103 (by decide) (by decide) rfl (show _ < 4 by omega) (by omega) ?_
      refine v_iconst (v := nI 0) dX10_join_104 (by decide) ?_
      refine v_istore_n dX10_join_105 rfl (by decide) ?_
      have e9 : k = (dZ x i).2.2 := by omega
      subst e9
      rw [Nat.sub_self] at hr
      have hr : (jaL (dZ x i).2.1.1 (D + 1301) ((dZ x i).2.2 - 1) 1 (dW x, (dZ x i).1, dJ x, 0)) = x' := hr
      refine lpF i hi0 i2 (L + 1) v _ _ _ (by rw [hr, hL]; omega) hv (fun k hk => by rw [hr]; exact hv9 k (by omega)) (by rw [hr]; exact hj.2.1) (fun k hk => ?_) (fun k hk => by rw [hr]; exact (hj.2.2.2.2.2.2 k (by omega)).2) (L + 1) 0 _ (by omega) (mFr_0 (aNw_i hv.2.2.1 rfl)) (fun j hj => absurd hj (Nat.not_lt_zero _))
      rw [hr]
      obtain ⟨l', l1, l2⟩ := hj.2.2.1 k (by omega)
      rw [l2]
      exact hj.1 _ (hX l' l1).1
    · have hrec : mE v (60 * i + k) (dW x ((dZ x i).1 k)) (dZ x i).2.1.1 := hv.2.2.2 _ _ _ (by omega) (hTb.2.2.2 k (by omega)) (hwo k (by omega)) hn3
      have hoL : enOk (x'.1 (x'.2.1 L)) := by
        obtain ⟨l, l1, l2⟩ := hj.2.2.1 L (by omega)
        rw [l2]
        exact hj.1 _ (hX l l1).1
      have hst : jaL (dZ x i).2.1.1 (D + 1301) ((dZ x i).2.2 - k) k x' = jaL (dZ x i).2.1.1 (D + 1301) ((dZ x i).2.2 - (k + 1)) (k + 1) (jaS (dZ x i).2.1.1 (D + 1301) k x') := by
        rw [show (dZ x i).2.2 - k = ((dZ x i).2.2 - (k + 1)) + 1 by omega]
        rfl
      have hjn := jaI_s hjA hgo hn3 hX (show k < 60 by omega) (hgl k (by omega)).1 (hgl k (by omega)).2 hj
      refine v_bipush (v := nI 60) dX10_join_29 (by decide) ?_
      refine v_iload_n dX10_join_31 rfl (by rfl) ?_
      refine v_imulN dX10_join_32 ?_
      refine v_iload_n dX10_join_33 rfl (by rfl) ?_
      refine v_iaddN dX10_join_34 ?_
      refine v_istore dX10_join_35 (by decide) ?_
      refine v_bipush (v := nI 120) dX10_join_37 (by decide) ?_
      refine v_iload_n dX10_join_39 rfl (by rfl) ?_
      refine v_iaddN dX10_join_40 ?_
      refine v_iconst (v := nI 1) dX10_join_41 (by decide) ?_
      refine v_isubN dX10_join_42 (by omega) ?_
      refine v_eqi (y := nI (120 + L)) (congrArg nI (by omega)) ?_
      refine v_istore dX10_join_43 (by decide) ?_
      refine v_sipush (v := nI 180) dX10_join_45 (by decide) ?_
      refine v_istore dX10_join_48 (by decide) ?_
      refine v_iload_n dX10_join_50 rfl (by rfl) ?_
      refine v_if_leN (tgt := 78) dX10_join_51 (by decide) (by omega) (fun c51 => ?_) (fun c51 => ?_)
      · exact absurd c51 (by omega)
      · refine v_aload_n dX10_join_54 rfl (by rfl) ?_
        refine v_iload dX10_join_55 (by rfl) ?_
        refine v_iload dX10_join_57 (by rfl) ?_
        refine v_iload dX10_join_59 (by rfl) ?_
        refine w_callV hE dX10_join_61 kX10_341 mdS_M (by rfl) (by rfl) (sX10_tryJoin hE (a := 120 + L) (b := 60 * i + k) (m := (dZ x i).2.1.1) (wa := (x'.1 (x'.2.1 L))) (wb := (dW x ((dZ x i).1 k))) (va := x'.1 (D + 1301 + 1)) (vb := x'.1 (D + 1301 + 8)) (g := x'.2.2.1) hv.2.2.1 (hv9 L (Nat.le_refl _)) hrec hoL (hwo k (by omega)) (hj.1 _ hjA.2.1) (hj.1 _ hjA.2.2.1) (by have := (hj.2.2.2.2.2.2 L (by omega)).2.2.2; exact this) (fun s hs c hc => ((hgl k (by omega)).1.2.2.2.2 s hs).2 c hc) hn3 (by omega) (by omega)) rfl (by decide) (by decide) (by exact Nat.le_of_ble_eq_true rfl) (by omega) (by omega) (fun v9 g9 u9 h9 => ?_) (fun _ _ _ h => by cases h.1)
        obtain ⟨hv9', hu9, v1, hg9, hF1, hJ1⟩ := h9
        replace hu9 := hu9.symm
        subst hu9
        subst hg9
        cases hv9'
        refine v_if_eqB (tgt := 78) dX10_join_64 (by decide) (fun c64 => ?_) (fun c64 => ?_)
        · refine v_aload_n dX10_join_78 rfl (by rfl) ?_
          refine v_bipush (v := nI 120) dX10_join_79 (by decide) ?_
          refine v_iload_n dX10_join_81 rfl (by rfl) ?_
          refine v_iaddN dX10_join_82 ?_
          refine v_iload dX10_join_83 (by rfl) ?_
          refine w_callV hE dX10_join_85 kX10_197 mdS_M (by rfl) (by rfl) (sX10_copy hE hF1.2.2.1 (by omega) (by omega) (by omega)) rfl (by decide) (by decide) (by exact Nat.le_of_ble_eq_true rfl) (by omega) (by omega) (fun v9 g9 u9 h9 => ?_) (fun _ _ _ h => by cases h.1)
          obtain ⟨hv9, hu9, hg9⟩ := h9
          replace hu9 := hu9.symm
          subst hu9
          subst hg9
          cases hv9
          refine v_iincN (y := 1) dX10_join_88 (by rfl) (by decide) (by decide) ?_
          refine v_iincN (y := 1) dX10_join_91 (by rfl) (by decide) (by decide) ?_
          refine v_goto (tgt := 19) dX10_join_94 (by decide) ?_
          have c9 := c64
          rw [← hL] at c9
          obtain ⟨s1, s2, s3⟩ := jaS_no hX (show k < 60 by omega) hj c9
          rw [hL] at s1 s2 s3
          refine ih (d - 1) (by omega) (k + 1) (jaS (dZ x i).2.1.1 (D + 1301) k x') (L + 1) (mCopy v1 (120 + (L + 1)) (60 * i + k)) _ _ _ (by omega) (by omega) s1 (jF_c (jF_t hv hF1) (by omega)) (hr.trans hst) hjn (fun l hl => ?_)
          by_cases e : l = L + 1
          · subst e
            rw [s2]
            exact mCopy_a (hF1.2.2.2 _ _ _ (by omega) hrec (hwo k (by omega)) hn3) (hwo k (by omega)) hn3
          · rw [s3 l (by omega)]
            have hol : enOk (x'.1 (x'.2.1 l)) := by
              obtain ⟨l', l1, l2⟩ := hj.2.2.1 l (by omega)
              rw [l2]
              exact hj.1 _ (hX l' l1).1
            exact mCopy_o (hF1.2.2.2 _ _ _ (by omega) (hv9 l (by omega)) hol hn3) hol hn3 (by omega)
        · refine v_aload_n dX10_join_67 rfl (by rfl) ?_
          refine v_iload dX10_join_68 (by rfl) ?_
          refine v_iload dX10_join_70 (by rfl) ?_
          refine w_callV hE dX10_join_72 kX10_197 mdS_M (by rfl) (by rfl) (sX10_copy hE hF1.2.2.1 (by omega) (by omega) (by omega)) rfl (by decide) (by decide) (by exact Nat.le_of_ble_eq_true rfl) (by omega) (by omega) (fun v9 g9 u9 h9 => ?_) (fun _ _ _ h => by cases h.1)
          obtain ⟨hv9, hu9, hg9⟩ := h9
          replace hu9 := hu9.symm
          subst hu9
          subst hg9
          cases hv9
          refine v_goto (tgt := 91) dX10_join_75 (by decide) ?_
          refine v_iincN (y := 1) dX10_join_91 (by rfl) (by decide) (by decide) ?_
          refine v_goto (tgt := 19) dX10_join_94 (by decide) ?_
          have c9 := c64
          rw [← hL] at c9
          obtain ⟨s1, s2, s3⟩ := jaS_yes hX (show k < 60 by omega) hj c9
          rw [hL] at s1 s2 s3
          refine ih (d - 1) (by omega) (k + 1) (jaS (dZ x i).2.1.1 (D + 1301) k x') L (mCopy v1 (120 + L) 180) _ _ _ (by omega) (by omega) s1 (jF_c (jF_t hv hF1) (by omega)) (hr.trans hst) hjn (fun l hl => ?_)
          by_cases e : l = L
          · subst e
            rw [s2]
            have okn := jCaS_ok (g := (jAl (eRch (eCopy (x'.1 (D + 1301 + 1)) (x'.1 (x'.2.1 l))) (dW x ((dZ x i).1 k))) (eRch (eCopy (x'.1 (D + 1301 + 8)) (dW x ((dZ x i).1 k))) (x'.1 (x'.2.1 l))) x'.2.2.1).2.2) (eRch_ok (w := x'.1 (x'.2.1 l)) (eCopy_ok (hj.1 _ hjA.2.2.1) (hwo k (by omega)))) ((dZ x i).2.1.1 - 0) 0 _ (jAl_ok (g := x'.2.2.1) (eRch_ok (w := (dW x ((dZ x i).1 k))) (eCopy_ok (hj.1 _ hjA.2.1) hoL)) (eRch_ok (w := x'.1 (x'.2.1 l)) (eCopy_ok (hj.1 _ hjA.2.2.1) (hwo k (by omega)))))
            exact mE_q (mCopy_a (hJ1 c64) okn hn3) (eEq_m (eCopy_q okn) hn3)
          · rw [s3 l (by omega)]
            have hol : enOk (x'.1 (x'.2.1 l)) := by
              obtain ⟨l', l1, l2⟩ := hj.2.2.1 l (by omega)
              rw [l2]
              exact hj.1 _ (hX l' l1).1
            exact mCopy_o (hF1.2.2.2 _ _ _ (by omega) (hv9 l (by omega)) hol hn3) hol hn3 (by omega)
  refine v_aload_n dX10_join_0 rfl (by rfl) ?_
  refine v_iload_n dX10_join_1 rfl (by rfl) ?_
  refine v_iconst (v := nI 0) dX10_join_2 (by decide) ?_
  refine v_iconst (v := nI 1) dX10_join_3 (by decide) ?_
  refine w_callS hE dX10_join_4 kX10_136 (by rfl) (sX10_in hE) rfl (by decide) (by decide) (by exact Nat.le_of_ble_eq_true rfl) (by omega) (by omega) (fun v9 g9 u9 h9 => ?_) (fun _ _ _ h => by cases h.1)
  obtain ⟨hv9, hu9, hg9⟩ := h9
  replace hu9 := hu9.symm
  replace hg9 := hg9.symm
  subst hu9
  subst hg9
  cases hv9
  rw [in_ix1 (n := 1) (by omega)]
  refine w_callV hE dX10_join_7 kX10_143 mdS_M (by rfl) (by rfl) (sX10_goes hE) rfl (by decide) (by decide) (by exact Nat.le_of_ble_eq_true rfl) (by omega) (by omega) (fun v9 g9 u9 h9 => ?_) (fun _ _ _ h => by cases h.1)
  obtain ⟨hv9, hu9, hg9⟩ := h9
  replace hu9 := hu9.symm
  subst hu9
  subst hg9
  cases hv9
  refine v_if_neB (tgt := 15) dX10_join_10 (by decide) (fun c10 => ?_) (fun c10 => ?_)
  · obtain ⟨i, hi0⟩ := Option.isSome_iff_exists.mp c10
    obtain ⟨i2, i3⟩ := ix_r hi0 (by omega)
    subst i3
    rw [c10]
    have hzo := hI.2.2.1 i (by omega)
    have hz8 := hzo.2
    have hn3 := hzo.1.1
    have hwo : ∀ j, j < 60 → enOk (dW x ((dZ x i).1 j)) := fun j hj => hI.2.2.2.1 _ (dre_X hI (show i < 3 by omega) j hj)
    have hTb := hR.2.2.2.1 i i2
    have hgo := hI.2.1 0 (by omega)
    have hX : ∀ k, k < 60 → dX D ((dZ x i).1 k) ∧ (dZ x i).1 k ≠ D + 1301 + 1 ∧ (dZ x i).1 k ≠ D + 1301 + 8 := fun k hk => ⟨dre_X hI (show i < 3 by omega) k hk, dXs_n (hI.2.2.2.2.1.1 i k (by omega) hk)⟩
    have hjA : jsA (dX D) (D + 1301) := (dsa hI (show i < 3 by omega)).2.1
    have hgl : ∀ k, k < (dZ x i).2.2 → eGo (dW x ((dZ x i).1 k)) (dZ x i).2.1.1 (dG x 0) ∧ eLv (dW x ((dZ x i).1 k)) := fun k hk => ⟨hI.2.2.2.2.2.1 i k i2 hk, (hR.2.2.2.2.2.2.2.2 i i2).2 k hk⟩
    refine v_iconst (v := nI 0) dX10_join_15 (by decide) ?_
    refine v_istore_n dX10_join_16 rfl (by decide) ?_
    refine v_iconst (v := nI 0) dX10_join_17 (by decide) ?_
    refine v_istore_n dX10_join_18 rfl (by decide) ?_
    refine v_iload_n dX10_join_19 rfl (by rfl) ?_
    refine v_aload_n dX10_join_20 rfl (by rfl) ?_
    refine v_getf hE dX10_join_21 fX10_60 mdS_M (by rfl) ?_
    refine v_iload_n dX10_join_24 rfl (by rfl) ?_
    refine m_iald hE (k := 16) dX10_join_25 (by decide) (by decide) rfl (show _ < 4 by omega) (by omega) ?_
    refine v_eqi (y := nI (dZ x i).2.2) hTb.1 ?_
    refine v_icmp_geN (tgt := 97) dX10_join_26 (by decide) (by omega) (by omega) (fun c26 => ?_) (fun c26 => ?_)
    · refine v_aload_n dX10_join_97 rfl (by rfl) ?_
      refine v_getf hE dX10_join_98 fX10_60 mdS_M (by rfl) ?_
      refine v_iload_n dX10_join_101 rfl (by rfl) ?_
      refine v_iload_n dX10_join_102 rfl (by rfl) ?_
      refine m_iast hE (k := 16) dX10_join_103 (by decide) (by decide) rfl (show _ < 4 by omega) (by omega) ?_
      refine v_iconst (v := nI 0) dX10_join_104 (by decide) ?_
      refine v_istore_n dX10_join_105 rfl (by decide) ?_
      have e0 : (dZ x i).2.2 = 0 := by omega
      have hr : (jaL (dZ x i).2.1.1 (D + 1301) ((dZ x i).2.2 - 1) 1 (dW x, (dZ x i).1, dJ x, 0)) = (dW x, (dZ x i).1, dJ x, 0) := by
        rw [e0]
        rfl
      exact lpF i hi0 i2 0 (y.1, va_up y.2 0 (bI (! true))) _ _ _ (by rw [e0]; omega) (jF_0 hR.1) (fun k hk => absurd hk (Nat.not_lt_zero _)) (by rw [hr]; exact fun _ _ _ _ => rfl) (fun k hk => absurd hk (Nat.not_lt_zero _)) (fun k hk => absurd hk (Nat.not_lt_zero _)) 0 0 _ (by omega) (mFr_0 (aNw_i hR.1 rfl)) (fun j hj => absurd hj (Nat.not_lt_zero _))
    · refine v_bipush (v := nI 60) dX10_join_29 (by decide) ?_
      refine v_iload_n dX10_join_31 rfl (by rfl) ?_
      refine v_imulN dX10_join_32 ?_
      refine v_iload_n dX10_join_33 rfl (by rfl) ?_
      refine v_iaddN dX10_join_34 ?_
      refine v_istore dX10_join_35 (by decide) ?_
      refine v_bipush (v := nI 120) dX10_join_37 (by decide) ?_
      refine v_iload_n dX10_join_39 rfl (by rfl) ?_
      refine v_iaddN dX10_join_40 ?_
      refine v_iconst (v := nI 1) dX10_join_41 (by decide) ?_
      refine v_isub dX10_join_42 ?_
      refine v_istore dX10_join_43 (by decide) ?_
      refine v_sipush (v := nI 180) dX10_join_45 (by decide) ?_
      refine v_istore dX10_join_48 (by decide) ?_
      refine v_iload_n dX10_join_50 rfl (by rfl) ?_
      refine v_if_leN (tgt := 78) dX10_join_51 (by decide) (by omega) (fun c51 => ?_) (fun c51 => ?_)
      · refine v_aload_n dX10_join_78 rfl (by rfl) ?_
        refine v_bipush (v := nI 120) dX10_join_79 (by decide) ?_
        refine v_iload_n dX10_join_81 rfl (by rfl) ?_
        refine v_iaddN dX10_join_82 ?_
        refine v_iload dX10_join_83 (by rfl) ?_
        refine w_callV hE dX10_join_85 kX10_197 mdS_M (by rfl) (by rfl) (sX10_copy hE (y := (y.1, va_up y.2 0 (bI (! true)))) hR.1 (by omega) (by omega) (by omega)) rfl (by decide) (by decide) (by exact Nat.le_of_ble_eq_true rfl) (by omega) (by omega) (fun v9 g9 u9 h9 => ?_) (fun _ _ _ h => by cases h.1)
        obtain ⟨hv9, hu9, hg9⟩ := h9
        replace hu9 := hu9.symm
        subst hu9
        subst hg9
        cases hv9
        refine v_iincN (y := 1) dX10_join_88 (by rfl) (by decide) (by decide) ?_
        refine v_iincN (y := 1) dX10_join_91 (by rfl) (by decide) (by decide) ?_
        refine v_goto (tgt := 19) dX10_join_94 (by decide) ?_
        have hk0 := hgl 0 (by omega)
        exact lp i hi0 i2 ((dZ x i).2.2 - 1) 1 (dW x, (dZ x i).1, dJ x, 0) 0 (mCopy (y.1, va_up y.2 0 (bI (! true))) (120 + 0) (60 * i + 0)) _ _ _ (by omega) (Nat.le_refl _) rfl (jF_c (jF_0 hR.1) (by omega)) rfl ⟨hI.2.2.2.1, fun _ _ _ _ => rfl, fun k hk => ⟨k, hk, rfl⟩, fun a b h1 h2 hne e => dre_i hI (show i < 3 by omega) a b h1 h2 hne e, by show 0 < 1; decide, fun k h1 h2 => ⟨rfl, rfl⟩, fun k hk => by
          have hk : k ≤ 0 := hk
          rw [show k = 0 by omega]
          exact hk0⟩ (fun l hl => by
          rw [show l = 0 by omega]
          exact mCopy_a (hTb.2.2.2 0 (by omega)) (hwo 0 (by omega)) hn3)
      · exact absurd c51 (by omega)
  · refine v_iconst (v := nI 0) dX10_join_13 (by decide) ?_
    refine v_iret dX10_join_14 rfl (by first | rfl | exact nar_bI) ?_
    have hA : pJoi D x q = (none, x) := by
      unfold pJoi
      split
      · rfl
      · rename_i i hi
        exfalso
        rw [show ix 2 q = some i from hi] at c10
        exact Bool.noConfusion c10
    rw [hA, c10]
    exact ⟨rfl, rfl, _, rfl, mRel_0 hR, rfl⟩

/-- the invariant over join -/
theorem dOk_joi {D : Nat} {x : dV} {q : Int32} (h : dOk D x) (hl : dLv x) : dOk D (pJoi D x q).2 := by
  unfold pJoi
  split
  · exact h
  · rename_i i hi
    have i2 := (ix_r hi (by decide)).1
    obtain ⟨h1, h2, h3, h4, h5, h6, h7⟩ := id h
    have hz8 := (h3 i (by omega)).2
    have hn3 := (h3 i (by omega)).1.1
    have hX : ∀ k, k < 60 → dX D ((dZ x i).1 k) ∧ (dZ x i).1 k ≠ D + 1301 + 1 ∧ (dZ x i).1 k ≠ D + 1301 + 8 := fun k hk => ⟨dre_X h (show i < 3 by omega) k hk, dXs_n (h5.1 i k (by omega) hk)⟩
    have hjA : jsA (dX D) (D + 1301) := (dsa h (show i < 3 by omega)).2.1
    have hsi : sIn (dZ x i).1 := fun a b a1 b1 hne e => dre_i h (show i < 3 by omega) a b a1 b1 hne e
    have key : (∀ z, dX D z → enOk ((jaL (dZ x i).2.1.1 (D + 1301) ((dZ x i).2.2 - 1) 1 (dW x, (dZ x i).1, dJ x, 0)).1 z)) ∧ (∀ z, (∀ k, k < 60 → z ≠ (dZ x i).1 k) → z ≠ D + 1301 + 1 → z ≠ D + 1301 + 8 → (jaL (dZ x i).2.1.1 (D + 1301) ((dZ x i).2.2 - 1) 1 (dW x, (dZ x i).1, dJ x, 0)).1 z = dW x z) ∧ (∀ k, k < 60 → ∃ l, l < 60 ∧ (jaL (dZ x i).2.1.1 (D + 1301) ((dZ x i).2.2 - 1) 1 (dW x, (dZ x i).1, dJ x, 0)).2.1 k = (dZ x i).1 l) ∧ sIn (jaL (dZ x i).2.1.1 (D + 1301) ((dZ x i).2.2 - 1) 1 (dW x, (dZ x i).1, dJ x, 0)).2.1 ∧ ∀ k, k < min (dZ x i).2.2 ((jaL (dZ x i).2.1.1 (D + 1301) ((dZ x i).2.2 - 1) 1 (dW x, (dZ x i).1, dJ x, 0)).2.2.2 + 1) → eGo ((jaL (dZ x i).2.1.1 (D + 1301) ((dZ x i).2.2 - 1) 1 (dW x, (dZ x i).1, dJ x, 0)).1 ((jaL (dZ x i).2.1.1 (D + 1301) ((dZ x i).2.2 - 1) 1 (dW x, (dZ x i).1, dJ x, 0)).2.1 k)) (dZ x i).2.1.1 (dG x 0) := by
      by_cases e0 : (dZ x i).2.2 = 0
      · rw [e0]
        exact ⟨h4, fun _ _ _ _ => rfl, fun k hk => ⟨k, hk, rfl⟩, hsi, fun k hk => by omega⟩
      · obtain ⟨a1, a2, a3, a4, a5, a6, a7⟩ := jaI_L (X := dX D) (W0 := dW x) (u := (dZ x i).1) (m := (dZ x i).2.1.1) hjA (h2 0 (by omega)) hn3 hX hz8 (fun k hk => ⟨h6 i k i2 hk, (hl.2 i i2).2 k hk⟩) ((dZ x i).2.2 - 1) 1 (dW x, (dZ x i).1, dJ x, 0) (by omega) ⟨h4, fun _ _ _ _ => rfl, fun k hk => ⟨k, hk, rfl⟩, hsi, by show 0 < 1; decide, fun k _ _ => ⟨rfl, rfl⟩, fun k hk => by
          have hk : k ≤ 0 := hk
          rw [show k = 0 by omega]
          exact ⟨h6 i 0 i2 (by omega), (hl.2 i i2).2 0 (by omega)⟩⟩
        exact ⟨a1, a2, a3, a4, fun k hk => (a7 k (by omega)).1⟩
    generalize (jaL (dZ x i).2.1.1 (D + 1301) ((dZ x i).2.2 - 1) 1 (dW x, (dZ x i).1, dJ x, 0)) = X at key
    obtain ⟨k1, k2, k3, k4, k5⟩ := key
    have hsrc : ∀ a k, a < 3 → k < 60 → ∃ l, l < 60 ∧ (va_up (dZ x) i (X.2.1, (dZ x i).2.1, min (dZ x i).2.2 (X.2.2.2 + 1)) a).1 k = (dZ x a).1 l ∧ (a ≠ i → l = k) := fun a k ha hk => by
      by_cases e : a = i
      · subst e
        rw [va_up_self]
        obtain ⟨l, l1, l2⟩ := k3 k hk
        exact ⟨l, l1, l2, fun z => absurd rfl z⟩
      · rw [va_up_ne _ _ e]
        exact ⟨k, hk, rfl, fun _ => rfl⟩
    refine ⟨h1, h2, fun a ha => ?_, k1, ⟨fun a k ha hk => ?_, fun a k b l ha hk hb hl' e => ?_⟩, fun a k ha hk => ?_, h7⟩
    · show shOk (va_up (dZ x) i (X.2.1, (dZ x i).2.1, min (dZ x i).2.2 (X.2.2.2 + 1)) a)
      by_cases e : a = i
      · subst e
        rw [va_up_self]
        exact ⟨(h3 a ha).1, by show min _ _ ≤ 60; omega⟩
      · rw [va_up_ne _ _ e]
        exact h3 a ha
    · obtain ⟨l, l1, l2, -⟩ := hsrc a k ha hk
      show dXs D ((va_up (dZ x) i (X.2.1, (dZ x i).2.1, min (dZ x i).2.2 (X.2.2.2 + 1)) a).1 k)
      rw [l2]
      exact h5.1 a l ha l1
    · have e : (va_up (dZ x) i (X.2.1, (dZ x i).2.1, min (dZ x i).2.2 (X.2.2.2 + 1)) a).1 k = (va_up (dZ x) i (X.2.1, (dZ x i).2.1, min (dZ x i).2.2 (X.2.2.2 + 1)) b).1 l := e
      obtain ⟨p, p1, p2, p3⟩ := hsrc a k ha hk
      obtain ⟨r, r1, r2, r3⟩ := hsrc b l hb hl'
      have e2 := e
      rw [p2, r2] at e2
      obtain ⟨q1, q2⟩ := h5.2 a p b r ha p1 hb r1 e2
      refine ⟨q1, ?_⟩
      subst q1
      by_cases c : a = i
      · subst c
        rw [va_up_self] at e
        exact Classical.byContradiction (fun hne => k4 k l hk hl' hne e)
      · rw [← p3 c, ← r3 c]
        exact q2
    · show eGo (X.1 ((va_up (dZ x) i (X.2.1, (dZ x i).2.1, min (dZ x i).2.2 (X.2.2.2 + 1)) a).1 k)) (va_up (dZ x) i (X.2.1, (dZ x i).2.1, min (dZ x i).2.2 (X.2.2.2 + 1)) a).2.1.1 (dG x 0)
      have hk : k < (va_up (dZ x) i (X.2.1, (dZ x i).2.1, min (dZ x i).2.2 (X.2.2.2 + 1)) a).2.2 := hk
      by_cases e : a = i
      · subst e
        rw [va_up_self] at hk ⊢
        exact k5 k hk
      · rw [va_up_ne _ _ e] at hk ⊢
        have := (h3 a (by omega)).2
        rw [k2 _ (fun l hl q => by have := (h5.2 a k i l (by omega) (by omega) (by omega) hl q).1; omega) (dXs_n (h5.1 a k (by omega) (by omega))).1 (dXs_n (h5.1 a k (by omega) (by omega))).2]
        exact h6 a k ha hk