/-! a sheet and the joiner -/
noncomputable def saS (f : aH) (X : Nat → Prop) (W : Nat → eV) (a : Nat) (v : sV) (j : Nat) (g : Nat → Int32) : aH := va_up (seS f X W a v) (j + 15) (joC g)
def saA (X : Nat → Prop) (a j : Nat) : Prop := seA X a ∧ jsA X j ∧ (j + 15 < a ∨ a + 4 < j)
def saP (f : aH) (X : Nat → Prop) (W : Nat → eV) (a : Nat) (v : sV) (j : Nat) (g : Nat → Int32) : Prop := seP f X W a v ∧ f j = .inr (4, [.ref (j + 1), .ref (j + 8), .ref (j + 15)]) ∧ f (j + 15) = joC g
theorem sh_up {f : aH} {a b : Nat} {v : sV} {e : aC} (h : shP f a v) (hb : b < a ∨ a + 4 < b) : shP (va_up f b e) a v := by
  obtain ⟨p0, p1, p2, p3, p4⟩ := h
  exact ⟨(va_up_ne _ _ (by omega)).trans p0, (va_up_ne _ _ (by omega)).trans p1, (va_up_ne _ _ (by omega)).trans p2, (va_up_ne _ _ (by omega)).trans p3, (va_up_ne _ _ (by omega)).trans p4⟩
theorem saS_ext {f f' : aH} {X : Nat → Prop} {W : Nat → eV} {a j : Nat} {v : sV} {g : Nat → Int32} (hA : saA X a j) (hP : seP f' X W a v) (hj : f' (j + 15) = joC g) (h : ∀ b, ¬ esB X b → b < a ∨ a + 4 < b → b ≠ j + 15 → f' b = f b) : f' = saS f X W a v j g := by
  have q := seS_ext (f := va_up f (j + 15) (joC g)) hA.1 hP (fun b h1 h2 => by
    by_cases e : b = j + 15
    · rw [e, va_up_self, hj]
    · rw [va_up_ne _ _ e, h b h1 h2 e])
  rw [q]
  symm
  refine seS_ext hA.1 ⟨sh_up (seP_S hA.1).1 (by have := hA.2.2; omega), es_up (seP_S hA.1).2 (jsA_o hA.2.1 (Or.inr rfl))⟩ (fun b h1 h2 => ?_)
  by_cases e : b = j + 15
  · subst e
    show va_up _ _ _ _ = va_up _ _ _ _
    rw [va_up_self, va_up_self]
  · show va_up _ _ _ _ = va_up _ _ _ _
    rw [va_up_ne _ _ e, va_up_ne _ _ e, seS_ne h1 h2]
theorem saS_ne {f : aH} {X : Nat → Prop} {W : Nat → eV} {a j b : Nat} {v : sV} {g : Nat → Int32} (h1 : ¬ esB X b) (h2 : b < a ∨ a + 4 < b) (h3 : b ≠ j + 15) : saS f X W a v j g b = f b := (va_up_ne _ _ h3).trans (seS_ne h1 h2)
theorem sa_se {f : aH} {X : Nat → Prop} {W : Nat → eV} {a j : Nat} {v : sV} {g : Nat → Int32} (hA : saA X a j) : seP (saS f X W a v j g) X W a v := ⟨sh_up (seP_S hA.1).1 (by have := hA.2.2; omega), es_up (seP_S hA.1).2 (jsA_o hA.2.1 (Or.inr rfl))⟩
theorem saS_id {f : aH} {X : Nat → Prop} {W : Nat → eV} {a j : Nat} {v : sV} {g : Nat → Int32} (hA : saA X a j) (h : saP f X W a v j g) : saS f X W a v j g = f := (saS_ext hA h.1 h.2.2 (fun _ _ _ _ => rfl)).symm
theorem saP_S {f : aH} {X : Nat → Prop} {W U : Nat → eV} {a j : Nat} {v w : sV} {g k : Nat → Int32} (hA : saA X a j) (h : saP f X U a w j k) : saP (saS f X W a v j g) X W a v j g := ⟨sa_se hA, (saS_ne (jsA_o hA.2.1 (Or.inl rfl)) (by have := hA.2.2; omega) (by omega)).trans h.2.1, va_up_self _ _ _⟩
theorem saS_js {f : aH} {X : Nat → Prop} {W U : Nat → eV} {a j : Nat} {v : sV} {g k : Nat → Int32} (hA : saA X a j) : jsS (saS f X W a v j g) X U j k = saS f X U a v j k :=
  saS_ext hA ⟨sh_up (sh_esS (sa_se hA).1 hA.1.2) (by have := hA.2.2; omega), js_es hA.2.1⟩ (va_up_self _ _ _) (fun b h1 h2 h3 => by rw [jsS_ne h1 h3, saS_ne h1 h2 h3])
theorem saS_sh {f : aH} {X : Nat → Prop} {W : Nat → eV} {a j : Nat} {v w : sV} {g : Nat → Int32} (hA : saA X a j) : shS (saS f X W a v j g) a w = saS f X W a w j g :=
  saS_ext hA ⟨shP_S _ _ _, es_shS (sa_se hA).2 hA.1.2⟩ ((shS_ne (by have := hA.2.2; omega)).trans (va_up_self _ _ _)) (fun b h1 h2 h3 => by rw [shS_ne h2, saS_ne h1 h2 h3])
theorem jJoin_ok {X : Nat → Prop} {W : Nat → eV} {x y j n : Nat} {g : Nat → Int32} (hA : jsA X j) (hW : ∀ z, X z → enOk (W z)) (hx : X x) (hy : X y) : ∀ z, X z → enOk ((jJoin W x y j n g).2.1 z) := by
  have hfst : enOk (jFst W x y j) := eRch_ok (eCopy_ok (hW _ hA.2.1) (hW x hx))
  have hsnd : enOk (jSnd W x y j) := eRch_ok (eCopy_ok (hW _ hA.2.2.1) (hW y hy))
  have hal := jAl_ok (g := g) hfst hsnd
  unfold jJoin
  split
  · split
    · exact upW_ok (upW_ok (upW_ok hW (jCaS_ok hsnd _ _ _ hal)) hsnd) (eCopy_ok (hW x hx) (jCaS_ok hsnd _ _ _ hal))
    · exact upW_ok (upW_ok hW hal) hsnd
  · exact hW
abbrev jaV : Type := (Nat → eV) × (Nat → Nat) × (Nat → Int32) × Nat
abbrev swp (e : Nat → Nat) (i j : Nat) : Nat → Nat := va_up (va_up e i (e j)) j (e i)
def jaS (k j i : Nat) (x : jaV) : jaV :=
  if (jJoin x.1 (x.2.1 x.2.2.2) (x.2.1 i) j k x.2.2.1).1 = true then ((jJoin x.1 (x.2.1 x.2.2.2) (x.2.1 i) j k x.2.2.1).2.1, x.2.1, (jJoin x.1 (x.2.1 x.2.2.2) (x.2.1 i) j k x.2.2.1).2.2, x.2.2.2)
  else ((jJoin x.1 (x.2.1 x.2.2.2) (x.2.1 i) j k x.2.2.1).2.1, swp x.2.1 (x.2.2.2 + 1) i, (jJoin x.1 (x.2.1 x.2.2.2) (x.2.1 i) j k x.2.2.1).2.2, x.2.2.2 + 1)
def jaL (k j : Nat) : Nat → Nat → jaV → jaV
  | 0, _, x => x
  | d + 1, i, x => jaL k j d (i + 1) (jaS k j i x)
def sIn (e : Nat → Nat) : Prop := ∀ i j, i < 60 → j < 60 → i ≠ j → e i ≠ e j
theorem sIn_swp {e : Nat → Nat} {i j : Nat} (h : sIn e) (hi : i < 60) (hj : j < 60) : sIn (swp e i j) := by
  intro x y hx hy hn
  have a2 := h x i hx hi
  have a3 := h y i hy hi
  have a4 := h x j hx hj
  have a5 := h y j hy hj
  have a1 := h x y hx hy hn
  have a6 := h i j hi hj
  show va_up _ _ _ _ ≠ va_up _ _ _ _
  unfold va_up
  split
  · split
    · omega
    · split
      · next q1 q2 q3 => exact a6 (fun z => by omega)
      · next q1 q2 q3 => exact fun z => a3 q3 z.symm
  · split
    · next q1 =>
      split
      · next q2 q3 => exact fun z => a6 (fun w => by omega) z.symm
      · split
        · omega
        · exact fun z => a5 (by assumption) z.symm
    · split
      · exact a2 (by assumption)
      · split
        · exact a4 (by assumption)
        · exact a1
theorem swp_P {P : Nat → Prop} {e : Nat → Nat} {i j : Nat} (h : ∀ k, k < 60 → P (e k)) (hi : i < 60) (hj : j < 60) : ∀ k, k < 60 → P (swp e i j k) := fun k hk => by
  show P (va_up _ _ _ _)
  unfold va_up
  split
  · exact h i hi
  · split
    · exact h j hj
    · exact h k hk

set_option maxRecDepth 100000 in
set_option maxHeartbeats 4000000 in
/-- Sheet.joinAll -/
theorem sX7_joinAll {E : eN} (hE : eOk E) {f : aH} {t : Nat} {a j : Nat} {X : Nat → Prop} {W : Nat → eV} {v : sV} {g : Nat → Int32} (hA : saA X a j) (h : saP f X W a v j g) (hv : shOk v) (hW : ∀ z, X z → enOk (W z)) (hX : ∀ k, k < 60 → X (v.1 k) ∧ v.1 k ≠ j + 1 ∧ v.1 k ≠ j + 8) (hin : sIn v.1) : mT E mX7_joinAll 0 0 [.ref a, .ref j] f t (fun o f' t' => o = .inl none ∧ t' = t ∧ f' = saS f X (jaL v.2.1.1 j (v.2.2 - 1) 1 (W, v.1, g, 0)).1 a ((jaL v.2.1.1 j (v.2.2 - 1) 1 (W, v.1, g, 0)).2.1, v.2.1, min v.2.2 ((jaL v.2.1.1 j (v.2.2 - 1) 1 (W, v.1, g, 0)).2.2.2 + 1)) j (jaL v.2.1.1 j (v.2.2 - 1) 1 (W, v.1, g, 0)).2.2.1) := by
  refine mT_of (n := 2) (lo := [some (.ref a), some (.ref j), none, none]) (by decide) (by exact Nat.le_of_ble_eq_true rfl) rfl rfl ?_
  have k0 : v.2.1.1 ≤ 3 := hv.1.1
  have k1 := hv.2
  have lp : ∀ (d : Nat) (i : Nat) (x : jaV), i + d = max 1 v.2.2 → 1 ≤ i → x.2.2.2 < i → (∀ z, X z → enOk (x.1 z)) → (∀ k, k < 60 → X (x.2.1 k) ∧ x.2.1 k ≠ j + 1 ∧ x.2.1 k ≠ j + 8) → sIn x.2.1 → (jaL v.2.1.1 j (v.2.2 - 1) 1 (W, v.1, g, 0)) = jaL v.2.1.1 j (v.2.2 - i) i x → V E mX7_joinAll 0 0 (fun o f' t' => o = .inl none ∧ t' = t ∧ f' = saS f X (jaL v.2.1.1 j (v.2.2 - 1) 1 (W, v.1, g, 0)).1 a ((jaL v.2.1.1 j (v.2.2 - 1) 1 (W, v.1, g, 0)).2.1, v.2.1, min v.2.2 ((jaL v.2.1.1 j (v.2.2 - 1) 1 (W, v.1, g, 0)).2.2.2 + 1)) j (jaL v.2.1.1 j (v.2.2 - 1) 1 (W, v.1, g, 0)).2.2.1) 4 [some (.ref a), some (.ref j), some (.int (nI x.2.2.2)), some (.int (nI i))] [] (saS f X x.1 a (x.2.1, v.2) j x.2.2.1) t 0 0 := by
    intro d
    induction d using Nat.strongRecOn with
    | _ d ih =>
    intro i x hi hi1 hl hx1 hx2 hx4 he
    obtain ⟨⟨⟨p0, p1, p2, p3, p4⟩, hEs⟩, hj0, hj1⟩ := saP_S (W := x.1) (v := (x.2.1, v.2)) (g := x.2.2.1) hA h
    dsimp only at p0 p1 p2 p3 p4
    refine v_iload_n dX7_joinAll_4 rfl (by rfl) ?_
    refine v_aload_n dX7_joinAll_5 rfl (by rfl) ?_
    refine v_getf hE dX7_joinAll_6 fX7_27 (by repeat (first | assumption | exact va_up_self _ _ _ | refine (va_up_ne _ _ (by omega)).trans ?_)) (by rfl) ?_
    refine v_icmp_geN (tgt := 60) dX7_joinAll_9 (by decide) (by omega) (by omega) (fun c9 => ?_) (fun c9 => ?_)
    · refine v_aload_n dX7_joinAll_60 rfl (by rfl) ?_
      refine v_aload_n dX7_joinAll_61 rfl (by rfl) ?_
      refine v_getf hE dX7_joinAll_62 fX7_27 (by repeat (first | assumption | exact va_up_self _ _ _ | refine (va_up_ne _ _ (by omega)).trans ?_)) (by rfl) ?_
      refine v_iload_n dX7_joinAll_65 rfl (by rfl) ?_
      refine v_iconst (v := nI 1) dX7_joinAll_66 (by decide) ?_
      refine v_iaddN dX7_joinAll_67 ?_
      refine v_minN hE dX7_joinAll_68 qX7_80 (by decide) (by exact Nat.le_of_ble_eq_true rfl) (by omega) (by omega) ?_
      refine v_putf hE dX7_joinAll_71 fX7_27 (by repeat (first | assumption | exact va_up_self _ _ _ | refine (va_up_ne _ _ (by omega)).trans ?_)) (by exact Nat.le_of_ble_eq_true rfl) (by rfl) (by rfl) (by rfl) ?_
      refine v_hp ((sh_sz (sa_se hA).1).trans (saS_sh hA)) ?_
      refine v_ret dX7_joinAll_74 rfl ?_
      refine ⟨rfl, rfl, ?_⟩
      rw [he, show v.2.2 - i = 0 by omega]
      rfl
    · have hxl := hx2 x.2.2.2 (by omega)
      have hxi := hx2 i (by omega)
      have hne := hx4 x.2.2.2 i (by omega) (by omega) (by omega)
      refine v_aload_n dX7_joinAll_12 rfl (by rfl) ?_
      refine v_aload_n dX7_joinAll_13 rfl (by rfl) ?_
      refine v_getf hE dX7_joinAll_14 fX7_11 (by repeat (first | assumption | exact va_up_self _ _ _ | refine (va_up_ne _ _ (by omega)).trans ?_)) (by rfl) ?_
      refine v_iload_n dX7_joinAll_17 rfl (by rfl) ?_
      refine v_aaldC hE dX7_joinAll_18 (by repeat (first | assumption | exact va_up_self _ _ _ | refine (va_up_ne _ _ (by omega)).trans ?_)) (by omega) ?_
      refine v_aload_n dX7_joinAll_19 rfl (by rfl) ?_
      refine v_getf hE dX7_joinAll_20 fX7_11 (by repeat (first | assumption | exact va_up_self _ _ _ | refine (va_up_ne _ _ (by omega)).trans ?_)) (by rfl) ?_
      refine v_iload_n dX7_joinAll_23 rfl (by rfl) ?_
      refine v_aaldC hE dX7_joinAll_24 (by repeat (first | assumption | exact va_up_self _ _ _ | refine (va_up_ne _ _ (by omega)).trans ?_)) (by omega) ?_
      refine v_aload_n dX7_joinAll_25 rfl (by rfl) ?_
      refine v_getf hE dX7_joinAll_26 fX7_22 (by repeat (first | assumption | exact va_up_self _ _ _ | refine (va_up_ne _ _ (by omega)).trans ?_)) (by rfl) ?_
      refine v_getf hE dX7_joinAll_29 fX7_34 (by repeat (first | assumption | exact va_up_self _ _ _ | refine (va_up_ne _ _ (by omega)).trans ?_)) (by rfl) ?_
      refine w_callV hE dX7_joinAll_32 kX7_70 (by repeat (first | assumption | exact va_up_self _ _ _ | refine (va_up_ne _ _ (by omega)).trans ?_)) (by rfl) (by rfl) (sX4_joins hE hA.2.1 ⟨hj0, hEs, hj1⟩ hx1 hxl.1 hxi.1 (by have := hA.2.1.2.2.2 _ hxl.1; omega) (by have := hA.2.1.2.2.2 _ hxi.1; omega) (by have := hA.1.1 _ _ hxl.1 hxi.1 hne; omega) k0) rfl (by decide) (by decide) (by exact Nat.le_of_ble_eq_true rfl) (by omega) (by omega) (fun v9 g9 u9 h9 => ?_) (fun _ _ _ h => by cases h.1)
      obtain ⟨hv9, hu9, hg9⟩ := h9
      replace hu9 := hu9.symm
      replace hg9 := hg9.symm
      subst hu9
      subst hg9
      cases hv9
      refine v_hp (saS_js hA) ?_
      obtain ⟨⟨⟨p0, p1, p2, p3, p4⟩, hEs⟩, hj0, hj1⟩ := saP_S (W := (jJoin x.1 (x.2.1 x.2.2.2) (x.2.1 i) j v.2.1.1 x.2.2.1).2.1) (v := (x.2.1, v.2)) (g := (jJoin x.1 (x.2.1 x.2.2.2) (x.2.1 i) j v.2.1.1 x.2.2.1).2.2) hA h
      dsimp only at p0 p1 p2 p3 p4
      refine v_if_neB (tgt := 54) dX7_joinAll_35 (by decide) (fun c35 => ?_) (fun c35 => ?_)
      · refine v_iincN (y := 1) dX7_joinAll_54 (by rfl) (by decide) (by decide) ?_
        refine v_goto (tgt := 4) dX7_joinAll_57 (by decide) ?_
        first
          | (have hz : jaS v.2.1.1 j i x = ((jJoin x.1 (x.2.1 x.2.2.2) (x.2.1 i) j v.2.1.1 x.2.2.1).2.1, x.2.1, (jJoin x.1 (x.2.1 x.2.2.2) (x.2.1 i) j v.2.1.1 x.2.2.1).2.2, x.2.2.2) := if_pos c35
             exact ih (d - 1) (by omega) (i + 1) ((jJoin x.1 (x.2.1 x.2.2.2) (x.2.1 i) j v.2.1.1 x.2.2.1).2.1, x.2.1, (jJoin x.1 (x.2.1 x.2.2.2) (x.2.1 i) j v.2.1.1 x.2.2.1).2.2, x.2.2.2) (by omega) (by omega) (by show x.2.2.2 < i + 1; omega) (jJoin_ok hA.2.1 hx1 hxl.1 hxi.1) hx2 hx4 (he.trans (by rw [show v.2.2 - i = (v.2.2 - (i + 1)) + 1 by omega]; show jaL _ _ _ _ (jaS _ _ _ _) = _; rw [hz])))
          | (have hz : jaS v.2.1.1 j i x = ((jJoin x.1 (x.2.1 x.2.2.2) (x.2.1 i) j v.2.1.1 x.2.2.1).2.1, swp x.2.1 (x.2.2.2 + 1) i, (jJoin x.1 (x.2.1 x.2.2.2) (x.2.1 i) j v.2.1.1 x.2.2.1).2.2, x.2.2.2 + 1) := if_neg (by rw [c35]; decide)
             exact ih (d - 1) (by omega) (i + 1) ((jJoin x.1 (x.2.1 x.2.2.2) (x.2.1 i) j v.2.1.1 x.2.2.1).2.1, swp x.2.1 (x.2.2.2 + 1) i, (jJoin x.1 (x.2.1 x.2.2.2) (x.2.1 i) j v.2.1.1 x.2.2.1).2.2, x.2.2.2 + 1) (by omega) (by omega) (by show x.2.2.2 + 1 < i + 1; omega) (jJoin_ok hA.2.1 hx1 hxl.1 hxi.1) (swp_P (P := fun z => X z ∧ z ≠ j + 1 ∧ z ≠ j + 8) hx2 (by omega) (by omega)) (sIn_swp hx4 (by omega) (by omega)) (he.trans (by rw [show v.2.2 - i = (v.2.2 - (i + 1)) + 1 by omega]; show jaL _ _ _ _ (jaS _ _ _ _) = _; rw [hz])))
      · refine v_iincN (y := 1) dX7_joinAll_38 (by rfl) (by decide) (by decide) ?_
        refine v_aload_n dX7_joinAll_41 rfl (by rfl) ?_
        refine v_getf hE dX7_joinAll_42 fX7_11 (by repeat (first | assumption | exact va_up_self _ _ _ | refine (va_up_ne _ _ (by omega)).trans ?_)) (by rfl) ?_
        refine v_iload_n dX7_joinAll_45 rfl (by rfl) ?_
        refine v_aload_n dX7_joinAll_46 rfl (by rfl) ?_
        refine v_getf hE dX7_joinAll_47 fX7_11 (by repeat (first | assumption | exact va_up_self _ _ _ | refine (va_up_ne _ _ (by omega)).trans ?_)) (by rfl) ?_
        refine v_iload_n dX7_joinAll_50 rfl (by rfl) ?_
        refine w_callS hE dX7_joinAll_51 kX7_76 (by rfl) (sX7_swap_self hE p1 (by omega) (by omega) (hEs _ (hx2 _ (by omega)).1).1 (hEs _ hxi.1).1 (by have := hA.1.2 _ (hx2 (x.2.2.2 + 1) (by omega)).1; omega) (by have := hA.1.2 _ hxi.1; omega)) rfl (by decide) (by decide) (by exact Nat.le_of_ble_eq_true rfl) (by omega) (by omega) (fun v9 g9 u9 h9 => ?_) (fun _ _ _ h => by cases h.1)
        obtain ⟨hv9, hu9, hg9⟩ := h9
        replace hu9 := hu9.symm
        replace hg9 := hg9.symm
        subst hu9
        subst hg9
        cases hv9
        refine v_hp ((sh_ar (sa_se hA).1).trans (saS_sh hA)) ?_
        refine v_iincN (y := 1) dX7_joinAll_54 (by rfl) (by decide) (by decide) ?_
        refine v_goto (tgt := 4) dX7_joinAll_57 (by decide) ?_
        first
          | (have hz : jaS v.2.1.1 j i x = ((jJoin x.1 (x.2.1 x.2.2.2) (x.2.1 i) j v.2.1.1 x.2.2.1).2.1, x.2.1, (jJoin x.1 (x.2.1 x.2.2.2) (x.2.1 i) j v.2.1.1 x.2.2.1).2.2, x.2.2.2) := if_pos c35
             exact ih (d - 1) (by omega) (i + 1) ((jJoin x.1 (x.2.1 x.2.2.2) (x.2.1 i) j v.2.1.1 x.2.2.1).2.1, x.2.1, (jJoin x.1 (x.2.1 x.2.2.2) (x.2.1 i) j v.2.1.1 x.2.2.1).2.2, x.2.2.2) (by omega) (by omega) (by show x.2.2.2 < i + 1; omega) (jJoin_ok hA.2.1 hx1 hxl.1 hxi.1) hx2 hx4 (he.trans (by rw [show v.2.2 - i = (v.2.2 - (i + 1)) + 1 by omega]; show jaL _ _ _ _ (jaS _ _ _ _) = _; rw [hz])))
          | (have hz : jaS v.2.1.1 j i x = ((jJoin x.1 (x.2.1 x.2.2.2) (x.2.1 i) j v.2.1.1 x.2.2.1).2.1, swp x.2.1 (x.2.2.2 + 1) i, (jJoin x.1 (x.2.1 x.2.2.2) (x.2.1 i) j v.2.1.1 x.2.2.1).2.2, x.2.2.2 + 1) := if_neg (by rw [c35]; decide)
             exact ih (d - 1) (by omega) (i + 1) ((jJoin x.1 (x.2.1 x.2.2.2) (x.2.1 i) j v.2.1.1 x.2.2.1).2.1, swp x.2.1 (x.2.2.2 + 1) i, (jJoin x.1 (x.2.1 x.2.2.2) (x.2.1 i) j v.2.1.1 x.2.2.1).2.2, x.2.2.2 + 1) (by omega) (by omega) (by show x.2.2.2 + 1 < i + 1; omega) (jJoin_ok hA.2.1 hx1 hxl.1 hxi.1) (swp_P (P := fun z => X z ∧ z ≠ j + 1 ∧ z ≠ j + 8) hx2 (by omega) (by omega)) (sIn_swp hx4 (by omega) (by omega)) (he.trans (by rw [show v.2.2 - i = (v.2.2 - (i + 1)) + 1 by omega]; show jaL _ _ _ _ (jaS _ _ _ _) = _; rw [hz])))
  refine v_hp (show f = saS f X W a (v.1, v.2) j g from (saS_id hA h).symm) ?_
  refine v_iconst (v := nI 0) dX7_joinAll_0 (by decide) ?_
  refine v_istore_n dX7_joinAll_1 rfl (by decide) ?_
  refine v_iconst (v := nI 1) dX7_joinAll_2 (by decide) ?_
  refine v_istore_n dX7_joinAll_3 rfl (by decide) ?_
  exact lp (max 1 v.2.2 - 1) 1 (W, v.1, g, 0) (by omega) (by omega) (by show 0 < 1; omega) hW hX hin rfl

def shNmT (v : nV) : Nat → Nat → List Int32
  | 0, _ => []
  | d + 1, i => ([nI 9] ++ prt v.2.1 (v.2.2 i) (i * 20)) ++ shNmT v d (i + 1)
def shEnT (W : Nat → eV) (e : Nat → Nat) (k : Nat) (g : gV) : Nat → Nat → List Int32
  | 0, _ => []
  | d + 1, i => eWr (W (e i)) k g (eSq (W (e i))).toNatClampNeg (ePl (W (e i))).toNatClampNeg ++ shEnT W e k g d (i + 1)
def shWrH (v : sV) : List Int32 := (((txI tx3 ++ [nI 10]) ++ txI tx5) ++ (if v.2.1.1 = 0 then [] else [nI 9] ++ txI tx6)) ++ (shNmT v.2.1 (v.2.1.1 - 0) 0 ++ [nI 10])
def shWr (W : Nat → eV) (v : sV) (g : gV) : List Int32 := shWrH v ++ shEnT W v.1 v.2.1.1 g (v.2.2 - 0) 0
/-- a record that can be written with n samples over the reference g -/
def eGd (v : eV) (n : Nat) (g : gV) : Prop := (∃ s p : Nat, eSq v = nI s ∧ ePl v = nI p ∧ s < g.1.1 ∧ p < 2 ^ 28) ∧ (eQu v = -1 ∨ ∃ x : Nat, x < 2 ^ 29 ∧ eQu v = nI x) ∧ ∀ i, i < n → eCaOk v i
theorem sh_oS {f : aH} {a b : Nat} {v : sV} {s : tS} (h : shP f a v) (hd : b + 1 < a ∨ a + 4 < b) : shP (oS f b s) a v := by
  obtain ⟨h0, h1, h2, h3, h4⟩ := h
  exact ⟨(oS_ne (by omega) (by omega)).trans h0, (oS_ne (by omega) (by omega)).trans h1, (oS_ne (by omega) (by omega)).trans h2, (oS_ne (by omega) (by omega)).trans h3, (oS_ne (by omega) (by omega)).trans h4⟩

set_option maxRecDepth 100000 in
set_option maxHeartbeats 4000000 in
/-- Sheet.writeTo -/
theorem sX7_writeTo {E : eN} (hE : eOk E) {f : aH} {t : Nat} {a b c : Nat} {X : Nat → Prop} {W : Nat → eV} {v : sV} {u : tS} {g : gV} (hS : eSt E) (h : seP f X W a v) (hv : shOk v) (hW : ∀ z, X z → enOk (W z)) (hX : ∀ i, i < 60 → X (v.1 i)) (hb : oP f b u) (hg : gnP f c g) (hgo : gOk g) (hd : b + 1 < a ∨ a + 4 < b) (hdg : b + 1 < c ∨ c + 8 < b) (hbX : ∀ x, X x → b + 1 < x ∨ x + 6 < b) (hG : ∀ i, i < v.2.2 → eGd (W (v.1 i)) v.2.1.1 g) : mT E mX7_writeTo 0 0 [.ref a, .ref b, .ref c] f t (fun o f' t' => o = .inl none ∧ t' = t ∧ f' = oS f b (tAdds u (shWr W v g))) := by
  refine mT_of (n := 1) (lo := [some (.ref a), some (.ref b), some (.ref c), none]) (by decide) (by exact Nat.le_of_ble_eq_true rfl) rfl rfl ?_
  have k0 : v.2.1.1 ≤ 3 := hv.1.1
  have k1 := hv.2
  have hu : u.1 ≤ 8000 := hb.2
  obtain ⟨p0, p1, p2, p3, p4⟩ := id h.1
  have l2 : ∀ (d : Nat) (i : Nat) (l : List Int32), i + d = v.2.2 → shWr W v g = l ++ shEnT W v.1 v.2.1.1 g (v.2.2 - i) i → V E mX7_writeTo 0 0 (fun o f' t' => o = .inl none ∧ t' = t ∧ f' = oS f b (tAdds u (shWr W v g))) 82 [some (.ref a), some (.ref b), some (.ref c), some (.int (nI i))] [] (oS f b (tAdds u l)) t 0 0 := by
    intro d
    induction d using Nat.strongRecOn with
    | _ d ih =>
    intro i l hi he
    refine v_iload_n dX7_writeTo_82 rfl (by rfl) ?_
    refine v_aload_n dX7_writeTo_83 rfl (by rfl) ?_
    refine v_getf hE dX7_writeTo_84 fX7_27 (by first | assumption | exact (oP_S (tAdds_le hu)).1.1 | exact (oS_ne (by omega) (by omega)).trans (by assumption)) (by rfl) ?_
    refine v_icmp_geN (tgt := 114) dX7_writeTo_87 (by decide) (by omega) (by omega) (fun c87 => ?_) (fun c87 => ?_)
    · refine v_ret dX7_writeTo_114 rfl ?_
      refine ⟨rfl, rfl, ?_⟩
      rw [he, show v.2.2 - i = 0 by omega]
      show _ = oS f b (tAdds u (l ++ []))
      rw [List.append_nil]
    · obtain ⟨⟨s, p, hs, hp, hs2, bp⟩, hqu, hca⟩ := hG i (by omega)
      have hxi := hX i (by omega)
      have hxb := hbX _ hxi
      obtain ⟨x0, x1, x2, x3, x4, x5, x6⟩ := h.2 _ hxi
      refine v_aload_n dX7_writeTo_90 rfl (by rfl) ?_
      refine v_getf hE dX7_writeTo_91 fX7_11 (by first | assumption | exact (oP_S (tAdds_le hu)).1.1 | exact (oS_ne (by omega) (by omega)).trans (by assumption)) (by rfl) ?_
      refine v_iload_n dX7_writeTo_94 rfl (by rfl) ?_
      refine v_aaldC hE dX7_writeTo_95 (by first | assumption | exact (oP_S (tAdds_le hu)).1.1 | exact (oS_ne (by omega) (by omega)).trans (by assumption)) (by omega) ?_
      refine v_aload_n dX7_writeTo_96 rfl (by rfl) ?_
      refine v_aload_n dX7_writeTo_97 rfl (by rfl) ?_
      refine v_getf hE dX7_writeTo_98 fX7_22 (by first | assumption | exact (oP_S (tAdds_le hu)).1.1 | exact (oS_ne (by omega) (by omega)).trans (by assumption)) (by rfl) ?_
      refine v_getf hE dX7_writeTo_101 fX7_34 (by first | assumption | exact (oP_S (tAdds_le hu)).1.1 | exact (oS_ne (by omega) (by omega)).trans (by assumption)) (by rfl) ?_
      refine v_aload_n dX7_writeTo_104 rfl (by rfl) ?_
      refine w_callV hE dX7_writeTo_105 kX7_139 (by first | assumption | exact (oP_S (tAdds_le hu)).1.1 | exact (oS_ne (by omega) (by omega)).trans (by assumption)) (by rfl) (by rfl) (sX0_writeTo hE hS (en_oS (h.2 _ (hX i (by omega))) (by have := hbX _ (hX i (by omega)); omega)) (hW _ (hX i (by omega))) (oP_S (tAdds_le hu)) (gn_oS hg hdg) hgo (by have := hbX _ (hX i (by omega)); omega) hdg hs hp hs2 bp (by omega) hqu hca) rfl (by decide) (by decide) (by exact Nat.le_of_ble_eq_true rfl) (by omega) (by omega) (fun v9 g9 u9 h9 => ?_) (fun _ _ _ h => by cases h.1)
      obtain ⟨hv9, hu9, hg9⟩ := h9
      replace hu9 := hu9.symm
      replace hg9 := hg9.symm
      subst hu9
      subst hg9
      cases hv9
      refine v_hp (oS_S.trans (congrArg (oS f b) tAdds_app)) ?_
      refine v_iincN (y := 1) dX7_writeTo_108 (by rfl) (by decide) (by decide) ?_
      refine v_goto (tgt := 82) dX7_writeTo_111 (by decide) ?_
      exact ih (d - 1) (by omega) (i + 1) _ (by omega) (he.trans (by rw [show v.2.2 - i = (v.2.2 - (i + 1)) + 1 by omega]; show l ++ (eWr _ _ _ _ _ ++ _) = _; rw [hs, hp, nI_clamp (by have := hgo.1.1; have := hgo.1.2.1; omega), nI_clamp (by omega), List.append_assoc]))
  have l1 : ∀ (d : Nat) (i : Nat) (l : List Int32), i + d = v.2.1.1 → shWrH v = l ++ (shNmT v.2.1 (v.2.1.1 - i) i ++ [nI 10]) → V E mX7_writeTo 0 0 (fun o f' t' => o = .inl none ∧ t' = t ∧ f' = oS f b (tAdds u (shWr W v g))) 42 [some (.ref a), some (.ref b), some (.ref c), some (.int (nI i))] [] (oS f b (tAdds u l)) t 0 0 := by
    intro d
    induction d using Nat.strongRecOn with
    | _ d ih =>
    intro i l hi he
    refine v_iload_n dX7_writeTo_42 rfl (by rfl) ?_
    refine v_aload_n dX7_writeTo_43 rfl (by rfl) ?_
    refine v_getf hE dX7_writeTo_44 fX7_22 (by first | assumption | exact (oP_S (tAdds_le hu)).1.1 | exact (oS_ne (by omega) (by omega)).trans (by assumption)) (by rfl) ?_
    refine v_getf hE dX7_writeTo_47 fX7_34 (by first | assumption | exact (oP_S (tAdds_le hu)).1.1 | exact (oS_ne (by omega) (by omega)).trans (by assumption)) (by rfl) ?_
    refine v_icmp_geN (tgt := 74) dX7_writeTo_50 (by decide) (by omega) (by omega) (fun c50 => ?_) (fun c50 => ?_)
    · refine v_aload_n dX7_writeTo_74 rfl (by rfl) ?_
      refine v_bipush (v := nI 10) dX7_writeTo_75 (by decide) ?_
      refine w_callV hE dX7_writeTo_77 kX7_128 (by first | assumption | exact (oP_S (tAdds_le hu)).1.1 | exact (oS_ne (by omega) (by omega)).trans (by assumption)) (by rfl) (by rfl) (uX6_add hE (oP_S (tAdds_le hu))) rfl (by decide) (by decide) (by exact Nat.le_of_ble_eq_true rfl) (by omega) (by omega) (fun v9 g9 u9 h9 => ?_) (fun _ _ _ h => by cases h.1)
      obtain ⟨hv9, hu9, hg9⟩ := h9
      replace hu9 := hu9.symm
      replace hg9 := hg9.symm
      subst hu9
      subst hg9
      cases hv9
      refine v_hp (oS_S.trans (congrArg (oS f b) tAdds_one)) ?_
      refine v_iconst (v := nI 0) dX7_writeTo_80 (by decide) ?_
      refine v_istore_n dX7_writeTo_81 rfl (by decide) ?_
      exact l2 v.2.2 0 _ (by omega) (by unfold shWr; rw [he, show v.2.1.1 - i = 0 by omega]; rfl)
    · refine v_aload_n dX7_writeTo_53 rfl (by rfl) ?_
      refine v_bipush (v := nI 9) dX7_writeTo_54 (by decide) ?_
      refine w_callV hE dX7_writeTo_56 kX7_128 (by first | assumption | exact (oP_S (tAdds_le hu)).1.1 | exact (oS_ne (by omega) (by omega)).trans (by assumption)) (by rfl) (by rfl) (uX6_add hE (oP_S (tAdds_le hu))) rfl (by decide) (by decide) (by exact Nat.le_of_ble_eq_true rfl) (by omega) (by omega) (fun v9 g9 u9 h9 => ?_) (fun _ _ _ h => by cases h.1)
      obtain ⟨hv9, hu9, hg9⟩ := h9
      replace hu9 := hu9.symm
      replace hg9 := hg9.symm
      subst hu9
      subst hg9
      cases hv9
      refine v_hp (oS_S.trans (congrArg (oS f b) tAdds_one)) ?_
      refine v_aload_n dX7_writeTo_59 rfl (by rfl) ?_
      refine v_getf hE dX7_writeTo_60 fX7_22 (by first | assumption | exact (oP_S (tAdds_le hu)).1.1 | exact (oS_ne (by omega) (by omega)).trans (by assumption)) (by rfl) ?_
      refine v_iload_n dX7_writeTo_63 rfl (by rfl) ?_
      refine v_aload_n dX7_writeTo_64 rfl (by rfl) ?_
      refine w_callV hE dX7_writeTo_65 kX7_135 (by first | assumption | exact (oP_S (tAdds_le hu)).1.1 | exact (oS_ne (by omega) (by omega)).trans (by assumption)) (by rfl) (by rfl) (sX5_writeName hE (sh_nm (sh_oS h.1 hd)) hv.1 (oP_S (tAdds_le hu)) (by omega) (by omega)) rfl (by decide) (by decide) (by exact Nat.le_of_ble_eq_true rfl) (by omega) (by omega) (fun v9 g9 u9 h9 => ?_) (fun _ _ _ h => by cases h.1)
      obtain ⟨hv9, hu9, hg9⟩ := h9
      replace hu9 := hu9.symm
      replace hg9 := hg9.symm
      subst hu9
      subst hg9
      cases hv9
      refine v_hp (oS_S.trans (congrArg (oS f b) tAdds_app)) ?_
      refine v_iincN (y := 1) dX7_writeTo_68 (by rfl) (by decide) (by decide) ?_
      refine v_goto (tgt := 42) dX7_writeTo_71 (by decide) ?_
      exact ih (d - 1) (by omega) (i + 1) _ (by omega) (he.trans (by rw [show v.2.1.1 - i = (v.2.1.1 - (i + 1)) + 1 by omega]; show l ++ (((_ ++ _) ++ _) ++ _) = _; simp only [List.append_assoc]))
  refine v_hp (show f = oS f b (tAdds u []) from (oS_id hb).symm) ?_
  refine v_aload_n dX7_writeTo_0 rfl (by rfl) ?_
  refine v_ldcS hS (r := (RX7, 120, "##fileformat=VCFv4.3", tx3)) dX7_writeTo_1 (by unfold strTab; repeat (first | exact List.Mem.head _ | apply List.Mem.tail)) rfl rfl (fun q1 hq1 => ?_)
  refine w_callV hE dX7_writeTo_3 kX7_122 (by first | assumption | exact (oP_S (tAdds_le hu)).1.1 | exact (oS_ne (by omega) (by omega)).trans (by assumption)) (by rfl) (by rfl) (sX6_addText hE (oP_S (tAdds_le hu)) hS (by assumption) (by decide) (by decide)) rfl (by decide) (by decide) (by exact Nat.le_of_ble_eq_true rfl) (by omega) (by omega) (fun v9 g9 u9 h9 => ?_) (fun _ _ _ h => by cases h.1)
  obtain ⟨hv9, hu9, hg9⟩ := h9
  replace hu9 := hu9.symm
  replace hg9 := hg9.symm
  subst hu9
  subst hg9
  cases hv9
  refine v_hp (oS_S.trans (congrArg (oS f b) tAdds_app)) ?_
  refine v_aload_n dX7_writeTo_6 rfl (by rfl) ?_
  refine v_bipush (v := nI 10) dX7_writeTo_7 (by decide) ?_
  refine w_callV hE dX7_writeTo_9 kX7_128 (by first | assumption | exact (oP_S (tAdds_le hu)).1.1 | exact (oS_ne (by omega) (by omega)).trans (by assumption)) (by rfl) (by rfl) (uX6_add hE (oP_S (tAdds_le hu))) rfl (by decide) (by decide) (by exact Nat.le_of_ble_eq_true rfl) (by omega) (by omega) (fun v9 g9 u9 h9 => ?_) (fun _ _ _ h => by cases h.1)
  obtain ⟨hv9, hu9, hg9⟩ := h9
  replace hu9 := hu9.symm
  replace hg9 := hg9.symm
  subst hu9
  subst hg9
  cases hv9
  refine v_hp (oS_S.trans (congrArg (oS f b) tAdds_one)) ?_
  refine v_aload_n dX7_writeTo_12 rfl (by rfl) ?_
  refine v_ldcS hS (r := (RX7, 131, "#CHROM\tPOS\tID\tREF\tALT\tQUAL\tFILTER\tINFO", tx5)) dX7_writeTo_13 (by unfold strTab; repeat (first | exact List.Mem.head _ | apply List.Mem.tail)) rfl rfl (fun q13 hq13 => ?_)
  refine w_callV hE dX7_writeTo_15 kX7_122 (by first | assumption | exact (oP_S (tAdds_le hu)).1.1 | exact (oS_ne (by omega) (by omega)).trans (by assumption)) (by rfl) (by rfl) (sX6_addText hE (oP_S (tAdds_le hu)) hS (by assumption) (by decide) (by decide)) rfl (by decide) (by decide) (by exact Nat.le_of_ble_eq_true rfl) (by omega) (by omega) (fun v9 g9 u9 h9 => ?_) (fun _ _ _ h => by cases h.1)
  obtain ⟨hv9, hu9, hg9⟩ := h9
  replace hu9 := hu9.symm
  replace hg9 := hg9.symm
  subst hu9
  subst hg9
  cases hv9
  refine v_hp (oS_S.trans (congrArg (oS f b) tAdds_app)) ?_
  refine v_aload_n dX7_writeTo_18 rfl (by rfl) ?_
  refine v_getf hE dX7_writeTo_19 fX7_22 (by first | assumption | exact (oP_S (tAdds_le hu)).1.1 | exact (oS_ne (by omega) (by omega)).trans (by assumption)) (by rfl) ?_
  refine v_getf hE dX7_writeTo_22 fX7_34 (by first | assumption | exact (oP_S (tAdds_le hu)).1.1 | exact (oS_ne (by omega) (by omega)).trans (by assumption)) (by rfl) ?_
  refine v_if_leN (tgt := 40) dX7_writeTo_25 (by decide) (by omega) (fun c25 => ?_) (fun c25 => ?_)
  · refine v_iconst (v := nI 0) dX7_writeTo_40 (by decide) ?_
    refine v_istore_n dX7_writeTo_41 rfl (by decide) ?_
    refine l1 v.2.1.1 0 _ (by omega) ?_
    unfold shWrH
    (first | rw [if_pos (by omega : v.2.1.1 = 0)] | rw [if_neg (by omega : ¬ v.2.1.1 = 0)])
    simp only [List.append_assoc, List.nil_append, List.append_nil]
  · refine v_aload_n dX7_writeTo_28 rfl (by rfl) ?_
    refine v_bipush (v := nI 9) dX7_writeTo_29 (by decide) ?_
    refine w_callV hE dX7_writeTo_31 kX7_128 (by first | assumption | exact (oP_S (tAdds_le hu)).1.1 | exact (oS_ne (by omega) (by omega)).trans (by assumption)) (by rfl) (by rfl) (uX6_add hE (oP_S (tAdds_le hu))) rfl (by decide) (by decide) (by exact Nat.le_of_ble_eq_true rfl) (by omega) (by omega) (fun v9 g9 u9 h9 => ?_) (fun _ _ _ h => by cases h.1)
    obtain ⟨hv9, hu9, hg9⟩ := h9
    replace hu9 := hu9.symm
    replace hg9 := hg9.symm
    subst hu9
    subst hg9
    cases hv9
    refine v_hp (oS_S.trans (congrArg (oS f b) tAdds_one)) ?_
    refine v_aload_n dX7_writeTo_34 rfl (by rfl) ?_
    refine v_ldcS hS (r := (RX7, 133, "FORMAT", tx6)) dX7_writeTo_35 (by unfold strTab; repeat (first | exact List.Mem.head _ | apply List.Mem.tail)) rfl rfl (fun q35 hq35 => ?_)
    refine w_callV hE dX7_writeTo_37 kX7_122 (by first | assumption | exact (oP_S (tAdds_le hu)).1.1 | exact (oS_ne (by omega) (by omega)).trans (by assumption)) (by rfl) (by rfl) (sX6_addText hE (oP_S (tAdds_le hu)) hS (by assumption) (by decide) (by decide)) rfl (by decide) (by decide) (by exact Nat.le_of_ble_eq_true rfl) (by omega) (by omega) (fun v9 g9 u9 h9 => ?_) (fun _ _ _ h => by cases h.1)
    obtain ⟨hv9, hu9, hg9⟩ := h9
    replace hu9 := hu9.symm
    replace hg9 := hg9.symm
    subst hu9
    subst hg9
    cases hv9
    refine v_hp (oS_S.trans (congrArg (oS f b) tAdds_app)) ?_
    refine v_iconst (v := nI 0) dX7_writeTo_40 (by decide) ?_
    refine v_istore_n dX7_writeTo_41 rfl (by decide) ?_
    refine l1 v.2.1.1 0 _ (by omega) ?_
    unfold shWrH
    (first | rw [if_pos (by omega : v.2.1.1 = 0)] | rw [if_neg (by omega : ¬ v.2.1.1 = 0)])
    simp only [List.append_assoc, List.nil_append, List.append_nil]
