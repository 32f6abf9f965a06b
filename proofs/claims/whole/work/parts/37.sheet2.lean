theorem eAltC_ok {q i : Nat} : ∀ (d c : Nat) (y : eV), enOk y → enOk (eAltC q i d c y) := by
  intro d
  induction d with
  | zero => intro c y h; exact h
  | succ d ih =>
    intro c y h
    unfold eAltC
    split
    · exact ih _ _ h
    · exact ih _ _ h
theorem eAltS_ok {q : Nat} : ∀ (d i : Nat) (y : eV), enOk y → enOk (eAltS q d i y) := by
  intro d
  induction d with
  | zero => intro c y h; exact h
  | succ d ih => intro c y h; exact ih _ _ (eAltC_ok _ _ _ h)
theorem eTake_ok {v w : eV} {q m : Nat} (h : enOk v) (hw : enOk w) : enOk (eTake v w q m) := eAltS_ok _ _ _ (wRo_ok (eCopyR_ok (eCopy_ok h hw) hw) (by omega))
theorem upW_ok {X : Nat → Prop} {U : Nat → eV} {x : Nat} {v : eV} (h : ∀ z, X z → enOk (U z)) (hv : enOk v) : ∀ z, X z → enOk (va_up U x v z) := fun z hz => by
  unfold va_up
  split
  · exact hv
  · exact h z hz
theorem nmAllK_ok {L : Nat} {w : nV} {n : Nat} : ∀ (d k : Nat) (v : nV), nOk L v → nOk L (nmAllK w n d k v) := by
  intro d
  induction d with
  | zero => intro c y h; exact h
  | succ d ih => intro c y h; exact ih _ _ (nmAdd_ok h)
theorem nmAllN_ok {L : Nat} {w : nV} : ∀ (d k : Nat) (v : nV), nOk L v → nOk L (nmAllN L w d k v) := by
  intro d
  induction d with
  | zero => intro c y h; exact h
  | succ d ih => intro c y h; exact ih _ _ (nmAllK_ok _ _ _ (nmNew_ok h))
theorem nmAll_ok {L : Nat} {v w : nV} (h : nOk L v) : nOk L (nmAll L v w) := nmAllN_ok _ _ _ h
/-- records made by splitting one -/
def sTsL (e : Nat → Nat) (y k : Nat) : Nat → Nat → (Nat → eV) × Nat → (Nat → eV) × Nat
  | 0, _, x => x
  | d + 1, q, x => if x.2 < 60 then sTsL e y k d (q + 1) (va_up x.1 (e x.2) (eTake (x.1 (e x.2)) (x.1 y) q k), x.2 + 1) else x
def sTs0 (e : Nat → Nat) (y : Nat) (x : (Nat → eV) × Nat) : (Nat → eV) × Nat := if 1 < eRo (x.1 y) ∨ 60 ≤ x.2 then x else (va_up x.1 (e x.2) (eCopy (x.1 (e x.2)) (x.1 y)), x.2 + 1)
def sTs (e : Nat → Nat) (y k : Nat) (x : (Nat → eV) × Nat) : (Nat → eV) × Nat := sTsL e y k (eRo (x.1 y) - 1) 1 (sTs0 e y x)
def sSplL (e u : Nat → Nat) (k : Nat) : Nat → Nat → (Nat → eV) × Nat → (Nat → eV) × Nat
  | 0, _, x => x
  | d + 1, i, x => sSplL e u k d (i + 1) (sTs e (u i) k x)
theorem sTsL_ok {X : Nat → Prop} {e : Nat → Nat} {y k : Nat} (hy : X y) (he : ∀ i, i < 60 → X (e i)) (hn : ∀ i, i < 60 → e i ≠ y) : ∀ (d q : Nat) (x : (Nat → eV) × Nat), (∀ z, X z → enOk (x.1 z)) → x.2 ≤ 60 → (∀ z, X z → enOk ((sTsL e y k d q x).1 z)) ∧ (sTsL e y k d q x).2 ≤ 60 := by
  intro d
  induction d with
  | zero => intro q x h1 h2; exact ⟨h1, h2⟩
  | succ d ih =>
    intro q x h1 h2
    unfold sTsL
    split
    · next hlt => exact ih _ _ (upW_ok h1 (eTake_ok (h1 _ (he _ hlt)) (h1 _ hy))) (show x.2 + 1 ≤ 60 by omega)
    · exact ⟨h1, h2⟩
theorem sTs_ok {X : Nat → Prop} {e : Nat → Nat} {y k : Nat} (hy : X y) (he : ∀ i, i < 60 → X (e i)) (hn : ∀ i, i < 60 → e i ≠ y) {x : (Nat → eV) × Nat} (h1 : ∀ z, X z → enOk (x.1 z)) (h2 : x.2 ≤ 60) : (∀ z, X z → enOk ((sTs e y k x).1 z)) ∧ (sTs e y k x).2 ≤ 60 := by
  unfold sTs
  refine sTsL_ok hy he hn _ _ _ ?_ ?_
  · unfold sTs0
    split
    · exact h1
    · next q => exact upW_ok h1 (eCopy_ok (h1 _ (he _ (by omega))) (h1 _ hy))
  · unfold sTs0
    split
    · exact h2
    · next q => show x.2 + 1 ≤ 60; omega

set_option maxRecDepth 100000 in
set_option maxHeartbeats 4000000 in
/-- Sheet.takeSplitEntry -/
theorem sX7_takeSplitEntry {E : eN} (hE : eOk E) {f : aH} {t : Nat} {a y : Nat} {X : Nat → Prop} {W : Nat → eV} {v : sV} (hA : seA X a) (h : seP f X W a v) (hv : shOk v) (hW : ∀ z, X z → enOk (W z)) (hX : ∀ i, i < 60 → X (v.1 i)) (hy : X y) (hyn : ∀ i, i < 60 → v.1 i ≠ y) : mT E mX7_takeSplitEntry 0 0 [.ref a, .ref y] f t (fun o f' t' => o = .inl none ∧ t' = t ∧ f' = seS f X (sTs v.1 y v.2.1.1 (W, v.2.2)).1 a (v.1, v.2.1, (sTs v.1 y v.2.1.1 (W, v.2.2)).2)) := by
  refine mT_of (n := 1) (lo := [some (.ref a), some (.ref y), none]) (by decide) (by exact Nat.le_of_ble_eq_true rfl) rfl rfl ?_
  have k0 : v.2.1.1 ≤ 3 := hv.1.1
  have k1 := hv.2
  obtain ⟨p0, p1, p2, p3, p4⟩ := id h.1
  obtain ⟨y0, y1, y2, y3, y4, y5, y6⟩ := h.2 y hy
  have lp : ∀ (d : Nat) (q : Nat) (U : Nat → eV) (n : Nat), q + d = max 1 (eRo (W y)) → 1 ≤ q → n ≤ 60 → U y = W y → (∀ z, X z → enOk (U z)) → sTs v.1 y v.2.1.1 (W, v.2.2) = sTsL v.1 y v.2.1.1 (eRo (W y) - q) q (U, n) → V E mX7_takeSplitEntry 0 0 (fun o f' t' => o = .inl none ∧ t' = t ∧ f' = seS f X (sTs v.1 y v.2.1.1 (W, v.2.2)).1 a (v.1, v.2.1, (sTs v.1 y v.2.1.1 (W, v.2.2)).2)) 41 [some (.ref a), some (.ref y), some (.int (nI q))] [] (seS f X U a (v.1, v.2.1, n)) t 0 0 := by
    intro d
    induction d using Nat.strongRecOn with
    | _ d ih =>
    intro q U n hq hq1 hn hUy hU he
    obtain ⟨p0, p1, p2, p3, p4⟩ := (seP_S (f := f) (W := U) (v := (v.1, v.2.1, n)) hA).1
    dsimp only at p0 p1 p2 p3 p4
    obtain ⟨y0, y1, y2, y3, y4, y5, y6⟩ := (seP_S (f := f) (W := U) (v := (v.1, v.2.1, n)) hA).2 y hy
    have k9 := (hW y hy).1
    rw [hUy] at y0
    refine v_iload_n dX7_takeSplitEntry_41 rfl (by rfl) ?_
    refine v_aload_n dX7_takeSplitEntry_42 rfl (by rfl) ?_
    refine v_getf hE dX7_takeSplitEntry_43 fX7_41 (by repeat (first | assumption | exact ((seP_S hA).2 _ (hX _ (by omega))).1 | exact va_up_self _ _ _ | refine (va_up_ne _ _ (by omega)).trans ?_)) (by rfl) ?_
    refine v_icmp_geN (tgt := 95) dX7_takeSplitEntry_46 (by decide) (by omega) (by omega) (fun c46 => ?_) (fun c46 => ?_)
    · refine v_ret dX7_takeSplitEntry_95 rfl ?_
      refine ⟨rfl, rfl, ?_⟩
      rw [he]
      first
        | (rw [show eRo (W y) - q = 0 by omega]; rfl)
        | (rw [show eRo (W y) - q = (eRo (W y) - (q + 1)) + 1 by omega, show sTsL v.1 y v.2.1.1 ((eRo (W y) - (q + 1)) + 1) q (U, n) = (U, n) from if_neg (by show ¬ n < 60; omega)])
    · refine v_aload_n dX7_takeSplitEntry_49 rfl (by rfl) ?_
      refine v_getf hE dX7_takeSplitEntry_50 fX7_27 (by repeat (first | assumption | exact ((seP_S hA).2 _ (hX _ (by omega))).1 | exact va_up_self _ _ _ | refine (va_up_ne _ _ (by omega)).trans ?_)) (by rfl) ?_
      refine v_bipush (v := nI 60) dX7_takeSplitEntry_53 (by decide) ?_
      refine v_icmp_geN (tgt := 95) dX7_takeSplitEntry_55 (by decide) (by omega) (by omega) (fun c55 => ?_) (fun c55 => ?_)
      · refine v_ret dX7_takeSplitEntry_95 rfl ?_
        refine ⟨rfl, rfl, ?_⟩
        rw [he]
        first
          | (rw [show eRo (W y) - q = 0 by omega]; rfl)
          | (rw [show eRo (W y) - q = (eRo (W y) - (q + 1)) + 1 by omega, show sTsL v.1 y v.2.1.1 ((eRo (W y) - (q + 1)) + 1) q (U, n) = (U, n) from if_neg (by show ¬ n < 60; omega)])
      · refine v_aload_n dX7_takeSplitEntry_58 rfl (by rfl) ?_
        refine v_getf hE dX7_takeSplitEntry_59 fX7_11 (by repeat (first | assumption | exact ((seP_S hA).2 _ (hX _ (by omega))).1 | exact va_up_self _ _ _ | refine (va_up_ne _ _ (by omega)).trans ?_)) (by rfl) ?_
        refine v_aload_n dX7_takeSplitEntry_62 rfl (by rfl) ?_
        refine v_getf hE dX7_takeSplitEntry_63 fX7_27 (by repeat (first | assumption | exact ((seP_S hA).2 _ (hX _ (by omega))).1 | exact va_up_self _ _ _ | refine (va_up_ne _ _ (by omega)).trans ?_)) (by rfl) ?_
        refine v_aaldC hE dX7_takeSplitEntry_66 (by repeat (first | assumption | exact ((seP_S hA).2 _ (hX _ (by omega))).1 | exact va_up_self _ _ _ | refine (va_up_ne _ _ (by omega)).trans ?_)) (by omega) ?_
        refine v_aload_n dX7_takeSplitEntry_67 rfl (by rfl) ?_
        refine v_iload_n dX7_takeSplitEntry_68 rfl (by rfl) ?_
        refine v_aload_n dX7_takeSplitEntry_69 rfl (by rfl) ?_
        refine v_getf hE dX7_takeSplitEntry_70 fX7_22 (by repeat (first | assumption | exact ((seP_S hA).2 _ (hX _ (by omega))).1 | exact va_up_self _ _ _ | refine (va_up_ne _ _ (by omega)).trans ?_)) (by rfl) ?_
        refine v_getf hE dX7_takeSplitEntry_73 fX7_34 (by repeat (first | assumption | exact ((seP_S hA).2 _ (hX _ (by omega))).1 | exact va_up_self _ _ _ | refine (va_up_ne _ _ (by omega)).trans ?_)) (by rfl) ?_
        refine w_callV hE dX7_takeSplitEntry_76 kX7_66 (by repeat (first | assumption | exact ((seP_S hA).2 _ (hX _ (by omega))).1 | exact va_up_self _ _ _ | refine (va_up_ne _ _ (by omega)).trans ?_)) (by rfl) (by rfl) (sX0_takeAlt hE (v := U (v.1 n)) (w := U y) ((seP_S hA).2 _ (hX n (by omega))) (hU _ (hX n (by omega))) ((seP_S hA).2 y hy) (hU y hy) (by have := hA.1 _ _ (hX n (by omega)) hy (hyn n (by omega)); omega) (by omega) k0) rfl (by decide) (by decide) (by exact Nat.le_of_ble_eq_true rfl) (by omega) (by omega) (fun v9 g9 u9 h9 => ?_) (fun _ _ _ h => by cases h.1)
        obtain ⟨hv9, hu9, hg9⟩ := h9
        replace hu9 := hu9.symm
        replace hg9 := hg9.symm
        subst hu9
        subst hg9
        cases hv9
        refine v_hp (seS_up hA (hX n (by omega))) ?_
        obtain ⟨p0, p1, p2, p3, p4⟩ := (seP_S (f := f) (W := va_up U (v.1 n) (eTake (U (v.1 n)) (U y) q v.2.1.1)) (v := (v.1, v.2.1, n)) hA).1
        dsimp only at p0 p1 p2 p3 p4
        obtain ⟨y0, y1, y2, y3, y4, y5, y6⟩ := (seP_S (f := f) (W := va_up U (v.1 n) (eTake (U (v.1 n)) (U y) q v.2.1.1)) (v := (v.1, v.2.1, n)) hA).2 y hy
        refine v_aload_n dX7_takeSplitEntry_79 rfl (by rfl) ?_
        refine v_dup dX7_takeSplitEntry_80 rfl ?_
        refine v_getf hE dX7_takeSplitEntry_81 fX7_27 (by repeat (first | assumption | exact ((seP_S hA).2 _ (hX _ (by omega))).1 | exact va_up_self _ _ _ | refine (va_up_ne _ _ (by omega)).trans ?_)) (by rfl) ?_
        refine v_iconst (v := nI 1) dX7_takeSplitEntry_84 (by decide) ?_
        refine v_iaddN dX7_takeSplitEntry_85 ?_
        refine v_putf hE dX7_takeSplitEntry_86 fX7_27 (by repeat (first | assumption | exact ((seP_S hA).2 _ (hX _ (by omega))).1 | exact va_up_self _ _ _ | refine (va_up_ne _ _ (by omega)).trans ?_)) (by exact Nat.le_of_ble_eq_true rfl) (by rfl) (by rfl) (by rfl) ?_
        refine v_hp shS_sz ?_
        refine v_iincN (y := 1) dX7_takeSplitEntry_89 (by rfl) (by decide) (by decide) ?_
        refine v_goto (tgt := 41) dX7_takeSplitEntry_92 (by decide) ?_
        exact ih (d - 1) (by omega) (q + 1) _ (n + 1) (by omega) (by omega) (by omega) ((va_up_ne _ _ (fun z => hyn n (by omega) z.symm)).trans hUy) (upW_ok hU (eTake_ok (hU _ (hX n (by omega))) (hU y hy))) (he.trans (by rw [show eRo (W y) - q = (eRo (W y) - (q + 1)) + 1 by omega]; exact if_pos (by omega)))
  refine v_aload_n dX7_takeSplitEntry_0 rfl (by rfl) ?_
  refine w_callV hE dX7_takeSplitEntry_1 kX7_59 (by repeat (first | assumption | exact ((seP_S hA).2 _ (hX _ (by omega))).1 | exact va_up_self _ _ _ | refine (va_up_ne _ _ (by omega)).trans ?_)) (by rfl) (by rfl) (sX0_hasAlts hE (h.2 y hy) (hW y hy)) rfl (by decide) (by decide) (by exact Nat.le_of_ble_eq_true rfl) (by omega) (by omega) (fun v9 g9 u9 h9 => ?_) (fun _ _ _ h => by cases h.1)
  obtain ⟨hv9, hu9, hg9⟩ := h9
  replace hu9 := hu9.symm
  replace hg9 := hg9.symm
  subst hu9
  subst hg9
  cases hv9
  refine v_hp (show f = seS f X W a (v.1, v.2.1, v.2.2) from (seS_id hA h).symm) ?_
  obtain ⟨p0, p1, p2, p3, p4⟩ := (seP_S (f := f) (W := W) (v := (v.1, v.2.1, v.2.2)) hA).1
  dsimp only at p0 p1 p2 p3 p4
  obtain ⟨y0, y1, y2, y3, y4, y5, y6⟩ := (seP_S (f := f) (W := W) (v := (v.1, v.2.1, v.2.2)) hA).2 y hy
  refine v_if_neB (tgt := 39) dX7_takeSplitEntry_4 (by decide) (fun c4 => ?_) (fun c4 => ?_)
  · refine v_iconst (v := nI 1) dX7_takeSplitEntry_39 (by decide) ?_
    refine v_istore_n dX7_takeSplitEntry_40 rfl (by decide) ?_
    first
      | exact lp (max 1 (eRo (W y)) - 1) 1 W v.2.2 (by omega) (by omega) k1 rfl hW (by unfold sTs sTs0; rw [if_pos (by first | exact Or.inl (of_decide_eq_true c4) | exact Or.inr c13)])
      | exact lp (max 1 (eRo (W y)) - 1) 1 _ (v.2.2 + 1) (by omega) (by omega) (by omega) (va_up_ne _ _ (fun z => hyn _ (by omega) z.symm)) (upW_ok hW (eCopy_ok (hW _ (hX _ (by omega))) (hW y hy))) (by unfold sTs sTs0; rw [if_neg (fun z => z.elim (of_decide_eq_false c4) (by show ¬ 60 ≤ v.2.2; omega))])
  · refine v_aload_n dX7_takeSplitEntry_7 rfl (by rfl) ?_
    refine v_getf hE dX7_takeSplitEntry_8 fX7_27 (by repeat (first | assumption | exact ((seP_S hA).2 _ (hX _ (by omega))).1 | exact va_up_self _ _ _ | refine (va_up_ne _ _ (by omega)).trans ?_)) (by rfl) ?_
    refine v_bipush (v := nI 60) dX7_takeSplitEntry_11 (by decide) ?_
    refine v_icmp_geN (tgt := 39) dX7_takeSplitEntry_13 (by decide) (by omega) (by omega) (fun c13 => ?_) (fun c13 => ?_)
    · refine v_iconst (v := nI 1) dX7_takeSplitEntry_39 (by decide) ?_
      refine v_istore_n dX7_takeSplitEntry_40 rfl (by decide) ?_
      first
        | exact lp (max 1 (eRo (W y)) - 1) 1 W v.2.2 (by omega) (by omega) k1 rfl hW (by unfold sTs sTs0; rw [if_pos (by first | exact Or.inl (of_decide_eq_true c4) | exact Or.inr c13)])
        | exact lp (max 1 (eRo (W y)) - 1) 1 _ (v.2.2 + 1) (by omega) (by omega) (by omega) (va_up_ne _ _ (fun z => hyn _ (by omega) z.symm)) (upW_ok hW (eCopy_ok (hW _ (hX _ (by omega))) (hW y hy))) (by unfold sTs sTs0; rw [if_neg (fun z => z.elim (of_decide_eq_false c4) (by show ¬ 60 ≤ v.2.2; omega))])
    · refine v_aload_n dX7_takeSplitEntry_16 rfl (by rfl) ?_
      refine v_getf hE dX7_takeSplitEntry_17 fX7_11 (by repeat (first | assumption | exact ((seP_S hA).2 _ (hX _ (by omega))).1 | exact va_up_self _ _ _ | refine (va_up_ne _ _ (by omega)).trans ?_)) (by rfl) ?_
      refine v_aload_n dX7_takeSplitEntry_20 rfl (by rfl) ?_
      refine v_getf hE dX7_takeSplitEntry_21 fX7_27 (by repeat (first | assumption | exact ((seP_S hA).2 _ (hX _ (by omega))).1 | exact va_up_self _ _ _ | refine (va_up_ne _ _ (by omega)).trans ?_)) (by rfl) ?_
      refine v_aaldC hE dX7_takeSplitEntry_24 (by repeat (first | assumption | exact ((seP_S hA).2 _ (hX _ (by omega))).1 | exact va_up_self _ _ _ | refine (va_up_ne _ _ (by omega)).trans ?_)) (by omega) ?_
      refine v_aload_n dX7_takeSplitEntry_25 rfl (by rfl) ?_
      refine w_callV hE dX7_takeSplitEntry_26 kX7_63 (by repeat (first | assumption | exact ((seP_S hA).2 _ (hX _ (by omega))).1 | exact va_up_self _ _ _ | refine (va_up_ne _ _ (by omega)).trans ?_)) (by rfl) (by rfl) (sX0_copyFrom hE (v := W (v.1 v.2.2)) (w := W y) ((seP_S hA).2 _ (hX _ (by omega))) (hW _ (hX _ (by omega))) ((seP_S hA).2 y hy) (hW y hy) (by have := hA.1 _ _ (hX v.2.2 (by omega)) hy (hyn _ (by omega)); omega)) rfl (by decide) (by decide) (by exact Nat.le_of_ble_eq_true rfl) (by omega) (by omega) (fun v9 g9 u9 h9 => ?_) (fun _ _ _ h => by cases h.1)
      obtain ⟨hv9, hu9, hg9⟩ := h9
      replace hu9 := hu9.symm
      replace hg9 := hg9.symm
      subst hu9
      subst hg9
      cases hv9
      refine v_hp (seS_up hA (hX _ (by omega))) ?_
      obtain ⟨p0, p1, p2, p3, p4⟩ := (seP_S (f := f) (W := va_up W (v.1 v.2.2) (eCopy (W (v.1 v.2.2)) (W y))) (v := (v.1, v.2.1, v.2.2)) hA).1
      dsimp only at p0 p1 p2 p3 p4
      obtain ⟨y0, y1, y2, y3, y4, y5, y6⟩ := (seP_S (f := f) (W := va_up W (v.1 v.2.2) (eCopy (W (v.1 v.2.2)) (W y))) (v := (v.1, v.2.1, v.2.2)) hA).2 y hy
      refine v_aload_n dX7_takeSplitEntry_29 rfl (by rfl) ?_
      refine v_dup dX7_takeSplitEntry_30 rfl ?_
      refine v_getf hE dX7_takeSplitEntry_31 fX7_27 (by repeat (first | assumption | exact ((seP_S hA).2 _ (hX _ (by omega))).1 | exact va_up_self _ _ _ | refine (va_up_ne _ _ (by omega)).trans ?_)) (by rfl) ?_
      refine v_iconst (v := nI 1) dX7_takeSplitEntry_34 (by decide) ?_
      refine v_iaddN dX7_takeSplitEntry_35 ?_
      refine v_putf hE dX7_takeSplitEntry_36 fX7_27 (by repeat (first | assumption | exact ((seP_S hA).2 _ (hX _ (by omega))).1 | exact va_up_self _ _ _ | refine (va_up_ne _ _ (by omega)).trans ?_)) (by exact Nat.le_of_ble_eq_true rfl) (by rfl) (by rfl) (by rfl) ?_
      refine v_hp shS_sz ?_
      refine v_iconst (v := nI 1) dX7_takeSplitEntry_39 (by decide) ?_
      refine v_istore_n dX7_takeSplitEntry_40 rfl (by decide) ?_
      first
        | exact lp (max 1 (eRo (W y)) - 1) 1 W v.2.2 (by omega) (by omega) k1 rfl hW (by unfold sTs sTs0; rw [if_pos (by first | exact Or.inl (of_decide_eq_true c4) | exact Or.inr c13)])
        | exact lp (max 1 (eRo (W y)) - 1) 1 _ (v.2.2 + 1) (by omega) (by omega) (by omega) (va_up_ne _ _ (fun z => hyn _ (by omega) z.symm)) (upW_ok hW (eCopy_ok (hW _ (hX _ (by omega))) (hW y hy))) (by unfold sTs sTs0; rw [if_neg (fun z => z.elim (of_decide_eq_false c4) (by show ¬ 60 ≤ v.2.2; omega))])

theorem sh_seS {f : aH} {X : Nat → Prop} {W : Nat → eV} {a b : Nat} {v w : sV} (h : shP f b w) (hb : ∀ x, X x → x + 6 < b ∨ b + 4 < x) (hd : b + 4 < a ∨ a + 4 < b) : shP (seS f X W a v) b w := sh_shS (sh_esS h hb) hd

set_option maxRecDepth 100000 in
set_option maxHeartbeats 4000000 in
/-- Sheet.takeSplit -/
theorem sX7_takeSplit {E : eN} (hE : eOk E) {f : aH} {t : Nat} {a b : Nat} {X : Nat → Prop} {W : Nat → eV} {v w : sV} (hA : seA X a) (h : seP f X W a v) (hv : shOk v) (hW : ∀ z, X z → enOk (W z)) (hX : ∀ i, i < 60 → X (v.1 i)) (hb : shP f b w) (hw : shOk w) (hAb : ∀ x, X x → x + 6 < b ∨ b + 4 < x) (hab : b + 4 < a ∨ a + 4 < b) (hXw : ∀ i, i < 60 → X (w.1 i)) (hdis : ∀ i j, i < 60 → j < 60 → v.1 i ≠ w.1 j) : mT E mX7_takeSplit 0 0 [.ref a, .ref b] f t (fun o f' t' => o = .inl none ∧ t' = t ∧ f' = seS f X (sSplL v.1 w.1 (nmAll 3 (0, v.2.1.2) w.2.1).1 (w.2.2 - 0) 0 (W, 0)).1 a (v.1, nmAll 3 (0, v.2.1.2) w.2.1, (sSplL v.1 w.1 (nmAll 3 (0, v.2.1.2) w.2.1).1 (w.2.2 - 0) 0 (W, 0)).2)) := by
  refine mT_of (n := 1) (lo := [some (.ref a), some (.ref b), none]) (by decide) (by exact Nat.le_of_ble_eq_true rfl) rfl rfl ?_
  have k1 := hw.2
  have hk : nOk 3 (nmAll 3 (0, v.2.1.2) w.2.1) := nmAll_ok (show nOk 3 (0, v.2.1.2) from ⟨by omega, by omega, hv.1.2.2⟩)
  obtain ⟨p0, p1, p2, p3, p4⟩ := id h.1
  have lp : ∀ (d : Nat) (i : Nat) (x : (Nat → eV) × Nat), i + d = w.2.2 → (∀ z, X z → enOk (x.1 z)) → x.2 ≤ 60 → (sSplL v.1 w.1 (nmAll 3 (0, v.2.1.2) w.2.1).1 (w.2.2 - 0) 0 (W, 0)) = sSplL v.1 w.1 (nmAll 3 (0, v.2.1.2) w.2.1).1 (w.2.2 - i) i x → V E mX7_takeSplit 0 0 (fun o f' t' => o = .inl none ∧ t' = t ∧ f' = seS f X (sSplL v.1 w.1 (nmAll 3 (0, v.2.1.2) w.2.1).1 (w.2.2 - 0) 0 (W, 0)).1 a (v.1, nmAll 3 (0, v.2.1.2) w.2.1, (sSplL v.1 w.1 (nmAll 3 (0, v.2.1.2) w.2.1).1 (w.2.2 - 0) 0 (W, 0)).2)) 17 [some (.ref a), some (.ref b), some (.int (nI i))] [] (seS f X x.1 a (v.1, (nmAll 3 (0, v.2.1.2) w.2.1), x.2)) t 0 0 := by
    intro d
    induction d using Nat.strongRecOn with
    | _ d ih =>
    intro i x hi hx hx2 he
    obtain ⟨p0, p1, p2, p3, p4⟩ := (seP_S (f := f) (W := x.1) (v := (v.1, (nmAll 3 (0, v.2.1.2) w.2.1), x.2)) hA).1
    dsimp only at p0 p1 p2 p3 p4
    obtain ⟨q0, q1, q2, q3, q4⟩ := sh_seS (W := x.1) (v := (v.1, (nmAll 3 (0, v.2.1.2) w.2.1), x.2)) hb hAb hab
    refine v_iload_n dX7_takeSplit_17 rfl (by rfl) ?_
    refine v_aload_n dX7_takeSplit_18 rfl (by rfl) ?_
    refine v_getf hE dX7_takeSplit_19 fX7_27 (by repeat (first | assumption | exact va_up_self _ _ _ | refine (va_up_ne _ _ (by omega)).trans ?_)) (by rfl) ?_
    refine v_icmp_geN (tgt := 41) dX7_takeSplit_22 (by decide) (by omega) (by omega) (fun c22 => ?_) (fun c22 => ?_)
    · refine v_ret dX7_takeSplit_41 rfl ?_
      refine ⟨rfl, rfl, ?_⟩
      rw [he, show w.2.2 - i = 0 by omega]
      rfl
    · refine v_aload_n dX7_takeSplit_25 rfl (by rfl) ?_
      refine v_aload_n dX7_takeSplit_26 rfl (by rfl) ?_
      refine v_getf hE dX7_takeSplit_27 fX7_11 (by repeat (first | assumption | exact va_up_self _ _ _ | refine (va_up_ne _ _ (by omega)).trans ?_)) (by rfl) ?_
      refine v_iload_n dX7_takeSplit_30 rfl (by rfl) ?_
      refine v_aaldC hE dX7_takeSplit_31 (by repeat (first | assumption | exact va_up_self _ _ _ | refine (va_up_ne _ _ (by omega)).trans ?_)) (by omega) ?_
      refine w_callV hE dX7_takeSplit_32 kX7_55 (by repeat (first | assumption | exact va_up_self _ _ _ | refine (va_up_ne _ _ (by omega)).trans ?_)) (by rfl) (by rfl) (sX7_takeSplitEntry hE (v := (v.1, (nmAll 3 (0, v.2.1.2) w.2.1), x.2)) hA (seP_S hA) ⟨hk, hx2⟩ hx hX (hXw i (by omega)) (fun k hk2 => hdis k i hk2 (by omega))) rfl (by decide) (by decide) (by exact Nat.le_of_ble_eq_true rfl) (by omega) (by omega) (fun v9 g9 u9 h9 => ?_) (fun _ _ _ h => by cases h.1)
      obtain ⟨hv9, hu9, hg9⟩ := h9
      replace hu9 := hu9.symm
      replace hg9 := hg9.symm
      subst hu9
      subst hg9
      cases hv9
      refine v_hp (seS_S hA) ?_
      refine v_iincN (y := 1) dX7_takeSplit_35 (by rfl) (by decide) (by decide) ?_
      refine v_goto (tgt := 17) dX7_takeSplit_38 (by decide) ?_
      exact ih (d - 1) (by omega) (i + 1) (sTs v.1 (w.1 i) (nmAll 3 (0, v.2.1.2) w.2.1).1 x) (by omega) (sTs_ok (hXw i (by omega)) hX (fun k hk2 => hdis k i hk2 (by omega)) hx hx2).1 (sTs_ok (hXw i (by omega)) hX (fun k hk2 => hdis k i hk2 (by omega)) hx hx2).2 (he.trans (by rw [show w.2.2 - i = (w.2.2 - (i + 1)) + 1 by omega]; rfl))
  refine v_aload_n dX7_takeSplit_0 rfl (by rfl) ?_
  refine w_callV hE dX7_takeSplit_1 kX7_50 (by repeat (first | assumption | exact va_up_self _ _ _ | refine (va_up_ne _ _ (by omega)).trans ?_)) (by rfl) (by rfl) (sX7_clear hE h.1 hv) rfl (by decide) (by decide) (by exact Nat.le_of_ble_eq_true rfl) (by omega) (by omega) (fun v9 g9 u9 h9 => ?_) (fun _ _ _ h => by cases h.1)
  obtain ⟨hv9, hu9, hg9⟩ := h9
  replace hu9 := hu9.symm
  replace hg9 := hg9.symm
  subst hu9
  subst hg9
  cases hv9
  obtain ⟨p0, p1, p2, p3, p4⟩ := shP_S f a (v.1, (0, v.2.1.2), 0)
  dsimp only at p0 p1 p2 p3 p4
  obtain ⟨q0, q1, q2, q3, q4⟩ := sh_shS (v := (v.1, (0, v.2.1.2), 0)) hb hab
  refine v_aload_n dX7_takeSplit_4 rfl (by rfl) ?_
  refine v_getf hE dX7_takeSplit_5 fX7_22 (by repeat (first | assumption | exact va_up_self _ _ _ | refine (va_up_ne _ _ (by omega)).trans ?_)) (by rfl) ?_
  refine v_aload_n dX7_takeSplit_8 rfl (by rfl) ?_
  refine v_getf hE dX7_takeSplit_9 fX7_22 (by repeat (first | assumption | exact va_up_self _ _ _ | refine (va_up_ne _ _ (by omega)).trans ?_)) (by rfl) ?_
  refine w_callV hE dX7_takeSplit_12 kX7_51 (by repeat (first | assumption | exact va_up_self _ _ _ | refine (va_up_ne _ _ (by omega)).trans ?_)) (by rfl) (by rfl) (sX5_addAll hE (sh_nm (shP_S f a (v.1, (0, v.2.1.2), 0))) (show nOk 3 (0, v.2.1.2) from ⟨by omega, by omega, hv.1.2.2⟩) (sh_nm (sh_shS hb hab)) hw.1 (by omega) (by omega)) rfl (by decide) (by decide) (by exact Nat.le_of_ble_eq_true rfl) (by omega) (by omega) (fun v9 g9 u9 h9 => ?_) (fun _ _ _ h => by cases h.1)
  obtain ⟨hv9, hu9, hg9⟩ := h9
  replace hu9 := hu9.symm
  replace hg9 := hg9.symm
  subst hu9
  subst hg9
  cases hv9
  refine v_hp shS_nm ?_
  refine v_iconst (v := nI 0) dX7_takeSplit_15 (by decide) ?_
  refine v_istore_n dX7_takeSplit_16 rfl (by decide) ?_
  refine v_hp (show shS f a (v.1, (nmAll 3 (0, v.2.1.2) w.2.1), 0) = seS f X W a (v.1, (nmAll 3 (0, v.2.1.2) w.2.1), 0) from congrArg (fun g => shS g a _) (esS_id hA.1 h.2).symm) ?_
  exact lp w.2.2 0 (W, 0) (by omega) hW (by show 0 ≤ 60; omega) rfl

def pioL : Nat → Nat → (Nat → eV) × (Nat → Nat) → (Nat → eV) × (Nat → Nat)
  | 0, _, x => x
  | d + 1, i, x => pioL d (i + 1) (va_up x.1 (x.2 i) (wOi (x.1 (x.2 i)) i), snk (va_up x.1 (x.2 i) (wOi (x.1 (x.2 i)) i)) (x.2 i) i x.2)
def cntN (p : Nat → Bool) : Nat → Nat → Nat → Nat
  | 0, _, c => c
  | d + 1, k, c => cntN p d (k + 1) (if p k = true then c + 1 else c)
def pioP (x : (Nat → eV) × (Nat → Nat)) (k : Nat) : Bool := decide (¬ nI (eOi (x.1 (x.2 k))) = nI k)
theorem snk_X {X : Nat → Prop} {W : Nat → eV} {x : Nat} (hx : X x) : ∀ (n : Nat) (e : Nat → Nat), n < 60 → (∀ k, k < 60 → X (e k)) → ∀ k, k < 60 → X (snk W x n e k) := by
  intro n
  induction n with
  | zero =>
    intro e _ he k hk
    unfold snk va_up
    split
    · exact hx
    · exact he k hk
  | succ n ih =>
    intro e hn he k hk
    unfold snk
    split
    · refine ih _ (by omega) (fun j hj => ?_) k hk
      unfold va_up
      split
      · exact he n (by omega)
      · exact he j hj
    · unfold va_up
      split
      · exact hx
      · exact he k hk

set_option maxRecDepth 100000 in
set_option maxHeartbeats 4000000 in
/-- Sheet.putInOrder -/
theorem sX7_putInOrder {E : eN} (hE : eOk E) {f : aH} {t : Nat} {a : Nat} {X : Nat → Prop} {W : Nat → eV} {v : sV} (hA : seA X a) (h : seP f X W a v) (hv : shOk v) (hW : ∀ z, X z → enOk (W z)) (hX : ∀ i, i < 60 → X (v.1 i)) : mT E mX7_putInOrder 0 0 [.ref a] f t (fun o f' t' => o = .inl (some (.int (nI (cntN (pioP (pioL (v.2.2 - 0) 0 (W, v.1))) (v.2.2 - 0) 0 0)))) ∧ t' = t ∧ f' = seS f X (pioL (v.2.2 - 0) 0 (W, v.1)).1 a ((pioL (v.2.2 - 0) 0 (W, v.1)).2, v.2)) := by
  refine mT_of (n := 2) (lo := [some (.ref a), none, none]) (by decide) (by exact Nat.le_of_ble_eq_true rfl) rfl rfl ?_
  have k1 := hv.2
  have l2 : ∀ x : (Nat → eV) × (Nat → Nat), (pioL (v.2.2 - 0) 0 (W, v.1)) = x → (∀ i, i < 60 → X (x.2 i)) → ∀ (d : Nat) (k c : Nat), k + d = v.2.2 → c ≤ k → cntN (pioP x) (v.2.2 - 0) 0 0 = cntN (pioP x) (v.2.2 - k) k c → V E mX7_putInOrder 0 0 (fun o f' t' => o = .inl (some (.int (nI (cntN (pioP (pioL (v.2.2 - 0) 0 (W, v.1))) (v.2.2 - 0) 0 0)))) ∧ t' = t ∧ f' = seS f X (pioL (v.2.2 - 0) 0 (W, v.1)).1 a ((pioL (v.2.2 - 0) 0 (W, v.1)).2, v.2)) 35 [some (.ref a), some (.int (nI c)), some (.int (nI k))] [] (seS f X x.1 a (x.2, v.2)) t 0 0 := by
    intro x hR hx2 d
    induction d using Nat.strongRecOn with
    | _ d ih =>
    intro k c hk hc he
    obtain ⟨p0, p1, p2, p3, p4⟩ := (seP_S (f := f) (W := x.1) (v := (x.2, v.2)) hA).1
    dsimp only at p0 p1 p2 p3 p4
    refine v_iload_n dX7_putInOrder_35 rfl (by rfl) ?_
    refine v_aload_n dX7_putInOrder_36 rfl (by rfl) ?_
    refine v_getf hE dX7_putInOrder_37 fX7_27 (by repeat (first | assumption | exact va_up_self _ _ _ | refine (va_up_ne _ _ (by omega)).trans ?_)) (by rfl) ?_
    refine v_icmp_geN (tgt := 65) dX7_putInOrder_40 (by decide) (by omega) (by omega) (fun c40 => ?_) (fun c40 => ?_)
    · refine v_iload_n dX7_putInOrder_65 rfl (by rfl) ?_
      refine v_iret dX7_putInOrder_66 rfl (by first | rfl | exact nar_bI) ?_
      refine ⟨congrArg (fun x => (Sum.inl (some (Value.int x)) : aO)) ?_, rfl, by rw [hR]⟩
      rw [hR, he, show v.2.2 - k = 0 by omega]
      rfl
    · obtain ⟨x0, x1, x2, x3, x4, x5, x6⟩ := (seP_S (f := f) (W := x.1) (v := (x.2, v.2)) hA).2 _ (hx2 k (by omega))
      refine v_aload_n dX7_putInOrder_43 rfl (by rfl) ?_
      refine v_getf hE dX7_putInOrder_44 fX7_11 (by repeat (first | assumption | exact va_up_self _ _ _ | refine (va_up_ne _ _ (by omega)).trans ?_)) (by rfl) ?_
      refine v_iload_n dX7_putInOrder_47 rfl (by rfl) ?_
      refine v_aaldC hE dX7_putInOrder_48 (by repeat (first | assumption | exact va_up_self _ _ _ | refine (va_up_ne _ _ (by omega)).trans ?_)) (by omega) ?_
      refine v_getf hE dX7_putInOrder_49 fX7_83 (by repeat (first | assumption | exact va_up_self _ _ _ | refine (va_up_ne _ _ (by omega)).trans ?_)) (by rfl) ?_
      refine v_iload_n dX7_putInOrder_52 rfl (by rfl) ?_
      refine v_icmp_eq (tgt := 59) dX7_putInOrder_53 (by decide) (fun c53 => ?_) (fun c53 => ?_)
      · refine v_iincN (y := 1) dX7_putInOrder_59 (by rfl) (by decide) (by decide) ?_
        refine v_goto (tgt := 35) dX7_putInOrder_62 (by decide) ?_
        exact ih (d - 1) (by omega) (k + 1) _ (by omega) (by omega) (he.trans (by rw [show v.2.2 - k = (v.2.2 - (k + 1)) + 1 by omega]; show cntN (pioP x) _ _ (if _ then _ else _) = _; first | (rw [if_neg (by unfold pioP; rw [decide_eq_false (fun z => z c53)]; decide)]; done) | (rw [if_pos (show pioP x k = true from decide_eq_true c53)]; done)))
      · refine v_iincN (y := 1) dX7_putInOrder_56 (by rfl) (by decide) (by decide) ?_
        refine v_iincN (y := 1) dX7_putInOrder_59 (by rfl) (by decide) (by decide) ?_
        refine v_goto (tgt := 35) dX7_putInOrder_62 (by decide) ?_
        exact ih (d - 1) (by omega) (k + 1) _ (by omega) (by omega) (he.trans (by rw [show v.2.2 - k = (v.2.2 - (k + 1)) + 1 by omega]; show cntN (pioP x) _ _ (if _ then _ else _) = _; first | (rw [if_neg (by unfold pioP; rw [decide_eq_false (fun z => z c53)]; decide)]; done) | (rw [if_pos (show pioP x k = true from decide_eq_true c53)]; done)))
  have l1 : ∀ (d : Nat) (i : Nat) (x : (Nat → eV) × (Nat → Nat)) (z : Option Value), i + d = v.2.2 → (∀ z, X z → enOk (x.1 z)) → (∀ i, i < 60 → X (x.2 i)) → (pioL (v.2.2 - 0) 0 (W, v.1)) = pioL (v.2.2 - i) i x → V E mX7_putInOrder 0 0 (fun o f' t' => o = .inl (some (.int (nI (cntN (pioP (pioL (v.2.2 - 0) 0 (W, v.1))) (v.2.2 - 0) 0 0)))) ∧ t' = t ∧ f' = seS f X (pioL (v.2.2 - 0) 0 (W, v.1)).1 a ((pioL (v.2.2 - 0) 0 (W, v.1)).2, v.2)) 2 [some (.ref a), some (.int (nI i)), z] [] (seS f X x.1 a (x.2, v.2)) t 0 0 := by
    intro d
    induction d using Nat.strongRecOn with
    | _ d ih =>
    intro i x z hi hx1 hx2 he
    obtain ⟨p0, p1, p2, p3, p4⟩ := (seP_S (f := f) (W := x.1) (v := (x.2, v.2)) hA).1
    dsimp only at p0 p1 p2 p3 p4
    refine v_iload_n dX7_putInOrder_2 rfl (by rfl) ?_
    refine v_aload_n dX7_putInOrder_3 rfl (by rfl) ?_
    refine v_getf hE dX7_putInOrder_4 fX7_27 (by repeat (first | assumption | exact va_up_self _ _ _ | refine (va_up_ne _ _ (by omega)).trans ?_)) (by rfl) ?_
    refine v_icmp_geN (tgt := 31) dX7_putInOrder_7 (by decide) (by omega) (by omega) (fun c7 => ?_) (fun c7 => ?_)
    · refine v_iconst (v := nI 0) dX7_putInOrder_31 (by decide) ?_
      refine v_istore_n dX7_putInOrder_32 rfl (by decide) ?_
      refine v_iconst (v := nI 0) dX7_putInOrder_33 (by decide) ?_
      refine v_istore_n dX7_putInOrder_34 rfl (by decide) ?_
      exact l2 x (he.trans (by rw [show v.2.2 - i = 0 by omega]; rfl)) hx2 v.2.2 0 0 (by omega) (by omega) rfl
    · obtain ⟨x0, x1, x2, x3, x4, x5, x6⟩ := (seP_S (f := f) (W := x.1) (v := (x.2, v.2)) hA).2 _ (hx2 i (by omega))
      refine v_aload_n dX7_putInOrder_10 rfl (by rfl) ?_
      refine v_getf hE dX7_putInOrder_11 fX7_11 (by repeat (first | assumption | exact va_up_self _ _ _ | refine (va_up_ne _ _ (by omega)).trans ?_)) (by rfl) ?_
      refine v_iload_n dX7_putInOrder_14 rfl (by rfl) ?_
      refine v_aaldC hE dX7_putInOrder_15 (by repeat (first | assumption | exact va_up_self _ _ _ | refine (va_up_ne _ _ (by omega)).trans ?_)) (by omega) ?_
      refine v_iload_n dX7_putInOrder_16 rfl (by rfl) ?_
      refine v_putf hE dX7_putInOrder_17 fX7_83 (by repeat (first | assumption | exact va_up_self _ _ _ | refine (va_up_ne _ _ (by omega)).trans ?_)) (by exact Nat.le_of_ble_eq_true rfl) (by rfl) (by rfl) (by rfl) ?_
      refine v_hp (show _ = enS (seS f X x.1 a (x.2, v.2)) (x.2 i) (wOi (x.1 (x.2 i)) i) from enS_ext (by repeat (first | assumption | exact va_up_self _ _ _ | refine (va_up_ne _ _ (by omega)).trans ?_)) (by repeat (first | assumption | exact va_up_self _ _ _ | refine (va_up_ne _ _ (by omega)).trans ?_)) (by repeat (first | assumption | exact va_up_self _ _ _ | refine (va_up_ne _ _ (by omega)).trans ?_)) (by repeat (first | assumption | exact va_up_self _ _ _ | refine (va_up_ne _ _ (by omega)).trans ?_)) (by repeat (first | assumption | exact va_up_self _ _ _ | refine (va_up_ne _ _ (by omega)).trans ?_)) (by repeat (first | assumption | exact va_up_self _ _ _ | refine (va_up_ne _ _ (by omega)).trans ?_)) (by repeat (first | assumption | exact va_up_self _ _ _ | refine (va_up_ne _ _ (by omega)).trans ?_)) (fun b hb => va_up_ne _ _ (by omega))) ?_
      refine v_hp (seS_up hA (hx2 i (by omega))) ?_
      obtain ⟨r0, r1, r2, r3, r4⟩ := (seP_S (f := f) (W := va_up x.1 (x.2 i) (wOi (x.1 (x.2 i)) i)) (v := (x.2, v.2)) hA).1
      dsimp only at r0 r1 r2 r3 r4
      refine v_aload_n dX7_putInOrder_20 rfl (by rfl) ?_
      refine v_iload_n dX7_putInOrder_21 rfl (by rfl) ?_
      refine w_callV hE dX7_putInOrder_22 kX7_86 (by repeat (first | assumption | exact va_up_self _ _ _ | refine (va_up_ne _ _ (by omega)).trans ?_)) (by rfl) (by rfl) (sX7_sinkToPlace hE (v := (x.2, v.2)) hA (seP_S hA) hv (upW_ok hx1 (hx1 _ (hx2 i (by omega)))) hx2 (by omega)) rfl (by decide) (by decide) (by exact Nat.le_of_ble_eq_true rfl) (by omega) (by omega) (fun v9 g9 u9 h9 => ?_) (fun _ _ _ h => by cases h.1)
      obtain ⟨hv9, hu9, hg9⟩ := h9
      replace hu9 := hu9.symm
      replace hg9 := hg9.symm
      subst hu9
      subst hg9
      cases hv9
      refine v_hp (seS_S hA) ?_
      refine v_iincN (y := 1) dX7_putInOrder_25 (by rfl) (by decide) (by decide) ?_
      refine v_goto (tgt := 2) dX7_putInOrder_28 (by decide) ?_
      exact ih (d - 1) (by omega) (i + 1) (va_up x.1 (x.2 i) (wOi (x.1 (x.2 i)) i), snk (va_up x.1 (x.2 i) (wOi (x.1 (x.2 i)) i)) (x.2 i) i x.2) _ (by omega) (upW_ok hx1 (hx1 _ (hx2 i (by omega)))) (snk_X (hx2 i (by omega)) _ _ (by omega) hx2) (he.trans (by rw [show v.2.2 - i = (v.2.2 - (i + 1)) + 1 by omega]; rfl))
  refine v_hp (seS_id hA h).symm ?_
  refine v_iconst (v := nI 0) dX7_putInOrder_0 (by decide) ?_
  refine v_istore_n dX7_putInOrder_1 rfl (by decide) ?_
  exact l1 v.2.2 0 (W, v.1) none (by omega) hW hX rfl
