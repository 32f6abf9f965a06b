theorem sh_sz {f : aH} {a m : Nat} {v : sV} (h : shP f a v) : va_up f a (.inr (7, [.ref (a + 1), .ref (a + 2), .int (nI m)])) = shS f a (v.1, v.2.1, m) := by
  have q := shS_sz (f := f) (a := a) (m := m) (v := v)
  rwa [shS_id h] at q
theorem sh_ar {f : aH} {a : Nat} {v : sV} {e : Nat → Nat} (h : shP f a v) : va_up f (a + 1) (eA e) = shS f a (e, v.2) := by
  have q := shS_ar (f := f) (a := a) (e := e) (v := v)
  rwa [shS_id h] at q
/-! two sheets -/
def dsA (X : Nat → Prop) (a b : Nat) : Prop := seA X a ∧ (∀ x, X x → x + 6 < b ∨ b + 4 < x) ∧ (b + 4 < a ∨ a + 4 < b)
def dsP (f : aH) (X : Nat → Prop) (W : Nat → eV) (a : Nat) (v : sV) (b : Nat) (w : sV) : Prop := seP f X W a v ∧ shP f b w
noncomputable def dsS (f : aH) (X : Nat → Prop) (W : Nat → eV) (a : Nat) (v : sV) (b : Nat) (w : sV) : aH := shS (seS f X W a v) b w
theorem dsP_S {f : aH} {X : Nat → Prop} {W : Nat → eV} {a b : Nat} {v w : sV} (hA : dsA X a b) : dsP (dsS f X W a v b w) X W a v b w := ⟨⟨sh_shS (seP_S hA.1).1 (by have := hA.2.2; omega), fun x hx => en_shS ((seP_S hA.1).2 x hx) (hA.2.1 x hx)⟩, shP_S _ _ _⟩
theorem dsS_ext {f f' : aH} {X : Nat → Prop} {W : Nat → eV} {a b : Nat} {v w : sV} (hA : dsA X a b) (hP : dsP f' X W a v b w) (h : ∀ x, ¬ esB X x → x < a ∨ a + 4 < x → x < b ∨ b + 4 < x → f' x = f x) : f' = dsS f X W a v b w := by
  obtain ⟨⟨h1, h2⟩, ⟨p0, p1, p2, p3, p4⟩⟩ := hP
  refine shS_ext p0 p1 p2 p3 p4 (fun x hx => ?_)
  by_cases hB : esB X x
  · obtain ⟨z, hz, q1, q2⟩ := hB
    have e1 : seS f X W a v x = enS f z (W z) x := (shS_ne (by have := hA.1.2 z hz; omega)).trans (esS_in hA.1.1 hz q1 q2)
    rw [e1, enS_in (f' := f') q1 q2, enS_id (h2 z hz)]
  · by_cases ha : x < a ∨ a + 4 < x
    · rw [seS_ne hB ha, h x hB ha hx]
    · obtain ⟨r0, r1, r2, r3, r4⟩ := h1
      obtain ⟨s0, s1, s2, s3, s4⟩ := (seP_S (f := f) (W := W) (v := v) hA.1).1
      have hc : x = a ∨ x = a + 1 ∨ x = a + 2 ∨ x = a + 3 ∨ x = a + 4 := by omega
      rcases hc with q | q | q | q | q
      · rw [q, r0, s0]
      · rw [q, r1, s1]
      · rw [q, r2, s2]
      · rw [q, r3, s3]
      · rw [q, r4, s4]
theorem dsS_ne {f : aH} {X : Nat → Prop} {W : Nat → eV} {a b x : Nat} {v w : sV} (h1 : ¬ esB X x) (h2 : x < a ∨ a + 4 < x) (h3 : x < b ∨ b + 4 < x) : dsS f X W a v b w x = f x := (shS_ne h3).trans (seS_ne h1 h2)
theorem dsS_id {f : aH} {X : Nat → Prop} {W : Nat → eV} {a b : Nat} {v w : sV} (hA : dsA X a b) (hP : dsP f X W a v b w) : dsS f X W a v b w = f := (dsS_ext hA hP (fun _ _ _ _ => rfl)).symm
theorem dsS_up {f : aH} {X : Nat → Prop} {W : Nat → eV} {a b x : Nat} {v w : sV} {z : eV} (hA : dsA X a b) (hx : X x) : enS (dsS f X W a v b w) x z = dsS f X (va_up W x z) a v b w :=
  dsS_ext hA ⟨⟨sh_enS (dsP_S hA).1.1 (hA.1.2 x hx), es_enS hA.1.1 hx (dsP_S hA).1.2⟩, sh_enS (dsP_S hA).2 (hA.2.1 x hx)⟩ (fun y h1 h2 h3 => by rw [enS_ne (esB_ne hx h1), dsS_ne h1 h2 h3])
theorem es_shS {f : aH} {X : Nat → Prop} {W : Nat → eV} {a : Nat} {v : sV} (h : esP f X W) (hd : ∀ x, X x → x + 6 < a ∨ a + 4 < x) : esP (shS f a v) X W := fun x hx => en_shS (h x hx) (hd x hx)
theorem dsS_a {f : aH} {X : Nat → Prop} {W : Nat → eV} {a b : Nat} {v w z : sV} (hA : dsA X a b) : shS (dsS f X W a v b w) a z = dsS f X W a z b w :=
  dsS_ext hA ⟨⟨shP_S _ _ _, es_shS (dsP_S hA).1.2 hA.1.2⟩, sh_shS (dsP_S hA).2 hA.2.2⟩ (fun y h1 h2 h3 => by rw [shS_ne h2, dsS_ne h1 h2 h3])
theorem dsS_b {f : aH} {X : Nat → Prop} {W : Nat → eV} {a b : Nat} {v w z : sV} : shS (dsS f X W a v b w) b z = dsS f X W a v b z := shS_S
def sDj (e u : Nat → Nat) : Prop := ∀ i j, i < 60 → j < 60 → (i ≠ j → e i ≠ e j ∧ u i ≠ u j) ∧ e i ≠ u j
theorem sDj_swap {e u : Nat → Nat} {i j : Nat} (h : sDj e u) (hi : i < 60) (hj : j < 60) : sDj (va_up e i (u j)) (va_up u j (e i)) := by
  intro x y hx hy
  have a1 := h x y hx hy
  have a2 := h x i hx hi
  have a3 := h y i hy hi
  have a4 := h x j hx hj
  have a5 := h y j hy hj
  have a6 := h i x hi hx
  have a7 := h i y hi hy
  have a8 := h i j hi hj
  have a9 := h j x hj hx
  have a10 := h j y hj hy
  unfold va_up
  refine ⟨fun hn => ⟨?_, ?_⟩, ?_⟩
  · split
    · split
      · omega
      · next q1 q2 => exact fun z => (a5.2 z.symm)
    · split
      · exact a4.2
      · exact (a1.1 hn).1
  · split
    · split
      · omega
      · exact a7.2
    · split
      · exact fun z => a6.2 z.symm
      · exact (a1.1 hn).2
  · split
    · split
      · exact fun z => a8.2 z.symm
      · next q1 q2 => exact fun z => (a10.1 (fun q => q2 q.symm)).2 z
    · split
      · next q1 q2 => exact (a2.1 q1).1
      · exact a1.2
def tkL1 (e : Nat → Nat) (k m : Nat) : Nat → Nat → (Nat → eV) → (Nat → eV)
  | 0, _, U => U
  | d + 1, i, U => tkL1 e k m d (i + 1) (va_up U (e i) (eNoCs (m - k) k (U (e i))))
abbrev tkV : Type := (Nat → eV) × (Nat → Nat) × (Nat → Nat) × Nat
def tkS (k m j : Nat) (x : tkV) : tkV :=
  if ePr (x.1 (x.2.2.1 j)) < 0 ∨ nI x.2.2.2 ≤ ePr (x.1 (x.2.2.1 j)) then
    (if x.2.2.2 < 60 then (va_up x.1 (x.2.2.1 j) (eNoCs (k - 0) 0 (eMvS k m (x.1 (x.2.2.1 j)))), va_up x.2.1 x.2.2.2 (x.2.2.1 j), va_up x.2.2.1 j (x.2.1 x.2.2.2), x.2.2.2 + 1) else x)
  else (va_up x.1 (x.2.1 (ePr (x.1 (x.2.2.1 j))).toNatClampNeg) (eMvC (x.1 (x.2.2.1 j)) k m (x.1 (x.2.1 (ePr (x.1 (x.2.2.1 j))).toNatClampNeg))), x.2)
def tkL (k m : Nat) : Nat → Nat → tkV → tkV
  | 0, _, x => x
  | d + 1, j, x => tkL k m d (j + 1) (tkS k m j x)
theorem eNoCs_ok : ∀ (d i : Nat) (v : eV), enOk v → enOk (eNoCs d i v) := by
  intro d
  induction d with
  | zero => intro c y h; exact h
  | succ d ih => intro c y h; exact ih _ _ (eNoC_ok h)
theorem eMvC_ok {w : eV} {s : Nat} (hw : enOk w) : ∀ (d : Nat) (v : eV), enOk v → enOk (eMvC w s d v) := by
  intro d
  induction d with
  | zero => intro y h; exact h
  | succ d ih => intro y h; exact ih _ (eCopyC_ok h hw)
theorem eMvS_ok {s : Nat} : ∀ (d : Nat) (v : eV), enOk v → enOk (eMvS s d v) := by
  intro d
  induction d with
  | zero => intro y h; exact h
  | succ d ih => intro y h; exact ih _ (eCopyC_ok h h)
def tkW (W : Nat → eV) (v w : sV) : tkV := tkL v.2.1.1 w.2.1.1 (w.2.2 - 0) 0 (tkL1 v.1 v.2.1.1 (nmAll 3 v.2.1 w.2.1).1 (v.2.2 - 0) 0 W, v.1, w.1, v.2.2)

theorem upX {X : Nat → Prop} {e : Nat → Nat} {i x : Nat} (h : ∀ k, k < 60 → X (e k)) (hx : X x) : ∀ k, k < 60 → X (va_up e i x k) := fun k hk => by
  unfold va_up
  split
  · exact hx
  · exact h k hk

set_option maxRecDepth 100000 in
set_option maxHeartbeats 4000000 in
/-- Sheet.takeAll -/
theorem sX7_takeAll {E : eN} (hE : eOk E) {f : aH} {t : Nat} {a b : Nat} {X : Nat → Prop} {W : Nat → eV} {v w : sV} (hA : dsA X a b) (h : dsP f X W a v b w) (hv : shOk v) (hw : shOk w) (hW : ∀ z, X z → enOk (W z)) (hX : ∀ i, i < 60 → X (v.1 i)) (hXw : ∀ i, i < 60 → X (w.1 i)) (hdj : sDj v.1 w.1) (hkm : v.2.1.1 + w.2.1.1 ≤ 3) : mT E mX7_takeAll 0 0 [.ref a, .ref b] f t (fun o f' t' => o = .inl none ∧ t' = t ∧ f' = dsS f X (tkW W v w).1 a ((tkW W v w).2.1, (nmAll 3 v.2.1 w.2.1), (tkW W v w).2.2.2) b ((tkW W v w).2.2.1, w.2)) := by
  refine mT_of (n := 4) (lo := [some (.ref a), some (.ref b), none, none, none, none]) (by decide) (by exact Nat.le_of_ble_eq_true rfl) rfl rfl ?_
  have k1 := hv.2
  have k2 := hw.2
  have k3 : (nmAll 3 v.2.1 w.2.1).1 ≤ 3 := (nmAll_ok hv.1).1
  obtain ⟨⟨⟨p0, p1, p2, p3, p4⟩, hEs⟩, ⟨q0, q1, q2, q3, q4⟩⟩ := id h
  have l2 : ∀ (d : Nat) (j : Nat) (x : tkV) (z4 z5 : Option Value), j + d = w.2.2 → (∀ z, X z → enOk (x.1 z)) → (∀ i, i < 60 → X (x.2.1 i)) → (∀ i, i < 60 → X (x.2.2.1 i)) → sDj x.2.1 x.2.2.1 → x.2.2.2 ≤ 60 → tkW W v w = tkL v.2.1.1 w.2.1.1 (w.2.2 - j) j x → V E mX7_takeAll 0 0 (fun o f' t' => o = .inl none ∧ t' = t ∧ f' = dsS f X (tkW W v w).1 a ((tkW W v w).2.1, (nmAll 3 v.2.1 w.2.1), (tkW W v w).2.2.2) b ((tkW W v w).2.2.1, w.2)) 54 [some (.ref a), some (.ref b), some (.int (nI v.2.1.1)), some (.int (nI j)), z4, z5] [] (dsS f X x.1 a (x.2.1, (nmAll 3 v.2.1 w.2.1), x.2.2.2) b (x.2.2.1, w.2)) t 0 0 := by
    intro d
    induction d using Nat.strongRecOn with
    | _ d ih =>
    intro j x z4 z5 hj hx1 hx2 hx3 hdx hx5 he
    obtain ⟨⟨⟨p0, p1, p2, p3, p4⟩, hEs⟩, ⟨q0, q1, q2, q3, q4⟩⟩ := dsP_S (f := f) (W := x.1) (v := (x.2.1, (nmAll 3 v.2.1 w.2.1), x.2.2.2)) (w := (x.2.2.1, w.2)) hA
    dsimp only at p0 p1 p2 p3 p4 q0 q1 q2 q3 q4
    refine v_iload_n dX7_takeAll_54 rfl (by rfl) ?_
    refine v_aload_n dX7_takeAll_55 rfl (by rfl) ?_
    refine v_getf hE dX7_takeAll_56 fX7_27 (by repeat (first | assumption | exact va_up_self _ _ _ | refine (va_up_ne _ _ (by omega)).trans ?_)) (by rfl) ?_
    refine v_icmp_geN (tgt := 177) dX7_takeAll_59 (by decide) (by omega) (by omega) (fun c59 => ?_) (fun c59 => ?_)
    · refine v_ret dX7_takeAll_177 rfl ?_
      refine ⟨rfl, rfl, ?_⟩
      rw [he, show w.2.2 - j = 0 by omega]
      rfl
    · have hxj := hx3 j (by omega)
      obtain ⟨x0, x1, x2, x3, x4, x5, x6⟩ := hEs _ hxj
      refine v_aload_n dX7_takeAll_62 rfl (by rfl) ?_
      refine v_getf hE dX7_takeAll_63 fX7_11 (by repeat (first | assumption | exact va_up_self _ _ _ | refine (va_up_ne _ _ (by omega)).trans ?_)) (by rfl) ?_
      refine v_iload_n dX7_takeAll_66 rfl (by rfl) ?_
      refine v_aaldC hE dX7_takeAll_67 (by repeat (first | assumption | exact va_up_self _ _ _ | refine (va_up_ne _ _ (by omega)).trans ?_)) (by omega) ?_
      refine v_astore dX7_takeAll_68 (by decide) ?_
      refine v_aload dX7_takeAll_70 (by rfl) ?_
      refine v_getf hE dX7_takeAll_72 fX7_93 (by repeat (first | assumption | exact va_up_self _ _ _ | refine (va_up_ne _ _ (by omega)).trans ?_)) (by rfl) ?_
      refine v_istore dX7_takeAll_75 (by decide) ?_
      refine v_iload dX7_takeAll_77 (by rfl) ?_
      refine v_if_lt (tgt := 114) dX7_takeAll_79 (by decide) (fun c79 => ?_) (fun c79 => ?_)
      · refine v_aload_n dX7_takeAll_114 rfl (by rfl) ?_
        refine v_getf hE dX7_takeAll_115 fX7_27 (by first | assumption | exact (hEs _ hxj).1) (by rfl) ?_
        refine v_bipush (v := nI 60) dX7_takeAll_118 (by decide) ?_
        refine v_icmp_geN (tgt := 171) dX7_takeAll_120 (by decide) (by omega) (by omega) (fun c120 => ?_) (fun c120 => ?_)
        · refine v_iincN (y := 1) dX7_takeAll_171 (by rfl) (by decide) (by decide) ?_
          refine v_goto (tgt := 54) dX7_takeAll_174 (by decide) ?_
          first
            | (have hz : tkS v.2.1.1 w.2.1.1 j x = ((va_up x.1 (x.2.2.1 j) (eNoCs (v.2.1.1 - 0) 0 (eMvS v.2.1.1 w.2.1.1 (x.1 (x.2.2.1 j))))), (va_up x.2.1 x.2.2.2 (x.2.2.1 j)), (va_up x.2.2.1 j (x.2.1 x.2.2.2)), x.2.2.2 + 1) := by
                 unfold tkS
                 rw [if_pos (by first | exact Or.inl c79 | exact Or.inr c88), if_pos (by omega)]
               exact ih (d - 1) (by omega) (j + 1) ((va_up x.1 (x.2.2.1 j) (eNoCs (v.2.1.1 - 0) 0 (eMvS v.2.1.1 w.2.1.1 (x.1 (x.2.2.1 j))))), (va_up x.2.1 x.2.2.2 (x.2.2.1 j)), (va_up x.2.2.1 j (x.2.1 x.2.2.2)), x.2.2.2 + 1) _ _ (by omega) (upW_ok hx1 (eNoCs_ok _ _ _ (eMvS_ok _ _ (hx1 _ hxj)))) (upX hx2 hxj) (upX hx3 (hx2 _ (by omega))) (sDj_swap hdx (by omega) (by omega)) (by show x.2.2.2 + 1 ≤ 60; omega) (he.trans (by rw [show w.2.2 - j = (w.2.2 - (j + 1)) + 1 by omega]; show tkL _ _ _ _ (tkS _ _ _ _) = _; rw [hz])))
            | (have hz : tkS v.2.1.1 w.2.1.1 j x = x := by
                 unfold tkS
                 rw [if_pos (by first | exact Or.inl c79 | exact Or.inr c88), if_neg (by omega)]
               exact ih (d - 1) (by omega) (j + 1) x _ _ (by omega) hx1 hx2 hx3 hdx hx5 (he.trans (by rw [show w.2.2 - j = (w.2.2 - (j + 1)) + 1 by omega]; show tkL _ _ _ _ (tkS _ _ _ _) = _; rw [hz])))
        · refine v_aload dX7_takeAll_123 (by rfl) ?_
          refine v_aload dX7_takeAll_125 (by rfl) ?_
          refine v_iload_n dX7_takeAll_127 rfl (by rfl) ?_
          refine v_aload_n dX7_takeAll_128 rfl (by rfl) ?_
          refine v_getf hE dX7_takeAll_129 fX7_22 (by first | assumption | exact (hEs _ hxj).1) (by rfl) ?_
          refine v_getf hE dX7_takeAll_132 fX7_34 (by first | assumption | exact (hEs _ hxj).1) (by rfl) ?_
          refine w_callS hE dX7_takeAll_135 kX7_109 (by rfl) (sX7_moveCalls_self hE (hEs _ hxj) (hx1 _ hxj) hkm) rfl (by decide) (by decide) (by exact Nat.le_of_ble_eq_true rfl) (by omega) (by omega) (fun v9 g9 u9 h9 => ?_) (fun _ _ _ h => by cases h.1)
          obtain ⟨hv9, hu9, hg9⟩ := h9
          replace hu9 := hu9.symm
          replace hg9 := hg9.symm
          subst hu9
          subst hg9
          cases hv9
          refine v_hp (dsS_up hA hxj) ?_
          obtain ⟨⟨⟨p0, p1, p2, p3, p4⟩, hEs⟩, ⟨q0, q1, q2, q3, q4⟩⟩ := dsP_S (f := f) (W := (va_up x.1 (x.2.2.1 j) (eMvS v.2.1.1 w.2.1.1 (x.1 (x.2.2.1 j))))) (v := (x.2.1, (nmAll 3 v.2.1 w.2.1), x.2.2.2)) (w := (x.2.2.1, w.2)) hA
          dsimp only at p0 p1 p2 p3 p4 q0 q1 q2 q3 q4
          refine v_aload dX7_takeAll_138 (by rfl) ?_
          refine v_iconst (v := nI 0) dX7_takeAll_140 (by decide) ?_
          refine v_iload_n dX7_takeAll_141 rfl (by rfl) ?_
          refine w_callS hE dX7_takeAll_142 kX7_106 (by rfl) (sX7_setNoCalls hE (v := eMvS v.2.1.1 w.2.1.1 (x.1 (x.2.2.1 j))) (by have := hEs _ hxj; rwa [va_up_self] at this) (eMvS_ok _ _ (hx1 _ hxj)) (by omega) (by omega)) rfl (by decide) (by decide) (by exact Nat.le_of_ble_eq_true rfl) (by omega) (by omega) (fun v9 g9 u9 h9 => ?_) (fun _ _ _ h => by cases h.1)
          obtain ⟨hv9, hu9, hg9⟩ := h9
          replace hu9 := hu9.symm
          replace hg9 := hg9.symm
          subst hu9
          subst hg9
          cases hv9
          refine v_hp ((dsS_up hA hxj).trans (congrArg (fun z => dsS f X z a (x.2.1, (nmAll 3 v.2.1 w.2.1), x.2.2.2) b (x.2.2.1, w.2)) va_up_up)) ?_
          obtain ⟨⟨⟨p0, p1, p2, p3, p4⟩, hEs⟩, ⟨q0, q1, q2, q3, q4⟩⟩ := dsP_S (f := f) (W := (va_up x.1 (x.2.2.1 j) (eNoCs (v.2.1.1 - 0) 0 (eMvS v.2.1.1 w.2.1.1 (x.1 (x.2.2.1 j)))))) (v := (x.2.1, (nmAll 3 v.2.1 w.2.1), x.2.2.2)) (w := (x.2.2.1, w.2)) hA
          dsimp only at p0 p1 p2 p3 p4 q0 q1 q2 q3 q4
          refine v_aload_n dX7_takeAll_145 rfl (by rfl) ?_
          refine v_getf hE dX7_takeAll_146 fX7_11 (by first | assumption | exact (hEs _ hxj).1) (by rfl) ?_
          refine v_aload_n dX7_takeAll_149 rfl (by rfl) ?_
          refine v_getf hE dX7_takeAll_150 fX7_27 (by first | assumption | exact (hEs _ hxj).1) (by rfl) ?_
          refine v_aload_n dX7_takeAll_153 rfl (by rfl) ?_
          refine v_getf hE dX7_takeAll_154 fX7_11 (by first | assumption | exact (hEs _ hxj).1) (by rfl) ?_
          refine v_iload_n dX7_takeAll_157 rfl (by rfl) ?_
          refine w_callS hE dX7_takeAll_158 kX7_76 (by rfl) (sX7_swap_two hE p1 q1 (by have := hA.2.2; omega) (by omega) (by omega) (hEs _ (hx2 _ (by omega))).1 (hEs _ hxj).1 (by have := hA.1.2 _ (hx2 x.2.2.2 (by omega)); omega) (by have := hA.1.2 _ hxj; omega)) rfl (by decide) (by decide) (by exact Nat.le_of_ble_eq_true rfl) (by omega) (by omega) (fun v9 g9 u9 h9 => ?_) (fun _ _ _ h => by cases h.1)
          obtain ⟨hv9, hu9, hg9⟩ := h9
          replace hu9 := hu9.symm
          replace hg9 := hg9.symm
          subst hu9
          subst hg9
          cases hv9
          refine v_hp (show _ = dsS f X (va_up x.1 (x.2.2.1 j) (eNoCs (v.2.1.1 - 0) 0 (eMvS v.2.1.1 w.2.1.1 (x.1 (x.2.2.1 j))))) a ((va_up x.2.1 x.2.2.2 (x.2.2.1 j)), (nmAll 3 v.2.1 w.2.1), x.2.2.2) b ((va_up x.2.2.1 j (x.2.1 x.2.2.2)), w.2) from (congrArg (fun z => va_up z (b + 1) (eA (va_up x.2.2.1 j (x.2.1 x.2.2.2)))) ((sh_ar (dsP_S hA).1.1).trans (dsS_a hA))).trans ((sh_ar (dsP_S hA).2).trans dsS_b)) ?_
          obtain ⟨⟨⟨p0, p1, p2, p3, p4⟩, hEs⟩, ⟨q0, q1, q2, q3, q4⟩⟩ := dsP_S (f := f) (W := (va_up x.1 (x.2.2.1 j) (eNoCs (v.2.1.1 - 0) 0 (eMvS v.2.1.1 w.2.1.1 (x.1 (x.2.2.1 j)))))) (v := ((va_up x.2.1 x.2.2.2 (x.2.2.1 j)), (nmAll 3 v.2.1 w.2.1), x.2.2.2)) (w := ((va_up x.2.2.1 j (x.2.1 x.2.2.2)), w.2)) hA
          dsimp only at p0 p1 p2 p3 p4 q0 q1 q2 q3 q4
          refine v_aload_n dX7_takeAll_161 rfl (by rfl) ?_
          refine v_dup dX7_takeAll_162 rfl ?_
          refine v_getf hE dX7_takeAll_163 fX7_27 (by first | assumption | exact (hEs _ hxj).1) (by rfl) ?_
          refine v_iconst (v := nI 1) dX7_takeAll_166 (by decide) ?_
          refine v_iaddN dX7_takeAll_167 ?_
          refine v_putf hE dX7_takeAll_168 fX7_27 (by first | assumption | exact (hEs _ hxj).1) (by exact Nat.le_of_ble_eq_true rfl) (by rfl) (by rfl) (by rfl) ?_
          refine v_hp ((sh_sz (dsP_S hA).1.1).trans (dsS_a hA)) ?_
          refine v_iincN (y := 1) dX7_takeAll_171 (by rfl) (by decide) (by decide) ?_
          refine v_goto (tgt := 54) dX7_takeAll_174 (by decide) ?_
          first
            | (have hz : tkS v.2.1.1 w.2.1.1 j x = ((va_up x.1 (x.2.2.1 j) (eNoCs (v.2.1.1 - 0) 0 (eMvS v.2.1.1 w.2.1.1 (x.1 (x.2.2.1 j))))), (va_up x.2.1 x.2.2.2 (x.2.2.1 j)), (va_up x.2.2.1 j (x.2.1 x.2.2.2)), x.2.2.2 + 1) := by
                 unfold tkS
                 rw [if_pos (by first | exact Or.inl c79 | exact Or.inr c88), if_pos (by omega)]
               exact ih (d - 1) (by omega) (j + 1) ((va_up x.1 (x.2.2.1 j) (eNoCs (v.2.1.1 - 0) 0 (eMvS v.2.1.1 w.2.1.1 (x.1 (x.2.2.1 j))))), (va_up x.2.1 x.2.2.2 (x.2.2.1 j)), (va_up x.2.2.1 j (x.2.1 x.2.2.2)), x.2.2.2 + 1) _ _ (by omega) (upW_ok hx1 (eNoCs_ok _ _ _ (eMvS_ok _ _ (hx1 _ hxj)))) (upX hx2 hxj) (upX hx3 (hx2 _ (by omega))) (sDj_swap hdx (by omega) (by omega)) (by show x.2.2.2 + 1 ≤ 60; omega) (he.trans (by rw [show w.2.2 - j = (w.2.2 - (j + 1)) + 1 by omega]; show tkL _ _ _ _ (tkS _ _ _ _) = _; rw [hz])))
            | (have hz : tkS v.2.1.1 w.2.1.1 j x = x := by
                 unfold tkS
                 rw [if_pos (by first | exact Or.inl c79 | exact Or.inr c88), if_neg (by omega)]
               exact ih (d - 1) (by omega) (j + 1) x _ _ (by omega) hx1 hx2 hx3 hdx hx5 (he.trans (by rw [show w.2.2 - j = (w.2.2 - (j + 1)) + 1 by omega]; show tkL _ _ _ _ (tkS _ _ _ _) = _; rw [hz])))
      · skip
        refine v_iload dX7_takeAll_82 (by rfl) ?_
        refine v_aload_n dX7_takeAll_84 rfl (by rfl) ?_
        refine v_getf hE dX7_takeAll_85 fX7_27 (by repeat (first | assumption | exact va_up_self _ _ _ | refine (va_up_ne _ _ (by omega)).trans ?_)) (by rfl) ?_
        refine v_icmp_ge (tgt := 114) dX7_takeAll_88 (by decide) (fun c88 => ?_) (fun c88 => ?_)
        · refine v_aload_n dX7_takeAll_114 rfl (by rfl) ?_
          refine v_getf hE dX7_takeAll_115 fX7_27 (by first | assumption | exact (hEs _ hxj).1) (by rfl) ?_
          refine v_bipush (v := nI 60) dX7_takeAll_118 (by decide) ?_
          refine v_icmp_geN (tgt := 171) dX7_takeAll_120 (by decide) (by omega) (by omega) (fun c120 => ?_) (fun c120 => ?_)
          · refine v_iincN (y := 1) dX7_takeAll_171 (by rfl) (by decide) (by decide) ?_
            refine v_goto (tgt := 54) dX7_takeAll_174 (by decide) ?_
            first
              | (have hz : tkS v.2.1.1 w.2.1.1 j x = ((va_up x.1 (x.2.2.1 j) (eNoCs (v.2.1.1 - 0) 0 (eMvS v.2.1.1 w.2.1.1 (x.1 (x.2.2.1 j))))), (va_up x.2.1 x.2.2.2 (x.2.2.1 j)), (va_up x.2.2.1 j (x.2.1 x.2.2.2)), x.2.2.2 + 1) := by
                   unfold tkS
                   rw [if_pos (by first | exact Or.inl c79 | exact Or.inr c88), if_pos (by omega)]
                 exact ih (d - 1) (by omega) (j + 1) ((va_up x.1 (x.2.2.1 j) (eNoCs (v.2.1.1 - 0) 0 (eMvS v.2.1.1 w.2.1.1 (x.1 (x.2.2.1 j))))), (va_up x.2.1 x.2.2.2 (x.2.2.1 j)), (va_up x.2.2.1 j (x.2.1 x.2.2.2)), x.2.2.2 + 1) _ _ (by omega) (upW_ok hx1 (eNoCs_ok _ _ _ (eMvS_ok _ _ (hx1 _ hxj)))) (upX hx2 hxj) (upX hx3 (hx2 _ (by omega))) (sDj_swap hdx (by omega) (by omega)) (by show x.2.2.2 + 1 ≤ 60; omega) (he.trans (by rw [show w.2.2 - j = (w.2.2 - (j + 1)) + 1 by omega]; show tkL _ _ _ _ (tkS _ _ _ _) = _; rw [hz])))
              | (have hz : tkS v.2.1.1 w.2.1.1 j x = x := by
                   unfold tkS
                   rw [if_pos (by first | exact Or.inl c79 | exact Or.inr c88), if_neg (by omega)]
                 exact ih (d - 1) (by omega) (j + 1) x _ _ (by omega) hx1 hx2 hx3 hdx hx5 (he.trans (by rw [show w.2.2 - j = (w.2.2 - (j + 1)) + 1 by omega]; show tkL _ _ _ _ (tkS _ _ _ _) = _; rw [hz])))
          · refine v_aload dX7_takeAll_123 (by rfl) ?_
            refine v_aload dX7_takeAll_125 (by rfl) ?_
            refine v_iload_n dX7_takeAll_127 rfl (by rfl) ?_
            refine v_aload_n dX7_takeAll_128 rfl (by rfl) ?_
            refine v_getf hE dX7_takeAll_129 fX7_22 (by first | assumption | exact (hEs _ hxj).1) (by rfl) ?_
            refine v_getf hE dX7_takeAll_132 fX7_34 (by first | assumption | exact (hEs _ hxj).1) (by rfl) ?_
            refine w_callS hE dX7_takeAll_135 kX7_109 (by rfl) (sX7_moveCalls_self hE (hEs _ hxj) (hx1 _ hxj) hkm) rfl (by decide) (by decide) (by exact Nat.le_of_ble_eq_true rfl) (by omega) (by omega) (fun v9 g9 u9 h9 => ?_) (fun _ _ _ h => by cases h.1)
            obtain ⟨hv9, hu9, hg9⟩ := h9
            replace hu9 := hu9.symm
            replace hg9 := hg9.symm
            subst hu9
            subst hg9
            cases hv9
            refine v_hp (dsS_up hA hxj) ?_
            obtain ⟨⟨⟨p0, p1, p2, p3, p4⟩, hEs⟩, ⟨q0, q1, q2, q3, q4⟩⟩ := dsP_S (f := f) (W := (va_up x.1 (x.2.2.1 j) (eMvS v.2.1.1 w.2.1.1 (x.1 (x.2.2.1 j))))) (v := (x.2.1, (nmAll 3 v.2.1 w.2.1), x.2.2.2)) (w := (x.2.2.1, w.2)) hA
            dsimp only at p0 p1 p2 p3 p4 q0 q1 q2 q3 q4
            refine v_aload dX7_takeAll_138 (by rfl) ?_
            refine v_iconst (v := nI 0) dX7_takeAll_140 (by decide) ?_
            refine v_iload_n dX7_takeAll_141 rfl (by rfl) ?_
            refine w_callS hE dX7_takeAll_142 kX7_106 (by rfl) (sX7_setNoCalls hE (v := eMvS v.2.1.1 w.2.1.1 (x.1 (x.2.2.1 j))) (by have := hEs _ hxj; rwa [va_up_self] at this) (eMvS_ok _ _ (hx1 _ hxj)) (by omega) (by omega)) rfl (by decide) (by decide) (by exact Nat.le_of_ble_eq_true rfl) (by omega) (by omega) (fun v9 g9 u9 h9 => ?_) (fun _ _ _ h => by cases h.1)
            obtain ⟨hv9, hu9, hg9⟩ := h9
            replace hu9 := hu9.symm
            replace hg9 := hg9.symm
            subst hu9
            subst hg9
            cases hv9
            refine v_hp ((dsS_up hA hxj).trans (congrArg (fun z => dsS f X z a (x.2.1, (nmAll 3 v.2.1 w.2.1), x.2.2.2) b (x.2.2.1, w.2)) va_up_up)) ?_
            obtain ⟨⟨⟨p0, p1, p2, p3, p4⟩, hEs⟩, ⟨q0, q1, q2, q3, q4⟩⟩ := dsP_S (f := f) (W := (va_up x.1 (x.2.2.1 j) (eNoCs (v.2.1.1 - 0) 0 (eMvS v.2.1.1 w.2.1.1 (x.1 (x.2.2.1 j)))))) (v := (x.2.1, (nmAll 3 v.2.1 w.2.1), x.2.2.2)) (w := (x.2.2.1, w.2)) hA
            dsimp only at p0 p1 p2 p3 p4 q0 q1 q2 q3 q4
            refine v_aload_n dX7_takeAll_145 rfl (by rfl) ?_
            refine v_getf hE dX7_takeAll_146 fX7_11 (by first | assumption | exact (hEs _ hxj).1) (by rfl) ?_
            refine v_aload_n dX7_takeAll_149 rfl (by rfl) ?_
            refine v_getf hE dX7_takeAll_150 fX7_27 (by first | assumption | exact (hEs _ hxj).1) (by rfl) ?_
            refine v_aload_n dX7_takeAll_153 rfl (by rfl) ?_
            refine v_getf hE dX7_takeAll_154 fX7_11 (by first | assumption | exact (hEs _ hxj).1) (by rfl) ?_
            refine v_iload_n dX7_takeAll_157 rfl (by rfl) ?_
            refine w_callS hE dX7_takeAll_158 kX7_76 (by rfl) (sX7_swap_two hE p1 q1 (by have := hA.2.2; omega) (by omega) (by omega) (hEs _ (hx2 _ (by omega))).1 (hEs _ hxj).1 (by have := hA.1.2 _ (hx2 x.2.2.2 (by omega)); omega) (by have := hA.1.2 _ hxj; omega)) rfl (by decide) (by decide) (by exact Nat.le_of_ble_eq_true rfl) (by omega) (by omega) (fun v9 g9 u9 h9 => ?_) (fun _ _ _ h => by cases h.1)
            obtain ⟨hv9, hu9, hg9⟩ := h9
            replace hu9 := hu9.symm
            replace hg9 := hg9.symm
            subst hu9
            subst hg9
            cases hv9
            refine v_hp (show _ = dsS f X (va_up x.1 (x.2.2.1 j) (eNoCs (v.2.1.1 - 0) 0 (eMvS v.2.1.1 w.2.1.1 (x.1 (x.2.2.1 j))))) a ((va_up x.2.1 x.2.2.2 (x.2.2.1 j)), (nmAll 3 v.2.1 w.2.1), x.2.2.2) b ((va_up x.2.2.1 j (x.2.1 x.2.2.2)), w.2) from (congrArg (fun z => va_up z (b + 1) (eA (va_up x.2.2.1 j (x.2.1 x.2.2.2)))) ((sh_ar (dsP_S hA).1.1).trans (dsS_a hA))).trans ((sh_ar (dsP_S hA).2).trans dsS_b)) ?_
            obtain ⟨⟨⟨p0, p1, p2, p3, p4⟩, hEs⟩, ⟨q0, q1, q2, q3, q4⟩⟩ := dsP_S (f := f) (W := (va_up x.1 (x.2.2.1 j) (eNoCs (v.2.1.1 - 0) 0 (eMvS v.2.1.1 w.2.1.1 (x.1 (x.2.2.1 j)))))) (v := ((va_up x.2.1 x.2.2.2 (x.2.2.1 j)), (nmAll 3 v.2.1 w.2.1), x.2.2.2)) (w := ((va_up x.2.2.1 j (x.2.1 x.2.2.2)), w.2)) hA
            dsimp only at p0 p1 p2 p3 p4 q0 q1 q2 q3 q4
            refine v_aload_n dX7_takeAll_161 rfl (by rfl) ?_
            refine v_dup dX7_takeAll_162 rfl ?_
            refine v_getf hE dX7_takeAll_163 fX7_27 (by first | assumption | exact (hEs _ hxj).1) (by rfl) ?_
            refine v_iconst (v := nI 1) dX7_takeAll_166 (by decide) ?_
            refine v_iaddN dX7_takeAll_167 ?_
            refine v_putf hE dX7_takeAll_168 fX7_27 (by first | assumption | exact (hEs _ hxj).1) (by exact Nat.le_of_ble_eq_true rfl) (by rfl) (by rfl) (by rfl) ?_
            refine v_hp ((sh_sz (dsP_S hA).1.1).trans (dsS_a hA)) ?_
            refine v_iincN (y := 1) dX7_takeAll_171 (by rfl) (by decide) (by decide) ?_
            refine v_goto (tgt := 54) dX7_takeAll_174 (by decide) ?_
            first
              | (have hz : tkS v.2.1.1 w.2.1.1 j x = ((va_up x.1 (x.2.2.1 j) (eNoCs (v.2.1.1 - 0) 0 (eMvS v.2.1.1 w.2.1.1 (x.1 (x.2.2.1 j))))), (va_up x.2.1 x.2.2.2 (x.2.2.1 j)), (va_up x.2.2.1 j (x.2.1 x.2.2.2)), x.2.2.2 + 1) := by
                   unfold tkS
                   rw [if_pos (by first | exact Or.inl c79 | exact Or.inr c88), if_pos (by omega)]
                 exact ih (d - 1) (by omega) (j + 1) ((va_up x.1 (x.2.2.1 j) (eNoCs (v.2.1.1 - 0) 0 (eMvS v.2.1.1 w.2.1.1 (x.1 (x.2.2.1 j))))), (va_up x.2.1 x.2.2.2 (x.2.2.1 j)), (va_up x.2.2.1 j (x.2.1 x.2.2.2)), x.2.2.2 + 1) _ _ (by omega) (upW_ok hx1 (eNoCs_ok _ _ _ (eMvS_ok _ _ (hx1 _ hxj)))) (upX hx2 hxj) (upX hx3 (hx2 _ (by omega))) (sDj_swap hdx (by omega) (by omega)) (by show x.2.2.2 + 1 ≤ 60; omega) (he.trans (by rw [show w.2.2 - j = (w.2.2 - (j + 1)) + 1 by omega]; show tkL _ _ _ _ (tkS _ _ _ _) = _; rw [hz])))
              | (have hz : tkS v.2.1.1 w.2.1.1 j x = x := by
                   unfold tkS
                   rw [if_pos (by first | exact Or.inl c79 | exact Or.inr c88), if_neg (by omega)]
                 exact ih (d - 1) (by omega) (j + 1) x _ _ (by omega) hx1 hx2 hx3 hdx hx5 (he.trans (by rw [show w.2.2 - j = (w.2.2 - (j + 1)) + 1 by omega]; show tkL _ _ _ _ (tkS _ _ _ _) = _; rw [hz])))
        · obtain ⟨q, hq0, hq⟩ := nI_of c79
          have hq9 : q < x.2.2.2 := by
            by_cases z : q < x.2.2.2
            · exact z
            · exact absurd (show nI x.2.2.2 ≤ ePr (x.1 (x.2.2.1 j)) by rw [hq]; exact nI_le (by omega) hq0) c88
          refine v_aload dX7_takeAll_91 (by rfl) ?_
          refine v_aload_n dX7_takeAll_93 rfl (by rfl) ?_
          refine v_getf hE dX7_takeAll_94 fX7_11 (by first | assumption | exact (hEs _ (hx2 q (by omega))).1) (by rfl) ?_
          refine v_iload dX7_takeAll_97 (by rfl) ?_
          refine v_eqi hq ?_
          refine v_aaldC hE dX7_takeAll_99 (by first | assumption | exact (hEs _ (hx2 q (by omega))).1) (by omega) ?_
          refine v_iload_n dX7_takeAll_100 rfl (by rfl) ?_
          refine v_aload_n dX7_takeAll_101 rfl (by rfl) ?_
          refine v_getf hE dX7_takeAll_102 fX7_22 (by first | assumption | exact (hEs _ (hx2 q (by omega))).1) (by rfl) ?_
          refine v_getf hE dX7_takeAll_105 fX7_34 (by first | assumption | exact (hEs _ (hx2 q (by omega))).1) (by rfl) ?_
          refine w_callS hE dX7_takeAll_108 kX7_109 (by rfl) (sX7_moveCalls hE (hEs _ (hx2 q (by omega))) (hx1 _ (hx2 q (by omega))) (hEs _ hxj) (hx1 _ hxj) (by have := hA.1.1 _ _ (hx2 q (by omega)) hxj (hdx q j (by omega) (by omega)).2; omega) hkm) rfl (by decide) (by decide) (by exact Nat.le_of_ble_eq_true rfl) (by omega) (by omega) (fun v9 g9 u9 h9 => ?_) (fun _ _ _ h => by cases h.1)
          obtain ⟨hv9, hu9, hg9⟩ := h9
          replace hu9 := hu9.symm
          replace hg9 := hg9.symm
          subst hu9
          subst hg9
          cases hv9
          refine v_hp (dsS_up hA (hx2 q (by omega))) ?_
          refine v_goto (tgt := 171) dX7_takeAll_111 (by decide) ?_
          refine v_iincN (y := 1) dX7_takeAll_171 (by rfl) (by decide) (by decide) ?_
          refine v_goto (tgt := 54) dX7_takeAll_174 (by decide) ?_
          have hz : tkS v.2.1.1 w.2.1.1 j x = (va_up x.1 (x.2.1 q) (eMvC (x.1 (x.2.2.1 j)) v.2.1.1 w.2.1.1 (x.1 (x.2.1 q))), x.2) := by
            unfold tkS
            rw [if_neg (fun z => z.elim c79 c88), hq, nI_clamp hq0]
          exact ih (d - 1) (by omega) (j + 1) (va_up x.1 (x.2.1 q) (eMvC (x.1 (x.2.2.1 j)) v.2.1.1 w.2.1.1 (x.1 (x.2.1 q))), x.2) _ _ (by omega) (upW_ok hx1 (eMvC_ok (hx1 _ hxj) _ _ (hx1 _ (hx2 q (by omega))))) hx2 hx3 hdx hx5 (he.trans (by rw [show w.2.2 - j = (w.2.2 - (j + 1)) + 1 by omega]; show tkL _ _ _ _ (tkS _ _ _ _) = _; rw [hz]))
  have l1 : ∀ (d : Nat) (i : Nat) (U : Nat → eV), i + d = v.2.2 → (∀ z, X z → enOk (U z)) → tkL1 v.1 v.2.1.1 (nmAll 3 v.2.1 w.2.1).1 (v.2.2 - 0) 0 W = tkL1 v.1 v.2.1.1 (nmAll 3 v.2.1 w.2.1).1 (v.2.2 - i) i U → V E mX7_takeAll 0 0 (fun o f' t' => o = .inl none ∧ t' = t ∧ f' = dsS f X (tkW W v w).1 a ((tkW W v w).2.1, (nmAll 3 v.2.1 w.2.1), (tkW W v w).2.2.2) b ((tkW W v w).2.2.1, w.2)) 21 [some (.ref a), some (.ref b), some (.int (nI v.2.1.1)), some (.int (nI i)), none, none] [] (dsS f X U a (v.1, (nmAll 3 v.2.1 w.2.1), v.2.2) b w) t 0 0 := by
    intro d
    induction d using Nat.strongRecOn with
    | _ d ih =>
    intro i U hi hU he
    obtain ⟨⟨⟨p0, p1, p2, p3, p4⟩, hEs⟩, ⟨q0, q1, q2, q3, q4⟩⟩ := dsP_S (f := f) (W := U) (v := (v.1, (nmAll 3 v.2.1 w.2.1), v.2.2)) (w := w) hA
    dsimp only at p0 p1 p2 p3 p4 q0 q1 q2 q3 q4
    refine v_iload_n dX7_takeAll_21 rfl (by rfl) ?_
    refine v_aload_n dX7_takeAll_22 rfl (by rfl) ?_
    refine v_getf hE dX7_takeAll_23 fX7_27 (by repeat (first | assumption | exact va_up_self _ _ _ | refine (va_up_ne _ _ (by omega)).trans ?_)) (by rfl) ?_
    refine v_icmp_geN (tgt := 52) dX7_takeAll_26 (by decide) (by omega) (by omega) (fun c26 => ?_) (fun c26 => ?_)
    · refine v_iconst (v := nI 0) dX7_takeAll_52 (by decide) ?_
      refine v_istore_n dX7_takeAll_53 rfl (by decide) ?_
      exact l2 w.2.2 0 (U, v.1, w.1, v.2.2) none none (by omega) hU hX hXw hdj (by show v.2.2 ≤ 60; omega) (by unfold tkW; rw [he, show v.2.2 - i = 0 by omega]; rfl)
    · refine v_aload_n dX7_takeAll_29 rfl (by rfl) ?_
      refine v_getf hE dX7_takeAll_30 fX7_11 (by repeat (first | assumption | exact va_up_self _ _ _ | refine (va_up_ne _ _ (by omega)).trans ?_)) (by rfl) ?_
      refine v_iload_n dX7_takeAll_33 rfl (by rfl) ?_
      refine v_aaldC hE dX7_takeAll_34 (by repeat (first | assumption | exact va_up_self _ _ _ | refine (va_up_ne _ _ (by omega)).trans ?_)) (by omega) ?_
      refine v_iload_n dX7_takeAll_35 rfl (by rfl) ?_
      refine v_aload_n dX7_takeAll_36 rfl (by rfl) ?_
      refine v_getf hE dX7_takeAll_37 fX7_22 (by repeat (first | assumption | exact va_up_self _ _ _ | refine (va_up_ne _ _ (by omega)).trans ?_)) (by rfl) ?_
      refine v_getf hE dX7_takeAll_40 fX7_34 (by repeat (first | assumption | exact va_up_self _ _ _ | refine (va_up_ne _ _ (by omega)).trans ?_)) (by rfl) ?_
      refine w_callS hE dX7_takeAll_43 kX7_106 (by rfl) (sX7_setNoCalls hE (hEs _ (hX i (by omega))) (hU _ (hX i (by omega))) (by omega) (by omega)) rfl (by decide) (by decide) (by exact Nat.le_of_ble_eq_true rfl) (by omega) (by omega) (fun v9 g9 u9 h9 => ?_) (fun _ _ _ h => by cases h.1)
      obtain ⟨hv9, hu9, hg9⟩ := h9
      replace hu9 := hu9.symm
      replace hg9 := hg9.symm
      subst hu9
      subst hg9
      cases hv9
      refine v_hp (dsS_up hA (hX i (by omega))) ?_
      refine v_iincN (y := 1) dX7_takeAll_46 (by rfl) (by decide) (by decide) ?_
      refine v_goto (tgt := 21) dX7_takeAll_49 (by decide) ?_
      exact ih (d - 1) (by omega) (i + 1) _ (by omega) (upW_ok hU (eNoCs_ok _ _ _ (hU _ (hX i (by omega))))) (he.trans (by rw [show v.2.2 - i = (v.2.2 - (i + 1)) + 1 by omega]; rfl))
  refine v_aload_n dX7_takeAll_0 rfl (by rfl) ?_
  refine v_getf hE dX7_takeAll_1 fX7_22 (by repeat (first | assumption | exact va_up_self _ _ _ | refine (va_up_ne _ _ (by omega)).trans ?_)) (by rfl) ?_
  refine v_getf hE dX7_takeAll_4 fX7_34 (by repeat (first | assumption | exact va_up_self _ _ _ | refine (va_up_ne _ _ (by omega)).trans ?_)) (by rfl) ?_
  refine v_istore_n dX7_takeAll_7 rfl (by decide) ?_
  refine v_aload_n dX7_takeAll_8 rfl (by rfl) ?_
  refine v_getf hE dX7_takeAll_9 fX7_22 (by repeat (first | assumption | exact va_up_self _ _ _ | refine (va_up_ne _ _ (by omega)).trans ?_)) (by rfl) ?_
  refine v_aload_n dX7_takeAll_12 rfl (by rfl) ?_
  refine v_getf hE dX7_takeAll_13 fX7_22 (by repeat (first | assumption | exact va_up_self _ _ _ | refine (va_up_ne _ _ (by omega)).trans ?_)) (by rfl) ?_
  refine w_callV hE dX7_takeAll_16 kX7_51 (by repeat (first | assumption | exact va_up_self _ _ _ | refine (va_up_ne _ _ (by omega)).trans ?_)) (by rfl) (by rfl) (sX5_addAll hE (sh_nm h.1.1) hv.1 (sh_nm h.2) hw.1 (by have := hA.2.2; omega) (by omega)) rfl (by decide) (by decide) (by exact Nat.le_of_ble_eq_true rfl) (by omega) (by omega) (fun v9 g9 u9 h9 => ?_) (fun _ _ _ h => by cases h.1)
  obtain ⟨hv9, hu9, hg9⟩ := h9
  replace hu9 := hu9.symm
  replace hg9 := hg9.symm
  subst hu9
  subst hg9
  cases hv9
  refine v_hp (show _ = dsS f X W a (v.1, (nmAll 3 v.2.1 w.2.1), v.2.2) b w from (sh_set h.1.1).trans ((congrArg (fun z => shS z a (v.1, (nmAll 3 v.2.1 w.2.1), v.2.2)) (dsS_id hA h).symm).trans (dsS_a hA))) ?_
  refine v_iconst (v := nI 0) dX7_takeAll_19 (by decide) ?_
  refine v_istore_n dX7_takeAll_20 rfl (by decide) ?_
  exact l1 v.2.2 0 W (by omega) hW rfl
