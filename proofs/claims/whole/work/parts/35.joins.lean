/-! joins: records X, the joiner at j -/
def jsA (X : Nat → Prop) (j : Nat) : Prop := apA X ∧ X (j + 1) ∧ X (j + 8) ∧ ∀ x, X x → x + 6 < j ∨ x = j + 1 ∨ x = j + 8 ∨ j + 15 < x
def jsP (f : aH) (X : Nat → Prop) (W : Nat → eV) (j : Nat) (g : Nat → Int32) : Prop := f j = .inr (4, [.ref (j + 1), .ref (j + 8), .ref (j + 15)]) ∧ esP f X W ∧ f (j + 15) = joC g
noncomputable def jsS (f : aH) (X : Nat → Prop) (W : Nat → eV) (j : Nat) (g : Nat → Int32) : aH := va_up (esS f X W) (j + 15) (joC g)
theorem jsA_o {X : Nat → Prop} {j b : Nat} (hA : jsA X j) (hb : b = j ∨ b = j + 15) : ¬ esB X b := fun ⟨x, hx, h1, h2⟩ => by
  have := hA.2.2.2 x hx
  omega
theorem jsS_ext {f f' : aH} {X : Nat → Prop} {W : Nat → eV} {j : Nat} {g : Nat → Int32} (hA : jsA X j) (h1 : esP f' X W) (h2 : f' (j + 15) = joC g) (h : ∀ b, ¬ esB X b → b ≠ j + 15 → f' b = f b) : f' = jsS f X W j g := by
  funext b
  unfold jsS
  by_cases e : b = j + 15
  · rw [e, h2, va_up_self]
  · rw [va_up_ne _ _ e]
    by_cases hB : esB X b
    · obtain ⟨x, hx, q1, q2⟩ := hB
      rw [esS_in hA.1 hx q1 q2, enS_in (f' := f') q1 q2, enS_id (h1 x hx)]
    · rw [esS_no hB, h b hB e]
theorem jsS_ne {f : aH} {X : Nat → Prop} {W : Nat → eV} {j b : Nat} {g : Nat → Int32} (h1 : ¬ esB X b) (h2 : b ≠ j + 15) : jsS f X W j g b = f b := (va_up_ne _ _ h2).trans (esS_no h1)
theorem js_es {f : aH} {X : Nat → Prop} {W : Nat → eV} {j : Nat} {g : Nat → Int32} (hA : jsA X j) : esP (jsS f X W j g) X W := fun x hx => en_up (esP_S hA.1 x hx) (by have := hA.2.2.2 x hx; omega)
theorem jsP_S {f : aH} {X : Nat → Prop} {W U : Nat → eV} {j : Nat} {g k : Nat → Int32} (hA : jsA X j) (h : jsP f X U j k) : jsP (jsS f X W j g) X W j g := ⟨(jsS_ne (jsA_o hA (Or.inl rfl)) (by omega)).trans h.1, js_es hA, va_up_self _ _ _⟩
theorem jsS_id {f : aH} {X : Nat → Prop} {W : Nat → eV} {j : Nat} {g : Nat → Int32} (hA : jsA X j) (h : jsP f X W j g) : jsS f X W j g = f := (jsS_ext hA h.2.1 h.2.2 (fun _ _ _ => rfl)).symm
theorem jsS_S {f : aH} {X : Nat → Prop} {W U : Nat → eV} {j : Nat} {g k : Nat → Int32} (hA : jsA X j) : jsS (jsS f X W j g) X U j k = jsS f X U j k := jsS_ext hA (js_es hA) (va_up_self _ _ _) (fun b h1 h2 => by rw [jsS_ne h1 h2, jsS_ne h1 h2])
theorem es_enS {f : aH} {X : Nat → Prop} {W : Nat → eV} {x : Nat} {v : eV} (hA : apA X) (hx : X x) (h : esP f X W) : esP (enS f x v) X (va_up W x v) := fun y hy => by
  by_cases e : y = x
  · subst e
    rw [va_up_self]
    exact enP_S _ _ _
  · rw [va_up_ne _ _ e]
    exact en_enS (h y hy) (by have := hA y x hy hx e; omega)
theorem esB_ne {X : Nat → Prop} {x b : Nat} (hx : X x) (h : ¬ esB X b) : b < x ∨ x + 6 < b := by
  by_cases q : b < x ∨ x + 6 < b
  · exact q
  · exact absurd ⟨x, hx, by omega, by omega⟩ h
theorem jsS_up {f : aH} {X : Nat → Prop} {W : Nat → eV} {j x : Nat} {g : Nat → Int32} {v : eV} (hA : jsA X j) (hx : X x) : enS (jsS f X W j g) x v = jsS f X (va_up W x v) j g :=
  jsS_ext hA (es_enS hA.1 hx (js_es hA)) ((enS_ne (esB_ne hx (jsA_o hA (Or.inr rfl)))).trans (va_up_self _ _ _)) (fun b h1 h2 => by rw [enS_ne (esB_ne hx h1), jsS_ne h1 h2])
theorem es_up {f : aH} {X : Nat → Prop} {W : Nat → eV} {b : Nat} {e : aC} (h : esP f X W) (hb : ¬ esB X b) : esP (va_up f b e) X W := fun y hy => en_up (h y hy) (esB_ne hy hb)
theorem jsS_jo {f : aH} {X : Nat → Prop} {W : Nat → eV} {j : Nat} {g k : Nat → Int32} {v : eV} (hA : jsA X j) : joS (jsS f X W j g) j v k = jsS f X (va_up W (j + 1) v) j k :=
  jsS_ext hA (es_up (es_enS hA.1 hA.2.1 (js_es hA)) (jsA_o hA (Or.inr rfl))) (va_up_self _ _ _) (fun b h1 h2 => by unfold joS; rw [va_up_ne _ _ h2, enS_ne (esB_ne hA.2.1 h1), jsS_ne h1 h2])
theorem js_jo {f : aH} {X : Nat → Prop} {W : Nat → eV} {j : Nat} {g : Nat → Int32} {v w : eV} (hA : jsA X j) (h : jsP f X W j g) (h1 : W (j + 1) = v) (h2 : W (j + 8) = w) : joP f j v w g := ⟨h.1, h1 ▸ h.2.1 _ hA.2.1, h2 ▸ h.2.1 _ hA.2.2.1, h.2.2⟩
theorem js_at {f : aH} {X : Nat → Prop} {W : Nat → eV} {j x : Nat} {g : Nat → Int32} {v : eV} (hA : jsA X j) (hx : X x) (h : W x = v) : enP (jsS f X W j g) x v := h ▸ js_es hA x hx
def jFit (v w : eV) : Bool := decide (1 < eRo v) && (decide (1 < eRo w) && (eWith v w && (eReach v (max (eRs v 0) (eRs w 0)) && eReach w (max (eRs v 0) (eRs w 0)))))
def jCaS (w : eV) (g : Nat → Int32) : Nat → Nat → eV → eV
  | 0, _, v => v
  | d + 1, i, v => jCaS w g d (i + 1) (jCa v w g i)
abbrev jFst (W : Nat → eV) (x y j : Nat) : eV := eRch (eCopy (W (j + 1)) (W x)) (W y)
abbrev jSnd (W : Nat → eV) (x y j : Nat) : eV := eRch (eCopy (W (j + 8)) (W y)) (W x)
abbrev jW1 (W : Nat → eV) (x y j : Nat) (v : eV) : Nat → eV := va_up (va_up W (j + 1) v) (j + 8) (jSnd W x y j)
def jJoin (W : Nat → eV) (x y j n : Nat) (g : Nat → Int32) : Bool × (Nat → eV) × (Nat → Int32) :=
  if jFit (W x) (W y) = true then
    (if (jAl (jFst W x y j) (jSnd W x y j) g).1 = true then
      (true, va_up (jW1 W x y j (jCaS (jSnd W x y j) (jAl (jFst W x y j) (jSnd W x y j) g).2.2 (n - 0) 0 (jAl (jFst W x y j) (jSnd W x y j) g).2.1)) x (eCopy (W x) (jCaS (jSnd W x y j) (jAl (jFst W x y j) (jSnd W x y j) g).2.2 (n - 0) 0 (jAl (jFst W x y j) (jSnd W x y j) g).2.1)), (jAl (jFst W x y j) (jSnd W x y j) g).2.2)
    else (false, jW1 W x y j (jAl (jFst W x y j) (jSnd W x y j) g).2.1, (jAl (jFst W x y j) (jSnd W x y j) g).2.2))
  else (false, W, g)
theorem eRchL_ok {w : eV} {r : Nat} : ∀ (d k : Nat) (v : eV), enOk v → enOk (eRchL w r d k v) := by
  intro d
  induction d with
  | zero => intro k v h; exact h
  | succ d ih => intro k v h; exact ih _ _ (eAddL_ok h)
theorem eRchR_ok {w : eV} {k : Nat} : ∀ (d r : Nat) (v : eV), enOk v → enOk (eRchR w k d r v) := by
  intro d
  induction d with
  | zero => intro r v h; exact h
  | succ d ih => intro r v h; exact ih _ _ (eRchL_ok _ _ _ h)
theorem eRch_ok {v w : eV} (h : enOk v) : enOk (eRch v w) := eRchR_ok _ _ _ h
theorem jAlL_ok {w : eV} (hw : enOk w) : ∀ (d r : Nat) (v : eV) (g : Nat → Int32), enOk v → enOk (jAlL w d r v g).2.1 := by
  intro d
  induction d with
  | zero => intro r v g h; exact h
  | succ d ih =>
    intro r v g h
    unfold jAlL
    split
    · split
      · exact h
      · exact ih _ _ _ (wRo_ok (eCopyR_ok h hw) (by have := h.1; omega))
    · exact ih _ _ _ h
theorem jAl_ok {v w : eV} {g : Nat → Int32} (h : enOk v) (hw : enOk w) : enOk (jAl v w g).2.1 := jAlL_ok hw _ _ _ _ h
theorem jCaL_ok {w : eV} {g : Nat → Int32} {i : Nat} : ∀ (d c : Nat) (v : eV), enOk v → enOk (jCaL w g i d c v) := by
  intro d
  induction d with
  | zero => intro c v h; exact h
  | succ d ih => intro c v h; exact ih _ _ h
theorem jCa_ok {v w : eV} {g : Nat → Int32} {i : Nat} (h : enOk v) (hw : enOk w) : enOk (jCa v w g i) := by
  obtain ⟨h1, h2, h3, h4⟩ := jCaL_ok (w := w) (g := g) (i := i) (max (eCn v i) (eCn w i) - 0) 0 v h
  exact ⟨h1, h2, va_up_le h.2.2.1 (by have := h.2.2.1 i; have := hw.2.2.1 i; omega), h4⟩
theorem jCaS_ok {w : eV} {g : Nat → Int32} (hw : enOk w) : ∀ (d i : Nat) (v : eV), enOk v → enOk (jCaS w g d i v) := by
  intro d
  induction d with
  | zero => intro c v h; exact h
  | succ d ih => intro c v h; exact ih _ _ (jCa_ok h hw)

set_option maxRecDepth 100000 in
set_option maxHeartbeats 4000000 in
/-- Joiner.joins -/
theorem sX4_joins {E : eN} (hE : eOk E) {f : aH} {t : Nat} {j x y n : Nat} {X : Nat → Prop} {W : Nat → eV} {g : Nat → Int32} (hA : jsA X j) (h : jsP f X W j g) (hW : ∀ z, X z → enOk (W z)) (hx : X x) (hy : X y) (dx : x + 6 < j ∨ j + 15 < x) (dy : y + 6 < j ∨ j + 15 < y) (dxy : x + 6 < y ∨ y + 6 < x) (hn : n ≤ 3) : mT E mX4_joins 0 0 [.ref j, .ref x, .ref y, .int (nI n)] f t (fun o f' t' => o = .inl (some (.int (bI (jJoin W x y j n g).1))) ∧ t' = t ∧ f' = jsS f X (jJoin W x y j n g).2.1 j (jJoin W x y j n g).2.2) := by
  refine mT_of (n := 2) (lo := [some (.ref j), some (.ref x), some (.ref y), some (.int (nI n)), none, none]) (by decide) (by exact Nat.le_of_ble_eq_true rfl) rfl rfl ?_
  have hfst : enOk (jFst W x y j) := eRch_ok (eCopy_ok (hW _ hA.2.1) (hW x hx))
  have hsnd : enOk (jSnd W x y j) := eRch_ok (eCopy_ok (hW _ hA.2.2.1) (hW y hy))
  have kx := (hW x hx).2.1 0
  have ky := (hW y hy).2.1 0
  obtain ⟨x0, x1, x2, x3, x4, x5, x6⟩ := h.2.1 x hx
  obtain ⟨y0, y1, y2, y3, y4, y5, y6⟩ := h.2.1 y hy
  obtain ⟨a0, a1, a2, a3, a4, a5, a6⟩ := h.2.1 _ hA.2.1
  obtain ⟨b0, b1, b2, b3, b4, b5, b6⟩ := h.2.1 _ hA.2.2.1
  have h0 := h.1
  have lp : jFit (W x) (W y) = true → (jAl (jFst W x y j) (jSnd W x y j) g).1 = true → ∀ (k : Nat → Int32), k = (jAl (jFst W x y j) (jSnd W x y j) g).2.2 → ∀ (d : Nat) (i : Nat) (u : eV), i + d = n → enOk u → jCaS (jSnd W x y j) k (n - 0) 0 (jAl (jFst W x y j) (jSnd W x y j) g).2.1 = jCaS (jSnd W x y j) k (n - i) i u → V E mX4_joins 0 0 (fun o f' t' => o = .inl (some (.int (bI (jJoin W x y j n g).1))) ∧ t' = t ∧ f' = jsS f X (jJoin W x y j n g).2.1 j (jJoin W x y j n g).2.2) 105 [some (.ref j), some (.ref x), some (.ref y), some (.int (nI n)), some (.int (nI (max (eRs (W x) 0) (eRs (W y) 0)))), some (.int (nI i))] [] (jsS f X (jW1 W x y j u) j k) t 0 0 := by
    intro hf hal k hk d
    induction d using Nat.strongRecOn with
    | _ d ih =>
    intro i u hi hu he
    refine v_iload dX4_joins_105 (by rfl) ?_
    refine v_iload_n dX4_joins_107 rfl (by rfl) ?_
    refine v_icmp_geN (tgt := 123) dX4_joins_108 (by decide) (by omega) (by omega) (fun c108 => ?_) (fun c108 => ?_)
    · refine v_aload_n dX4_joins_123 rfl (by rfl) ?_
      refine v_aload_n dX4_joins_124 rfl (by rfl) ?_
      refine v_getf hE dX4_joins_125 fX4_12 (by first | assumption | exact (jsP_S hA h).1 | exact (js_es hA _ hx).1 | exact (js_es hA _ hA.2.1).1 | exact (js_es hA _ hA.2.2.1).1) (by rfl) ?_
      refine w_callV hE dX4_joins_128 kX4_46 (by first | assumption | exact (jsP_S hA h).1 | exact (js_es hA _ hx).1 | exact (js_es hA _ hA.2.1).1 | exact (js_es hA _ hA.2.2.1).1) (by rfl) (by rfl) (sX0_copyFrom hE (v := W x) (w := u) (js_at hA hx (by repeat (first | rfl | exact va_up_self _ _ _ | refine (va_up_ne _ _ (by omega)).trans ?_))) (hW x hx) (js_at hA hA.2.1 (by repeat (first | rfl | exact va_up_self _ _ _ | refine (va_up_ne _ _ (by omega)).trans ?_))) hu (by omega)) rfl (by decide) (by decide) (by exact Nat.le_of_ble_eq_true rfl) (by omega) (by omega) (fun v9 g9 u9 h9 => ?_) (fun _ _ _ h => by cases h.1)
      obtain ⟨hv9, hu9, hg9⟩ := h9
      replace hu9 := hu9.symm
      replace hg9 := hg9.symm
      subst hu9
      subst hg9
      cases hv9
      refine v_hp (jsS_up hA hx) ?_
      refine v_iconst (v := nI 1) dX4_joins_131 (by decide) ?_
      refine v_iret dX4_joins_132 rfl (by first | rfl | exact nar_bI) ?_
      unfold jJoin
      rw [if_pos hf, if_pos hal, ← hk, he, show n - i = 0 by omega]
      exact ⟨rfl, rfl, rfl⟩
    · refine v_aload_n dX4_joins_111 rfl (by rfl) ?_
      refine v_iload dX4_joins_112 (by rfl) ?_
      refine w_callV hE dX4_joins_114 kX4_56 (by first | assumption | exact (jsP_S hA h).1 | exact (js_es hA _ hx).1 | exact (js_es hA _ hA.2.1).1 | exact (js_es hA _ hA.2.2.1).1) (by rfl) (by rfl) (sX4_joinCalls hE (v := u) (w := jSnd W x y j) (js_jo hA (jsP_S hA h) (by repeat (first | rfl | exact va_up_self _ _ _ | refine (va_up_ne _ _ (by omega)).trans ?_)) (by repeat (first | rfl | exact va_up_self _ _ _ | refine (va_up_ne _ _ (by omega)).trans ?_))) hu hsnd (by omega)) rfl (by decide) (by decide) (by exact Nat.le_of_ble_eq_true rfl) (by omega) (by omega) (fun v9 g9 u9 h9 => ?_) (fun _ _ _ h => by cases h.1)
      obtain ⟨hv9, hu9, hg9⟩ := h9
      replace hu9 := hu9.symm
      replace hg9 := hg9.symm
      subst hu9
      subst hg9
      cases hv9
      refine v_hp (jsS_jo hA) ?_
      refine v_hp (show _ = jsS f X (jW1 W x y j (jCa u (jSnd W x y j) k i)) j k from congrArg (fun U => jsS f X U j k) (by funext z; unfold jW1; simp only [va_up]; (repeat' split) <;> first | rfl | omega)) ?_
      refine v_iincN (y := 1) dX4_joins_117 (by rfl) (by decide) (by decide) ?_
      refine v_goto (tgt := 105) dX4_joins_120 (by decide) ?_
      exact ih (d - 1) (by omega) (i + 1) _ (by omega) (jCa_ok hu hsnd) (he.trans (by rw [show n - i = (n - (i + 1)) + 1 by omega]; rfl))
  refine v_aload_n dX4_joins_0 rfl (by rfl) ?_
  refine w_callV hE dX4_joins_1 kX4_25 (by first | assumption | exact (jsP_S hA h).1 | exact (js_es hA _ hx).1 | exact (js_es hA _ hA.2.1).1 | exact (js_es hA _ hA.2.2.1).1) (by rfl) (by rfl) (sX0_hasAlts hE (h.2.1 x hx) (hW x hx)) rfl (by decide) (by decide) (by exact Nat.le_of_ble_eq_true rfl) (by omega) (by omega) (fun v9 g9 u9 h9 => ?_) (fun _ _ _ h => by cases h.1)
  obtain ⟨hv9, hu9, hg9⟩ := h9
  replace hu9 := hu9.symm
  replace hg9 := hg9.symm
  subst hu9
  subst hg9
  cases hv9
  refine v_if_eqB (tgt := 22) dX4_joins_4 (by decide) (fun c4 => ?_) (fun c4 => ?_)
  · refine v_iconst (v := nI 0) dX4_joins_22 (by decide) ?_
    refine v_iret dX4_joins_23 rfl (by first | rfl | exact nar_bI) ?_
    unfold jJoin
    first
      | (rw [if_neg (by unfold jFit; simp only [c4, Bool.false_and]; decide), jsS_id hA h]; exact ⟨rfl, rfl, rfl⟩)
      | (rw [if_neg (by unfold jFit; simp only [c11, Bool.false_and, Bool.and_false]; decide), jsS_id hA h]; exact ⟨rfl, rfl, rfl⟩)
      | (rw [if_neg (by unfold jFit; simp only [c19, Bool.false_and, Bool.and_false]; decide), jsS_id hA h]; exact ⟨rfl, rfl, rfl⟩)
      | (rw [if_neg (by unfold jFit; simp only [c47, Bool.false_and, Bool.and_false]; decide), jsS_id hA h]; exact ⟨rfl, rfl, rfl⟩)
      | (rw [if_neg (by unfold jFit; simp only [c56, Bool.false_and, Bool.and_false]; decide), jsS_id hA h]; exact ⟨rfl, rfl, rfl⟩)
      | (rw [if_pos hfit, if_neg (by rw [c97]; decide)]; exact ⟨rfl, rfl, rfl⟩)
  · refine v_aload_n dX4_joins_7 rfl (by rfl) ?_
    refine w_callV hE dX4_joins_8 kX4_25 (by first | assumption | exact (jsP_S hA h).1 | exact (js_es hA _ hx).1 | exact (js_es hA _ hA.2.1).1 | exact (js_es hA _ hA.2.2.1).1) (by rfl) (by rfl) (sX0_hasAlts hE (h.2.1 y hy) (hW y hy)) rfl (by decide) (by decide) (by exact Nat.le_of_ble_eq_true rfl) (by omega) (by omega) (fun v9 g9 u9 h9 => ?_) (fun _ _ _ h => by cases h.1)
    obtain ⟨hv9, hu9, hg9⟩ := h9
    replace hu9 := hu9.symm
    replace hg9 := hg9.symm
    subst hu9
    subst hg9
    cases hv9
    refine v_if_eqB (tgt := 22) dX4_joins_11 (by decide) (fun c11 => ?_) (fun c11 => ?_)
    · refine v_iconst (v := nI 0) dX4_joins_22 (by decide) ?_
      refine v_iret dX4_joins_23 rfl (by first | rfl | exact nar_bI) ?_
      unfold jJoin
      first
        | (rw [if_neg (by unfold jFit; simp only [c4, Bool.false_and]; decide), jsS_id hA h]; exact ⟨rfl, rfl, rfl⟩)
        | (rw [if_neg (by unfold jFit; simp only [c11, Bool.false_and, Bool.and_false]; decide), jsS_id hA h]; exact ⟨rfl, rfl, rfl⟩)
        | (rw [if_neg (by unfold jFit; simp only [c19, Bool.false_and, Bool.and_false]; decide), jsS_id hA h]; exact ⟨rfl, rfl, rfl⟩)
        | (rw [if_neg (by unfold jFit; simp only [c47, Bool.false_and, Bool.and_false]; decide), jsS_id hA h]; exact ⟨rfl, rfl, rfl⟩)
        | (rw [if_neg (by unfold jFit; simp only [c56, Bool.false_and, Bool.and_false]; decide), jsS_id hA h]; exact ⟨rfl, rfl, rfl⟩)
        | (rw [if_pos hfit, if_neg (by rw [c97]; decide)]; exact ⟨rfl, rfl, rfl⟩)
    · refine v_aload_n dX4_joins_14 rfl (by rfl) ?_
      refine v_aload_n dX4_joins_15 rfl (by rfl) ?_
      refine w_callV hE dX4_joins_16 kX4_29 (by first | assumption | exact (jsP_S hA h).1 | exact (js_es hA _ hx).1 | exact (js_es hA _ hA.2.1).1 | exact (js_es hA _ hA.2.2.1).1) (by rfl) (by rfl) (sX0_standsWith hE (h.2.1 x hx) (hW x hx) (h.2.1 y hy) (hW y hy)) rfl (by decide) (by decide) (by exact Nat.le_of_ble_eq_true rfl) (by omega) (by omega) (fun v9 g9 u9 h9 => ?_) (fun _ _ _ h => by cases h.1)
      obtain ⟨hv9, hu9, hg9⟩ := h9
      replace hu9 := hu9.symm
      replace hg9 := hg9.symm
      subst hu9
      subst hg9
      cases hv9
      refine v_if_neB (tgt := 24) dX4_joins_19 (by decide) (fun c19 => ?_) (fun c19 => ?_)
      · refine v_aload_n dX4_joins_24 rfl (by rfl) ?_
        refine v_getf hE dX4_joins_25 fX4_33 (by first | assumption | exact (jsP_S hA h).1 | exact (js_es hA _ hx).1 | exact (js_es hA _ hA.2.1).1 | exact (js_es hA _ hA.2.2.1).1) (by rfl) ?_
        refine v_iconst (v := nI 0) dX4_joins_28 (by decide) ?_
        refine v_iald hE dX4_joins_29 (by first | assumption | exact (jsP_S hA h).1 | exact (js_es hA _ hx).1 | exact (js_es hA _ hA.2.1).1 | exact (js_es hA _ hA.2.2.1).1) (by omega) (by omega) ?_
        refine v_aload_n dX4_joins_30 rfl (by rfl) ?_
        refine v_getf hE dX4_joins_31 fX4_33 (by first | assumption | exact (jsP_S hA h).1 | exact (js_es hA _ hx).1 | exact (js_es hA _ hA.2.1).1 | exact (js_es hA _ hA.2.2.1).1) (by rfl) ?_
        refine v_iconst (v := nI 0) dX4_joins_34 (by decide) ?_
        refine v_iald hE dX4_joins_35 (by first | assumption | exact (jsP_S hA h).1 | exact (js_es hA _ hx).1 | exact (js_es hA _ hA.2.1).1 | exact (js_es hA _ hA.2.2.1).1) (by omega) (by omega) ?_
        refine v_maxN hE dX4_joins_36 qX4_36 (by decide) (by exact Nat.le_of_ble_eq_true rfl) (by omega) (by omega) ?_
        refine v_istore dX4_joins_39 (by decide) ?_
        refine v_aload_n dX4_joins_41 rfl (by rfl) ?_
        refine v_iload dX4_joins_42 (by rfl) ?_
        refine w_callV hE dX4_joins_44 kX4_42 (by first | assumption | exact (jsP_S hA h).1 | exact (js_es hA _ hx).1 | exact (js_es hA _ hA.2.1).1 | exact (js_es hA _ hA.2.2.1).1) (by rfl) (by rfl) (sX0_canReach hE (h.2.1 x hx) (hW x hx) (by omega) (by omega)) rfl (by decide) (by decide) (by exact Nat.le_of_ble_eq_true rfl) (by omega) (by omega) (fun v9 g9 u9 h9 => ?_) (fun _ _ _ h => by cases h.1)
        obtain ⟨hv9, hu9, hg9⟩ := h9
        replace hu9 := hu9.symm
        replace hg9 := hg9.symm
        subst hu9
        subst hg9
        cases hv9
        refine v_if_eqB (tgt := 59) dX4_joins_47 (by decide) (fun c47 => ?_) (fun c47 => ?_)
        · refine v_iconst (v := nI 0) dX4_joins_59 (by decide) ?_
          refine v_iret dX4_joins_60 rfl (by first | rfl | exact nar_bI) ?_
          unfold jJoin
          first
            | (rw [if_neg (by unfold jFit; simp only [c4, Bool.false_and]; decide), jsS_id hA h]; exact ⟨rfl, rfl, rfl⟩)
            | (rw [if_neg (by unfold jFit; simp only [c11, Bool.false_and, Bool.and_false]; decide), jsS_id hA h]; exact ⟨rfl, rfl, rfl⟩)
            | (rw [if_neg (by unfold jFit; simp only [c19, Bool.false_and, Bool.and_false]; decide), jsS_id hA h]; exact ⟨rfl, rfl, rfl⟩)
            | (rw [if_neg (by unfold jFit; simp only [c47, Bool.false_and, Bool.and_false]; decide), jsS_id hA h]; exact ⟨rfl, rfl, rfl⟩)
            | (rw [if_neg (by unfold jFit; simp only [c56, Bool.false_and, Bool.and_false]; decide), jsS_id hA h]; exact ⟨rfl, rfl, rfl⟩)
            | (rw [if_pos hfit, if_neg (by rw [c97]; decide)]; exact ⟨rfl, rfl, rfl⟩)
        · refine v_aload_n dX4_joins_50 rfl (by rfl) ?_
          refine v_iload dX4_joins_51 (by rfl) ?_
          refine w_callV hE dX4_joins_53 kX4_42 (by first | assumption | exact (jsP_S hA h).1 | exact (js_es hA _ hx).1 | exact (js_es hA _ hA.2.1).1 | exact (js_es hA _ hA.2.2.1).1) (by rfl) (by rfl) (sX0_canReach hE (h.2.1 y hy) (hW y hy) (by omega) (by omega)) rfl (by decide) (by decide) (by exact Nat.le_of_ble_eq_true rfl) (by omega) (by omega) (fun v9 g9 u9 h9 => ?_) (fun _ _ _ h => by cases h.1)
          obtain ⟨hv9, hu9, hg9⟩ := h9
          replace hu9 := hu9.symm
          replace hg9 := hg9.symm
          subst hu9
          subst hg9
          cases hv9
          
          refine v_if_neB (tgt := 61) dX4_joins_56 (by decide) (fun c56 => ?_) (fun c56 => ?_)
          · have hfit : jFit (W x) (W y) = true := by unfold jFit; simp only [c4, c11, c19, c47, c56, Bool.and_true]
            refine v_hp (jsS_id hA h).symm ?_
            refine v_aload_n dX4_joins_61 rfl (by rfl) ?_
            refine v_getf hE dX4_joins_62 fX4_12 (by first | assumption | exact (jsP_S hA h).1 | exact (js_es hA _ hx).1 | exact (js_es hA _ hA.2.1).1 | exact (js_es hA _ hA.2.2.1).1) (by rfl) ?_
            refine v_aload_n dX4_joins_65 rfl (by rfl) ?_
            refine w_callV hE dX4_joins_66 kX4_46 (by first | assumption | exact (jsP_S hA h).1 | exact (js_es hA _ hx).1 | exact (js_es hA _ hA.2.1).1 | exact (js_es hA _ hA.2.2.1).1) (by rfl) (by rfl) (sX0_copyFrom hE (v := W (j + 1)) (w := W x) (js_at hA hA.2.1 (by repeat (first | rfl | exact va_up_self _ _ _ | refine (va_up_ne _ _ (by omega)).trans ?_))) (hW _ hA.2.1) (js_at hA hx (by repeat (first | rfl | exact va_up_self _ _ _ | refine (va_up_ne _ _ (by omega)).trans ?_))) (hW x hx) (by omega)) rfl (by decide) (by decide) (by exact Nat.le_of_ble_eq_true rfl) (by omega) (by omega) (fun v9 g9 u9 h9 => ?_) (fun _ _ _ h => by cases h.1)
            obtain ⟨hv9, hu9, hg9⟩ := h9
            replace hu9 := hu9.symm
            replace hg9 := hg9.symm
            subst hu9
            subst hg9
            cases hv9
            refine v_hp (jsS_up hA hA.2.1) ?_
            refine v_aload_n dX4_joins_69 rfl (by rfl) ?_
            refine v_getf hE dX4_joins_70 fX4_18 (by first | assumption | exact (jsP_S hA h).1 | exact (js_es hA _ hx).1 | exact (js_es hA _ hA.2.1).1 | exact (js_es hA _ hA.2.2.1).1) (by rfl) ?_
            refine v_aload_n dX4_joins_73 rfl (by rfl) ?_
            refine w_callV hE dX4_joins_74 kX4_46 (by first | assumption | exact (jsP_S hA h).1 | exact (js_es hA _ hx).1 | exact (js_es hA _ hA.2.1).1 | exact (js_es hA _ hA.2.2.1).1) (by rfl) (by rfl) (sX0_copyFrom hE (v := W (j + 8)) (w := W y) (js_at hA hA.2.2.1 (by repeat (first | rfl | exact va_up_self _ _ _ | refine (va_up_ne _ _ (by omega)).trans ?_))) (hW _ hA.2.2.1) (js_at hA hy (by repeat (first | rfl | exact va_up_self _ _ _ | refine (va_up_ne _ _ (by omega)).trans ?_))) (hW y hy) (by omega)) rfl (by decide) (by decide) (by exact Nat.le_of_ble_eq_true rfl) (by omega) (by omega) (fun v9 g9 u9 h9 => ?_) (fun _ _ _ h => by cases h.1)
            obtain ⟨hv9, hu9, hg9⟩ := h9
            replace hu9 := hu9.symm
            replace hg9 := hg9.symm
            subst hu9
            subst hg9
            cases hv9
            refine v_hp (jsS_up hA hA.2.2.1) ?_
            refine v_aload_n dX4_joins_77 rfl (by rfl) ?_
            refine v_getf hE dX4_joins_78 fX4_12 (by first | assumption | exact (jsP_S hA h).1 | exact (js_es hA _ hx).1 | exact (js_es hA _ hA.2.1).1 | exact (js_es hA _ hA.2.2.1).1) (by rfl) ?_
            refine v_aload_n dX4_joins_81 rfl (by rfl) ?_
            refine w_callV hE dX4_joins_82 kX4_50 (by first | assumption | exact (jsP_S hA h).1 | exact (js_es hA _ hx).1 | exact (js_es hA _ hA.2.1).1 | exact (js_es hA _ hA.2.2.1).1) (by rfl) (by rfl) (sX0_reachAsFarAs hE (v := eCopy (W (j + 1)) (W x)) (w := W y) (js_at hA hA.2.1 (by repeat (first | rfl | exact va_up_self _ _ _ | refine (va_up_ne _ _ (by omega)).trans ?_))) (eCopy_ok (hW _ hA.2.1) (hW x hx)) (js_at hA hy (by repeat (first | rfl | exact va_up_self _ _ _ | refine (va_up_ne _ _ (by omega)).trans ?_))) (hW y hy) (by omega)) rfl (by decide) (by decide) (by exact Nat.le_of_ble_eq_true rfl) (by omega) (by omega) (fun v9 g9 u9 h9 => ?_) (fun _ _ _ h => by cases h.1)
            obtain ⟨hv9, hu9, hg9⟩ := h9
            replace hu9 := hu9.symm
            replace hg9 := hg9.symm
            subst hu9
            subst hg9
            cases hv9
            refine v_hp (jsS_up hA hA.2.1) ?_
            refine v_aload_n dX4_joins_85 rfl (by rfl) ?_
            refine v_getf hE dX4_joins_86 fX4_18 (by first | assumption | exact (jsP_S hA h).1 | exact (js_es hA _ hx).1 | exact (js_es hA _ hA.2.1).1 | exact (js_es hA _ hA.2.2.1).1) (by rfl) ?_
            refine v_aload_n dX4_joins_89 rfl (by rfl) ?_
            refine w_callV hE dX4_joins_90 kX4_50 (by first | assumption | exact (jsP_S hA h).1 | exact (js_es hA _ hx).1 | exact (js_es hA _ hA.2.1).1 | exact (js_es hA _ hA.2.2.1).1) (by rfl) (by rfl) (sX0_reachAsFarAs hE (v := eCopy (W (j + 8)) (W y)) (w := W x) (js_at hA hA.2.2.1 (by repeat (first | rfl | exact va_up_self _ _ _ | refine (va_up_ne _ _ (by omega)).trans ?_))) (eCopy_ok (hW _ hA.2.2.1) (hW y hy)) (js_at hA hx (by repeat (first | rfl | exact va_up_self _ _ _ | refine (va_up_ne _ _ (by omega)).trans ?_))) (hW x hx) (by omega)) rfl (by decide) (by decide) (by exact Nat.le_of_ble_eq_true rfl) (by omega) (by omega) (fun v9 g9 u9 h9 => ?_) (fun _ _ _ h => by cases h.1)
            obtain ⟨hv9, hu9, hg9⟩ := h9
            replace hu9 := hu9.symm
            replace hg9 := hg9.symm
            subst hu9
            subst hg9
            cases hv9
            refine v_hp (jsS_up hA hA.2.2.1) ?_
            refine v_aload_n dX4_joins_93 rfl (by rfl) ?_
            refine w_callV hE dX4_joins_94 kX4_53 (by first | assumption | exact (jsP_S hA h).1 | exact (js_es hA _ hx).1 | exact (js_es hA _ hA.2.1).1 | exact (js_es hA _ hA.2.2.1).1) (by rfl) (by rfl) (sX4_takeAlts hE (v := jFst W x y j) (w := jSnd W x y j) (g := g) (js_jo hA (jsP_S hA h) (by repeat (first | rfl | exact va_up_self _ _ _ | refine (va_up_ne _ _ (by omega)).trans ?_)) (by repeat (first | rfl | exact va_up_self _ _ _ | refine (va_up_ne _ _ (by omega)).trans ?_))) hfst hsnd) rfl (by decide) (by decide) (by exact Nat.le_of_ble_eq_true rfl) (by omega) (by omega) (fun v9 g9 u9 h9 => ?_) (fun _ _ _ h => by cases h.1)
            obtain ⟨hv9, hu9, hg9⟩ := h9
            replace hu9 := hu9.symm
            replace hg9 := hg9.symm
            subst hu9
            subst hg9
            cases hv9
            refine v_hp (jsS_jo hA) ?_
            refine v_hp (show _ = jsS f X (jW1 W x y j (jAl (jFst W x y j) (jSnd W x y j) g).2.1) j (jAl (jFst W x y j) (jSnd W x y j) g).2.2 from congrArg (fun U => jsS f X U j (jAl (jFst W x y j) (jSnd W x y j) g).2.2) (by funext z; unfold jW1; simp only [va_up]; (repeat' split) <;> first | rfl | omega)) ?_
            refine v_if_neB (tgt := 102) dX4_joins_97 (by decide) (fun c97 => ?_) (fun c97 => ?_)
            · refine v_iconst (v := nI 0) dX4_joins_102 (by decide) ?_
              refine v_istore dX4_joins_103 (by decide) ?_
              exact lp hfit c97 _ rfl n 0 _ (by omega) (jAl_ok hfst hsnd) rfl
            · refine v_iconst (v := nI 0) dX4_joins_100 (by decide) ?_
              refine v_iret dX4_joins_101 rfl (by first | rfl | exact nar_bI) ?_
              unfold jJoin
              first
                | (rw [if_neg (by unfold jFit; simp only [c4, Bool.false_and]; decide), jsS_id hA h]; exact ⟨rfl, rfl, rfl⟩)
                | (rw [if_neg (by unfold jFit; simp only [c11, Bool.false_and, Bool.and_false]; decide), jsS_id hA h]; exact ⟨rfl, rfl, rfl⟩)
                | (rw [if_neg (by unfold jFit; simp only [c19, Bool.false_and, Bool.and_false]; decide), jsS_id hA h]; exact ⟨rfl, rfl, rfl⟩)
                | (rw [if_neg (by unfold jFit; simp only [c47, Bool.false_and, Bool.and_false]; decide), jsS_id hA h]; exact ⟨rfl, rfl, rfl⟩)
                | (rw [if_neg (by unfold jFit; simp only [c56, Bool.false_and, Bool.and_false]; decide), jsS_id hA h]; exact ⟨rfl, rfl, rfl⟩)
                | (rw [if_pos hfit, if_neg (by rw [c97]; decide)]; exact ⟨rfl, rfl, rfl⟩)
          · refine v_iconst (v := nI 0) dX4_joins_59 (by decide) ?_
            refine v_iret dX4_joins_60 rfl (by first | rfl | exact nar_bI) ?_
            unfold jJoin
            first
              | (rw [if_neg (by unfold jFit; simp only [c4, Bool.false_and]; decide), jsS_id hA h]; exact ⟨rfl, rfl, rfl⟩)
              | (rw [if_neg (by unfold jFit; simp only [c11, Bool.false_and, Bool.and_false]; decide), jsS_id hA h]; exact ⟨rfl, rfl, rfl⟩)
              | (rw [if_neg (by unfold jFit; simp only [c19, Bool.false_and, Bool.and_false]; decide), jsS_id hA h]; exact ⟨rfl, rfl, rfl⟩)
              | (rw [if_neg (by unfold jFit; simp only [c47, Bool.false_and, Bool.and_false]; decide), jsS_id hA h]; exact ⟨rfl, rfl, rfl⟩)
              | (rw [if_neg (by unfold jFit; simp only [c56, Bool.false_and, Bool.and_false]; decide), jsS_id hA h]; exact ⟨rfl, rfl, rfl⟩)
              | (rw [if_pos hfit, if_neg (by rw [c97]; decide)]; exact ⟨rfl, rfl, rfl⟩)
      · refine v_iconst (v := nI 0) dX4_joins_22 (by decide) ?_
        refine v_iret dX4_joins_23 rfl (by first | rfl | exact nar_bI) ?_
        unfold jJoin
        first
          | (rw [if_neg (by unfold jFit; simp only [c4, Bool.false_and]; decide), jsS_id hA h]; exact ⟨rfl, rfl, rfl⟩)
          | (rw [if_neg (by unfold jFit; simp only [c11, Bool.false_and, Bool.and_false]; decide), jsS_id hA h]; exact ⟨rfl, rfl, rfl⟩)
          | (rw [if_neg (by unfold jFit; simp only [c19, Bool.false_and, Bool.and_false]; decide), jsS_id hA h]; exact ⟨rfl, rfl, rfl⟩)
          | (rw [if_neg (by unfold jFit; simp only [c47, Bool.false_and, Bool.and_false]; decide), jsS_id hA h]; exact ⟨rfl, rfl, rfl⟩)
          | (rw [if_neg (by unfold jFit; simp only [c56, Bool.false_and, Bool.and_false]; decide), jsS_id hA h]; exact ⟨rfl, rfl, rfl⟩)
          | (rw [if_pos hfit, if_neg (by rw [c97]; decide)]; exact ⟨rfl, rfl, rfl⟩)
