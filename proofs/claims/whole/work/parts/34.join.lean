theorem va_up_id {α : Type} {W : Nat → α} {x : Nat} {v : α} (h : W x = v) : va_up W x v = W := by
  funext y
  by_cases e : y = x
  · subst e; rw [va_up_self, h]
  · rw [va_up_ne _ _ e]
theorem nI_nle2 {a b : Nat} (h : b < a) (ha : a < 2 ^ 31) : ¬ nI a ≤ nI b := fun q => Int32.lt_irrefl (Int32.lt_of_lt_of_le (nI_lt h ha) q)
/-! Joiner: first at a + 1, second at a + 8, the numbers at a + 15 -/
abbrev joC (g : Nat → Int32) : aC := .inl (0, 4, .inl g)
def joP (f : aH) (a : Nat) (v w : eV) (g : Nat → Int32) : Prop := f a = .inr (4, [.ref (a + 1), .ref (a + 8), .ref (a + 15)]) ∧ enP f (a + 1) v ∧ enP f (a + 8) w ∧ f (a + 15) = joC g
def joS (f : aH) (a : Nat) (v : eV) (g : Nat → Int32) : aH := va_up (enS f (a + 1) v) (a + 15) (joC g)
theorem joS_ne {f : aH} {a b : Nat} {v : eV} {g : Nat → Int32} (h1 : b < a + 1 ∨ a + 7 < b) (h2 : b ≠ a + 15) : joS f a v g b = f b := (va_up_ne _ _ h2).trans (enS_ne (by omega))
theorem en_up {f : aH} {a b : Nat} {v : eV} {e : aC} (h : enP f a v) (hb : b < a ∨ a + 6 < b) : enP (va_up f b e) a v := by
  obtain ⟨p0, p1, p2, p3, p4, p5, p6⟩ := h
  exact ⟨(va_up_ne _ _ (by omega)).trans p0, (va_up_ne _ _ (by omega)).trans p1, (va_up_ne _ _ (by omega)).trans p2, (va_up_ne _ _ (by omega)).trans p3, (va_up_ne _ _ (by omega)).trans p4, (va_up_ne _ _ (by omega)).trans p5, (va_up_ne _ _ (by omega)).trans p6⟩
theorem joS_ext {f f' : aH} {a : Nat} {v : eV} {g : Nat → Int32} (h1 : enP f' (a + 1) v) (h2 : f' (a + 15) = joC g) (hne : ∀ b, b < a + 1 ∨ a + 7 < b → b ≠ a + 15 → f' b = f b) : f' = joS f a v g := by
  funext b
  by_cases e : b = a + 15
  · rw [e, h2]; exact (va_up_self _ _ _).symm
  · unfold joS
    rw [va_up_ne _ _ e]
    by_cases q : b < a + 1 ∨ a + 7 < b
    · rw [hne b q e, enS_ne (by omega)]
    · rw [enS_in (f' := f') (by omega) (by omega), enS_id h1]
theorem joP_S {f : aH} {a : Nat} {v w x : eV} {g k : Nat → Int32} (h : joP f a x w k) : joP (joS f a v g) a v w g :=
  ⟨(joS_ne (by omega) (by omega)).trans h.1, en_up (enP_S _ _ _) (by omega), en_up (en_enS h.2.2.1 (by omega)) (by omega), va_up_self _ _ _⟩
theorem joS_id {f : aH} {a : Nat} {v w : eV} {g : Nat → Int32} (h : joP f a v w g) : joS f a v g = f := (joS_ext h.2.1 h.2.2.2 (fun _ _ _ => rfl)).symm
theorem joS_S {f : aH} {a : Nat} {v w : eV} {g k : Nat → Int32} : joS (joS f a v g) a w k = joS f a w k := joS_ext (en_up (enP_S _ _ _) (by omega)) (va_up_self _ _ _) (fun b h1 h2 => by rw [joS_ne h1 h2, joS_ne h1 h2])
theorem joS_en {f : aH} {a : Nat} {v w : eV} {g : Nat → Int32} : enS (joS f a v g) (a + 1) w = joS f a w g := joS_ext (enP_S _ _ _) ((enS_ne (by omega)).trans (va_up_self _ _ _)) (fun b h1 h2 => by rw [enS_ne (by omega), joS_ne h1 h2])
theorem joS_nu {f : aH} {a : Nat} {v : eV} {g k : Nat → Int32} : va_up (joS f a v g) (a + 15) (joC k) = joS f a v k := joS_ext (en_up (en_up (enP_S _ _ _) (by omega)) (by omega)) (va_up_self _ _ _) (fun b h1 h2 => by rw [va_up_ne _ _ h2, joS_ne h1 h2])
def jCall (g : Nat → Int32) (x y : Int32) : Int32 := if x ≤ 0 then (if y ≤ 0 ∨ nI 4 ≤ y then (if x = 0 ∨ y = 0 then nI 0 else -1) else g y.toNatClampNeg) else x
def jPh (v w : eV) (i : Nat) : Bool := if eCn v i = 1 then ePh w i else ePh v i && (decide (eCn w i = 1) || ePh w i)
def jAlL (w : eV) : Nat → Nat → eV → (Nat → Int32) → Bool × eV × (Nat → Int32)
  | 0, _, v, g => (true, v, g)
  | d + 1, r, v, g => if eAltLike v w r = -1 then (if eRo v = 4 then (false, v, g) else jAlL w d (r + 1) (wRo (eCopyR v (eRo v) w r) (eRo v + 1)) (upd g r (nI (eRo v)))) else jAlL w d (r + 1) v (upd g r (eAltLike v w r))
def jAl (v w : eV) (g : Nat → Int32) : Bool × eV × (Nat → Int32) := jAlL w (eRo w - 1) 1 v g
def jCaL (w : eV) (g : Nat → Int32) (i : Nat) : Nat → Nat → eV → eV
  | 0, _, v => v
  | d + 1, c, v => jCaL w g i d (c + 1) (wCa v (upd (eCa v) (i * 2 + c) (jCall g (eCall v i c) (eCall w i c))))
def jCa (v w : eV) (g : Nat → Int32) (i : Nat) : eV := wPh (wCn (jCaL w g i (max (eCn v i) (eCn w i) - 0) 0 v) (va_up (eCn v) i (max (eCn v i) (eCn w i)))) (va_up (ePh v) i (jPh v w i))

def eZ : eV := ((fun _ => 0), (fun _ => 0), (fun _ => 0), (fun _ => 0), (fun _ => 0), (fun _ => false), 0, 0, 0, 0, false, 0, 0, 0)
set_option maxRecDepth 100000 in
set_option maxHeartbeats 4000000 in
/-- Joiner.joinedCall -/
theorem sX4_joinedCall {E : eN} (hE : eOk E) {f : aH} {t : Nat} {a : Nat} {v w : eV} {g : Nat → Int32} {x y : Int32} (h : joP f a v w g) : mT E mX4_joinedCall 0 0 [.ref a, .int x, .int y] f t (fun o f' t' => o = .inl (some (.int (jCall g x y))) ∧ t' = t ∧ f' = f) := by
  refine mT_of (n := 0) (lo := [some (.ref a), some (.int x), some (.int y)]) (by decide) (by exact Nat.le_of_ble_eq_true rfl) rfl rfl ?_
  obtain ⟨h0, ⟨v0, v1, v2, v3, v4, v5, v6⟩, ⟨w0, w1, w2, w3, w4, w5, w6⟩, h3⟩ := id h
  refine v_iload_n dX4_joinedCall_0 rfl (by rfl) ?_
  refine v_if_le (tgt := 6) dX4_joinedCall_1 (by decide) (fun c1 => ?_) (fun c1 => ?_)
  · refine v_iload_n dX4_joinedCall_6 rfl (by rfl) ?_
    refine v_if_le (tgt := 22) dX4_joinedCall_7 (by decide) (fun c7 => ?_) (fun c7 => ?_)
    · refine v_iload_n dX4_joinedCall_22 rfl (by rfl) ?_
      refine v_if_eq (tgt := 30) dX4_joinedCall_23 (by decide) (fun c23 => ?_) (fun c23 => ?_)
      · refine v_iconst (v := nI 0) dX4_joinedCall_30 (by decide) ?_
        refine v_goto (tgt := 35) dX4_joinedCall_31 (by decide) ?_
        refine v_iret dX4_joinedCall_35 rfl (by first | rfl | exact nar_bI) ?_
        refine ⟨congrArg (fun x => (Sum.inl (some (Value.int x)) : aO)) ?_, rfl, rfl⟩
        unfold jCall
        first
          | exact (if_neg c1).symm
          | (rw [if_pos c1, if_neg (fun z => z.elim c7 (nI_nle2 (by omega) (by omega))), nI_clamp hq]; done)
          | (rw [if_pos c1, if_pos (Or.inl c7), if_pos (Or.inl c23)]; done)
          | (rw [if_pos c1, if_pos (Or.inl c7), if_pos (Or.inr c27)]; done)
          | (rw [if_pos c1, if_pos (Or.inl c7), if_neg (fun z => z.elim c23 c27)]; done)
          | (rw [if_pos c1, if_pos (Or.inr (nI_le (by omega) hq)), if_pos (Or.inl c23)]; done)
          | (rw [if_pos c1, if_pos (Or.inr (nI_le (by omega) hq)), if_pos (Or.inr c27)]; done)
          | (rw [if_pos c1, if_pos (Or.inr (nI_le (by omega) hq)), if_neg (fun z => z.elim c23 c27)]; done)
      · refine v_iload_n dX4_joinedCall_26 rfl (by rfl) ?_
        refine v_if_ne (tgt := 34) dX4_joinedCall_27 (by decide) (fun c27 => ?_) (fun c27 => ?_)
        · refine v_iconst (v := (-1)) dX4_joinedCall_34 (by decide) ?_
          refine v_iret dX4_joinedCall_35 rfl (by first | rfl | exact nar_bI) ?_
          refine ⟨congrArg (fun x => (Sum.inl (some (Value.int x)) : aO)) ?_, rfl, rfl⟩
          unfold jCall
          first
            | exact (if_neg c1).symm
            | (rw [if_pos c1, if_neg (fun z => z.elim c7 (nI_nle2 (by omega) (by omega))), nI_clamp hq]; done)
            | (rw [if_pos c1, if_pos (Or.inl c7), if_pos (Or.inl c23)]; done)
            | (rw [if_pos c1, if_pos (Or.inl c7), if_pos (Or.inr c27)]; done)
            | (rw [if_pos c1, if_pos (Or.inl c7), if_neg (fun z => z.elim c23 c27)]; done)
            | (rw [if_pos c1, if_pos (Or.inr (nI_le (by omega) hq)), if_pos (Or.inl c23)]; done)
            | (rw [if_pos c1, if_pos (Or.inr (nI_le (by omega) hq)), if_pos (Or.inr c27)]; done)
            | (rw [if_pos c1, if_pos (Or.inr (nI_le (by omega) hq)), if_neg (fun z => z.elim c23 c27)]; done)
        · refine v_iconst (v := nI 0) dX4_joinedCall_30 (by decide) ?_
          refine v_goto (tgt := 35) dX4_joinedCall_31 (by decide) ?_
          refine v_iret dX4_joinedCall_35 rfl (by first | rfl | exact nar_bI) ?_
          refine ⟨congrArg (fun x => (Sum.inl (some (Value.int x)) : aO)) ?_, rfl, rfl⟩
          unfold jCall
          first
            | exact (if_neg c1).symm
            | (rw [if_pos c1, if_neg (fun z => z.elim c7 (nI_nle2 (by omega) (by omega))), nI_clamp hq]; done)
            | (rw [if_pos c1, if_pos (Or.inl c7), if_pos (Or.inl c23)]; done)
            | (rw [if_pos c1, if_pos (Or.inl c7), if_pos (Or.inr c27)]; done)
            | (rw [if_pos c1, if_pos (Or.inl c7), if_neg (fun z => z.elim c23 c27)]; done)
            | (rw [if_pos c1, if_pos (Or.inr (nI_le (by omega) hq)), if_pos (Or.inl c23)]; done)
            | (rw [if_pos c1, if_pos (Or.inr (nI_le (by omega) hq)), if_pos (Or.inr c27)]; done)
            | (rw [if_pos c1, if_pos (Or.inr (nI_le (by omega) hq)), if_neg (fun z => z.elim c23 c27)]; done)
    · obtain ⟨q, hq, rfl⟩ := nI_of (fun h => c7 (Int32.le_of_lt h))
      refine v_iload_n dX4_joinedCall_10 rfl (by rfl) ?_
      refine v_iconst (v := nI 4) dX4_joinedCall_11 (by decide) ?_
      refine v_icmp_geN (tgt := 22) dX4_joinedCall_12 (by decide) (by omega) (by omega) (fun c12 => ?_) (fun c12 => ?_)
      · refine v_iload_n dX4_joinedCall_22 rfl (by rfl) ?_
        refine v_if_eq (tgt := 30) dX4_joinedCall_23 (by decide) (fun c23 => ?_) (fun c23 => ?_)
        · refine v_iconst (v := nI 0) dX4_joinedCall_30 (by decide) ?_
          refine v_goto (tgt := 35) dX4_joinedCall_31 (by decide) ?_
          refine v_iret dX4_joinedCall_35 rfl (by first | rfl | exact nar_bI) ?_
          refine ⟨congrArg (fun x => (Sum.inl (some (Value.int x)) : aO)) ?_, rfl, rfl⟩
          unfold jCall
          first
            | exact (if_neg c1).symm
            | (rw [if_pos c1, if_neg (fun z => z.elim c7 (nI_nle2 (by omega) (by omega))), nI_clamp hq]; done)
            | (rw [if_pos c1, if_pos (Or.inl c7), if_pos (Or.inl c23)]; done)
            | (rw [if_pos c1, if_pos (Or.inl c7), if_pos (Or.inr c27)]; done)
            | (rw [if_pos c1, if_pos (Or.inl c7), if_neg (fun z => z.elim c23 c27)]; done)
            | (rw [if_pos c1, if_pos (Or.inr (nI_le (by omega) hq)), if_pos (Or.inl c23)]; done)
            | (rw [if_pos c1, if_pos (Or.inr (nI_le (by omega) hq)), if_pos (Or.inr c27)]; done)
            | (rw [if_pos c1, if_pos (Or.inr (nI_le (by omega) hq)), if_neg (fun z => z.elim c23 c27)]; done)
        · refine v_iload_n dX4_joinedCall_26 rfl (by rfl) ?_
          refine v_if_ne (tgt := 34) dX4_joinedCall_27 (by decide) (fun c27 => ?_) (fun c27 => ?_)
          · refine v_iconst (v := (-1)) dX4_joinedCall_34 (by decide) ?_
            refine v_iret dX4_joinedCall_35 rfl (by first | rfl | exact nar_bI) ?_
            refine ⟨congrArg (fun x => (Sum.inl (some (Value.int x)) : aO)) ?_, rfl, rfl⟩
            unfold jCall
            first
              | exact (if_neg c1).symm
              | (rw [if_pos c1, if_neg (fun z => z.elim c7 (nI_nle2 (by omega) (by omega))), nI_clamp hq]; done)
              | (rw [if_pos c1, if_pos (Or.inl c7), if_pos (Or.inl c23)]; done)
              | (rw [if_pos c1, if_pos (Or.inl c7), if_pos (Or.inr c27)]; done)
              | (rw [if_pos c1, if_pos (Or.inl c7), if_neg (fun z => z.elim c23 c27)]; done)
              | (rw [if_pos c1, if_pos (Or.inr (nI_le (by omega) hq)), if_pos (Or.inl c23)]; done)
              | (rw [if_pos c1, if_pos (Or.inr (nI_le (by omega) hq)), if_pos (Or.inr c27)]; done)
              | (rw [if_pos c1, if_pos (Or.inr (nI_le (by omega) hq)), if_neg (fun z => z.elim c23 c27)]; done)
          · refine v_iconst (v := nI 0) dX4_joinedCall_30 (by decide) ?_
            refine v_goto (tgt := 35) dX4_joinedCall_31 (by decide) ?_
            refine v_iret dX4_joinedCall_35 rfl (by first | rfl | exact nar_bI) ?_
            refine ⟨congrArg (fun x => (Sum.inl (some (Value.int x)) : aO)) ?_, rfl, rfl⟩
            unfold jCall
            first
              | exact (if_neg c1).symm
              | (rw [if_pos c1, if_neg (fun z => z.elim c7 (nI_nle2 (by omega) (by omega))), nI_clamp hq]; done)
              | (rw [if_pos c1, if_pos (Or.inl c7), if_pos (Or.inl c23)]; done)
              | (rw [if_pos c1, if_pos (Or.inl c7), if_pos (Or.inr c27)]; done)
              | (rw [if_pos c1, if_pos (Or.inl c7), if_neg (fun z => z.elim c23 c27)]; done)
              | (rw [if_pos c1, if_pos (Or.inr (nI_le (by omega) hq)), if_pos (Or.inl c23)]; done)
              | (rw [if_pos c1, if_pos (Or.inr (nI_le (by omega) hq)), if_pos (Or.inr c27)]; done)
              | (rw [if_pos c1, if_pos (Or.inr (nI_le (by omega) hq)), if_neg (fun z => z.elim c23 c27)]; done)
      · refine v_aload_n dX4_joinedCall_15 rfl (by rfl) ?_
        refine v_getf hE dX4_joinedCall_16 fX4_21 (by repeat (first | assumption | exact va_up_self _ _ _ | refine (va_up_ne _ _ (by omega)).trans ?_)) (by rfl) ?_
        refine v_iload_n dX4_joinedCall_19 rfl (by rfl) ?_
        refine v_iald hE dX4_joinedCall_20 (by repeat (first | assumption | exact va_up_self _ _ _ | refine (va_up_ne _ _ (by omega)).trans ?_)) (by omega) (by omega) ?_
        refine v_iret dX4_joinedCall_21 rfl (by first | rfl | exact nar_bI) ?_
        refine ⟨congrArg (fun x => (Sum.inl (some (Value.int x)) : aO)) ?_, rfl, rfl⟩
        unfold jCall
        first
          | exact (if_neg c1).symm
          | (rw [if_pos c1, if_neg (fun z => z.elim c7 (nI_nle2 (by omega) (by omega))), nI_clamp hq]; done)
          | (rw [if_pos c1, if_pos (Or.inl c7), if_pos (Or.inl c23)]; done)
          | (rw [if_pos c1, if_pos (Or.inl c7), if_pos (Or.inr c27)]; done)
          | (rw [if_pos c1, if_pos (Or.inl c7), if_neg (fun z => z.elim c23 c27)]; done)
          | (rw [if_pos c1, if_pos (Or.inr (nI_le (by omega) hq)), if_pos (Or.inl c23)]; done)
          | (rw [if_pos c1, if_pos (Or.inr (nI_le (by omega) hq)), if_pos (Or.inr c27)]; done)
          | (rw [if_pos c1, if_pos (Or.inr (nI_le (by omega) hq)), if_neg (fun z => z.elim c23 c27)]; done)
  · refine v_iload_n dX4_joinedCall_4 rfl (by rfl) ?_
    refine v_iret dX4_joinedCall_5 rfl (by first | rfl | exact nar_bI) ?_
    refine ⟨congrArg (fun x => (Sum.inl (some (Value.int x)) : aO)) ?_, rfl, rfl⟩
    unfold jCall
    first
      | exact (if_neg c1).symm
      | (rw [if_pos c1, if_neg (fun z => z.elim c7 (nI_nle2 (by omega) (by omega))), nI_clamp hq]; done)
      | (rw [if_pos c1, if_pos (Or.inl c7), if_pos (Or.inl c23)]; done)
      | (rw [if_pos c1, if_pos (Or.inl c7), if_pos (Or.inr c27)]; done)
      | (rw [if_pos c1, if_pos (Or.inl c7), if_neg (fun z => z.elim c23 c27)]; done)
      | (rw [if_pos c1, if_pos (Or.inr (nI_le (by omega) hq)), if_pos (Or.inl c23)]; done)
      | (rw [if_pos c1, if_pos (Or.inr (nI_le (by omega) hq)), if_pos (Or.inr c27)]; done)
      | (rw [if_pos c1, if_pos (Or.inr (nI_le (by omega) hq)), if_neg (fun z => z.elim c23 c27)]; done)

set_option maxRecDepth 100000 in
set_option maxHeartbeats 4000000 in
/-- Joiner.joinedPhase -/
theorem sX4_joinedPhase {E : eN} (hE : eOk E) {f : aH} {t : Nat} {a i : Nat} {v w : eV} {g : Nat → Int32} (h : joP f a v w g) (hv : enOk v) (hw : enOk w) (hi : i < 3) : mT E mX4_joinedPhase 0 0 [.ref a, .int (nI i)] f t (fun o f' t' => o = .inl (some (.int (bI (jPh v w i)))) ∧ t' = t ∧ f' = f) := by
  refine mT_of (n := 0) (lo := [some (.ref a), some (.int (nI i))]) (by decide) (by exact Nat.le_of_ble_eq_true rfl) rfl rfl ?_
  obtain ⟨h0, ⟨v0, v1, v2, v3, v4, v5, v6⟩, ⟨w0, w1, w2, w3, w4, w5, w6⟩, h3⟩ := id h
  obtain ⟨k0, k1, k2, k3⟩ := id hv
  obtain ⟨q0, q1, q2, q3⟩ := id hw
  have k4 := k2 i
  have q4 := q2 i
  refine v_aload_n dX4_joinedPhase_0 rfl (by rfl) ?_
  refine v_getf hE dX4_joinedPhase_1 fX4_12 (by repeat (first | assumption | exact va_up_self _ _ _ | refine (va_up_ne _ _ (by omega)).trans ?_)) (by rfl) ?_
  refine v_getf hE dX4_joinedPhase_4 fX4_72 (by repeat (first | assumption | exact va_up_self _ _ _ | refine (va_up_ne _ _ (by omega)).trans ?_)) (by rfl) ?_
  refine v_iload_n dX4_joinedPhase_7 rfl (by rfl) ?_
  refine v_iald hE dX4_joinedPhase_8 (by repeat (first | assumption | exact va_up_self _ _ _ | refine (va_up_ne _ _ (by omega)).trans ?_)) (by omega) (by omega) ?_
  refine v_iconst (v := nI 1) dX4_joinedPhase_9 (by decide) ?_
  refine v_icmp_neN (tgt := 23) dX4_joinedPhase_10 (by decide) (by omega) (by omega) (fun c10 => ?_) (fun c10 => ?_)
  · refine v_aload_n dX4_joinedPhase_23 rfl (by rfl) ?_
    refine v_getf hE dX4_joinedPhase_24 fX4_12 (by repeat (first | assumption | exact va_up_self _ _ _ | refine (va_up_ne _ _ (by omega)).trans ?_)) (by rfl) ?_
    refine v_getf hE dX4_joinedPhase_27 fX4_88 (by repeat (first | assumption | exact va_up_self _ _ _ | refine (va_up_ne _ _ (by omega)).trans ?_)) (by rfl) ?_
    refine v_iload_n dX4_joinedPhase_30 rfl (by rfl) ?_
    refine v_zald hE dX4_joinedPhase_31 (by repeat (first | assumption | exact va_up_self _ _ _ | refine (va_up_ne _ _ (by omega)).trans ?_)) (by omega) (by omega) ?_
    refine v_if_eqB (tgt := 64) dX4_joinedPhase_32 (by decide) (fun c32 => ?_) (fun c32 => ?_)
    · refine v_iconst (v := nI 0) dX4_joinedPhase_64 (by decide) ?_
      refine v_iret dX4_joinedPhase_65 rfl (by first | rfl | exact nar_bI) ?_
      refine ⟨congrArg (fun x => (Sum.inl (some (Value.int x)) : aO)) ?_, rfl, rfl⟩
      unfold jPh
      first
        | (rw [if_pos c10]; done)
        | (rw [if_neg c10, c32]; rfl)
        | (rw [if_neg c10, c32, decide_eq_true c45]; rfl)
        | (rw [if_neg c10, c32, decide_eq_false c45, c57]; rfl)
    · refine v_aload_n dX4_joinedPhase_35 rfl (by rfl) ?_
      refine v_getf hE dX4_joinedPhase_36 fX4_18 (by repeat (first | assumption | exact va_up_self _ _ _ | refine (va_up_ne _ _ (by omega)).trans ?_)) (by rfl) ?_
      refine v_getf hE dX4_joinedPhase_39 fX4_72 (by repeat (first | assumption | exact va_up_self _ _ _ | refine (va_up_ne _ _ (by omega)).trans ?_)) (by rfl) ?_
      refine v_iload_n dX4_joinedPhase_42 rfl (by rfl) ?_
      refine v_iald hE dX4_joinedPhase_43 (by repeat (first | assumption | exact va_up_self _ _ _ | refine (va_up_ne _ _ (by omega)).trans ?_)) (by omega) (by omega) ?_
      refine v_iconst (v := nI 1) dX4_joinedPhase_44 (by decide) ?_
      refine v_icmp_eqN (tgt := 60) dX4_joinedPhase_45 (by decide) (by omega) (by omega) (fun c45 => ?_) (fun c45 => ?_)
      · refine v_iconst (v := nI 1) dX4_joinedPhase_60 (by decide) ?_
        refine v_goto (tgt := 65) dX4_joinedPhase_61 (by decide) ?_
        refine v_iret dX4_joinedPhase_65 rfl (by first | rfl | exact nar_bI) ?_
        refine ⟨congrArg (fun x => (Sum.inl (some (Value.int x)) : aO)) ?_, rfl, rfl⟩
        unfold jPh
        first
          | (rw [if_pos c10]; done)
          | (rw [if_neg c10, c32]; rfl)
          | (rw [if_neg c10, c32, decide_eq_true c45]; rfl)
          | (rw [if_neg c10, c32, decide_eq_false c45, c57]; rfl)
      · refine v_aload_n dX4_joinedPhase_48 rfl (by rfl) ?_
        refine v_getf hE dX4_joinedPhase_49 fX4_18 (by repeat (first | assumption | exact va_up_self _ _ _ | refine (va_up_ne _ _ (by omega)).trans ?_)) (by rfl) ?_
        refine v_getf hE dX4_joinedPhase_52 fX4_88 (by repeat (first | assumption | exact va_up_self _ _ _ | refine (va_up_ne _ _ (by omega)).trans ?_)) (by rfl) ?_
        refine v_iload_n dX4_joinedPhase_55 rfl (by rfl) ?_
        refine v_zald hE dX4_joinedPhase_56 (by repeat (first | assumption | exact va_up_self _ _ _ | refine (va_up_ne _ _ (by omega)).trans ?_)) (by omega) (by omega) ?_
        refine v_if_eqB (tgt := 64) dX4_joinedPhase_57 (by decide) (fun c57 => ?_) (fun c57 => ?_)
        · refine v_iconst (v := nI 0) dX4_joinedPhase_64 (by decide) ?_
          refine v_iret dX4_joinedPhase_65 rfl (by first | rfl | exact nar_bI) ?_
          refine ⟨congrArg (fun x => (Sum.inl (some (Value.int x)) : aO)) ?_, rfl, rfl⟩
          unfold jPh
          first
            | (rw [if_pos c10]; done)
            | (rw [if_neg c10, c32]; rfl)
            | (rw [if_neg c10, c32, decide_eq_true c45]; rfl)
            | (rw [if_neg c10, c32, decide_eq_false c45, c57]; rfl)
        · refine v_iconst (v := nI 1) dX4_joinedPhase_60 (by decide) ?_
          refine v_goto (tgt := 65) dX4_joinedPhase_61 (by decide) ?_
          refine v_iret dX4_joinedPhase_65 rfl (by first | rfl | exact nar_bI) ?_
          refine ⟨congrArg (fun x => (Sum.inl (some (Value.int x)) : aO)) ?_, rfl, rfl⟩
          unfold jPh
          first
            | (rw [if_pos c10]; done)
            | (rw [if_neg c10, c32]; rfl)
            | (rw [if_neg c10, c32, decide_eq_true c45]; rfl)
            | (rw [if_neg c10, c32, decide_eq_false c45, c57]; rfl)
  · refine v_aload_n dX4_joinedPhase_13 rfl (by rfl) ?_
    refine v_getf hE dX4_joinedPhase_14 fX4_18 (by repeat (first | assumption | exact va_up_self _ _ _ | refine (va_up_ne _ _ (by omega)).trans ?_)) (by rfl) ?_
    refine v_getf hE dX4_joinedPhase_17 fX4_88 (by repeat (first | assumption | exact va_up_self _ _ _ | refine (va_up_ne _ _ (by omega)).trans ?_)) (by rfl) ?_
    refine v_iload_n dX4_joinedPhase_20 rfl (by rfl) ?_
    refine v_zald hE dX4_joinedPhase_21 (by repeat (first | assumption | exact va_up_self _ _ _ | refine (va_up_ne _ _ (by omega)).trans ?_)) (by omega) (by omega) ?_
    refine v_iret dX4_joinedPhase_22 rfl (by first | rfl | exact nar_bI) ?_
    refine ⟨congrArg (fun x => (Sum.inl (some (Value.int x)) : aO)) ?_, rfl, rfl⟩
    unfold jPh
    first
      | (rw [if_pos c10]; done)
      | (rw [if_neg c10, c32]; rfl)
      | (rw [if_neg c10, c32, decide_eq_true c45]; rfl)
      | (rw [if_neg c10, c32, decide_eq_false c45, c57]; rfl)

theorem eAltLike_r {v w : eV} {r : Nat} (h : ¬ eAltLike v w r = -1) : ∃ q : Nat, q < eRo v ∧ eAltLike v w r = nI q := by
  unfold eAltLike at h ⊢
  have : ∀ d i, i + d = eRo v → ¬ fndB (fun k => eRowIs v k w r) d i = -1 → ∃ q : Nat, q < eRo v ∧ fndB (fun k => eRowIs v k w r) d i = nI q := by
    intro d
    induction d with
    | zero => intro i _ h; exact absurd rfl h
    | succ d ih =>
      intro i hi h
      unfold fndB at h ⊢
      by_cases q : eRowIs v i w r = true
      · simp only [q, if_true]; exact ⟨i, by omega, rfl⟩
      · rw [if_neg q] at h ⊢
        exact ih (i + 1) (by omega) h
  by_cases q : 1 ≤ eRo v
  · exact this _ 1 (by omega) h
  · rw [show eRo v - 1 = 0 by omega] at h
    exact absurd rfl h
theorem wRo_ok {v : eV} {n : Nat} (h : enOk v) (hn : n ≤ 4) : enOk (wRo v n) := ⟨hn, h.2⟩

set_option maxRecDepth 100000 in
set_option maxHeartbeats 4000000 in
/-- Joiner.takeAlts -/
theorem sX4_takeAlts {E : eN} (hE : eOk E) {f : aH} {t : Nat} {a : Nat} {v w : eV} {g : Nat → Int32} (h : joP f a v w g) (hv : enOk v) (hw : enOk w) : mT E mX4_takeAlts 0 0 [.ref a] f t (fun o f' t' => o = .inl (some (.int (bI (jAl v w g).1))) ∧ t' = t ∧ f' = joS f a (jAl v w g).2.1 (jAl v w g).2.2) := by
  refine mT_of (n := 2) (lo := [some (.ref a), none, none]) (by decide) (by exact Nat.le_of_ble_eq_true rfl) rfl rfl ?_
  obtain ⟨k0, k1, k2, k3⟩ := id hv
  obtain ⟨q0, q1, q2, q3⟩ := id hw
  have lp : ∀ (d : Nat) (r : Nat) (x : eV) (k : Nat → Int32) (z : Option Value), r + d = max 1 (eRo w) → 1 ≤ r → enOk x → jAl v w g = jAlL w (eRo w - r) r x k → V E mX4_takeAlts 0 0 (fun o f' t' => o = .inl (some (.int (bI (jAl v w g).1))) ∧ t' = t ∧ f' = joS f a (jAl v w g).2.1 (jAl v w g).2.2) 2 [some (.ref a), some (.int (nI r)), z] [] (joS f a x k) t 0 0 := by
    intro d
    induction d using Nat.strongRecOn with
    | _ d ih =>
    intro r x k z hr hr1 hx he
    obtain ⟨e0, ⟨v0, v1, v2, v3, v4, v5, v6⟩, ⟨w0, w1, w2, w3, w4, w5, w6⟩, e3⟩ := id (joP_S (v := x) (g := k) h)
    obtain ⟨k0, k1, k2, k3⟩ := id hx
    obtain ⟨q0, q1, q2, q3⟩ := id hw
    refine v_iload_n dX4_takeAlts_2 rfl (by rfl) ?_
    refine v_aload_n dX4_takeAlts_3 rfl (by rfl) ?_
    refine v_getf hE dX4_takeAlts_4 fX4_18 (by repeat (first | assumption | exact va_up_self _ _ _ | refine (va_up_ne _ _ (by omega)).trans ?_)) (by rfl) ?_
    refine v_getf hE dX4_takeAlts_7 fX4_60 (by repeat (first | assumption | exact va_up_self _ _ _ | refine (va_up_ne _ _ (by omega)).trans ?_)) (by rfl) ?_
    refine v_icmp_geN (tgt := 85) dX4_takeAlts_10 (by decide) (by omega) (by omega) (fun c10 => ?_) (fun c10 => ?_)
    · refine v_iconst (v := nI 1) dX4_takeAlts_85 (by decide) ?_
      refine v_iret dX4_takeAlts_86 rfl (by first | rfl | exact nar_bI) ?_
      rw [he]
      first
        | (rw [show eRo w - r = 0 by omega]; exact ⟨rfl, rfl, rfl⟩)
        | (rw [show eRo w - r = (eRo w - (r + 1)) + 1 by omega]
           have hz : jAlL w ((eRo w - (r + 1)) + 1) r x k = (false, x, k) := by
             show (if _ then (if _ then _ else _) else _) = _
             rw [if_pos c28, if_pos (by omega)]
           rw [hz]
           exact ⟨rfl, rfl, rfl⟩)
    · refine v_aload_n dX4_takeAlts_13 rfl (by rfl) ?_
      refine v_getf hE dX4_takeAlts_14 fX4_12 (by repeat (first | assumption | exact va_up_self _ _ _ | refine (va_up_ne _ _ (by omega)).trans ?_)) (by rfl) ?_
      refine v_aload_n dX4_takeAlts_17 rfl (by rfl) ?_
      refine v_getf hE dX4_takeAlts_18 fX4_18 (by repeat (first | assumption | exact va_up_self _ _ _ | refine (va_up_ne _ _ (by omega)).trans ?_)) (by rfl) ?_
      refine v_iload_n dX4_takeAlts_21 rfl (by rfl) ?_
      refine w_callV hE dX4_takeAlts_22 kX4_64 (by repeat (first | assumption | exact va_up_self _ _ _ | refine (va_up_ne _ _ (by omega)).trans ?_)) (by rfl) (by rfl) (sX0_altLike hE (joP_S (v := x) (g := k) h).2.1 hx (joP_S (v := x) (g := k) h).2.2.1 hw (by omega)) rfl (by decide) (by decide) (by exact Nat.le_of_ble_eq_true rfl) (by omega) (by omega) (fun v9 g9 u9 h9 => ?_) (fun _ _ _ h => by cases h.1)
      obtain ⟨hv9, hu9, hg9⟩ := h9
      replace hu9 := hu9.symm
      replace hg9 := hg9.symm
      subst hu9
      subst hg9
      cases hv9
      refine v_istore_n dX4_takeAlts_25 rfl (by decide) ?_
      refine v_iload_n dX4_takeAlts_26 rfl (by rfl) ?_
      refine v_iconst (v := (-1)) dX4_takeAlts_27 (by decide) ?_
      refine v_icmp_ne (tgt := 72) dX4_takeAlts_28 (by decide) (fun c28 => ?_) (fun c28 => ?_)
      · refine v_aload_n dX4_takeAlts_72 rfl (by rfl) ?_
        refine v_getf hE dX4_takeAlts_73 fX4_21 (by repeat (first | assumption | exact va_up_self _ _ _ | refine (va_up_ne _ _ (by omega)).trans ?_)) (by rfl) ?_
        refine v_iload_n dX4_takeAlts_76 rfl (by rfl) ?_
        refine v_iload_n dX4_takeAlts_77 rfl (by rfl) ?_
        refine v_iast hE dX4_takeAlts_78 (by repeat (first | assumption | exact va_up_self _ _ _ | refine (va_up_ne _ _ (by omega)).trans ?_)) (by omega) (by omega) ?_
        refine v_hp joS_nu ?_
        refine v_iincN (y := 1) dX4_takeAlts_79 (by rfl) (by decide) (by decide) ?_
        refine v_goto (tgt := 2) dX4_takeAlts_82 (by decide) ?_
        exact ih (d - 1) (by omega) (r + 1) _ _ _ (by omega) (by omega) hx (he.trans (by rw [show eRo w - r = (eRo w - (r + 1)) + 1 by omega]; show (if _ then (if _ then _ else _) else _) = _; first | (rw [if_pos c28, if_neg (by omega)]; done) | (rw [if_neg c28]; done)))
      · refine v_aload_n dX4_takeAlts_31 rfl (by rfl) ?_
        refine v_getf hE dX4_takeAlts_32 fX4_12 (by repeat (first | assumption | exact va_up_self _ _ _ | refine (va_up_ne _ _ (by omega)).trans ?_)) (by rfl) ?_
        refine v_getf hE dX4_takeAlts_35 fX4_60 (by repeat (first | assumption | exact va_up_self _ _ _ | refine (va_up_ne _ _ (by omega)).trans ?_)) (by rfl) ?_
        refine v_istore_n dX4_takeAlts_38 rfl (by decide) ?_
        refine v_iload_n dX4_takeAlts_39 rfl (by rfl) ?_
        refine v_iconst (v := nI 4) dX4_takeAlts_40 (by decide) ?_
        refine v_icmp_neN (tgt := 46) dX4_takeAlts_41 (by decide) (by omega) (by omega) (fun c41 => ?_) (fun c41 => ?_)
        · refine v_aload_n dX4_takeAlts_46 rfl (by rfl) ?_
          refine v_getf hE dX4_takeAlts_47 fX4_12 (by repeat (first | assumption | exact va_up_self _ _ _ | refine (va_up_ne _ _ (by omega)).trans ?_)) (by rfl) ?_
          refine v_iload_n dX4_takeAlts_50 rfl (by rfl) ?_
          refine v_aload_n dX4_takeAlts_51 rfl (by rfl) ?_
          refine v_getf hE dX4_takeAlts_52 fX4_18 (by repeat (first | assumption | exact va_up_self _ _ _ | refine (va_up_ne _ _ (by omega)).trans ?_)) (by rfl) ?_
          refine v_iload_n dX4_takeAlts_55 rfl (by rfl) ?_
          refine w_callV hE dX4_takeAlts_56 kX4_68 (by repeat (first | assumption | exact va_up_self _ _ _ | refine (va_up_ne _ _ (by omega)).trans ?_)) (by rfl) (by rfl) (sX0_copyRow hE (joP_S (v := x) (g := k) h).2.1 hx (joP_S (v := x) (g := k) h).2.2.1 hw (by omega) (by omega) (by omega)) rfl (by decide) (by decide) (by exact Nat.le_of_ble_eq_true rfl) (by omega) (by omega) (fun v9 g9 u9 h9 => ?_) (fun _ _ _ h => by cases h.1)
          obtain ⟨hv9, hu9, hg9⟩ := h9
          replace hu9 := hu9.symm
          replace hg9 := hg9.symm
          subst hu9
          subst hg9
          cases hv9
          refine v_hp joS_en ?_
          obtain ⟨e0, ⟨v0, v1, v2, v3, v4, v5, v6⟩, ⟨w0, w1, w2, w3, w4, w5, w6⟩, e3⟩ := id (joP_S (v := eCopyR x (eRo x) w r) (g := k) h)
          refine v_aload_n dX4_takeAlts_59 rfl (by rfl) ?_
          refine v_getf hE dX4_takeAlts_60 fX4_12 (by repeat (first | assumption | exact va_up_self _ _ _ | refine (va_up_ne _ _ (by omega)).trans ?_)) (by rfl) ?_
          refine v_dup dX4_takeAlts_63 rfl ?_
          refine v_getf hE dX4_takeAlts_64 fX4_60 (by repeat (first | assumption | exact va_up_self _ _ _ | refine (va_up_ne _ _ (by omega)).trans ?_)) (by rfl) ?_
          refine v_iconst (v := nI 1) dX4_takeAlts_67 (by decide) ?_
          refine v_iaddN dX4_takeAlts_68 ?_
          refine v_putf hE dX4_takeAlts_69 fX4_60 (by repeat (first | assumption | exact va_up_self _ _ _ | refine (va_up_ne _ _ (by omega)).trans ?_)) (by exact Nat.le_of_ble_eq_true rfl) (by rfl) (by rfl) (by rfl) ?_
          refine v_hp (show _ = joS f a (wRo (eCopyR x (eRo x) w r) (eRo x + 1)) k from joS_ext ⟨(by repeat (first | assumption | exact va_up_self _ _ _ | refine (va_up_ne _ _ (by omega)).trans ?_)), (by repeat (first | assumption | exact va_up_self _ _ _ | refine (va_up_ne _ _ (by omega)).trans ?_)), (by repeat (first | assumption | exact va_up_self _ _ _ | refine (va_up_ne _ _ (by omega)).trans ?_)), (by repeat (first | assumption | exact va_up_self _ _ _ | refine (va_up_ne _ _ (by omega)).trans ?_)), (by repeat (first | assumption | exact va_up_self _ _ _ | refine (va_up_ne _ _ (by omega)).trans ?_)), (by repeat (first | assumption | exact va_up_self _ _ _ | refine (va_up_ne _ _ (by omega)).trans ?_)), (by repeat (first | assumption | exact va_up_self _ _ _ | refine (va_up_ne _ _ (by omega)).trans ?_))⟩ (by repeat (first | assumption | exact va_up_self _ _ _ | refine (va_up_ne _ _ (by omega)).trans ?_)) (fun b hb1 hb2 => (va_up_ne _ _ (by omega)).trans (joS_ne hb1 hb2))) ?_
          obtain ⟨e0, ⟨v0, v1, v2, v3, v4, v5, v6⟩, ⟨w0, w1, w2, w3, w4, w5, w6⟩, e3⟩ := id (joP_S (v := wRo (eCopyR x (eRo x) w r) (eRo x + 1)) (g := k) h)
          refine v_aload_n dX4_takeAlts_72 rfl (by rfl) ?_
          refine v_getf hE dX4_takeAlts_73 fX4_21 (by repeat (first | assumption | exact va_up_self _ _ _ | refine (va_up_ne _ _ (by omega)).trans ?_)) (by rfl) ?_
          refine v_iload_n dX4_takeAlts_76 rfl (by rfl) ?_
          refine v_iload_n dX4_takeAlts_77 rfl (by rfl) ?_
          refine v_iast hE dX4_takeAlts_78 (by repeat (first | assumption | exact va_up_self _ _ _ | refine (va_up_ne _ _ (by omega)).trans ?_)) (by omega) (by omega) ?_
          refine v_hp joS_nu ?_
          refine v_iincN (y := 1) dX4_takeAlts_79 (by rfl) (by decide) (by decide) ?_
          refine v_goto (tgt := 2) dX4_takeAlts_82 (by decide) ?_
          exact ih (d - 1) (by omega) (r + 1) _ _ _ (by omega) (by omega) (wRo_ok (eCopyR_ok hx hw) (by omega)) (he.trans (by rw [show eRo w - r = (eRo w - (r + 1)) + 1 by omega]; show (if _ then (if _ then _ else _) else _) = _; first | (rw [if_pos c28, if_neg (by omega)]; done) | (rw [if_neg c28]; done)))
        · refine v_iconst (v := nI 0) dX4_takeAlts_44 (by decide) ?_
          refine v_iret dX4_takeAlts_45 rfl (by first | rfl | exact nar_bI) ?_
          rw [he]
          first
            | (rw [show eRo w - r = 0 by omega]; exact ⟨rfl, rfl, rfl⟩)
            | (rw [show eRo w - r = (eRo w - (r + 1)) + 1 by omega]
               have hz : jAlL w ((eRo w - (r + 1)) + 1) r x k = (false, x, k) := by
                 show (if _ then (if _ then _ else _) else _) = _
                 rw [if_pos c28, if_pos (by omega)]
               rw [hz]
               exact ⟨rfl, rfl, rfl⟩)
  refine v_iconst (v := nI 1) dX4_takeAlts_0 (by decide) ?_
  refine v_istore_n dX4_takeAlts_1 rfl (by decide) ?_
  refine v_hp (joS_id h).symm ?_
  exact lp (max 1 (eRo w) - 1) 1 v g none (by omega) (by omega) hv rfl

set_option maxRecDepth 100000 in
set_option maxHeartbeats 4000000 in
/-- Joiner.joinCalls -/
theorem sX4_joinCalls {E : eN} (hE : eOk E) {f : aH} {t : Nat} {a i : Nat} {v w : eV} {g : Nat → Int32} (h : joP f a v w g) (hv : enOk v) (hw : enOk w) (hi : i < 3) : mT E mX4_joinCalls 0 0 [.ref a, .int (nI i)] f t (fun o f' t' => o = .inl none ∧ t' = t ∧ f' = joS f a (jCa v w g i) g) := by
  refine mT_of (n := 3) (lo := [some (.ref a), some (.int (nI i)), none, none, none]) (by decide) (by exact Nat.le_of_ble_eq_true rfl) rfl rfl ?_
  obtain ⟨h0, ⟨v0, v1, v2, v3, v4, v5, v6⟩, ⟨w0, w1, w2, w3, w4, w5, w6⟩, h3⟩ := id h
  obtain ⟨k0, k1, k2, k3⟩ := id hv
  obtain ⟨q0, q1, q2, q3⟩ := id hw
  have k4 := k2 i
  have q4 := q2 i
  obtain ⟨m, hm⟩ : ∃ m, m = max (eCn v i) (eCn w i) := ⟨_, rfl⟩
  have hm2 : m ≤ 2 := by omega
  have lp : ∀ (d : Nat) (c : Nat) (x : eV), c + d = m → enOk x → eCn x = eCn v → ePh x = ePh v → jCaL w g i (m - 0) 0 v = jCaL w g i (m - c) c x → V E mX4_joinCalls 0 0 (fun o f' t' => o = .inl none ∧ t' = t ∧ f' = joS f a (jCa v w g i) g) 31 [some (.ref a), some (.int (nI i)), some (.int (nI m)), some (.int (bI (jPh v w i))), some (.int (nI c))] [] (joS f a x g) t 0 0 := by
    intro d
    induction d using Nat.strongRecOn with
    | _ d ih =>
    intro c x hc hx hcn hph he
    obtain ⟨e0, ⟨v0, v1, v2, v3, v4, v5, v6⟩, ⟨w0, w1, w2, w3, w4, w5, w6⟩, e3⟩ := id (joP_S (v := x) (g := g) h)
    obtain ⟨k0, k1, k2, k3⟩ := id hx
    have k4 := k2 i
    have q4 := q2 i
    refine v_iload dX4_joinCalls_31 (by rfl) ?_
    refine v_iload_n dX4_joinCalls_33 rfl (by rfl) ?_
    refine v_icmp_geN (tgt := 77) dX4_joinCalls_34 (by decide) (by omega) (by omega) (fun c34 => ?_) (fun c34 => ?_)
    · refine v_aload_n dX4_joinCalls_77 rfl (by rfl) ?_
      refine v_getf hE dX4_joinCalls_78 fX4_12 (by repeat (first | assumption | exact va_up_self _ _ _ | refine (va_up_ne _ _ (by omega)).trans ?_)) (by rfl) ?_
      refine v_getf hE dX4_joinCalls_81 fX4_72 (by repeat (first | assumption | exact va_up_self _ _ _ | refine (va_up_ne _ _ (by omega)).trans ?_)) (by rfl) ?_
      refine v_iload_n dX4_joinCalls_84 rfl (by rfl) ?_
      refine v_iload_n dX4_joinCalls_85 rfl (by rfl) ?_
      refine v_iast hE dX4_joinCalls_86 (by repeat (first | assumption | exact va_up_self _ _ _ | refine (va_up_ne _ _ (by omega)).trans ?_)) (by omega) (by omega) ?_
      refine v_aload_n dX4_joinCalls_87 rfl (by rfl) ?_
      refine v_getf hE dX4_joinCalls_88 fX4_12 (by repeat (first | assumption | exact va_up_self _ _ _ | refine (va_up_ne _ _ (by omega)).trans ?_)) (by rfl) ?_
      refine v_getf hE dX4_joinCalls_91 fX4_88 (by repeat (first | assumption | exact va_up_self _ _ _ | refine (va_up_ne _ _ (by omega)).trans ?_)) (by rfl) ?_
      refine v_iload_n dX4_joinCalls_94 rfl (by rfl) ?_
      refine v_iload_n dX4_joinCalls_95 rfl (by rfl) ?_
      refine v_zast hE dX4_joinCalls_96 (by repeat (first | assumption | exact va_up_self _ _ _ | refine (va_up_ne _ _ (by omega)).trans ?_)) (by omega) (by omega) ?_
      refine v_hp (show _ = joS f a (wPh (wCn x (va_up (eCn x) i m)) (va_up (ePh x) i (jPh v w i))) g from joS_ext ⟨(by repeat (first | assumption | exact va_up_self _ _ _ | refine (va_up_ne _ _ (by omega)).trans ?_)), (by repeat (first | assumption | exact va_up_self _ _ _ | refine (va_up_ne _ _ (by omega)).trans ?_)), (by repeat (first | assumption | exact va_up_self _ _ _ | refine (va_up_ne _ _ (by omega)).trans ?_)), (by repeat (first | assumption | exact va_up_self _ _ _ | refine (va_up_ne _ _ (by omega)).trans ?_)), (by repeat (first | assumption | exact va_up_self _ _ _ | refine (va_up_ne _ _ (by omega)).trans ?_)), (by refine (va_up_ne _ _ (by omega)).trans ?_; rw [va_up_self, upd_nI]), (by rw [va_up_self, upd_bI])⟩ (by repeat (first | assumption | exact va_up_self _ _ _ | refine (va_up_ne _ _ (by omega)).trans ?_)) (fun b hb1 hb2 => (va_up_ne _ _ (by omega)).trans ((va_up_ne _ _ (by omega)).trans (joS_ne hb1 hb2)))) ?_
      refine v_ret dX4_joinCalls_97 rfl ?_
      refine ⟨rfl, rfl, ?_⟩
      unfold jCa
      rw [← hm, he, show m - c = 0 by omega, ← hcn, ← hph]
      rfl
    · refine v_aload_n dX4_joinCalls_37 rfl (by rfl) ?_
      refine v_getf hE dX4_joinCalls_38 fX4_12 (by repeat (first | assumption | exact va_up_self _ _ _ | refine (va_up_ne _ _ (by omega)).trans ?_)) (by rfl) ?_
      refine v_iload_n dX4_joinCalls_41 rfl (by rfl) ?_
      refine v_iload dX4_joinCalls_42 (by rfl) ?_
      refine v_aload_n dX4_joinCalls_44 rfl (by rfl) ?_
      refine v_aload_n dX4_joinCalls_45 rfl (by rfl) ?_
      refine v_getf hE dX4_joinCalls_46 fX4_12 (by repeat (first | assumption | exact va_up_self _ _ _ | refine (va_up_ne _ _ (by omega)).trans ?_)) (by rfl) ?_
      refine v_iload_n dX4_joinCalls_49 rfl (by rfl) ?_
      refine v_iload dX4_joinCalls_50 (by rfl) ?_
      refine w_callV hE dX4_joinCalls_52 kX4_78 (by repeat (first | assumption | exact va_up_self _ _ _ | refine (va_up_ne _ _ (by omega)).trans ?_)) (by rfl) (by rfl) (sX0_callAt hE (joP_S (v := x) (g := g) h).2.1 hx hi (by omega)) rfl (by decide) (by decide) (by exact Nat.le_of_ble_eq_true rfl) (by omega) (by omega) (fun v9 g9 u9 h9 => ?_) (fun _ _ _ h => by cases h.1)
      obtain ⟨hv9, hu9, hg9⟩ := h9
      replace hu9 := hu9.symm
      replace hg9 := hg9.symm
      subst hu9
      subst hg9
      cases hv9
      refine v_aload_n dX4_joinCalls_55 rfl (by rfl) ?_
      refine v_getf hE dX4_joinCalls_56 fX4_18 (by repeat (first | assumption | exact va_up_self _ _ _ | refine (va_up_ne _ _ (by omega)).trans ?_)) (by rfl) ?_
      refine v_iload_n dX4_joinCalls_59 rfl (by rfl) ?_
      refine v_iload dX4_joinCalls_60 (by rfl) ?_
      refine w_callV hE dX4_joinCalls_62 kX4_78 (by repeat (first | assumption | exact va_up_self _ _ _ | refine (va_up_ne _ _ (by omega)).trans ?_)) (by rfl) (by rfl) (sX0_callAt hE (joP_S (v := x) (g := g) h).2.2.1 hw hi (by omega)) rfl (by decide) (by decide) (by exact Nat.le_of_ble_eq_true rfl) (by omega) (by omega) (fun v9 g9 u9 h9 => ?_) (fun _ _ _ h => by cases h.1)
      obtain ⟨hv9, hu9, hg9⟩ := h9
      replace hu9 := hu9.symm
      replace hg9 := hg9.symm
      subst hu9
      subst hg9
      cases hv9
      refine w_callV hE dX4_joinCalls_65 kX4_81 (by repeat (first | assumption | exact va_up_self _ _ _ | refine (va_up_ne _ _ (by omega)).trans ?_)) (by rfl) (by rfl) (sX4_joinedCall hE (joP_S (v := x) (g := g) h)) rfl (by decide) (by decide) (by exact Nat.le_of_ble_eq_true rfl) (by omega) (by omega) (fun v9 g9 u9 h9 => ?_) (fun _ _ _ h => by cases h.1)
      obtain ⟨hv9, hu9, hg9⟩ := h9
      replace hu9 := hu9.symm
      replace hg9 := hg9.symm
      subst hu9
      subst hg9
      cases hv9
      refine w_callV hE dX4_joinCalls_68 kX4_84 (by repeat (first | assumption | exact va_up_self _ _ _ | refine (va_up_ne _ _ (by omega)).trans ?_)) (by rfl) (by rfl) (sX0_setCall hE (joP_S (v := x) (g := g) h).2.1 hx hi (by omega)) rfl (by decide) (by decide) (by exact Nat.le_of_ble_eq_true rfl) (by omega) (by omega) (fun v9 g9 u9 h9 => ?_) (fun _ _ _ h => by cases h.1)
      obtain ⟨hv9, hu9, hg9⟩ := h9
      replace hu9 := hu9.symm
      replace hg9 := hg9.symm
      subst hu9
      subst hg9
      cases hv9
      refine v_hp joS_en ?_
      refine v_iincN (y := 1) dX4_joinCalls_71 (by rfl) (by decide) (by decide) ?_
      refine v_goto (tgt := 31) dX4_joinCalls_74 (by decide) ?_
      exact ih (d - 1) (by omega) (c + 1) _ (by omega) (show enOk (wCa x _) from hx) hcn hph (he.trans (by rw [show m - c = (m - (c + 1)) + 1 by omega]; rfl))
  refine v_aload_n dX4_joinCalls_0 rfl (by rfl) ?_
  refine v_getf hE dX4_joinCalls_1 fX4_12 (by repeat (first | assumption | exact va_up_self _ _ _ | refine (va_up_ne _ _ (by omega)).trans ?_)) (by rfl) ?_
  refine v_getf hE dX4_joinCalls_4 fX4_72 (by repeat (first | assumption | exact va_up_self _ _ _ | refine (va_up_ne _ _ (by omega)).trans ?_)) (by rfl) ?_
  refine v_iload_n dX4_joinCalls_7 rfl (by rfl) ?_
  refine v_iald hE dX4_joinCalls_8 (by repeat (first | assumption | exact va_up_self _ _ _ | refine (va_up_ne _ _ (by omega)).trans ?_)) (by omega) (by omega) ?_
  refine v_aload_n dX4_joinCalls_9 rfl (by rfl) ?_
  refine v_getf hE dX4_joinCalls_10 fX4_18 (by repeat (first | assumption | exact va_up_self _ _ _ | refine (va_up_ne _ _ (by omega)).trans ?_)) (by rfl) ?_
  refine v_getf hE dX4_joinCalls_13 fX4_72 (by repeat (first | assumption | exact va_up_self _ _ _ | refine (va_up_ne _ _ (by omega)).trans ?_)) (by rfl) ?_
  refine v_iload_n dX4_joinCalls_16 rfl (by rfl) ?_
  refine v_iald hE dX4_joinCalls_17 (by repeat (first | assumption | exact va_up_self _ _ _ | refine (va_up_ne _ _ (by omega)).trans ?_)) (by omega) (by omega) ?_
  refine v_maxN hE dX4_joinCalls_18 qX4_36 (by decide) (by exact Nat.le_of_ble_eq_true rfl) (by omega) (by omega) ?_
  rw [← hm]
  refine v_istore_n dX4_joinCalls_21 rfl (by decide) ?_
  refine v_aload_n dX4_joinCalls_22 rfl (by rfl) ?_
  refine v_iload_n dX4_joinCalls_23 rfl (by rfl) ?_
  refine w_callV hE dX4_joinCalls_24 kX4_75 (by repeat (first | assumption | exact va_up_self _ _ _ | refine (va_up_ne _ _ (by omega)).trans ?_)) (by rfl) (by rfl) (sX4_joinedPhase hE h hv hw hi) rfl (by decide) (by decide) (by exact Nat.le_of_ble_eq_true rfl) (by omega) (by omega) (fun v9 g9 u9 h9 => ?_) (fun _ _ _ h => by cases h.1)
  obtain ⟨hv9, hu9, hg9⟩ := h9
  replace hu9 := hu9.symm
  replace hg9 := hg9.symm
  subst hu9
  subst hg9
  cases hv9
  refine v_istore_n dX4_joinCalls_27 rfl (by decide) ?_
  refine v_iconst (v := nI 0) dX4_joinCalls_28 (by decide) ?_
  refine v_istore dX4_joinCalls_29 (by decide) ?_
  refine v_hp (joS_id h).symm ?_
  exact lp m 0 v (by omega) hv rfl rfl rfl

set_option maxRecDepth 100000 in
set_option maxHeartbeats 4000000 in
/-- Joiner() -/
theorem sX4_init {E : eN} (hE : eOk E) {f : aH} {t : Nat} {a : Nat} (h : f a = .inr (4, [.null, .null, .null])) (ht : t = a + 1) : mT E mX4_init 15 400 [.ref a] f t (fun o f' t' => o = .inl none ∧ t' = t + 15 ∧ joP f' a eZ eZ (fun _ => 0) ∧ ∀ b, b < a ∨ a + 15 < b → f' b = f b) := by
  refine mT_of (n := 0) (lo := [some (.ref a)]) (by decide) (by exact Nat.le_of_ble_eq_true rfl) rfl rfl ?_
  subst ht
  refine v_aload_n dX4_init_0 rfl (by rfl) ?_
  refine v_oinit hE dX4_init_1 oX4_3 (by decide) (by exact Nat.le_of_ble_eq_true rfl) ?_
  refine v_aload_n dX4_init_4 rfl (by rfl) ?_
  refine v_new hE (ci := 0) (N := 14) (fs := [.null, .null, .null, .null, .null, .null, .int 0, .int 0, .int 0, .int 0, .int 0, .int 0, .int 0, .int 0]) dX4_init_5 nX4_9 rfl (by decide) (by omega) (by omega) ?_
  refine v_dup dX4_init_8 rfl ?_
  refine w_callI hE dX4_init_9 kX4_11 rfl (by rfl) (sX0_init hE (by repeat (first | assumption | exact va_up_self _ _ _ | refine (va_up_ne _ _ (by omega)).trans ?_)) rfl) rfl (fun _ _ _ h => by cases h.1) (by decide) (by decide) (by exact Nat.le_of_ble_eq_true rfl) (by omega) (by omega) (fun v9 g9 u9 h9 => ?_)
  obtain ⟨hv9, hu9, hg9⟩ := h9
  replace hu9 := hu9.symm
  replace hg9 := hg9.symm
  subst hu9
  subst hg9
  cases hv9
  refine v_putF hE dX4_init_12 fX4_12 (by rfl) (by rfl) (by repeat (first | assumption | exact va_up_self _ _ _ | refine (va_up_ne _ _ (by omega)).trans ?_ | refine (enS_ne (by omega)).trans ?_)) (by exact Nat.le_of_ble_eq_true rfl) (by rfl) (by rfl) (by rfl) ?_
  refine v_aload_n dX4_init_15 rfl (by rfl) ?_
  refine v_new hE (ci := 0) (N := 14) (fs := [.null, .null, .null, .null, .null, .null, .int 0, .int 0, .int 0, .int 0, .int 0, .int 0, .int 0, .int 0]) dX4_init_16 nX4_9 rfl (by decide) (by omega) (by omega) ?_
  refine v_dup dX4_init_19 rfl ?_
  refine w_callI hE dX4_init_20 kX4_11 rfl (by rfl) (sX0_init hE (by repeat (first | assumption | exact va_up_self _ _ _ | refine (va_up_ne _ _ (by omega)).trans ?_ | refine (enS_ne (by omega)).trans ?_)) rfl) rfl (fun _ _ _ h => by cases h.1) (by decide) (by decide) (by exact Nat.le_of_ble_eq_true rfl) (by omega) (by omega) (fun v9 g9 u9 h9 => ?_)
  obtain ⟨hv9, hu9, hg9⟩ := h9
  replace hu9 := hu9.symm
  replace hg9 := hg9.symm
  subst hu9
  subst hg9
  cases hv9
  refine v_putF hE dX4_init_23 fX4_18 (by rfl) (by rfl) (by repeat (first | assumption | exact va_up_self _ _ _ | refine (va_up_ne _ _ (by omega)).trans ?_ | refine (enS_ne (by omega)).trans ?_)) (by exact Nat.le_of_ble_eq_true rfl) (by rfl) (by rfl) (by rfl) ?_
  refine v_aload_n dX4_init_26 rfl (by rfl) ?_
  refine v_iconst (v := nI 4) dX4_init_27 (by decide) ?_
  refine v_newI hE dX4_init_28 (by omega) (by omega) (by omega) ?_
  refine v_putF hE dX4_init_30 fX4_21 (by rfl) (by rfl) (by repeat (first | assumption | exact va_up_self _ _ _ | refine (va_up_ne _ _ (by omega)).trans ?_ | refine (enS_ne (by omega)).trans ?_)) (by exact Nat.le_of_ble_eq_true rfl) (by rfl) (by rfl) (by rfl) ?_
  refine v_ret dX4_init_33 rfl ?_
  exact ⟨rfl, by omega, ⟨(by repeat (first | assumption | exact va_up_self _ _ _ | refine (va_up_ne _ _ (by omega)).trans ?_ | refine (enS_ne (by omega)).trans ?_)), (by repeat (first | exact enP_S _ _ _ | refine en_up ?_ (by omega) | refine en_enS ?_ (by omega))), (by repeat (first | exact enP_S _ _ _ | refine en_up ?_ (by omega) | refine en_enS ?_ (by omega))), (by repeat (first | assumption | exact va_up_self _ _ _ | refine (va_up_ne _ _ (by omega)).trans ?_ | refine (enS_ne (by omega)).trans ?_))⟩, fun b hb => (by (repeat (first | refine (va_up_ne _ _ (by omega)).trans ?_ | refine (enS_ne (by omega)).trans ?_)); rfl)⟩
