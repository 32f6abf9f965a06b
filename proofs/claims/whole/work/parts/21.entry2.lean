/-! a record where it stands: its sequence s and place p -/
def eLiv (v : eV) (s p : Nat) : Prop := eSq v = nI s ∧ ePl v = nI p
def eMov (v : eV) (g : gV) (s p r k n : Nat) : Int32 := if k < n then gnLet g s (p - n + k) else eLet v r (nI (k - n))
def eEnd (v : eV) (g : gV) (s p n : Nat) : Bool := allB (fun r => decide (eMov v g s p r (eRs v r - 1) n = eMov v g s p 0 (eRs v 0 - 1) n)) (eRo v - 1) 1
/-- every row has a letter -/
def ePos (v : eV) : Prop := ∀ r, r < eRo v → 1 ≤ eRs v r

set_option maxRecDepth 100000 in
set_option maxHeartbeats 4000000 in
/-- Entry.movedLetter -/
theorem sX0_movedLetter {E : eN} (hE : eOk E) {f : aH} {t : Nat} {a c s p r k n : Nat} {v : eV} {g : gV} (h : enP f a v) (hv : enOk v) (hg : gnP f c g) (hgo : gOk g) (hs : eSq v = nI s) (hp : ePl v = nI p) (bs : s < 2 ^ 30) (bp : p < 2 ^ 29) (hr : r < 4) (hk : k < 2 ^ 29) (hn : n ≤ p) : mT E mX0_movedLetter 0 0 [.ref a, .int (nI r), .int (nI k), .int (nI n), .ref c] f t (fun o f' t' => o = .inl (some (.int (eMov v g s p r k n))) ∧ t' = t ∧ f' = f) := by
  refine mT_of (n := 0) (lo := [some (.ref a), some (.int (nI r)), some (.int (nI k)), some (.int (nI n)), some (.ref c)]) (by decide) (by exact Nat.le_of_ble_eq_true rfl) rfl rfl ?_
  obtain ⟨h0, h1, h2, h3, h4, h5, h6⟩ := id h
  obtain ⟨k0, k1, k2, k3⟩ := id hv
  rw [hs, hp] at h0
  obtain ⟨j0, j1, j2, j3, j4, j5, j6, j7, j8⟩ := id hg
  refine v_iload_n dX0_movedLetter_0 rfl (by rfl) ?_
  refine v_iload_n dX0_movedLetter_1 rfl (by rfl) ?_
  refine v_icmp_geN (tgt := 25) dX0_movedLetter_2 (by decide) (by omega) (by omega) (fun c2 => ?_) (fun c2 => ?_)
  · refine v_aload_n dX0_movedLetter_25 rfl (by rfl) ?_
    refine v_iload_n dX0_movedLetter_26 rfl (by rfl) ?_
    refine v_iload_n dX0_movedLetter_27 rfl (by rfl) ?_
    refine v_iload_n dX0_movedLetter_28 rfl (by rfl) ?_
    refine v_isubN dX0_movedLetter_29 (by omega) ?_
    refine w_callV hE dX0_movedLetter_30 kX0_69 (by repeat (first | assumption | exact va_up_self _ _ _ | refine (va_up_ne _ _ (by omega)).trans ?_)) (by rfl) (by rfl) (sX0_letterAt hE h hv hr) rfl (by decide) (by decide) (by exact Nat.le_of_ble_eq_true rfl) (by omega) (by omega) (fun v9 g9 u9 h9 => ?_) (fun _ _ _ h => by cases h.1)
    obtain ⟨hv, rfl, rfl⟩ := h9
    cases hv
    refine v_iret dX0_movedLetter_33 rfl (by first | rfl | exact nar_bI) ?_
    refine ⟨congrArg (fun x => (Sum.inl (some (Value.int x)) : aO)) ?_, rfl, rfl⟩
    unfold eMov
    first | rw [if_pos (by assumption)] | rw [if_neg (by omega)]
  · refine v_aload dX0_movedLetter_5 (by rfl) ?_
    refine v_aload_n dX0_movedLetter_7 rfl (by rfl) ?_
    refine v_getf hE dX0_movedLetter_8 fX0_49 (by repeat (first | assumption | exact va_up_self _ _ _ | refine (va_up_ne _ _ (by omega)).trans ?_)) (by rfl) ?_
    refine v_aload_n dX0_movedLetter_11 rfl (by rfl) ?_
    refine v_getf hE dX0_movedLetter_12 fX0_52 (by repeat (first | assumption | exact va_up_self _ _ _ | refine (va_up_ne _ _ (by omega)).trans ?_)) (by rfl) ?_
    refine v_iload_n dX0_movedLetter_15 rfl (by rfl) ?_
    refine v_isubN dX0_movedLetter_16 (by omega) ?_
    refine v_iload_n dX0_movedLetter_17 rfl (by rfl) ?_
    refine v_iaddN dX0_movedLetter_18 ?_
    refine w_callV hE dX0_movedLetter_19 kX0_112 (by repeat (first | assumption | exact va_up_self _ _ _ | refine (va_up_ne _ _ (by omega)).trans ?_)) (by rfl) (by rfl) (sX1_letterAt hE hg hgo bs (by omega)) rfl (by decide) (by decide) (by exact Nat.le_of_ble_eq_true rfl) (by omega) (by omega) (fun v9 g9 u9 h9 => ?_) (fun _ _ _ h => by cases h.1)
    obtain ⟨hv, rfl, rfl⟩ := h9
    cases hv
    refine v_goto (tgt := 33) dX0_movedLetter_22 (by decide) ?_
    refine v_iret dX0_movedLetter_33 rfl (by first | rfl | exact nar_bI) ?_
    refine ⟨congrArg (fun x => (Sum.inl (some (Value.int x)) : aO)) ?_, rfl, rfl⟩
    unfold eMov
    first | rw [if_pos (by assumption)] | rw [if_neg (by omega)]

set_option maxRecDepth 100000 in
set_option maxHeartbeats 4000000 in
/-- Entry.endAlikeAfter -/
theorem sX0_endAlikeAfter {E : eN} (hE : eOk E) {f : aH} {t : Nat} {a c s p n : Nat} {v : eV} {g : gV} (h : enP f a v) (hv : enOk v) (hg : gnP f c g) (hgo : gOk g) (hs : eSq v = nI s) (hp : ePl v = nI p) (bs : s < 2 ^ 30) (bp : p < 2 ^ 29) (hpos : ePos v) (hro : 1 ≤ eRo v) (hn : n ≤ p) : mT E mX0_endAlikeAfter 0 0 [.ref a, .int (nI n), .ref c] f t (fun o f' t' => o = .inl (some (.int (bI (eEnd v g s p n)))) ∧ t' = t ∧ f' = f) := by
  refine mT_of (n := 2) (lo := [some (.ref a), some (.int (nI n)), some (.ref c), none, none]) (by decide) (by exact Nat.le_of_ble_eq_true rfl) rfl rfl ?_
  obtain ⟨h0, h1, h2, h3, h4, h5, h6⟩ := id h
  obtain ⟨k0, k1, k2, k3⟩ := id hv
  rw [hs, hp] at h0
  obtain ⟨j0, j1, j2, j3, j4, j5, j6, j7, j8⟩ := id hg
  have k4 := k1 0
  have k5 := hpos 0 hro
  have lp : ∀ (d : Nat) (r : Nat), r + d = eRo v → 1 ≤ r → eEnd v g s p n = allB (fun r => decide (eMov v g s p r (eRs v r - 1) n = eMov v g s p 0 (eRs v 0 - 1) n)) (eRo v - r) r → V E mX0_endAlikeAfter 0 0 (fun o f' t' => o = .inl (some (.int (bI (eEnd v g s p n)))) ∧ t' = t ∧ f' = f) 19 [some (.ref a), some (.int (nI n)), some (.ref c), some (.int (eMov v g s p 0 (eRs v 0 - 1) n)), some (.int (nI r))] [] f t 0 0 := by
    intro d
    induction d using Nat.strongRecOn with
    | _ d ih =>
    intro r hr hr1 he
    have k4 := k1 r
    refine v_iload dX0_endAlikeAfter_19 (by rfl) ?_
    refine v_aload_n dX0_endAlikeAfter_21 rfl (by rfl) ?_
    refine v_getf hE dX0_endAlikeAfter_22 fX0_41 (by repeat (first | assumption | exact va_up_self _ _ _ | refine (va_up_ne _ _ (by omega)).trans ?_)) (by rfl) ?_
    refine v_icmp_geN (tgt := 57) dX0_endAlikeAfter_25 (by decide) (by omega) (by omega) (fun c25 => ?_) (fun c25 => ?_)
    · refine v_iconst (v := nI 1) dX0_endAlikeAfter_57 (by decide) ?_
      refine v_iret dX0_endAlikeAfter_58 rfl (by first | rfl | exact nar_bI) ?_
      first | exact ⟨congrArg (fun x => (Sum.inl (some (Value.int x)) : aO)) (bI_t (he.trans (allB_0 (by omega)))), rfl, rfl⟩ | exact ⟨congrArg (fun x => (Sum.inl (some (Value.int x)) : aO)) (bI_f (he.trans (allB_f c25 (decide_eq_false c46)))), rfl, rfl⟩
    · have k5 := hpos r c25
      refine v_aload_n dX0_endAlikeAfter_28 rfl (by rfl) ?_
      refine v_iload dX0_endAlikeAfter_29 (by rfl) ?_
      refine v_aload_n dX0_endAlikeAfter_31 rfl (by rfl) ?_
      refine v_getf hE dX0_endAlikeAfter_32 fX0_18 (by repeat (first | assumption | exact va_up_self _ _ _ | refine (va_up_ne _ _ (by omega)).trans ?_)) (by rfl) ?_
      refine v_iload dX0_endAlikeAfter_35 (by rfl) ?_
      refine v_iald hE dX0_endAlikeAfter_37 (by repeat (first | assumption | exact va_up_self _ _ _ | refine (va_up_ne _ _ (by omega)).trans ?_)) (by omega) (by omega) ?_
      refine v_iconst (v := nI 1) dX0_endAlikeAfter_38 (by decide) ?_
      refine v_isubN dX0_endAlikeAfter_39 (by omega) ?_
      refine v_iload_n dX0_endAlikeAfter_40 rfl (by rfl) ?_
      refine v_aload_n dX0_endAlikeAfter_41 rfl (by rfl) ?_
      refine w_callV hE dX0_endAlikeAfter_42 kX0_108 (by repeat (first | assumption | exact va_up_self _ _ _ | refine (va_up_ne _ _ (by omega)).trans ?_)) (by rfl) (by rfl) (sX0_movedLetter hE h hv hg hgo hs hp bs bp (by omega) (by omega) hn) rfl (by decide) (by decide) (by exact Nat.le_of_ble_eq_true rfl) (by omega) (by omega) (fun v9 g9 u9 h9 => ?_) (fun _ _ _ h => by cases h.1)
      obtain ⟨hv, rfl, rfl⟩ := h9
      cases hv
      refine v_iload_n dX0_endAlikeAfter_45 rfl (by rfl) ?_
      refine v_icmp_eq (tgt := 51) dX0_endAlikeAfter_46 (by decide) (fun c46 => ?_) (fun c46 => ?_)
      · refine v_iincN (y := 1) dX0_endAlikeAfter_51 (by rfl) (by decide) (by decide) ?_
        refine v_goto (tgt := 19) dX0_endAlikeAfter_54 (by decide) ?_
        exact ih (d - 1) (by omega) (r + 1) (by omega) (by omega) (he.trans (allB_s c25 (decide_eq_true c46)))
      · refine v_iconst (v := nI 0) dX0_endAlikeAfter_49 (by decide) ?_
        refine v_iret dX0_endAlikeAfter_50 rfl (by first | rfl | exact nar_bI) ?_
        first | exact ⟨congrArg (fun x => (Sum.inl (some (Value.int x)) : aO)) (bI_t (he.trans (allB_0 (by omega)))), rfl, rfl⟩ | exact ⟨congrArg (fun x => (Sum.inl (some (Value.int x)) : aO)) (bI_f (he.trans (allB_f c25 (decide_eq_false c46)))), rfl, rfl⟩
  refine v_aload_n dX0_endAlikeAfter_0 rfl (by rfl) ?_
  refine v_iconst (v := nI 0) dX0_endAlikeAfter_1 (by decide) ?_
  refine v_aload_n dX0_endAlikeAfter_2 rfl (by rfl) ?_
  refine v_getf hE dX0_endAlikeAfter_3 fX0_18 (by repeat (first | assumption | exact va_up_self _ _ _ | refine (va_up_ne _ _ (by omega)).trans ?_)) (by rfl) ?_
  refine v_iconst (v := nI 0) dX0_endAlikeAfter_6 (by decide) ?_
  refine v_iald hE dX0_endAlikeAfter_7 (by repeat (first | assumption | exact va_up_self _ _ _ | refine (va_up_ne _ _ (by omega)).trans ?_)) (by omega) (by omega) ?_
  refine v_iconst (v := nI 1) dX0_endAlikeAfter_8 (by decide) ?_
  refine v_isubN dX0_endAlikeAfter_9 (by omega) ?_
  refine v_iload_n dX0_endAlikeAfter_10 rfl (by rfl) ?_
  refine v_aload_n dX0_endAlikeAfter_11 rfl (by rfl) ?_
  refine w_callV hE dX0_endAlikeAfter_12 kX0_108 (by repeat (first | assumption | exact va_up_self _ _ _ | refine (va_up_ne _ _ (by omega)).trans ?_)) (by rfl) (by rfl) (sX0_movedLetter hE h hv hg hgo hs hp bs bp (by omega) (by omega) hn) rfl (by decide) (by decide) (by exact Nat.le_of_ble_eq_true rfl) (by omega) (by omega) (fun v9 g9 u9 h9 => ?_) (fun _ _ _ h => by cases h.1)
  obtain ⟨hv, rfl, rfl⟩ := h9
  cases hv
  refine v_istore_n dX0_endAlikeAfter_15 rfl (by decide) ?_
  refine v_iconst (v := nI 1) dX0_endAlikeAfter_16 (by decide) ?_
  refine v_istore dX0_endAlikeAfter_17 (by decide) ?_
  exact lp (eRo v - 1) 1 (by omega) (by omega) rfl

def eStepL (v : eV) (g : gV) (s p : Nat) : Nat → Nat → Nat
  | 0, n => n
  | d + 1, n => if eEnd v g s p n = true then eStepL v g s p d (n + 1) else n
def eSteps (v : eV) (g : gV) (s p : Nat) : Nat := eStepL v g s p (p - 1 - 0) 0

set_option maxRecDepth 100000 in
set_option maxHeartbeats 4000000 in
/-- Entry.stepsToLeft -/
theorem sX0_stepsToLeft {E : eN} (hE : eOk E) {f : aH} {t : Nat} {a c s p : Nat} {v : eV} {g : gV} (h : enP f a v) (hv : enOk v) (hg : gnP f c g) (hgo : gOk g) (hs : eSq v = nI s) (hp : ePl v = nI p) (bs : s < 2 ^ 30) (bp : p < 2 ^ 29) (hpos : ePos v) (hro : 1 ≤ eRo v) (hp1 : 1 ≤ p) : mT E mX0_stepsToLeft 0 0 [.ref a, .ref c] f t (fun o f' t' => o = .inl (some (.int (nI (eSteps v g s p)))) ∧ t' = t ∧ f' = f) := by
  refine mT_of (n := 1) (lo := [some (.ref a), some (.ref c), none]) (by decide) (by exact Nat.le_of_ble_eq_true rfl) rfl rfl ?_
  obtain ⟨h0, h1, h2, h3, h4, h5, h6⟩ := id h
  obtain ⟨k0, k1, k2, k3⟩ := id hv
  rw [hs, hp] at h0
  obtain ⟨j0, j1, j2, j3, j4, j5, j6, j7, j8⟩ := id hg
  have lp : ∀ (d : Nat) (n : Nat), n + d = p - 1 → eSteps v g s p = eStepL v g s p (p - 1 - n) n → V E mX0_stepsToLeft 0 0 (fun o f' t' => o = .inl (some (.int (nI (eSteps v g s p)))) ∧ t' = t ∧ f' = f) 2 [some (.ref a), some (.ref c), some (.int (nI n))] [] f t 0 0 := by
    intro d
    induction d using Nat.strongRecOn with
    | _ d ih =>
    intro n hn he
    refine v_iload_n dX0_stepsToLeft_2 rfl (by rfl) ?_
    refine v_aload_n dX0_stepsToLeft_3 rfl (by rfl) ?_
    refine v_getf hE dX0_stepsToLeft_4 fX0_52 (by repeat (first | assumption | exact va_up_self _ _ _ | refine (va_up_ne _ _ (by omega)).trans ?_)) (by rfl) ?_
    refine v_iconst (v := nI 1) dX0_stepsToLeft_7 (by decide) ?_
    refine v_isubN dX0_stepsToLeft_8 (by omega) ?_
    refine v_icmp_geN (tgt := 27) dX0_stepsToLeft_9 (by decide) (by omega) (by omega) (fun c9 => ?_) (fun c9 => ?_)
    · refine v_iload_n dX0_stepsToLeft_27 rfl (by rfl) ?_
      refine v_iret dX0_stepsToLeft_28 rfl (by first | rfl | exact nar_bI) ?_
      refine ⟨congrArg (fun x => (Sum.inl (some (Value.int x)) : aO)) ?_, rfl, rfl⟩
      rw [he]
      first | (rw [show p - 1 - n = 0 by omega]; rfl) | (rw [show p - 1 - n = (p - 1 - (n + 1)) + 1 by omega]; exact (congrArg nI (if_neg (by rw [c18]; decide))).symm)
    · refine v_aload_n dX0_stepsToLeft_12 rfl (by rfl) ?_
      refine v_iload_n dX0_stepsToLeft_13 rfl (by rfl) ?_
      refine v_aload_n dX0_stepsToLeft_14 rfl (by rfl) ?_
      refine w_callV hE dX0_stepsToLeft_15 kX0_104 (by repeat (first | assumption | exact va_up_self _ _ _ | refine (va_up_ne _ _ (by omega)).trans ?_)) (by rfl) (by rfl) (sX0_endAlikeAfter hE h hv hg hgo hs hp bs bp hpos hro (by omega)) rfl (by decide) (by decide) (by exact Nat.le_of_ble_eq_true rfl) (by omega) (by omega) (fun v9 g9 u9 h9 => ?_) (fun _ _ _ h => by cases h.1)
      obtain ⟨hv, rfl, rfl⟩ := h9
      cases hv
      refine v_if_eqB (tgt := 27) dX0_stepsToLeft_18 (by decide) (fun c18 => ?_) (fun c18 => ?_)
      · refine v_iload_n dX0_stepsToLeft_27 rfl (by rfl) ?_
        refine v_iret dX0_stepsToLeft_28 rfl (by first | rfl | exact nar_bI) ?_
        refine ⟨congrArg (fun x => (Sum.inl (some (Value.int x)) : aO)) ?_, rfl, rfl⟩
        rw [he]
        first | (rw [show p - 1 - n = 0 by omega]; rfl) | (rw [show p - 1 - n = (p - 1 - (n + 1)) + 1 by omega]; exact (congrArg nI (if_neg (by rw [c18]; decide))).symm)
      · refine v_iincN (y := 1) dX0_stepsToLeft_21 (by rfl) (by decide) (by decide) ?_
        refine v_goto (tgt := 2) dX0_stepsToLeft_24 (by decide) ?_
        exact ih (d - 1) (by omega) (n + 1) (by omega) (he.trans (by rw [show p - 1 - n = (p - 1 - (n + 1)) + 1 by omega]; exact if_pos c18))
  refine v_iconst (v := nI 0) dX0_stepsToLeft_0 (by decide) ?_
  refine v_istore_n dX0_stepsToLeft_1 rfl (by decide) ?_
  exact lp (p - 1) 0 (by omega) rfl

/-- the letter at place q with the alt on it -/
def eAft (v : eV) (g : gV) (s p q : Nat) : Int32 := if q < p then gnLet g s q else if q < p + eRs v 1 then eLet v 1 (nI (q - p)) else gnLet g s (q + eRs v 0 - eRs v 1)

set_option maxRecDepth 100000 in
set_option maxHeartbeats 4000000 in
/-- Entry.letterAfter -/
theorem sX0_letterAfter {E : eN} (hE : eOk E) {f : aH} {t : Nat} {a c s p q : Nat} {v : eV} {g : gV} (h : enP f a v) (hv : enOk v) (hg : gnP f c g) (hgo : gOk g) (hs : eSq v = nI s) (hp : ePl v = nI p) (bs : s < 2 ^ 30) (bp : p < 2 ^ 29) (bq : q < 2 ^ 29) : mT E mX0_letterAfter 0 0 [.ref a, .int (nI q), .ref c] f t (fun o f' t' => o = .inl (some (.int (eAft v g s p q))) ∧ t' = t ∧ f' = f) := by
  refine mT_of (n := 0) (lo := [some (.ref a), some (.int (nI q)), some (.ref c)]) (by decide) (by exact Nat.le_of_ble_eq_true rfl) rfl rfl ?_
  obtain ⟨h0, h1, h2, h3, h4, h5, h6⟩ := id h
  obtain ⟨k0, k1, k2, k3⟩ := id hv
  rw [hs, hp] at h0
  obtain ⟨j0, j1, j2, j3, j4, j5, j6, j7, j8⟩ := id hg
  have k4 := k1 0
  have k5 := k1 1
  refine v_iload_n dX0_letterAfter_0 rfl (by rfl) ?_
  refine v_aload_n dX0_letterAfter_1 rfl (by rfl) ?_
  refine v_getf hE dX0_letterAfter_2 fX0_52 (by repeat (first | assumption | exact va_up_self _ _ _ | refine (va_up_ne _ _ (by omega)).trans ?_)) (by rfl) ?_
  refine v_icmp_geN (tgt := 18) dX0_letterAfter_5 (by decide) (by omega) (by omega) (fun c5 => ?_) (fun c5 => ?_)
  · refine v_iload_n dX0_letterAfter_18 rfl (by rfl) ?_
    refine v_aload_n dX0_letterAfter_19 rfl (by rfl) ?_
    refine v_getf hE dX0_letterAfter_20 fX0_52 (by repeat (first | assumption | exact va_up_self _ _ _ | refine (va_up_ne _ _ (by omega)).trans ?_)) (by rfl) ?_
    refine v_aload_n dX0_letterAfter_23 rfl (by rfl) ?_
    refine v_getf hE dX0_letterAfter_24 fX0_18 (by repeat (first | assumption | exact va_up_self _ _ _ | refine (va_up_ne _ _ (by omega)).trans ?_)) (by rfl) ?_
    refine v_iconst (v := nI 1) dX0_letterAfter_27 (by decide) ?_
    refine v_iald hE dX0_letterAfter_28 (by repeat (first | assumption | exact va_up_self _ _ _ | refine (va_up_ne _ _ (by omega)).trans ?_)) (by omega) (by omega) ?_
    refine v_iaddN dX0_letterAfter_29 ?_
    refine v_icmp_geN (tgt := 45) dX0_letterAfter_30 (by decide) (by omega) (by omega) (fun c30 => ?_) (fun c30 => ?_)
    · refine v_aload_n dX0_letterAfter_45 rfl (by rfl) ?_
      refine v_aload_n dX0_letterAfter_46 rfl (by rfl) ?_
      refine v_getf hE dX0_letterAfter_47 fX0_49 (by repeat (first | assumption | exact va_up_self _ _ _ | refine (va_up_ne _ _ (by omega)).trans ?_)) (by rfl) ?_
      refine v_iload_n dX0_letterAfter_50 rfl (by rfl) ?_
      refine v_aload_n dX0_letterAfter_51 rfl (by rfl) ?_
      refine w_callV hE dX0_letterAfter_52 kX0_132 (by repeat (first | assumption | exact va_up_self _ _ _ | refine (va_up_ne _ _ (by omega)).trans ?_)) (by rfl) (by rfl) (sX0_growth hE h hv) rfl (by decide) (by decide) (by exact Nat.le_of_ble_eq_true rfl) (by omega) (by omega) (fun v9 g9 u9 h9 => ?_) (fun _ _ _ h => by cases h.1)
      obtain ⟨hv, rfl, rfl⟩ := h9
      cases hv
      refine v_isub dX0_letterAfter_55 ?_
      refine v_eqi (y := nI (q + eRs v 0 - eRs v 1)) (by rw [← pk_sub (show eRs v 1 ≤ q + eRs v 0 by omega), ← nI_add]; simp only [Int32.sub_eq_add_neg, Int32.neg_add, Int32.neg_neg]; ac_rfl) ?_
      refine w_callV hE dX0_letterAfter_56 kX0_112 (by repeat (first | assumption | exact va_up_self _ _ _ | refine (va_up_ne _ _ (by omega)).trans ?_)) (by rfl) (by rfl) (sX1_letterAt hE hg hgo bs (by omega)) rfl (by decide) (by decide) (by exact Nat.le_of_ble_eq_true rfl) (by omega) (by omega) (fun v9 g9 u9 h9 => ?_) (fun _ _ _ h => by cases h.1)
      obtain ⟨hv, rfl, rfl⟩ := h9
      cases hv
      refine v_iret dX0_letterAfter_59 rfl (by first | rfl | exact nar_bI) ?_
      refine ⟨congrArg (fun x => (Sum.inl (some (Value.int x)) : aO)) ?_, rfl, rfl⟩
      unfold eAft
      first | rw [if_pos (by assumption)] | rw [if_neg (by omega), if_pos (by assumption)] | rw [if_neg (by omega), if_neg (by omega)]
    · refine v_aload_n dX0_letterAfter_33 rfl (by rfl) ?_
      refine v_iconst (v := nI 1) dX0_letterAfter_34 (by decide) ?_
      refine v_iload_n dX0_letterAfter_35 rfl (by rfl) ?_
      refine v_aload_n dX0_letterAfter_36 rfl (by rfl) ?_
      refine v_getf hE dX0_letterAfter_37 fX0_52 (by repeat (first | assumption | exact va_up_self _ _ _ | refine (va_up_ne _ _ (by omega)).trans ?_)) (by rfl) ?_
      refine v_isubN dX0_letterAfter_40 (by omega) ?_
      refine w_callV hE dX0_letterAfter_41 kX0_69 (by repeat (first | assumption | exact va_up_self _ _ _ | refine (va_up_ne _ _ (by omega)).trans ?_)) (by rfl) (by rfl) (sX0_letterAt hE h hv (by omega)) rfl (by decide) (by decide) (by exact Nat.le_of_ble_eq_true rfl) (by omega) (by omega) (fun v9 g9 u9 h9 => ?_) (fun _ _ _ h => by cases h.1)
      obtain ⟨hv, rfl, rfl⟩ := h9
      cases hv
      refine v_iret dX0_letterAfter_44 rfl (by first | rfl | exact nar_bI) ?_
      refine ⟨congrArg (fun x => (Sum.inl (some (Value.int x)) : aO)) ?_, rfl, rfl⟩
      unfold eAft
      first | rw [if_pos (by assumption)] | rw [if_neg (by omega), if_pos (by assumption)] | rw [if_neg (by omega), if_neg (by omega)]
  · refine v_aload_n dX0_letterAfter_8 rfl (by rfl) ?_
    refine v_aload_n dX0_letterAfter_9 rfl (by rfl) ?_
    refine v_getf hE dX0_letterAfter_10 fX0_49 (by repeat (first | assumption | exact va_up_self _ _ _ | refine (va_up_ne _ _ (by omega)).trans ?_)) (by rfl) ?_
    refine v_iload_n dX0_letterAfter_13 rfl (by rfl) ?_
    refine w_callV hE dX0_letterAfter_14 kX0_112 (by repeat (first | assumption | exact va_up_self _ _ _ | refine (va_up_ne _ _ (by omega)).trans ?_)) (by rfl) (by rfl) (sX1_letterAt hE hg hgo bs (by omega)) rfl (by decide) (by decide) (by exact Nat.le_of_ble_eq_true rfl) (by omega) (by omega) (fun v9 g9 u9 h9 => ?_) (fun _ _ _ h => by cases h.1)
    obtain ⟨hv, rfl, rfl⟩ := h9
    cases hv
    refine v_iret dX0_letterAfter_17 rfl (by first | rfl | exact nar_bI) ?_
    refine ⟨congrArg (fun x => (Sum.inl (some (Value.int x)) : aO)) ?_, rfl, rfl⟩
    unfold eAft
    first | rw [if_pos (by assumption)] | rw [if_neg (by omega), if_pos (by assumption)] | rw [if_neg (by omega), if_neg (by omega)]

set_option maxRecDepth 100000 in
set_option maxHeartbeats 4000000 in
/-- Entry.writeRow -/
theorem sX0_writeRow {E : eN} (hE : eOk E) {f : aH} {t : Nat} {a b r : Nat} {v : eV} {u : tS} (h : enP f a v) (hv : enOk v) (hb : oP f b u) (hd : b + 1 < a ∨ a + 6 < b) (hr : r < 4) : mT E mX0_writeRow 0 0 [.ref a, .int (nI r), .ref b] f t (fun o f' t' => o = .inl none ∧ t' = t ∧ f' = oS f b (tAdds u (prt (eLe v) (eRs v r) (r * 24)))) := by
  refine mT_of (n := 0) (lo := [some (.ref a), some (.int (nI r)), some (.ref b)]) (by decide) (by exact Nat.le_of_ble_eq_true rfl) rfl rfl ?_
  obtain ⟨h0, h1, h2, h3, h4, h5, h6⟩ := id h
  obtain ⟨k0, k1, k2, k3⟩ := id hv
  obtain ⟨⟨g1, g2⟩, g3⟩ := id hb
  have k4 := k1 r
  refine v_aload_n dX0_writeRow_0 rfl (by rfl) ?_
  refine v_aload_n dX0_writeRow_1 rfl (by rfl) ?_
  refine v_getf hE dX0_writeRow_2 fX0_15 (by repeat (first | assumption | exact va_up_self _ _ _ | refine (va_up_ne _ _ (by omega)).trans ?_)) (by rfl) ?_
  refine v_iload_n dX0_writeRow_5 rfl (by rfl) ?_
  refine v_bipush (v := nI 24) dX0_writeRow_6 (by decide) ?_
  refine v_imulN dX0_writeRow_8 ?_
  refine v_aload_n dX0_writeRow_9 rfl (by rfl) ?_
  refine v_getf hE dX0_writeRow_10 fX0_18 (by repeat (first | assumption | exact va_up_self _ _ _ | refine (va_up_ne _ _ (by omega)).trans ?_)) (by rfl) ?_
  refine v_iload_n dX0_writeRow_13 rfl (by rfl) ?_
  refine v_iald hE dX0_writeRow_14 (by repeat (first | assumption | exact va_up_self _ _ _ | refine (va_up_ne _ _ (by omega)).trans ?_)) (by omega) (by omega) ?_
  refine w_callV hE dX0_writeRow_15 kX0_161 (by repeat (first | assumption | exact va_up_self _ _ _ | refine (va_up_ne _ _ (by omega)).trans ?_)) (by rfl) (by rfl) (sX6_addPart hE hb h2 (by omega) (by omega) (by omega) (by omega) (by omega)) rfl (by decide) (by decide) (by exact Nat.le_of_ble_eq_true rfl) (by omega) (by omega) (fun v9 g9 u9 h9 => ?_) (fun _ _ _ h => by cases h.1)
  obtain ⟨hv, rfl, rfl⟩ := h9
  cases hv
  refine v_ret dX0_writeRow_18 rfl ?_
  refine ⟨rfl, rfl, ?_⟩
  rw [show min (r * 24 + eRs v r) 96 - r * 24 = eRs v r by omega]

theorem en_oS {f : aH} {a b : Nat} {v : eV} {u : tS} (h : enP f a v) (hd : b + 1 < a ∨ a + 6 < b) : enP (oS f b u) a v := by
  obtain ⟨h0, h1, h2, h3, h4, h5, h6⟩ := h
  refine ⟨?_, ?_, ?_, ?_, ?_, ?_, ?_⟩ <;> (rw [oS_ne (by omega) (by omega)]; assumption)
def eAltT (v : eV) : Nat → Nat → List Int32
  | 0, _ => []
  | d + 1, r => (if 1 < r then [nI 44] else []) ++ prt (eLe v) (eRs v r) (r * 24) ++ eAltT v d (r + 1)
def eAltsT (v : eV) : List Int32 := (if 1 < eRo v then [] else [nI 46]) ++ eAltT v (eRo v - 1) 1
def eCalT (v : eV) (i : Nat) : Nat → Nat → List Int32
  | 0, _ => []
  | d + 1, c => (if 0 < c then [if ePh v i = true then nI 124 else nI 47] else []) ++ tNumP (eCall v i c) ++ eCalT v i d (c + 1)
/-- the calls are numbers of rows, or none -/
def eCaOk (v : eV) (i : Nat) : Prop := ∀ c, c < eCn v i → eCa v (i * 2 + c) = -1 ∨ ∃ n : Nat, n < 4 ∧ eCa v (i * 2 + c) = nI n
theorem eCall_ok {v : eV} {i c : Nat} (h : eCaOk v i) (hc : c < 2) : eCall v i c = -1 ∨ ∃ n : Nat, n < 2 ^ 29 ∧ eCall v i c = nI n := by
  unfold eCall
  split
  · rename_i hcn
    rcases h c hcn with e | ⟨n, hn, e⟩
    · exact Or.inl e
    · exact Or.inr ⟨n, by omega, e⟩
  · exact Or.inl rfl

set_option maxRecDepth 100000 in
set_option maxHeartbeats 4000000 in
/-- Entry.writeAlts -/
theorem sX0_writeAlts {E : eN} (hE : eOk E) {f : aH} {t : Nat} {a b : Nat} {v : eV} {u : tS} (h : enP f a v) (hv : enOk v) (hb : oP f b u) (hd : b + 1 < a ∨ a + 6 < b) : mT E mX0_writeAlts 0 0 [.ref a, .ref b] f t (fun o f' t' => o = .inl none ∧ t' = t ∧ f' = oS f b (tAdds u (eAltsT v))) := by
  refine mT_of (n := 1) (lo := [some (.ref a), some (.ref b), none]) (by decide) (by exact Nat.le_of_ble_eq_true rfl) rfl rfl ?_
  obtain ⟨h0, h1, h2, h3, h4, h5, h6⟩ := id h
  obtain ⟨k0, k1, k2, k3⟩ := id hv
  obtain ⟨⟨g1, g2⟩, g3⟩ := id hb
  have lp : ∀ (d : Nat) (r : Nat) (y : tS), r + d = max 1 (eRo v) → 1 ≤ r → y.1 ≤ 8000 → tAdds u (eAltsT v) = tAdds y (eAltT v (eRo v - r) r) → V E mX0_writeAlts 0 0 (fun o f' t' => o = .inl none ∧ t' = t ∧ f' = oS f b (tAdds u (eAltsT v))) 15 [some (.ref a), some (.ref b), some (.int (nI r))] [] (oS f b y) t 0 0 := by
    intro d
    induction d using Nat.strongRecOn with
    | _ d ih =>
    intro r y hr hr1 hu he
    have yh := en_oS (u := y) h hd
    obtain ⟨y0, y1, y2, y3, y4, y5, y6⟩ := id yh
    have ya := (oP_S (f := f) (a := b) hu).1.1
    have yb := (oP_S (f := f) (a := b) hu).1.2
    refine v_iload_n dX0_writeAlts_15 rfl (by rfl) ?_
    refine v_aload_n dX0_writeAlts_16 rfl (by rfl) ?_
    refine v_getf hE dX0_writeAlts_17 fX0_41 (by repeat (first | assumption | exact va_up_self _ _ _ | refine (va_up_ne _ _ (by omega)).trans ?_)) (by rfl) ?_
    refine v_icmp_geN (tgt := 46) dX0_writeAlts_20 (by decide) (by omega) (by omega) (fun c20 => ?_) (fun c20 => ?_)
    · refine v_ret dX0_writeAlts_46 rfl ?_
      refine ⟨rfl, rfl, ?_⟩
      rw [he, show eRo v - r = 0 by omega]
      rfl
    · refine v_iload_n dX0_writeAlts_23 rfl (by rfl) ?_
      refine v_iconst (v := nI 1) dX0_writeAlts_24 (by decide) ?_
      refine v_icmp_leN (tgt := 34) dX0_writeAlts_25 (by decide) (by omega) (by omega) (fun c25 => ?_) (fun c25 => ?_)
      · refine v_aload_n dX0_writeAlts_34 rfl (by rfl) ?_
        refine v_iload_n dX0_writeAlts_35 rfl (by rfl) ?_
        refine v_aload_n dX0_writeAlts_36 rfl (by rfl) ?_
        refine w_callV hE dX0_writeAlts_37 kX0_165 (by repeat (first | assumption | exact va_up_self _ _ _ | refine (va_up_ne _ _ (by omega)).trans ?_)) (by rfl) (by rfl) (sX0_writeRow hE (en_oS h hd) hv (oP_S (by first | exact hu | exact tAdd_le hu)) hd (by omega)) rfl (by decide) (by decide) (by exact Nat.le_of_ble_eq_true rfl) (by omega) (by omega) (fun v9 g9 u9 h9 => ?_) (fun _ _ _ h => by cases h.1)
        obtain ⟨hv, rfl, rfl⟩ := h9
        cases hv
        refine v_hp oS_S ?_
        refine v_iincN (y := 1) dX0_writeAlts_40 (by rfl) (by decide) (by decide) ?_
        refine v_goto (tgt := 15) dX0_writeAlts_43 (by decide) ?_
        exact ih (d - 1) (by omega) (r + 1) _ (by omega) (by omega) (tAdds_le (by first | exact hu | exact tAdd_le hu)) (he.trans (by rw [show eRo v - r = (eRo v - (r + 1)) + 1 by omega]; show tAdds y ((if 1 < r then [nI 44] else []) ++ _ ++ _) = _; first | (rw [if_pos (by omega)]; rw [← tAdds_app, ← tAdds_app]; rfl) | (rw [if_neg (by omega)]; rw [← tAdds_app, ← tAdds_app]; rfl)))
      · refine v_aload_n dX0_writeAlts_28 rfl (by rfl) ?_
        refine v_bipush (v := nI 44) dX0_writeAlts_29 (by decide) ?_
        refine w_callV hE dX0_writeAlts_31 kX0_152 (by repeat (first | assumption | exact va_up_self _ _ _ | refine (va_up_ne _ _ (by omega)).trans ?_)) (by rfl) (by rfl) (uX6_add hE (oP_S hu)) rfl (by decide) (by decide) (by exact Nat.le_of_ble_eq_true rfl) (by omega) (by omega) (fun v9 g9 u9 h9 => ?_) (fun _ _ _ h => by cases h.1)
        obtain ⟨hv, rfl, rfl⟩ := h9
        cases hv
        refine v_hp oS_S ?_
        have hu2 : (tAdd y (nI 44)).1 ≤ 8000 := tAdd_le hu
        have z0 := (en_oS (u := tAdd y (nI 44)) h hd).1
        refine v_aload_n dX0_writeAlts_34 rfl (by rfl) ?_
        refine v_iload_n dX0_writeAlts_35 rfl (by rfl) ?_
        refine v_aload_n dX0_writeAlts_36 rfl (by rfl) ?_
        refine w_callV hE dX0_writeAlts_37 kX0_165 (by repeat (first | assumption | exact va_up_self _ _ _ | refine (va_up_ne _ _ (by omega)).trans ?_)) (by rfl) (by rfl) (sX0_writeRow hE (en_oS h hd) hv (oP_S (by first | exact hu | exact tAdd_le hu)) hd (by omega)) rfl (by decide) (by decide) (by exact Nat.le_of_ble_eq_true rfl) (by omega) (by omega) (fun v9 g9 u9 h9 => ?_) (fun _ _ _ h => by cases h.1)
        obtain ⟨hv, rfl, rfl⟩ := h9
        cases hv
        refine v_hp oS_S ?_
        refine v_iincN (y := 1) dX0_writeAlts_40 (by rfl) (by decide) (by decide) ?_
        refine v_goto (tgt := 15) dX0_writeAlts_43 (by decide) ?_
        exact ih (d - 1) (by omega) (r + 1) _ (by omega) (by omega) (tAdds_le (by first | exact hu | exact tAdd_le hu)) (he.trans (by rw [show eRo v - r = (eRo v - (r + 1)) + 1 by omega]; show tAdds y ((if 1 < r then [nI 44] else []) ++ _ ++ _) = _; first | (rw [if_pos (by omega)]; rw [← tAdds_app, ← tAdds_app]; rfl) | (rw [if_neg (by omega)]; rw [← tAdds_app, ← tAdds_app]; rfl)))
  refine v_aload_n dX0_writeAlts_0 rfl (by rfl) ?_
  refine w_callV hE dX0_writeAlts_1 kX0_77 (by repeat (first | assumption | exact va_up_self _ _ _ | refine (va_up_ne _ _ (by omega)).trans ?_)) (by rfl) (by rfl) (sX0_hasAlts hE h hv) rfl (by decide) (by decide) (by exact Nat.le_of_ble_eq_true rfl) (by omega) (by omega) (fun v9 g9 u9 h9 => ?_) (fun _ _ _ h => by cases h.1)
  obtain ⟨hv, rfl, rfl⟩ := h9
  cases hv
  refine v_if_neB (tgt := 13) dX0_writeAlts_4 (by decide) (fun c4 => ?_) (fun c4 => ?_)
  · refine v_iconst (v := nI 1) dX0_writeAlts_13 (by decide) ?_
    refine v_istore_n dX0_writeAlts_14 rfl (by decide) ?_
    first | (refine v_hp (oS_id hb).symm ?_; exact lp (max 1 (eRo v) - 1) 1 u (by omega) (by omega) hb.2 (by unfold eAltsT; rw [if_pos (of_decide_eq_true c4)]; rfl)) | exact lp (max 1 (eRo v) - 1) 1 _ (by omega) (by omega) (tAdd_le hb.2) (by unfold eAltsT; rw [if_neg (of_decide_eq_false c4)]; rfl)
  · refine v_aload_n dX0_writeAlts_7 rfl (by rfl) ?_
    refine v_bipush (v := nI 46) dX0_writeAlts_8 (by decide) ?_
    refine w_callV hE dX0_writeAlts_10 kX0_152 (by repeat (first | assumption | exact va_up_self _ _ _ | refine (va_up_ne _ _ (by omega)).trans ?_)) (by rfl) (by rfl) (uX6_add hE hb) rfl (by decide) (by decide) (by exact Nat.le_of_ble_eq_true rfl) (by omega) (by omega) (fun v9 g9 u9 h9 => ?_) (fun _ _ _ h => by cases h.1)
    obtain ⟨hv, rfl, rfl⟩ := h9
    cases hv
    refine v_iconst (v := nI 1) dX0_writeAlts_13 (by decide) ?_
    refine v_istore_n dX0_writeAlts_14 rfl (by decide) ?_
    first | (refine v_hp (oS_id hb).symm ?_; exact lp (max 1 (eRo v) - 1) 1 u (by omega) (by omega) hb.2 (by unfold eAltsT; rw [if_pos (of_decide_eq_true c4)]; rfl)) | exact lp (max 1 (eRo v) - 1) 1 _ (by omega) (by omega) (tAdd_le hb.2) (by unfold eAltsT; rw [if_neg (of_decide_eq_false c4)]; rfl)

set_option maxRecDepth 100000 in
set_option maxHeartbeats 4000000 in
/-- Entry.writeCalls -/
theorem sX0_writeCalls {E : eN} (hE : eOk E) {f : aH} {t : Nat} {a b i : Nat} {v : eV} {u : tS} (h : enP f a v) (hv : enOk v) (hb : oP f b u) (hd : b + 1 < a ∨ a + 6 < b) (hi : i < 3) (hca : eCaOk v i) : mT E mX0_writeCalls 0 0 [.ref a, .int (nI i), .ref b] f t (fun o f' t' => o = .inl none ∧ t' = t ∧ f' = oS f b (tAdds u (eCalT v i (eCn v i - 0) 0))) := by
  refine mT_of (n := 1) (lo := [some (.ref a), some (.int (nI i)), some (.ref b), none]) (by decide) (by exact Nat.le_of_ble_eq_true rfl) rfl rfl ?_
  obtain ⟨h0, h1, h2, h3, h4, h5, h6⟩ := id h
  obtain ⟨k0, k1, k2, k3⟩ := id hv
  obtain ⟨⟨g1, g2⟩, g3⟩ := id hb
  have k4 := k2 i
  have lp : ∀ (d : Nat) (c : Nat) (y : tS), c + d = eCn v i → y.1 ≤ 8000 → tAdds u (eCalT v i (eCn v i - 0) 0) = tAdds y (eCalT v i (eCn v i - c) c) → V E mX0_writeCalls 0 0 (fun o f' t' => o = .inl none ∧ t' = t ∧ f' = oS f b (tAdds u (eCalT v i (eCn v i - 0) 0))) 2 [some (.ref a), some (.int (nI i)), some (.ref b), some (.int (nI c))] [] (oS f b y) t 0 0 := by
    intro d
    induction d using Nat.strongRecOn with
    | _ d ih =>
    intro c y hc hu he
    have k4 := k2 i
    have yh := en_oS (u := y) h hd
    obtain ⟨y0, y1, y2, y3, y4, y5, y6⟩ := id yh
    have ya := (oP_S (f := f) (a := b) hu).1.1
    have yb := (oP_S (f := f) (a := b) hu).1.2
    refine v_iload_n dX0_writeCalls_2 rfl (by rfl) ?_
    refine v_aload_n dX0_writeCalls_3 rfl (by rfl) ?_
    refine v_getf hE dX0_writeCalls_4 fX0_24 (by repeat (first | assumption | exact va_up_self _ _ _ | refine (va_up_ne _ _ (by omega)).trans ?_)) (by rfl) ?_
    refine v_iload_n dX0_writeCalls_7 rfl (by rfl) ?_
    refine v_iald hE dX0_writeCalls_8 (by repeat (first | assumption | exact va_up_self _ _ _ | refine (va_up_ne _ _ (by omega)).trans ?_)) (by omega) (by omega) ?_
    refine v_icmp_geN (tgt := 52) dX0_writeCalls_9 (by decide) (by omega) (by omega) (fun c9 => ?_) (fun c9 => ?_)
    · refine v_ret dX0_writeCalls_52 rfl ?_
      refine ⟨rfl, rfl, ?_⟩
      rw [he, show eCn v i - c = 0 by omega]
      rfl
    · refine v_iload_n dX0_writeCalls_12 rfl (by rfl) ?_
      refine v_if_leN (tgt := 36) dX0_writeCalls_13 (by decide) (by omega) (fun c13 => ?_) (fun c13 => ?_)
      · refine v_aload_n dX0_writeCalls_36 rfl (by rfl) ?_
        refine v_aload_n dX0_writeCalls_37 rfl (by rfl) ?_
        refine v_iload_n dX0_writeCalls_38 rfl (by rfl) ?_
        refine v_iload_n dX0_writeCalls_39 rfl (by rfl) ?_
        refine w_callV hE dX0_writeCalls_40 kX0_129 (by repeat (first | assumption | exact va_up_self _ _ _ | refine (va_up_ne _ _ (by omega)).trans ?_)) (by rfl) (by rfl) (sX0_callAt hE (en_oS h hd) hv hi (by omega)) rfl (by decide) (by decide) (by exact Nat.le_of_ble_eq_true rfl) (by omega) (by omega) (fun v9 g9 u9 h9 => ?_) (fun _ _ _ h => by cases h.1)
        obtain ⟨hv, rfl, rfl⟩ := h9
        cases hv
        refine w_callV hE dX0_writeCalls_43 kX0_172 (by repeat (first | assumption | exact va_up_self _ _ _ | refine (va_up_ne _ _ (by omega)).trans ?_)) (by rfl) (by rfl) (sX6_addNumberOrPoint hE (oP_S (by first | exact hu | exact tAdd_le hu)) (eCall_ok hca (by omega))) rfl (by decide) (by decide) (by exact Nat.le_of_ble_eq_true rfl) (by omega) (by omega) (fun v9 g9 u9 h9 => ?_) (fun _ _ _ h => by cases h.1)
        obtain ⟨hv, rfl, rfl⟩ := h9
        cases hv
        refine v_hp oS_S ?_
        refine v_iincN (y := 1) dX0_writeCalls_46 (by rfl) (by decide) (by decide) ?_
        refine v_goto (tgt := 2) dX0_writeCalls_49 (by decide) ?_
        exact ih (d - 1) (by omega) (c + 1) _ (by omega) (tAdds_le (by first | exact hu | exact tAdd_le hu)) (he.trans (by rw [show eCn v i - c = (eCn v i - (c + 1)) + 1 by omega]; show tAdds y ((if 0 < c then [if ePh v i = true then nI 124 else nI 47] else []) ++ _ ++ _) = _; first | (rw [if_neg (by omega)]; rw [← tAdds_app, ← tAdds_app]; rfl) | (rw [if_pos (by omega), c23]; rw [← tAdds_app, ← tAdds_app]; rfl)))
      · refine v_aload_n dX0_writeCalls_16 rfl (by rfl) ?_
        refine v_aload_n dX0_writeCalls_17 rfl (by rfl) ?_
        refine v_getf hE dX0_writeCalls_18 fX0_27 (by repeat (first | assumption | exact va_up_self _ _ _ | refine (va_up_ne _ _ (by omega)).trans ?_)) (by rfl) ?_
        refine v_iload_n dX0_writeCalls_21 rfl (by rfl) ?_
        refine v_zald hE dX0_writeCalls_22 (by repeat (first | assumption | exact va_up_self _ _ _ | refine (va_up_ne _ _ (by omega)).trans ?_)) (by omega) (by omega) ?_
        refine v_if_eqB (tgt := 31) dX0_writeCalls_23 (by decide) (fun c23 => ?_) (fun c23 => ?_)
        · refine v_bipush (v := nI 47) dX0_writeCalls_31 (by decide) ?_
          refine w_callV hE dX0_writeCalls_33 kX0_152 (by repeat (first | assumption | exact va_up_self _ _ _ | refine (va_up_ne _ _ (by omega)).trans ?_)) (by rfl) (by rfl) (uX6_add hE (oP_S hu)) rfl (by decide) (by decide) (by exact Nat.le_of_ble_eq_true rfl) (by omega) (by omega) (fun v9 g9 u9 h9 => ?_) (fun _ _ _ h => by cases h.1)
          obtain ⟨hv, rfl, rfl⟩ := h9
          cases hv
          refine v_hp oS_S ?_
          refine v_aload_n dX0_writeCalls_36 rfl (by rfl) ?_
          refine v_aload_n dX0_writeCalls_37 rfl (by rfl) ?_
          refine v_iload_n dX0_writeCalls_38 rfl (by rfl) ?_
          refine v_iload_n dX0_writeCalls_39 rfl (by rfl) ?_
          refine w_callV hE dX0_writeCalls_40 kX0_129 (by repeat (first | assumption | exact va_up_self _ _ _ | refine (va_up_ne _ _ (by omega)).trans ?_)) (by rfl) (by rfl) (sX0_callAt hE (en_oS h hd) hv hi (by omega)) rfl (by decide) (by decide) (by exact Nat.le_of_ble_eq_true rfl) (by omega) (by omega) (fun v9 g9 u9 h9 => ?_) (fun _ _ _ h => by cases h.1)
          obtain ⟨hv, rfl, rfl⟩ := h9
          cases hv
          refine w_callV hE dX0_writeCalls_43 kX0_172 (by repeat (first | assumption | exact va_up_self _ _ _ | refine (va_up_ne _ _ (by omega)).trans ?_)) (by rfl) (by rfl) (sX6_addNumberOrPoint hE (oP_S (by first | exact hu | exact tAdd_le hu)) (eCall_ok hca (by omega))) rfl (by decide) (by decide) (by exact Nat.le_of_ble_eq_true rfl) (by omega) (by omega) (fun v9 g9 u9 h9 => ?_) (fun _ _ _ h => by cases h.1)
          obtain ⟨hv, rfl, rfl⟩ := h9
          cases hv
          refine v_hp oS_S ?_
          refine v_iincN (y := 1) dX0_writeCalls_46 (by rfl) (by decide) (by decide) ?_
          refine v_goto (tgt := 2) dX0_writeCalls_49 (by decide) ?_
          exact ih (d - 1) (by omega) (c + 1) _ (by omega) (tAdds_le (by first | exact hu | exact tAdd_le hu)) (he.trans (by rw [show eCn v i - c = (eCn v i - (c + 1)) + 1 by omega]; show tAdds y ((if 0 < c then [if ePh v i = true then nI 124 else nI 47] else []) ++ _ ++ _) = _; first | (rw [if_neg (by omega)]; rw [← tAdds_app, ← tAdds_app]; rfl) | (rw [if_pos (by omega), c23]; rw [← tAdds_app, ← tAdds_app]; rfl)))
        · refine v_bipush (v := nI 124) dX0_writeCalls_26 (by decide) ?_
          refine v_goto (tgt := 33) dX0_writeCalls_28 (by decide) ?_
          refine w_callV hE dX0_writeCalls_33 kX0_152 (by repeat (first | assumption | exact va_up_self _ _ _ | refine (va_up_ne _ _ (by omega)).trans ?_)) (by rfl) (by rfl) (uX6_add hE (oP_S hu)) rfl (by decide) (by decide) (by exact Nat.le_of_ble_eq_true rfl) (by omega) (by omega) (fun v9 g9 u9 h9 => ?_) (fun _ _ _ h => by cases h.1)
          obtain ⟨hv, rfl, rfl⟩ := h9
          cases hv
          refine v_hp oS_S ?_
          refine v_aload_n dX0_writeCalls_36 rfl (by rfl) ?_
          refine v_aload_n dX0_writeCalls_37 rfl (by rfl) ?_
          refine v_iload_n dX0_writeCalls_38 rfl (by rfl) ?_
          refine v_iload_n dX0_writeCalls_39 rfl (by rfl) ?_
          refine w_callV hE dX0_writeCalls_40 kX0_129 (by repeat (first | assumption | exact va_up_self _ _ _ | refine (va_up_ne _ _ (by omega)).trans ?_)) (by rfl) (by rfl) (sX0_callAt hE (en_oS h hd) hv hi (by omega)) rfl (by decide) (by decide) (by exact Nat.le_of_ble_eq_true rfl) (by omega) (by omega) (fun v9 g9 u9 h9 => ?_) (fun _ _ _ h => by cases h.1)
          obtain ⟨hv, rfl, rfl⟩ := h9
          cases hv
          refine w_callV hE dX0_writeCalls_43 kX0_172 (by repeat (first | assumption | exact va_up_self _ _ _ | refine (va_up_ne _ _ (by omega)).trans ?_)) (by rfl) (by rfl) (sX6_addNumberOrPoint hE (oP_S (by first | exact hu | exact tAdd_le hu)) (eCall_ok hca (by omega))) rfl (by decide) (by decide) (by exact Nat.le_of_ble_eq_true rfl) (by omega) (by omega) (fun v9 g9 u9 h9 => ?_) (fun _ _ _ h => by cases h.1)
          obtain ⟨hv, rfl, rfl⟩ := h9
          cases hv
          refine v_hp oS_S ?_
          refine v_iincN (y := 1) dX0_writeCalls_46 (by rfl) (by decide) (by decide) ?_
          refine v_goto (tgt := 2) dX0_writeCalls_49 (by decide) ?_
          exact ih (d - 1) (by omega) (c + 1) _ (by omega) (tAdds_le (by first | exact hu | exact tAdd_le hu)) (he.trans (by rw [show eCn v i - c = (eCn v i - (c + 1)) + 1 by omega]; show tAdds y ((if 0 < c then [if ePh v i = true then nI 124 else nI 47] else []) ++ _ ++ _) = _; first | (rw [if_neg (by omega)]; rw [← tAdds_app, ← tAdds_app]; rfl) | (rw [if_pos (by omega), c23]; rw [← tAdds_app, ← tAdds_app]; rfl)))
  refine v_iconst (v := nI 0) dX0_writeCalls_0 (by decide) ?_
  refine v_istore_n dX0_writeCalls_1 rfl (by decide) ?_
  refine v_hp (oS_id hb).symm ?_
  exact lp (eCn v i) 0 u (by omega) hb.2 rfl
