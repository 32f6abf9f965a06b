def tNumP (x : Int32) : List Int32 := if x = -1 then [nI 46] else tNumber x.toNatClampNeg
theorem nI_m1 {v : Nat} (h : v < 2 ^ 31) : ¬ nI v = -1 := fun q => by
  have h1 := congrArg Int32.toInt q
  rw [nI_toInt h] at h1
  have h2 : (-1 : Int32).toInt = -1 := by decide
  omega

set_option maxRecDepth 100000 in
set_option maxHeartbeats 4000000 in
/-- Octets.addNumberOrPoint(x) -/
theorem sX6_addNumberOrPoint {E : eN} (hE : eOk E) {f : aH} {t : Nat} {a : Nat} {s : tS} {x : Int32} (h : oP f a s) (hx : x = -1 ∨ ∃ v : Nat, v < 2 ^ 29 ∧ x = nI v) : mT E mX6_addNumberOrPoint 0 0 [.ref a, .int x] f t (fun o f' t' => o = .inl none ∧ t' = t ∧ f' = oS f a (tAdds s (tNumP x))) := by
  refine mT_of (n := 0) (lo := [some (.ref a), some (.int x)]) (by decide) (by exact Nat.le_of_ble_eq_true rfl) rfl rfl ?_
  obtain ⟨⟨h1, h2⟩, h3⟩ := id h
  refine v_iload_n dX6_addNumberOrPoint_0 rfl (by rfl) ?_
  refine v_iconst (v := (-1)) dX6_addNumberOrPoint_1 (by decide) ?_
  refine v_icmp_ne (tgt := 14) dX6_addNumberOrPoint_2 (by decide) (fun c2 => ?_) (fun c2 => ?_)
  · obtain ⟨v, hv, rfl⟩ := hx.resolve_left c2
    refine v_aload_n dX6_addNumberOrPoint_14 rfl (by rfl) ?_
    refine v_iload_n dX6_addNumberOrPoint_15 rfl (by rfl) ?_
    refine w_callV hE dX6_addNumberOrPoint_16 kX6_44 (by repeat (first | assumption | exact va_up_self _ _ _ | refine (va_up_ne _ _ (by omega)).trans ?_)) (by rfl) (by rfl) (sX6_addNumber hE h hv) rfl (by decide) (by decide) (by exact Nat.le_of_ble_eq_true rfl) (by omega) (by omega) (fun v9 g9 u9 h9 => ?_) (fun _ _ _ h => by cases h.1)
    obtain ⟨hv, rfl, rfl⟩ := h9
    cases hv
    refine v_ret dX6_addNumberOrPoint_19 rfl ?_
    refine ⟨rfl, rfl, ?_⟩
    unfold tNumP
    first | (rw [if_pos c2]; rfl) | (rw [if_neg (nI_m1 (by omega)), nI_clamp (by omega)])
  · refine v_aload_n dX6_addNumberOrPoint_5 rfl (by rfl) ?_
    refine v_bipush (v := nI 46) dX6_addNumberOrPoint_6 (by decide) ?_
    refine w_callV hE dX6_addNumberOrPoint_8 kX6_33 (by repeat (first | assumption | exact va_up_self _ _ _ | refine (va_up_ne _ _ (by omega)).trans ?_)) (by rfl) (by rfl) (uX6_add hE h) rfl (by decide) (by decide) (by exact Nat.le_of_ble_eq_true rfl) (by omega) (by omega) (fun v9 g9 u9 h9 => ?_) (fun _ _ _ h => by cases h.1)
    obtain ⟨hv, rfl, rfl⟩ := h9
    cases hv
    refine v_goto (tgt := 19) dX6_addNumberOrPoint_11 (by decide) ?_
    refine v_ret dX6_addNumberOrPoint_19 rfl ?_
    refine ⟨rfl, rfl, ?_⟩
    unfold tNumP
    first | (rw [if_pos c2]; rfl) | (rw [if_neg (nI_m1 (by omega)), nI_clamp (by omega)])

set_option maxRecDepth 100000 in
set_option maxHeartbeats 4000000 in
/-- Octets.copyFrom(other) -/
theorem sX6_copyFrom {E : eN} (hE : eOk E) {f : aH} {t : Nat} {a b : Nat} {s u : tS} (h : oP f a s) (hb : oP f b u) (d1 : b + 1 < a ∨ a + 1 < b) : mT E mX6_copyFrom 0 0 [.ref a, .ref b] f t (fun o f' t' => o = .inl none ∧ t' = t ∧ f' = oS f a (u.1, va_cpy u.2.1 s.2.1 0 0 u.1, 0)) := by
  refine mT_of (n := 0) (lo := [some (.ref a), some (.ref b)]) (by decide) (by exact Nat.le_of_ble_eq_true rfl) rfl rfl ?_
  obtain ⟨⟨h1, h2⟩, h3⟩ := id h
  obtain ⟨⟨k1, k2⟩, k3⟩ := id hb
  refine v_aload_n dX6_copyFrom_0 rfl (by rfl) ?_
  refine v_aload_n dX6_copyFrom_1 rfl (by rfl) ?_
  refine v_getf hE dX6_copyFrom_2 fX6_15 (by repeat (first | assumption | exact va_up_self _ _ _ | refine (va_up_ne _ _ (by omega)).trans ?_)) (by rfl) ?_
  refine v_putf hE dX6_copyFrom_5 fX6_15 (by repeat (first | assumption | exact va_up_self _ _ _ | refine (va_up_ne _ _ (by omega)).trans ?_)) (by exact Nat.le_of_ble_eq_true rfl) (by rfl) (by rfl) (by rfl) ?_
  refine v_aload_n dX6_copyFrom_8 rfl (by rfl) ?_
  refine v_iconst (v := nI 0) dX6_copyFrom_9 (by decide) ?_
  refine v_putf hE dX6_copyFrom_10 fX6_19 (by repeat (first | assumption | exact va_up_self _ _ _ | refine (va_up_ne _ _ (by omega)).trans ?_)) (by exact Nat.le_of_ble_eq_true rfl) (by rfl) (by rfl) (by rfl) ?_
  refine v_aload_n dX6_copyFrom_13 rfl (by rfl) ?_
  refine v_getf hE dX6_copyFrom_14 fX6_9 (by repeat (first | assumption | exact va_up_self _ _ _ | refine (va_up_ne _ _ (by omega)).trans ?_)) (by rfl) ?_
  refine v_iconst (v := nI 0) dX6_copyFrom_17 (by decide) ?_
  refine v_aload_n dX6_copyFrom_18 rfl (by rfl) ?_
  refine v_getf hE dX6_copyFrom_19 fX6_9 (by repeat (first | assumption | exact va_up_self _ _ _ | refine (va_up_ne _ _ (by omega)).trans ?_)) (by rfl) ?_
  refine v_iconst (v := nI 0) dX6_copyFrom_22 (by decide) ?_
  refine v_aload_n dX6_copyFrom_23 rfl (by rfl) ?_
  refine v_getf hE dX6_copyFrom_24 fX6_15 (by repeat (first | assumption | exact va_up_self _ _ _ | refine (va_up_ne _ _ (by omega)).trans ?_)) (by rfl) ?_
  refine v_acopy hE dX6_copyFrom_27 aX6_55 (by decide) (by exact Nat.le_of_ble_eq_true rfl) (by repeat (first | assumption | exact va_up_self _ _ _ | refine (va_up_ne _ _ (by omega)).trans ?_)) (by repeat (first | assumption | exact va_up_self _ _ _ | refine (va_up_ne _ _ (by omega)).trans ?_)) (by omega) (by omega) (by omega) (by omega) (by omega) ?_
  refine v_ret dX6_copyFrom_30 rfl ?_
  exact ⟨rfl, rfl, oc_ext (by repeat (first | assumption | exact va_up_self _ _ _ | refine (va_up_ne _ _ (by omega)).trans ?_)) (by repeat (first | assumption | exact va_up_self _ _ _ | refine (va_up_ne _ _ (by omega)).trans ?_)) (fun b h1 h2 => by simp only [va_up, h1, h2, if_false])⟩

/-- the number that goes on with the d octets from k on, v so far -/
def tNumL (s : tS) (L : Nat) : Nat → Nat → Nat → Int32
  | 0, _, v => nI v
  | d + 1, k, v => if ocAt s.1 s.2.1 (nI k) < nI 48 ∨ nI 57 < ocAt s.1 s.2.1 (nI k) then -1 else if L < v * 10 + (ocAt s.1 s.2.1 (nI k)).toNatClampNeg - 48 then -1 else tNumL s L d (k + 1) (v * 10 + (ocAt s.1 s.2.1 (nI k)).toNatClampNeg - 48)
def tNum (s : tS) (i j L : Nat) : Int32 := if j ≤ i ∨ (1 < j - i ∧ ocAt s.1 s.2.1 (nI i) = nI 48) then -1 else tNumL s L (j - i) i 0
theorem dig_of {x : Int32} (h1 : ¬ x < nI 48) (h2 : x ≤ nI 57) : ∃ e : Nat, 48 ≤ e ∧ e ≤ 57 ∧ x = nI e := by
  have h0 : ¬ x < 0 := fun q => h1 (Int32.lt_trans q (by decide))
  obtain ⟨e, he, rfl⟩ := nI_of h0
  refine ⟨e, ?_, ?_, rfl⟩
  · exact Nat.not_lt.mp (fun q => h1 ((nI_ltI he (by decide)).mpr q))
  · exact (nI_leI he (by decide)).mp h2

set_option maxRecDepth 100000 in
set_option maxHeartbeats 4000000 in
/-- Octets.numberAt(i, j, L) -/
theorem sX6_numberAt {E : eN} (hE : eOk E) {f : aH} {t : Nat} {a i j L : Nat} {s : tS} (h : oP f a s) (hi : i < 2 ^ 29) (hj : j < 2 ^ 29) (hL : L < 10000000) : mT E mX6_numberAt 0 0 [.ref a, .int (nI i), .int (nI j), .int (nI L)] f t (fun o f' t' => o = .inl (some (.int (tNum s i j L))) ∧ t' = t ∧ f' = f) := by
  refine mT_of (n := 3) (lo := [some (.ref a), some (.int (nI i)), some (.int (nI j)), some (.int (nI L)), none, none, none]) (by decide) (by exact Nat.le_of_ble_eq_true rfl) rfl rfl ?_
  obtain ⟨⟨h1, h2⟩, h3⟩ := id h
  have lp : ∀ (d : Nat) (k v : Nat) (w6 : Option Value), k + d = j → v ≤ L → tNum s i j L = tNumL s L (j - k) k v → V E mX6_numberAt 0 0 (fun o f' t' => o = .inl (some (.int (tNum s i j L))) ∧ t' = t ∧ f' = f) 30 [some (.ref a), some (.int (nI i)), some (.int (nI j)), some (.int (nI L)), some (.int (nI v)), some (.int (nI k)), w6] [] f t 0 0 := by
    intro d
    induction d using Nat.strongRecOn with
    | _ d ih =>
    intro k v w6 hk hv he
    refine v_iload dX6_numberAt_30 (by rfl) ?_
    refine v_iload_n dX6_numberAt_32 rfl (by rfl) ?_
    refine v_icmp_geN (tgt := 87) dX6_numberAt_33 (by decide) (by omega) (by omega) (fun c33 => ?_) (fun c33 => ?_)
    · refine v_iload dX6_numberAt_87 (by rfl) ?_
      refine v_iret dX6_numberAt_89 rfl (by rfl) ?_
      refine ⟨congrArg (fun x => (Sum.inl (some (Value.int x)) : aO)) ?_, rfl, rfl⟩
      rw [he]
      first | (rw [show j - k = 0 by omega]; rfl) | (rw [show j - k = (j - (k + 1)) + 1 by omega]; show _ = (if _ then _ else if _ then _ else _); first | (rw [if_pos (Or.inl c48)]; done) | (rw [if_pos (Or.inr (Int32.not_le.mp c55))]; done) | (rw [if_neg (fun q => q.elim c48 (fun z => Int32.not_lt.mpr c55 z)), hx, nI_clamp (by omega), if_pos (by omega)]; done))
    · refine v_aload_n dX6_numberAt_36 rfl (by rfl) ?_
      refine v_iload dX6_numberAt_37 (by rfl) ?_
      refine w_callV hE dX6_numberAt_39 kX6_51 (by repeat (first | assumption | exact va_up_self _ _ _ | refine (va_up_ne _ _ (by omega)).trans ?_)) (by rfl) (by rfl) (sX6_at hE h.1 h.2) rfl (by decide) (by decide) (by exact Nat.le_of_ble_eq_true rfl) (by omega) (by omega) (fun v9 g9 u9 h9 => ?_) (fun _ _ _ h => by cases h.1)
      obtain ⟨hv, rfl, rfl⟩ := h9
      cases hv
      refine v_istore dX6_numberAt_42 (by decide) ?_
      refine v_iload dX6_numberAt_44 (by rfl) ?_
      refine v_bipush (v := nI 48) dX6_numberAt_46 (by decide) ?_
      refine v_icmp_lt (tgt := 58) dX6_numberAt_48 (by decide) (fun c48 => ?_) (fun c48 => ?_)
      · refine v_iconst (v := (-1)) dX6_numberAt_58 (by decide) ?_
        refine v_iret dX6_numberAt_59 rfl (by rfl) ?_
        refine ⟨congrArg (fun x => (Sum.inl (some (Value.int x)) : aO)) ?_, rfl, rfl⟩
        rw [he]
        first | (rw [show j - k = 0 by omega]; rfl) | (rw [show j - k = (j - (k + 1)) + 1 by omega]; show _ = (if _ then _ else if _ then _ else _); first | (rw [if_pos (Or.inl c48)]; done) | (rw [if_pos (Or.inr (Int32.not_le.mp c55))]; done) | (rw [if_neg (fun q => q.elim c48 (fun z => Int32.not_lt.mpr c55 z)), hx, nI_clamp (by omega), if_pos (by omega)]; done))
      · refine v_iload dX6_numberAt_51 (by rfl) ?_
        refine v_bipush (v := nI 57) dX6_numberAt_53 (by decide) ?_
        refine v_icmp_le (tgt := 60) dX6_numberAt_55 (by decide) (fun c55 => ?_) (fun c55 => ?_)
        · obtain ⟨e, he1, he2, hx⟩ := dig_of c48 c55
          refine v_lo (lo2 := [some (.ref a), some (.int (nI i)), some (.int (nI j)), some (.int (nI L)), some (.int (nI v)), some (.int (nI k)), some (.int (nI e))]) (by show [some (Value.ref a), _, _, _, _, _, some (Value.int (ocAt s.1 s.2.1 (nI k)))] = _; rw [hx]) ?_
          refine v_iload dX6_numberAt_60 (by rfl) ?_
          refine v_bipush (v := nI 10) dX6_numberAt_62 (by decide) ?_
          refine v_imulN dX6_numberAt_64 ?_
          refine v_iload dX6_numberAt_65 (by rfl) ?_
          refine v_iaddN dX6_numberAt_67 ?_
          refine v_bipush (v := nI 48) dX6_numberAt_68 (by decide) ?_
          refine v_isubN dX6_numberAt_70 (by omega) ?_
          refine v_istore dX6_numberAt_71 (by decide) ?_
          refine v_iload dX6_numberAt_73 (by rfl) ?_
          refine v_iload_n dX6_numberAt_75 rfl (by rfl) ?_
          refine v_icmp_leN (tgt := 81) dX6_numberAt_76 (by decide) (by omega) (by omega) (fun c76 => ?_) (fun c76 => ?_)
          · refine v_iincN (y := 1) dX6_numberAt_81 (by rfl) (by decide) (by decide) ?_
            refine v_goto (tgt := 30) dX6_numberAt_84 (by decide) ?_
            exact ih (d - 1) (by omega) (k + 1) (v * 10 + e - 48) _ (by omega) (by omega) (he.trans (by rw [show j - k = (j - (k + 1)) + 1 by omega]; show (if _ then _ else if _ then _ else _) = _; rw [if_neg (fun q => q.elim c48 (fun z => Int32.not_lt.mpr c55 z)), hx, nI_clamp (by omega), if_neg (by omega)]))
          · refine v_iconst (v := (-1)) dX6_numberAt_79 (by decide) ?_
            refine v_iret dX6_numberAt_80 rfl (by rfl) ?_
            refine ⟨congrArg (fun x => (Sum.inl (some (Value.int x)) : aO)) ?_, rfl, rfl⟩
            rw [he]
            first | (rw [show j - k = 0 by omega]; rfl) | (rw [show j - k = (j - (k + 1)) + 1 by omega]; show _ = (if _ then _ else if _ then _ else _); first | (rw [if_pos (Or.inl c48)]; done) | (rw [if_pos (Or.inr (Int32.not_le.mp c55))]; done) | (rw [if_neg (fun q => q.elim c48 (fun z => Int32.not_lt.mpr c55 z)), hx, nI_clamp (by omega), if_pos (by omega)]; done))
        · refine v_iconst (v := (-1)) dX6_numberAt_58 (by decide) ?_
          refine v_iret dX6_numberAt_59 rfl (by rfl) ?_
          refine ⟨congrArg (fun x => (Sum.inl (some (Value.int x)) : aO)) ?_, rfl, rfl⟩
          rw [he]
          first | (rw [show j - k = 0 by omega]; rfl) | (rw [show j - k = (j - (k + 1)) + 1 by omega]; show _ = (if _ then _ else if _ then _ else _); first | (rw [if_pos (Or.inl c48)]; done) | (rw [if_pos (Or.inr (Int32.not_le.mp c55))]; done) | (rw [if_neg (fun q => q.elim c48 (fun z => Int32.not_lt.mpr c55 z)), hx, nI_clamp (by omega), if_pos (by omega)]; done))
  refine v_iload_n dX6_numberAt_0 rfl (by rfl) ?_
  refine v_iload_n dX6_numberAt_1 rfl (by rfl) ?_
  refine v_icmp_leN (tgt := 22) dX6_numberAt_2 (by decide) (by omega) (by omega) (fun c2 => ?_) (fun c2 => ?_)
  · refine v_iconst (v := (-1)) dX6_numberAt_22 (by decide) ?_
    refine v_iret dX6_numberAt_23 rfl (by rfl) ?_
    refine ⟨congrArg (fun x => (Sum.inl (some (Value.int x)) : aO)) ?_, rfl, rfl⟩
    unfold tNum
    rw [if_pos (by first | exact Or.inl (by omega) | exact Or.inr ⟨by omega, c19⟩)]
  · refine v_iload_n dX6_numberAt_5 rfl (by rfl) ?_
    refine v_iload_n dX6_numberAt_6 rfl (by rfl) ?_
    refine v_isubN dX6_numberAt_7 (by omega) ?_
    refine v_iconst (v := nI 1) dX6_numberAt_8 (by decide) ?_
    refine v_icmp_leN (tgt := 24) dX6_numberAt_9 (by decide) (by omega) (by omega) (fun c9 => ?_) (fun c9 => ?_)
    · refine v_iconst (v := nI 0) dX6_numberAt_24 (by decide) ?_
      refine v_istore dX6_numberAt_25 (by decide) ?_
      refine v_iload_n dX6_numberAt_27 rfl (by rfl) ?_
      refine v_istore dX6_numberAt_28 (by decide) ?_
      exact lp (j - i) i 0 none (by omega) (by omega) (by unfold tNum; rw [if_neg (fun q => by rcases q with q | q <;> first | omega | exact c19 q.2)])
    · refine v_aload_n dX6_numberAt_12 rfl (by rfl) ?_
      refine v_iload_n dX6_numberAt_13 rfl (by rfl) ?_
      refine w_callV hE dX6_numberAt_14 kX6_51 (by repeat (first | assumption | exact va_up_self _ _ _ | refine (va_up_ne _ _ (by omega)).trans ?_)) (by rfl) (by rfl) (sX6_at hE h.1 h.2) rfl (by decide) (by decide) (by exact Nat.le_of_ble_eq_true rfl) (by omega) (by omega) (fun v9 g9 u9 h9 => ?_) (fun _ _ _ h => by cases h.1)
      obtain ⟨hv, rfl, rfl⟩ := h9
      cases hv
      refine v_bipush (v := nI 48) dX6_numberAt_17 (by decide) ?_
      refine v_icmp_ne (tgt := 24) dX6_numberAt_19 (by decide) (fun c19 => ?_) (fun c19 => ?_)
      · refine v_iconst (v := nI 0) dX6_numberAt_24 (by decide) ?_
        refine v_istore dX6_numberAt_25 (by decide) ?_
        refine v_iload_n dX6_numberAt_27 rfl (by rfl) ?_
        refine v_istore dX6_numberAt_28 (by decide) ?_
        exact lp (j - i) i 0 none (by omega) (by omega) (by unfold tNum; rw [if_neg (fun q => by rcases q with q | q <;> first | omega | exact c19 q.2)])
      · refine v_iconst (v := (-1)) dX6_numberAt_22 (by decide) ?_
        refine v_iret dX6_numberAt_23 rfl (by rfl) ?_
        refine ⟨congrArg (fun x => (Sum.inl (some (Value.int x)) : aO)) ?_, rfl, rfl⟩
        unfold tNum
        rw [if_pos (by first | exact Or.inl (by omega) | exact Or.inr ⟨by omega, c19⟩)]
