/-- the letter that an octet is read as, or -1 -/
def ltr (x : Int32) : Int32 := if x = nI 65 then nI 65 else if x = nI 67 then nI 67 else if x = nI 71 then nI 71 else if x = nI 78 then nI 78 else if x = nI 84 then nI 84 else if x = nI 97 then nI 65 else if x = nI 99 then nI 67 else if x = nI 103 then nI 71 else if x = nI 110 then nI 78 else if x = nI 116 then nI 84 else -1
set_option maxRecDepth 100000 in
set_option maxHeartbeats 4000000 in
/-- letterOf -/
theorem sX9_letterOf {E : eN} (hE : eOk E) {f : aH} {t : Nat} {x : Int32}  : mT E mX9_letterOf 0 0 [.int x] f t (fun o f' t' => o = .inl (some (.int (ltr x))) ∧ t' = t ∧ f' = f) := by
  refine mT_of (n := 0) (lo := [some (.int x)]) (by decide) (by exact Nat.le_of_ble_eq_true rfl) rfl rfl ?_
  by_cases e65 : x = nI 65
  · subst e65
    refine v_iload_n dX9_letterOf_0 rfl (by rfl) ?_
    refine v_lookup (off := 91) (tgt := 92) dX9_letterOf_1 (by decide) (by decide) (by decide) ?_
    refine v_bipush (v := nI 65) dX9_letterOf_92 (by decide) ?_
    refine v_iret dX9_letterOf_94 rfl (by rfl) ?_
    exact ⟨congrArg (fun x => (Sum.inl (some (Value.int x)) : aO)) (by decide), rfl, rfl⟩
  by_cases e67 : x = nI 67
  · subst e67
    refine v_iload_n dX9_letterOf_0 rfl (by rfl) ?_
    refine v_lookup (off := 94) (tgt := 95) dX9_letterOf_1 (by decide) (by decide) (by decide) ?_
    refine v_bipush (v := nI 67) dX9_letterOf_95 (by decide) ?_
    refine v_iret dX9_letterOf_97 rfl (by rfl) ?_
    exact ⟨congrArg (fun x => (Sum.inl (some (Value.int x)) : aO)) (by decide), rfl, rfl⟩
  by_cases e71 : x = nI 71
  · subst e71
    refine v_iload_n dX9_letterOf_0 rfl (by rfl) ?_
    refine v_lookup (off := 97) (tgt := 98) dX9_letterOf_1 (by decide) (by decide) (by decide) ?_
    refine v_bipush (v := nI 71) dX9_letterOf_98 (by decide) ?_
    refine v_iret dX9_letterOf_100 rfl (by rfl) ?_
    exact ⟨congrArg (fun x => (Sum.inl (some (Value.int x)) : aO)) (by decide), rfl, rfl⟩
  by_cases e78 : x = nI 78
  · subst e78
    refine v_iload_n dX9_letterOf_0 rfl (by rfl) ?_
    refine v_lookup (off := 103) (tgt := 104) dX9_letterOf_1 (by decide) (by decide) (by decide) ?_
    refine v_bipush (v := nI 78) dX9_letterOf_104 (by decide) ?_
    refine v_iret dX9_letterOf_106 rfl (by rfl) ?_
    exact ⟨congrArg (fun x => (Sum.inl (some (Value.int x)) : aO)) (by decide), rfl, rfl⟩
  by_cases e84 : x = nI 84
  · subst e84
    refine v_iload_n dX9_letterOf_0 rfl (by rfl) ?_
    refine v_lookup (off := 100) (tgt := 101) dX9_letterOf_1 (by decide) (by decide) (by decide) ?_
    refine v_bipush (v := nI 84) dX9_letterOf_101 (by decide) ?_
    refine v_iret dX9_letterOf_103 rfl (by rfl) ?_
    exact ⟨congrArg (fun x => (Sum.inl (some (Value.int x)) : aO)) (by decide), rfl, rfl⟩
  by_cases e97 : x = nI 97
  · subst e97
    refine v_iload_n dX9_letterOf_0 rfl (by rfl) ?_
    refine v_lookup (off := 91) (tgt := 92) dX9_letterOf_1 (by decide) (by decide) (by decide) ?_
    refine v_bipush (v := nI 65) dX9_letterOf_92 (by decide) ?_
    refine v_iret dX9_letterOf_94 rfl (by rfl) ?_
    exact ⟨congrArg (fun x => (Sum.inl (some (Value.int x)) : aO)) (by decide), rfl, rfl⟩
  by_cases e99 : x = nI 99
  · subst e99
    refine v_iload_n dX9_letterOf_0 rfl (by rfl) ?_
    refine v_lookup (off := 94) (tgt := 95) dX9_letterOf_1 (by decide) (by decide) (by decide) ?_
    refine v_bipush (v := nI 67) dX9_letterOf_95 (by decide) ?_
    refine v_iret dX9_letterOf_97 rfl (by rfl) ?_
    exact ⟨congrArg (fun x => (Sum.inl (some (Value.int x)) : aO)) (by decide), rfl, rfl⟩
  by_cases e103 : x = nI 103
  · subst e103
    refine v_iload_n dX9_letterOf_0 rfl (by rfl) ?_
    refine v_lookup (off := 97) (tgt := 98) dX9_letterOf_1 (by decide) (by decide) (by decide) ?_
    refine v_bipush (v := nI 71) dX9_letterOf_98 (by decide) ?_
    refine v_iret dX9_letterOf_100 rfl (by rfl) ?_
    exact ⟨congrArg (fun x => (Sum.inl (some (Value.int x)) : aO)) (by decide), rfl, rfl⟩
  by_cases e110 : x = nI 110
  · subst e110
    refine v_iload_n dX9_letterOf_0 rfl (by rfl) ?_
    refine v_lookup (off := 103) (tgt := 104) dX9_letterOf_1 (by decide) (by decide) (by decide) ?_
    refine v_bipush (v := nI 78) dX9_letterOf_104 (by decide) ?_
    refine v_iret dX9_letterOf_106 rfl (by rfl) ?_
    exact ⟨congrArg (fun x => (Sum.inl (some (Value.int x)) : aO)) (by decide), rfl, rfl⟩
  by_cases e116 : x = nI 116
  · subst e116
    refine v_iload_n dX9_letterOf_0 rfl (by rfl) ?_
    refine v_lookup (off := 100) (tgt := 101) dX9_letterOf_1 (by decide) (by decide) (by decide) ?_
    refine v_bipush (v := nI 84) dX9_letterOf_101 (by decide) ?_
    refine v_iret dX9_letterOf_103 rfl (by rfl) ?_
    exact ⟨congrArg (fun x => (Sum.inl (some (Value.int x)) : aO)) (by decide), rfl, rfl⟩
  refine v_iload_n dX9_letterOf_0 rfl (by rfl) ?_
  refine v_lookup (off := 106) (tgt := 107) dX9_letterOf_1 (by decide) (by show Op.lookupswitch.offset [(65, 91), (67, 94), (71, 97), (78, 103), (84, 100), (97, 91), (99, 94), (103, 97), (110, 103), (116, 100)] 106 x.toInt = 106; rw [lv_osw e65 (by decide), lv_osw e67 (by decide), lv_osw e71 (by decide), lv_osw e78 (by decide), lv_osw e84 (by decide), lv_osw e97 (by decide), lv_osw e99 (by decide), lv_osw e103 (by decide), lv_osw e110 (by decide), lv_osw e116 (by decide)]; rfl) (by decide) ?_
  refine v_iconst (v := (-1)) dX9_letterOf_107 (by decide) ?_
  refine v_iret dX9_letterOf_108 rfl (by rfl) ?_
  exact ⟨congrArg (fun x => (Sum.inl (some (Value.int x)) : aO)) (by unfold ltr; rw [if_neg e65]; rw [if_neg e67]; rw [if_neg e71]; rw [if_neg e78]; rw [if_neg e84]; rw [if_neg e97]; rw [if_neg e99]; rw [if_neg e103]; rw [if_neg e110]; rw [if_neg e116]), rfl, rfl⟩

abbrev rV : Type := Nat × Nat × Nat × Nat × Nat × Nat × Nat × Nat × Nat
abbrev rSt (v : rV) : Nat := v.1
abbrev rAt (v : rV) : Nat := v.2.1
abbrev rNs (v : rV) : Nat := v.2.2.1
abbrev rNt (v : rV) : Nat := v.2.2.2.1
abbrev rWi (v : rV) : Nat := v.2.2.2.2.1
abbrev rLs (v : rV) : Nat := v.2.2.2.2.2.1
abbrev rLl (v : rV) : Nat := v.2.2.2.2.2.2.1
abbrev rFa (v : rV) : Nat := v.2.2.2.2.2.2.2.1
abbrev rFp (v : rV) : Nat := v.2.2.2.2.2.2.2.2
abbrev pSt (v : rV) (x : Nat) : rV := (x, v.2)
abbrev pAt (v : rV) (x : Nat) : rV := (v.1, x, v.2.2)
abbrev pNs (v : rV) (x : Nat) : rV := (v.1, v.2.1, x, v.2.2.2)
abbrev pNt (v : rV) (x : Nat) : rV := (v.1, v.2.1, v.2.2.1, x, v.2.2.2.2)
abbrev pWi (v : rV) (x : Nat) : rV := (v.1, v.2.1, v.2.2.1, v.2.2.2.1, x, v.2.2.2.2.2)
abbrev pLs (v : rV) (x : Nat) : rV := (v.1, v.2.1, v.2.2.1, v.2.2.2.1, v.2.2.2.2.1, x, v.2.2.2.2.2.2)
abbrev pLl (v : rV) (x : Nat) : rV := (v.1, v.2.1, v.2.2.1, v.2.2.2.1, v.2.2.2.2.1, v.2.2.2.2.2.1, x, v.2.2.2.2.2.2.2)
abbrev pFa (v : rV) (x : Nat) : rV := (v.1, v.2.1, v.2.2.1, v.2.2.2.1, v.2.2.2.2.1, v.2.2.2.2.2.1, v.2.2.2.2.2.2.1, x, v.2.2.2.2.2.2.2.2)
abbrev pFp (v : rV) (x : Nat) : rV := (v.1, v.2.1, v.2.2.1, v.2.2.2.1, v.2.2.2.2.1, v.2.2.2.2.2.1, v.2.2.2.2.2.2.1, v.2.2.2.2.2.2.2.1, x)
abbrev rC (tp c : Nat) (v : rV) : aC := .inr (2, [.ref tp, .ref c, .int (nI (rSt v)), .int (nI (rAt v)), .int (nI (rNs v)), .int (nI (rNt v)), .int (nI (rWi v)), .int (nI (rLs v)), .int (nI (rLl v)), .int (nI (rFa v)), .int (nI (rFp v))])
def rgP (tp c : Nat) (f : aH) (a : Nat) (v : rV) (g : gV) : Prop := f a = rC tp c v ∧ gnP f c g
def rgS (tp c : Nat) (f : aH) (a : Nat) (v : rV) (g : gV) : aH := va_up (gnS f c g) a (rC tp c v)
theorem rgP_S {tp c : Nat} {f : aH} {a : Nat} {v : rV} {g : gV} (hd : a < c ∨ c + 8 < a) : rgP tp c (rgS tp c f a v g) a v g := by
  obtain ⟨h0, h1, h2, h3, h4, h5, h6, h7, h8⟩ := gnP_S f c g
  refine ⟨va_up_self _ _ _, ?_, ?_, ?_, ?_, ?_, ?_, ?_, ?_, ?_⟩ <;> (unfold rgS; rw [va_up_ne _ _ (by omega)]; assumption)
theorem rgS_ne {tp c : Nat} {f : aH} {a b : Nat} {v : rV} {g : gV} (h1 : b ≠ a) (h2 : b < c ∨ c + 8 < b) : rgS tp c f a v g b = f b := (va_up_ne _ _ h1).trans (gnS_ne h2)
theorem rgS_ext {tp c : Nat} {f f' : aH} {a : Nat} {v : rV} {g : gV} (hd : a < c ∨ c + 8 < a) (h : f' a = rC tp c v) (hg : gnP f' c g) (hne : ∀ b, b ≠ a → (b < c ∨ c + 8 < b) → f' b = f b) : f' = rgS tp c f a v g := by
  funext b
  by_cases e : b = a
  · rw [e, h]; exact (va_up_self _ _ _).symm
  · unfold rgS
    rw [va_up_ne _ _ e]
    by_cases hb : b < c ∨ c + 8 < b
    · rw [hne b e hb, gnS_ne hb]
    · obtain ⟨h0, h1, h2, h3, h4, h5, h6, h7, h8⟩ := hg
      obtain ⟨e0, e1, e2, e3, e4, e5, e6, e7, e8⟩ := gnP_S f c g
      rcases (show b = c ∨ b = c + 1 ∨ b = c + 2 ∨ b = c + 3 ∨ b = c + 4 ∨ b = c + 5 ∨ b = c + 6 ∨ b = c + 7 ∨ b = c + 8 by omega) with q | q | q | q | q | q | q | q | q <;> rw [q]
      · rw [h0, e0]
      · rw [h1, e1]
      · rw [h2, e2]
      · rw [h3, e3]
      · rw [h4, e4]
      · rw [h5, e5]
      · rw [h6, e6]
      · rw [h7, e7]
      · rw [h8, e8]
theorem rgS_S {tp c : Nat} {f : aH} {a : Nat} {v w : rV} {g k : gV} (hd : a < c ∨ c + 8 < a) : rgS tp c (rgS tp c f a v g) a w k = rgS tp c f a w k := rgS_ext hd (rgP_S hd).1 (rgP_S hd).2 (fun b h1 h2 => by rw [rgS_ne h1 h2, rgS_ne h1 h2])
theorem rgS_id {tp c : Nat} {f : aH} {a : Nat} {v : rV} {g : gV} (hd : a < c ∨ c + 8 < a) (h : rgP tp c f a v g) : rgS tp c f a v g = f := (rgS_ext hd h.1 h.2 (fun _ _ _ => rfl)).symm
/-- only the reader's own cell changed -/
theorem rg_v {tp c : Nat} {f : aH} {a : Nat} {v w : rV} {g : gV} (hd : a < c ∨ c + 8 < a) (h : rgP tp c f a v g) : va_up f a (rC tp c w) = rgS tp c f a w g := by
  obtain ⟨q, h0, h1, h2, h3, h4, h5, h6, h7, h8⟩ := h
  refine rgS_ext hd (va_up_self _ _ _) ⟨?_, ?_, ?_, ?_, ?_, ?_, ?_, ?_, ?_⟩ (fun b h1 _ => va_up_ne _ _ h1) <;> (rw [va_up_ne _ _ (by omega)]; assumption)
/-- only the genome changed -/
theorem rg_g {tp c : Nat} {f : aH} {a : Nat} {v : rV} {g k : gV} (hd : a < c ∨ c + 8 < a) (h : rgP tp c f a v g) : gnS f c k = rgS tp c f a v k := rgS_ext hd ((gnS_ne hd).trans h.1) (gnP_S f c k) (fun b _ h2 => gnS_ne h2)
def rB (v : rV) : Prop := rSt v < 2 ^ 28 ∧ rAt v < 2 ^ 28 ∧ rNs v < 2 ^ 28 ∧ rNt v < 2 ^ 28 ∧ rWi v < 2 ^ 28 ∧ rLs v < 2 ^ 28 ∧ rLl v < 2 ^ 28 ∧ rFa v < 2 ^ 28 ∧ rFp v < 2 ^ 28
def rFail (v : rV) (n : Nat) : rV := pFp (pFa v n) (rAt v)
def rStep : Type := Bool × rV × gV

set_option maxRecDepth 100000 in
set_option maxHeartbeats 4000000 in
/-- GenomeReader.fail -/
theorem sX2_fail {E : eN} (hE : eOk E) {f : aH} {t : Nat} {a c tp : Nat} {v : rV} {g : gV} {n : Nat} (h : rgP tp c f a v g) (hg : gOk g) (hb : rB v) (hd : a < c ∨ c + 8 < a) : mT E mX2_fail 0 0 [.ref a, .int (nI n)] f t (fun o f' t' => o = .inl (some (.int (bI false))) ∧ t' = t ∧ f' = rgS tp c f a (rFail v n) g) := by
  refine mT_of (n := 0) (lo := [some (.ref a), some (.int (nI n))]) (by decide) (by exact Nat.le_of_ble_eq_true rfl) rfl rfl ?_
  obtain ⟨h9, h0, h1, h2, h3, h4, h5, h6, h7, h8⟩ := id h
  obtain ⟨⟨k0, k1, k2⟩, k3, k4, k5⟩ := id hg
  obtain ⟨b0, b1, b2, b3, b4, b5, b6, b7, b8⟩ := id hb
  refine v_aload_n dX2_fail_0 rfl (by rfl) ?_
  refine v_iload_n dX2_fail_1 rfl (by rfl) ?_
  refine v_putf hE dX2_fail_2 fX2_46 (by repeat (first | assumption | exact va_up_self _ _ _ | refine (va_up_ne _ _ (by omega)).trans ?_)) (by exact Nat.le_of_ble_eq_true rfl) (by rfl) (by rfl) (by rfl) ?_
  refine v_aload_n dX2_fail_5 rfl (by rfl) ?_
  refine v_aload_n dX2_fail_6 rfl (by rfl) ?_
  refine v_getf hE dX2_fail_7 fX2_33 (by repeat (first | assumption | exact va_up_self _ _ _ | refine (va_up_ne _ _ (by omega)).trans ?_)) (by rfl) ?_
  refine v_putf hE dX2_fail_10 fX2_49 (by repeat (first | assumption | exact va_up_self _ _ _ | refine (va_up_ne _ _ (by omega)).trans ?_)) (by exact Nat.le_of_ble_eq_true rfl) (by rfl) (by rfl) (by rfl) ?_
  refine v_iconst (v := nI 0) dX2_fail_13 (by decide) ?_
  refine v_iret dX2_fail_14 rfl (by rfl) ?_
  exact ⟨rfl, rfl, rgS_ext hd (by repeat (first | assumption | exact va_up_self _ _ _ | refine (va_up_ne _ _ (by omega)).trans ?_)) ⟨(by repeat (first | assumption | exact va_up_self _ _ _ | refine (va_up_ne _ _ (by omega)).trans ?_)), (by repeat (first | assumption | exact va_up_self _ _ _ | refine (va_up_ne _ _ (by omega)).trans ?_)), (by repeat (first | assumption | exact va_up_self _ _ _ | refine (va_up_ne _ _ (by omega)).trans ?_)), (by repeat (first | assumption | exact va_up_self _ _ _ | refine (va_up_ne _ _ (by omega)).trans ?_)), (by repeat (first | assumption | exact va_up_self _ _ _ | refine (va_up_ne _ _ (by omega)).trans ?_)), (by repeat (first | assumption | exact va_up_self _ _ _ | refine (va_up_ne _ _ (by omega)).trans ?_)), (by repeat (first | assumption | exact va_up_self _ _ _ | refine (va_up_ne _ _ (by omega)).trans ?_)), (by repeat (first | assumption | exact va_up_self _ _ _ | refine (va_up_ne _ _ (by omega)).trans ?_)), (by repeat (first | assumption | exact va_up_self _ _ _ | refine (va_up_ne _ _ (by omega)).trans ?_))⟩ (fun b h1 h2 => by simp only [va_up]; (repeat rw [if_neg (by omega)]))⟩

def isNm (x : Int32) : Bool := (decide (nI 65 ≤ x) && decide (x ≤ nI 90)) || ((decide (nI 97 ≤ x) && decide (x ≤ nI 122)) || ((decide (nI 48 ≤ x) && decide (x ≤ nI 57)) || (decide (x = nI 95) || decide (x = nI 46))))
set_option maxRecDepth 100000 in
set_option maxHeartbeats 4000000 in
/-- GenomeReader.isNameOctet -/
theorem sX2_isNameOctet {E : eN} (hE : eOk E) {f : aH} {t : Nat} {x : Int32}  : mT E mX2_isNameOctet 0 0 [.int x] f t (fun o f' t' => o = .inl (some (.int (bI (isNm x)))) ∧ t' = t ∧ f' = f) := by
  refine mT_of (n := 0) (lo := [some (.int x)]) (by decide) (by exact Nat.le_of_ble_eq_true rfl) rfl rfl ?_
  refine v_iload_n dX2_isNameOctet_0 rfl (by rfl) ?_
  refine v_bipush (v := nI 65) dX2_isNameOctet_1 (by decide) ?_
  refine v_icmp_lt (tgt := 12) dX2_isNameOctet_3 (by decide) (fun c3 => ?_) (fun c3 => ?_)
  · refine v_iload_n dX2_isNameOctet_12 rfl (by rfl) ?_
    refine v_bipush (v := nI 97) dX2_isNameOctet_13 (by decide) ?_
    refine v_icmp_lt (tgt := 24) dX2_isNameOctet_15 (by decide) (fun c15 => ?_) (fun c15 => ?_)
    · refine v_iload_n dX2_isNameOctet_24 rfl (by rfl) ?_
      refine v_bipush (v := nI 48) dX2_isNameOctet_25 (by decide) ?_
      refine v_icmp_lt (tgt := 36) dX2_isNameOctet_27 (by decide) (fun c27 => ?_) (fun c27 => ?_)
      · refine v_iload_n dX2_isNameOctet_36 rfl (by rfl) ?_
        refine v_bipush (v := nI 95) dX2_isNameOctet_37 (by decide) ?_
        refine v_icmp_eq (tgt := 48) dX2_isNameOctet_39 (by decide) (fun c39 => ?_) (fun c39 => ?_)
        · refine v_iconst (v := nI 1) dX2_isNameOctet_48 (by decide) ?_
          refine v_goto (tgt := 53) dX2_isNameOctet_49 (by decide) ?_
          refine v_iret dX2_isNameOctet_53 rfl (by rfl) ?_
          refine ⟨congrArg (fun x => (Sum.inl (some (Value.int x)) : aO)) ?_, rfl, rfl⟩
          unfold isNm
          simp only [← Int32.not_lt]
          simp [bI, *]
        · refine v_iload_n dX2_isNameOctet_42 rfl (by rfl) ?_
          refine v_bipush (v := nI 46) dX2_isNameOctet_43 (by decide) ?_
          refine v_icmp_ne (tgt := 52) dX2_isNameOctet_45 (by decide) (fun c45 => ?_) (fun c45 => ?_)
          · refine v_iconst (v := nI 0) dX2_isNameOctet_52 (by decide) ?_
            refine v_iret dX2_isNameOctet_53 rfl (by rfl) ?_
            refine ⟨congrArg (fun x => (Sum.inl (some (Value.int x)) : aO)) ?_, rfl, rfl⟩
            unfold isNm
            simp only [← Int32.not_lt]
            simp [bI, *]
          · refine v_iconst (v := nI 1) dX2_isNameOctet_48 (by decide) ?_
            refine v_goto (tgt := 53) dX2_isNameOctet_49 (by decide) ?_
            refine v_iret dX2_isNameOctet_53 rfl (by rfl) ?_
            refine ⟨congrArg (fun x => (Sum.inl (some (Value.int x)) : aO)) ?_, rfl, rfl⟩
            unfold isNm
            simp only [← Int32.not_lt]
            simp [bI, *]
      · refine v_iload_n dX2_isNameOctet_30 rfl (by rfl) ?_
        refine v_bipush (v := nI 57) dX2_isNameOctet_31 (by decide) ?_
        refine v_icmp_le (tgt := 48) dX2_isNameOctet_33 (by decide) (fun c33 => ?_) (fun c33 => ?_)
        · refine v_iconst (v := nI 1) dX2_isNameOctet_48 (by decide) ?_
          refine v_goto (tgt := 53) dX2_isNameOctet_49 (by decide) ?_
          refine v_iret dX2_isNameOctet_53 rfl (by rfl) ?_
          refine ⟨congrArg (fun x => (Sum.inl (some (Value.int x)) : aO)) ?_, rfl, rfl⟩
          unfold isNm
          simp only [← Int32.not_lt]
          simp [bI, *]
        · refine v_iload_n dX2_isNameOctet_36 rfl (by rfl) ?_
          refine v_bipush (v := nI 95) dX2_isNameOctet_37 (by decide) ?_
          refine v_icmp_eq (tgt := 48) dX2_isNameOctet_39 (by decide) (fun c39 => ?_) (fun c39 => ?_)
          · refine v_iconst (v := nI 1) dX2_isNameOctet_48 (by decide) ?_
            refine v_goto (tgt := 53) dX2_isNameOctet_49 (by decide) ?_
            refine v_iret dX2_isNameOctet_53 rfl (by rfl) ?_
            refine ⟨congrArg (fun x => (Sum.inl (some (Value.int x)) : aO)) ?_, rfl, rfl⟩
            unfold isNm
            simp only [← Int32.not_lt]
            simp [bI, *]
          · refine v_iload_n dX2_isNameOctet_42 rfl (by rfl) ?_
            refine v_bipush (v := nI 46) dX2_isNameOctet_43 (by decide) ?_
            refine v_icmp_ne (tgt := 52) dX2_isNameOctet_45 (by decide) (fun c45 => ?_) (fun c45 => ?_)
            · refine v_iconst (v := nI 0) dX2_isNameOctet_52 (by decide) ?_
              refine v_iret dX2_isNameOctet_53 rfl (by rfl) ?_
              refine ⟨congrArg (fun x => (Sum.inl (some (Value.int x)) : aO)) ?_, rfl, rfl⟩
              unfold isNm
              simp only [← Int32.not_lt]
              simp [bI, *]
            · refine v_iconst (v := nI 1) dX2_isNameOctet_48 (by decide) ?_
              refine v_goto (tgt := 53) dX2_isNameOctet_49 (by decide) ?_
              refine v_iret dX2_isNameOctet_53 rfl (by rfl) ?_
              refine ⟨congrArg (fun x => (Sum.inl (some (Value.int x)) : aO)) ?_, rfl, rfl⟩
              unfold isNm
              simp only [← Int32.not_lt]
              simp [bI, *]
    · refine v_iload_n dX2_isNameOctet_18 rfl (by rfl) ?_
      refine v_bipush (v := nI 122) dX2_isNameOctet_19 (by decide) ?_
      refine v_icmp_le (tgt := 48) dX2_isNameOctet_21 (by decide) (fun c21 => ?_) (fun c21 => ?_)
      · refine v_iconst (v := nI 1) dX2_isNameOctet_48 (by decide) ?_
        refine v_goto (tgt := 53) dX2_isNameOctet_49 (by decide) ?_
        refine v_iret dX2_isNameOctet_53 rfl (by rfl) ?_
        refine ⟨congrArg (fun x => (Sum.inl (some (Value.int x)) : aO)) ?_, rfl, rfl⟩
        unfold isNm
        simp only [← Int32.not_lt]
        simp [bI, *]
      · refine v_iload_n dX2_isNameOctet_24 rfl (by rfl) ?_
        refine v_bipush (v := nI 48) dX2_isNameOctet_25 (by decide) ?_
        refine v_icmp_lt (tgt := 36) dX2_isNameOctet_27 (by decide) (fun c27 => ?_) (fun c27 => ?_)
        · refine v_iload_n dX2_isNameOctet_36 rfl (by rfl) ?_
          refine v_bipush (v := nI 95) dX2_isNameOctet_37 (by decide) ?_
          refine v_icmp_eq (tgt := 48) dX2_isNameOctet_39 (by decide) (fun c39 => ?_) (fun c39 => ?_)
          · refine v_iconst (v := nI 1) dX2_isNameOctet_48 (by decide) ?_
            refine v_goto (tgt := 53) dX2_isNameOctet_49 (by decide) ?_
            refine v_iret dX2_isNameOctet_53 rfl (by rfl) ?_
            refine ⟨congrArg (fun x => (Sum.inl (some (Value.int x)) : aO)) ?_, rfl, rfl⟩
            unfold isNm
            simp only [← Int32.not_lt]
            simp [bI, *]
          · refine v_iload_n dX2_isNameOctet_42 rfl (by rfl) ?_
            refine v_bipush (v := nI 46) dX2_isNameOctet_43 (by decide) ?_
            refine v_icmp_ne (tgt := 52) dX2_isNameOctet_45 (by decide) (fun c45 => ?_) (fun c45 => ?_)
            · refine v_iconst (v := nI 0) dX2_isNameOctet_52 (by decide) ?_
              refine v_iret dX2_isNameOctet_53 rfl (by rfl) ?_
              refine ⟨congrArg (fun x => (Sum.inl (some (Value.int x)) : aO)) ?_, rfl, rfl⟩
              unfold isNm
              simp only [← Int32.not_lt]
              simp [bI, *]
            · refine v_iconst (v := nI 1) dX2_isNameOctet_48 (by decide) ?_
              refine v_goto (tgt := 53) dX2_isNameOctet_49 (by decide) ?_
              refine v_iret dX2_isNameOctet_53 rfl (by rfl) ?_
              refine ⟨congrArg (fun x => (Sum.inl (some (Value.int x)) : aO)) ?_, rfl, rfl⟩
              unfold isNm
              simp only [← Int32.not_lt]
              simp [bI, *]
        · refine v_iload_n dX2_isNameOctet_30 rfl (by rfl) ?_
          refine v_bipush (v := nI 57) dX2_isNameOctet_31 (by decide) ?_
          refine v_icmp_le (tgt := 48) dX2_isNameOctet_33 (by decide) (fun c33 => ?_) (fun c33 => ?_)
          · refine v_iconst (v := nI 1) dX2_isNameOctet_48 (by decide) ?_
            refine v_goto (tgt := 53) dX2_isNameOctet_49 (by decide) ?_
            refine v_iret dX2_isNameOctet_53 rfl (by rfl) ?_
            refine ⟨congrArg (fun x => (Sum.inl (some (Value.int x)) : aO)) ?_, rfl, rfl⟩
            unfold isNm
            simp only [← Int32.not_lt]
            simp [bI, *]
          · refine v_iload_n dX2_isNameOctet_36 rfl (by rfl) ?_
            refine v_bipush (v := nI 95) dX2_isNameOctet_37 (by decide) ?_
            refine v_icmp_eq (tgt := 48) dX2_isNameOctet_39 (by decide) (fun c39 => ?_) (fun c39 => ?_)
            · refine v_iconst (v := nI 1) dX2_isNameOctet_48 (by decide) ?_
              refine v_goto (tgt := 53) dX2_isNameOctet_49 (by decide) ?_
              refine v_iret dX2_isNameOctet_53 rfl (by rfl) ?_
              refine ⟨congrArg (fun x => (Sum.inl (some (Value.int x)) : aO)) ?_, rfl, rfl⟩
              unfold isNm
              simp only [← Int32.not_lt]
              simp [bI, *]
            · refine v_iload_n dX2_isNameOctet_42 rfl (by rfl) ?_
              refine v_bipush (v := nI 46) dX2_isNameOctet_43 (by decide) ?_
              refine v_icmp_ne (tgt := 52) dX2_isNameOctet_45 (by decide) (fun c45 => ?_) (fun c45 => ?_)
              · refine v_iconst (v := nI 0) dX2_isNameOctet_52 (by decide) ?_
                refine v_iret dX2_isNameOctet_53 rfl (by rfl) ?_
                refine ⟨congrArg (fun x => (Sum.inl (some (Value.int x)) : aO)) ?_, rfl, rfl⟩
                unfold isNm
                simp only [← Int32.not_lt]
                simp [bI, *]
              · refine v_iconst (v := nI 1) dX2_isNameOctet_48 (by decide) ?_
                refine v_goto (tgt := 53) dX2_isNameOctet_49 (by decide) ?_
                refine v_iret dX2_isNameOctet_53 rfl (by rfl) ?_
                refine ⟨congrArg (fun x => (Sum.inl (some (Value.int x)) : aO)) ?_, rfl, rfl⟩
                unfold isNm
                simp only [← Int32.not_lt]
                simp [bI, *]
  · refine v_iload_n dX2_isNameOctet_6 rfl (by rfl) ?_
    refine v_bipush (v := nI 90) dX2_isNameOctet_7 (by decide) ?_
    refine v_icmp_le (tgt := 48) dX2_isNameOctet_9 (by decide) (fun c9 => ?_) (fun c9 => ?_)
    · refine v_iconst (v := nI 1) dX2_isNameOctet_48 (by decide) ?_
      refine v_goto (tgt := 53) dX2_isNameOctet_49 (by decide) ?_
      refine v_iret dX2_isNameOctet_53 rfl (by rfl) ?_
      refine ⟨congrArg (fun x => (Sum.inl (some (Value.int x)) : aO)) ?_, rfl, rfl⟩
      unfold isNm
      simp only [← Int32.not_lt]
      simp [bI, *]
    · refine v_iload_n dX2_isNameOctet_12 rfl (by rfl) ?_
      refine v_bipush (v := nI 97) dX2_isNameOctet_13 (by decide) ?_
      refine v_icmp_lt (tgt := 24) dX2_isNameOctet_15 (by decide) (fun c15 => ?_) (fun c15 => ?_)
      · refine v_iload_n dX2_isNameOctet_24 rfl (by rfl) ?_
        refine v_bipush (v := nI 48) dX2_isNameOctet_25 (by decide) ?_
        refine v_icmp_lt (tgt := 36) dX2_isNameOctet_27 (by decide) (fun c27 => ?_) (fun c27 => ?_)
        · refine v_iload_n dX2_isNameOctet_36 rfl (by rfl) ?_
          refine v_bipush (v := nI 95) dX2_isNameOctet_37 (by decide) ?_
          refine v_icmp_eq (tgt := 48) dX2_isNameOctet_39 (by decide) (fun c39 => ?_) (fun c39 => ?_)
          · refine v_iconst (v := nI 1) dX2_isNameOctet_48 (by decide) ?_
            refine v_goto (tgt := 53) dX2_isNameOctet_49 (by decide) ?_
            refine v_iret dX2_isNameOctet_53 rfl (by rfl) ?_
            refine ⟨congrArg (fun x => (Sum.inl (some (Value.int x)) : aO)) ?_, rfl, rfl⟩
            unfold isNm
            simp only [← Int32.not_lt]
            simp [bI, *]
          · refine v_iload_n dX2_isNameOctet_42 rfl (by rfl) ?_
            refine v_bipush (v := nI 46) dX2_isNameOctet_43 (by decide) ?_
            refine v_icmp_ne (tgt := 52) dX2_isNameOctet_45 (by decide) (fun c45 => ?_) (fun c45 => ?_)
            · refine v_iconst (v := nI 0) dX2_isNameOctet_52 (by decide) ?_
              refine v_iret dX2_isNameOctet_53 rfl (by rfl) ?_
              refine ⟨congrArg (fun x => (Sum.inl (some (Value.int x)) : aO)) ?_, rfl, rfl⟩
              unfold isNm
              simp only [← Int32.not_lt]
              simp [bI, *]
            · refine v_iconst (v := nI 1) dX2_isNameOctet_48 (by decide) ?_
              refine v_goto (tgt := 53) dX2_isNameOctet_49 (by decide) ?_
              refine v_iret dX2_isNameOctet_53 rfl (by rfl) ?_
              refine ⟨congrArg (fun x => (Sum.inl (some (Value.int x)) : aO)) ?_, rfl, rfl⟩
              unfold isNm
              simp only [← Int32.not_lt]
              simp [bI, *]
        · refine v_iload_n dX2_isNameOctet_30 rfl (by rfl) ?_
          refine v_bipush (v := nI 57) dX2_isNameOctet_31 (by decide) ?_
          refine v_icmp_le (tgt := 48) dX2_isNameOctet_33 (by decide) (fun c33 => ?_) (fun c33 => ?_)
          · refine v_iconst (v := nI 1) dX2_isNameOctet_48 (by decide) ?_
            refine v_goto (tgt := 53) dX2_isNameOctet_49 (by decide) ?_
            refine v_iret dX2_isNameOctet_53 rfl (by rfl) ?_
            refine ⟨congrArg (fun x => (Sum.inl (some (Value.int x)) : aO)) ?_, rfl, rfl⟩
            unfold isNm
            simp only [← Int32.not_lt]
            simp [bI, *]
          · refine v_iload_n dX2_isNameOctet_36 rfl (by rfl) ?_
            refine v_bipush (v := nI 95) dX2_isNameOctet_37 (by decide) ?_
            refine v_icmp_eq (tgt := 48) dX2_isNameOctet_39 (by decide) (fun c39 => ?_) (fun c39 => ?_)
            · refine v_iconst (v := nI 1) dX2_isNameOctet_48 (by decide) ?_
              refine v_goto (tgt := 53) dX2_isNameOctet_49 (by decide) ?_
              refine v_iret dX2_isNameOctet_53 rfl (by rfl) ?_
              refine ⟨congrArg (fun x => (Sum.inl (some (Value.int x)) : aO)) ?_, rfl, rfl⟩
              unfold isNm
              simp only [← Int32.not_lt]
              simp [bI, *]
            · refine v_iload_n dX2_isNameOctet_42 rfl (by rfl) ?_
              refine v_bipush (v := nI 46) dX2_isNameOctet_43 (by decide) ?_
              refine v_icmp_ne (tgt := 52) dX2_isNameOctet_45 (by decide) (fun c45 => ?_) (fun c45 => ?_)
              · refine v_iconst (v := nI 0) dX2_isNameOctet_52 (by decide) ?_
                refine v_iret dX2_isNameOctet_53 rfl (by rfl) ?_
                refine ⟨congrArg (fun x => (Sum.inl (some (Value.int x)) : aO)) ?_, rfl, rfl⟩
                unfold isNm
                simp only [← Int32.not_lt]
                simp [bI, *]
              · refine v_iconst (v := nI 1) dX2_isNameOctet_48 (by decide) ?_
                refine v_goto (tgt := 53) dX2_isNameOctet_49 (by decide) ?_
                refine v_iret dX2_isNameOctet_53 rfl (by rfl) ?_
                refine ⟨congrArg (fun x => (Sum.inl (some (Value.int x)) : aO)) ?_, rfl, rfl⟩
                unfold isNm
                simp only [← Int32.not_lt]
                simp [bI, *]
      · refine v_iload_n dX2_isNameOctet_18 rfl (by rfl) ?_
        refine v_bipush (v := nI 122) dX2_isNameOctet_19 (by decide) ?_
        refine v_icmp_le (tgt := 48) dX2_isNameOctet_21 (by decide) (fun c21 => ?_) (fun c21 => ?_)
        · refine v_iconst (v := nI 1) dX2_isNameOctet_48 (by decide) ?_
          refine v_goto (tgt := 53) dX2_isNameOctet_49 (by decide) ?_
          refine v_iret dX2_isNameOctet_53 rfl (by rfl) ?_
          refine ⟨congrArg (fun x => (Sum.inl (some (Value.int x)) : aO)) ?_, rfl, rfl⟩
          unfold isNm
          simp only [← Int32.not_lt]
          simp [bI, *]
        · refine v_iload_n dX2_isNameOctet_24 rfl (by rfl) ?_
          refine v_bipush (v := nI 48) dX2_isNameOctet_25 (by decide) ?_
          refine v_icmp_lt (tgt := 36) dX2_isNameOctet_27 (by decide) (fun c27 => ?_) (fun c27 => ?_)
          · refine v_iload_n dX2_isNameOctet_36 rfl (by rfl) ?_
            refine v_bipush (v := nI 95) dX2_isNameOctet_37 (by decide) ?_
            refine v_icmp_eq (tgt := 48) dX2_isNameOctet_39 (by decide) (fun c39 => ?_) (fun c39 => ?_)
            · refine v_iconst (v := nI 1) dX2_isNameOctet_48 (by decide) ?_
              refine v_goto (tgt := 53) dX2_isNameOctet_49 (by decide) ?_
              refine v_iret dX2_isNameOctet_53 rfl (by rfl) ?_
              refine ⟨congrArg (fun x => (Sum.inl (some (Value.int x)) : aO)) ?_, rfl, rfl⟩
              unfold isNm
              simp only [← Int32.not_lt]
              simp [bI, *]
            · refine v_iload_n dX2_isNameOctet_42 rfl (by rfl) ?_
              refine v_bipush (v := nI 46) dX2_isNameOctet_43 (by decide) ?_
              refine v_icmp_ne (tgt := 52) dX2_isNameOctet_45 (by decide) (fun c45 => ?_) (fun c45 => ?_)
              · refine v_iconst (v := nI 0) dX2_isNameOctet_52 (by decide) ?_
                refine v_iret dX2_isNameOctet_53 rfl (by rfl) ?_
                refine ⟨congrArg (fun x => (Sum.inl (some (Value.int x)) : aO)) ?_, rfl, rfl⟩
                unfold isNm
                simp only [← Int32.not_lt]
                simp [bI, *]
              · refine v_iconst (v := nI 1) dX2_isNameOctet_48 (by decide) ?_
                refine v_goto (tgt := 53) dX2_isNameOctet_49 (by decide) ?_
                refine v_iret dX2_isNameOctet_53 rfl (by rfl) ?_
                refine ⟨congrArg (fun x => (Sum.inl (some (Value.int x)) : aO)) ?_, rfl, rfl⟩
                unfold isNm
                simp only [← Int32.not_lt]
                simp [bI, *]
          · refine v_iload_n dX2_isNameOctet_30 rfl (by rfl) ?_
            refine v_bipush (v := nI 57) dX2_isNameOctet_31 (by decide) ?_
            refine v_icmp_le (tgt := 48) dX2_isNameOctet_33 (by decide) (fun c33 => ?_) (fun c33 => ?_)
            · refine v_iconst (v := nI 1) dX2_isNameOctet_48 (by decide) ?_
              refine v_goto (tgt := 53) dX2_isNameOctet_49 (by decide) ?_
              refine v_iret dX2_isNameOctet_53 rfl (by rfl) ?_
              refine ⟨congrArg (fun x => (Sum.inl (some (Value.int x)) : aO)) ?_, rfl, rfl⟩
              unfold isNm
              simp only [← Int32.not_lt]
              simp [bI, *]
            · refine v_iload_n dX2_isNameOctet_36 rfl (by rfl) ?_
              refine v_bipush (v := nI 95) dX2_isNameOctet_37 (by decide) ?_
              refine v_icmp_eq (tgt := 48) dX2_isNameOctet_39 (by decide) (fun c39 => ?_) (fun c39 => ?_)
              · refine v_iconst (v := nI 1) dX2_isNameOctet_48 (by decide) ?_
                refine v_goto (tgt := 53) dX2_isNameOctet_49 (by decide) ?_
                refine v_iret dX2_isNameOctet_53 rfl (by rfl) ?_
                refine ⟨congrArg (fun x => (Sum.inl (some (Value.int x)) : aO)) ?_, rfl, rfl⟩
                unfold isNm
                simp only [← Int32.not_lt]
                simp [bI, *]
              · refine v_iload_n dX2_isNameOctet_42 rfl (by rfl) ?_
                refine v_bipush (v := nI 46) dX2_isNameOctet_43 (by decide) ?_
                refine v_icmp_ne (tgt := 52) dX2_isNameOctet_45 (by decide) (fun c45 => ?_) (fun c45 => ?_)
                · refine v_iconst (v := nI 0) dX2_isNameOctet_52 (by decide) ?_
                  refine v_iret dX2_isNameOctet_53 rfl (by rfl) ?_
                  refine ⟨congrArg (fun x => (Sum.inl (some (Value.int x)) : aO)) ?_, rfl, rfl⟩
                  unfold isNm
                  simp only [← Int32.not_lt]
                  simp [bI, *]
                · refine v_iconst (v := nI 1) dX2_isNameOctet_48 (by decide) ?_
                  refine v_goto (tgt := 53) dX2_isNameOctet_49 (by decide) ?_
                  refine v_iret dX2_isNameOctet_53 rfl (by rfl) ?_
                  refine ⟨congrArg (fun x => (Sum.inl (some (Value.int x)) : aO)) ?_, rfl, rfl⟩
                  unfold isNm
                  simp only [← Int32.not_lt]
                  simp [bI, *]

def rTakeL (v : rV) (g : gV) (x : Int32) : Bool × rV × gV :=
  if gTo g = 3000 then (false, rFail v 3, g) else if 0 < rWi v ∧ (rLs v = rWi v ∨ (rLs v = 0 ∧ rLl v < rWi v)) then (false, rFail v 5, g) else (true, pSt (pLs v (rLs v + 1)) 4, gnAdd g x (nI (rAt v)))
def rEndL (v : rV) (g : gV) : rV × gV := if rWi v = 0 then (pSt (pLs (pLl (pWi v (rLs v)) (rLs v)) 0) 5, gnWidth g (rLs v)) else (pSt (pLs (pLl v (rLs v)) 0) 5, g)
def rOpen (v : rV) (g : gV) : Bool × rV × gV := if gCt g = 8 then (false, rFail v 3, g) else (true, pSt (pNt (pNs v 0) (rAt v + 1)) 1, gnOpen g)
def rEndN (v : rV) (g : gV) : Bool × rV × gV := if nmIdx g.1 g.1 (gCt g - 1) = nI (gCt g - 1) then (true, pSt (pLl (pLs (pWi v 0) 0) 0) 3, g) else (false, pFp (pFa v 4) (rNt v), g)
def rName (v : rV) (g : gV) (x : Int32) : Bool × rV × gV := if isNm x = true then (if rNs v = 20 then (false, rFail v 3, g) else (true, pNs v (rNs v + 1), (nmAdd g.1 x, g.2))) else if rNs v = 0 then (false, rFail v 2, g) else if x = nI 10 then rEndN v g else if x = nI 32 then (true, pSt v 2, g) else (false, rFail (pSt v 2) 2, g)
def rRem (v : rV) (g : gV) (x : Int32) : Bool × rV × gV := if x = nI 10 then rEndN v g else if x < nI 32 ∨ ¬ x ≤ nI 126 then (false, rFail v 2, g) else (true, v, g)
def rLett (v : rV) (g : gV) (x : Int32) : Bool × rV × gV := if x = nI 10 then (true, (rEndL v g).1, (rEndL v g).2) else if ltr x = -1 then (false, rFail v 2, g) else rTakeL v g (ltr x)
def rLine (v : rV) (g : gV) (x : Int32) : Bool × rV × gV := if x = nI 62 ∧ rSt v ≠ 3 then rOpen v g else if ltr x ≠ -1 ∧ rSt v ≠ 0 then rTakeL v g (ltr x) else (false, rFail v 2, g)
def rTake (v : rV) (g : gV) (x : Int32) : Bool × rV × gV := if rSt v = 1 then rName v g x else if rSt v = 2 then rRem v g x else if rSt v = 4 then rLett v g x else rLine v g x

set_option maxRecDepth 100000 in
set_option maxHeartbeats 4000000 in
/-- GenomeReader.takeLetter -/
theorem sX2_takeLetter {E : eN} (hE : eOk E) {f : aH} {t : Nat} {a c tp : Nat} {v : rV} {g : gV} {x : Int32} (h : rgP tp c f a v g) (hg : gOk g) (hb : rB v) (hd : a < c ∨ c + 8 < a) (hc : 0 < gCt g) : mT E mX2_takeLetter 0 0 [.ref a, .int x] f t (fun o f' t' => o = .inl (some (.int (bI (rTakeL v g x).1))) ∧ t' = t ∧ f' = rgS tp c f a (rTakeL v g x).2.1 (rTakeL v g x).2.2) := by
  refine mT_of (n := 1) (lo := [some (.ref a), some (.int x), none]) (by decide) (by exact Nat.le_of_ble_eq_true rfl) rfl rfl ?_
  obtain ⟨h9, h0, h1, h2, h3, h4, h5, h6, h7, h8⟩ := id h
  obtain ⟨⟨k0, k1, k2⟩, k3, k4, k5⟩ := id hg
  obtain ⟨b0, b1, b2, b3, b4, b5, b6, b7, b8⟩ := id hb
  refine v_aload_n dX2_takeLetter_0 rfl (by rfl) ?_
  refine v_getf hE dX2_takeLetter_1 fX2_15 (by repeat (first | assumption | exact va_up_self _ _ _ | refine (va_up_ne _ _ (by omega)).trans ?_)) (by rfl) ?_
  refine v_getf hE dX2_takeLetter_4 fX2_121 (by repeat (first | assumption | exact va_up_self _ _ _ | refine (va_up_ne _ _ (by omega)).trans ?_)) (by rfl) ?_
  refine v_sipush (v := nI 3000) dX2_takeLetter_7 (by decide) ?_
  refine v_icmp_neN (tgt := 19) dX2_takeLetter_10 (by decide) (by omega) (by omega) (fun c10 => ?_) (fun c10 => ?_)
  · refine v_aload_n dX2_takeLetter_19 rfl (by rfl) ?_
    refine v_getf hE dX2_takeLetter_20 fX2_109 (by repeat (first | assumption | exact va_up_self _ _ _ | refine (va_up_ne _ _ (by omega)).trans ?_)) (by rfl) ?_
    refine v_if_neN (tgt := 41) dX2_takeLetter_23 (by decide) (by omega) (fun c23 => ?_) (fun c23 => ?_)
    · refine v_iconst (v := nI 0) dX2_takeLetter_41 (by decide) ?_
      refine v_istore_n dX2_takeLetter_42 rfl (by decide) ?_
      refine v_aload_n dX2_takeLetter_43 rfl (by rfl) ?_
      refine v_getf hE dX2_takeLetter_44 fX2_106 (by repeat (first | assumption | exact va_up_self _ _ _ | refine (va_up_ne _ _ (by omega)).trans ?_)) (by rfl) ?_
      refine v_if_leN (tgt := 71) dX2_takeLetter_47 (by decide) (by omega) (fun c47 => ?_) (fun c47 => ?_)
      · refine v_aload_n dX2_takeLetter_71 rfl (by rfl) ?_
        refine v_getf hE dX2_takeLetter_72 fX2_15 (by repeat (first | assumption | exact va_up_self _ _ _ | refine (va_up_ne _ _ (by omega)).trans ?_)) (by rfl) ?_
        refine v_iload_n dX2_takeLetter_75 rfl (by rfl) ?_
        refine v_aload_n dX2_takeLetter_76 rfl (by rfl) ?_
        refine v_getf hE dX2_takeLetter_77 fX2_33 (by repeat (first | assumption | exact va_up_self _ _ _ | refine (va_up_ne _ _ (by omega)).trans ?_)) (by rfl) ?_
        refine w_callV hE dX2_takeLetter_80 kX2_124 (by repeat (first | assumption | exact va_up_self _ _ _ | refine (va_up_ne _ _ (by omega)).trans ?_)) (by rfl) (by rfl) (sX1_addLetter hE h.2 hg hc) rfl (by decide) (by decide) (by exact Nat.le_of_ble_eq_true rfl) (by omega) (by omega) (fun v9 g9 u9 h9 => ?_) (fun _ _ _ h => by cases h.1)
        obtain ⟨hv9, hu9, hg9⟩ := h9
        replace hu9 := hu9.symm
        replace hg9 := hg9.symm
        subst hu9
        subst hg9
        cases hv9
        refine v_hp (rg_g hd h) ?_
        have z0 := (rgP_S (f := f) (tp := tp) (v := v) (g := gnAdd g x (nI (rAt v))) hd).1
        obtain ⟨z1, z2, z3, z4, z5, z6, z7, z8, z9⟩ := (rgP_S (f := f) (tp := tp) (v := v) (g := gnAdd g x (nI (rAt v))) hd).2
        refine v_aload_n dX2_takeLetter_83 rfl (by rfl) ?_
        refine v_dup dX2_takeLetter_84 rfl ?_
        refine v_getf hE dX2_takeLetter_85 fX2_109 (by repeat (first | assumption | exact va_up_self _ _ _ | refine (va_up_ne _ _ (by omega)).trans ?_)) (by rfl) ?_
        refine v_iconst (v := nI 1) dX2_takeLetter_88 (by decide) ?_
        refine v_iaddN dX2_takeLetter_89 ?_
        refine v_putf hE dX2_takeLetter_90 fX2_109 (by repeat (first | assumption | exact va_up_self _ _ _ | refine (va_up_ne _ _ (by omega)).trans ?_)) (by exact Nat.le_of_ble_eq_true rfl) (by rfl) (by rfl) (by rfl) ?_
        refine v_aload_n dX2_takeLetter_93 rfl (by rfl) ?_
        refine v_iconst (v := nI 4) dX2_takeLetter_94 (by decide) ?_
        refine v_putf hE dX2_takeLetter_95 fX2_19 (by repeat (first | assumption | exact va_up_self _ _ _ | refine (va_up_ne _ _ (by omega)).trans ?_)) (by exact Nat.le_of_ble_eq_true rfl) (by rfl) (by rfl) (by rfl) ?_
        refine v_iconst (v := nI 1) dX2_takeLetter_98 (by decide) ?_
        refine v_iret dX2_takeLetter_99 rfl (by rfl) ?_
        unfold rTakeL
        first | (rw [if_pos (by assumption)]; exact ⟨rfl, rfl, rfl⟩) | (rw [if_neg (by omega), if_pos (by omega)]; exact ⟨rfl, rfl, rfl⟩) | (rw [if_neg (by omega), if_neg (by omega)]; exact ⟨rfl, rfl, rgS_ext hd (by repeat (first | assumption | exact va_up_self _ _ _ | refine (va_up_ne _ _ (by omega)).trans ?_)) ⟨(by repeat (first | assumption | exact va_up_self _ _ _ | refine (va_up_ne _ _ (by omega)).trans ?_)), (by repeat (first | assumption | exact va_up_self _ _ _ | refine (va_up_ne _ _ (by omega)).trans ?_)), (by repeat (first | assumption | exact va_up_self _ _ _ | refine (va_up_ne _ _ (by omega)).trans ?_)), (by repeat (first | assumption | exact va_up_self _ _ _ | refine (va_up_ne _ _ (by omega)).trans ?_)), (by repeat (first | assumption | exact va_up_self _ _ _ | refine (va_up_ne _ _ (by omega)).trans ?_)), (by repeat (first | assumption | exact va_up_self _ _ _ | refine (va_up_ne _ _ (by omega)).trans ?_)), (by repeat (first | assumption | exact va_up_self _ _ _ | refine (va_up_ne _ _ (by omega)).trans ?_)), (by repeat (first | assumption | exact va_up_self _ _ _ | refine (va_up_ne _ _ (by omega)).trans ?_)), (by repeat (first | assumption | exact va_up_self _ _ _ | refine (va_up_ne _ _ (by omega)).trans ?_))⟩ (fun b h1 h2 => by simp only [va_up]; (repeat rw [if_neg (by omega)]); exact rgS_ne h1 h2)⟩)
      · refine v_aload_n dX2_takeLetter_50 rfl (by rfl) ?_
        refine v_getf hE dX2_takeLetter_51 fX2_109 (by repeat (first | assumption | exact va_up_self _ _ _ | refine (va_up_ne _ _ (by omega)).trans ?_)) (by rfl) ?_
        refine v_aload_n dX2_takeLetter_54 rfl (by rfl) ?_
        refine v_getf hE dX2_takeLetter_55 fX2_106 (by repeat (first | assumption | exact va_up_self _ _ _ | refine (va_up_ne _ _ (by omega)).trans ?_)) (by rfl) ?_
        refine v_icmp_eqN (tgt := 65) dX2_takeLetter_58 (by decide) (by omega) (by omega) (fun c58 => ?_) (fun c58 => ?_)
        · refine v_aload_n dX2_takeLetter_65 rfl (by rfl) ?_
          refine v_iconst (v := nI 5) dX2_takeLetter_66 (by decide) ?_
          refine w_callV hE dX2_takeLetter_67 kX2_43 (by repeat (first | assumption | exact va_up_self _ _ _ | refine (va_up_ne _ _ (by omega)).trans ?_)) (by rfl) (by rfl) (sX2_fail hE h hg hb hd) rfl (by decide) (by decide) (by exact Nat.le_of_ble_eq_true rfl) (by omega) (by omega) (fun v9 g9 u9 h9 => ?_) (fun _ _ _ h => by cases h.1)
          obtain ⟨hv9, hu9, hg9⟩ := h9
          replace hu9 := hu9.symm
          replace hg9 := hg9.symm
          subst hu9
          subst hg9
          cases hv9
          refine v_iret dX2_takeLetter_70 rfl (by rfl) ?_
          unfold rTakeL
          first | (rw [if_pos (by assumption)]; exact ⟨rfl, rfl, rfl⟩) | (rw [if_neg (by omega), if_pos (by omega)]; exact ⟨rfl, rfl, rfl⟩) | (rw [if_neg (by omega), if_neg (by omega)]; exact ⟨rfl, rfl, rgS_ext hd (by repeat (first | assumption | exact va_up_self _ _ _ | refine (va_up_ne _ _ (by omega)).trans ?_)) ⟨(by repeat (first | assumption | exact va_up_self _ _ _ | refine (va_up_ne _ _ (by omega)).trans ?_)), (by repeat (first | assumption | exact va_up_self _ _ _ | refine (va_up_ne _ _ (by omega)).trans ?_)), (by repeat (first | assumption | exact va_up_self _ _ _ | refine (va_up_ne _ _ (by omega)).trans ?_)), (by repeat (first | assumption | exact va_up_self _ _ _ | refine (va_up_ne _ _ (by omega)).trans ?_)), (by repeat (first | assumption | exact va_up_self _ _ _ | refine (va_up_ne _ _ (by omega)).trans ?_)), (by repeat (first | assumption | exact va_up_self _ _ _ | refine (va_up_ne _ _ (by omega)).trans ?_)), (by repeat (first | assumption | exact va_up_self _ _ _ | refine (va_up_ne _ _ (by omega)).trans ?_)), (by repeat (first | assumption | exact va_up_self _ _ _ | refine (va_up_ne _ _ (by omega)).trans ?_)), (by repeat (first | assumption | exact va_up_self _ _ _ | refine (va_up_ne _ _ (by omega)).trans ?_))⟩ (fun b h1 h2 => by simp only [va_up]; (repeat rw [if_neg (by omega)]); exact rgS_ne h1 h2)⟩)
        · refine v_iload_n dX2_takeLetter_61 rfl (by rfl) ?_
          refine v_if_eqN (tgt := 71) dX2_takeLetter_62 (by decide) (by omega) (fun c62 => ?_) (fun c62 => ?_)
          · refine v_aload_n dX2_takeLetter_71 rfl (by rfl) ?_
            refine v_getf hE dX2_takeLetter_72 fX2_15 (by repeat (first | assumption | exact va_up_self _ _ _ | refine (va_up_ne _ _ (by omega)).trans ?_)) (by rfl) ?_
            refine v_iload_n dX2_takeLetter_75 rfl (by rfl) ?_
            refine v_aload_n dX2_takeLetter_76 rfl (by rfl) ?_
            refine v_getf hE dX2_takeLetter_77 fX2_33 (by repeat (first | assumption | exact va_up_self _ _ _ | refine (va_up_ne _ _ (by omega)).trans ?_)) (by rfl) ?_
            refine w_callV hE dX2_takeLetter_80 kX2_124 (by repeat (first | assumption | exact va_up_self _ _ _ | refine (va_up_ne _ _ (by omega)).trans ?_)) (by rfl) (by rfl) (sX1_addLetter hE h.2 hg hc) rfl (by decide) (by decide) (by exact Nat.le_of_ble_eq_true rfl) (by omega) (by omega) (fun v9 g9 u9 h9 => ?_) (fun _ _ _ h => by cases h.1)
            obtain ⟨hv9, hu9, hg9⟩ := h9
            replace hu9 := hu9.symm
            replace hg9 := hg9.symm
            subst hu9
            subst hg9
            cases hv9
            refine v_hp (rg_g hd h) ?_
            have z0 := (rgP_S (f := f) (tp := tp) (v := v) (g := gnAdd g x (nI (rAt v))) hd).1
            obtain ⟨z1, z2, z3, z4, z5, z6, z7, z8, z9⟩ := (rgP_S (f := f) (tp := tp) (v := v) (g := gnAdd g x (nI (rAt v))) hd).2
            refine v_aload_n dX2_takeLetter_83 rfl (by rfl) ?_
            refine v_dup dX2_takeLetter_84 rfl ?_
            refine v_getf hE dX2_takeLetter_85 fX2_109 (by repeat (first | assumption | exact va_up_self _ _ _ | refine (va_up_ne _ _ (by omega)).trans ?_)) (by rfl) ?_
            refine v_iconst (v := nI 1) dX2_takeLetter_88 (by decide) ?_
            refine v_iaddN dX2_takeLetter_89 ?_
            refine v_putf hE dX2_takeLetter_90 fX2_109 (by repeat (first | assumption | exact va_up_self _ _ _ | refine (va_up_ne _ _ (by omega)).trans ?_)) (by exact Nat.le_of_ble_eq_true rfl) (by rfl) (by rfl) (by rfl) ?_
            refine v_aload_n dX2_takeLetter_93 rfl (by rfl) ?_
            refine v_iconst (v := nI 4) dX2_takeLetter_94 (by decide) ?_
            refine v_putf hE dX2_takeLetter_95 fX2_19 (by repeat (first | assumption | exact va_up_self _ _ _ | refine (va_up_ne _ _ (by omega)).trans ?_)) (by exact Nat.le_of_ble_eq_true rfl) (by rfl) (by rfl) (by rfl) ?_
            refine v_iconst (v := nI 1) dX2_takeLetter_98 (by decide) ?_
            refine v_iret dX2_takeLetter_99 rfl (by rfl) ?_
            unfold rTakeL
            first | (rw [if_pos (by assumption)]; exact ⟨rfl, rfl, rfl⟩) | (rw [if_neg (by omega), if_pos (by omega)]; exact ⟨rfl, rfl, rfl⟩) | (rw [if_neg (by omega), if_neg (by omega)]; exact ⟨rfl, rfl, rgS_ext hd (by repeat (first | assumption | exact va_up_self _ _ _ | refine (va_up_ne _ _ (by omega)).trans ?_)) ⟨(by repeat (first | assumption | exact va_up_self _ _ _ | refine (va_up_ne _ _ (by omega)).trans ?_)), (by repeat (first | assumption | exact va_up_self _ _ _ | refine (va_up_ne _ _ (by omega)).trans ?_)), (by repeat (first | assumption | exact va_up_self _ _ _ | refine (va_up_ne _ _ (by omega)).trans ?_)), (by repeat (first | assumption | exact va_up_self _ _ _ | refine (va_up_ne _ _ (by omega)).trans ?_)), (by repeat (first | assumption | exact va_up_self _ _ _ | refine (va_up_ne _ _ (by omega)).trans ?_)), (by repeat (first | assumption | exact va_up_self _ _ _ | refine (va_up_ne _ _ (by omega)).trans ?_)), (by repeat (first | assumption | exact va_up_self _ _ _ | refine (va_up_ne _ _ (by omega)).trans ?_)), (by repeat (first | assumption | exact va_up_self _ _ _ | refine (va_up_ne _ _ (by omega)).trans ?_)), (by repeat (first | assumption | exact va_up_self _ _ _ | refine (va_up_ne _ _ (by omega)).trans ?_))⟩ (fun b h1 h2 => by simp only [va_up]; (repeat rw [if_neg (by omega)]); exact rgS_ne h1 h2)⟩)
          · refine v_aload_n dX2_takeLetter_65 rfl (by rfl) ?_
            refine v_iconst (v := nI 5) dX2_takeLetter_66 (by decide) ?_
            refine w_callV hE dX2_takeLetter_67 kX2_43 (by repeat (first | assumption | exact va_up_self _ _ _ | refine (va_up_ne _ _ (by omega)).trans ?_)) (by rfl) (by rfl) (sX2_fail hE h hg hb hd) rfl (by decide) (by decide) (by exact Nat.le_of_ble_eq_true rfl) (by omega) (by omega) (fun v9 g9 u9 h9 => ?_) (fun _ _ _ h => by cases h.1)
            obtain ⟨hv9, hu9, hg9⟩ := h9
            replace hu9 := hu9.symm
            replace hg9 := hg9.symm
            subst hu9
            subst hg9
            cases hv9
            refine v_iret dX2_takeLetter_70 rfl (by rfl) ?_
            unfold rTakeL
            first | (rw [if_pos (by assumption)]; exact ⟨rfl, rfl, rfl⟩) | (rw [if_neg (by omega), if_pos (by omega)]; exact ⟨rfl, rfl, rfl⟩) | (rw [if_neg (by omega), if_neg (by omega)]; exact ⟨rfl, rfl, rgS_ext hd (by repeat (first | assumption | exact va_up_self _ _ _ | refine (va_up_ne _ _ (by omega)).trans ?_)) ⟨(by repeat (first | assumption | exact va_up_self _ _ _ | refine (va_up_ne _ _ (by omega)).trans ?_)), (by repeat (first | assumption | exact va_up_self _ _ _ | refine (va_up_ne _ _ (by omega)).trans ?_)), (by repeat (first | assumption | exact va_up_self _ _ _ | refine (va_up_ne _ _ (by omega)).trans ?_)), (by repeat (first | assumption | exact va_up_self _ _ _ | refine (va_up_ne _ _ (by omega)).trans ?_)), (by repeat (first | assumption | exact va_up_self _ _ _ | refine (va_up_ne _ _ (by omega)).trans ?_)), (by repeat (first | assumption | exact va_up_self _ _ _ | refine (va_up_ne _ _ (by omega)).trans ?_)), (by repeat (first | assumption | exact va_up_self _ _ _ | refine (va_up_ne _ _ (by omega)).trans ?_)), (by repeat (first | assumption | exact va_up_self _ _ _ | refine (va_up_ne _ _ (by omega)).trans ?_)), (by repeat (first | assumption | exact va_up_self _ _ _ | refine (va_up_ne _ _ (by omega)).trans ?_))⟩ (fun b h1 h2 => by simp only [va_up]; (repeat rw [if_neg (by omega)]); exact rgS_ne h1 h2)⟩)
    · refine v_aload_n dX2_takeLetter_26 rfl (by rfl) ?_
      refine v_getf hE dX2_takeLetter_27 fX2_112 (by repeat (first | assumption | exact va_up_self _ _ _ | refine (va_up_ne _ _ (by omega)).trans ?_)) (by rfl) ?_
      refine v_aload_n dX2_takeLetter_30 rfl (by rfl) ?_
      refine v_getf hE dX2_takeLetter_31 fX2_106 (by repeat (first | assumption | exact va_up_self _ _ _ | refine (va_up_ne _ _ (by omega)).trans ?_)) (by rfl) ?_
      refine v_icmp_geN (tgt := 41) dX2_takeLetter_34 (by decide) (by omega) (by omega) (fun c34 => ?_) (fun c34 => ?_)
      · refine v_iconst (v := nI 0) dX2_takeLetter_41 (by decide) ?_
        refine v_istore_n dX2_takeLetter_42 rfl (by decide) ?_
        refine v_aload_n dX2_takeLetter_43 rfl (by rfl) ?_
        refine v_getf hE dX2_takeLetter_44 fX2_106 (by repeat (first | assumption | exact va_up_self _ _ _ | refine (va_up_ne _ _ (by omega)).trans ?_)) (by rfl) ?_
        refine v_if_leN (tgt := 71) dX2_takeLetter_47 (by decide) (by omega) (fun c47 => ?_) (fun c47 => ?_)
        · refine v_aload_n dX2_takeLetter_71 rfl (by rfl) ?_
          refine v_getf hE dX2_takeLetter_72 fX2_15 (by repeat (first | assumption | exact va_up_self _ _ _ | refine (va_up_ne _ _ (by omega)).trans ?_)) (by rfl) ?_
          refine v_iload_n dX2_takeLetter_75 rfl (by rfl) ?_
          refine v_aload_n dX2_takeLetter_76 rfl (by rfl) ?_
          refine v_getf hE dX2_takeLetter_77 fX2_33 (by repeat (first | assumption | exact va_up_self _ _ _ | refine (va_up_ne _ _ (by omega)).trans ?_)) (by rfl) ?_
          refine w_callV hE dX2_takeLetter_80 kX2_124 (by repeat (first | assumption | exact va_up_self _ _ _ | refine (va_up_ne _ _ (by omega)).trans ?_)) (by rfl) (by rfl) (sX1_addLetter hE h.2 hg hc) rfl (by decide) (by decide) (by exact Nat.le_of_ble_eq_true rfl) (by omega) (by omega) (fun v9 g9 u9 h9 => ?_) (fun _ _ _ h => by cases h.1)
          obtain ⟨hv9, hu9, hg9⟩ := h9
          replace hu9 := hu9.symm
          replace hg9 := hg9.symm
          subst hu9
          subst hg9
          cases hv9
          refine v_hp (rg_g hd h) ?_
          have z0 := (rgP_S (f := f) (tp := tp) (v := v) (g := gnAdd g x (nI (rAt v))) hd).1
          obtain ⟨z1, z2, z3, z4, z5, z6, z7, z8, z9⟩ := (rgP_S (f := f) (tp := tp) (v := v) (g := gnAdd g x (nI (rAt v))) hd).2
          refine v_aload_n dX2_takeLetter_83 rfl (by rfl) ?_
          refine v_dup dX2_takeLetter_84 rfl ?_
          refine v_getf hE dX2_takeLetter_85 fX2_109 (by repeat (first | assumption | exact va_up_self _ _ _ | refine (va_up_ne _ _ (by omega)).trans ?_)) (by rfl) ?_
          refine v_iconst (v := nI 1) dX2_takeLetter_88 (by decide) ?_
          refine v_iaddN dX2_takeLetter_89 ?_
          refine v_putf hE dX2_takeLetter_90 fX2_109 (by repeat (first | assumption | exact va_up_self _ _ _ | refine (va_up_ne _ _ (by omega)).trans ?_)) (by exact Nat.le_of_ble_eq_true rfl) (by rfl) (by rfl) (by rfl) ?_
          refine v_aload_n dX2_takeLetter_93 rfl (by rfl) ?_
          refine v_iconst (v := nI 4) dX2_takeLetter_94 (by decide) ?_
          refine v_putf hE dX2_takeLetter_95 fX2_19 (by repeat (first | assumption | exact va_up_self _ _ _ | refine (va_up_ne _ _ (by omega)).trans ?_)) (by exact Nat.le_of_ble_eq_true rfl) (by rfl) (by rfl) (by rfl) ?_
          refine v_iconst (v := nI 1) dX2_takeLetter_98 (by decide) ?_
          refine v_iret dX2_takeLetter_99 rfl (by rfl) ?_
          unfold rTakeL
          first | (rw [if_pos (by assumption)]; exact ⟨rfl, rfl, rfl⟩) | (rw [if_neg (by omega), if_pos (by omega)]; exact ⟨rfl, rfl, rfl⟩) | (rw [if_neg (by omega), if_neg (by omega)]; exact ⟨rfl, rfl, rgS_ext hd (by repeat (first | assumption | exact va_up_self _ _ _ | refine (va_up_ne _ _ (by omega)).trans ?_)) ⟨(by repeat (first | assumption | exact va_up_self _ _ _ | refine (va_up_ne _ _ (by omega)).trans ?_)), (by repeat (first | assumption | exact va_up_self _ _ _ | refine (va_up_ne _ _ (by omega)).trans ?_)), (by repeat (first | assumption | exact va_up_self _ _ _ | refine (va_up_ne _ _ (by omega)).trans ?_)), (by repeat (first | assumption | exact va_up_self _ _ _ | refine (va_up_ne _ _ (by omega)).trans ?_)), (by repeat (first | assumption | exact va_up_self _ _ _ | refine (va_up_ne _ _ (by omega)).trans ?_)), (by repeat (first | assumption | exact va_up_self _ _ _ | refine (va_up_ne _ _ (by omega)).trans ?_)), (by repeat (first | assumption | exact va_up_self _ _ _ | refine (va_up_ne _ _ (by omega)).trans ?_)), (by repeat (first | assumption | exact va_up_self _ _ _ | refine (va_up_ne _ _ (by omega)).trans ?_)), (by repeat (first | assumption | exact va_up_self _ _ _ | refine (va_up_ne _ _ (by omega)).trans ?_))⟩ (fun b h1 h2 => by simp only [va_up]; (repeat rw [if_neg (by omega)]); exact rgS_ne h1 h2)⟩)
        · refine v_aload_n dX2_takeLetter_50 rfl (by rfl) ?_
          refine v_getf hE dX2_takeLetter_51 fX2_109 (by repeat (first | assumption | exact va_up_self _ _ _ | refine (va_up_ne _ _ (by omega)).trans ?_)) (by rfl) ?_
          refine v_aload_n dX2_takeLetter_54 rfl (by rfl) ?_
          refine v_getf hE dX2_takeLetter_55 fX2_106 (by repeat (first | assumption | exact va_up_self _ _ _ | refine (va_up_ne _ _ (by omega)).trans ?_)) (by rfl) ?_
          refine v_icmp_eqN (tgt := 65) dX2_takeLetter_58 (by decide) (by omega) (by omega) (fun c58 => ?_) (fun c58 => ?_)
          · refine v_aload_n dX2_takeLetter_65 rfl (by rfl) ?_
            refine v_iconst (v := nI 5) dX2_takeLetter_66 (by decide) ?_
            refine w_callV hE dX2_takeLetter_67 kX2_43 (by repeat (first | assumption | exact va_up_self _ _ _ | refine (va_up_ne _ _ (by omega)).trans ?_)) (by rfl) (by rfl) (sX2_fail hE h hg hb hd) rfl (by decide) (by decide) (by exact Nat.le_of_ble_eq_true rfl) (by omega) (by omega) (fun v9 g9 u9 h9 => ?_) (fun _ _ _ h => by cases h.1)
            obtain ⟨hv9, hu9, hg9⟩ := h9
            replace hu9 := hu9.symm
            replace hg9 := hg9.symm
            subst hu9
            subst hg9
            cases hv9
            refine v_iret dX2_takeLetter_70 rfl (by rfl) ?_
            unfold rTakeL
            first | (rw [if_pos (by assumption)]; exact ⟨rfl, rfl, rfl⟩) | (rw [if_neg (by omega), if_pos (by omega)]; exact ⟨rfl, rfl, rfl⟩) | (rw [if_neg (by omega), if_neg (by omega)]; exact ⟨rfl, rfl, rgS_ext hd (by repeat (first | assumption | exact va_up_self _ _ _ | refine (va_up_ne _ _ (by omega)).trans ?_)) ⟨(by repeat (first | assumption | exact va_up_self _ _ _ | refine (va_up_ne _ _ (by omega)).trans ?_)), (by repeat (first | assumption | exact va_up_self _ _ _ | refine (va_up_ne _ _ (by omega)).trans ?_)), (by repeat (first | assumption | exact va_up_self _ _ _ | refine (va_up_ne _ _ (by omega)).trans ?_)), (by repeat (first | assumption | exact va_up_self _ _ _ | refine (va_up_ne _ _ (by omega)).trans ?_)), (by repeat (first | assumption | exact va_up_self _ _ _ | refine (va_up_ne _ _ (by omega)).trans ?_)), (by repeat (first | assumption | exact va_up_self _ _ _ | refine (va_up_ne _ _ (by omega)).trans ?_)), (by repeat (first | assumption | exact va_up_self _ _ _ | refine (va_up_ne _ _ (by omega)).trans ?_)), (by repeat (first | assumption | exact va_up_self _ _ _ | refine (va_up_ne _ _ (by omega)).trans ?_)), (by repeat (first | assumption | exact va_up_self _ _ _ | refine (va_up_ne _ _ (by omega)).trans ?_))⟩ (fun b h1 h2 => by simp only [va_up]; (repeat rw [if_neg (by omega)]); exact rgS_ne h1 h2)⟩)
          · refine v_iload_n dX2_takeLetter_61 rfl (by rfl) ?_
            refine v_if_eqN (tgt := 71) dX2_takeLetter_62 (by decide) (by omega) (fun c62 => ?_) (fun c62 => ?_)
            · refine v_aload_n dX2_takeLetter_71 rfl (by rfl) ?_
              refine v_getf hE dX2_takeLetter_72 fX2_15 (by repeat (first | assumption | exact va_up_self _ _ _ | refine (va_up_ne _ _ (by omega)).trans ?_)) (by rfl) ?_
              refine v_iload_n dX2_takeLetter_75 rfl (by rfl) ?_
              refine v_aload_n dX2_takeLetter_76 rfl (by rfl) ?_
              refine v_getf hE dX2_takeLetter_77 fX2_33 (by repeat (first | assumption | exact va_up_self _ _ _ | refine (va_up_ne _ _ (by omega)).trans ?_)) (by rfl) ?_
              refine w_callV hE dX2_takeLetter_80 kX2_124 (by repeat (first | assumption | exact va_up_self _ _ _ | refine (va_up_ne _ _ (by omega)).trans ?_)) (by rfl) (by rfl) (sX1_addLetter hE h.2 hg hc) rfl (by decide) (by decide) (by exact Nat.le_of_ble_eq_true rfl) (by omega) (by omega) (fun v9 g9 u9 h9 => ?_) (fun _ _ _ h => by cases h.1)
              obtain ⟨hv9, hu9, hg9⟩ := h9
              replace hu9 := hu9.symm
              replace hg9 := hg9.symm
              subst hu9
              subst hg9
              cases hv9
              refine v_hp (rg_g hd h) ?_
              have z0 := (rgP_S (f := f) (tp := tp) (v := v) (g := gnAdd g x (nI (rAt v))) hd).1
              obtain ⟨z1, z2, z3, z4, z5, z6, z7, z8, z9⟩ := (rgP_S (f := f) (tp := tp) (v := v) (g := gnAdd g x (nI (rAt v))) hd).2
              refine v_aload_n dX2_takeLetter_83 rfl (by rfl) ?_
              refine v_dup dX2_takeLetter_84 rfl ?_
              refine v_getf hE dX2_takeLetter_85 fX2_109 (by repeat (first | assumption | exact va_up_self _ _ _ | refine (va_up_ne _ _ (by omega)).trans ?_)) (by rfl) ?_
              refine v_iconst (v := nI 1) dX2_takeLetter_88 (by decide) ?_
              refine v_iaddN dX2_takeLetter_89 ?_
              refine v_putf hE dX2_takeLetter_90 fX2_109 (by repeat (first | assumption | exact va_up_self _ _ _ | refine (va_up_ne _ _ (by omega)).trans ?_)) (by exact Nat.le_of_ble_eq_true rfl) (by rfl) (by rfl) (by rfl) ?_
              refine v_aload_n dX2_takeLetter_93 rfl (by rfl) ?_
              refine v_iconst (v := nI 4) dX2_takeLetter_94 (by decide) ?_
              refine v_putf hE dX2_takeLetter_95 fX2_19 (by repeat (first | assumption | exact va_up_self _ _ _ | refine (va_up_ne _ _ (by omega)).trans ?_)) (by exact Nat.le_of_ble_eq_true rfl) (by rfl) (by rfl) (by rfl) ?_
              refine v_iconst (v := nI 1) dX2_takeLetter_98 (by decide) ?_
              refine v_iret dX2_takeLetter_99 rfl (by rfl) ?_
              unfold rTakeL
              first | (rw [if_pos (by assumption)]; exact ⟨rfl, rfl, rfl⟩) | (rw [if_neg (by omega), if_pos (by omega)]; exact ⟨rfl, rfl, rfl⟩) | (rw [if_neg (by omega), if_neg (by omega)]; exact ⟨rfl, rfl, rgS_ext hd (by repeat (first | assumption | exact va_up_self _ _ _ | refine (va_up_ne _ _ (by omega)).trans ?_)) ⟨(by repeat (first | assumption | exact va_up_self _ _ _ | refine (va_up_ne _ _ (by omega)).trans ?_)), (by repeat (first | assumption | exact va_up_self _ _ _ | refine (va_up_ne _ _ (by omega)).trans ?_)), (by repeat (first | assumption | exact va_up_self _ _ _ | refine (va_up_ne _ _ (by omega)).trans ?_)), (by repeat (first | assumption | exact va_up_self _ _ _ | refine (va_up_ne _ _ (by omega)).trans ?_)), (by repeat (first | assumption | exact va_up_self _ _ _ | refine (va_up_ne _ _ (by omega)).trans ?_)), (by repeat (first | assumption | exact va_up_self _ _ _ | refine (va_up_ne _ _ (by omega)).trans ?_)), (by repeat (first | assumption | exact va_up_self _ _ _ | refine (va_up_ne _ _ (by omega)).trans ?_)), (by repeat (first | assumption | exact va_up_self _ _ _ | refine (va_up_ne _ _ (by omega)).trans ?_)), (by repeat (first | assumption | exact va_up_self _ _ _ | refine (va_up_ne _ _ (by omega)).trans ?_))⟩ (fun b h1 h2 => by simp only [va_up]; (repeat rw [if_neg (by omega)]); exact rgS_ne h1 h2)⟩)
            · refine v_aload_n dX2_takeLetter_65 rfl (by rfl) ?_
              refine v_iconst (v := nI 5) dX2_takeLetter_66 (by decide) ?_
              refine w_callV hE dX2_takeLetter_67 kX2_43 (by repeat (first | assumption | exact va_up_self _ _ _ | refine (va_up_ne _ _ (by omega)).trans ?_)) (by rfl) (by rfl) (sX2_fail hE h hg hb hd) rfl (by decide) (by decide) (by exact Nat.le_of_ble_eq_true rfl) (by omega) (by omega) (fun v9 g9 u9 h9 => ?_) (fun _ _ _ h => by cases h.1)
              obtain ⟨hv9, hu9, hg9⟩ := h9
              replace hu9 := hu9.symm
              replace hg9 := hg9.symm
              subst hu9
              subst hg9
              cases hv9
              refine v_iret dX2_takeLetter_70 rfl (by rfl) ?_
              unfold rTakeL
              first | (rw [if_pos (by assumption)]; exact ⟨rfl, rfl, rfl⟩) | (rw [if_neg (by omega), if_pos (by omega)]; exact ⟨rfl, rfl, rfl⟩) | (rw [if_neg (by omega), if_neg (by omega)]; exact ⟨rfl, rfl, rgS_ext hd (by repeat (first | assumption | exact va_up_self _ _ _ | refine (va_up_ne _ _ (by omega)).trans ?_)) ⟨(by repeat (first | assumption | exact va_up_self _ _ _ | refine (va_up_ne _ _ (by omega)).trans ?_)), (by repeat (first | assumption | exact va_up_self _ _ _ | refine (va_up_ne _ _ (by omega)).trans ?_)), (by repeat (first | assumption | exact va_up_self _ _ _ | refine (va_up_ne _ _ (by omega)).trans ?_)), (by repeat (first | assumption | exact va_up_self _ _ _ | refine (va_up_ne _ _ (by omega)).trans ?_)), (by repeat (first | assumption | exact va_up_self _ _ _ | refine (va_up_ne _ _ (by omega)).trans ?_)), (by repeat (first | assumption | exact va_up_self _ _ _ | refine (va_up_ne _ _ (by omega)).trans ?_)), (by repeat (first | assumption | exact va_up_self _ _ _ | refine (va_up_ne _ _ (by omega)).trans ?_)), (by repeat (first | assumption | exact va_up_self _ _ _ | refine (va_up_ne _ _ (by omega)).trans ?_)), (by repeat (first | assumption | exact va_up_self _ _ _ | refine (va_up_ne _ _ (by omega)).trans ?_))⟩ (fun b h1 h2 => by simp only [va_up]; (repeat rw [if_neg (by omega)]); exact rgS_ne h1 h2)⟩)
      · refine v_iconst (v := nI 1) dX2_takeLetter_37 (by decide) ?_
        refine v_goto (tgt := 42) dX2_takeLetter_38 (by decide) ?_
        refine v_istore_n dX2_takeLetter_42 rfl (by decide) ?_
        refine v_aload_n dX2_takeLetter_43 rfl (by rfl) ?_
        refine v_getf hE dX2_takeLetter_44 fX2_106 (by repeat (first | assumption | exact va_up_self _ _ _ | refine (va_up_ne _ _ (by omega)).trans ?_)) (by rfl) ?_
        refine v_if_leN (tgt := 71) dX2_takeLetter_47 (by decide) (by omega) (fun c47 => ?_) (fun c47 => ?_)
        · refine v_aload_n dX2_takeLetter_71 rfl (by rfl) ?_
          refine v_getf hE dX2_takeLetter_72 fX2_15 (by repeat (first | assumption | exact va_up_self _ _ _ | refine (va_up_ne _ _ (by omega)).trans ?_)) (by rfl) ?_
          refine v_iload_n dX2_takeLetter_75 rfl (by rfl) ?_
          refine v_aload_n dX2_takeLetter_76 rfl (by rfl) ?_
          refine v_getf hE dX2_takeLetter_77 fX2_33 (by repeat (first | assumption | exact va_up_self _ _ _ | refine (va_up_ne _ _ (by omega)).trans ?_)) (by rfl) ?_
          refine w_callV hE dX2_takeLetter_80 kX2_124 (by repeat (first | assumption | exact va_up_self _ _ _ | refine (va_up_ne _ _ (by omega)).trans ?_)) (by rfl) (by rfl) (sX1_addLetter hE h.2 hg hc) rfl (by decide) (by decide) (by exact Nat.le_of_ble_eq_true rfl) (by omega) (by omega) (fun v9 g9 u9 h9 => ?_) (fun _ _ _ h => by cases h.1)
          obtain ⟨hv9, hu9, hg9⟩ := h9
          replace hu9 := hu9.symm
          replace hg9 := hg9.symm
          subst hu9
          subst hg9
          cases hv9
          refine v_hp (rg_g hd h) ?_
          have z0 := (rgP_S (f := f) (tp := tp) (v := v) (g := gnAdd g x (nI (rAt v))) hd).1
          obtain ⟨z1, z2, z3, z4, z5, z6, z7, z8, z9⟩ := (rgP_S (f := f) (tp := tp) (v := v) (g := gnAdd g x (nI (rAt v))) hd).2
          refine v_aload_n dX2_takeLetter_83 rfl (by rfl) ?_
          refine v_dup dX2_takeLetter_84 rfl ?_
          refine v_getf hE dX2_takeLetter_85 fX2_109 (by repeat (first | assumption | exact va_up_self _ _ _ | refine (va_up_ne _ _ (by omega)).trans ?_)) (by rfl) ?_
          refine v_iconst (v := nI 1) dX2_takeLetter_88 (by decide) ?_
          refine v_iaddN dX2_takeLetter_89 ?_
          refine v_putf hE dX2_takeLetter_90 fX2_109 (by repeat (first | assumption | exact va_up_self _ _ _ | refine (va_up_ne _ _ (by omega)).trans ?_)) (by exact Nat.le_of_ble_eq_true rfl) (by rfl) (by rfl) (by rfl) ?_
          refine v_aload_n dX2_takeLetter_93 rfl (by rfl) ?_
          refine v_iconst (v := nI 4) dX2_takeLetter_94 (by decide) ?_
          refine v_putf hE dX2_takeLetter_95 fX2_19 (by repeat (first | assumption | exact va_up_self _ _ _ | refine (va_up_ne _ _ (by omega)).trans ?_)) (by exact Nat.le_of_ble_eq_true rfl) (by rfl) (by rfl) (by rfl) ?_
          refine v_iconst (v := nI 1) dX2_takeLetter_98 (by decide) ?_
          refine v_iret dX2_takeLetter_99 rfl (by rfl) ?_
          unfold rTakeL
          first | (rw [if_pos (by assumption)]; exact ⟨rfl, rfl, rfl⟩) | (rw [if_neg (by omega), if_pos (by omega)]; exact ⟨rfl, rfl, rfl⟩) | (rw [if_neg (by omega), if_neg (by omega)]; exact ⟨rfl, rfl, rgS_ext hd (by repeat (first | assumption | exact va_up_self _ _ _ | refine (va_up_ne _ _ (by omega)).trans ?_)) ⟨(by repeat (first | assumption | exact va_up_self _ _ _ | refine (va_up_ne _ _ (by omega)).trans ?_)), (by repeat (first | assumption | exact va_up_self _ _ _ | refine (va_up_ne _ _ (by omega)).trans ?_)), (by repeat (first | assumption | exact va_up_self _ _ _ | refine (va_up_ne _ _ (by omega)).trans ?_)), (by repeat (first | assumption | exact va_up_self _ _ _ | refine (va_up_ne _ _ (by omega)).trans ?_)), (by repeat (first | assumption | exact va_up_self _ _ _ | refine (va_up_ne _ _ (by omega)).trans ?_)), (by repeat (first | assumption | exact va_up_self _ _ _ | refine (va_up_ne _ _ (by omega)).trans ?_)), (by repeat (first | assumption | exact va_up_self _ _ _ | refine (va_up_ne _ _ (by omega)).trans ?_)), (by repeat (first | assumption | exact va_up_self _ _ _ | refine (va_up_ne _ _ (by omega)).trans ?_)), (by repeat (first | assumption | exact va_up_self _ _ _ | refine (va_up_ne _ _ (by omega)).trans ?_))⟩ (fun b h1 h2 => by simp only [va_up]; (repeat rw [if_neg (by omega)]); exact rgS_ne h1 h2)⟩)
        · refine v_aload_n dX2_takeLetter_50 rfl (by rfl) ?_
          refine v_getf hE dX2_takeLetter_51 fX2_109 (by repeat (first | assumption | exact va_up_self _ _ _ | refine (va_up_ne _ _ (by omega)).trans ?_)) (by rfl) ?_
          refine v_aload_n dX2_takeLetter_54 rfl (by rfl) ?_
          refine v_getf hE dX2_takeLetter_55 fX2_106 (by repeat (first | assumption | exact va_up_self _ _ _ | refine (va_up_ne _ _ (by omega)).trans ?_)) (by rfl) ?_
          refine v_icmp_eqN (tgt := 65) dX2_takeLetter_58 (by decide) (by omega) (by omega) (fun c58 => ?_) (fun c58 => ?_)
          · refine v_aload_n dX2_takeLetter_65 rfl (by rfl) ?_
            refine v_iconst (v := nI 5) dX2_takeLetter_66 (by decide) ?_
            refine w_callV hE dX2_takeLetter_67 kX2_43 (by repeat (first | assumption | exact va_up_self _ _ _ | refine (va_up_ne _ _ (by omega)).trans ?_)) (by rfl) (by rfl) (sX2_fail hE h hg hb hd) rfl (by decide) (by decide) (by exact Nat.le_of_ble_eq_true rfl) (by omega) (by omega) (fun v9 g9 u9 h9 => ?_) (fun _ _ _ h => by cases h.1)
            obtain ⟨hv9, hu9, hg9⟩ := h9
            replace hu9 := hu9.symm
            replace hg9 := hg9.symm
            subst hu9
            subst hg9
            cases hv9
            refine v_iret dX2_takeLetter_70 rfl (by rfl) ?_
            unfold rTakeL
            first | (rw [if_pos (by assumption)]; exact ⟨rfl, rfl, rfl⟩) | (rw [if_neg (by omega), if_pos (by omega)]; exact ⟨rfl, rfl, rfl⟩) | (rw [if_neg (by omega), if_neg (by omega)]; exact ⟨rfl, rfl, rgS_ext hd (by repeat (first | assumption | exact va_up_self _ _ _ | refine (va_up_ne _ _ (by omega)).trans ?_)) ⟨(by repeat (first | assumption | exact va_up_self _ _ _ | refine (va_up_ne _ _ (by omega)).trans ?_)), (by repeat (first | assumption | exact va_up_self _ _ _ | refine (va_up_ne _ _ (by omega)).trans ?_)), (by repeat (first | assumption | exact va_up_self _ _ _ | refine (va_up_ne _ _ (by omega)).trans ?_)), (by repeat (first | assumption | exact va_up_self _ _ _ | refine (va_up_ne _ _ (by omega)).trans ?_)), (by repeat (first | assumption | exact va_up_self _ _ _ | refine (va_up_ne _ _ (by omega)).trans ?_)), (by repeat (first | assumption | exact va_up_self _ _ _ | refine (va_up_ne _ _ (by omega)).trans ?_)), (by repeat (first | assumption | exact va_up_self _ _ _ | refine (va_up_ne _ _ (by omega)).trans ?_)), (by repeat (first | assumption | exact va_up_self _ _ _ | refine (va_up_ne _ _ (by omega)).trans ?_)), (by repeat (first | assumption | exact va_up_self _ _ _ | refine (va_up_ne _ _ (by omega)).trans ?_))⟩ (fun b h1 h2 => by simp only [va_up]; (repeat rw [if_neg (by omega)]); exact rgS_ne h1 h2)⟩)
          · refine v_iload_n dX2_takeLetter_61 rfl (by rfl) ?_
            refine v_if_eqN (tgt := 71) dX2_takeLetter_62 (by decide) (by omega) (fun c62 => ?_) (fun c62 => ?_)
            · refine v_aload_n dX2_takeLetter_71 rfl (by rfl) ?_
              refine v_getf hE dX2_takeLetter_72 fX2_15 (by repeat (first | assumption | exact va_up_self _ _ _ | refine (va_up_ne _ _ (by omega)).trans ?_)) (by rfl) ?_
              refine v_iload_n dX2_takeLetter_75 rfl (by rfl) ?_
              refine v_aload_n dX2_takeLetter_76 rfl (by rfl) ?_
              refine v_getf hE dX2_takeLetter_77 fX2_33 (by repeat (first | assumption | exact va_up_self _ _ _ | refine (va_up_ne _ _ (by omega)).trans ?_)) (by rfl) ?_
              refine w_callV hE dX2_takeLetter_80 kX2_124 (by repeat (first | assumption | exact va_up_self _ _ _ | refine (va_up_ne _ _ (by omega)).trans ?_)) (by rfl) (by rfl) (sX1_addLetter hE h.2 hg hc) rfl (by decide) (by decide) (by exact Nat.le_of_ble_eq_true rfl) (by omega) (by omega) (fun v9 g9 u9 h9 => ?_) (fun _ _ _ h => by cases h.1)
              obtain ⟨hv9, hu9, hg9⟩ := h9
              replace hu9 := hu9.symm
              replace hg9 := hg9.symm
              subst hu9
              subst hg9
              cases hv9
              refine v_hp (rg_g hd h) ?_
              have z0 := (rgP_S (f := f) (tp := tp) (v := v) (g := gnAdd g x (nI (rAt v))) hd).1
              obtain ⟨z1, z2, z3, z4, z5, z6, z7, z8, z9⟩ := (rgP_S (f := f) (tp := tp) (v := v) (g := gnAdd g x (nI (rAt v))) hd).2
              refine v_aload_n dX2_takeLetter_83 rfl (by rfl) ?_
              refine v_dup dX2_takeLetter_84 rfl ?_
              refine v_getf hE dX2_takeLetter_85 fX2_109 (by repeat (first | assumption | exact va_up_self _ _ _ | refine (va_up_ne _ _ (by omega)).trans ?_)) (by rfl) ?_
              refine v_iconst (v := nI 1) dX2_takeLetter_88 (by decide) ?_
              refine v_iaddN dX2_takeLetter_89 ?_
              refine v_putf hE dX2_takeLetter_90 fX2_109 (by repeat (first | assumption | exact va_up_self _ _ _ | refine (va_up_ne _ _ (by omega)).trans ?_)) (by exact Nat.le_of_ble_eq_true rfl) (by rfl) (by rfl) (by rfl) ?_
              refine v_aload_n dX2_takeLetter_93 rfl (by rfl) ?_
              refine v_iconst (v := nI 4) dX2_takeLetter_94 (by decide) ?_
              refine v_putf hE dX2_takeLetter_95 fX2_19 (by repeat (first | assumption | exact va_up_self _ _ _ | refine (va_up_ne _ _ (by omega)).trans ?_)) (by exact Nat.le_of_ble_eq_true rfl) (by rfl) (by rfl) (by rfl) ?_
              refine v_iconst (v := nI 1) dX2_takeLetter_98 (by decide) ?_
              refine v_iret dX2_takeLetter_99 rfl (by rfl) ?_
              unfold rTakeL
              first | (rw [if_pos (by assumption)]; exact ⟨rfl, rfl, rfl⟩) | (rw [if_neg (by omega), if_pos (by omega)]; exact ⟨rfl, rfl, rfl⟩) | (rw [if_neg (by omega), if_neg (by omega)]; exact ⟨rfl, rfl, rgS_ext hd (by repeat (first | assumption | exact va_up_self _ _ _ | refine (va_up_ne _ _ (by omega)).trans ?_)) ⟨(by repeat (first | assumption | exact va_up_self _ _ _ | refine (va_up_ne _ _ (by omega)).trans ?_)), (by repeat (first | assumption | exact va_up_self _ _ _ | refine (va_up_ne _ _ (by omega)).trans ?_)), (by repeat (first | assumption | exact va_up_self _ _ _ | refine (va_up_ne _ _ (by omega)).trans ?_)), (by repeat (first | assumption | exact va_up_self _ _ _ | refine (va_up_ne _ _ (by omega)).trans ?_)), (by repeat (first | assumption | exact va_up_self _ _ _ | refine (va_up_ne _ _ (by omega)).trans ?_)), (by repeat (first | assumption | exact va_up_self _ _ _ | refine (va_up_ne _ _ (by omega)).trans ?_)), (by repeat (first | assumption | exact va_up_self _ _ _ | refine (va_up_ne _ _ (by omega)).trans ?_)), (by repeat (first | assumption | exact va_up_self _ _ _ | refine (va_up_ne _ _ (by omega)).trans ?_)), (by repeat (first | assumption | exact va_up_self _ _ _ | refine (va_up_ne _ _ (by omega)).trans ?_))⟩ (fun b h1 h2 => by simp only [va_up]; (repeat rw [if_neg (by omega)]); exact rgS_ne h1 h2)⟩)
            · refine v_aload_n dX2_takeLetter_65 rfl (by rfl) ?_
              refine v_iconst (v := nI 5) dX2_takeLetter_66 (by decide) ?_
              refine w_callV hE dX2_takeLetter_67 kX2_43 (by repeat (first | assumption | exact va_up_self _ _ _ | refine (va_up_ne _ _ (by omega)).trans ?_)) (by rfl) (by rfl) (sX2_fail hE h hg hb hd) rfl (by decide) (by decide) (by exact Nat.le_of_ble_eq_true rfl) (by omega) (by omega) (fun v9 g9 u9 h9 => ?_) (fun _ _ _ h => by cases h.1)
              obtain ⟨hv9, hu9, hg9⟩ := h9
              replace hu9 := hu9.symm
              replace hg9 := hg9.symm
              subst hu9
              subst hg9
              cases hv9
              refine v_iret dX2_takeLetter_70 rfl (by rfl) ?_
              unfold rTakeL
              first | (rw [if_pos (by assumption)]; exact ⟨rfl, rfl, rfl⟩) | (rw [if_neg (by omega), if_pos (by omega)]; exact ⟨rfl, rfl, rfl⟩) | (rw [if_neg (by omega), if_neg (by omega)]; exact ⟨rfl, rfl, rgS_ext hd (by repeat (first | assumption | exact va_up_self _ _ _ | refine (va_up_ne _ _ (by omega)).trans ?_)) ⟨(by repeat (first | assumption | exact va_up_self _ _ _ | refine (va_up_ne _ _ (by omega)).trans ?_)), (by repeat (first | assumption | exact va_up_self _ _ _ | refine (va_up_ne _ _ (by omega)).trans ?_)), (by repeat (first | assumption | exact va_up_self _ _ _ | refine (va_up_ne _ _ (by omega)).trans ?_)), (by repeat (first | assumption | exact va_up_self _ _ _ | refine (va_up_ne _ _ (by omega)).trans ?_)), (by repeat (first | assumption | exact va_up_self _ _ _ | refine (va_up_ne _ _ (by omega)).trans ?_)), (by repeat (first | assumption | exact va_up_self _ _ _ | refine (va_up_ne _ _ (by omega)).trans ?_)), (by repeat (first | assumption | exact va_up_self _ _ _ | refine (va_up_ne _ _ (by omega)).trans ?_)), (by repeat (first | assumption | exact va_up_self _ _ _ | refine (va_up_ne _ _ (by omega)).trans ?_)), (by repeat (first | assumption | exact va_up_self _ _ _ | refine (va_up_ne _ _ (by omega)).trans ?_))⟩ (fun b h1 h2 => by simp only [va_up]; (repeat rw [if_neg (by omega)]); exact rgS_ne h1 h2)⟩)
  · refine v_aload_n dX2_takeLetter_13 rfl (by rfl) ?_
    refine v_iconst (v := nI 3) dX2_takeLetter_14 (by decide) ?_
    refine w_callV hE dX2_takeLetter_15 kX2_43 (by repeat (first | assumption | exact va_up_self _ _ _ | refine (va_up_ne _ _ (by omega)).trans ?_)) (by rfl) (by rfl) (sX2_fail hE h hg hb hd) rfl (by decide) (by decide) (by exact Nat.le_of_ble_eq_true rfl) (by omega) (by omega) (fun v9 g9 u9 h9 => ?_) (fun _ _ _ h => by cases h.1)
    obtain ⟨hv9, hu9, hg9⟩ := h9
    replace hu9 := hu9.symm
    replace hg9 := hg9.symm
    subst hu9
    subst hg9
    cases hv9
    refine v_iret dX2_takeLetter_18 rfl (by rfl) ?_
    unfold rTakeL
    first | (rw [if_pos (by assumption)]; exact ⟨rfl, rfl, rfl⟩) | (rw [if_neg (by omega), if_pos (by omega)]; exact ⟨rfl, rfl, rfl⟩) | (rw [if_neg (by omega), if_neg (by omega)]; exact ⟨rfl, rfl, rgS_ext hd (by repeat (first | assumption | exact va_up_self _ _ _ | refine (va_up_ne _ _ (by omega)).trans ?_)) ⟨(by repeat (first | assumption | exact va_up_self _ _ _ | refine (va_up_ne _ _ (by omega)).trans ?_)), (by repeat (first | assumption | exact va_up_self _ _ _ | refine (va_up_ne _ _ (by omega)).trans ?_)), (by repeat (first | assumption | exact va_up_self _ _ _ | refine (va_up_ne _ _ (by omega)).trans ?_)), (by repeat (first | assumption | exact va_up_self _ _ _ | refine (va_up_ne _ _ (by omega)).trans ?_)), (by repeat (first | assumption | exact va_up_self _ _ _ | refine (va_up_ne _ _ (by omega)).trans ?_)), (by repeat (first | assumption | exact va_up_self _ _ _ | refine (va_up_ne _ _ (by omega)).trans ?_)), (by repeat (first | assumption | exact va_up_self _ _ _ | refine (va_up_ne _ _ (by omega)).trans ?_)), (by repeat (first | assumption | exact va_up_self _ _ _ | refine (va_up_ne _ _ (by omega)).trans ?_)), (by repeat (first | assumption | exact va_up_self _ _ _ | refine (va_up_ne _ _ (by omega)).trans ?_))⟩ (fun b h1 h2 => by simp only [va_up]; (repeat rw [if_neg (by omega)]); exact rgS_ne h1 h2)⟩)
