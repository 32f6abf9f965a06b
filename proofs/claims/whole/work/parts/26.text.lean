def txI (cs : List Nat) : List Int32 := cs.map nI
def tBeg (s : tS) (i : Nat) (cs : List Nat) : Bool := decide (i + cs.length ≤ s.1) && allB (fun k => decide (s.2.1 (i + k) = nI (cs.getD k 0))) (cs.length - 0) 0
def tIs (s : tS) (i j : Nat) (cs : List Nat) : Bool := decide (j - i = cs.length) && tBeg s i cs
theorem txI_drop {cs : List Nat} {k : Nat} (h : k < cs.length) : txI (cs.drop k) = nI (cs.getD k 0) :: txI (cs.drop (k + 1)) := by
  unfold txI
  rw [List.drop_eq_getElem_cons h, List.map_cons, List.getD_eq_getElem?_getD, List.getElem?_eq_getElem h]
  rfl

set_option maxRecDepth 100000 in
set_option maxHeartbeats 4000000 in
/-- Octets.addText -/
theorem sX6_addText {E : eN} (hE : eOk E) {f : aH} {t : Nat} {a q : Nat} {s : tS} {cs : List Nat} (h : oP f a s) (hS : eSt E) (hx : strAt E cs q) (hcs : ∀ c ∈ cs, c < 128) (hcl : cs.length < 100) : mT E mX6_addText 0 0 [.ref a, .ref q] f t (fun o f' t' => o = .inl none ∧ t' = t ∧ f' = oS f a (tAdds s (txI cs))) := by
  refine mT_of (n := 1) (lo := [some (.ref a), some (.ref q), none]) (by decide) (by exact Nat.le_of_ble_eq_true rfl) rfl rfl ?_
  have lp : ∀ (d : Nat) (k : Nat) (u : tS), k + d = cs.length → u.1 ≤ 8000 → tAdds s (txI cs) = tAdds u (txI (cs.drop k)) → V E mX6_addText 0 0 (fun o f' t' => o = .inl none ∧ t' = t ∧ f' = oS f a (tAdds s (txI cs))) 2 [some (.ref a), some (.ref q), some (.int (nI k))] [] (oS f a u) t 0 0 := by
    intro d
    induction d using Nat.strongRecOn with
    | _ d ih =>
    intro k u hk hu he
    have h1 := (oP_S (f := f) (a := a) hu).1.1
    have h2 := (oP_S (f := f) (a := a) hu).1.2
    refine v_iload_n dX6_addText_2 rfl (by rfl) ?_
    refine v_aload_n dX6_addText_3 rfl (by rfl) ?_
    refine v_callO hE dX6_addText_4 kX6_23 hx rfl (by rfl) (sJ0_length_8abf5 hE hS hx) rfl (by decide) (by decide) (by exact Nat.le_of_ble_eq_true rfl) (by omega) (by omega) (fun v9 g9 u9 h9 => ?_) (fun _ _ _ h => by cases h.1)
    obtain ⟨hv9, hu9, hg9⟩ := h9
    replace hu9 := hu9.symm
    replace hg9 := hg9.symm
    subst hu9
    subst hg9
    cases hv9
    refine v_icmp_geN (tgt := 25) dX6_addText_7 (by decide) (by omega) (by omega) (fun c7 => ?_) (fun c7 => ?_)
    · refine v_ret dX6_addText_25 rfl ?_
      refine ⟨rfl, rfl, ?_⟩
      rw [he, List.drop_eq_nil_of_le (by omega)]
      rfl
    · refine v_aload_n dX6_addText_10 rfl (by rfl) ?_
      refine v_aload_n dX6_addText_11 rfl (by rfl) ?_
      refine v_iload_n dX6_addText_12 rfl (by rfl) ?_
      refine v_callO hE dX6_addText_13 kX6_29 hx rfl (by rfl) (sJ0_charAt_5068e hE hS hx hcs c7 (by omega)) rfl (by decide) (by decide) (by exact Nat.le_of_ble_eq_true rfl) (by omega) (by omega) (fun v9 g9 u9 h9 => ?_) (fun _ _ _ h => by cases h.1)
      obtain ⟨hv9, hu9, hg9⟩ := h9
      replace hu9 := hu9.symm
      replace hg9 := hg9.symm
      subst hu9
      subst hg9
      cases hv9
      refine w_callV hE dX6_addText_16 kX6_33 (by repeat (first | assumption | exact va_up_self _ _ _ | refine (va_up_ne _ _ (by omega)).trans ?_)) (by rfl) (by rfl) (uX6_add hE (oP_S hu)) rfl (by decide) (by decide) (by exact Nat.le_of_ble_eq_true rfl) (by omega) (by omega) (fun v9 g9 u9 h9 => ?_) (fun _ _ _ h => by cases h.1)
      obtain ⟨hv9, hu9, hg9⟩ := h9
      replace hu9 := hu9.symm
      replace hg9 := hg9.symm
      subst hu9
      subst hg9
      cases hv9
      refine v_hp oS_S ?_
      refine v_iincN (y := 1) dX6_addText_19 (by rfl) (by decide) (by decide) ?_
      refine v_goto (tgt := 2) dX6_addText_22 (by decide) ?_
      exact ih (d - 1) (by omega) (k + 1) _ (by omega) (tAdd_le hu) (he.trans (by rw [txI_drop c7]; rfl))
  refine v_iconst (v := nI 0) dX6_addText_0 (by decide) ?_
  refine v_istore_n dX6_addText_1 rfl (by decide) ?_
  refine v_hp (oS_id h).symm ?_
  exact lp cs.length 0 s (by omega) h.2 rfl

set_option maxRecDepth 100000 in
set_option maxHeartbeats 4000000 in
/-- Octets.beginsWith -/
theorem sX6_beginsWith {E : eN} (hE : eOk E) {f : aH} {t : Nat} {a q i : Nat} {s : tS} {cs : List Nat} (h : oP f a s) (hS : eSt E) (hx : strAt E cs q) (hcs : ∀ c ∈ cs, c < 128) (hcl : cs.length < 100) (hi : i < 2 ^ 29) : mT E mX6_beginsWith 0 0 [.ref a, .int (nI i), .ref q] f t (fun o f' t' => o = .inl (some (.int (bI (tBeg s i cs)))) ∧ t' = t ∧ f' = f) := by
  refine mT_of (n := 1) (lo := [some (.ref a), some (.int (nI i)), some (.ref q), none]) (by decide) (by exact Nat.le_of_ble_eq_true rfl) rfl rfl ?_
  obtain ⟨⟨h1, h2⟩, h3⟩ := id h
  have lp : i + cs.length ≤ s.1 → ∀ (d : Nat) (k : Nat), k + d = cs.length → tBeg s i cs = allB (fun k => decide (s.2.1 (i + k) = nI (cs.getD k 0))) (cs.length - k) k → V E mX6_beginsWith 0 0 (fun o f' t' => o = .inl (some (.int (bI (tBeg s i cs)))) ∧ t' = t ∧ f' = f) 21 [some (.ref a), some (.int (nI i)), some (.ref q), some (.int (nI k))] [] f t 0 0 := by
    intro b1 d
    induction d using Nat.strongRecOn with
    | _ d ih =>
    intro k hk he
    refine v_iload_n dX6_beginsWith_21 rfl (by rfl) ?_
    refine v_aload_n dX6_beginsWith_22 rfl (by rfl) ?_
    refine v_callO hE dX6_beginsWith_23 kX6_23 hx rfl (by rfl) (sJ0_length_8abf5 hE hS hx) rfl (by decide) (by decide) (by exact Nat.le_of_ble_eq_true rfl) (by omega) (by omega) (fun v9 g9 u9 h9 => ?_) (fun _ _ _ h => by cases h.1)
    obtain ⟨hv9, hu9, hg9⟩ := h9
    replace hu9 := hu9.symm
    replace hg9 := hg9.symm
    subst hu9
    subst hg9
    cases hv9
    refine v_icmp_geN (tgt := 53) dX6_beginsWith_26 (by decide) (by omega) (by omega) (fun c26 => ?_) (fun c26 => ?_)
    · refine v_iconst (v := nI 1) dX6_beginsWith_53 (by decide) ?_
      refine v_iret dX6_beginsWith_54 rfl (by rfl) ?_
      first | exact ⟨congrArg (fun x => (Sum.inl (some (Value.int x)) : aO)) (bI_t (he.trans (allB_0 (by omega)))), rfl, rfl⟩ | exact ⟨congrArg (fun x => (Sum.inl (some (Value.int x)) : aO)) (bI_f (he.trans (allB_f c26 (decide_eq_false c42)))), rfl, rfl⟩
    · refine v_aload_n dX6_beginsWith_29 rfl (by rfl) ?_
      refine v_getf hE dX6_beginsWith_30 fX6_9 (by repeat (first | assumption | exact va_up_self _ _ _ | refine (va_up_ne _ _ (by omega)).trans ?_)) (by rfl) ?_
      refine v_iload_n dX6_beginsWith_33 rfl (by rfl) ?_
      refine v_iload_n dX6_beginsWith_34 rfl (by rfl) ?_
      refine v_iaddN dX6_beginsWith_35 ?_
      refine v_iald hE dX6_beginsWith_36 (by repeat (first | assumption | exact va_up_self _ _ _ | refine (va_up_ne _ _ (by omega)).trans ?_)) (by omega) (by omega) ?_
      refine v_aload_n dX6_beginsWith_37 rfl (by rfl) ?_
      refine v_iload_n dX6_beginsWith_38 rfl (by rfl) ?_
      refine v_callO hE dX6_beginsWith_39 kX6_29 hx rfl (by rfl) (sJ0_charAt_5068e hE hS hx hcs c26 (by omega)) rfl (by decide) (by decide) (by exact Nat.le_of_ble_eq_true rfl) (by omega) (by omega) (fun v9 g9 u9 h9 => ?_) (fun _ _ _ h => by cases h.1)
      obtain ⟨hv9, hu9, hg9⟩ := h9
      replace hu9 := hu9.symm
      replace hg9 := hg9.symm
      subst hu9
      subst hg9
      cases hv9
      refine v_icmp_eq (tgt := 47) dX6_beginsWith_42 (by decide) (fun c42 => ?_) (fun c42 => ?_)
      · refine v_iincN (y := 1) dX6_beginsWith_47 (by rfl) (by decide) (by decide) ?_
        refine v_goto (tgt := 21) dX6_beginsWith_50 (by decide) ?_
        exact ih (d - 1) (by omega) (k + 1) (by omega) (he.trans (allB_s c26 (decide_eq_true c42)))
      · refine v_iconst (v := nI 0) dX6_beginsWith_45 (by decide) ?_
        refine v_iret dX6_beginsWith_46 rfl (by rfl) ?_
        first | exact ⟨congrArg (fun x => (Sum.inl (some (Value.int x)) : aO)) (bI_t (he.trans (allB_0 (by omega)))), rfl, rfl⟩ | exact ⟨congrArg (fun x => (Sum.inl (some (Value.int x)) : aO)) (bI_f (he.trans (allB_f c26 (decide_eq_false c42)))), rfl, rfl⟩
  refine v_iload_n dX6_beginsWith_0 rfl (by rfl) ?_
  refine v_if_lt (tgt := 17) dX6_beginsWith_1 (by decide) (fun c1 => ?_) (fun c1 => ?_)
  · exact absurd c1 (nI_pos (by omega))
  · refine v_iload_n dX6_beginsWith_4 rfl (by rfl) ?_
    refine v_aload_n dX6_beginsWith_5 rfl (by rfl) ?_
    refine v_callO hE dX6_beginsWith_6 kX6_23 hx rfl (by rfl) (sJ0_length_8abf5 hE hS hx) rfl (by decide) (by decide) (by exact Nat.le_of_ble_eq_true rfl) (by omega) (by omega) (fun v9 g9 u9 h9 => ?_) (fun _ _ _ h => by cases h.1)
    obtain ⟨hv9, hu9, hg9⟩ := h9
    replace hu9 := hu9.symm
    replace hg9 := hg9.symm
    subst hu9
    subst hg9
    cases hv9
    refine v_iaddN dX6_beginsWith_9 ?_
    refine v_aload_n dX6_beginsWith_10 rfl (by rfl) ?_
    refine v_getf hE dX6_beginsWith_11 fX6_15 (by repeat (first | assumption | exact va_up_self _ _ _ | refine (va_up_ne _ _ (by omega)).trans ?_)) (by rfl) ?_
    refine v_icmp_leN (tgt := 19) dX6_beginsWith_14 (by decide) (by omega) (by omega) (fun c14 => ?_) (fun c14 => ?_)
    · refine v_iconst (v := nI 0) dX6_beginsWith_19 (by decide) ?_
      refine v_istore_n dX6_beginsWith_20 rfl (by decide) ?_
      exact lp (by omega) cs.length 0 (by omega) (by unfold tBeg; rw [decide_eq_true (by omega)]; rfl)
    · refine v_iconst (v := nI 0) dX6_beginsWith_17 (by decide) ?_
      refine v_iret dX6_beginsWith_18 rfl (by rfl) ?_
      refine ⟨congrArg (fun x => (Sum.inl (some (Value.int x)) : aO)) (bI_f ?_), rfl, rfl⟩
      unfold tBeg
      rw [decide_eq_false (by omega)]; rfl

set_option maxRecDepth 100000 in
set_option maxHeartbeats 4000000 in
/-- Octets.isText -/
theorem sX6_isText {E : eN} (hE : eOk E) {f : aH} {t : Nat} {a q i j : Nat} {s : tS} {cs : List Nat} (h : oP f a s) (hS : eSt E) (hx : strAt E cs q) (hcs : ∀ c ∈ cs, c < 128) (hcl : cs.length < 100) (hij : i ≤ j) (hj : j < 2 ^ 29) : mT E mX6_isText 0 0 [.ref a, .int (nI i), .int (nI j), .ref q] f t (fun o f' t' => o = .inl (some (.int (bI (tIs s i j cs)))) ∧ t' = t ∧ f' = f) := by
  refine mT_of (n := 0) (lo := [some (.ref a), some (.int (nI i)), some (.int (nI j)), some (.ref q)]) (by decide) (by exact Nat.le_of_ble_eq_true rfl) rfl rfl ?_
  obtain ⟨⟨h1, h2⟩, h3⟩ := id h
  refine v_iload_n dX6_isText_0 rfl (by rfl) ?_
  refine v_iload_n dX6_isText_1 rfl (by rfl) ?_
  refine v_isubN dX6_isText_2 (by omega) ?_
  refine v_aload_n dX6_isText_3 rfl (by rfl) ?_
  refine v_callO hE dX6_isText_4 kX6_23 hx rfl (by rfl) (sJ0_length_8abf5 hE hS hx) rfl (by decide) (by decide) (by exact Nat.le_of_ble_eq_true rfl) (by omega) (by omega) (fun v9 g9 u9 h9 => ?_) (fun _ _ _ h => by cases h.1)
  obtain ⟨hv9, hu9, hg9⟩ := h9
  replace hu9 := hu9.symm
  replace hg9 := hg9.symm
  subst hu9
  subst hg9
  cases hv9
  refine v_icmp_neN (tgt := 23) dX6_isText_7 (by decide) (by omega) (by omega) (fun c7 => ?_) (fun c7 => ?_)
  · refine v_iconst (v := nI 0) dX6_isText_23 (by decide) ?_
    refine v_iret dX6_isText_24 rfl (by rfl) ?_
    refine ⟨congrArg (fun x => (Sum.inl (some (Value.int x)) : aO)) ?_, rfl, rfl⟩
    unfold tIs
    first | exact bI_t (by rw [decide_eq_true c7, c16]; rfl) | exact bI_f (by rw [decide_eq_false c7]; rfl) | exact bI_f (by rw [c16, Bool.and_false])
  · refine v_aload_n dX6_isText_10 rfl (by rfl) ?_
    refine v_iload_n dX6_isText_11 rfl (by rfl) ?_
    refine v_aload_n dX6_isText_12 rfl (by rfl) ?_
    refine w_callV hE dX6_isText_13 kX6_47 (by repeat (first | assumption | exact va_up_self _ _ _ | refine (va_up_ne _ _ (by omega)).trans ?_)) (by rfl) (by rfl) (sX6_beginsWith hE h hS hx hcs hcl (by omega)) rfl (by decide) (by decide) (by exact Nat.le_of_ble_eq_true rfl) (by omega) (by omega) (fun v9 g9 u9 h9 => ?_) (fun _ _ _ h => by cases h.1)
    obtain ⟨hv9, hu9, hg9⟩ := h9
    replace hu9 := hu9.symm
    replace hg9 := hg9.symm
    subst hu9
    subst hg9
    cases hv9
    refine v_if_eqB (tgt := 23) dX6_isText_16 (by decide) (fun c16 => ?_) (fun c16 => ?_)
    · refine v_iconst (v := nI 0) dX6_isText_23 (by decide) ?_
      refine v_iret dX6_isText_24 rfl (by rfl) ?_
      refine ⟨congrArg (fun x => (Sum.inl (some (Value.int x)) : aO)) ?_, rfl, rfl⟩
      unfold tIs
      first | exact bI_t (by rw [decide_eq_true c7, c16]; rfl) | exact bI_f (by rw [decide_eq_false c7]; rfl) | exact bI_f (by rw [c16, Bool.and_false])
    · refine v_iconst (v := nI 1) dX6_isText_19 (by decide) ?_
      refine v_goto (tgt := 24) dX6_isText_20 (by decide) ?_
      refine v_iret dX6_isText_24 rfl (by rfl) ?_
      refine ⟨congrArg (fun x => (Sum.inl (some (Value.int x)) : aO)) ?_, rfl, rfl⟩
      unfold tIs
      first | exact bI_t (by rw [decide_eq_true c7, c16]; rfl) | exact bI_f (by rw [decide_eq_false c7]; rfl) | exact bI_f (by rw [c16, Bool.and_false])
