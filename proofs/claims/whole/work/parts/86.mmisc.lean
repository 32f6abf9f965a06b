def mCO (A : Nat) (x : Int32) : Int32 := if x = nI 46 then -1 else if mIn x (nI 48) (nI (48 + A)) = true then x - nI 48 else -2
set_option maxRecDepth 100000 in
set_option maxHeartbeats 600000 in
/-- model: callOf -/
theorem sX10_callOf {E : eN} (hE : eOk E) {f : aH} {t : Nat} {M : Nat} {y : mV} {r A : Nat} {x : Int32} (hA : y.1 24 r = nI A) (hr : r < 240) (hA3 : A ≤ 3) : mT E mX10_callOf 0 0 [.ref M, .int (nI r), .int x] (mdS f M y) t (fun o f' t' => o = .inl (some (.int (mCO A x))) ∧ t' = t ∧ f' = mdS f M y) := by
  refine mT_of (n := 0) (lo := [some (.ref M), some (.int (nI r)), some (.int x)]) (by decide) (by exact Nat.le_of_ble_eq_true rfl) rfl rfl ?_
  refine v_iload_n dX10_callOf_0 rfl (by rfl) ?_
  refine v_bipush (v := nI 46) dX10_callOf_1 (by decide) ?_
  refine v_icmp_ne (tgt := 10) dX10_callOf_3 (by decide) (fun c3 => ?_) (fun c3 => ?_)
  · refine v_iload_n dX10_callOf_10 rfl (by rfl) ?_
    refine v_bipush (v := nI 48) dX10_callOf_11 (by decide) ?_
    refine v_bipush (v := nI 48) dX10_callOf_13 (by decide) ?_
    refine v_aload_n dX10_callOf_15 rfl (by rfl) ?_
    refine v_getf hE dX10_callOf_16 fX10_84 mdS_M (by rfl) ?_
    refine v_iload_n dX10_callOf_19 rfl (by rfl) ?_
    refine m_iald hE (k := 24) dX10_callOf_20 (by decide) (by decide) rfl (show _ < 240 by omega) (by omega) ?_
    refine v_eqi (y := nI A) hA ?_
    refine v_iaddN dX10_callOf_21 ?_
    refine w_callS hE dX10_callOf_22 kX10_136 (by rfl) (sX10_in hE) rfl (by decide) (by decide) (by exact Nat.le_of_ble_eq_true rfl) (by omega) (by omega) (fun v9 g9 u9 h9 => ?_) (fun _ _ _ h => by cases h.1)
    obtain ⟨hv9, hu9, hg9⟩ := h9
    replace hu9 := hu9.symm
    replace hg9 := hg9.symm
    subst hu9
    subst hg9
    cases hv9
    refine v_if_eqB (tgt := 35) dX10_callOf_25 (by decide) (fun c25 => ?_) (fun c25 => ?_)
    · refine v_bipush (v := (-2)) dX10_callOf_35 (by decide) ?_
      refine v_iret dX10_callOf_37 rfl (by first | rfl | exact nar_bI) ?_
      refine ⟨congrArg (fun x => (Sum.inl (some (Value.int x)) : aO)) ?_, rfl, rfl⟩
      unfold mCO
      first | (rw [if_pos c3]; done) | (rw [if_neg c3, if_pos c25]; done) | (rw [if_neg c3, if_neg (by rw [c25]; decide)])
    · refine v_iload_n dX10_callOf_28 rfl (by rfl) ?_
      refine v_bipush (v := nI 48) dX10_callOf_29 (by decide) ?_
      refine v_isub dX10_callOf_31 ?_
      refine v_goto (tgt := 37) dX10_callOf_32 (by decide) ?_
      refine v_iret dX10_callOf_37 rfl (by first | rfl | exact nar_bI) ?_
      refine ⟨congrArg (fun x => (Sum.inl (some (Value.int x)) : aO)) ?_, rfl, rfl⟩
      unfold mCO
      first | (rw [if_pos c3]; done) | (rw [if_neg c3, if_pos c25]; done) | (rw [if_neg c3, if_neg (by rw [c25]; decide)])
  · refine v_iconst (v := (-1)) dX10_callOf_6 (by decide) ?_
    refine v_goto (tgt := 37) dX10_callOf_7 (by decide) ?_
    refine v_iret dX10_callOf_37 rfl (by first | rfl | exact nar_bI) ?_
    refine ⟨congrArg (fun x => (Sum.inl (some (Value.int x)) : aO)) ?_, rfl, rfl⟩
    unfold mCO
    first | (rw [if_pos c3]; done) | (rw [if_neg c3, if_pos c25]; done) | (rw [if_neg c3, if_neg (by rw [c25]; decide)])

/-! what apply makes: letters l, each with its place in the reference -/
def mMk (y : mV) (l : List (Int32 × Int32)) : Prop := y.2 51 = nI l.length ∧ (∀ k, k < l.length → y.1 38 k = (l.getD k (0, 0)).1 ∧ y.1 39 k = (l.getD k (0, 0)).2)
theorem gP_l {l m : List (Int32 × Int32)} {k : Nat} (h : k < l.length) : (l ++ m).getD k (0, 0) = l.getD k (0, 0) := by
  rw [List.getD_eq_getElem?_getD, List.getD_eq_getElem?_getD, List.getElem?_append_left h]
theorem gP_r {l : List (Int32 × Int32)} {c : Int32 × Int32} : (l ++ [c]).getD l.length (0, 0) = c := by
  rw [List.getD_eq_getElem?_getD, List.getElem?_append_right (Nat.le_refl _), Nat.sub_self]
  rfl
abbrev kS (y : mV) (T U : Nat → Int32) (n : Nat) : mV := (va_up (va_up y.1 38 T) 39 U, va_up y.2 51 (nI n))
def kTl (T U : Nat → Int32) (l : List (Int32 × Int32)) : Prop := (∀ k, k < l.length → T k = (l.getD k (0, 0)).1 ∧ U k = (l.getD k (0, 0)).2) ∧ ∀ i, vp_nar .byte (T i) = T i
theorem kTl_s {T U : Nat → Int32} {l : List (Int32 × Int32)} {c : Nat} {x : Int32} (h : kTl T U l) (hc : c < 128) : kTl (upd T l.length (nI c)) (upd U l.length x) (l ++ [(nI c, x)]) := by
  refine ⟨fun k h1 => ?_, upd_nar h.2 (by have := i8_nar (nI c); rwa [byt c hc] at this)⟩
  rw [List.length_append] at h1
  have h1 : k < l.length + 1 := h1
  by_cases e : k = l.length
  · rw [e, updS, updS, gP_r]
    exact ⟨rfl, rfl⟩
  · rw [updN e, updN e, gP_l (by omega)]
    exact h.1 k (by omega)
set_option maxRecDepth 100000 in
set_option maxHeartbeats 600000 in
/-- model: add -/
theorem sX10_add {E : eN} (hE : eOk E) {f : aH} {t : Nat} {M : Nat} {y : mV} {T U : Nat → Int32} {l : List (Int32 × Int32)} {c : Nat} {x : Int32} (hT : kTl T U l) (hl : l.length < 8200) (hc : c < 128) : mT E mX10_add 0 0 [.ref M, .int (nI c), .int x] (mdS f M (kS y T U l.length)) t (fun o f' t' => o = .inl none ∧ t' = t ∧ f' = mdS f M (kS y (upd T l.length (nI c)) (upd U l.length x) (l ++ [(nI c, x)]).length)) := by
  refine mT_of (n := 0) (lo := [some (.ref M), some (.int (nI c)), some (.int x)]) (by decide) (by exact Nat.le_of_ble_eq_true rfl) rfl rfl ?_
  refine v_aload_n dX10_add_0 rfl (by rfl) ?_
  refine v_getf hE dX10_add_1 fX10_127 mdS_M (by rfl) ?_
  refine v_aload_n dX10_add_4 rfl (by rfl) ?_
  refine v_getf hE dX10_add_5 fX10_359 mdS_M (by rfl) ?_
  refine v_eqi (y := nI l.length) rfl ?_
  refine v_iload_n dX10_add_8 rfl (by rfl) ?_
  refine v_i2b dX10_add_9 rfl ?_
  refine m_bast hE (k := 38) dX10_add_10 (by decide) (by decide) rfl (show _ < 8200 by omega) (by omega) ?_
  rw [i8_nar, byt c hc]
  refine v_aload_n dX10_add_11 rfl (by rfl) ?_
  refine v_getf hE dX10_add_12 fX10_130 mdS_M (by rfl) ?_
  refine v_aload_n dX10_add_15 rfl (by rfl) ?_
  refine v_getf hE dX10_add_16 fX10_359 mdS_M (by rfl) ?_
  refine v_eqi (y := nI l.length) rfl ?_
  refine v_iload_n dX10_add_19 rfl (by rfl) ?_
  refine m_iast hE (k := 39) dX10_add_20 (by decide) (by decide) rfl (show _ < 8200 by omega) (by omega) ?_
  refine v_aload_n dX10_add_21 rfl (by rfl) ?_
  refine v_dup dX10_add_22 rfl ?_
  refine v_getf hE dX10_add_23 fX10_359 mdS_M (by rfl) ?_
  refine v_eqi (y := nI l.length) rfl ?_
  refine v_iconst (v := nI 1) dX10_add_26 (by decide) ?_
  refine v_iaddN dX10_add_27 ?_
  refine m_put hE (j := 51) dX10_add_28 fX10_359 (by exact Nat.le_of_ble_eq_true rfl) (by rfl) (by rfl) (by rfl) (by rfl) ?_
  refine v_ret dX10_add_31 rfl ?_
  refine ⟨rfl, rfl, ?_⟩
  rw [List.length_append]
  refine congrArg (mdS f M) (Prod.ext ?_ va_up_up)
  funext k9
  show va_up (va_up (va_up (va_up y.1 38 T) 39 U) 38 (upd T l.length (nI c))) 39 (upd U l.length x) k9 = va_up (va_up y.1 38 (upd T l.length (nI c))) 39 (upd U l.length x) k9
  by_cases e9 : k9 = 39
  · rw [e9, va_up_self, va_up_self]
  · rw [va_up_ne _ _ e9, va_up_ne _ _ e9]
    by_cases e8 : k9 = 38
    · rw [e8, va_up_self, va_up_self]
    · rw [va_up_ne _ _ e8, va_up_ne _ _ e8, va_up_ne _ _ e9, va_up_ne _ _ e8]
