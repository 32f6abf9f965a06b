/-! truth as a number -/
def bI (b : Bool) : Int32 := if b = true then nI 1 else nI 0
theorem bI_t {b : Bool} (h : b = true) : nI 1 = bI b := by rw [h]; rfl
theorem bI_f {b : Bool} (h : b = false) : nI 0 = bI b := by rw [h]; rfl
/-- whether p holds for d places from j on -/
def allB (p : Nat → Bool) : Nat → Nat → Bool
  | 0, _ => true
  | d + 1, j => p j && allB p d (j + 1)
theorem allB_f {p : Nat → Bool} {i j : Nat} (h : i < j) (hp : p i = false) : allB p (j - i) i = false := by
  rw [show j - i = (j - (i + 1)) + 1 by omega]
  show (p i && _) = false
  rw [hp]; rfl
theorem allB_s {p : Nat → Bool} {i j : Nat} (h : i < j) (hp : p i = true) : allB p (j - i) i = allB p (j - (i + 1)) (i + 1) := by
  rw [show j - i = (j - (i + 1)) + 1 by omega]
  show (p i && _) = _
  rw [hp, Bool.true_and]
theorem allB_0 {p : Nat → Bool} {i j : Nat} (h : j ≤ i) : allB p (j - i) i = true := by rw [show j - i = 0 by omega]; rfl
theorem upd_nI {s : Nat → Nat} {i v : Nat} : upd (fun k => nI (s k)) i (nI v) = fun k => nI (va_up s i v k) := by
  funext k
  by_cases h : k = i
  · subst h; simp [upd, va_up]
  · simp [upd, va_up, h]
def okO (s : tS) (k : Nat) : Bool := decide (nI 32 < ocAt s.1 s.2.1 (nI k)) && decide (ocAt s.1 s.2.1 (nI k) ≤ nI 126)
def tWord (s : tS) (i j : Nat) : Bool := decide (i < j) && (decide (j - i ≤ 20) && allB (okO s) (j - i) i)

set_option maxRecDepth 100000 in
set_option maxHeartbeats 4000000 in
/-- Octets.isWord(i, j) -/
theorem sX6_isWord {E : eN} (hE : eOk E) {f : aH} {t : Nat} {a i j : Nat} {s : tS} (h : oP f a s) (hi : i < 2 ^ 30) (hj : j < 2 ^ 30) : mT E mX6_isWord 0 0 [.ref a, .int (nI i), .int (nI j)] f t (fun o f' t' => o = .inl (some (.int (bI (tWord s i j)))) ∧ t' = t ∧ f' = f) := by
  refine mT_of (n := 1) (lo := [some (.ref a), some (.int (nI i)), some (.int (nI j)), none]) (by decide) (by exact Nat.le_of_ble_eq_true rfl) rfl rfl ?_
  have h' := h
  obtain ⟨⟨h1, h2⟩, h3⟩ := h'
  have lp : ∀ (d : Nat) (k : Nat), k + d = j → tWord s i j = allB (okO s) (j - k) k → V E mX6_isWord 0 0 (fun o f' t' => o = .inl (some (.int (bI (tWord s i j)))) ∧ t' = t ∧ f' = f) 17 [some (.ref a), some (.int (nI i)), some (.int (nI j)), some (.int (nI k))] [] f t 0 0 := by
    intro d
    induction d using Nat.strongRecOn with
    | _ d ih =>
    intro k hk he
    refine v_iload_n dX6_isWord_17 rfl (by rfl) ?_
    refine v_iload_n dX6_isWord_18 rfl (by rfl) ?_
    refine v_icmp_geN (tgt := 50) dX6_isWord_19 (by decide) (by omega) (by omega) (fun c19 => ?_) (fun c19 => ?_)
    · refine v_iconst (v := nI 1) dX6_isWord_50 (by decide) ?_
      refine v_iret dX6_isWord_51 rfl (by rfl) ?_
      first | exact ⟨congrArg (fun x => (Sum.inl (some (Value.int x)) : aO)) (bI_t (he.trans (allB_0 (by omega)))), rfl, rfl⟩ | exact ⟨congrArg (fun x => (Sum.inl (some (Value.int x)) : aO)) (bI_f (he.trans (allB_f c19 (by unfold okO; rw [decide_eq_false (Int32.not_lt.mpr c29)]; rfl)))), rfl, rfl⟩ | exact ⟨congrArg (fun x => (Sum.inl (some (Value.int x)) : aO)) (bI_f (he.trans (allB_f c19 (by unfold okO; rw [decide_eq_false c39, Bool.and_false])))), rfl, rfl⟩
    · refine v_aload_n dX6_isWord_22 rfl (by rfl) ?_
      refine v_iload_n dX6_isWord_23 rfl (by rfl) ?_
      refine w_callV hE dX6_isWord_24 kX6_51 (by repeat (first | assumption | exact va_up_self _ _ _ | refine (va_up_ne _ _ (by omega)).trans ?_)) (by rfl) (by rfl) (sX6_at hE h.1 h.2) rfl (by decide) (by decide) (by exact Nat.le_of_ble_eq_true rfl) (by omega) (by omega) (fun v9 g9 u9 h9 => ?_) (fun _ _ _ h => by cases h.1)
      obtain ⟨hv, rfl, rfl⟩ := h9
      cases hv
      refine v_bipush (v := nI 32) dX6_isWord_27 (by decide) ?_
      refine v_icmp_le (tgt := 42) dX6_isWord_29 (by decide) (fun c29 => ?_) (fun c29 => ?_)
      · refine v_iconst (v := nI 0) dX6_isWord_42 (by decide) ?_
        refine v_iret dX6_isWord_43 rfl (by rfl) ?_
        first | exact ⟨congrArg (fun x => (Sum.inl (some (Value.int x)) : aO)) (bI_t (he.trans (allB_0 (by omega)))), rfl, rfl⟩ | exact ⟨congrArg (fun x => (Sum.inl (some (Value.int x)) : aO)) (bI_f (he.trans (allB_f c19 (by unfold okO; rw [decide_eq_false (Int32.not_lt.mpr c29)]; rfl)))), rfl, rfl⟩ | exact ⟨congrArg (fun x => (Sum.inl (some (Value.int x)) : aO)) (bI_f (he.trans (allB_f c19 (by unfold okO; rw [decide_eq_false c39, Bool.and_false])))), rfl, rfl⟩
      · refine v_aload_n dX6_isWord_32 rfl (by rfl) ?_
        refine v_iload_n dX6_isWord_33 rfl (by rfl) ?_
        refine w_callV hE dX6_isWord_34 kX6_51 (by repeat (first | assumption | exact va_up_self _ _ _ | refine (va_up_ne _ _ (by omega)).trans ?_)) (by rfl) (by rfl) (sX6_at hE h.1 h.2) rfl (by decide) (by decide) (by exact Nat.le_of_ble_eq_true rfl) (by omega) (by omega) (fun v9 g9 u9 h9 => ?_) (fun _ _ _ h => by cases h.1)
        obtain ⟨hv, rfl, rfl⟩ := h9
        cases hv
        refine v_bipush (v := nI 126) dX6_isWord_37 (by decide) ?_
        refine v_icmp_le (tgt := 44) dX6_isWord_39 (by decide) (fun c39 => ?_) (fun c39 => ?_)
        · refine v_iincN (y := 1) dX6_isWord_44 (by rfl) (by decide) (by decide) ?_
          refine v_goto (tgt := 17) dX6_isWord_47 (by decide) ?_
          exact ih (d - 1) (by omega) (k + 1) (by omega) (he.trans (allB_s c19 (by unfold okO; rw [decide_eq_true (Int32.not_le.mp c29), decide_eq_true c39]; rfl)))
        · refine v_iconst (v := nI 0) dX6_isWord_42 (by decide) ?_
          refine v_iret dX6_isWord_43 rfl (by rfl) ?_
          first | exact ⟨congrArg (fun x => (Sum.inl (some (Value.int x)) : aO)) (bI_t (he.trans (allB_0 (by omega)))), rfl, rfl⟩ | exact ⟨congrArg (fun x => (Sum.inl (some (Value.int x)) : aO)) (bI_f (he.trans (allB_f c19 (by unfold okO; rw [decide_eq_false (Int32.not_lt.mpr c29)]; rfl)))), rfl, rfl⟩ | exact ⟨congrArg (fun x => (Sum.inl (some (Value.int x)) : aO)) (bI_f (he.trans (allB_f c19 (by unfold okO; rw [decide_eq_false c39, Bool.and_false])))), rfl, rfl⟩
  refine v_iload_n dX6_isWord_0 rfl (by rfl) ?_
  refine v_iload_n dX6_isWord_1 rfl (by rfl) ?_
  refine v_icmp_leN (tgt := 13) dX6_isWord_2 (by decide) (by omega) (by omega) (fun c2 => ?_) (fun c2 => ?_)
  · refine v_iconst (v := nI 0) dX6_isWord_13 (by decide) ?_
    refine v_iret dX6_isWord_14 rfl (by rfl) ?_
    refine ⟨congrArg (fun x => (Sum.inl (some (Value.int x)) : aO)) (bI_f ?_), rfl, rfl⟩
    unfold tWord
    first | (rw [decide_eq_false (by omega)]; rfl) | (rw [decide_eq_false (p := j - i ≤ 20) (by omega), Bool.false_and, Bool.and_false])
  · refine v_iload_n dX6_isWord_5 rfl (by rfl) ?_
    refine v_iload_n dX6_isWord_6 rfl (by rfl) ?_
    refine v_isubN dX6_isWord_7 (by omega) ?_
    refine v_bipush (v := nI 20) dX6_isWord_8 (by decide) ?_
    refine v_icmp_leN (tgt := 15) dX6_isWord_10 (by decide) (by omega) (by omega) (fun c10 => ?_) (fun c10 => ?_)
    · refine v_iload_n dX6_isWord_15 rfl (by rfl) ?_
      refine v_istore_n dX6_isWord_16 rfl (by decide) ?_
      exact lp (j - i) i (by omega) (by unfold tWord; rw [decide_eq_true (by omega), decide_eq_true (by omega)]; rfl)
    · refine v_iconst (v := nI 0) dX6_isWord_13 (by decide) ?_
      refine v_iret dX6_isWord_14 rfl (by rfl) ?_
      refine ⟨congrArg (fun x => (Sum.inl (some (Value.int x)) : aO)) (bI_f ?_), rfl, rfl⟩
      unfold tWord
      first | (rw [decide_eq_false (by omega)]; rfl) | (rw [decide_eq_false (p := j - i ≤ 20) (by omega), Bool.false_and, Bool.and_false])

set_option maxRecDepth 100000 in
set_option maxHeartbeats 4000000 in
/-- Octets.addPart(row, j, c) -/
theorem sX6_addPart {E : eN} (hE : eOk E) {f : aH} {t : Nat} {a r n j c : Nat} {s : tS} {g : Nat → Int32} (h : oP f a s) (hr : f r = .inl (0, n, .inl g)) (hr1 : r ≠ a) (hr2 : r ≠ a + 1) (hj : j < 2 ^ 29) (hc : c < 2 ^ 29) (hn : n < 2 ^ 29) : mT E mX6_addPart 0 0 [.ref a, .ref r, .int (nI j), .int (nI c)] f t (fun o f' t' => o = .inl none ∧ t' = t ∧ f' = oS f a (tAdds s (prt g (min (j + c) n - j) j))) := by
  refine mT_of (n := 1) (lo := [some (.ref a), some (.ref r), some (.int (nI j)), some (.int (nI c)), none]) (by decide) (by exact Nat.le_of_ble_eq_true rfl) rfl rfl ?_
  have lp : ∀ (d : Nat) (k : Nat) (u : tS), k + d = max j (min (j + c) n) → j ≤ k → u.1 ≤ 8000 → tAdds s (prt g (min (j + c) n - j) j) = tAdds u (prt g (min (j + c) n - k) k) → V E mX6_addPart 0 0 (fun o f' t' => o = .inl none ∧ t' = t ∧ f' = oS f a (tAdds s (prt g (min (j + c) n - j) j))) 7 [some (.ref a), some (.ref r), some (.int (nI j)), some (.int (nI c)), some (.int (nI k))] [] (oS f a u) t 0 0 := by
    intro d
    induction d using Nat.strongRecOn with
    | _ d ih =>
    intro k u hk hjk hu he
    have h1 := (oP_S (f := f) (a := a) hu).1.1
    have h2 := (oP_S (f := f) (a := a) hu).1.2
    have h3 : oS f a u r = .inl (0, n, .inl g) := (oS_ne hr1 hr2).trans hr
    refine v_iload dX6_addPart_7 (by rfl) ?_
    refine v_iload_n dX6_addPart_9 rfl (by rfl) ?_
    refine v_iload_n dX6_addPart_10 rfl (by rfl) ?_
    refine v_iaddN dX6_addPart_11 ?_
    refine v_icmp_geN (tgt := 36) dX6_addPart_12 (by decide) (by omega) (by omega) (fun c12 => ?_) (fun c12 => ?_)
    · refine v_ret dX6_addPart_36 rfl ?_
      refine ⟨rfl, rfl, ?_⟩
      rw [he, show min (j + c) n - k = 0 by omega]
      rfl
    · refine v_iload dX6_addPart_15 (by rfl) ?_
      refine v_aload_n dX6_addPart_17 rfl (by rfl) ?_
      refine v_alen hE (k := 0) dX6_addPart_18 (by decide) (by repeat (first | assumption | exact va_up_self _ _ _ | refine (va_up_ne _ _ (by omega)).trans ?_)) ?_
      refine v_icmp_geN (tgt := 36) dX6_addPart_19 (by decide) (by omega) (by omega) (fun c19 => ?_) (fun c19 => ?_)
      · refine v_ret dX6_addPart_36 rfl ?_
        refine ⟨rfl, rfl, ?_⟩
        rw [he, show min (j + c) n - k = 0 by omega]
        rfl
      · refine v_aload_n dX6_addPart_22 rfl (by rfl) ?_
        refine v_aload_n dX6_addPart_23 rfl (by rfl) ?_
        refine v_iload dX6_addPart_24 (by rfl) ?_
        refine v_iald hE dX6_addPart_26 (by repeat (first | assumption | exact va_up_self _ _ _ | refine (va_up_ne _ _ (by omega)).trans ?_)) (by omega) (by omega) ?_
        refine w_callV hE dX6_addPart_27 kX6_33 (by repeat (first | assumption | exact va_up_self _ _ _ | refine (va_up_ne _ _ (by omega)).trans ?_)) (by rfl) (by rfl) (uX6_add hE (oP_S hu)) rfl (by decide) (by decide) (by exact Nat.le_of_ble_eq_true rfl) (by omega) (by omega) (fun v9 g9 u9 h9 => ?_) (fun _ _ _ h => by cases h.1)
        obtain ⟨hv, rfl, rfl⟩ := h9
        cases hv
        refine v_hp oS_S ?_
        refine v_iincN (y := 1) dX6_addPart_30 (by rfl) (by decide) (by decide) ?_
        refine v_goto (tgt := 7) dX6_addPart_33 (by decide) ?_
        exact ih (d - 1) (by omega) (k + 1) _ (by omega) (by omega) (tAdd_le hu) (he.trans (by rw [show min (j + c) n - k = (min (j + c) n - (k + 1)) + 1 by omega]; rfl))
  refine v_iconst (v := nI 0) dX6_addPart_0 (by decide) ?_
  refine v_iload_n dX6_addPart_1 rfl (by rfl) ?_
  refine v_maxN hE dX6_addPart_2 qX6_37 (by decide) (by exact Nat.le_of_ble_eq_true rfl) (by omega) (by omega) ?_
  refine v_istore dX6_addPart_5 (by decide) ?_
  refine v_hp (oS_id h).symm ?_
  exact lp (max j (min (j + c) n) - max 0 j) (max 0 j) s (by omega) (by omega) h.2 (by rw [show max 0 j = j by omega])
