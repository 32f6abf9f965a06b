theorem cpX : Cond.native arraycopyName ∈ lw_tbl ∧ Cond.static arraycopyName ∈ lw_tbl ∧ Cond.initialized "java/lang/System" ∈ lw_tbl := by decide +kernel
theorem v_acopy {E : eN} {I : mR} {mc ms : Nat} {Q : aP} {pc : Nat} {lo : List (Option Value)} {st : List Value} {f : aH} {t bc bs : Nat} (hE : eOk E) {ix a0 a n0 n1 sp dp n : Nat} {g0 g1 : Nat → Int32} (d : decode I.2.1 pc = .ok (.invokestatic ix, 3)) (hL : Cond.methodLink I.1.cls ix arraycopyName ∈ lw_tbl) (hfr : 1 ≤ I.2.2.2.2.1) (hlo : (st.map fun v => v.category).sum + (nativeFrameWords "java/lang/System" "arraycopy" 5 + 11) ≤ I.2.2.2.2.2)
    (h0 : f a0 = .inl (0, n0, .inl g0)) (h1 : f a = .inl (0, n1, .inl g1)) (hs : sp + n ≤ n0) (hd : dp + n ≤ n1) (b1 : sp < 2 ^ 31) (b2 : dp < 2 ^ 31) (b3 : n < 2 ^ 31)
    (kk : V E I mc ms Q (pc + 3) lo st (va_up f a (.inl (0, n1, .inl (va_cpy g0 g1 sp dp n)))) t bc bs) : V E I mc ms Q pc lo (.int (nI n) :: .int (nI dp) :: .ref a :: .int (nI sp) :: .ref a0 :: st) f t bc bs := by
  intro p e R s m args below meth c C H locs cells slots ls hw hz hc hs9 hl T hT X
  have hW := C.2.2.2.2.1
  have hR := C.2.2.2.2.2.2.2.2.1
  have hK := e_k hE hW
  obtain ⟨-, -, hc0⟩ := w_one hw h0 (uk_a (by decide))
  obtain ⟨r1, r2, hc1⟩ := w_one hw h1 (uk_a (by decide))
  have hc0 : H[a0]? = some (vp_cell (E.2.1 0) (n0, .inl g0)) := hc0
  have hc1 : H[a]? = some (vp_cell (E.2.1 0) (n1, .inl g1)) := hc1
  obtain ⟨-, k0, hk0, cm0, hkk0⟩ := (hK.2 0 _ (ty_at E (by decide))).1 n0 (fun j => .int (g0 j))
  obtain ⟨-, k1, hk1, cm1, hkk1⟩ := (hK.2 0 _ (ty_at E (by decide))).1 n1 (fun j => .int (g1 j))
  obtain ⟨vm', X', step⟩ := X.arraycopy C.1 C.2.2.2.1 (e_w hE hW hL rfl args) (e_w hE hW cpX.1 rfl args) (e_w hE hW cpX.2.1 rfl args) (e_w hE hW cpX.2.2 rfl args) (src := a0) (dst := a) (cs := vp_cell (E.2.1 0) (n0, .inl g0)) (cd := vp_cell (E.2.1 0) (n1, .inl g1)) (srcPos := nI sp) (destPos := nI dp) (n := nI n) (by rw [hT]; exact hc0) (by rw [hT]; exact hc1)
    (fun _ h => by cases h) (fun _ h => by cases h) (fun h => by cases h) (fun h => by cases h) hk0 hk1 hkk0 hkk1 (by rfl) (nI_pos b1) (nI_pos b2) (nI_pos b3)
    (by rw [nI_toInt b1, nI_toInt b3]; show ¬ _ > ((arrV (E.2.1 0) n0 (fun j => .int (g0 j))).slots.size : Int); rw [arrV_size]; omega)
    (by rw [nI_toInt b2, nI_toInt b3]; show ¬ _ > ((arrV (E.2.1 0) n1 (fun j => .int (g1 j))).slots.size : Int); rw [arrV_size]; omega)
    (fun vm₁ _ i hi => by
      rw [nI_clamp b3] at hi
      have e : (vp_cell (E.2.1 0) (n0, .inl g0)).slots.getD ((nI sp).toNatClampNeg + i) .null = .int (g0 (sp + i)) := by
        show (arrV (E.2.1 0) n0 (fun j => .int (g0 j))).slots.getD _ _ = _
        rw [nI_clamp b1, Array.getD_eq_getD_getElem?, arrV_read _ _ (by omega)]
        rfl
      refine ⟨?_, ?_⟩
      · rw [e]; rfl
      · rw [e]; exact trivial)
    (g := F0 m pc ls (.int (nI n) :: .int (nI dp) :: .ref a :: .int (nI sp) :: .ref a0 :: st)) rfl (by rw [hl.1, C.2.2.1]) (rest := st) rfl (by rw [C.2.1]; exact d) (by rw [hR]; exact hfr) (by rw [hR]; show 2 * 0 + _ + _ ≤ I.2.2.2.2.2; omega)
  have e1 : copied (vp_cell (E.2.1 0) (n0, .inl g0)) (vp_cell (E.2.1 0) (n1, .inl g1)) (nI sp) (nI dp) (nI n) = vp_cell (E.2.1 0) (n1, .inl (va_cpy g0 g1 sp dp n)) := by
    show (arrV (E.2.1 0) n1 (fun j => Value.int (g1 j))).storeRun (nI dp).toNatClampNeg ((arrV (E.2.1 0) n0 (fun j => Value.int (g0 j))).stretch (nI sp).toNatClampNeg (nI n).toNatClampNeg) = _
    rw [nI_clamp b1, nI_clamp b2, nI_clamp b3]
    exact va_copied (fun z => Value.int z) (E.2.1 0) (E.2.1 0) g0 g1 hs
  rw [e1] at X' step
  have hl9 : a < H.size := (Array.getElem?_eq_some_iff.mp hc1).1
  have hheap : ((T.setVm vm').setCell a (vp_cell (E.2.1 0) (n1, .inl (va_cpy g0 g1 sp dp n)))).heap = H.setIfInBounds a (vp_cell (E.2.1 0) (n1, .inl (va_cpy g0 g1 sp dp n))) := by rw [← hT]; rfl
  have oq : ∀ q : Nat, q ≠ a → (H.setIfInBounds a (vp_cell (E.2.1 0) (n1, .inl (va_cpy g0 g1 sp dp n))))[q]? = H[q]? := fun q hq => by simp [Array.getElem?_setIfInBounds, Ne.symm hq]
  obtain ⟨t9, a1, b9⟩ := kk p e R s m args below meth c C _ _ cells slots ls (w_set hw (by rw [h1]; exact uk_a (by decide)) (by simp) oq (show (H.setIfInBounds a _)[a]? = some _ by simp [Array.getElem?_setIfInBounds, hl9, cE])) (fun z hz9 => by
      rcases List.mem_append.mp hz9 with h | h
      · exact hz z h
      · obtain ⟨y, -, hy⟩ := List.mem_map.mp h
        rw [← hy]; exact r1) hc hs9 hl _ hheap X'
  exact ⟨t9, step t9 a1, b9⟩

theorem aX6_55 : Cond.methodLink RX6 55 arraycopyName ∈ lw_tbl := mem_at (j := 689) (by decide +kernel)
theorem aX0_35 : Cond.methodLink RX0 35 arraycopyName ∈ lw_tbl := mem_at (j := 1210) (by decide +kernel)
def tPart (s : tS) (i j : Nat) (g : Nat → Int32) (n p q : Nat) : Bool := decide (j ≤ s.1) && (decide (j - i = q) && (decide (p + q ≤ n) && allB (fun k => decide (s.2.1 (i + k) = g (p + k))) (q - 0) 0))
set_option maxRecDepth 100000 in
set_option maxHeartbeats 4000000 in
/-- Octets.isPart(i, j, row, p, q) -/
theorem sX6_isPart {E : eN} (hE : eOk E) {f : aH} {t : Nat} {a r i j n p q : Nat} {s : tS} {g : Nat → Int32} (h : oP f a s) (hr : f r = .inl (0, n, .inl g)) (hij : i ≤ j) (hj : j < 2 ^ 29) (hp : p < 2 ^ 29) (hq : q < 2 ^ 29) (hn : n < 2 ^ 29) : mT E mX6_isPart 0 0 [.ref a, .int (nI i), .int (nI j), .ref r, .int (nI p), .int (nI q)] f t (fun o f' t' => o = .inl (some (.int (bI (tPart s i j g n p q)))) ∧ t' = t ∧ f' = f) := by
  refine mT_of (n := 1) (lo := [some (.ref a), some (.int (nI i)), some (.int (nI j)), some (.ref r), some (.int (nI p)), some (.int (nI q)), none]) (by decide) (by exact Nat.le_of_ble_eq_true rfl) rfl rfl ?_
  obtain ⟨⟨h1, h2⟩, h3⟩ := id h
  have lp : j ≤ s.1 → j - i = q → p + q ≤ n → ∀ (d : Nat) (k : Nat), k + d = q → tPart s i j g n p q = allB (fun k => decide (s.2.1 (i + k) = g (p + k))) (q - k) k → V E mX6_isPart 0 0 (fun o f' t' => o = .inl (some (.int (bI (tPart s i j g n p q)))) ∧ t' = t ∧ f' = f) 35 [some (.ref a), some (.int (nI i)), some (.int (nI j)), some (.ref r), some (.int (nI p)), some (.int (nI q)), some (.int (nI k))] [] f t 0 0 := by
    intro b1 b2 b3 d
    induction d using Nat.strongRecOn with
    | _ d ih =>
    intro k hk he
    refine v_iload dX6_isPart_35 (by rfl) ?_
    refine v_iload dX6_isPart_37 (by rfl) ?_
    refine v_icmp_geN (tgt := 69) dX6_isPart_39 (by decide) (by omega) (by omega) (fun c39 => ?_) (fun c39 => ?_)
    · refine v_iconst (v := nI 1) dX6_isPart_69 (by decide) ?_
      refine v_iret dX6_isPart_70 rfl (by rfl) ?_
      first | exact ⟨congrArg (fun x => (Sum.inl (some (Value.int x)) : aO)) (bI_t (he.trans (allB_0 (by omega)))), rfl, rfl⟩ | exact ⟨congrArg (fun x => (Sum.inl (some (Value.int x)) : aO)) (bI_f (he.trans (allB_f c39 (decide_eq_false c58)))), rfl, rfl⟩
    · refine v_aload_n dX6_isPart_42 rfl (by rfl) ?_
      refine v_getf hE dX6_isPart_43 fX6_9 (by repeat (first | assumption | exact va_up_self _ _ _ | refine (va_up_ne _ _ (by omega)).trans ?_)) (by rfl) ?_
      refine v_iload_n dX6_isPart_46 rfl (by rfl) ?_
      refine v_iload dX6_isPart_47 (by rfl) ?_
      refine v_iaddN dX6_isPart_49 ?_
      refine v_iald hE dX6_isPart_50 (by repeat (first | assumption | exact va_up_self _ _ _ | refine (va_up_ne _ _ (by omega)).trans ?_)) (by omega) (by omega) ?_
      refine v_aload_n dX6_isPart_51 rfl (by rfl) ?_
      refine v_iload dX6_isPart_52 (by rfl) ?_
      refine v_iload dX6_isPart_54 (by rfl) ?_
      refine v_iaddN dX6_isPart_56 ?_
      refine v_iald hE dX6_isPart_57 (by repeat (first | assumption | exact va_up_self _ _ _ | refine (va_up_ne _ _ (by omega)).trans ?_)) (by omega) (by omega) ?_
      refine v_icmp_eq (tgt := 63) dX6_isPart_58 (by decide) (fun c58 => ?_) (fun c58 => ?_)
      · refine v_iincN (y := 1) dX6_isPart_63 (by rfl) (by decide) (by decide) ?_
        refine v_goto (tgt := 35) dX6_isPart_66 (by decide) ?_
        exact ih (d - 1) (by omega) (k + 1) (by omega) (he.trans (allB_s c39 (decide_eq_true c58)))
      · refine v_iconst (v := nI 0) dX6_isPart_61 (by decide) ?_
        refine v_iret dX6_isPart_62 rfl (by rfl) ?_
        first | exact ⟨congrArg (fun x => (Sum.inl (some (Value.int x)) : aO)) (bI_t (he.trans (allB_0 (by omega)))), rfl, rfl⟩ | exact ⟨congrArg (fun x => (Sum.inl (some (Value.int x)) : aO)) (bI_f (he.trans (allB_f c39 (decide_eq_false c58)))), rfl, rfl⟩
  refine v_iload_n dX6_isPart_0 rfl (by rfl) ?_
  refine v_if_lt (tgt := 30) dX6_isPart_1 (by decide) (fun c1 => ?_) (fun c1 => ?_)
  · exact absurd c1 (nI_pos (by omega))
  · refine v_iload_n dX6_isPart_4 rfl (by rfl) ?_
    refine v_aload_n dX6_isPart_5 rfl (by rfl) ?_
    refine v_getf hE dX6_isPart_6 fX6_15 (by repeat (first | assumption | exact va_up_self _ _ _ | refine (va_up_ne _ _ (by omega)).trans ?_)) (by rfl) ?_
    refine v_icmp_gtN (tgt := 30) dX6_isPart_9 (by decide) (by omega) (by omega) (fun c9 => ?_) (fun c9 => ?_)
    · refine v_iconst (v := nI 0) dX6_isPart_30 (by decide) ?_
      refine v_iret dX6_isPart_31 rfl (by rfl) ?_
      refine ⟨congrArg (fun x => (Sum.inl (some (Value.int x)) : aO)) (bI_f ?_), rfl, rfl⟩
      unfold tPart
      first | (rw [decide_eq_false (p := j ≤ s.1) (by omega)]; rfl) | (rw [decide_eq_false (p := j - i = q) (by omega), Bool.false_and, Bool.and_false]) | (rw [decide_eq_false (p := p + q ≤ n) (by omega), Bool.false_and, Bool.and_false, Bool.and_false])
    · refine v_iload_n dX6_isPart_12 rfl (by rfl) ?_
      refine v_iload_n dX6_isPart_13 rfl (by rfl) ?_
      refine v_isubN dX6_isPart_14 (by omega) ?_
      refine v_iload dX6_isPart_15 (by rfl) ?_
      refine v_icmp_neN (tgt := 30) dX6_isPart_17 (by decide) (by omega) (by omega) (fun c17 => ?_) (fun c17 => ?_)
      · refine v_iconst (v := nI 0) dX6_isPart_30 (by decide) ?_
        refine v_iret dX6_isPart_31 rfl (by rfl) ?_
        refine ⟨congrArg (fun x => (Sum.inl (some (Value.int x)) : aO)) (bI_f ?_), rfl, rfl⟩
        unfold tPart
        first | (rw [decide_eq_false (p := j ≤ s.1) (by omega)]; rfl) | (rw [decide_eq_false (p := j - i = q) (by omega), Bool.false_and, Bool.and_false]) | (rw [decide_eq_false (p := p + q ≤ n) (by omega), Bool.false_and, Bool.and_false, Bool.and_false])
      · refine v_iload dX6_isPart_20 (by rfl) ?_
        refine v_iload dX6_isPart_22 (by rfl) ?_
        refine v_iaddN dX6_isPart_24 ?_
        refine v_aload_n dX6_isPart_25 rfl (by rfl) ?_
        refine v_alen hE (k := 0) dX6_isPart_26 (by decide) (by repeat (first | assumption | exact va_up_self _ _ _ | refine (va_up_ne _ _ (by omega)).trans ?_)) ?_
        refine v_icmp_leN (tgt := 32) dX6_isPart_27 (by decide) (by omega) (by omega) (fun c27 => ?_) (fun c27 => ?_)
        · refine v_iconst (v := nI 0) dX6_isPart_32 (by decide) ?_
          refine v_istore dX6_isPart_33 (by decide) ?_
          skip
          exact lp (by omega) (by omega) (by omega) q 0 (by omega) (by unfold tPart; rw [decide_eq_true (by omega), decide_eq_true (by omega), decide_eq_true (by omega)]; rfl)
        · refine v_iconst (v := nI 0) dX6_isPart_30 (by decide) ?_
          refine v_iret dX6_isPart_31 rfl (by rfl) ?_
          refine ⟨congrArg (fun x => (Sum.inl (some (Value.int x)) : aO)) (bI_f ?_), rfl, rfl⟩
          unfold tPart
          first | (rw [decide_eq_false (p := j ≤ s.1) (by omega)]; rfl) | (rw [decide_eq_false (p := j - i = q) (by omega), Bool.false_and, Bool.and_false]) | (rw [decide_eq_false (p := p + q ≤ n) (by omega), Bool.false_and, Bool.and_false, Bool.and_false])

/-- the digits from the power p on -/
def dgs (v : Nat) : Nat → Nat → List Int32
  | 0, _ => []
  | d + 1, p => if p = 0 then [] else (if p ≤ v ∨ p = 1 then [nI (48 + v / p % 10)] else []) ++ dgs v d (p / 10)
def tNumber (v : Nat) : List Int32 := dgs v 6 100000

set_option maxRecDepth 100000 in
set_option maxHeartbeats 4000000 in
/-- Octets.addNumber(v) -/
theorem sX6_addNumber {E : eN} (hE : eOk E) {f : aH} {t : Nat} {a v : Nat} {s : tS} (h : oP f a s) (hv : v < 2 ^ 29) : mT E mX6_addNumber 0 0 [.ref a, .int (nI v)] f t (fun o f' t' => o = .inl none ∧ t' = t ∧ f' = oS f a (tAdds s (tNumber v))) := by
  refine mT_of (n := 1) (lo := [some (.ref a), some (.int (nI v)), none]) (by decide) (by exact Nat.le_of_ble_eq_true rfl) rfl rfl ?_
  have lp : ∀ (d : Nat) (p : Nat) (u : tS), d ≤ 6 → p < 10 ^ d → u.1 ≤ 8000 → tAdds s (tNumber v) = tAdds u (dgs v d p) → V E mX6_addNumber 0 0 (fun o f' t' => o = .inl none ∧ t' = t ∧ f' = oS f a (tAdds s (tNumber v))) 3 [some (.ref a), some (.int (nI v)), some (.int (nI p))] [] (oS f a u) t 0 0 := by
    intro d
    induction d using Nat.strongRecOn with
    | _ d ih =>
    intro p u hd6 hp hu he
    have h1 := (oP_S (f := f) (a := a) hu).1.1
    have h2 := (oP_S (f := f) (a := a) hu).1.2
    have hp6 : p < 10 ^ 6 := Nat.lt_of_lt_of_le hp (Nat.pow_le_pow_right (by omega) hd6)
    have hp7 : p < 1000000 := hp6
    have hvp := Nat.div_le_self v p
    refine v_iload_n dX6_addNumber_3 rfl (by rfl) ?_
    refine v_if_leN (tgt := 38) dX6_addNumber_4 (by decide) (by omega) (fun c4 => ?_) (fun c4 => ?_)
    · refine v_ret dX6_addNumber_38 rfl ?_
      refine ⟨rfl, rfl, ?_⟩
      rw [he]
      subst c4
      cases d <;> rfl
    · refine v_iload_n dX6_addNumber_7 rfl (by rfl) ?_
      refine v_iload_n dX6_addNumber_8 rfl (by rfl) ?_
      refine v_icmp_geN (tgt := 17) dX6_addNumber_9 (by decide) (by omega) (by omega) (fun c9 => ?_) (fun c9 => ?_)
      · refine v_aload_n dX6_addNumber_17 rfl (by rfl) ?_
        refine v_bipush (v := nI 48) dX6_addNumber_18 (by decide) ?_
        refine v_iload_n dX6_addNumber_20 rfl (by rfl) ?_
        refine v_iload_n dX6_addNumber_21 rfl (by rfl) ?_
        refine v_idivN dX6_addNumber_22 (by omega) (by omega) (by omega) ?_
        refine v_bipush (v := nI 10) dX6_addNumber_23 (by decide) ?_
        refine v_iremN dX6_addNumber_25 (by omega) (by omega) (by omega) ?_
        refine v_iaddN dX6_addNumber_26 ?_
        refine w_callV hE dX6_addNumber_27 kX6_33 (by repeat (first | assumption | exact va_up_self _ _ _ | refine (va_up_ne _ _ (by omega)).trans ?_)) (by rfl) (by rfl) (uX6_add hE (oP_S hu)) rfl (by decide) (by decide) (by exact Nat.le_of_ble_eq_true rfl) (by omega) (by omega) (fun v9 g9 u9 h9 => ?_) (fun _ _ _ h => by cases h.1)
        obtain ⟨hv, rfl, rfl⟩ := h9
        cases hv
        refine v_hp oS_S ?_
        refine v_iload_n dX6_addNumber_30 rfl (by rfl) ?_
        refine v_bipush (v := nI 10) dX6_addNumber_31 (by decide) ?_
        refine v_idivN dX6_addNumber_33 (by omega) (by omega) (by omega) ?_
        refine v_istore_n dX6_addNumber_34 rfl (by decide) ?_
        refine v_goto (tgt := 3) dX6_addNumber_35 (by decide) ?_
        obtain ⟨e, rfl⟩ : ∃ e, d = e + 1 := ⟨d - 1, by cases d with | zero => simp at hp; omega | succ d => rfl⟩
        have hp8 : p / 10 < 10 ^ e := by rw [Nat.pow_succ] at hp; omega
        exact ih e (by omega) (p / 10) _ (by omega) hp8 (by first | exact tAdd_le hu | exact hu) (he.trans (by show tAdds u (if p = 0 then [] else (if p ≤ v ∨ p = 1 then [nI (48 + v / p % 10)] else []) ++ dgs v e (p / 10)) = _; rw [if_neg (by omega)]; first | (rw [if_pos (by omega)]; rfl) | (rw [if_neg (by omega)]; rfl)))
      · refine v_iload_n dX6_addNumber_12 rfl (by rfl) ?_
        refine v_iconst (v := nI 1) dX6_addNumber_13 (by decide) ?_
        refine v_icmp_neN (tgt := 30) dX6_addNumber_14 (by decide) (by omega) (by omega) (fun c14 => ?_) (fun c14 => ?_)
        · refine v_iload_n dX6_addNumber_30 rfl (by rfl) ?_
          refine v_bipush (v := nI 10) dX6_addNumber_31 (by decide) ?_
          refine v_idivN dX6_addNumber_33 (by omega) (by omega) (by omega) ?_
          refine v_istore_n dX6_addNumber_34 rfl (by decide) ?_
          refine v_goto (tgt := 3) dX6_addNumber_35 (by decide) ?_
          obtain ⟨e, rfl⟩ : ∃ e, d = e + 1 := ⟨d - 1, by cases d with | zero => simp at hp; omega | succ d => rfl⟩
          have hp8 : p / 10 < 10 ^ e := by rw [Nat.pow_succ] at hp; omega
          exact ih e (by omega) (p / 10) _ (by omega) hp8 (by first | exact tAdd_le hu | exact hu) (he.trans (by show tAdds u (if p = 0 then [] else (if p ≤ v ∨ p = 1 then [nI (48 + v / p % 10)] else []) ++ dgs v e (p / 10)) = _; rw [if_neg (by omega)]; first | (rw [if_pos (by omega)]; rfl) | (rw [if_neg (by omega)]; rfl)))
        · refine v_aload_n dX6_addNumber_17 rfl (by rfl) ?_
          refine v_bipush (v := nI 48) dX6_addNumber_18 (by decide) ?_
          refine v_iload_n dX6_addNumber_20 rfl (by rfl) ?_
          refine v_iload_n dX6_addNumber_21 rfl (by rfl) ?_
          refine v_idivN dX6_addNumber_22 (by omega) (by omega) (by omega) ?_
          refine v_bipush (v := nI 10) dX6_addNumber_23 (by decide) ?_
          refine v_iremN dX6_addNumber_25 (by omega) (by omega) (by omega) ?_
          refine v_iaddN dX6_addNumber_26 ?_
          refine w_callV hE dX6_addNumber_27 kX6_33 (by repeat (first | assumption | exact va_up_self _ _ _ | refine (va_up_ne _ _ (by omega)).trans ?_)) (by rfl) (by rfl) (uX6_add hE (oP_S hu)) rfl (by decide) (by decide) (by exact Nat.le_of_ble_eq_true rfl) (by omega) (by omega) (fun v9 g9 u9 h9 => ?_) (fun _ _ _ h => by cases h.1)
          obtain ⟨hv, rfl, rfl⟩ := h9
          cases hv
          refine v_hp oS_S ?_
          refine v_iload_n dX6_addNumber_30 rfl (by rfl) ?_
          refine v_bipush (v := nI 10) dX6_addNumber_31 (by decide) ?_
          refine v_idivN dX6_addNumber_33 (by omega) (by omega) (by omega) ?_
          refine v_istore_n dX6_addNumber_34 rfl (by decide) ?_
          refine v_goto (tgt := 3) dX6_addNumber_35 (by decide) ?_
          obtain ⟨e, rfl⟩ : ∃ e, d = e + 1 := ⟨d - 1, by cases d with | zero => simp at hp; omega | succ d => rfl⟩
          have hp8 : p / 10 < 10 ^ e := by rw [Nat.pow_succ] at hp; omega
          exact ih e (by omega) (p / 10) _ (by omega) hp8 (by first | exact tAdd_le hu | exact hu) (he.trans (by show tAdds u (if p = 0 then [] else (if p ≤ v ∨ p = 1 then [nI (48 + v / p % 10)] else []) ++ dgs v e (p / 10)) = _; rw [if_neg (by omega)]; first | (rw [if_pos (by omega)]; rfl) | (rw [if_neg (by omega)]; rfl)))
  refine v_ldc hE (v := nI 100000) dX6_addNumber_0 (mem_at (j := 1375) (by decide +kernel)) ?_
  refine v_istore_n dX6_addNumber_2 rfl (by decide) ?_
  refine v_hp (oS_id h).symm ?_
  exact lp 6 100000 s (by omega) (by decide) h.2 rfl
