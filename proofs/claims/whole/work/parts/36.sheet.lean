theorem shS_sz {f : aH} {a m : Nat} {v : sV} : va_up (shS f a v) a (.inr (7, [.ref (a + 1), .ref (a + 2), .int (nI m)])) = shS f a (v.1, v.2.1, m) := by
  obtain ⟨p0, p1, p2, p3, p4⟩ := shP_S f a v
  exact shS_ext (by repeat (first | assumption | exact va_up_self _ _ _ | refine (va_up_ne _ _ (by omega)).trans ?_)) (by repeat (first | assumption | exact va_up_self _ _ _ | refine (va_up_ne _ _ (by omega)).trans ?_)) (by repeat (first | assumption | exact va_up_self _ _ _ | refine (va_up_ne _ _ (by omega)).trans ?_)) (by repeat (first | assumption | exact va_up_self _ _ _ | refine (va_up_ne _ _ (by omega)).trans ?_)) (by repeat (first | assumption | exact va_up_self _ _ _ | refine (va_up_ne _ _ (by omega)).trans ?_)) (fun b hb => (va_up_ne _ _ (by omega)).trans (shS_ne hb))
theorem shS_ar {f : aH} {a : Nat} {v : sV} {e : Nat → Nat} : va_up (shS f a v) (a + 1) (eA e) = shS f a (e, v.2) := by
  obtain ⟨p0, p1, p2, p3, p4⟩ := shP_S f a v
  exact shS_ext (by repeat (first | assumption | exact va_up_self _ _ _ | refine (va_up_ne _ _ (by omega)).trans ?_)) (by repeat (first | assumption | exact va_up_self _ _ _ | refine (va_up_ne _ _ (by omega)).trans ?_)) (by repeat (first | assumption | exact va_up_self _ _ _ | refine (va_up_ne _ _ (by omega)).trans ?_)) (by repeat (first | assumption | exact va_up_self _ _ _ | refine (va_up_ne _ _ (by omega)).trans ?_)) (by repeat (first | assumption | exact va_up_self _ _ _ | refine (va_up_ne _ _ (by omega)).trans ?_)) (fun b hb => (va_up_ne _ _ (by omega)).trans (shS_ne hb))
theorem shS_nm {f : aH} {a : Nat} {v : sV} {w : nV} : nmS 3 (shS f a v) (a + 2) w = shS f a (v.1, w, v.2.2) := (sh_set (shP_S f a v)).trans shS_S
theorem fndB_r {p : Nat → Bool} : ∀ (d i : Nat), ¬ fndB p d i = -1 → ∃ q : Nat, i ≤ q ∧ q < i + d ∧ fndB p d i = nI q ∧ p q = true := by
  intro d
  induction d with
  | zero => intro i h; exact absurd rfl h
  | succ d ih =>
    intro i h
    unfold fndB at h ⊢
    by_cases q : p i = true
    · rw [if_pos q]; exact ⟨i, by omega, by omega, rfl, q⟩
    · rw [if_neg q] at h ⊢
      obtain ⟨x, h1, h2, h3, h4⟩ := ih (i + 1) h
      exact ⟨x, by omega, by omega, h3, h4⟩
theorem kD_sub (m : Nat) : nI m - nI 1 = kD m := by
  rw [Int32.sub_eq_add_neg, show -(nI 1) = Int32.ofInt (-1) by decide]
  exact kD_step m
def shCan (v w : sV) : Bool := decide (v.2.1.1 + w.2.1.1 ≤ 3) && allB (fun j => decide (nmIdx v.2.1 w.2.1 j = -1)) (w.2.1.1 - 0) 0
def shSpL (W : Nat → eV) (e : Nat → Nat) : Nat → Nat → Nat → Nat
  | 0, _, c => c
  | d + 1, i, c => shSpL W e d (i + 1) (c + max 1 (eRo (W (e i)) - 1))
def shSp (W : Nat → eV) (v : sV) : Nat := shSpL W v.1 (v.2.2 - 0) 0 0
def eNoCs : Nat → Nat → eV → eV
  | 0, _, v => v
  | d + 1, i, v => eNoCs d (i + 1) (eNoC v i)
def eMvC (w : eV) (s : Nat) : Nat → eV → eV
  | 0, v => v
  | c + 1, v => eMvC w s c (eCopyC v (c + s) w c)
def eMvS (s : Nat) : Nat → eV → eV
  | 0, v => v
  | c + 1, v => eMvS s c (eCopyC v (c + s) v c)
def snk (W : Nat → eV) (x : Nat) : Nat → (Nat → Nat) → (Nat → Nat)
  | 0, e => va_up e 0 x
  | n + 1, e => if eBeh (W (e n)) (W x) = true then snk W x n (va_up e (n + 1) (e n)) else va_up e (n + 1) x

set_option maxRecDepth 100000 in
set_option maxHeartbeats 4000000 in
/-- Sheet.clear -/
theorem sX7_clear {E : eN} (hE : eOk E) {f : aH} {t : Nat} {a : Nat} {v : sV} (h : shP f a v) (hv : shOk v) : mT E mX7_clear 0 0 [.ref a] f t (fun o f' t' => o = .inl none ∧ t' = t ∧ f' = shS f a (v.1, (0, v.2.1.2), 0)) := by
  refine mT_of (n := 0) (lo := [some (.ref a)]) (by decide) (by exact Nat.le_of_ble_eq_true rfl) rfl rfl ?_
  refine v_hp (shS_id h).symm ?_
  obtain ⟨p0, p1, p2, p3, p4⟩ := shP_S f a v
  refine v_aload_n dX7_clear_0 rfl (by rfl) ?_
  refine v_iconst (v := nI 0) dX7_clear_1 (by decide) ?_
  refine v_putf hE dX7_clear_2 fX7_27 (by repeat (first | assumption | exact va_up_self _ _ _ | refine (va_up_ne _ _ (by omega)).trans ?_)) (by exact Nat.le_of_ble_eq_true rfl) (by rfl) (by rfl) (by rfl) ?_
  refine v_hp shS_sz ?_
  obtain ⟨q0, q1, q2, q3, q4⟩ := shP_S f a (v.1, v.2.1, 0)
  refine v_aload_n dX7_clear_5 rfl (by rfl) ?_
  refine v_getf hE dX7_clear_6 fX7_22 (by repeat (first | assumption | exact va_up_self _ _ _ | refine (va_up_ne _ _ (by omega)).trans ?_)) (by rfl) ?_
  refine w_callV hE dX7_clear_9 kX7_31 (by repeat (first | assumption | exact va_up_self _ _ _ | refine (va_up_ne _ _ (by omega)).trans ?_)) (by rfl) (by rfl) (sX5_clear hE (sh_nm (shP_S f a (v.1, v.2.1, 0))) hv.1) rfl (by decide) (by decide) (by exact Nat.le_of_ble_eq_true rfl) (by omega) (by omega) (fun v9 g9 u9 h9 => ?_) (fun _ _ _ h => by cases h.1)
  obtain ⟨hv9, hu9, hg9⟩ := h9
  replace hu9 := hu9.symm
  replace hg9 := hg9.symm
  subst hu9
  subst hg9
  cases hv9
  refine v_hp shS_nm ?_
  refine v_ret dX7_clear_12 rfl ?_
  exact ⟨rfl, rfl, rfl⟩

set_option maxRecDepth 100000 in
set_option maxHeartbeats 4000000 in
/-- Sheet.canTakeSamples -/
theorem sX7_canTakeSamples {E : eN} (hE : eOk E) {f : aH} {t : Nat} {a b : Nat} {v w : sV} (h : shP f a v) (hv : shOk v) (hb : shP f b w) (hw : shOk w) : mT E mX7_canTakeSamples 0 0 [.ref a, .ref b] f t (fun o f' t' => o = .inl (some (.int (bI (shCan v w)))) ∧ t' = t ∧ f' = f) := by
  refine mT_of (n := 1) (lo := [some (.ref a), some (.ref b), none]) (by decide) (by exact Nat.le_of_ble_eq_true rfl) rfl rfl ?_
  obtain ⟨p0, p1, p2, p3, p4⟩ := id h
  obtain ⟨q0, q1, q2, q3, q4⟩ := id hb
  obtain ⟨⟨k0, k1, k2⟩, k3⟩ := id hv
  obtain ⟨⟨r0, r1, r2⟩, r3⟩ := id hw
  have lp : ∀ (d : Nat) (j : Nat), j + d = w.2.1.1 → shCan v w = allB (fun j => decide (nmIdx v.2.1 w.2.1 j = -1)) (w.2.1.1 - j) j → V E mX7_canTakeSamples 0 0 (fun o f' t' => o = .inl (some (.int (bI (shCan v w)))) ∧ t' = t ∧ f' = f) 23 [some (.ref a), some (.ref b), some (.int (nI j))] [] f t 0 0 := by
    intro d
    induction d using Nat.strongRecOn with
    | _ d ih =>
    intro j hj he
    refine v_iload_n dX7_canTakeSamples_23 rfl (by rfl) ?_
    refine v_aload_n dX7_canTakeSamples_24 rfl (by rfl) ?_
    refine v_getf hE dX7_canTakeSamples_25 fX7_22 (by repeat (first | assumption | exact va_up_self _ _ _ | refine (va_up_ne _ _ (by omega)).trans ?_)) (by rfl) ?_
    refine v_getf hE dX7_canTakeSamples_28 fX7_34 (by repeat (first | assumption | exact va_up_self _ _ _ | refine (va_up_ne _ _ (by omega)).trans ?_)) (by rfl) ?_
    refine v_icmp_geN (tgt := 58) dX7_canTakeSamples_31 (by decide) (by omega) (by omega) (fun c31 => ?_) (fun c31 => ?_)
    · refine v_iconst (v := nI 1) dX7_canTakeSamples_58 (by decide) ?_
      refine v_iret dX7_canTakeSamples_59 rfl (by first | rfl | exact nar_bI) ?_
      first | exact ⟨congrArg (fun x => (Sum.inl (some (Value.int x)) : aO)) (bI_t (he.trans (allB_0 (by omega)))), rfl, rfl⟩ | exact ⟨congrArg (fun x => (Sum.inl (some (Value.int x)) : aO)) (bI_f (he.trans (allB_f (by omega) (decide_eq_false c47)))), rfl, rfl⟩
    · refine v_aload_n dX7_canTakeSamples_34 rfl (by rfl) ?_
      refine v_getf hE dX7_canTakeSamples_35 fX7_22 (by repeat (first | assumption | exact va_up_self _ _ _ | refine (va_up_ne _ _ (by omega)).trans ?_)) (by rfl) ?_
      refine v_aload_n dX7_canTakeSamples_38 rfl (by rfl) ?_
      refine v_getf hE dX7_canTakeSamples_39 fX7_22 (by repeat (first | assumption | exact va_up_self _ _ _ | refine (va_up_ne _ _ (by omega)).trans ?_)) (by rfl) ?_
      refine v_iload_n dX7_canTakeSamples_42 rfl (by rfl) ?_
      refine w_callV hE dX7_canTakeSamples_43 kX7_37 (by repeat (first | assumption | exact va_up_self _ _ _ | refine (va_up_ne _ _ (by omega)).trans ?_)) (by rfl) (by rfl) (sX5_indexOf hE (sh_nm h) hv.1 (sh_nm hb) hw.1 (by omega)) rfl (by decide) (by decide) (by exact Nat.le_of_ble_eq_true rfl) (by omega) (by omega) (fun v9 g9 u9 h9 => ?_) (fun _ _ _ h => by cases h.1)
      obtain ⟨hv9, hu9, hg9⟩ := h9
      replace hu9 := hu9.symm
      replace hg9 := hg9.symm
      subst hu9
      subst hg9
      cases hv9
      refine v_iconst (v := (-1)) dX7_canTakeSamples_46 (by decide) ?_
      refine v_icmp_eq (tgt := 52) dX7_canTakeSamples_47 (by decide) (fun c47 => ?_) (fun c47 => ?_)
      · refine v_iincN (y := 1) dX7_canTakeSamples_52 (by rfl) (by decide) (by decide) ?_
        refine v_goto (tgt := 23) dX7_canTakeSamples_55 (by decide) ?_
        exact ih (d - 1) (by omega) (j + 1) (by omega) (he.trans (allB_s (by omega) (decide_eq_true c47)))
      · refine v_iconst (v := nI 0) dX7_canTakeSamples_50 (by decide) ?_
        refine v_iret dX7_canTakeSamples_51 rfl (by first | rfl | exact nar_bI) ?_
        first | exact ⟨congrArg (fun x => (Sum.inl (some (Value.int x)) : aO)) (bI_t (he.trans (allB_0 (by omega)))), rfl, rfl⟩ | exact ⟨congrArg (fun x => (Sum.inl (some (Value.int x)) : aO)) (bI_f (he.trans (allB_f (by omega) (decide_eq_false c47)))), rfl, rfl⟩
  refine v_aload_n dX7_canTakeSamples_0 rfl (by rfl) ?_
  refine v_getf hE dX7_canTakeSamples_1 fX7_22 (by repeat (first | assumption | exact va_up_self _ _ _ | refine (va_up_ne _ _ (by omega)).trans ?_)) (by rfl) ?_
  refine v_getf hE dX7_canTakeSamples_4 fX7_34 (by repeat (first | assumption | exact va_up_self _ _ _ | refine (va_up_ne _ _ (by omega)).trans ?_)) (by rfl) ?_
  refine v_aload_n dX7_canTakeSamples_7 rfl (by rfl) ?_
  refine v_getf hE dX7_canTakeSamples_8 fX7_22 (by repeat (first | assumption | exact va_up_self _ _ _ | refine (va_up_ne _ _ (by omega)).trans ?_)) (by rfl) ?_
  refine v_getf hE dX7_canTakeSamples_11 fX7_34 (by repeat (first | assumption | exact va_up_self _ _ _ | refine (va_up_ne _ _ (by omega)).trans ?_)) (by rfl) ?_
  refine v_iaddN dX7_canTakeSamples_14 ?_
  refine v_iconst (v := nI 3) dX7_canTakeSamples_15 (by decide) ?_
  refine v_icmp_leN (tgt := 21) dX7_canTakeSamples_16 (by decide) (by omega) (by omega) (fun c16 => ?_) (fun c16 => ?_)
  · refine v_iconst (v := nI 0) dX7_canTakeSamples_21 (by decide) ?_
    refine v_istore_n dX7_canTakeSamples_22 rfl (by decide) ?_
    exact lp w.2.1.1 0 (by omega) (by unfold shCan; rw [decide_eq_true (by omega)]; rfl)
  · refine v_iconst (v := nI 0) dX7_canTakeSamples_19 (by decide) ?_
    refine v_iret dX7_canTakeSamples_20 rfl (by first | rfl | exact nar_bI) ?_
    refine ⟨congrArg (fun x => (Sum.inl (some (Value.int x)) : aO)) (bI_f ?_), rfl, rfl⟩
    unfold shCan
    rw [decide_eq_false (by omega)]; rfl

set_option maxRecDepth 100000 in
set_option maxHeartbeats 4000000 in
/-- Sheet.sizeWhenSplit -/
theorem sX7_sizeWhenSplit {E : eN} (hE : eOk E) {f : aH} {t : Nat} {a : Nat} {X : Nat → Prop} {W : Nat → eV} {v : sV} (hA : seA X a) (h : seP f X W a v) (hv : shOk v) (hW : ∀ z, X z → enOk (W z)) (hX : ∀ i, i < 60 → X (v.1 i)) (hR : ∀ i, i < v.2.2 → 1 ≤ eRo (W (v.1 i))) : mT E mX7_sizeWhenSplit 0 0 [.ref a] f t (fun o f' t' => o = .inl (some (.int (nI (shSp W v)))) ∧ t' = t ∧ f' = f) := by
  refine mT_of (n := 2) (lo := [some (.ref a), none, none]) (by decide) (by exact Nat.le_of_ble_eq_true rfl) rfl rfl ?_
  obtain ⟨p0, p1, p2, p3, p4⟩ := id h.1
  have k0 := hv.2
  have lp : ∀ (d : Nat) (i c : Nat), i + d = v.2.2 → c ≤ 4 * i → shSp W v = shSpL W v.1 (v.2.2 - i) i c → V E mX7_sizeWhenSplit 0 0 (fun o f' t' => o = .inl (some (.int (nI (shSp W v)))) ∧ t' = t ∧ f' = f) 4 [some (.ref a), some (.int (nI c)), some (.int (nI i))] [] f t 0 0 := by
    intro d
    induction d using Nat.strongRecOn with
    | _ d ih =>
    intro i c hi hc he
    refine v_iload_n dX7_sizeWhenSplit_4 rfl (by rfl) ?_
    refine v_aload_n dX7_sizeWhenSplit_5 rfl (by rfl) ?_
    refine v_getf hE dX7_sizeWhenSplit_6 fX7_27 (by repeat (first | assumption | exact va_up_self _ _ _ | refine (va_up_ne _ _ (by omega)).trans ?_)) (by rfl) ?_
    refine v_icmp_geN (tgt := 36) dX7_sizeWhenSplit_9 (by decide) (by omega) (by omega) (fun c9 => ?_) (fun c9 => ?_)
    · refine v_iload_n dX7_sizeWhenSplit_36 rfl (by rfl) ?_
      refine v_iret dX7_sizeWhenSplit_37 rfl (by first | rfl | exact nar_bI) ?_
      refine ⟨congrArg (fun x => (Sum.inl (some (Value.int x)) : aO)) ?_, rfl, rfl⟩
      rw [he, show v.2.2 - i = 0 by omega]; rfl
    · obtain ⟨x0, x1, x2, x3, x4, x5, x6⟩ := h.2 _ (hX i (by omega))
      have k1 := (hW _ (hX i (by omega))).1
      have k2 := hR i (by omega)
      refine v_iload_n dX7_sizeWhenSplit_12 rfl (by rfl) ?_
      refine v_iconst (v := nI 1) dX7_sizeWhenSplit_13 (by decide) ?_
      refine v_aload_n dX7_sizeWhenSplit_14 rfl (by rfl) ?_
      refine v_getf hE dX7_sizeWhenSplit_15 fX7_11 (by repeat (first | assumption | exact va_up_self _ _ _ | refine (va_up_ne _ _ (by omega)).trans ?_)) (by rfl) ?_
      refine v_iload_n dX7_sizeWhenSplit_18 rfl (by rfl) ?_
      refine v_aaldC hE dX7_sizeWhenSplit_19 (by repeat (first | assumption | exact va_up_self _ _ _ | refine (va_up_ne _ _ (by omega)).trans ?_)) (by omega) ?_
      refine v_getf hE dX7_sizeWhenSplit_20 fX7_41 (by repeat (first | assumption | exact va_up_self _ _ _ | refine (va_up_ne _ _ (by omega)).trans ?_)) (by rfl) ?_
      refine v_iconst (v := nI 1) dX7_sizeWhenSplit_23 (by decide) ?_
      refine v_isubN dX7_sizeWhenSplit_24 (by omega) ?_
      refine v_maxN hE dX7_sizeWhenSplit_25 qX7_44 (by decide) (by exact Nat.le_of_ble_eq_true rfl) (by omega) (by omega) ?_
      refine v_iaddN dX7_sizeWhenSplit_28 ?_
      refine v_istore_n dX7_sizeWhenSplit_29 rfl (by decide) ?_
      refine v_iincN (y := 1) dX7_sizeWhenSplit_30 (by rfl) (by decide) (by decide) ?_
      refine v_goto (tgt := 4) dX7_sizeWhenSplit_33 (by decide) ?_
      exact ih (d - 1) (by omega) (i + 1) _ (by omega) (by omega) (he.trans (by rw [show v.2.2 - i = (v.2.2 - (i + 1)) + 1 by omega]; rfl))
  refine v_iconst (v := nI 0) dX7_sizeWhenSplit_0 (by decide) ?_
  refine v_istore_n dX7_sizeWhenSplit_1 rfl (by decide) ?_
  refine v_iconst (v := nI 0) dX7_sizeWhenSplit_2 (by decide) ?_
  refine v_istore_n dX7_sizeWhenSplit_3 rfl (by decide) ?_
  exact lp v.2.2 0 0 (by omega) (by omega) rfl

set_option maxRecDepth 100000 in
set_option maxHeartbeats 4000000 in
/-- Sheet.swap within a row -/
theorem sX7_swap_self {E : eN} (hE : eOk E) {f : aH} {t : Nat} {r i j : Nat} {e : Nat → Nat} {vs ws : List Value} (h : f r = eA e) (hi : i < 60) (hj : j < 60) (h1 : f (e i) = .inr (0, vs)) (h2 : f (e j) = .inr (0, ws)) (n1 : e i ≠ r) (n2 : e j ≠ r) : mT E mX7_swap 0 0 [.ref r, .int (nI i), .ref r, .int (nI j)] f t (fun o f' t' => o = .inl none ∧ t' = t ∧ f' = va_up f r (eA (va_up (va_up e i (e j)) j (e i)))) := by
  refine mT_of (n := 1) (lo := [some (.ref r), some (.int (nI i)), some (.ref r), some (.int (nI j)), none]) (by decide) (by exact Nat.le_of_ble_eq_true rfl) rfl rfl ?_
  refine v_aload_n dX7_swap_0 rfl (by rfl) ?_
  refine v_iload_n dX7_swap_1 rfl (by rfl) ?_
  refine v_aaldC hE dX7_swap_2 (by repeat (first | assumption | exact va_up_self _ _ _ | refine (va_up_ne _ _ (by omega)).trans ?_)) (by omega) ?_
  refine v_astore dX7_swap_3 (by decide) ?_
  refine v_aload_n dX7_swap_5 rfl (by rfl) ?_
  refine v_iload_n dX7_swap_6 rfl (by rfl) ?_
  refine v_aload_n dX7_swap_7 rfl (by rfl) ?_
  refine v_iload_n dX7_swap_8 rfl (by rfl) ?_
  refine v_aaldC hE dX7_swap_9 (by repeat (first | assumption | exact va_up_self _ _ _ | refine (va_up_ne _ _ (by omega)).trans ?_)) (by omega) ?_
  refine v_aastC hE dX7_swap_10 (by repeat (first | assumption | exact va_up_self _ _ _ | refine (va_up_ne _ _ (by omega)).trans ?_)) (by repeat (first | assumption | exact va_up_self _ _ _ | refine (va_up_ne _ _ (by omega)).trans ?_)) (by omega) ?_
  refine v_aload_n dX7_swap_11 rfl (by rfl) ?_
  refine v_iload_n dX7_swap_12 rfl (by rfl) ?_
  refine v_aload dX7_swap_13 (by rfl) ?_
  refine v_aastC hE dX7_swap_15 (by repeat (first | assumption | exact va_up_self _ _ _ | refine (va_up_ne _ _ (by omega)).trans ?_)) (by repeat (first | assumption | exact va_up_self _ _ _ | refine (va_up_ne _ _ (by omega)).trans ?_)) (by omega) ?_
  refine v_ret dX7_swap_16 rfl ?_
  exact ⟨rfl, rfl, va_up_up⟩

set_option maxRecDepth 100000 in
set_option maxHeartbeats 4000000 in
/-- Sheet.swap of two rows -/
theorem sX7_swap_two {E : eN} (hE : eOk E) {f : aH} {t : Nat} {r q i j : Nat} {e u : Nat → Nat} {vs ws : List Value} (h : f r = eA e) (hq : f q = eA u) (hd : r ≠ q) (hi : i < 60) (hj : j < 60) (h1 : f (e i) = .inr (0, vs)) (h2 : f (u j) = .inr (0, ws)) (n1 : e i ≠ r) (n2 : u j ≠ r) : mT E mX7_swap 0 0 [.ref r, .int (nI i), .ref q, .int (nI j)] f t (fun o f' t' => o = .inl none ∧ t' = t ∧ f' = va_up (va_up f r (eA (va_up e i (u j)))) q (eA (va_up u j (e i)))) := by
  refine mT_of (n := 1) (lo := [some (.ref r), some (.int (nI i)), some (.ref q), some (.int (nI j)), none]) (by decide) (by exact Nat.le_of_ble_eq_true rfl) rfl rfl ?_
  refine v_aload_n dX7_swap_0 rfl (by rfl) ?_
  refine v_iload_n dX7_swap_1 rfl (by rfl) ?_
  refine v_aaldC hE dX7_swap_2 (by repeat (first | assumption | exact va_up_self _ _ _ | refine (va_up_ne _ _ (by omega)).trans ?_)) (by omega) ?_
  refine v_astore dX7_swap_3 (by decide) ?_
  refine v_aload_n dX7_swap_5 rfl (by rfl) ?_
  refine v_iload_n dX7_swap_6 rfl (by rfl) ?_
  refine v_aload_n dX7_swap_7 rfl (by rfl) ?_
  refine v_iload_n dX7_swap_8 rfl (by rfl) ?_
  refine v_aaldC hE dX7_swap_9 (by repeat (first | assumption | exact va_up_self _ _ _ | refine (va_up_ne _ _ (by omega)).trans ?_)) (by omega) ?_
  refine v_aastC hE dX7_swap_10 (by repeat (first | assumption | exact va_up_self _ _ _ | refine (va_up_ne _ _ (by omega)).trans ?_)) (by repeat (first | assumption | exact va_up_self _ _ _ | refine (va_up_ne _ _ (by omega)).trans ?_)) (by omega) ?_
  refine v_aload_n dX7_swap_11 rfl (by rfl) ?_
  refine v_iload_n dX7_swap_12 rfl (by rfl) ?_
  refine v_aload dX7_swap_13 (by rfl) ?_
  refine v_aastC hE dX7_swap_15 (by repeat (first | assumption | exact va_up_self _ _ _ | refine (va_up_ne _ _ (by omega)).trans ?_)) (by repeat (first | assumption | exact va_up_self _ _ _ | refine (va_up_ne _ _ (by omega)).trans ?_)) (by omega) ?_
  refine v_ret dX7_swap_16 rfl ?_
  exact ⟨rfl, rfl, rfl⟩

set_option maxRecDepth 100000 in
set_option maxHeartbeats 4000000 in
/-- Sheet.setNoCalls -/
theorem sX7_setNoCalls {E : eN} (hE : eOk E) {f : aH} {t : Nat} {a i k : Nat} {v : eV} (h : enP f a v) (hv : enOk v) (hi : i ≤ 3) (hk : k ≤ 3) : mT E mX7_setNoCalls 0 0 [.ref a, .int (nI i), .int (nI k)] f t (fun o f' t' => o = .inl none ∧ t' = t ∧ f' = enS f a (eNoCs (k - i) i v)) := by
  refine mT_of (n := 1) (lo := [some (.ref a), some (.int (nI i)), some (.int (nI k)), none]) (by decide) (by exact Nat.le_of_ble_eq_true rfl) rfl rfl ?_
  have lp : ∀ (d : Nat) (n : Nat) (x : eV), n + d = max i k → i ≤ n → enOk x → eNoCs (k - i) i v = eNoCs (k - n) n x → V E mX7_setNoCalls 0 0 (fun o f' t' => o = .inl none ∧ t' = t ∧ f' = enS f a (eNoCs (k - i) i v)) 2 [some (.ref a), some (.int (nI i)), some (.int (nI k)), some (.int (nI n))] [] (enS f a x) t 0 0 := by
    intro d
    induction d using Nat.strongRecOn with
    | _ d ih =>
    intro n x hn hi hx he
    refine v_iload_n dX7_setNoCalls_2 rfl (by rfl) ?_
    refine v_iload_n dX7_setNoCalls_3 rfl (by rfl) ?_
    refine v_icmp_geN (tgt := 18) dX7_setNoCalls_4 (by decide) (by omega) (by omega) (fun c4 => ?_) (fun c4 => ?_)
    · refine v_ret dX7_setNoCalls_18 rfl ?_
      refine ⟨rfl, rfl, ?_⟩
      rw [he, show k - n = 0 by omega]
      rfl
    · refine v_aload_n dX7_setNoCalls_7 rfl (by rfl) ?_
      refine v_iload_n dX7_setNoCalls_8 rfl (by rfl) ?_
      refine w_callV hE dX7_setNoCalls_9 kX7_113 (enP_S f a x).1 (by rfl) (by rfl) (sX0_setNoCall hE (enP_S f a x) hx (by omega)) rfl (by decide) (by decide) (by exact Nat.le_of_ble_eq_true rfl) (by omega) (by omega) (fun v9 g9 u9 h9 => ?_) (fun _ _ _ h => by cases h.1)
      obtain ⟨hv9, hu9, hg9⟩ := h9
      replace hu9 := hu9.symm
      replace hg9 := hg9.symm
      subst hu9
      subst hg9
      cases hv9
      refine v_hp enS_S ?_
      refine v_iincN (y := 1) dX7_setNoCalls_12 (by rfl) (by decide) (by decide) ?_
      refine v_goto (tgt := 2) dX7_setNoCalls_15 (by decide) ?_
      exact ih (d - 1) (by omega) (n + 1) _ (by omega) (by omega) (eNoC_ok hx) (he.trans (by rw [show k - n = (k - (n + 1)) + 1 by omega]; rfl))
  refine v_iload_n dX7_setNoCalls_0 rfl (by rfl) ?_
  refine v_istore_n dX7_setNoCalls_1 rfl (by decide) ?_
  refine v_hp (enS_id h).symm ?_
  exact lp (max i k - i) i v (by omega) (by omega) hv rfl

set_option maxRecDepth 100000 in
set_option maxHeartbeats 4000000 in
/-- Sheet.moveCalls -/
theorem sX7_moveCalls {E : eN} (hE : eOk E) {f : aH} {t : Nat} {a b s c : Nat} {v w : eV} (h : enP f a v) (hv : enOk v) (hb : enP f b w) (hw : enOk w) (hd : b + 6 < a ∨ a + 6 < b) (hs : s + c ≤ 3) : mT E mX7_moveCalls 0 0 [.ref b, .ref a, .int (nI s), .int (nI c)] f t (fun o f' t' => o = .inl none ∧ t' = t ∧ f' = enS f a (eMvC w s c v)) := by
  refine mT_of (n := 1) (lo := [some (.ref b), some (.ref a), some (.int (nI s)), some (.int (nI c)), none]) (by decide) (by exact Nat.le_of_ble_eq_true rfl) rfl rfl ?_
  have lp : ∀ (m : Nat) (x : eV), m ≤ c → enOk x → eMvC w s c v = eMvC w s m x → V E mX7_moveCalls 0 0 (fun o f' t' => o = .inl none ∧ t' = t ∧ f' = enS f a (eMvC w s c v)) 5 [some (.ref b), some (.ref a), some (.int (nI s)), some (.int (nI c)), some (.int (kD m))] [] (enS f a x) t 0 0 := by
    intro m
    induction m using Nat.strongRecOn with
    | _ m ih =>
    intro x hm hx he
    match m, ih, hm, he with
    | 0, ih, hm, he =>
        refine v_iload (x := kD 0) dX7_moveCalls_5 (by rfl) ?_
        refine v_if_lt (tgt := 27) dX7_moveCalls_7 (by decide) (fun c7 => ?_) (fun c7 => ?_)
        · refine v_ret dX7_moveCalls_27 rfl ?_
          exact ⟨rfl, rfl, congrArg (enS f a) he.symm⟩
        · exact absurd (show kD 0 < 0 by decide) c7
    | m + 1, ih, hm, he =>
        refine v_iload (x := nI m) dX7_moveCalls_5 (by rfl) ?_
        refine v_if_lt (tgt := 27) dX7_moveCalls_7 (by decide) (fun c7 => ?_) (fun c7 => ?_)
        · exact absurd c7 (nI_pos (by omega))
        · refine v_aload_n dX7_moveCalls_10 rfl (by rfl) ?_
          refine v_iload (x := nI m) dX7_moveCalls_11 (by rfl) ?_
          refine v_iload_n dX7_moveCalls_13 rfl (by rfl) ?_
          refine v_iaddN dX7_moveCalls_14 ?_
          refine v_aload_n dX7_moveCalls_15 rfl (by rfl) ?_
          refine v_iload (x := nI m) dX7_moveCalls_16 (by rfl) ?_
          refine w_callV hE dX7_moveCalls_18 kX7_116 (enP_S f a x).1 (by rfl) (by rfl) (sX0_copyCalls hE (enP_S f a x) hx (en_enS hb hd) hw hd (by omega) (by omega)) rfl (by decide) (by decide) (by exact Nat.le_of_ble_eq_true rfl) (by omega) (by omega) (fun v9 g9 u9 h9 => ?_) (fun _ _ _ h => by cases h.1)
          obtain ⟨hv9, hu9, hg9⟩ := h9
          replace hu9 := hu9.symm
          replace hg9 := hg9.symm
          subst hu9
          subst hg9
          cases hv9
          refine v_hp enS_S ?_
          refine v_iinc (v := kD m) dX7_moveCalls_21 (by rfl) (kD_step m) (by decide) ?_
          refine v_goto (tgt := 5) dX7_moveCalls_24 (by decide) ?_
          exact ih m (by omega) _ (by omega) (eCopyC_ok hx hw) he
  refine v_iload_n dX7_moveCalls_0 rfl (by rfl) ?_
  refine v_iconst (v := nI 1) dX7_moveCalls_1 (by decide) ?_
  refine v_isub dX7_moveCalls_2 ?_
  refine v_eqi (kD_sub c) ?_
  refine v_istore dX7_moveCalls_3 (by decide) ?_
  refine v_hp (enS_id h).symm ?_
  exact lp c v (by omega) hv rfl

set_option maxRecDepth 100000 in
set_option maxHeartbeats 4000000 in
/-- Sheet.moveCalls -/
theorem sX7_moveCalls_self {E : eN} (hE : eOk E) {f : aH} {t : Nat} {a s c : Nat} {v : eV} (h : enP f a v) (hv : enOk v) (hs : s + c ≤ 3) : mT E mX7_moveCalls 0 0 [.ref a, .ref a, .int (nI s), .int (nI c)] f t (fun o f' t' => o = .inl none ∧ t' = t ∧ f' = enS f a (eMvS s c v)) := by
  refine mT_of (n := 1) (lo := [some (.ref a), some (.ref a), some (.int (nI s)), some (.int (nI c)), none]) (by decide) (by exact Nat.le_of_ble_eq_true rfl) rfl rfl ?_
  have lp : ∀ (m : Nat) (x : eV), m ≤ c → enOk x → eMvS s c v = eMvS s m x → V E mX7_moveCalls 0 0 (fun o f' t' => o = .inl none ∧ t' = t ∧ f' = enS f a (eMvS s c v)) 5 [some (.ref a), some (.ref a), some (.int (nI s)), some (.int (nI c)), some (.int (kD m))] [] (enS f a x) t 0 0 := by
    intro m
    induction m using Nat.strongRecOn with
    | _ m ih =>
    intro x hm hx he
    match m, ih, hm, he with
    | 0, ih, hm, he =>
        refine v_iload (x := kD 0) dX7_moveCalls_5 (by rfl) ?_
        refine v_if_lt (tgt := 27) dX7_moveCalls_7 (by decide) (fun c7 => ?_) (fun c7 => ?_)
        · refine v_ret dX7_moveCalls_27 rfl ?_
          exact ⟨rfl, rfl, congrArg (enS f a) he.symm⟩
        · exact absurd (show kD 0 < 0 by decide) c7
    | m + 1, ih, hm, he =>
        refine v_iload (x := nI m) dX7_moveCalls_5 (by rfl) ?_
        refine v_if_lt (tgt := 27) dX7_moveCalls_7 (by decide) (fun c7 => ?_) (fun c7 => ?_)
        · exact absurd c7 (nI_pos (by omega))
        · refine v_aload_n dX7_moveCalls_10 rfl (by rfl) ?_
          refine v_iload (x := nI m) dX7_moveCalls_11 (by rfl) ?_
          refine v_iload_n dX7_moveCalls_13 rfl (by rfl) ?_
          refine v_iaddN dX7_moveCalls_14 ?_
          refine v_aload_n dX7_moveCalls_15 rfl (by rfl) ?_
          refine v_iload (x := nI m) dX7_moveCalls_16 (by rfl) ?_
          refine w_callV hE dX7_moveCalls_18 kX7_116 (enP_S f a x).1 (by rfl) (by rfl) (sX0_copyCalls_self hE (enP_S f a x) hx (by omega) (by omega)) rfl (by decide) (by decide) (by exact Nat.le_of_ble_eq_true rfl) (by omega) (by omega) (fun v9 g9 u9 h9 => ?_) (fun _ _ _ h => by cases h.1)
          obtain ⟨hv9, hu9, hg9⟩ := h9
          replace hu9 := hu9.symm
          replace hg9 := hg9.symm
          subst hu9
          subst hg9
          cases hv9
          refine v_hp enS_S ?_
          refine v_iinc (v := kD m) dX7_moveCalls_21 (by rfl) (kD_step m) (by decide) ?_
          refine v_goto (tgt := 5) dX7_moveCalls_24 (by decide) ?_
          exact ih m (by omega) _ (by omega) (eCopyC_ok hx hx) he
  refine v_iload_n dX7_moveCalls_0 rfl (by rfl) ?_
  refine v_iconst (v := nI 1) dX7_moveCalls_1 (by decide) ?_
  refine v_isub dX7_moveCalls_2 ?_
  refine v_eqi (kD_sub c) ?_
  refine v_istore dX7_moveCalls_3 (by decide) ?_
  refine v_hp (enS_id h).symm ?_
  exact lp c v (by omega) hv rfl

set_option maxRecDepth 100000 in
set_option maxHeartbeats 4000000 in
/-- Sheet.sinkToPlace -/
theorem sX7_sinkToPlace {E : eN} (hE : eOk E) {f : aH} {t : Nat} {a i : Nat} {X : Nat → Prop} {W : Nat → eV} {v : sV} (hA : seA X a) (h : seP f X W a v) (hv : shOk v) (hW : ∀ z, X z → enOk (W z)) (hX : ∀ i, i < 60 → X (v.1 i)) (hi : i < 60) : mT E mX7_sinkToPlace 0 0 [.ref a, .int (nI i)] f t (fun o f' t' => o = .inl none ∧ t' = t ∧ f' = seS f X W a (snk W (v.1 i) i v.1, v.2)) := by
  refine mT_of (n := 2) (lo := [some (.ref a), some (.int (nI i)), none, none]) (by decide) (by exact Nat.le_of_ble_eq_true rfl) rfl rfl ?_
  have hxi := hX i hi
  have lp : ∀ (m : Nat) (e : Nat → Nat), m ≤ i → (∀ k, k < 60 → X (e k)) → snk W (v.1 i) i v.1 = snk W (v.1 i) m e → V E mX7_sinkToPlace 0 0 (fun o f' t' => o = .inl none ∧ t' = t ∧ f' = seS f X W a (snk W (v.1 i) i v.1, v.2)) 9 [some (.ref a), some (.int (nI i)), some (.ref (v.1 i)), some (.int (nI m))] [] (seS f X W a (e, v.2)) t 0 0 := by
    intro m
    induction m using Nat.strongRecOn with
    | _ m ih =>
    intro e hm he0 he
    match m, ih, hm, he with
    | 0, ih, hm, he =>
      obtain ⟨p0, p1, p2, p3, p4⟩ := (seP_S (f := f) (W := W) (v := (e, v.2)) hA).1
      obtain ⟨x0, x1, x2, x3, x4, x5, x6⟩ := (seP_S (f := f) (W := W) (v := (e, v.2)) hA).2 _ hxi
      refine v_iload_n dX7_sinkToPlace_9 rfl (by rfl) ?_
      refine v_if_leN (tgt := 48) dX7_sinkToPlace_10 (by decide) (by omega) (fun c10 => ?_) (fun c10 => ?_)
      · refine v_aload_n dX7_sinkToPlace_48 rfl (by rfl) ?_
        refine v_getf hE dX7_sinkToPlace_49 fX7_11 (by repeat (first | assumption | exact va_up_self _ _ _ | refine (va_up_ne _ _ (by omega)).trans ?_)) (by rfl) ?_
        refine v_iload_n dX7_sinkToPlace_52 rfl (by rfl) ?_
        refine v_aload_n dX7_sinkToPlace_53 rfl (by rfl) ?_
        refine v_aastC hE dX7_sinkToPlace_54 (by repeat (first | assumption | exact va_up_self _ _ _ | refine (va_up_ne _ _ (by omega)).trans ?_)) (by repeat (first | assumption | exact va_up_self _ _ _ | refine (va_up_ne _ _ (by omega)).trans ?_)) (by omega) ?_
        refine v_hp shS_ar ?_
        refine v_ret dX7_sinkToPlace_55 rfl ?_
        exact ⟨rfl, rfl, congrArg (fun e => seS f X W a (e, v.2)) he.symm⟩
      · exact absurd c10 (by omega)
    | m + 1, ih, hm, he =>
      obtain ⟨p0, p1, p2, p3, p4⟩ := (seP_S (f := f) (W := W) (v := (e, v.2)) hA).1
      obtain ⟨x0, x1, x2, x3, x4, x5, x6⟩ := (seP_S (f := f) (W := W) (v := (e, v.2)) hA).2 _ hxi
      refine v_iload_n dX7_sinkToPlace_9 rfl (by rfl) ?_
      refine v_if_leN (tgt := 48) dX7_sinkToPlace_10 (by decide) (by omega) (fun c10 => ?_) (fun c10 => ?_)
      · exact absurd c10 (by omega)
      · have hm1 : m + 1 - 1 = m := by omega
        obtain ⟨y0, y1, y2, y3, y4, y5, y6⟩ := (seP_S (f := f) (W := W) (v := (e, v.2)) hA).2 _ (he0 m (by omega))
        refine v_aload_n dX7_sinkToPlace_13 rfl (by rfl) ?_
        refine v_getf hE dX7_sinkToPlace_14 fX7_11 (by repeat (first | assumption | exact va_up_self _ _ _ | refine (va_up_ne _ _ (by omega)).trans ?_)) (by rfl) ?_
        refine v_iload_n dX7_sinkToPlace_17 rfl (by rfl) ?_
        refine v_iconst (v := nI 1) dX7_sinkToPlace_18 (by decide) ?_
        refine v_isubN dX7_sinkToPlace_19 (by omega) ?_
        rw [hm1]
        refine v_aaldC hE dX7_sinkToPlace_20 (by repeat (first | assumption | exact va_up_self _ _ _ | refine (va_up_ne _ _ (by omega)).trans ?_)) (by omega) ?_
        refine v_aload_n dX7_sinkToPlace_21 rfl (by rfl) ?_
        refine w_callV hE dX7_sinkToPlace_22 kX7_89 (by repeat (first | assumption | exact va_up_self _ _ _ | refine (va_up_ne _ _ (by omega)).trans ?_)) (by rfl) (by rfl) (sX0_standsBehind hE ((seP_S hA).2 _ (he0 m (by omega))) (hW _ (he0 m (by omega))) ((seP_S hA).2 _ hxi) (hW _ hxi)) rfl (by decide) (by decide) (by exact Nat.le_of_ble_eq_true rfl) (by omega) (by omega) (fun v9 g9 u9 h9 => ?_) (fun _ _ _ h => by cases h.1)
        obtain ⟨hv9, hu9, hg9⟩ := h9
        replace hu9 := hu9.symm
        replace hg9 := hg9.symm
        subst hu9
        subst hg9
        cases hv9
        refine v_if_eqB (tgt := 48) dX7_sinkToPlace_25 (by decide) (fun c25 => ?_) (fun c25 => ?_)
        · refine v_aload_n dX7_sinkToPlace_48 rfl (by rfl) ?_
          refine v_getf hE dX7_sinkToPlace_49 fX7_11 (by repeat (first | assumption | exact va_up_self _ _ _ | refine (va_up_ne _ _ (by omega)).trans ?_)) (by rfl) ?_
          refine v_iload_n dX7_sinkToPlace_52 rfl (by rfl) ?_
          refine v_aload_n dX7_sinkToPlace_53 rfl (by rfl) ?_
          refine v_aastC hE dX7_sinkToPlace_54 (by repeat (first | assumption | exact va_up_self _ _ _ | refine (va_up_ne _ _ (by omega)).trans ?_)) (by repeat (first | assumption | exact va_up_self _ _ _ | refine (va_up_ne _ _ (by omega)).trans ?_)) (by omega) ?_
          refine v_hp shS_ar ?_
          refine v_ret dX7_sinkToPlace_55 rfl ?_
          exact ⟨rfl, rfl, congrArg (fun e => seS f X W a (e, v.2)) ((he.trans (if_neg (by rw [c25]; decide))).symm)⟩
        · refine v_aload_n dX7_sinkToPlace_28 rfl (by rfl) ?_
          refine v_getf hE dX7_sinkToPlace_29 fX7_11 (by repeat (first | assumption | exact va_up_self _ _ _ | refine (va_up_ne _ _ (by omega)).trans ?_)) (by rfl) ?_
          refine v_iload_n dX7_sinkToPlace_32 rfl (by rfl) ?_
          refine v_aload_n dX7_sinkToPlace_33 rfl (by rfl) ?_
          refine v_getf hE dX7_sinkToPlace_34 fX7_11 (by repeat (first | assumption | exact va_up_self _ _ _ | refine (va_up_ne _ _ (by omega)).trans ?_)) (by rfl) ?_
          refine v_iload_n dX7_sinkToPlace_37 rfl (by rfl) ?_
          refine v_iconst (v := nI 1) dX7_sinkToPlace_38 (by decide) ?_
          refine v_isubN dX7_sinkToPlace_39 (by omega) ?_
          rw [hm1]
          refine v_aaldC hE dX7_sinkToPlace_40 (by repeat (first | assumption | exact va_up_self _ _ _ | refine (va_up_ne _ _ (by omega)).trans ?_)) (by omega) ?_
          refine v_aastC hE dX7_sinkToPlace_41 (by repeat (first | assumption | exact va_up_self _ _ _ | refine (va_up_ne _ _ (by omega)).trans ?_)) (by repeat (first | assumption | exact va_up_self _ _ _ | refine (va_up_ne _ _ (by omega)).trans ?_)) (by omega) ?_
          refine v_hp shS_ar ?_
          refine v_iinc (v := nI m) dX7_sinkToPlace_42 (by rfl) (pk_m1 m) (by decide) ?_
          refine v_goto (tgt := 9) dX7_sinkToPlace_45 (by decide) ?_
          exact ih m (by omega) _ (by omega) (fun k hk => by unfold va_up; split; exact he0 m (by omega); exact he0 k hk) (he.trans (if_pos c25))
  refine v_hp (seS_id hA h).symm ?_
  obtain ⟨p0, p1, p2, p3, p4⟩ := (seP_S (f := f) (W := W) (v := v) hA).1
  refine v_aload_n dX7_sinkToPlace_0 rfl (by rfl) ?_
  refine v_getf hE dX7_sinkToPlace_1 fX7_11 (by repeat (first | assumption | exact va_up_self _ _ _ | refine (va_up_ne _ _ (by omega)).trans ?_)) (by rfl) ?_
  refine v_iload_n dX7_sinkToPlace_4 rfl (by rfl) ?_
  refine v_aaldC hE dX7_sinkToPlace_5 (by repeat (first | assumption | exact va_up_self _ _ _ | refine (va_up_ne _ _ (by omega)).trans ?_)) (by omega) ?_
  refine v_astore_n dX7_sinkToPlace_6 rfl (by decide) ?_
  refine v_iload_n dX7_sinkToPlace_7 rfl (by rfl) ?_
  refine v_istore_n dX7_sinkToPlace_8 rfl (by decide) ?_
  exact lp i v.1 (by omega) hX rfl
