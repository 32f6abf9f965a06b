theorem en_haS {f : aH} {a x : Nat} {v : hV} {w : eV} (h : enP f x w) (hd : x + 6 < a ∨ a + 5 < x) : enP (haS f a v) x w := by
  obtain ⟨p0, p1, p2, p3, p4, p5, p6⟩ := h
  exact ⟨(haS_ne (by omega)).trans p0, (haS_ne (by omega)).trans p1, (haS_ne (by omega)).trans p2, (haS_ne (by omega)).trans p3, (haS_ne (by omega)).trans p4, (haS_ne (by omega)).trans p5, (haS_ne (by omega)).trans p6⟩
theorem se_haS {f : aH} {X : Nat → Prop} {W : Nat → eV} {s a : Nat} {v : sV} {z : hV} (h : seP f X W s v) (h1 : ∀ x, X x → x + 6 < a ∨ a + 5 < x) (h2 : s + 4 < a ∨ a + 5 < s) : seP (haS f a z) X W s v := by
  obtain ⟨⟨p0, p1, p2, p3, p4⟩, hE⟩ := h
  exact ⟨⟨(haS_ne (by omega)).trans p0, (haS_ne (by omega)).trans p1, (haS_ne (by omega)).trans p2, (haS_ne (by omega)).trans p3, (haS_ne (by omega)).trans p4⟩, fun x hx => en_haS (hE x hx) (h1 x hx)⟩
def hIns (W : Nat → eV) (e : Nat → Nat) (i : Nat) : Nat → (Nat → Nat) → (Nat → Nat)
  | 0, c => va_up c 0 i
  | n + 1, c => if eBeh (W (e (c n))) (W (e i)) = true then hIns W e i n (va_up c (n + 1) (c n)) else va_up c (n + 1) i
theorem hIns_lt {W : Nat → eV} {e : Nat → Nat} {i m : Nat} (hi : i < m) : ∀ (n : Nat) (c : Nat → Nat), (∀ k, c k < m) → ∀ k, hIns W e i n c k < m := by
  intro n
  induction n with
  | zero =>
    intro c hc k
    unfold hIns va_up
    split
    · exact hi
    · exact hc k
  | succ n ih =>
    intro c hc k
    unfold hIns
    split
    · refine ih _ (fun j => ?_) k
      unfold va_up
      split
      · exact hc n
      · exact hc j
    · unfold va_up
      split
      · exact hi
      · exact hc k
def hChS (W : Nat → eV) (e : Nat → Nat) (q r s i : Nat) (x : (Nat → Nat) × Nat) : (Nat → Nat) × Nat := if eSq (W (e i)) = nI s ∧ ¬ eCall (W (e i)) q r ≤ 0 then (hIns W e i x.2 x.1, x.2 + 1) else x
def hChL (W : Nat → eV) (e : Nat → Nat) (q r s : Nat) : Nat → Nat → (Nat → Nat) × Nat → (Nat → Nat) × Nat
  | 0, _, x => x
  | d + 1, i, x => hChL W e q r s d (i + 1) (hChS W e q r s i x)
def hClB (W : Nat → eV) (e c : Nat → Nat) (k : Nat) : Bool := decide (ePl (W (e (c (k - 1)))) + nI (eRs (W (e (c (k - 1)))) 0) ≤ ePl (W (e (c k))))

set_option maxRecDepth 100000 in
set_option maxHeartbeats 4000000 in
/-- Haplotype.insert -/
theorem sX3_insert {E : eN} (hE : eOk E) {f : aH} {t : Nat} {a s i : Nat} {X : Nat → Prop} {W : Nat → eV} {v : sV} {z : hV} (h : haP f a z) (hs : seP f X W s v) (hv : shOk v) (hW : ∀ z, X z → enOk (W z)) (hX : ∀ i, i < 60 → X (v.1 i)) (d1 : ∀ x, X x → x + 6 < a ∨ a + 5 < x) (d2 : s + 4 < a ∨ a + 5 < s) (hi : i < 60) (hn : hCc z < 60) (hc0 : ∀ k, hCh z k < 60) : mT E mX3_insert 0 0 [.ref a, .ref s, .int (nI i)] f t (fun o f' t' => o = .inl none ∧ t' = t ∧ f' = haS f a (iCc (iCh z (hIns W v.1 i (hCc z) (hCh z))) (hCc z + 1))) := by
  refine mT_of (n := 1) (lo := [some (.ref a), some (.ref s), some (.int (nI i)), none]) (by decide) (by exact Nat.le_of_ble_eq_true rfl) rfl rfl ?_
  have lp : ∀ (m : Nat) (c : Nat → Nat), m ≤ hCc z → (∀ k, c k < 60) → hIns W v.1 i (hCc z) (hCh z) = hIns W v.1 i m c → V E mX3_insert 0 0 (fun o f' t' => o = .inl none ∧ t' = t ∧ f' = haS f a (iCc (iCh z (hIns W v.1 i (hCc z) (hCh z))) (hCc z + 1))) 5 [some (.ref a), some (.ref s), some (.int (nI i)), some (.int (nI m))] [] (haS f a (iCh z c)) t 0 0 := by
    intro m
    induction m using Nat.strongRecOn with
    | _ m ih =>
    intro c hm hc he
    match m, ih, hm, he with
    | 0, ih, hm, he =>
      obtain ⟨h0, h1, h2, h3, h4, h5⟩ := haP_S f a (iCh z c)
      obtain ⟨⟨p0, p1, p2, p3, p4⟩, hEs⟩ := se_haS (z := (iCh z c)) hs d1 d2
      refine v_iload_n dX3_insert_5 rfl (by rfl) ?_
      refine v_if_leN (tgt := 54) dX3_insert_6 (by decide) (by omega) (fun c6 => ?_) (fun c6 => ?_)
      · refine v_aload_n dX3_insert_54 rfl (by rfl) ?_
        refine v_getf hE dX3_insert_55 fX3_9 (by repeat (first | assumption | exact va_up_self _ _ _ | refine (va_up_ne _ _ (by omega)).trans ?_)) (by rfl) ?_
        refine v_iload_n dX3_insert_58 rfl (by rfl) ?_
        refine v_iload_n dX3_insert_59 rfl (by rfl) ?_
        refine v_iast hE dX3_insert_60 (by repeat (first | assumption | exact va_up_self _ _ _ | refine (va_up_ne _ _ (by omega)).trans ?_)) (by omega) (by omega) ?_
        rw [upd_nI]
        refine v_aload_n dX3_insert_61 rfl (by rfl) ?_
        refine v_dup dX3_insert_62 rfl ?_
        refine v_getf hE dX3_insert_63 fX3_37 (by repeat (first | assumption | exact va_up_self _ _ _ | refine (va_up_ne _ _ (by omega)).trans ?_)) (by rfl) ?_
        refine v_iconst (v := nI 1) dX3_insert_66 (by decide) ?_
        refine v_iaddN dX3_insert_67 ?_
        refine v_putf hE dX3_insert_68 fX3_37 (by repeat (first | assumption | exact va_up_self _ _ _ | refine (va_up_ne _ _ (by omega)).trans ?_)) (by exact Nat.le_of_ble_eq_true rfl) (by rfl) (by rfl) (by rfl) ?_
        refine v_ret dX3_insert_71 rfl ?_
        refine ⟨rfl, rfl, ?_⟩
        rw [he, show hIns W v.1 i 0 c = va_up c 0 i from rfl]
        exact haS_ext (by repeat (first | assumption | exact va_up_self _ _ _ | refine (va_up_ne _ _ (by omega)).trans ?_)) (by repeat (first | assumption | exact va_up_self _ _ _ | refine (va_up_ne _ _ (by omega)).trans ?_)) (by repeat (first | assumption | exact va_up_self _ _ _ | refine (va_up_ne _ _ (by omega)).trans ?_)) (by repeat (first | assumption | exact va_up_self _ _ _ | refine (va_up_ne _ _ (by omega)).trans ?_)) (by repeat (first | assumption | exact va_up_self _ _ _ | refine (va_up_ne _ _ (by omega)).trans ?_)) (by repeat (first | assumption | exact va_up_self _ _ _ | refine (va_up_ne _ _ (by omega)).trans ?_)) (fun b hb => by simp only [va_up]; (repeat rw [if_neg (by omega)]); exact haS_ne hb)
      · exact absurd c6 (by omega)
    | m + 1, ih, hm, he =>
      obtain ⟨h0, h1, h2, h3, h4, h5⟩ := haP_S f a (iCh z c)
      obtain ⟨⟨p0, p1, p2, p3, p4⟩, hEs⟩ := se_haS (z := (iCh z c)) hs d1 d2
      refine v_iload_n dX3_insert_5 rfl (by rfl) ?_
      refine v_if_leN (tgt := 54) dX3_insert_6 (by decide) (by omega) (fun c6 => ?_) (fun c6 => ?_)
      · exact absurd c6 (by omega)
      · have hm1 : m + 1 - 1 = m := by omega
        have hcm := hc m
        obtain ⟨y0, y1, y2, y3, y4, y5, y6⟩ := hEs _ (hX (c m) hcm)
        obtain ⟨x0, x1, x2, x3, x4, x5, x6⟩ := hEs _ (hX i hi)
        refine v_aload_n dX3_insert_9 rfl (by rfl) ?_
        refine v_getf hE dX3_insert_10 fX3_44 (by repeat (first | assumption | exact va_up_self _ _ _ | refine (va_up_ne _ _ (by omega)).trans ?_)) (by rfl) ?_
        refine v_aload_n dX3_insert_13 rfl (by rfl) ?_
        refine v_getf hE dX3_insert_14 fX3_9 (by repeat (first | assumption | exact va_up_self _ _ _ | refine (va_up_ne _ _ (by omega)).trans ?_)) (by rfl) ?_
        refine v_iload_n dX3_insert_17 rfl (by rfl) ?_
        refine v_iconst (v := nI 1) dX3_insert_18 (by decide) ?_
        refine v_isubN dX3_insert_19 (by omega) ?_
        rw [hm1]
        refine v_iald hE dX3_insert_20 (by repeat (first | assumption | exact va_up_self _ _ _ | refine (va_up_ne _ _ (by omega)).trans ?_)) (by omega) (by omega) ?_
        refine v_aaldC hE dX3_insert_21 (by repeat (first | assumption | exact va_up_self _ _ _ | refine (va_up_ne _ _ (by omega)).trans ?_)) (by omega) ?_
        refine v_aload_n dX3_insert_22 rfl (by rfl) ?_
        refine v_getf hE dX3_insert_23 fX3_44 (by repeat (first | assumption | exact va_up_self _ _ _ | refine (va_up_ne _ _ (by omega)).trans ?_)) (by rfl) ?_
        refine v_iload_n dX3_insert_26 rfl (by rfl) ?_
        refine v_aaldC hE dX3_insert_27 (by repeat (first | assumption | exact va_up_self _ _ _ | refine (va_up_ne _ _ (by omega)).trans ?_)) (by omega) ?_
        refine w_callV hE dX3_insert_28 kX3_61 (by repeat (first | assumption | exact va_up_self _ _ _ | refine (va_up_ne _ _ (by omega)).trans ?_)) (by rfl) (by rfl) (sX0_standsBehind hE (hEs _ (hX (c m) hcm)) (hW _ (hX (c m) hcm)) (hEs _ (hX i hi)) (hW _ (hX i hi))) rfl (by decide) (by decide) (by exact Nat.le_of_ble_eq_true rfl) (by omega) (by omega) (fun v9 g9 u9 h9 => ?_) (fun _ _ _ h => by cases h.1)
        obtain ⟨hv9, hu9, hg9⟩ := h9
        replace hu9 := hu9.symm
        replace hg9 := hg9.symm
        subst hu9
        subst hg9
        cases hv9
        refine v_if_eqB (tgt := 54) dX3_insert_31 (by decide) (fun c31 => ?_) (fun c31 => ?_)
        · refine v_aload_n dX3_insert_54 rfl (by rfl) ?_
          refine v_getf hE dX3_insert_55 fX3_9 (by repeat (first | assumption | exact va_up_self _ _ _ | refine (va_up_ne _ _ (by omega)).trans ?_)) (by rfl) ?_
          refine v_iload_n dX3_insert_58 rfl (by rfl) ?_
          refine v_iload_n dX3_insert_59 rfl (by rfl) ?_
          refine v_iast hE dX3_insert_60 (by repeat (first | assumption | exact va_up_self _ _ _ | refine (va_up_ne _ _ (by omega)).trans ?_)) (by omega) (by omega) ?_
          rw [upd_nI]
          refine v_aload_n dX3_insert_61 rfl (by rfl) ?_
          refine v_dup dX3_insert_62 rfl ?_
          refine v_getf hE dX3_insert_63 fX3_37 (by repeat (first | assumption | exact va_up_self _ _ _ | refine (va_up_ne _ _ (by omega)).trans ?_)) (by rfl) ?_
          refine v_iconst (v := nI 1) dX3_insert_66 (by decide) ?_
          refine v_iaddN dX3_insert_67 ?_
          refine v_putf hE dX3_insert_68 fX3_37 (by repeat (first | assumption | exact va_up_self _ _ _ | refine (va_up_ne _ _ (by omega)).trans ?_)) (by exact Nat.le_of_ble_eq_true rfl) (by rfl) (by rfl) (by rfl) ?_
          refine v_ret dX3_insert_71 rfl ?_
          refine ⟨rfl, rfl, ?_⟩
          rw [he, show hIns W v.1 i (m + 1) c = va_up c (m + 1) i from if_neg (by rw [c31]; decide)]
          exact haS_ext (by repeat (first | assumption | exact va_up_self _ _ _ | refine (va_up_ne _ _ (by omega)).trans ?_)) (by repeat (first | assumption | exact va_up_self _ _ _ | refine (va_up_ne _ _ (by omega)).trans ?_)) (by repeat (first | assumption | exact va_up_self _ _ _ | refine (va_up_ne _ _ (by omega)).trans ?_)) (by repeat (first | assumption | exact va_up_self _ _ _ | refine (va_up_ne _ _ (by omega)).trans ?_)) (by repeat (first | assumption | exact va_up_self _ _ _ | refine (va_up_ne _ _ (by omega)).trans ?_)) (by repeat (first | assumption | exact va_up_self _ _ _ | refine (va_up_ne _ _ (by omega)).trans ?_)) (fun b hb => by simp only [va_up]; (repeat rw [if_neg (by omega)]); exact haS_ne hb)
        · refine v_aload_n dX3_insert_34 rfl (by rfl) ?_
          refine v_getf hE dX3_insert_35 fX3_9 (by repeat (first | assumption | exact va_up_self _ _ _ | refine (va_up_ne _ _ (by omega)).trans ?_)) (by rfl) ?_
          refine v_iload_n dX3_insert_38 rfl (by rfl) ?_
          refine v_aload_n dX3_insert_39 rfl (by rfl) ?_
          refine v_getf hE dX3_insert_40 fX3_9 (by repeat (first | assumption | exact va_up_self _ _ _ | refine (va_up_ne _ _ (by omega)).trans ?_)) (by rfl) ?_
          refine v_iload_n dX3_insert_43 rfl (by rfl) ?_
          refine v_iconst (v := nI 1) dX3_insert_44 (by decide) ?_
          refine v_isubN dX3_insert_45 (by omega) ?_
          rw [hm1]
          refine v_iald hE dX3_insert_46 (by repeat (first | assumption | exact va_up_self _ _ _ | refine (va_up_ne _ _ (by omega)).trans ?_)) (by omega) (by omega) ?_
          refine v_iast hE dX3_insert_47 (by repeat (first | assumption | exact va_up_self _ _ _ | refine (va_up_ne _ _ (by omega)).trans ?_)) (by omega) (by omega) ?_
          rw [upd_nI]
          refine v_hp (show _ = haS f a (iCh z (va_up c (m + 1) (c m))) from haS_ext (by repeat (first | assumption | exact va_up_self _ _ _ | refine (va_up_ne _ _ (by omega)).trans ?_)) (by repeat (first | assumption | exact va_up_self _ _ _ | refine (va_up_ne _ _ (by omega)).trans ?_)) (by repeat (first | assumption | exact va_up_self _ _ _ | refine (va_up_ne _ _ (by omega)).trans ?_)) (by repeat (first | assumption | exact va_up_self _ _ _ | refine (va_up_ne _ _ (by omega)).trans ?_)) (by repeat (first | assumption | exact va_up_self _ _ _ | refine (va_up_ne _ _ (by omega)).trans ?_)) (by repeat (first | assumption | exact va_up_self _ _ _ | refine (va_up_ne _ _ (by omega)).trans ?_)) (fun b hb => by simp only [va_up]; (repeat rw [if_neg (by omega)]); exact haS_ne hb)) ?_
          refine v_iinc (v := nI m) dX3_insert_48 (by rfl) (pk_m1 m) (by decide) ?_
          refine v_goto (tgt := 5) dX3_insert_51 (by decide) ?_
          exact ih m (by omega) _ (by omega) (fun k => by unfold va_up; split; exact hc m; exact hc k) (he.trans (if_pos c31))
  obtain ⟨h0, h1, h2, h3, h4, h5⟩ := id h
  refine v_aload_n dX3_insert_0 rfl (by rfl) ?_
  refine v_getf hE dX3_insert_1 fX3_37 (by repeat (first | assumption | exact va_up_self _ _ _ | refine (va_up_ne _ _ (by omega)).trans ?_)) (by rfl) ?_
  refine v_istore_n dX3_insert_4 rfl (by decide) ?_
  refine v_hp (show f = haS f a (iCh z (hCh z)) from (haS_id h).symm) ?_
  exact lp (hCc z) (hCh z) (by omega) hc0 rfl

set_option maxRecDepth 100000 in
set_option maxHeartbeats 4000000 in
/-- Haplotype.choose -/
theorem sX3_choose {E : eN} (hE : eOk E) {f : aH} {t : Nat} {a s q r u : Nat} {X : Nat → Prop} {W : Nat → eV} {v : sV} {z : hV} (h : haP f a z) (hs : seP f X W s v) (hv : shOk v) (hW : ∀ z, X z → enOk (W z)) (hX : ∀ i, i < 60 → X (v.1 i)) (d1 : ∀ x, X x → x + 6 < a ∨ a + 5 < x) (d2 : s + 4 < a ∨ a + 5 < s) (hq : q < 3) (hr : r < 2) (hc0 : ∀ k, hCh z k < 60) : mT E mX3_choose 0 0 [.ref a, .ref s, .int (nI q), .int (nI r), .int (nI u)] f t (fun o f' t' => o = .inl none ∧ t' = t ∧ f' = haS f a (iCc (iCh z (hChL W v.1 q r u (v.2.2 - 0) 0 (hCh z, 0)).1) (hChL W v.1 q r u (v.2.2 - 0) 0 (hCh z, 0)).2)) := by
  refine mT_of (n := 2) (lo := [some (.ref a), some (.ref s), some (.int (nI q)), some (.int (nI r)), some (.int (nI u)), none, none]) (by decide) (by exact Nat.le_of_ble_eq_true rfl) rfl rfl ?_
  have k1 := hv.2
  have lp : ∀ (d : Nat) (i : Nat) (x : (Nat → Nat) × Nat) (z6 : Option Value), i + d = v.2.2 → (∀ k, x.1 k < 60) → x.2 ≤ i → (hChL W v.1 q r u (v.2.2 - 0) 0 (hCh z, 0)) = hChL W v.1 q r u (v.2.2 - i) i x → V E mX3_choose 0 0 (fun o f' t' => o = .inl none ∧ t' = t ∧ f' = haS f a (iCc (iCh z (hChL W v.1 q r u (v.2.2 - 0) 0 (hCh z, 0)).1) (hChL W v.1 q r u (v.2.2 - 0) 0 (hCh z, 0)).2)) 8 [some (.ref a), some (.ref s), some (.int (nI q)), some (.int (nI r)), some (.int (nI u)), some (.int (nI i)), z6] [] (haS f a (iCc (iCh z x.1) x.2)) t 0 0 := by
    intro d
    induction d using Nat.strongRecOn with
    | _ d ih =>
    intro i x z6 hi hx1 hx2 he
    obtain ⟨h0, h1, h2, h3, h4, h5⟩ := haP_S f a (iCc (iCh z x.1) x.2)
    obtain ⟨⟨p0, p1, p2, p3, p4⟩, hEs⟩ := se_haS (z := (iCc (iCh z x.1) x.2)) hs d1 d2
    refine v_iload dX3_choose_8 (by rfl) ?_
    refine v_aload_n dX3_choose_10 rfl (by rfl) ?_
    refine v_getf hE dX3_choose_11 fX3_40 (by repeat (first | assumption | exact va_up_self _ _ _ | refine (va_up_ne _ _ (by omega)).trans ?_)) (by rfl) ?_
    refine v_icmp_geN (tgt := 59) dX3_choose_14 (by decide) (by omega) (by omega) (fun c14 => ?_) (fun c14 => ?_)
    · refine v_ret dX3_choose_59 rfl ?_
      refine ⟨rfl, rfl, ?_⟩
      rw [he, show v.2.2 - i = 0 by omega]
      rfl
    · obtain ⟨x0, x1, x2, x3, x4, x5, x6⟩ := hEs _ (hX i (by omega))
      refine v_aload_n dX3_choose_17 rfl (by rfl) ?_
      refine v_getf hE dX3_choose_18 fX3_44 (by repeat (first | assumption | exact va_up_self _ _ _ | refine (va_up_ne _ _ (by omega)).trans ?_)) (by rfl) ?_
      refine v_iload dX3_choose_21 (by rfl) ?_
      refine v_aaldC hE dX3_choose_23 (by repeat (first | assumption | exact va_up_self _ _ _ | refine (va_up_ne _ _ (by omega)).trans ?_)) (by omega) ?_
      refine v_astore dX3_choose_24 (by decide) ?_
      refine v_aload dX3_choose_26 (by rfl) ?_
      refine v_getf hE dX3_choose_28 fX3_48 (by repeat (first | assumption | exact va_up_self _ _ _ | refine (va_up_ne _ _ (by omega)).trans ?_)) (by rfl) ?_
      refine v_iload dX3_choose_31 (by rfl) ?_
      refine v_icmp_ne (tgt := 53) dX3_choose_33 (by decide) (fun c33 => ?_) (fun c33 => ?_)
      · refine v_iincN (y := 1) dX3_choose_53 (by rfl) (by decide) (by decide) ?_
        refine v_goto (tgt := 8) dX3_choose_56 (by decide) ?_
        first
          | (have hz : hChS W v.1 q r u i x = (hIns W v.1 i x.2 x.1, x.2 + 1) := if_pos ⟨c33, c43⟩
             exact ih (d - 1) (by omega) (i + 1) (hIns W v.1 i x.2 x.1, x.2 + 1) _ (by omega) (hIns_lt (by omega) _ _ hx1) (by show x.2 + 1 ≤ i + 1; omega) (he.trans (by rw [show v.2.2 - i = (v.2.2 - (i + 1)) + 1 by omega]; show hChL _ _ _ _ _ _ _ (hChS _ _ _ _ _ _ _) = _; rw [hz])))
          | (have hz : hChS W v.1 q r u i x = x := if_neg (fun z => by first | exact c33 z.1 | exact z.2 c43)
             exact ih (d - 1) (by omega) (i + 1) x _ (by omega) hx1 (by omega) (he.trans (by rw [show v.2.2 - i = (v.2.2 - (i + 1)) + 1 by omega]; show hChL _ _ _ _ _ _ _ (hChS _ _ _ _ _ _ _) = _; rw [hz])))
      · refine v_aload dX3_choose_36 (by rfl) ?_
        refine v_iload_n dX3_choose_38 rfl (by rfl) ?_
        refine v_iload_n dX3_choose_39 rfl (by rfl) ?_
        refine w_callV hE dX3_choose_40 kX3_53 (by repeat (first | assumption | exact va_up_self _ _ _ | refine (va_up_ne _ _ (by omega)).trans ?_)) (by rfl) (by rfl) (sX0_callAt hE (hEs _ (hX i (by omega))) (hW _ (hX i (by omega))) hq hr) rfl (by decide) (by decide) (by exact Nat.le_of_ble_eq_true rfl) (by omega) (by omega) (fun v9 g9 u9 h9 => ?_) (fun _ _ _ h => by cases h.1)
        obtain ⟨hv9, hu9, hg9⟩ := h9
        replace hu9 := hu9.symm
        replace hg9 := hg9.symm
        subst hu9
        subst hg9
        cases hv9
        refine v_if_le (tgt := 53) dX3_choose_43 (by decide) (fun c43 => ?_) (fun c43 => ?_)
        · refine v_iincN (y := 1) dX3_choose_53 (by rfl) (by decide) (by decide) ?_
          refine v_goto (tgt := 8) dX3_choose_56 (by decide) ?_
          first
            | (have hz : hChS W v.1 q r u i x = (hIns W v.1 i x.2 x.1, x.2 + 1) := if_pos ⟨c33, c43⟩
               exact ih (d - 1) (by omega) (i + 1) (hIns W v.1 i x.2 x.1, x.2 + 1) _ (by omega) (hIns_lt (by omega) _ _ hx1) (by show x.2 + 1 ≤ i + 1; omega) (he.trans (by rw [show v.2.2 - i = (v.2.2 - (i + 1)) + 1 by omega]; show hChL _ _ _ _ _ _ _ (hChS _ _ _ _ _ _ _) = _; rw [hz])))
            | (have hz : hChS W v.1 q r u i x = x := if_neg (fun z => by first | exact c33 z.1 | exact z.2 c43)
               exact ih (d - 1) (by omega) (i + 1) x _ (by omega) hx1 (by omega) (he.trans (by rw [show v.2.2 - i = (v.2.2 - (i + 1)) + 1 by omega]; show hChL _ _ _ _ _ _ _ (hChS _ _ _ _ _ _ _) = _; rw [hz])))
        · refine v_aload_n dX3_choose_46 rfl (by rfl) ?_
          refine v_aload_n dX3_choose_47 rfl (by rfl) ?_
          refine v_iload dX3_choose_48 (by rfl) ?_
          refine w_callV hE dX3_choose_50 kX3_57 (by repeat (first | assumption | exact va_up_self _ _ _ | refine (va_up_ne _ _ (by omega)).trans ?_)) (by rfl) (by rfl) (sX3_insert hE (haP_S f a (iCc (iCh z x.1) x.2)) (se_haS hs d1 d2) hv hW hX d1 d2 (by omega) (by show x.2 < 60; omega) hx1) rfl (by decide) (by decide) (by exact Nat.le_of_ble_eq_true rfl) (by omega) (by omega) (fun v9 g9 u9 h9 => ?_) (fun _ _ _ h => by cases h.1)
          obtain ⟨hv9, hu9, hg9⟩ := h9
          replace hu9 := hu9.symm
          replace hg9 := hg9.symm
          subst hu9
          subst hg9
          cases hv9
          refine v_hp haS_S ?_
          refine v_iincN (y := 1) dX3_choose_53 (by rfl) (by decide) (by decide) ?_
          refine v_goto (tgt := 8) dX3_choose_56 (by decide) ?_
          first
            | (have hz : hChS W v.1 q r u i x = (hIns W v.1 i x.2 x.1, x.2 + 1) := if_pos ⟨c33, c43⟩
               exact ih (d - 1) (by omega) (i + 1) (hIns W v.1 i x.2 x.1, x.2 + 1) _ (by omega) (hIns_lt (by omega) _ _ hx1) (by show x.2 + 1 ≤ i + 1; omega) (he.trans (by rw [show v.2.2 - i = (v.2.2 - (i + 1)) + 1 by omega]; show hChL _ _ _ _ _ _ _ (hChS _ _ _ _ _ _ _) = _; rw [hz])))
            | (have hz : hChS W v.1 q r u i x = x := if_neg (fun z => by first | exact c33 z.1 | exact z.2 c43)
               exact ih (d - 1) (by omega) (i + 1) x _ (by omega) hx1 (by omega) (he.trans (by rw [show v.2.2 - i = (v.2.2 - (i + 1)) + 1 by omega]; show hChL _ _ _ _ _ _ _ (hChS _ _ _ _ _ _ _) = _; rw [hz])))
  obtain ⟨h0, h1, h2, h3, h4, h5⟩ := id h
  refine v_aload_n dX3_choose_0 rfl (by rfl) ?_
  refine v_iconst (v := nI 0) dX3_choose_1 (by decide) ?_
  refine v_putf hE dX3_choose_2 fX3_37 (by repeat (first | assumption | exact va_up_self _ _ _ | refine (va_up_ne _ _ (by omega)).trans ?_)) (by exact Nat.le_of_ble_eq_true rfl) (by rfl) (by rfl) (by rfl) ?_
  refine v_iconst (v := nI 0) dX3_choose_5 (by decide) ?_
  refine v_istore dX3_choose_6 (by decide) ?_
  refine v_hp (show _ = haS f a (iCc (iCh z (hCh z)) 0) from haS_ext (by repeat (first | assumption | exact va_up_self _ _ _ | refine (va_up_ne _ _ (by omega)).trans ?_)) (by repeat (first | assumption | exact va_up_self _ _ _ | refine (va_up_ne _ _ (by omega)).trans ?_)) (by repeat (first | assumption | exact va_up_self _ _ _ | refine (va_up_ne _ _ (by omega)).trans ?_)) (by repeat (first | assumption | exact va_up_self _ _ _ | refine (va_up_ne _ _ (by omega)).trans ?_)) (by repeat (first | assumption | exact va_up_self _ _ _ | refine (va_up_ne _ _ (by omega)).trans ?_)) (by repeat (first | assumption | exact va_up_self _ _ _ | refine (va_up_ne _ _ (by omega)).trans ?_)) (fun b hb => va_up_ne _ _ (by omega))) ?_
  exact lp v.2.2 0 (hCh z, 0) none (by omega) hc0 (by show 0 ≤ 0; omega) rfl

set_option maxRecDepth 100000 in
set_option maxHeartbeats 4000000 in
/-- Haplotype.clashes -/
theorem sX3_clashes {E : eN} (hE : eOk E) {f : aH} {t : Nat} {a s : Nat} {X : Nat → Prop} {W : Nat → eV} {v : sV} {z : hV} (h : haP f a z) (hs : seP f X W s v) (hv : shOk v) (hW : ∀ z, X z → enOk (W z)) (hX : ∀ i, i < 60 → X (v.1 i)) (d1 : ∀ x, X x → x + 6 < a ∨ a + 5 < x) (d2 : s + 4 < a ∨ a + 5 < s) (hn : hCc z ≤ 60) (hc0 : ∀ k, hCh z k < 60) : mT E mX3_clashes 0 0 [.ref a, .ref s] f t (fun o f' t' => o = .inl (some (.int (bI (! allB (hClB W v.1 (hCh z)) (hCc z - 1) 1)))) ∧ t' = t ∧ f' = f) := by
  refine mT_of (n := 2) (lo := [some (.ref a), some (.ref s), none, none]) (by decide) (by exact Nat.le_of_ble_eq_true rfl) rfl rfl ?_
  obtain ⟨h0, h1, h2, h3, h4, h5⟩ := id h
  obtain ⟨p0, p1, p2, p3, p4⟩ := id hs.1
  have lp : ∀ (d : Nat) (k : Nat) (z3 : Option Value), k + d = max 1 (hCc z) → 1 ≤ k → allB (hClB W v.1 (hCh z)) (hCc z - 1) 1 = allB (hClB W v.1 (hCh z)) (hCc z - k) k → V E mX3_clashes 0 0 (fun o f' t' => o = .inl (some (.int (bI (! allB (hClB W v.1 (hCh z)) (hCc z - 1) 1)))) ∧ t' = t ∧ f' = f) 2 [some (.ref a), some (.ref s), some (.int (nI k)), z3] [] f t 0 0 := by
    intro d
    induction d using Nat.strongRecOn with
    | _ d ih =>
    intro k z3 hk hk1 he
    refine v_iload_n dX3_clashes_2 rfl (by rfl) ?_
    refine v_aload_n dX3_clashes_3 rfl (by rfl) ?_
    refine v_getf hE dX3_clashes_4 fX3_37 (by repeat (first | assumption | exact va_up_self _ _ _ | refine (va_up_ne _ _ (by omega)).trans ?_)) (by rfl) ?_
    refine v_icmp_geN (tgt := 60) dX3_clashes_7 (by decide) (by omega) (by omega) (fun c7 => ?_) (fun c7 => ?_)
    · refine v_iconst (v := nI 0) dX3_clashes_60 (by decide) ?_
      refine v_iret dX3_clashes_61 rfl (by first | rfl | exact nar_bI) ?_
      refine ⟨congrArg (fun x => (Sum.inl (some (Value.int x)) : aO)) ?_, rfl, rfl⟩
      rw [he]
      first
        | (rw [allB_0 (by omega)]; rfl)
        | (rw [allB_f (by omega) (show hClB W v.1 (hCh z) k = false from decide_eq_false c49)]; rfl)
    · obtain ⟨x0, x1, x2, x3, x4, x5, x6⟩ := hs.2 _ (hX _ (hc0 (k - 1)))
      obtain ⟨y0, y1, y2, y3, y4, y5, y6⟩ := hs.2 _ (hX _ (hc0 k))
      have g1 := hc0 (k - 1)
      have g2 := hc0 k
      refine v_aload_n dX3_clashes_10 rfl (by rfl) ?_
      refine v_getf hE dX3_clashes_11 fX3_44 (by repeat (first | assumption | exact va_up_self _ _ _ | refine (va_up_ne _ _ (by omega)).trans ?_)) (by rfl) ?_
      refine v_aload_n dX3_clashes_14 rfl (by rfl) ?_
      refine v_getf hE dX3_clashes_15 fX3_9 (by repeat (first | assumption | exact va_up_self _ _ _ | refine (va_up_ne _ _ (by omega)).trans ?_)) (by rfl) ?_
      refine v_iload_n dX3_clashes_18 rfl (by rfl) ?_
      refine v_iconst (v := nI 1) dX3_clashes_19 (by decide) ?_
      refine v_isubN dX3_clashes_20 (by omega) ?_
      refine v_iald hE dX3_clashes_21 (by repeat (first | assumption | exact va_up_self _ _ _ | refine (va_up_ne _ _ (by omega)).trans ?_)) (by omega) (by omega) ?_
      refine v_aaldC hE dX3_clashes_22 (by repeat (first | assumption | exact va_up_self _ _ _ | refine (va_up_ne _ _ (by omega)).trans ?_)) (by omega) ?_
      refine v_astore_n dX3_clashes_23 rfl (by decide) ?_
      refine v_aload_n dX3_clashes_24 rfl (by rfl) ?_
      refine v_getf hE dX3_clashes_25 fX3_44 (by repeat (first | assumption | exact va_up_self _ _ _ | refine (va_up_ne _ _ (by omega)).trans ?_)) (by rfl) ?_
      refine v_aload_n dX3_clashes_28 rfl (by rfl) ?_
      refine v_getf hE dX3_clashes_29 fX3_9 (by repeat (first | assumption | exact va_up_self _ _ _ | refine (va_up_ne _ _ (by omega)).trans ?_)) (by rfl) ?_
      refine v_iload_n dX3_clashes_32 rfl (by rfl) ?_
      refine v_iald hE dX3_clashes_33 (by repeat (first | assumption | exact va_up_self _ _ _ | refine (va_up_ne _ _ (by omega)).trans ?_)) (by omega) (by omega) ?_
      refine v_aaldC hE dX3_clashes_34 (by repeat (first | assumption | exact va_up_self _ _ _ | refine (va_up_ne _ _ (by omega)).trans ?_)) (by omega) ?_
      refine v_getf hE dX3_clashes_35 fX3_65 (by repeat (first | assumption | exact va_up_self _ _ _ | refine (va_up_ne _ _ (by omega)).trans ?_)) (by rfl) ?_
      refine v_aload_n dX3_clashes_38 rfl (by rfl) ?_
      refine v_getf hE dX3_clashes_39 fX3_65 (by repeat (first | assumption | exact va_up_self _ _ _ | refine (va_up_ne _ _ (by omega)).trans ?_)) (by rfl) ?_
      refine v_aload_n dX3_clashes_42 rfl (by rfl) ?_
      refine v_getf hE dX3_clashes_43 fX3_68 (by repeat (first | assumption | exact va_up_self _ _ _ | refine (va_up_ne _ _ (by omega)).trans ?_)) (by rfl) ?_
      refine v_iconst (v := nI 0) dX3_clashes_46 (by decide) ?_
      refine v_iald hE dX3_clashes_47 (by repeat (first | assumption | exact va_up_self _ _ _ | refine (va_up_ne _ _ (by omega)).trans ?_)) (by omega) (by omega) ?_
      refine v_iadd dX3_clashes_48 ?_
      refine v_icmp_ge (tgt := 54) dX3_clashes_49 (by decide) (fun c49 => ?_) (fun c49 => ?_)
      · refine v_iincN (y := 1) dX3_clashes_54 (by rfl) (by decide) (by decide) ?_
        refine v_goto (tgt := 2) dX3_clashes_57 (by decide) ?_
        exact ih (d - 1) (by omega) (k + 1) _ (by omega) (by omega) (he.trans (allB_s (by omega) (decide_eq_true c49)))
      · refine v_iconst (v := nI 1) dX3_clashes_52 (by decide) ?_
        refine v_iret dX3_clashes_53 rfl (by first | rfl | exact nar_bI) ?_
        refine ⟨congrArg (fun x => (Sum.inl (some (Value.int x)) : aO)) ?_, rfl, rfl⟩
        rw [he]
        first
          | (rw [allB_0 (by omega)]; rfl)
          | (rw [allB_f (by omega) (show hClB W v.1 (hCh z) k = false from decide_eq_false c49)]; rfl)
  refine v_iconst (v := nI 1) dX3_clashes_0 (by decide) ?_
  refine v_istore_n dX3_clashes_1 rfl (by decide) ?_
  exact lp (max 1 (hCc z) - 1) 1 none (by omega) (by omega) rfl
