def qThn (r : Bool × eV) (bad : qV) (k : eV → Bool × qV × eV) : Bool × qV × eV := if r.1 = true then k r.2 else (false, bad, r.2)
def qFC (v : qV) (k : Nat) : qV := qFail v 4 (qSt v k)
def qE9 (u : tS) (v : qV) (g : gV) (n : Nat) (y : eV) : Bool × qV × eV := qThn ((decide (n = 0) || qCol u v 8 tx9, y)) (qFC v 8) (fun y => (true, v, y))
def qE8 (u : tS) (v : qV) (g : gV) (n : Nat) (y : eV) : Bool × qV × eV := qThn ((qCol u v 7 tx7, y)) (qFC v 7) (qE9 u v g n)
def qE7 (u : tS) (v : qV) (g : gV) (n : Nat) (y : eV) : Bool × qV × eV := qThn (qPas u v y) (qFC v 6) (qE8 u v g n)
def qE6 (u : tS) (v : qV) (g : gV) (n : Nat) (y : eV) : Bool × qV × eV := qThn (qQua u v y) (qFC v 5) (qE7 u v g n)
def qE5 (u : tS) (v : qV) (g : gV) (n : Nat) (y : eV) : Bool × qV × eV := qThn (qAlts u v y) (qFC v 4) (qE6 u v g n)
def qE4 (u : tS) (v : qV) (g : gV) (n : Nat) (y : eV) : Bool × qV × eV := qThn ((qRef g (eSq y).toNatClampNeg (ePl y).toNatClampNeg y, y)) (qFail v 5 (qSt v 3)) (qE5 u v g n)
def qE3 (u : tS) (v : qV) (g : gV) (n : Nat) (y : eV) : Bool × qV × eV := qThn (qRow u 0 (qSt v 3) (qSt v 4 - 1) y) (qFC v 3) (qE4 u v g n)
def qE2 (u : tS) (v : qV) (g : gV) (n : Nat) (y : eV) : Bool × qV × eV := qThn (qId u v y) (qFC v 2) (qE3 u v g n)
def qE1 (u : tS) (v : qV) (g : gV) (n : Nat) (y : eV) : Bool × qV × eV := qThn (qPlc u v g (eSq y).toNatClampNeg y) (qFC v 1) (qE2 u v g n)
def qE0 (u : tS) (v : qV) (g : gV) (n : Nat) (y : eV) : Bool × qV × eV := qThn (qSeq u v g y) (qFC v 0) (qE1 u v g n)
theorem tNumL_r {u : tS} {L : Nat} : ∀ (d k v : Nat), v ≤ L → tNumL u L d k v = -1 ∨ ∃ p, p ≤ L ∧ tNumL u L d k v = nI p := by
  intro d
  induction d with
  | zero => intro k v h; exact Or.inr ⟨v, h, rfl⟩
  | succ d ih =>
    intro k v h
    unfold tNumL
    split
    · exact Or.inl rfl
    · split
      · exact Or.inl rfl
      · exact ih (k + 1) _ (by omega)
theorem tNum_r {u : tS} {i j L : Nat} : tNum u i j L = -1 ∨ ∃ p, p ≤ L ∧ tNum u i j L = nI p := by
  unfold tNum
  split
  · exact Or.inl rfl
  · exact tNumL_r _ _ _ (Nat.zero_le _)
def eK2 (y w : eV) : Prop := eSq y = eSq w ∧ ePl y = ePl w
theorem qIdL_k {u : tS} : ∀ (d k : Nat) (w : eV), eK2 (qIdL u d k w) w := by
  intro d
  induction d with
  | zero => intro k w; exact ⟨rfl, rfl⟩
  | succ d ih =>
    intro k w
    obtain ⟨h1, h2⟩ := ih (k + 1) (eAddI w (ocAt u.1 u.2.1 (nI k)))
    have h3 : eK2 (eAddI w (ocAt u.1 u.2.1 (nI k))) w := by
      unfold eAddI
      split <;> exact ⟨rfl, rfl⟩
    exact ⟨h1.trans h3.1, h2.trans h3.2⟩
theorem qId_k {u : tS} {v : qV} {w : eV} : eK2 (qId u v w).2 w := by
  unfold qId
  split
  · exact ⟨rfl, rfl⟩
  · split
    · exact qIdL_k _ _ (wIz w 0)
    · exact ⟨rfl, rfl⟩
theorem qRowL_k {u : tS} {r : Nat} : ∀ (d k : Nat) (w : eV), eK2 (qRowL u r d k w).2 w ∧ ((qRowL u r d k w).1 = true → eRo (qRowL u r d k w).2 = r + 1) ∧ (eRo (qRowL u r d k w).2 = r + 1 ∨ eRo (qRowL u r d k w).2 = eRo w) := by
  intro d
  induction d with
  | zero => intro k w; exact ⟨⟨rfl, rfl⟩, fun _ => rfl, Or.inl rfl⟩
  | succ d ih =>
    intro k w
    unfold qRowL
    split
    · exact ⟨⟨rfl, rfl⟩, fun h => by (cases h), Or.inr rfl⟩
    · obtain ⟨⟨h1, h2⟩, h3, h4⟩ := ih (k + 1) (eAddL w r (ltr (ocAt u.1 u.2.1 (nI k))))
      have h5 : eK2 (eAddL w r (ltr (ocAt u.1 u.2.1 (nI k)))) w ∧ eRo (eAddL w r (ltr (ocAt u.1 u.2.1 (nI k)))) = eRo w := by
        unfold eAddL
        split <;> exact ⟨⟨rfl, rfl⟩, rfl⟩
      exact ⟨⟨h1.trans h5.1.1, h2.trans h5.1.2⟩, h3, by rw [← h5.2]; exact h4⟩
theorem qRow_k {u : tS} {r i j : Nat} {w : eV} : eK2 (qRow u r i j w).2 w ∧ ((qRow u r i j w).1 = true → eRo (qRow u r i j w).2 = r + 1) ∧ (eRo (qRow u r i j w).2 = r + 1 ∨ eRo (qRow u r i j w).2 = eRo w) := by
  unfold qRow
  split
  · exact ⟨⟨rfl, rfl⟩, fun h => by (cases h), Or.inr rfl⟩
  · exact qRowL_k _ _ (wRs w (va_up (eRs w) r 0))
theorem qAltL_k {u : tS} {j : Nat} : ∀ (d k i : Nat) (w : eV), 1 ≤ eRo w → eK2 (qAltL u j d k i w).2 w ∧ 1 ≤ eRo (qAltL u j d k i w).2 := by
  intro d
  induction d with
  | zero => intro k i w h; exact ⟨⟨rfl, rfl⟩, h⟩
  | succ d ih =>
    intro k i w h
    have hq : eK2 (qAlt u i k w).2 w ∧ 1 ≤ eRo (qAlt u i k w).2 := by
      rw [qAlt_2]
      obtain ⟨h1, h2, h3⟩ := qRow_k (u := u) (r := eRo w) (i := i) (j := k) (w := w)
      exact ⟨h1, by omega⟩
    unfold qAltL
    split
    · split
      · obtain ⟨h1, h2⟩ := ih (k + 1) (k + 1) (qAlt u i k w).2 hq.2
        exact ⟨⟨h1.1.trans hq.1.1, h1.2.trans hq.1.2⟩, h2⟩
      · exact hq
    · exact ih _ _ _ h
theorem qAlts_k {u : tS} {v : qV} {w : eV} (h : 1 ≤ eRo w) : eK2 (qAlts u v w).2 w ∧ 1 ≤ eRo (qAlts u v w).2 := by
  unfold qAlts
  split
  · exact ⟨⟨rfl, rfl⟩, h⟩
  · exact qAltL_k _ _ _ _ h
theorem nmIn_r {L : Nat} {n : nV} {u : tS} {i j : Nat} (h : ¬ nmIn L n u i j = -1) : ∃ q, q < n.1 ∧ nmIn L n u i j = nI q := by
  obtain ⟨q, h1, h2, h3, h4⟩ := fndB_r _ _ h
  exact ⟨q, by omega, h3⟩
/-- what a record taken from a line keeps -/
theorem qE5_ok {u : tS} {v : qV} {g : gV} {n : Nat} {y : eV} (h : enOk y) (hr : 1 ≤ eRo y) : enOk (qE5 u v g n y).2.2 ∧ 1 ≤ eRo (qE5 u v g n y).2.2 := by
  have q1 : enOk (qAlts u v y).2 := qAlts_ok h
  have q2 := (qAlts_k (u := u) (v := v) hr).2
  unfold qE5 qThn
  split
  · unfold qE6 qThn
    split
    · unfold qE7 qThn
      split
      · unfold qE8 qThn
        split
        · unfold qE9 qThn
          split <;> exact ⟨q1, q2⟩
        · exact ⟨q1, q2⟩
      · exact ⟨q1, q2⟩
    · exact ⟨q1, q2⟩
  · exact ⟨q1, q2⟩
theorem qE0_ok {u : tS} {v : qV} {g : gV} {n : Nat} {y : eV} (h : enOk y) : enOk (qE0 u v g n y).2.2 ∧ ((qE0 u v g n y).1 = true → 1 ≤ eRo (qE0 u v g n y).2.2) := by
  unfold qE0 qThn
  split
  · unfold qE1 qThn
    split
    · unfold qE2 qThn
      split
      · unfold qE3 qThn
        split
        · rename_i hr
          unfold qE4 qThn
          split
          · have q := qE5_ok (u := u) (v := v) (g := g) (n := n) (y := (qRow u 0 (qSt v 3) (qSt v 4 - 1) (qId u v (qPlc u v g (eSq (qSeq u v g y).2).toNatClampNeg (qSeq u v g y).2).2).2).2) (qRow_ok (qId_ok h)) (by rw [qRow_k.2.1 hr]; omega)
            exact ⟨q.1, fun _ => q.2⟩
          · exact ⟨qRow_ok (qId_ok h), fun q => by (cases q)⟩
        · exact ⟨qRow_ok (qId_ok h), fun q => by (cases q)⟩
      · exact ⟨qId_ok h, fun q => by (cases q)⟩
    · exact ⟨h, fun q => by (cases q)⟩
  · exact ⟨h, fun q => by (cases q)⟩
def qAll (u : tS) (v : qV) : Nat → Nat → eV → Bool × qV × eV
  | 0, _, w => (true, v, w)
  | d + 1, r, w => if (qCls u (qSt v (9 + r)) (qSt v (9 + r + 1) - 1) r w).1 = true then qAll u v d (r + 1) (qCls u (qSt v (9 + r)) (qSt v (9 + r + 1) - 1) r w).2 else (false, qFC v (9 + r), (qCls u (qSt v (9 + r)) (qSt v (9 + r + 1) - 1) r w).2)
theorem qCls_ro {u : tS} {i j r : Nat} {w : eV} : eRo (qCls u i j r w).2 = eRo w := by
  unfold qCls
  split <;> rfl
theorem qAll_ok {u : tS} {v : qV} : ∀ (d r : Nat) (w : eV), enOk w → enOk (qAll u v d r w).2.2 := by
  intro d
  induction d with
  | zero => intro r w h; exact h
  | succ d ih =>
    intro r w h
    unfold qAll
    split
    · exact ih _ _ (qCls_ok h)
    · exact qCls_ok h

set_option maxRecDepth 100000 in
set_option maxHeartbeats 4000000 in
/-- SheetReader.failColumn -/
theorem sX8_failColumn {E : eN} (hE : eOk E) {f : aH} {t : Nat} {a tp c s k : Nat} {v : qV} (h : srP tp c s f a v) (hk : k < 13) : mT E mX8_failColumn 0 0 [.ref a, .int (nI k)] f t (fun o f' t' => o = .inl (some (.int (bI false))) ∧ t' = t ∧ f' = srS tp c s f a (qFC v k)) := by
  refine mT_of (n := 0) (lo := [some (.ref a), some (.int (nI k))]) (by decide) (by exact Nat.le_of_ble_eq_true rfl) rfl rfl ?_
  obtain ⟨h0, h1⟩ := id h
  refine v_aload_n dX8_failColumn_0 rfl (by rfl) ?_
  refine v_iconst (v := nI 4) dX8_failColumn_1 (by decide) ?_
  refine v_aload_n dX8_failColumn_2 rfl (by rfl) ?_
  refine v_getf hE dX8_failColumn_3 fX8_23 (by repeat (first | assumption | exact va_up_self _ _ _ | refine (va_up_ne _ _ (by omega)).trans ?_)) (by rfl) ?_
  refine v_iload_n dX8_failColumn_6 rfl (by rfl) ?_
  refine v_iald hE dX8_failColumn_7 (by repeat (first | assumption | exact va_up_self _ _ _ | refine (va_up_ne _ _ (by omega)).trans ?_)) (by omega) (by omega) ?_
  refine w_callV hE dX8_failColumn_8 kX8_57 (by repeat (first | assumption | exact va_up_self _ _ _ | refine (va_up_ne _ _ (by omega)).trans ?_)) (by rfl) (by rfl) (sX8_fail hE h) rfl (by decide) (by decide) (by exact Nat.le_of_ble_eq_true rfl) (by omega) (by omega) (fun v9 g9 u9 h9 => ?_) (fun _ _ _ h => by cases h.1)
  obtain ⟨hv9, hu9, hg9⟩ := h9
  replace hu9 := hu9.symm
  replace hg9 := hg9.symm
  subst hu9
  subst hg9
  cases hv9
  refine v_iret dX8_failColumn_11 rfl (by first | rfl | exact nar_bI) ?_
  exact ⟨rfl, rfl, rfl⟩

theorem gnSz_le {g : gV} {q : Nat} (hgo : gOk g) : gnSz g q ≤ 3000 := by
  have k1 := hgo.2.2.1
  unfold gnSz
  split
  · rename_i hh
    have k2 := hgo.2.2.2 q hh
    omega
  · omega
theorem qThn_t {r : Bool × eV} {bad : qV} {k : eV → Bool × qV × eV} (h : r.1 = true) : qThn r bad k = k r.2 := if_pos h
theorem qThn_f {r : Bool × eV} {bad : qV} {k : eV → Bool × qV × eV} (h : r.1 = false) : qThn r bad k = (false, bad, r.2) := if_neg (by rw [h]; decide)
set_option maxRecDepth 100000 in
set_option maxHeartbeats 4000000 in
/-- SheetReader.takeEntry -/
theorem sX8_takeEntry {E : eN} (hE : eOk E) {f : aH} {t : Nat} {a tp c s x : Nat} {v : qV} {u : tS} {w : eV} {g : gV} {z : sV} (h : srP tp c s f a v) (hu : oP f tp u) (hw : enP f x w) (hwo : enOk w) (hg : gnP f c g) (hgo : gOk g) (hz : shP f s z) (hzo : nOk 3 z.2.1) (hS : eSt E) (hC : qC v) (da : x + 6 < a ∨ a + 1 < x) (dt : tp + 1 < x ∨ x + 6 < tp) (dc : c + 8 < x ∨ x + 6 < c) (ds : x + 6 < s ∨ s + 4 < x) (hm : 8 ≤ qCm v) (hm9 : ¬ z.2.1.1 = 0 → 8 < qCm v) : mT E mX8_takeEntry 0 0 [.ref a, .ref x] f t (fun o f' t' => o = .inl (some (.int (bI (qE0 u v g z.2.1.1 w).1))) ∧ t' = t ∧ f' = srS tp c s (enS f x (qE0 u v g z.2.1.1 w).2.2) a (qE0 u v g z.2.1.1 w).2.1) := by
  refine mT_of (n := 0) (lo := [some (.ref a), some (.ref x)]) (by decide) (by exact Nat.le_of_ble_eq_true rfl) rfl rfl ?_
  have hgc := hgo.1.1
  have hg1 := hgo.2.1
  have m0 := hzo.1
  have g0 : qSt v 0 < qSt v 1 := (hC.2 0 (by omega) (by omega)).2
  have g0b := hC.1 1
  have g1 : qSt v 1 < qSt v 2 := (hC.2 1 (by omega) (by omega)).2
  have g1b := hC.1 2
  have g2 : qSt v 2 < qSt v 3 := (hC.2 2 (by omega) (by omega)).2
  have g2b := hC.1 3
  have g3 : qSt v 3 < qSt v 4 := (hC.2 3 (by omega) (by omega)).2
  have g3b := hC.1 4
  have g4 : qSt v 4 < qSt v 5 := (hC.2 4 (by omega) (by omega)).2
  have g4b := hC.1 5
  have g5 : qSt v 5 < qSt v 6 := (hC.2 5 (by omega) (by omega)).2
  have g5b := hC.1 6
  have g6 : qSt v 6 < qSt v 7 := (hC.2 6 (by omega) (by omega)).2
  have g6b := hC.1 7
  have g7 : qSt v 7 < qSt v 8 := (hC.2 7 (by omega) (by omega)).2
  have g7b := hC.1 8
  have st9 : ∀ (y : eV), enOk y → (qE0 u v g z.2.1.1 w) = qE9 u v g z.2.1.1 y → V E mX8_takeEntry 0 0 (fun o f' t' => o = .inl (some (.int (bI (qE0 u v g z.2.1.1 w).1))) ∧ t' = t ∧ f' = srS tp c s (enS f x (qE0 u v g z.2.1.1 w).2.2) a (qE0 u v g z.2.1.1 w).2.1) 170 [some (.ref a), some (.ref x)] [] (enS f x y) t 0 0 := by
    intro  y hy  he
    have hs2 := sr_enS (w := y) h da
    obtain ⟨h2, h3⟩ := id hs2
    have hu2 := oP_enS (w := y) hu dt
    have hw2 := enP_S f x y
    obtain ⟨x0, x1, x2, x3, x4, x5, x6⟩ := id hw2
    have hg2 := gn_enS (v := y) hg dc
    obtain ⟨z0, z1, z2, z3, z4⟩ := sh_enS (w := y) hz ds
    have he2 : (qE0 u v g z.2.1.1 w) = qThn (decide (z.2.1.1 = 0) || qCol u v 8 tx9, y) (qFC v 8) (fun y => (true, v, y)) := he
    refine v_aload_n dX8_takeEntry_170 rfl (by rfl) ?_
    refine v_getf hE dX8_takeEntry_171 fX8_19 (by repeat (first | assumption | exact va_up_self _ _ _ | refine (va_up_ne _ _ (by omega)).trans ?_)) (by rfl) ?_
    refine v_getf hE dX8_takeEntry_174 fX8_121 (by repeat (first | assumption | exact va_up_self _ _ _ | refine (va_up_ne _ _ (by omega)).trans ?_)) (by rfl) ?_
    refine v_getf hE dX8_takeEntry_177 fX8_169 (by repeat (first | assumption | exact va_up_self _ _ _ | refine (va_up_ne _ _ (by omega)).trans ?_)) (by rfl) ?_
    refine v_if_eqN (tgt := 203) dX8_takeEntry_180 (by decide) (by omega) (fun c180 => ?_) (fun c180 => ?_)
    · refine v_iconst (v := nI 1) dX8_takeEntry_203 (by decide) ?_
      refine v_goto (tgt := 208) dX8_takeEntry_204 (by decide) ?_
      refine v_iret dX8_takeEntry_208 rfl (by first | rfl | exact nar_bI) ?_
      first
        | (have hR : (qE0 u v g z.2.1.1 w) = (true, v, y) := he2.trans (qThn_t (by show (_ || _) = true; rw [decide_eq_true (show z.2.1.1 = 0 by omega)]; rfl))
           rw [hR]; exact ⟨rfl, rfl, (srS_id (sr_enS h da)).symm⟩)
        | (have hR : (qE0 u v g z.2.1.1 w) = (true, v, y) := he2.trans (qThn_t (by show (_ || _) = true; rw [c191, Bool.or_true]))
           rw [hR]; exact ⟨rfl, rfl, (srS_id (sr_enS h da)).symm⟩)
        | (have hR : (qE0 u v g z.2.1.1 w) = (false, qFC v 8, y) := he2.trans (qThn_f (by show (_ || _) = false; rw [c191, decide_eq_false (show ¬ z.2.1.1 = 0 by omega)]; rfl))
           rw [hR]; exact ⟨rfl, rfl, rfl⟩)
    · refine v_aload_n dX8_takeEntry_183 rfl (by rfl) ?_
      refine v_bipush (v := nI 8) dX8_takeEntry_184 (by decide) ?_
      refine v_ldcS hS (r := (RX8, 172, "GT", tx9)) dX8_takeEntry_186 (by unfold strTab; repeat (first | exact List.Mem.head _ | apply List.Mem.tail)) rfl rfl (fun q186 hq186 => ?_)
      refine w_callV hE dX8_takeEntry_188 kX8_112 (by repeat (first | assumption | exact va_up_self _ _ _ | refine (va_up_ne _ _ (by omega)).trans ?_)) (by rfl) (by rfl) (sX8_columnIs hE hs2 hu2 hS hq186 (by decide) (by decide) (by omega) (hC.2 8 (hm9 c180) (by omega)).2 (hC.1 9)) rfl (by decide) (by decide) (by exact Nat.le_of_ble_eq_true rfl) (by omega) (by omega) (fun v9 g9 u9 h9 => ?_) (fun _ _ _ h => by cases h.1)
      obtain ⟨hv9, hu9, hg9⟩ := h9
      replace hu9 := hu9.symm
      replace hg9 := hg9.symm
      subst hu9
      subst hg9
      cases hv9
      refine v_if_neB (tgt := 203) dX8_takeEntry_191 (by decide) (fun c191 => ?_) (fun c191 => ?_)
      · refine v_iconst (v := nI 1) dX8_takeEntry_203 (by decide) ?_
        refine v_goto (tgt := 208) dX8_takeEntry_204 (by decide) ?_
        refine v_iret dX8_takeEntry_208 rfl (by first | rfl | exact nar_bI) ?_
        first
          | (have hR : (qE0 u v g z.2.1.1 w) = (true, v, y) := he2.trans (qThn_t (by show (_ || _) = true; rw [decide_eq_true (show z.2.1.1 = 0 by omega)]; rfl))
             rw [hR]; exact ⟨rfl, rfl, (srS_id (sr_enS h da)).symm⟩)
          | (have hR : (qE0 u v g z.2.1.1 w) = (true, v, y) := he2.trans (qThn_t (by show (_ || _) = true; rw [c191, Bool.or_true]))
             rw [hR]; exact ⟨rfl, rfl, (srS_id (sr_enS h da)).symm⟩)
          | (have hR : (qE0 u v g z.2.1.1 w) = (false, qFC v 8, y) := he2.trans (qThn_f (by show (_ || _) = false; rw [c191, decide_eq_false (show ¬ z.2.1.1 = 0 by omega)]; rfl))
             rw [hR]; exact ⟨rfl, rfl, rfl⟩)
      · refine v_aload_n dX8_takeEntry_194 rfl (by rfl) ?_
        refine v_bipush (v := nI 8) dX8_takeEntry_195 (by decide) ?_
        refine w_callV hE dX8_takeEntry_197 kX8_141 (by repeat (first | assumption | exact va_up_self _ _ _ | refine (va_up_ne _ _ (by omega)).trans ?_)) (by rfl) (by rfl) (sX8_failColumn hE (sr_enS (w := y) h da) (by omega)) rfl (by decide) (by decide) (by exact Nat.le_of_ble_eq_true rfl) (by omega) (by omega) (fun v9 g9 u9 h9 => ?_) (fun _ _ _ h => by cases h.1)
        obtain ⟨hv9, hu9, hg9⟩ := h9
        replace hu9 := hu9.symm
        replace hg9 := hg9.symm
        subst hu9
        subst hg9
        cases hv9
        refine v_if_eqB (tgt := 207) dX8_takeEntry_200 (by decide) (fun c200 => ?_) (fun c200 => ?_)
        · refine v_iconst (v := nI 0) dX8_takeEntry_207 (by decide) ?_
          refine v_iret dX8_takeEntry_208 rfl (by first | rfl | exact nar_bI) ?_
          first
            | (have hR : (qE0 u v g z.2.1.1 w) = (true, v, y) := he2.trans (qThn_t (by show (_ || _) = true; rw [decide_eq_true (show z.2.1.1 = 0 by omega)]; rfl))
               rw [hR]; exact ⟨rfl, rfl, (srS_id (sr_enS h da)).symm⟩)
            | (have hR : (qE0 u v g z.2.1.1 w) = (true, v, y) := he2.trans (qThn_t (by show (_ || _) = true; rw [c191, Bool.or_true]))
               rw [hR]; exact ⟨rfl, rfl, (srS_id (sr_enS h da)).symm⟩)
            | (have hR : (qE0 u v g z.2.1.1 w) = (false, qFC v 8, y) := he2.trans (qThn_f (by show (_ || _) = false; rw [c191, decide_eq_false (show ¬ z.2.1.1 = 0 by omega)]; rfl))
               rw [hR]; exact ⟨rfl, rfl, rfl⟩)
        · exact absurd c200 (by decide)
  have st8 : ∀ (y : eV), enOk y → (qE0 u v g z.2.1.1 w) = qE8 u v g z.2.1.1 y → V E mX8_takeEntry 0 0 (fun o f' t' => o = .inl (some (.int (bI (qE0 u v g z.2.1.1 w).1))) ∧ t' = t ∧ f' = srS tp c s (enS f x (qE0 u v g z.2.1.1 w).2.2) a (qE0 u v g z.2.1.1 w).2.1) 150 [some (.ref a), some (.ref x)] [] (enS f x y) t 0 0 := by
    intro  y hy  he
    have hs2 := sr_enS (w := y) h da
    obtain ⟨h2, h3⟩ := id hs2
    have hu2 := oP_enS (w := y) hu dt
    have hw2 := enP_S f x y
    obtain ⟨x0, x1, x2, x3, x4, x5, x6⟩ := id hw2
    have hg2 := gn_enS (v := y) hg dc
    obtain ⟨z0, z1, z2, z3, z4⟩ := sh_enS (w := y) hz ds
    have he2 : (qE0 u v g z.2.1.1 w) = qThn (qCol u v 7 tx7, y) (qFC v 7) (qE9 u v g z.2.1.1) := he
    refine v_aload_n dX8_takeEntry_150 rfl (by rfl) ?_
    refine v_bipush (v := nI 7) dX8_takeEntry_151 (by decide) ?_
    refine v_ldcS hS (r := (RX8, 167, ".", tx7)) dX8_takeEntry_153 (by unfold strTab; repeat (first | exact List.Mem.head _ | apply List.Mem.tail)) rfl rfl (fun q153 hq153 => ?_)
    refine w_callV hE dX8_takeEntry_155 kX8_112 (by repeat (first | assumption | exact va_up_self _ _ _ | refine (va_up_ne _ _ (by omega)).trans ?_)) (by rfl) (by rfl) (sX8_columnIs hE hs2 hu2 hS hq153 (by decide) (by decide) (by omega) g7 g7b) rfl (by decide) (by decide) (by exact Nat.le_of_ble_eq_true rfl) (by omega) (by omega) (fun v9 g9 u9 h9 => ?_) (fun _ _ _ h => by cases h.1)
    obtain ⟨hv9, hu9, hg9⟩ := h9
    replace hu9 := hu9.symm
    replace hg9 := hg9.symm
    subst hu9
    subst hg9
    cases hv9
    refine v_if_neB (tgt := 170) dX8_takeEntry_158 (by decide) (fun c158 => ?_) (fun c158 => ?_)
    · exact st9 y hy (he2.trans (qThn_t c158))
    · refine v_aload_n dX8_takeEntry_161 rfl (by rfl) ?_
      refine v_bipush (v := nI 7) dX8_takeEntry_162 (by decide) ?_
      refine w_callV hE dX8_takeEntry_164 kX8_141 (by repeat (first | assumption | exact va_up_self _ _ _ | refine (va_up_ne _ _ (by omega)).trans ?_)) (by rfl) (by rfl) (sX8_failColumn hE (sr_enS (w := y) h da) (by omega)) rfl (by decide) (by decide) (by exact Nat.le_of_ble_eq_true rfl) (by omega) (by omega) (fun v9 g9 u9 h9 => ?_) (fun _ _ _ h => by cases h.1)
      obtain ⟨hv9, hu9, hg9⟩ := h9
      replace hu9 := hu9.symm
      replace hg9 := hg9.symm
      subst hu9
      subst hg9
      cases hv9
      refine v_if_eqB (tgt := 207) dX8_takeEntry_167 (by decide) (fun c167 => ?_) (fun c167 => ?_)
      · refine v_iconst (v := nI 0) dX8_takeEntry_207 (by decide) ?_
        refine v_iret dX8_takeEntry_208 rfl (by first | rfl | exact nar_bI) ?_
        have hR : (qE0 u v g z.2.1.1 w) = (false, qFC v 7, (qCol u v 7 tx7, y).2) := he2.trans (qThn_f c158)
        rw [hR]
        exact ⟨rfl, rfl, rfl⟩
      · exact absurd c167 (by decide)
  have st7 : ∀ (y : eV), enOk y → (qE0 u v g z.2.1.1 w) = qE7 u v g z.2.1.1 y → V E mX8_takeEntry 0 0 (fun o f' t' => o = .inl (some (.int (bI (qE0 u v g z.2.1.1 w).1))) ∧ t' = t ∧ f' = srS tp c s (enS f x (qE0 u v g z.2.1.1 w).2.2) a (qE0 u v g z.2.1.1 w).2.1) 133 [some (.ref a), some (.ref x)] [] (enS f x y) t 0 0 := by
    intro  y hy  he
    have hs2 := sr_enS (w := y) h da
    obtain ⟨h2, h3⟩ := id hs2
    have hu2 := oP_enS (w := y) hu dt
    have hw2 := enP_S f x y
    obtain ⟨x0, x1, x2, x3, x4, x5, x6⟩ := id hw2
    have hg2 := gn_enS (v := y) hg dc
    obtain ⟨z0, z1, z2, z3, z4⟩ := sh_enS (w := y) hz ds
    have he2 : (qE0 u v g z.2.1.1 w) = qThn (qPas u v y) (qFC v 6) (qE8 u v g z.2.1.1) := he
    refine v_aload_n dX8_takeEntry_133 rfl (by rfl) ?_
    refine v_aload_n dX8_takeEntry_134 rfl (by rfl) ?_
    refine w_callV hE dX8_takeEntry_135 kX8_164 (by repeat (first | assumption | exact va_up_self _ _ _ | refine (va_up_ne _ _ (by omega)).trans ?_)) (by rfl) (by rfl) (sX8_takePassed hE hs2 hu2 hw2 hy da dt hC hm hS) rfl (by decide) (by decide) (by exact Nat.le_of_ble_eq_true rfl) (by omega) (by omega) (fun v9 g9 u9 h9 => ?_) (fun _ _ _ h => by cases h.1)
    obtain ⟨hv9, hu9, hg9⟩ := h9
    replace hu9 := hu9.symm
    replace hg9 := hg9.symm
    subst hu9
    subst hg9
    cases hv9
    refine v_hp enS_S ?_
    obtain ⟨h4, h5⟩ := sr_enS (w := (qPas u v y).2) h da
    refine v_if_neB (tgt := 150) dX8_takeEntry_138 (by decide) (fun c138 => ?_) (fun c138 => ?_)
    · exact st8 (qPas u v y).2 hy (he2.trans (qThn_t c138))
    · refine v_aload_n dX8_takeEntry_141 rfl (by rfl) ?_
      refine v_bipush (v := nI 6) dX8_takeEntry_142 (by decide) ?_
      refine w_callV hE dX8_takeEntry_144 kX8_141 (by repeat (first | assumption | exact va_up_self _ _ _ | refine (va_up_ne _ _ (by omega)).trans ?_)) (by rfl) (by rfl) (sX8_failColumn hE (sr_enS (w := (qPas u v y).2) h da) (by omega)) rfl (by decide) (by decide) (by exact Nat.le_of_ble_eq_true rfl) (by omega) (by omega) (fun v9 g9 u9 h9 => ?_) (fun _ _ _ h => by cases h.1)
      obtain ⟨hv9, hu9, hg9⟩ := h9
      replace hu9 := hu9.symm
      replace hg9 := hg9.symm
      subst hu9
      subst hg9
      cases hv9
      refine v_if_eqB (tgt := 207) dX8_takeEntry_147 (by decide) (fun c147 => ?_) (fun c147 => ?_)
      · refine v_iconst (v := nI 0) dX8_takeEntry_207 (by decide) ?_
        refine v_iret dX8_takeEntry_208 rfl (by first | rfl | exact nar_bI) ?_
        have hR : (qE0 u v g z.2.1.1 w) = (false, qFC v 6, (qPas u v y).2) := he2.trans (qThn_f c138)
        rw [hR]
        exact ⟨rfl, rfl, rfl⟩
      · exact absurd c147 (by decide)
  have st6 : ∀ (y : eV), enOk y → (qE0 u v g z.2.1.1 w) = qE6 u v g z.2.1.1 y → V E mX8_takeEntry 0 0 (fun o f' t' => o = .inl (some (.int (bI (qE0 u v g z.2.1.1 w).1))) ∧ t' = t ∧ f' = srS tp c s (enS f x (qE0 u v g z.2.1.1 w).2.2) a (qE0 u v g z.2.1.1 w).2.1) 117 [some (.ref a), some (.ref x)] [] (enS f x y) t 0 0 := by
    intro  y hy  he
    have hs2 := sr_enS (w := y) h da
    obtain ⟨h2, h3⟩ := id hs2
    have hu2 := oP_enS (w := y) hu dt
    have hw2 := enP_S f x y
    obtain ⟨x0, x1, x2, x3, x4, x5, x6⟩ := id hw2
    have hg2 := gn_enS (v := y) hg dc
    obtain ⟨z0, z1, z2, z3, z4⟩ := sh_enS (w := y) hz ds
    have he2 : (qE0 u v g z.2.1.1 w) = qThn (qQua u v y) (qFC v 5) (qE7 u v g z.2.1.1) := he
    refine v_aload_n dX8_takeEntry_117 rfl (by rfl) ?_
    refine v_aload_n dX8_takeEntry_118 rfl (by rfl) ?_
    refine w_callV hE dX8_takeEntry_119 kX8_161 (by repeat (first | assumption | exact va_up_self _ _ _ | refine (va_up_ne _ _ (by omega)).trans ?_)) (by rfl) (by rfl) (sX8_takeQuality hE hs2 hu2 hw2 hy da dt hC hm hS) rfl (by decide) (by decide) (by exact Nat.le_of_ble_eq_true rfl) (by omega) (by omega) (fun v9 g9 u9 h9 => ?_) (fun _ _ _ h => by cases h.1)
    obtain ⟨hv9, hu9, hg9⟩ := h9
    replace hu9 := hu9.symm
    replace hg9 := hg9.symm
    subst hu9
    subst hg9
    cases hv9
    refine v_hp enS_S ?_
    obtain ⟨h4, h5⟩ := sr_enS (w := (qQua u v y).2) h da
    refine v_if_neB (tgt := 133) dX8_takeEntry_122 (by decide) (fun c122 => ?_) (fun c122 => ?_)
    · exact st7 (qQua u v y).2 hy (he2.trans (qThn_t c122))
    · refine v_aload_n dX8_takeEntry_125 rfl (by rfl) ?_
      refine v_iconst (v := nI 5) dX8_takeEntry_126 (by decide) ?_
      refine w_callV hE dX8_takeEntry_127 kX8_141 (by repeat (first | assumption | exact va_up_self _ _ _ | refine (va_up_ne _ _ (by omega)).trans ?_)) (by rfl) (by rfl) (sX8_failColumn hE (sr_enS (w := (qQua u v y).2) h da) (by omega)) rfl (by decide) (by decide) (by exact Nat.le_of_ble_eq_true rfl) (by omega) (by omega) (fun v9 g9 u9 h9 => ?_) (fun _ _ _ h => by cases h.1)
      obtain ⟨hv9, hu9, hg9⟩ := h9
      replace hu9 := hu9.symm
      replace hg9 := hg9.symm
      subst hu9
      subst hg9
      cases hv9
      refine v_if_eqB (tgt := 207) dX8_takeEntry_130 (by decide) (fun c130 => ?_) (fun c130 => ?_)
      · refine v_iconst (v := nI 0) dX8_takeEntry_207 (by decide) ?_
        refine v_iret dX8_takeEntry_208 rfl (by first | rfl | exact nar_bI) ?_
        have hR : (qE0 u v g z.2.1.1 w) = (false, qFC v 5, (qQua u v y).2) := he2.trans (qThn_f c122)
        rw [hR]
        exact ⟨rfl, rfl, rfl⟩
      · exact absurd c130 (by decide)
  have st5 : ∀ (y : eV), enOk y → (qE0 u v g z.2.1.1 w) = qE5 u v g z.2.1.1 y → V E mX8_takeEntry 0 0 (fun o f' t' => o = .inl (some (.int (bI (qE0 u v g z.2.1.1 w).1))) ∧ t' = t ∧ f' = srS tp c s (enS f x (qE0 u v g z.2.1.1 w).2.2) a (qE0 u v g z.2.1.1 w).2.1) 101 [some (.ref a), some (.ref x)] [] (enS f x y) t 0 0 := by
    intro  y hy  he
    have hs2 := sr_enS (w := y) h da
    obtain ⟨h2, h3⟩ := id hs2
    have hu2 := oP_enS (w := y) hu dt
    have hw2 := enP_S f x y
    obtain ⟨x0, x1, x2, x3, x4, x5, x6⟩ := id hw2
    have hg2 := gn_enS (v := y) hg dc
    obtain ⟨z0, z1, z2, z3, z4⟩ := sh_enS (w := y) hz ds
    have he2 : (qE0 u v g z.2.1.1 w) = qThn (qAlts u v y) (qFC v 4) (qE6 u v g z.2.1.1) := he
    refine v_aload_n dX8_takeEntry_101 rfl (by rfl) ?_
    refine v_aload_n dX8_takeEntry_102 rfl (by rfl) ?_
    refine w_callV hE dX8_takeEntry_103 kX8_158 (by repeat (first | assumption | exact va_up_self _ _ _ | refine (va_up_ne _ _ (by omega)).trans ?_)) (by rfl) (by rfl) (sX8_takeAlts hE hs2 hu2 hw2 hy da dt hC hm hS) rfl (by decide) (by decide) (by exact Nat.le_of_ble_eq_true rfl) (by omega) (by omega) (fun v9 g9 u9 h9 => ?_) (fun _ _ _ h => by cases h.1)
    obtain ⟨hv9, hu9, hg9⟩ := h9
    replace hu9 := hu9.symm
    replace hg9 := hg9.symm
    subst hu9
    subst hg9
    cases hv9
    refine v_hp enS_S ?_
    obtain ⟨h4, h5⟩ := sr_enS (w := (qAlts u v y).2) h da
    refine v_if_neB (tgt := 117) dX8_takeEntry_106 (by decide) (fun c106 => ?_) (fun c106 => ?_)
    · exact st6 (qAlts u v y).2 (qAlts_ok hy) (he2.trans (qThn_t c106))
    · refine v_aload_n dX8_takeEntry_109 rfl (by rfl) ?_
      refine v_iconst (v := nI 4) dX8_takeEntry_110 (by decide) ?_
      refine w_callV hE dX8_takeEntry_111 kX8_141 (by repeat (first | assumption | exact va_up_self _ _ _ | refine (va_up_ne _ _ (by omega)).trans ?_)) (by rfl) (by rfl) (sX8_failColumn hE (sr_enS (w := (qAlts u v y).2) h da) (by omega)) rfl (by decide) (by decide) (by exact Nat.le_of_ble_eq_true rfl) (by omega) (by omega) (fun v9 g9 u9 h9 => ?_) (fun _ _ _ h => by cases h.1)
      obtain ⟨hv9, hu9, hg9⟩ := h9
      replace hu9 := hu9.symm
      replace hg9 := hg9.symm
      subst hu9
      subst hg9
      cases hv9
      refine v_if_eqB (tgt := 207) dX8_takeEntry_114 (by decide) (fun c114 => ?_) (fun c114 => ?_)
      · refine v_iconst (v := nI 0) dX8_takeEntry_207 (by decide) ?_
        refine v_iret dX8_takeEntry_208 rfl (by first | rfl | exact nar_bI) ?_
        have hR : (qE0 u v g z.2.1.1 w) = (false, qFC v 4, (qAlts u v y).2) := he2.trans (qThn_f c106)
        rw [hR]
        exact ⟨rfl, rfl, rfl⟩
      · exact absurd c114 (by decide)
  have st4 : ∀ (q p : Nat) (y : eV), enOk y → eSq y = nI q → q < gCt g → ePl y = nI p → p ≤ 3000 → (qE0 u v g z.2.1.1 w) = qE4 u v g z.2.1.1 y → V E mX8_takeEntry 0 0 (fun o f' t' => o = .inl (some (.int (bI (qE0 u v g z.2.1.1 w).1))) ∧ t' = t ∧ f' = srS tp c s (enS f x (qE0 u v g z.2.1.1 w).2.2) a (qE0 u v g z.2.1.1 w).2.1) 79 [some (.ref a), some (.ref x)] [] (enS f x y) t 0 0 := by
    intro q p y hy hsq hq hpl hp he
    have hs2 := sr_enS (w := y) h da
    obtain ⟨h2, h3⟩ := id hs2
    have hu2 := oP_enS (w := y) hu dt
    have hw2 := enP_S f x y
    obtain ⟨x0, x1, x2, x3, x4, x5, x6⟩ := id hw2
    have hg2 := gn_enS (v := y) hg dc
    obtain ⟨z0, z1, z2, z3, z4⟩ := sh_enS (w := y) hz ds
    have he2 : (qE0 u v g z.2.1.1 w) = qThn (qRef g q p y, y) (qFail v 5 (qSt v 3)) (qE5 u v g z.2.1.1) := he.trans (by unfold qE4; rw [hsq, hpl, nI_clamp (by omega), nI_clamp (by omega)])
    refine v_aload_n dX8_takeEntry_79 rfl (by rfl) ?_
    refine v_aload_n dX8_takeEntry_80 rfl (by rfl) ?_
    refine w_callV hE dX8_takeEntry_81 kX8_155 (by repeat (first | assumption | exact va_up_self _ _ _ | refine (va_up_ne _ _ (by omega)).trans ?_)) (by rfl) (by rfl) (sX8_refIsThere hE hs2 hu2 hw2 hy da dt hg2 hgo hsq (by omega) hpl (by omega)) rfl (by decide) (by decide) (by exact Nat.le_of_ble_eq_true rfl) (by omega) (by omega) (fun v9 g9 u9 h9 => ?_) (fun _ _ _ h => by cases h.1)
    obtain ⟨hv9, hu9, hg9⟩ := h9
    replace hu9 := hu9.symm
    replace hg9 := hg9.symm
    subst hu9
    subst hg9
    cases hv9
    refine v_if_neB (tgt := 101) dX8_takeEntry_84 (by decide) (fun c84 => ?_) (fun c84 => ?_)
    · exact st5 y hy (he2.trans (qThn_t c84))
    · refine v_aload_n dX8_takeEntry_87 rfl (by rfl) ?_
      refine v_iconst (v := nI 5) dX8_takeEntry_88 (by decide) ?_
      refine v_aload_n dX8_takeEntry_89 rfl (by rfl) ?_
      refine v_getf hE dX8_takeEntry_90 fX8_23 (by repeat (first | assumption | exact va_up_self _ _ _ | refine (va_up_ne _ _ (by omega)).trans ?_)) (by rfl) ?_
      refine v_iconst (v := nI 3) dX8_takeEntry_93 (by decide) ?_
      refine v_iald hE dX8_takeEntry_94 (by repeat (first | assumption | exact va_up_self _ _ _ | refine (va_up_ne _ _ (by omega)).trans ?_)) (by omega) (by omega) ?_
      refine w_callV hE dX8_takeEntry_95 kX8_57 (by repeat (first | assumption | exact va_up_self _ _ _ | refine (va_up_ne _ _ (by omega)).trans ?_)) (by rfl) (by rfl) (sX8_fail hE (sr_enS (w := y) h da)) rfl (by decide) (by decide) (by exact Nat.le_of_ble_eq_true rfl) (by omega) (by omega) (fun v9 g9 u9 h9 => ?_) (fun _ _ _ h => by cases h.1)
      obtain ⟨hv9, hu9, hg9⟩ := h9
      replace hu9 := hu9.symm
      replace hg9 := hg9.symm
      subst hu9
      subst hg9
      cases hv9
      refine v_if_eqB (tgt := 207) dX8_takeEntry_98 (by decide) (fun c98 => ?_) (fun c98 => ?_)
      · refine v_iconst (v := nI 0) dX8_takeEntry_207 (by decide) ?_
        refine v_iret dX8_takeEntry_208 rfl (by first | rfl | exact nar_bI) ?_
        have hR : (qE0 u v g z.2.1.1 w) = (false, qFail v 5 (qSt v 3), (qRef g q p y, y).2) := he2.trans (qThn_f c84)
        rw [hR]
        exact ⟨rfl, rfl, rfl⟩
      · exact absurd c98 (by decide)
  have st3 : ∀ (q p : Nat) (y : eV), enOk y → eSq y = nI q → q < gCt g → ePl y = nI p → p ≤ 3000 → (qE0 u v g z.2.1.1 w) = qE3 u v g z.2.1.1 y → V E mX8_takeEntry 0 0 (fun o f' t' => o = .inl (some (.int (bI (qE0 u v g z.2.1.1 w).1))) ∧ t' = t ∧ f' = srS tp c s (enS f x (qE0 u v g z.2.1.1 w).2.2) a (qE0 u v g z.2.1.1 w).2.1) 48 [some (.ref a), some (.ref x)] [] (enS f x y) t 0 0 := by
    intro q p y hy hsq hq hpl hp he
    have hs2 := sr_enS (w := y) h da
    obtain ⟨h2, h3⟩ := id hs2
    have hu2 := oP_enS (w := y) hu dt
    have hw2 := enP_S f x y
    obtain ⟨x0, x1, x2, x3, x4, x5, x6⟩ := id hw2
    have hg2 := gn_enS (v := y) hg dc
    obtain ⟨z0, z1, z2, z3, z4⟩ := sh_enS (w := y) hz ds
    have he2 : (qE0 u v g z.2.1.1 w) = qThn (qRow u 0 (qSt v 3) (qSt v 4 - 1) y) (qFC v 3) (qE4 u v g z.2.1.1) := he
    refine v_aload_n dX8_takeEntry_48 rfl (by rfl) ?_
    refine v_aload_n dX8_takeEntry_49 rfl (by rfl) ?_
    refine v_iconst (v := nI 0) dX8_takeEntry_50 (by decide) ?_
    refine v_aload_n dX8_takeEntry_51 rfl (by rfl) ?_
    refine v_getf hE dX8_takeEntry_52 fX8_23 (by repeat (first | assumption | exact va_up_self _ _ _ | refine (va_up_ne _ _ (by omega)).trans ?_)) (by rfl) ?_
    refine v_iconst (v := nI 3) dX8_takeEntry_55 (by decide) ?_
    refine v_iald hE dX8_takeEntry_56 (by repeat (first | assumption | exact va_up_self _ _ _ | refine (va_up_ne _ _ (by omega)).trans ?_)) (by omega) (by omega) ?_
    refine v_aload_n dX8_takeEntry_57 rfl (by rfl) ?_
    refine v_getf hE dX8_takeEntry_58 fX8_23 (by repeat (first | assumption | exact va_up_self _ _ _ | refine (va_up_ne _ _ (by omega)).trans ?_)) (by rfl) ?_
    refine v_iconst (v := nI 4) dX8_takeEntry_61 (by decide) ?_
    refine v_iald hE dX8_takeEntry_62 (by repeat (first | assumption | exact va_up_self _ _ _ | refine (va_up_ne _ _ (by omega)).trans ?_)) (by omega) (by omega) ?_
    refine v_iconst (v := nI 1) dX8_takeEntry_63 (by decide) ?_
    refine v_isubN dX8_takeEntry_64 (by omega) ?_
    refine w_callV hE dX8_takeEntry_65 kX8_151 (by repeat (first | assumption | exact va_up_self _ _ _ | refine (va_up_ne _ _ (by omega)).trans ?_)) (by rfl) (by rfl) (sX8_takeRow hE hs2 hu2 hw2 hy da dt (by omega) (by omega) (by omega)) rfl (by decide) (by decide) (by exact Nat.le_of_ble_eq_true rfl) (by omega) (by omega) (fun v9 g9 u9 h9 => ?_) (fun _ _ _ h => by cases h.1)
    obtain ⟨hv9, hu9, hg9⟩ := h9
    replace hu9 := hu9.symm
    replace hg9 := hg9.symm
    subst hu9
    subst hg9
    cases hv9
    refine v_hp enS_S ?_
    obtain ⟨h4, h5⟩ := sr_enS (w := (qRow u 0 (qSt v 3) (qSt v 4 - 1) y).2) h da
    refine v_if_neB (tgt := 79) dX8_takeEntry_68 (by decide) (fun c68 => ?_) (fun c68 => ?_)
    · exact st4 q p (qRow u 0 (qSt v 3) (qSt v 4 - 1) y).2 (qRow_ok hy) (qRow_k.1.1.trans hsq) hq (qRow_k.1.2.trans hpl) hp (he2.trans (qThn_t c68))
    · refine v_aload_n dX8_takeEntry_71 rfl (by rfl) ?_
      refine v_iconst (v := nI 3) dX8_takeEntry_72 (by decide) ?_
      refine w_callV hE dX8_takeEntry_73 kX8_141 (by repeat (first | assumption | exact va_up_self _ _ _ | refine (va_up_ne _ _ (by omega)).trans ?_)) (by rfl) (by rfl) (sX8_failColumn hE (sr_enS (w := (qRow u 0 (qSt v 3) (qSt v 4 - 1) y).2) h da) (by omega)) rfl (by decide) (by decide) (by exact Nat.le_of_ble_eq_true rfl) (by omega) (by omega) (fun v9 g9 u9 h9 => ?_) (fun _ _ _ h => by cases h.1)
      obtain ⟨hv9, hu9, hg9⟩ := h9
      replace hu9 := hu9.symm
      replace hg9 := hg9.symm
      subst hu9
      subst hg9
      cases hv9
      refine v_if_eqB (tgt := 207) dX8_takeEntry_76 (by decide) (fun c76 => ?_) (fun c76 => ?_)
      · refine v_iconst (v := nI 0) dX8_takeEntry_207 (by decide) ?_
        refine v_iret dX8_takeEntry_208 rfl (by first | rfl | exact nar_bI) ?_
        have hR : (qE0 u v g z.2.1.1 w) = (false, qFC v 3, (qRow u 0 (qSt v 3) (qSt v 4 - 1) y).2) := he2.trans (qThn_f c68)
        rw [hR]
        exact ⟨rfl, rfl, rfl⟩
      · exact absurd c76 (by decide)
  have st2 : ∀ (q p : Nat) (y : eV), enOk y → eSq y = nI q → q < gCt g → ePl y = nI p → p ≤ 3000 → (qE0 u v g z.2.1.1 w) = qE2 u v g z.2.1.1 y → V E mX8_takeEntry 0 0 (fun o f' t' => o = .inl (some (.int (bI (qE0 u v g z.2.1.1 w).1))) ∧ t' = t ∧ f' = srS tp c s (enS f x (qE0 u v g z.2.1.1 w).2.2) a (qE0 u v g z.2.1.1 w).2.1) 32 [some (.ref a), some (.ref x)] [] (enS f x y) t 0 0 := by
    intro q p y hy hsq hq hpl hp he
    have hs2 := sr_enS (w := y) h da
    obtain ⟨h2, h3⟩ := id hs2
    have hu2 := oP_enS (w := y) hu dt
    have hw2 := enP_S f x y
    obtain ⟨x0, x1, x2, x3, x4, x5, x6⟩ := id hw2
    have hg2 := gn_enS (v := y) hg dc
    obtain ⟨z0, z1, z2, z3, z4⟩ := sh_enS (w := y) hz ds
    have he2 : (qE0 u v g z.2.1.1 w) = qThn (qId u v y) (qFC v 2) (qE3 u v g z.2.1.1) := he
    refine v_aload_n dX8_takeEntry_32 rfl (by rfl) ?_
    refine v_aload_n dX8_takeEntry_33 rfl (by rfl) ?_
    refine w_callV hE dX8_takeEntry_34 kX8_148 (by repeat (first | assumption | exact va_up_self _ _ _ | refine (va_up_ne _ _ (by omega)).trans ?_)) (by rfl) (by rfl) (sX8_takeId hE hs2 hu2 hw2 hy da dt hC hm hS) rfl (by decide) (by decide) (by exact Nat.le_of_ble_eq_true rfl) (by omega) (by omega) (fun v9 g9 u9 h9 => ?_) (fun _ _ _ h => by cases h.1)
    obtain ⟨hv9, hu9, hg9⟩ := h9
    replace hu9 := hu9.symm
    replace hg9 := hg9.symm
    subst hu9
    subst hg9
    cases hv9
    refine v_hp enS_S ?_
    obtain ⟨h4, h5⟩ := sr_enS (w := (qId u v y).2) h da
    refine v_if_neB (tgt := 48) dX8_takeEntry_37 (by decide) (fun c37 => ?_) (fun c37 => ?_)
    · exact st3 q p (qId u v y).2 (qId_ok hy) (qId_k.1.trans hsq) hq (qId_k.2.trans hpl) hp (he2.trans (qThn_t c37))
    · refine v_aload_n dX8_takeEntry_40 rfl (by rfl) ?_
      refine v_iconst (v := nI 2) dX8_takeEntry_41 (by decide) ?_
      refine w_callV hE dX8_takeEntry_42 kX8_141 (by repeat (first | assumption | exact va_up_self _ _ _ | refine (va_up_ne _ _ (by omega)).trans ?_)) (by rfl) (by rfl) (sX8_failColumn hE (sr_enS (w := (qId u v y).2) h da) (by omega)) rfl (by decide) (by decide) (by exact Nat.le_of_ble_eq_true rfl) (by omega) (by omega) (fun v9 g9 u9 h9 => ?_) (fun _ _ _ h => by cases h.1)
      obtain ⟨hv9, hu9, hg9⟩ := h9
      replace hu9 := hu9.symm
      replace hg9 := hg9.symm
      subst hu9
      subst hg9
      cases hv9
      refine v_if_eqB (tgt := 207) dX8_takeEntry_45 (by decide) (fun c45 => ?_) (fun c45 => ?_)
      · refine v_iconst (v := nI 0) dX8_takeEntry_207 (by decide) ?_
        refine v_iret dX8_takeEntry_208 rfl (by first | rfl | exact nar_bI) ?_
        have hR : (qE0 u v g z.2.1.1 w) = (false, qFC v 2, (qId u v y).2) := he2.trans (qThn_f c37)
        rw [hR]
        exact ⟨rfl, rfl, rfl⟩
      · exact absurd c45 (by decide)
  have st1 : ∀ (q : Nat) (y : eV), enOk y → eSq y = nI q → q < gCt g → (qE0 u v g z.2.1.1 w) = qE1 u v g z.2.1.1 y → V E mX8_takeEntry 0 0 (fun o f' t' => o = .inl (some (.int (bI (qE0 u v g z.2.1.1 w).1))) ∧ t' = t ∧ f' = srS tp c s (enS f x (qE0 u v g z.2.1.1 w).2.2) a (qE0 u v g z.2.1.1 w).2.1) 16 [some (.ref a), some (.ref x)] [] (enS f x y) t 0 0 := by
    intro q y hy hsq hq he
    have hs2 := sr_enS (w := y) h da
    obtain ⟨h2, h3⟩ := id hs2
    have hu2 := oP_enS (w := y) hu dt
    have hw2 := enP_S f x y
    obtain ⟨x0, x1, x2, x3, x4, x5, x6⟩ := id hw2
    have hg2 := gn_enS (v := y) hg dc
    obtain ⟨z0, z1, z2, z3, z4⟩ := sh_enS (w := y) hz ds
    have he2 : (qE0 u v g z.2.1.1 w) = qThn (qPlc u v g q y) (qFC v 1) (qE2 u v g z.2.1.1) := he.trans (by unfold qE1; rw [hsq, nI_clamp (by omega)])
    refine v_aload_n dX8_takeEntry_16 rfl (by rfl) ?_
    refine v_aload_n dX8_takeEntry_17 rfl (by rfl) ?_
    refine w_callV hE dX8_takeEntry_18 kX8_145 (by repeat (first | assumption | exact va_up_self _ _ _ | refine (va_up_ne _ _ (by omega)).trans ?_)) (by rfl) (by rfl) (sX8_takePlace hE hs2 hu2 hw2 hy da dt hC hm hg2 hgo hsq (by omega)) rfl (by decide) (by decide) (by exact Nat.le_of_ble_eq_true rfl) (by omega) (by omega) (fun v9 g9 u9 h9 => ?_) (fun _ _ _ h => by cases h.1)
    obtain ⟨hv9, hu9, hg9⟩ := h9
    replace hu9 := hu9.symm
    replace hg9 := hg9.symm
    subst hu9
    subst hg9
    cases hv9
    refine v_hp enS_S ?_
    obtain ⟨h4, h5⟩ := sr_enS (w := (qPlc u v g q y).2) h da
    refine v_if_neB (tgt := 32) dX8_takeEntry_21 (by decide) (fun c21 => ?_) (fun c21 => ?_)
    · have hne := of_decide_eq_true c21
      rcases tNum_r (u := u) (i := qSt v 1) (j := qSt v 2 - 1) (L := gnSz g q) with hh | ⟨p, hp1, hp2⟩
      · exact absurd (show qPlcR u v g q ≤ 0 by rw [show qPlcR u v g q = -1 from hh]; decide) hne
      · exact st2 q p (qPlc u v g q y).2 hy hsq hq hp2 (by have := gnSz_le (q := q) hgo; omega) (he2.trans (qThn_t c21))
    · refine v_aload_n dX8_takeEntry_24 rfl (by rfl) ?_
      refine v_iconst (v := nI 1) dX8_takeEntry_25 (by decide) ?_
      refine w_callV hE dX8_takeEntry_26 kX8_141 (by repeat (first | assumption | exact va_up_self _ _ _ | refine (va_up_ne _ _ (by omega)).trans ?_)) (by rfl) (by rfl) (sX8_failColumn hE (sr_enS (w := (qPlc u v g q y).2) h da) (by omega)) rfl (by decide) (by decide) (by exact Nat.le_of_ble_eq_true rfl) (by omega) (by omega) (fun v9 g9 u9 h9 => ?_) (fun _ _ _ h => by cases h.1)
      obtain ⟨hv9, hu9, hg9⟩ := h9
      replace hu9 := hu9.symm
      replace hg9 := hg9.symm
      subst hu9
      subst hg9
      cases hv9
      refine v_if_eqB (tgt := 207) dX8_takeEntry_29 (by decide) (fun c29 => ?_) (fun c29 => ?_)
      · refine v_iconst (v := nI 0) dX8_takeEntry_207 (by decide) ?_
        refine v_iret dX8_takeEntry_208 rfl (by first | rfl | exact nar_bI) ?_
        have hR : (qE0 u v g z.2.1.1 w) = (false, qFC v 1, (qPlc u v g q y).2) := he2.trans (qThn_f c21)
        rw [hR]
        exact ⟨rfl, rfl, rfl⟩
      · exact absurd c29 (by decide)
  have st0 : ∀ (y : eV), enOk y → (qE0 u v g z.2.1.1 w) = qE0 u v g z.2.1.1 y → V E mX8_takeEntry 0 0 (fun o f' t' => o = .inl (some (.int (bI (qE0 u v g z.2.1.1 w).1))) ∧ t' = t ∧ f' = srS tp c s (enS f x (qE0 u v g z.2.1.1 w).2.2) a (qE0 u v g z.2.1.1 w).2.1) 0 [some (.ref a), some (.ref x)] [] (enS f x y) t 0 0 := by
    intro  y hy  he
    have hs2 := sr_enS (w := y) h da
    obtain ⟨h2, h3⟩ := id hs2
    have hu2 := oP_enS (w := y) hu dt
    have hw2 := enP_S f x y
    obtain ⟨x0, x1, x2, x3, x4, x5, x6⟩ := id hw2
    have hg2 := gn_enS (v := y) hg dc
    obtain ⟨z0, z1, z2, z3, z4⟩ := sh_enS (w := y) hz ds
    have he2 : (qE0 u v g z.2.1.1 w) = qThn (qSeq u v g y) (qFC v 0) (qE1 u v g z.2.1.1) := he
    refine v_aload_n dX8_takeEntry_0 rfl (by rfl) ?_
    refine v_aload_n dX8_takeEntry_1 rfl (by rfl) ?_
    refine w_callV hE dX8_takeEntry_2 kX8_138 (by repeat (first | assumption | exact va_up_self _ _ _ | refine (va_up_ne _ _ (by omega)).trans ?_)) (by rfl) (by rfl) (sX8_takeSequence hE hs2 hu2 hw2 hy da dt hC hm hg2 hgo) rfl (by decide) (by decide) (by exact Nat.le_of_ble_eq_true rfl) (by omega) (by omega) (fun v9 g9 u9 h9 => ?_) (fun _ _ _ h => by cases h.1)
    obtain ⟨hv9, hu9, hg9⟩ := h9
    replace hu9 := hu9.symm
    replace hg9 := hg9.symm
    subst hu9
    subst hg9
    cases hv9
    refine v_hp enS_S ?_
    obtain ⟨h4, h5⟩ := sr_enS (w := (qSeq u v g y).2) h da
    refine v_if_neB (tgt := 16) dX8_takeEntry_5 (by decide) (fun c5 => ?_) (fun c5 => ?_)
    · obtain ⟨q, hq1, hq2⟩ := nmIn_r (show ¬ nmIn 8 g.1 u (qSt v 0) (qSt v 1 - 1) = -1 from of_decide_eq_true c5)
      exact st1 q (qSeq u v g y).2 hy hq2 (by omega) (he2.trans (qThn_t c5))
    · refine v_aload_n dX8_takeEntry_8 rfl (by rfl) ?_
      refine v_iconst (v := nI 0) dX8_takeEntry_9 (by decide) ?_
      refine w_callV hE dX8_takeEntry_10 kX8_141 (by repeat (first | assumption | exact va_up_self _ _ _ | refine (va_up_ne _ _ (by omega)).trans ?_)) (by rfl) (by rfl) (sX8_failColumn hE (sr_enS (w := (qSeq u v g y).2) h da) (by omega)) rfl (by decide) (by decide) (by exact Nat.le_of_ble_eq_true rfl) (by omega) (by omega) (fun v9 g9 u9 h9 => ?_) (fun _ _ _ h => by cases h.1)
      obtain ⟨hv9, hu9, hg9⟩ := h9
      replace hu9 := hu9.symm
      replace hg9 := hg9.symm
      subst hu9
      subst hg9
      cases hv9
      refine v_if_eqB (tgt := 207) dX8_takeEntry_13 (by decide) (fun c13 => ?_) (fun c13 => ?_)
      · refine v_iconst (v := nI 0) dX8_takeEntry_207 (by decide) ?_
        refine v_iret dX8_takeEntry_208 rfl (by first | rfl | exact nar_bI) ?_
        have hR : (qE0 u v g z.2.1.1 w) = (false, qFC v 0, (qSeq u v g y).2) := he2.trans (qThn_f c5)
        rw [hR]
        exact ⟨rfl, rfl, rfl⟩
      · exact absurd c13 (by decide)
  refine v_hp (show f = enS f x w from (enS_id hw).symm) ?_
  exact st0 w hwo rfl


set_option maxRecDepth 100000 in
set_option maxHeartbeats 4000000 in
/-- SheetReader.takeAllCalls -/
theorem sX8_takeAllCalls {E : eN} (hE : eOk E) {f : aH} {t : Nat} {a tp c s x : Nat} {v : qV} {u : tS} {w : eV} {z : sV} (h : srP tp c s f a v) (hu : oP f tp u) (hw : enP f x w) (hwo : enOk w) (hz : shP f s z) (hzo : nOk 3 z.2.1) (hS : eSt E) (hC : qC v) (da : x + 6 < a ∨ a + 1 < x) (dt : tp + 1 < x ∨ x + 6 < tp) (ds : x + 6 < s ∨ s + 4 < x) (hro : 1 ≤ eRo w) (hm : z.2.1.1 = 0 ∨ z.2.1.1 + 9 ≤ qCm v) : mT E mX8_takeAllCalls 0 0 [.ref a, .ref x] f t (fun o f' t' => o = .inl (some (.int (bI (qAll u v (z.2.1.1 - 0) 0 w).1))) ∧ t' = t ∧ f' = srS tp c s (enS f x (qAll u v (z.2.1.1 - 0) 0 w).2.2) a (qAll u v (z.2.1.1 - 0) 0 w).2.1) := by
  refine mT_of (n := 2) (lo := [some (.ref a), some (.ref x), none, none]) (by decide) (by exact Nat.le_of_ble_eq_true rfl) rfl rfl ?_
  have m0 := hzo.1
  have lp : ∀ (d : Nat) (r : Nat) (y : eV) (z3 : Option Value), r + d = z.2.1.1 → enOk y → 1 ≤ eRo y → (qAll u v (z.2.1.1 - 0) 0 w) = qAll u v (z.2.1.1 - r) r y → V E mX8_takeAllCalls 0 0 (fun o f' t' => o = .inl (some (.int (bI (qAll u v (z.2.1.1 - 0) 0 w).1))) ∧ t' = t ∧ f' = srS tp c s (enS f x (qAll u v (z.2.1.1 - 0) 0 w).2.2) a (qAll u v (z.2.1.1 - 0) 0 w).2.1) 2 [some (.ref a), some (.ref x), some (.int (nI r)), z3] [] (enS f x y) t 0 0 := by
    intro d
    induction d using Nat.strongRecOn with
    | _ d ih =>
    intro r y q3 hk hy hr1 he
    have hs2 := sr_enS (w := y) h da
    obtain ⟨h2, h3⟩ := id hs2
    have hu2 := oP_enS (w := y) hu dt
    have hw2 := enP_S f x y
    obtain ⟨z0, z1, z2, z3, z4⟩ := sh_enS (w := y) hz ds
    refine v_iload_n dX8_takeAllCalls_2 rfl (by rfl) ?_
    refine v_aload_n dX8_takeAllCalls_3 rfl (by rfl) ?_
    refine v_getf hE dX8_takeAllCalls_4 fX8_19 (by repeat (first | assumption | exact va_up_self _ _ _ | refine (va_up_ne _ _ (by omega)).trans ?_)) (by rfl) ?_
    refine v_getf hE dX8_takeAllCalls_7 fX8_121 (by repeat (first | assumption | exact va_up_self _ _ _ | refine (va_up_ne _ _ (by omega)).trans ?_)) (by rfl) ?_
    refine v_getf hE dX8_takeAllCalls_10 fX8_169 (by repeat (first | assumption | exact va_up_self _ _ _ | refine (va_up_ne _ _ (by omega)).trans ?_)) (by rfl) ?_
    refine v_icmp_geN (tgt := 58) dX8_takeAllCalls_13 (by decide) (by omega) (by omega) (fun c13 => ?_) (fun c13 => ?_)
    · refine v_iconst (v := nI 1) dX8_takeAllCalls_58 (by decide) ?_
      refine v_iret dX8_takeAllCalls_59 rfl (by first | rfl | exact nar_bI) ?_
      first
        | (have hR : (qAll u v (z.2.1.1 - 0) 0 w) = (true, v, y) := he.trans (by rw [show z.2.1.1 - r = 0 by omega]; rfl)
           rw [hR]; exact ⟨rfl, rfl, (srS_id (sr_enS h da)).symm⟩)
        | (have hR : (qAll u v (z.2.1.1 - 0) 0 w) = (false, qFC v (9 + r), (qCls u (qSt v (9 + r)) (qSt v (9 + r + 1) - 1) r y).2) := he.trans (by rw [show z.2.1.1 - r = (z.2.1.1 - (r + 1)) + 1 by omega]; exact if_neg (by rw [c43]; decide))
           rw [hR]; exact ⟨rfl, rfl, rfl⟩)
    · refine v_bipush (v := nI 9) dX8_takeAllCalls_16 (by decide) ?_
      refine v_iload_n dX8_takeAllCalls_18 rfl (by rfl) ?_
      refine v_iaddN dX8_takeAllCalls_19 ?_
      refine v_istore_n dX8_takeAllCalls_20 rfl (by decide) ?_
      obtain ⟨g1, g2⟩ := hC.2 (9 + r) (by omega) (by omega)
      have g3 := hC.1 (9 + r + 1)
      refine v_aload_n dX8_takeAllCalls_21 rfl (by rfl) ?_
      refine v_aload_n dX8_takeAllCalls_22 rfl (by rfl) ?_
      refine v_iload_n dX8_takeAllCalls_23 rfl (by rfl) ?_
      refine v_aload_n dX8_takeAllCalls_24 rfl (by rfl) ?_
      refine v_getf hE dX8_takeAllCalls_25 fX8_23 (by repeat (first | assumption | exact va_up_self _ _ _ | refine (va_up_ne _ _ (by omega)).trans ?_)) (by rfl) ?_
      refine v_iload_n dX8_takeAllCalls_28 rfl (by rfl) ?_
      refine v_iald hE dX8_takeAllCalls_29 (by repeat (first | assumption | exact va_up_self _ _ _ | refine (va_up_ne _ _ (by omega)).trans ?_)) (by omega) (by omega) ?_
      refine v_aload_n dX8_takeAllCalls_30 rfl (by rfl) ?_
      refine v_getf hE dX8_takeAllCalls_31 fX8_23 (by repeat (first | assumption | exact va_up_self _ _ _ | refine (va_up_ne _ _ (by omega)).trans ?_)) (by rfl) ?_
      refine v_iload_n dX8_takeAllCalls_34 rfl (by rfl) ?_
      refine v_iconst (v := nI 1) dX8_takeAllCalls_35 (by decide) ?_
      refine v_iaddN dX8_takeAllCalls_36 ?_
      refine v_iald hE dX8_takeAllCalls_37 (by repeat (first | assumption | exact va_up_self _ _ _ | refine (va_up_ne _ _ (by omega)).trans ?_)) (by omega) (by omega) ?_
      refine v_iconst (v := nI 1) dX8_takeAllCalls_38 (by decide) ?_
      refine v_isubN dX8_takeAllCalls_39 (by omega) ?_
      refine w_callV hE dX8_takeAllCalls_40 kX8_233 (by repeat (first | assumption | exact va_up_self _ _ _ | refine (va_up_ne _ _ (by omega)).trans ?_)) (by rfl) (by rfl) (sX8_takeCalls hE hs2 hu2 hw2 hy da dt hS hr1 (by omega) (by omega) (by omega) (by omega)) rfl (by decide) (by decide) (by exact Nat.le_of_ble_eq_true rfl) (by omega) (by omega) (fun v9 g9 u9 h9 => ?_) (fun _ _ _ h => by cases h.1)
      obtain ⟨hv9, hu9, hg9⟩ := h9
      replace hu9 := hu9.symm
      replace hg9 := hg9.symm
      subst hu9
      subst hg9
      cases hv9
      refine v_hp enS_S ?_
      obtain ⟨h4, h5⟩ := sr_enS (w := (qCls u (qSt v (9 + r)) (qSt v (9 + r + 1) - 1) r y).2) h da
      refine v_if_neB (tgt := 52) dX8_takeAllCalls_43 (by decide) (fun c43 => ?_) (fun c43 => ?_)
      · refine v_iincN (y := 1) dX8_takeAllCalls_52 (by rfl) (by decide) (by decide) ?_
        refine v_goto (tgt := 2) dX8_takeAllCalls_55 (by decide) ?_
        exact ih (d - 1) (by omega) (r + 1) (qCls u (qSt v (9 + r)) (qSt v (9 + r + 1) - 1) r y).2 _ (by omega) (qCls_ok hy) (by rw [qCls_ro]; exact hr1) (he.trans (by rw [show z.2.1.1 - r = (z.2.1.1 - (r + 1)) + 1 by omega]; exact if_pos c43))
      · refine v_aload_n dX8_takeAllCalls_46 rfl (by rfl) ?_
        refine v_iload_n dX8_takeAllCalls_47 rfl (by rfl) ?_
        refine w_callV hE dX8_takeAllCalls_48 kX8_141 (by repeat (first | assumption | exact va_up_self _ _ _ | refine (va_up_ne _ _ (by omega)).trans ?_)) (by rfl) (by rfl) (sX8_failColumn hE (sr_enS (w := (qCls u (qSt v (9 + r)) (qSt v (9 + r + 1) - 1) r y).2) h da) (by omega)) rfl (by decide) (by decide) (by exact Nat.le_of_ble_eq_true rfl) (by omega) (by omega) (fun v9 g9 u9 h9 => ?_) (fun _ _ _ h => by cases h.1)
        obtain ⟨hv9, hu9, hg9⟩ := h9
        replace hu9 := hu9.symm
        replace hg9 := hg9.symm
        subst hu9
        subst hg9
        cases hv9
        refine v_iret dX8_takeAllCalls_51 rfl (by first | rfl | exact nar_bI) ?_
        first
          | (have hR : (qAll u v (z.2.1.1 - 0) 0 w) = (true, v, y) := he.trans (by rw [show z.2.1.1 - r = 0 by omega]; rfl)
             rw [hR]; exact ⟨rfl, rfl, (srS_id (sr_enS h da)).symm⟩)
          | (have hR : (qAll u v (z.2.1.1 - 0) 0 w) = (false, qFC v (9 + r), (qCls u (qSt v (9 + r)) (qSt v (9 + r + 1) - 1) r y).2) := he.trans (by rw [show z.2.1.1 - r = (z.2.1.1 - (r + 1)) + 1 by omega]; exact if_neg (by rw [c43]; decide))
             rw [hR]; exact ⟨rfl, rfl, rfl⟩)
  refine v_iconst (v := nI 0) dX8_takeAllCalls_0 (by decide) ?_
  refine v_istore_n dX8_takeAllCalls_1 rfl (by decide) ?_
  refine v_hp (show f = enS f x w from (enS_id hw).symm) ?_
  exact lp z.2.1.1 0 w none (by omega) hwo hro rfl
