theorem eAddI_ok {v : eV} {x : Int32} (h : enOk v) : enOk (eAddI v x) := by
  unfold eAddI
  split
  · exact ⟨h.1, h.2.1, h.2.2.1, by show eIz v + 1 ≤ 20; omega⟩
  · exact h
def qSeqR (u : tS) (v : qV) (g : gV) : Int32 := nmIn 8 g.1 u (qSt v 0) (qSt v 1 - 1)
def qSeq (u : tS) (v : qV) (g : gV) (w : eV) : Bool × eV := (decide (¬ qSeqR u v g = -1), wSq w (qSeqR u v g))
def qPlcR (u : tS) (v : qV) (g : gV) (q : Nat) : Int32 := tNum u (qSt v 1) (qSt v 2 - 1) (gnSz g q)
def qPlc (u : tS) (v : qV) (g : gV) (q : Nat) (w : eV) : Bool × eV := (decide (¬ qPlcR u v g q ≤ 0), wPl w (qPlcR u v g q))
def qIdL (u : tS) : Nat → Nat → eV → eV
  | 0, _, w => w
  | d + 1, k, w => qIdL u d (k + 1) (eAddI w (ocAt u.1 u.2.1 (nI k)))
def qId (u : tS) (v : qV) (w : eV) : Bool × eV := if qCol u v 2 tx7 = true then (true, wIz w 0) else if tWord u (qSt v 2) (qSt v 3 - 1) = true then (true, qIdL u (qSt v 3 - 1 - qSt v 2) (qSt v 2) (wIz w 0)) else (false, wIz w 0)
def qRowL (u : tS) (r : Nat) : Nat → Nat → eV → Bool × eV
  | 0, _, w => (true, wRo w (r + 1))
  | d + 1, k, w => if ltr (ocAt u.1 u.2.1 (nI k)) = -1 then (false, w) else qRowL u r d (k + 1) (eAddL w r (ltr (ocAt u.1 u.2.1 (nI k))))
def qRow (u : tS) (r i j : Nat) (w : eV) : Bool × eV := if 4 ≤ r ∨ j ≤ i ∨ 24 < j - i then (false, w) else qRowL u r (j - i) i (wRs w (va_up (eRs w) r 0))
def qRef (g : gV) (s p : Nat) (w : eV) : Bool := allB (fun k => decide (gnLet g s (p + k) = eLet w 0 (nI k))) (eRs w 0 - 0) 0
def qAlt (u : tS) (i j : Nat) (w : eV) : Bool × eV := if (qRow u (eRo w) i j w).1 = true then (allB (fun b => ! eRowIs (qRow u (eRo w) i j w).2 b (qRow u (eRo w) i j w).2 (eRo w)) (eRo w - 0) 0, (qRow u (eRo w) i j w).2) else (false, (qRow u (eRo w) i j w).2)
def qAltL (u : tS) (j : Nat) : Nat → Nat → Nat → eV → Bool × eV
  | 0, _, _, w => (true, w)
  | d + 1, k, i, w => if k = j ∨ ocAt u.1 u.2.1 (nI k) = nI 44 then (if (qAlt u i k w).1 = true then qAltL u j d (k + 1) (k + 1) (qAlt u i k w).2 else (false, (qAlt u i k w).2)) else qAltL u j d (k + 1) i w
def qAlts (u : tS) (v : qV) (w : eV) : Bool × eV := if qCol u v 4 tx7 = true then (true, w) else qAltL u (qSt v 5 - 1) (qSt v 5 - 1 + 1 - qSt v 4) (qSt v 4) (qSt v 4) w
def qQuaR (u : tS) (v : qV) : Int32 := tNum u (qSt v 5) (qSt v 6 - 1) 999999
def qQua (u : tS) (v : qV) (w : eV) : Bool × eV := (decide (¬ qQuaR u v = -1) || qCol u v 5 tx7, wQu w (qQuaR u v))
def qPas (u : tS) (v : qV) (w : eV) : Bool × eV := (qCol u v 6 tx8 || qCol u v 6 tx7, wPa w (qCol u v 6 tx8))
def qMdL (u : tS) (i : Nat) : Nat → Nat → Nat
  | 0, m => m
  | d + 1, m => qMdL u i d (if ocAt u.1 u.2.1 (nI (i + d)) = nI 47 ∨ ocAt u.1 u.2.1 (nI (i + d)) = nI 124 then i + d else m)
def qMid (u : tS) (i j : Nat) : Nat := qMdL u i (j - i) j
def qCaA (u : tS) (i j n : Nat) : Int32 := if tIs u i j tx7 = true then -1 else if tNum u i j (n - 1) = -1 then -2 else tNum u i j (n - 1)
def qCl2 (u : tS) (i j n : Nat) : Int32 := if qMid u i j < j then qCaA u (qMid u i j + 1) j n else -1
def qCls (u : tS) (i j r : Nat) (w : eV) : Bool × eV := if qCaA u i (qMid u i j) (eRo w) = -2 ∨ qCl2 u i j (eRo w) = -2 then (false, w) else (true, wPh (wCn (wCa w (upd (upd (eCa w) (r * 2 + 0) (qCaA u i (qMid u i j) (eRo w))) (r * 2 + 1) (qCl2 u i j (eRo w)))) (va_up (eCn w) r (if qMid u i j < j then 2 else 1))) (va_up (ePh w) r (decide (qMid u i j < j) && decide (ocAt u.1 u.2.1 (nI (qMid u i j)) = nI 124))))
theorem qRowL_ok {u : tS} {r : Nat} (hr : r < 4) : ∀ (d k : Nat) (w : eV), enOk w → enOk (qRowL u r d k w).2 := by
  intro d
  induction d with
  | zero => intro k w h; exact wRo_ok h (by omega)
  | succ d ih =>
    intro k w h
    unfold qRowL
    split
    · exact h
    · exact ih (k + 1) _ (eAddL_ok h)
theorem wRs0_ok {w : eV} {r : Nat} (h : enOk w) : enOk (wRs w (va_up (eRs w) r 0)) := ⟨h.1, va_up_le h.2.1 (by omega), h.2.2⟩
theorem qRow_ok {u : tS} {r i j : Nat} {w : eV} (h : enOk w) : enOk (qRow u r i j w).2 := by
  unfold qRow
  split
  · exact h
  · exact qRowL_ok (by omega) _ _ _ (wRs0_ok h)
theorem qAlt_2 {u : tS} {i j : Nat} {w : eV} : (qAlt u i j w).2 = (qRow u (eRo w) i j w).2 := by
  unfold qAlt
  split <;> rfl
theorem qAlt_ok {u : tS} {i j : Nat} {w : eV} (h : enOk w) : enOk (qAlt u i j w).2 := by rw [qAlt_2]; exact qRow_ok h
theorem qAltL_ok {u : tS} {j : Nat} : ∀ (d k i : Nat) (w : eV), enOk w → enOk (qAltL u j d k i w).2 := by
  intro d
  induction d with
  | zero => intro k i w h; exact h
  | succ d ih =>
    intro k i w h
    unfold qAltL
    split
    · split
      · exact ih _ _ _ (qAlt_ok h)
      · exact qAlt_ok h
    · exact ih _ _ _ h
theorem qAlts_ok {u : tS} {v : qV} {w : eV} (h : enOk w) : enOk (qAlts u v w).2 := by
  unfold qAlts
  split
  · exact h
  · exact qAltL_ok _ _ _ _ h
theorem qIdL_ok {u : tS} : ∀ (d k : Nat) (w : eV), enOk w → enOk (qIdL u d k w) := by
  intro d
  induction d with
  | zero => intro k w h; exact h
  | succ d ih => intro k w h; exact ih _ _ (eAddI_ok h)
theorem wIz0_ok {w : eV} (h : enOk w) : enOk (wIz w 0) := ⟨h.1, h.2.1, h.2.2.1, Nat.zero_le _⟩
theorem qId_ok {u : tS} {v : qV} {w : eV} (h : enOk w) : enOk (qId u v w).2 := by
  unfold qId
  split
  · exact wIz0_ok h
  · split
    · exact qIdL_ok _ _ _ (wIz0_ok h)
    · exact wIz0_ok h
theorem qCls_ok {u : tS} {i j r : Nat} {w : eV} (h : enOk w) : enOk (qCls u i j r w).2 := by
  unfold qCls
  split
  · exact h
  · exact ⟨h.1, h.2.1, va_up_le h.2.2.1 (by split <;> omega), h.2.2.2⟩
theorem qMdL_le {u : tS} {i j : Nat} : ∀ (d m : Nat), i ≤ m → m ≤ j → i + d ≤ j → i ≤ qMdL u i d m ∧ qMdL u i d m ≤ j := by
  intro d
  induction d with
  | zero => intro m h1 h2 _; exact ⟨h1, h2⟩
  | succ d ih =>
    intro m h1 h2 h3
    unfold qMdL
    refine ih _ ?_ ?_ (by omega) <;> (split <;> omega)
theorem qMid_le {u : tS} {i j : Nat} (h : i ≤ j) : i ≤ qMid u i j ∧ qMid u i j ≤ j := qMdL_le (j - i) j h (by omega) (by omega)

set_option maxRecDepth 100000 in
set_option maxHeartbeats 4000000 in
/-- SheetReader.takeSequence -/
theorem sX8_takeSequence {E : eN} (hE : eOk E) {f : aH} {t : Nat} {a tp c s x : Nat} {v : qV} {u : tS} {w : eV} {g : gV} (h : srP tp c s f a v) (hu : oP f tp u) (hw : enP f x w) (hwo : enOk w) (da : x + 6 < a ∨ a + 1 < x) (dt : tp + 1 < x ∨ x + 6 < tp) (hC : qC v) (hm : 8 ≤ qCm v) (hg : gnP f c g) (hgo : gOk g) : mT E mX8_takeSequence 0 0 [.ref a, .ref x] f t (fun o f' t' => o = .inl (some (.int (bI (qSeq u v g w).1))) ∧ t' = t ∧ f' = enS f x (qSeq u v g w).2) := by
  refine mT_of (n := 0) (lo := [some (.ref a), some (.ref x)]) (by decide) (by exact Nat.le_of_ble_eq_true rfl) rfl rfl ?_
  obtain ⟨h0, h1⟩ := id h
  obtain ⟨⟨u0, u1⟩, u2⟩ := id hu
  obtain ⟨x0, x1, x2, x3, x4, x5, x6⟩ := id hw
  have g0 : qSt v 0 < qSt v 1 := (hC.2 0 (by omega) (by omega)).2
  have g0b := hC.1 1
  obtain ⟨y0, y1, y2, y3, y4, y5, y6, y7, y8⟩ := id hg
  refine v_aload_n dX8_takeSequence_0 rfl (by rfl) ?_
  refine v_aload_n dX8_takeSequence_1 rfl (by rfl) ?_
  refine v_getf hE dX8_takeSequence_2 fX8_15 (by repeat (first | assumption | exact va_up_self _ _ _ | refine (va_up_ne _ _ (by omega)).trans ?_)) (by rfl) ?_
  refine v_getf hE dX8_takeSequence_5 fX8_174 (by repeat (first | assumption | exact va_up_self _ _ _ | refine (va_up_ne _ _ (by omega)).trans ?_)) (by rfl) ?_
  refine v_aload_n dX8_takeSequence_8 rfl (by rfl) ?_
  refine v_getf hE dX8_takeSequence_9 fX8_9 (by repeat (first | assumption | exact va_up_self _ _ _ | refine (va_up_ne _ _ (by omega)).trans ?_)) (by rfl) ?_
  refine v_aload_n dX8_takeSequence_12 rfl (by rfl) ?_
  refine v_getf hE dX8_takeSequence_13 fX8_23 (by repeat (first | assumption | exact va_up_self _ _ _ | refine (va_up_ne _ _ (by omega)).trans ?_)) (by rfl) ?_
  refine v_iconst (v := nI 0) dX8_takeSequence_16 (by decide) ?_
  refine v_iald hE dX8_takeSequence_17 (by repeat (first | assumption | exact va_up_self _ _ _ | refine (va_up_ne _ _ (by omega)).trans ?_)) (by omega) (by omega) ?_
  refine v_aload_n dX8_takeSequence_18 rfl (by rfl) ?_
  refine v_getf hE dX8_takeSequence_19 fX8_23 (by repeat (first | assumption | exact va_up_self _ _ _ | refine (va_up_ne _ _ (by omega)).trans ?_)) (by rfl) ?_
  refine v_iconst (v := nI 1) dX8_takeSequence_22 (by decide) ?_
  refine v_iald hE dX8_takeSequence_23 (by repeat (first | assumption | exact va_up_self _ _ _ | refine (va_up_ne _ _ (by omega)).trans ?_)) (by omega) (by omega) ?_
  refine v_iconst (v := nI 1) dX8_takeSequence_24 (by decide) ?_
  refine v_isubN dX8_takeSequence_25 (by omega) ?_
  refine w_callV hE dX8_takeSequence_26 kX8_125 (by repeat (first | assumption | exact va_up_self _ _ _ | refine (va_up_ne _ _ (by omega)).trans ?_)) (by rfl) (by rfl) (sX5_indexIn hE (gn_nm hg) hgo.1 hu (by omega) (by omega)) rfl (by decide) (by decide) (by exact Nat.le_of_ble_eq_true rfl) (by omega) (by omega) (fun v9 g9 u9 h9 => ?_) (fun _ _ _ h => by cases h.1)
  obtain ⟨hv9, hu9, hg9⟩ := h9
  replace hu9 := hu9.symm
  replace hg9 := hg9.symm
  subst hu9
  subst hg9
  cases hv9
  refine v_putf hE dX8_takeSequence_29 fX8_177 (by repeat (first | assumption | exact va_up_self _ _ _ | refine (va_up_ne _ _ (by omega)).trans ?_)) (by exact Nat.le_of_ble_eq_true rfl) (by rfl) (by rfl) (by rfl) ?_
  refine v_aload_n dX8_takeSequence_32 rfl (by rfl) ?_
  refine v_getf hE dX8_takeSequence_33 fX8_177 (by repeat (first | assumption | exact va_up_self _ _ _ | refine (va_up_ne _ _ (by omega)).trans ?_)) (by rfl) ?_
  refine v_iconst (v := (-1)) dX8_takeSequence_36 (by decide) ?_
  refine v_icmp_eq (tgt := 44) dX8_takeSequence_37 (by decide) (fun c37 => ?_) (fun c37 => ?_)
  · refine v_iconst (v := nI 0) dX8_takeSequence_44 (by decide) ?_
    refine v_iret dX8_takeSequence_45 rfl (by first | rfl | exact nar_bI) ?_
    first
      | (refine ⟨congrArg (fun x => (Sum.inl (some (Value.int x)) : aO)) (bI_f (decide_eq_false (fun q => q c37))), rfl, ?_⟩
         exact enS_ext (by repeat (first | assumption | exact va_up_self _ _ _ | refine (va_up_ne _ _ (by omega)).trans ?_)) (by repeat (first | assumption | exact va_up_self _ _ _ | refine (va_up_ne _ _ (by omega)).trans ?_)) (by repeat (first | assumption | exact va_up_self _ _ _ | refine (va_up_ne _ _ (by omega)).trans ?_)) (by repeat (first | assumption | exact va_up_self _ _ _ | refine (va_up_ne _ _ (by omega)).trans ?_)) (by repeat (first | assumption | exact va_up_self _ _ _ | refine (va_up_ne _ _ (by omega)).trans ?_)) (by repeat (first | assumption | exact va_up_self _ _ _ | refine (va_up_ne _ _ (by omega)).trans ?_)) (by repeat (first | assumption | exact va_up_self _ _ _ | refine (va_up_ne _ _ (by omega)).trans ?_)) (fun b hb => by simp only [va_up]; (repeat rw [if_neg (by omega)])))
      | (refine ⟨congrArg (fun x => (Sum.inl (some (Value.int x)) : aO)) (bI_t (decide_eq_true c37)), rfl, ?_⟩
         exact enS_ext (by repeat (first | assumption | exact va_up_self _ _ _ | refine (va_up_ne _ _ (by omega)).trans ?_)) (by repeat (first | assumption | exact va_up_self _ _ _ | refine (va_up_ne _ _ (by omega)).trans ?_)) (by repeat (first | assumption | exact va_up_self _ _ _ | refine (va_up_ne _ _ (by omega)).trans ?_)) (by repeat (first | assumption | exact va_up_self _ _ _ | refine (va_up_ne _ _ (by omega)).trans ?_)) (by repeat (first | assumption | exact va_up_self _ _ _ | refine (va_up_ne _ _ (by omega)).trans ?_)) (by repeat (first | assumption | exact va_up_self _ _ _ | refine (va_up_ne _ _ (by omega)).trans ?_)) (by repeat (first | assumption | exact va_up_self _ _ _ | refine (va_up_ne _ _ (by omega)).trans ?_)) (fun b hb => by simp only [va_up]; (repeat rw [if_neg (by omega)])))
  · refine v_iconst (v := nI 1) dX8_takeSequence_40 (by decide) ?_
    refine v_goto (tgt := 45) dX8_takeSequence_41 (by decide) ?_
    refine v_iret dX8_takeSequence_45 rfl (by first | rfl | exact nar_bI) ?_
    first
      | (refine ⟨congrArg (fun x => (Sum.inl (some (Value.int x)) : aO)) (bI_f (decide_eq_false (fun q => q c37))), rfl, ?_⟩
         exact enS_ext (by repeat (first | assumption | exact va_up_self _ _ _ | refine (va_up_ne _ _ (by omega)).trans ?_)) (by repeat (first | assumption | exact va_up_self _ _ _ | refine (va_up_ne _ _ (by omega)).trans ?_)) (by repeat (first | assumption | exact va_up_self _ _ _ | refine (va_up_ne _ _ (by omega)).trans ?_)) (by repeat (first | assumption | exact va_up_self _ _ _ | refine (va_up_ne _ _ (by omega)).trans ?_)) (by repeat (first | assumption | exact va_up_self _ _ _ | refine (va_up_ne _ _ (by omega)).trans ?_)) (by repeat (first | assumption | exact va_up_self _ _ _ | refine (va_up_ne _ _ (by omega)).trans ?_)) (by repeat (first | assumption | exact va_up_self _ _ _ | refine (va_up_ne _ _ (by omega)).trans ?_)) (fun b hb => by simp only [va_up]; (repeat rw [if_neg (by omega)])))
      | (refine ⟨congrArg (fun x => (Sum.inl (some (Value.int x)) : aO)) (bI_t (decide_eq_true c37)), rfl, ?_⟩
         exact enS_ext (by repeat (first | assumption | exact va_up_self _ _ _ | refine (va_up_ne _ _ (by omega)).trans ?_)) (by repeat (first | assumption | exact va_up_self _ _ _ | refine (va_up_ne _ _ (by omega)).trans ?_)) (by repeat (first | assumption | exact va_up_self _ _ _ | refine (va_up_ne _ _ (by omega)).trans ?_)) (by repeat (first | assumption | exact va_up_self _ _ _ | refine (va_up_ne _ _ (by omega)).trans ?_)) (by repeat (first | assumption | exact va_up_self _ _ _ | refine (va_up_ne _ _ (by omega)).trans ?_)) (by repeat (first | assumption | exact va_up_self _ _ _ | refine (va_up_ne _ _ (by omega)).trans ?_)) (by repeat (first | assumption | exact va_up_self _ _ _ | refine (va_up_ne _ _ (by omega)).trans ?_)) (fun b hb => by simp only [va_up]; (repeat rw [if_neg (by omega)])))

set_option maxRecDepth 100000 in
set_option maxHeartbeats 4000000 in
/-- SheetReader.takePlace -/
theorem sX8_takePlace {E : eN} (hE : eOk E) {f : aH} {t : Nat} {a tp c s x : Nat} {v : qV} {u : tS} {w : eV} {g : gV} {q : Nat} (h : srP tp c s f a v) (hu : oP f tp u) (hw : enP f x w) (hwo : enOk w) (da : x + 6 < a ∨ a + 1 < x) (dt : tp + 1 < x ∨ x + 6 < tp) (hC : qC v) (hm : 8 ≤ qCm v) (hg : gnP f c g) (hgo : gOk g) (hsq : eSq w = nI q) (hq : q < 2 ^ 30) : mT E mX8_takePlace 0 0 [.ref a, .ref x] f t (fun o f' t' => o = .inl (some (.int (bI (qPlc u v g q w).1))) ∧ t' = t ∧ f' = enS f x (qPlc u v g q w).2) := by
  refine mT_of (n := 0) (lo := [some (.ref a), some (.ref x)]) (by decide) (by exact Nat.le_of_ble_eq_true rfl) rfl rfl ?_
  obtain ⟨h0, h1⟩ := id h
  obtain ⟨⟨u0, u1⟩, u2⟩ := id hu
  obtain ⟨x0, x1, x2, x3, x4, x5, x6⟩ := id hw
  have g1 : qSt v 1 < qSt v 2 := (hC.2 1 (by omega) (by omega)).2
  have g1b := hC.1 2
  obtain ⟨y0, y1, y2, y3, y4, y5, y6, y7, y8⟩ := id hg
  have gz : gnSz g q ≤ 3000 := by
    have k1 := hgo.2.2.1
    unfold gnSz
    split
    · rename_i hh
      have k2 := hgo.2.2.2 q hh
      omega
    · omega
  refine v_aload_n dX8_takePlace_0 rfl (by rfl) ?_
  refine v_aload_n dX8_takePlace_1 rfl (by rfl) ?_
  refine v_getf hE dX8_takePlace_2 fX8_9 (by repeat (first | assumption | exact va_up_self _ _ _ | refine (va_up_ne _ _ (by omega)).trans ?_)) (by rfl) ?_
  refine v_aload_n dX8_takePlace_5 rfl (by rfl) ?_
  refine v_getf hE dX8_takePlace_6 fX8_23 (by repeat (first | assumption | exact va_up_self _ _ _ | refine (va_up_ne _ _ (by omega)).trans ?_)) (by rfl) ?_
  refine v_iconst (v := nI 1) dX8_takePlace_9 (by decide) ?_
  refine v_iald hE dX8_takePlace_10 (by repeat (first | assumption | exact va_up_self _ _ _ | refine (va_up_ne _ _ (by omega)).trans ?_)) (by omega) (by omega) ?_
  refine v_aload_n dX8_takePlace_11 rfl (by rfl) ?_
  refine v_getf hE dX8_takePlace_12 fX8_23 (by repeat (first | assumption | exact va_up_self _ _ _ | refine (va_up_ne _ _ (by omega)).trans ?_)) (by rfl) ?_
  refine v_iconst (v := nI 2) dX8_takePlace_15 (by decide) ?_
  refine v_iald hE dX8_takePlace_16 (by repeat (first | assumption | exact va_up_self _ _ _ | refine (va_up_ne _ _ (by omega)).trans ?_)) (by omega) (by omega) ?_
  refine v_iconst (v := nI 1) dX8_takePlace_17 (by decide) ?_
  refine v_isubN dX8_takePlace_18 (by omega) ?_
  refine v_aload_n dX8_takePlace_19 rfl (by rfl) ?_
  refine v_getf hE dX8_takePlace_20 fX8_15 (by repeat (first | assumption | exact va_up_self _ _ _ | refine (va_up_ne _ _ (by omega)).trans ?_)) (by rfl) ?_
  refine v_aload_n dX8_takePlace_23 rfl (by rfl) ?_
  refine v_getf hE dX8_takePlace_24 fX8_177 (by repeat (first | assumption | exact va_up_self _ _ _ | refine (va_up_ne _ _ (by omega)).trans ?_)) (by rfl) ?_
  refine v_eqi (y := nI q) hsq ?_
  refine w_callV hE dX8_takePlace_27 kX8_182 (by repeat (first | assumption | exact va_up_self _ _ _ | refine (va_up_ne _ _ (by omega)).trans ?_)) (by rfl) (by rfl) (sX1_sizeOf hE hg hgo (by omega)) rfl (by decide) (by decide) (by exact Nat.le_of_ble_eq_true rfl) (by omega) (by omega) (fun v9 g9 u9 h9 => ?_) (fun _ _ _ h => by cases h.1)
  obtain ⟨hv9, hu9, hg9⟩ := h9
  replace hu9 := hu9.symm
  replace hg9 := hg9.symm
  subst hu9
  subst hg9
  cases hv9
  refine w_callV hE dX8_takePlace_30 kX8_185 (by repeat (first | assumption | exact va_up_self _ _ _ | refine (va_up_ne _ _ (by omega)).trans ?_)) (by rfl) (by rfl) (sX6_numberAt hE hu (by omega) (by omega) (by omega)) rfl (by decide) (by decide) (by exact Nat.le_of_ble_eq_true rfl) (by omega) (by omega) (fun v9 g9 u9 h9 => ?_) (fun _ _ _ h => by cases h.1)
  obtain ⟨hv9, hu9, hg9⟩ := h9
  replace hu9 := hu9.symm
  replace hg9 := hg9.symm
  subst hu9
  subst hg9
  cases hv9
  refine v_putf hE dX8_takePlace_33 fX8_189 (by repeat (first | assumption | exact va_up_self _ _ _ | refine (va_up_ne _ _ (by omega)).trans ?_)) (by exact Nat.le_of_ble_eq_true rfl) (by rfl) (by rfl) (by rfl) ?_
  refine v_aload_n dX8_takePlace_36 rfl (by rfl) ?_
  refine v_getf hE dX8_takePlace_37 fX8_189 (by repeat (first | assumption | exact va_up_self _ _ _ | refine (va_up_ne _ _ (by omega)).trans ?_)) (by rfl) ?_
  refine v_if_le (tgt := 47) dX8_takePlace_40 (by decide) (fun c40 => ?_) (fun c40 => ?_)
  · refine v_iconst (v := nI 0) dX8_takePlace_47 (by decide) ?_
    refine v_iret dX8_takePlace_48 rfl (by first | rfl | exact nar_bI) ?_
    first
      | (refine ⟨congrArg (fun x => (Sum.inl (some (Value.int x)) : aO)) (bI_f (decide_eq_false (fun q => q c40))), rfl, ?_⟩
         exact enS_ext (by repeat (first | assumption | exact va_up_self _ _ _ | refine (va_up_ne _ _ (by omega)).trans ?_)) (by repeat (first | assumption | exact va_up_self _ _ _ | refine (va_up_ne _ _ (by omega)).trans ?_)) (by repeat (first | assumption | exact va_up_self _ _ _ | refine (va_up_ne _ _ (by omega)).trans ?_)) (by repeat (first | assumption | exact va_up_self _ _ _ | refine (va_up_ne _ _ (by omega)).trans ?_)) (by repeat (first | assumption | exact va_up_self _ _ _ | refine (va_up_ne _ _ (by omega)).trans ?_)) (by repeat (first | assumption | exact va_up_self _ _ _ | refine (va_up_ne _ _ (by omega)).trans ?_)) (by repeat (first | assumption | exact va_up_self _ _ _ | refine (va_up_ne _ _ (by omega)).trans ?_)) (fun b hb => by simp only [va_up]; (repeat rw [if_neg (by omega)])))
      | (refine ⟨congrArg (fun x => (Sum.inl (some (Value.int x)) : aO)) (bI_t (decide_eq_true c40)), rfl, ?_⟩
         exact enS_ext (by repeat (first | assumption | exact va_up_self _ _ _ | refine (va_up_ne _ _ (by omega)).trans ?_)) (by repeat (first | assumption | exact va_up_self _ _ _ | refine (va_up_ne _ _ (by omega)).trans ?_)) (by repeat (first | assumption | exact va_up_self _ _ _ | refine (va_up_ne _ _ (by omega)).trans ?_)) (by repeat (first | assumption | exact va_up_self _ _ _ | refine (va_up_ne _ _ (by omega)).trans ?_)) (by repeat (first | assumption | exact va_up_self _ _ _ | refine (va_up_ne _ _ (by omega)).trans ?_)) (by repeat (first | assumption | exact va_up_self _ _ _ | refine (va_up_ne _ _ (by omega)).trans ?_)) (by repeat (first | assumption | exact va_up_self _ _ _ | refine (va_up_ne _ _ (by omega)).trans ?_)) (fun b hb => by simp only [va_up]; (repeat rw [if_neg (by omega)])))
  · refine v_iconst (v := nI 1) dX8_takePlace_43 (by decide) ?_
    refine v_goto (tgt := 48) dX8_takePlace_44 (by decide) ?_
    refine v_iret dX8_takePlace_48 rfl (by first | rfl | exact nar_bI) ?_
    first
      | (refine ⟨congrArg (fun x => (Sum.inl (some (Value.int x)) : aO)) (bI_f (decide_eq_false (fun q => q c40))), rfl, ?_⟩
         exact enS_ext (by repeat (first | assumption | exact va_up_self _ _ _ | refine (va_up_ne _ _ (by omega)).trans ?_)) (by repeat (first | assumption | exact va_up_self _ _ _ | refine (va_up_ne _ _ (by omega)).trans ?_)) (by repeat (first | assumption | exact va_up_self _ _ _ | refine (va_up_ne _ _ (by omega)).trans ?_)) (by repeat (first | assumption | exact va_up_self _ _ _ | refine (va_up_ne _ _ (by omega)).trans ?_)) (by repeat (first | assumption | exact va_up_self _ _ _ | refine (va_up_ne _ _ (by omega)).trans ?_)) (by repeat (first | assumption | exact va_up_self _ _ _ | refine (va_up_ne _ _ (by omega)).trans ?_)) (by repeat (first | assumption | exact va_up_self _ _ _ | refine (va_up_ne _ _ (by omega)).trans ?_)) (fun b hb => by simp only [va_up]; (repeat rw [if_neg (by omega)])))
      | (refine ⟨congrArg (fun x => (Sum.inl (some (Value.int x)) : aO)) (bI_t (decide_eq_true c40)), rfl, ?_⟩
         exact enS_ext (by repeat (first | assumption | exact va_up_self _ _ _ | refine (va_up_ne _ _ (by omega)).trans ?_)) (by repeat (first | assumption | exact va_up_self _ _ _ | refine (va_up_ne _ _ (by omega)).trans ?_)) (by repeat (first | assumption | exact va_up_self _ _ _ | refine (va_up_ne _ _ (by omega)).trans ?_)) (by repeat (first | assumption | exact va_up_self _ _ _ | refine (va_up_ne _ _ (by omega)).trans ?_)) (by repeat (first | assumption | exact va_up_self _ _ _ | refine (va_up_ne _ _ (by omega)).trans ?_)) (by repeat (first | assumption | exact va_up_self _ _ _ | refine (va_up_ne _ _ (by omega)).trans ?_)) (by repeat (first | assumption | exact va_up_self _ _ _ | refine (va_up_ne _ _ (by omega)).trans ?_)) (fun b hb => by simp only [va_up]; (repeat rw [if_neg (by omega)])))

set_option maxRecDepth 100000 in
set_option maxHeartbeats 4000000 in
/-- SheetReader.takeId -/
theorem sX8_takeId {E : eN} (hE : eOk E) {f : aH} {t : Nat} {a tp c s x : Nat} {v : qV} {u : tS} {w : eV} (h : srP tp c s f a v) (hu : oP f tp u) (hw : enP f x w) (hwo : enOk w) (da : x + 6 < a ∨ a + 1 < x) (dt : tp + 1 < x ∨ x + 6 < tp) (hC : qC v) (hm : 8 ≤ qCm v) (hS : eSt E) : mT E mX8_takeId 0 0 [.ref a, .ref x] f t (fun o f' t' => o = .inl (some (.int (bI (qId u v w).1))) ∧ t' = t ∧ f' = enS f x (qId u v w).2) := by
  refine mT_of (n := 3) (lo := [some (.ref a), some (.ref x), none, none, none]) (by decide) (by exact Nat.le_of_ble_eq_true rfl) rfl rfl ?_
  obtain ⟨h0, h1⟩ := id h
  obtain ⟨⟨u0, u1⟩, u2⟩ := id hu
  obtain ⟨x0, x1, x2, x3, x4, x5, x6⟩ := id hw
  have g2 : qSt v 2 < qSt v 3 := (hC.2 2 (by omega) (by omega)).2
  have g2b := hC.1 3
  have lp : qId u v w = (true, qIdL u ((qSt v 3 - 1) - (qSt v 2)) (qSt v 2) (wIz w 0)) → ∀ (d : Nat) (k : Nat) (y : eV), k + d = (qSt v 3 - 1) → enOk y → qIdL u ((qSt v 3 - 1) - (qSt v 2)) (qSt v 2) (wIz w 0) = qIdL u ((qSt v 3 - 1) - k) k y → V E mX8_takeId 0 0 (fun o f' t' => o = .inl (some (.int (bI (qId u v w).1))) ∧ t' = t ∧ f' = enS f x (qId u v w).2) 50 [some (.ref a), some (.ref x), some (.int (nI (qSt v 2))), some (.int (nI (qSt v 3 - 1))), some (.int (nI k))] [] (enS f x y) t 0 0 := by
    intro hq d
    induction d using Nat.strongRecOn with
    | _ d ih =>
    intro k y hk hy he
    obtain ⟨h2, h3⟩ := sr_enS (w := y) h da
    have hu2 := oP_enS (w := y) hu dt
    obtain ⟨⟨u4, u5⟩, u6⟩ := id hu2
    have hw2 := enP_S f x y
    obtain ⟨x0, x1, x2, x3, x4, x5, x6⟩ := id hw2
    refine v_iload dX8_takeId_50 (by rfl) ?_
    refine v_iload_n dX8_takeId_52 rfl (by rfl) ?_
    refine v_icmp_geN (tgt := 75) dX8_takeId_53 (by decide) (by omega) (by omega) (fun c53 => ?_) (fun c53 => ?_)
    · refine v_iconst (v := nI 1) dX8_takeId_75 (by decide) ?_
      refine v_iret dX8_takeId_76 rfl (by first | rfl | exact nar_bI) ?_
      have hR : qId u v w = (true, y) := hq.trans (by rw [he, show (qSt v 3 - 1) - k = 0 by omega]; rfl)
      rw [hR]
      exact ⟨rfl, rfl, rfl⟩
    · refine v_aload_n dX8_takeId_56 rfl (by rfl) ?_
      refine v_aload_n dX8_takeId_57 rfl (by rfl) ?_
      refine v_getf hE dX8_takeId_58 fX8_9 (by repeat (first | assumption | exact va_up_self _ _ _ | refine (va_up_ne _ _ (by omega)).trans ?_)) (by rfl) ?_
      refine v_iload dX8_takeId_61 (by rfl) ?_
      refine w_callV hE dX8_takeId_63 kX8_104 (by repeat (first | assumption | exact va_up_self _ _ _ | refine (va_up_ne _ _ (by omega)).trans ?_)) (by rfl) (by rfl) (sX6_at hE hu2.1 u2) rfl (by decide) (by decide) (by exact Nat.le_of_ble_eq_true rfl) (by omega) (by omega) (fun v9 g9 u9 h9 => ?_) (fun _ _ _ h => by cases h.1)
      obtain ⟨hv9, hu9, hg9⟩ := h9
      replace hu9 := hu9.symm
      replace hg9 := hg9.symm
      subst hu9
      subst hg9
      cases hv9
      refine w_callV hE dX8_takeId_66 kX8_195 (by repeat (first | assumption | exact va_up_self _ _ _ | refine (va_up_ne _ _ (by omega)).trans ?_)) (by rfl) (by rfl) (sX0_addIdOctet hE hw2 hy) rfl (by decide) (by decide) (by exact Nat.le_of_ble_eq_true rfl) (by omega) (by omega) (fun v9 g9 u9 h9 => ?_) (fun _ _ _ h => by cases h.1)
      obtain ⟨hv9, hu9, hg9⟩ := h9
      replace hu9 := hu9.symm
      replace hg9 := hg9.symm
      subst hu9
      subst hg9
      cases hv9
      refine v_hp enS_S ?_
      refine v_iincN (y := 1) dX8_takeId_69 (by rfl) (by decide) (by decide) ?_
      refine v_goto (tgt := 50) dX8_takeId_72 (by decide) ?_
      exact ih (d - 1) (by omega) (k + 1) _ (by omega) (eAddI_ok hy) (he.trans (by rw [show (qSt v 3 - 1) - k = ((qSt v 3 - 1) - (k + 1)) + 1 by omega]; rfl))
  refine v_aload_n dX8_takeId_0 rfl (by rfl) ?_
  refine v_iconst (v := nI 0) dX8_takeId_1 (by decide) ?_
  refine v_putf hE dX8_takeId_2 fX8_192 (by repeat (first | assumption | exact va_up_self _ _ _ | refine (va_up_ne _ _ (by omega)).trans ?_)) (by exact Nat.le_of_ble_eq_true rfl) (by rfl) (by rfl) (by rfl) ?_
  refine v_hp (show _ = enS f x (wIz w 0) from enS_ext (by repeat (first | assumption | exact va_up_self _ _ _ | refine (va_up_ne _ _ (by omega)).trans ?_)) (by repeat (first | assumption | exact va_up_self _ _ _ | refine (va_up_ne _ _ (by omega)).trans ?_)) (by repeat (first | assumption | exact va_up_self _ _ _ | refine (va_up_ne _ _ (by omega)).trans ?_)) (by repeat (first | assumption | exact va_up_self _ _ _ | refine (va_up_ne _ _ (by omega)).trans ?_)) (by repeat (first | assumption | exact va_up_self _ _ _ | refine (va_up_ne _ _ (by omega)).trans ?_)) (by repeat (first | assumption | exact va_up_self _ _ _ | refine (va_up_ne _ _ (by omega)).trans ?_)) (by repeat (first | assumption | exact va_up_self _ _ _ | refine (va_up_ne _ _ (by omega)).trans ?_)) (fun b hb => by simp only [va_up]; (repeat rw [if_neg (by omega)]))) ?_
  obtain ⟨h2, h3⟩ := sr_enS (w := (wIz w 0)) h da
  have hu2 := oP_enS (w := (wIz w 0)) hu dt
  obtain ⟨⟨u4, u5⟩, u6⟩ := id hu2
  have hw2 := enP_S f x (wIz w 0)
  obtain ⟨x0, x1, x2, x3, x4, x5, x6⟩ := id hw2
  refine v_aload_n dX8_takeId_5 rfl (by rfl) ?_
  refine v_iconst (v := nI 2) dX8_takeId_6 (by decide) ?_
  refine v_ldcS hS (r := (RX8, 167, ".", tx7)) dX8_takeId_7 (by unfold strTab; repeat (first | exact List.Mem.head _ | apply List.Mem.tail)) rfl rfl (fun q7 hq7 => ?_)
  refine w_callV hE dX8_takeId_9 kX8_112 (by repeat (first | assumption | exact va_up_self _ _ _ | refine (va_up_ne _ _ (by omega)).trans ?_)) (by rfl) (by rfl) (sX8_columnIs hE ⟨h2, h3⟩ hu2 hS hq7 (by decide) (by decide) (by omega) g2 g2b) rfl (by decide) (by decide) (by exact Nat.le_of_ble_eq_true rfl) (by omega) (by omega) (fun v9 g9 u9 h9 => ?_) (fun _ _ _ h => by cases h.1)
  obtain ⟨hv9, hu9, hg9⟩ := h9
  replace hu9 := hu9.symm
  replace hg9 := hg9.symm
  subst hu9
  subst hg9
  cases hv9
  refine v_if_eqB (tgt := 17) dX8_takeId_12 (by decide) (fun c12 => ?_) (fun c12 => ?_)
  · refine v_aload_n dX8_takeId_17 rfl (by rfl) ?_
    refine v_getf hE dX8_takeId_18 fX8_23 (by repeat (first | assumption | exact va_up_self _ _ _ | refine (va_up_ne _ _ (by omega)).trans ?_)) (by rfl) ?_
    refine v_iconst (v := nI 2) dX8_takeId_21 (by decide) ?_
    refine v_iald hE dX8_takeId_22 (by repeat (first | assumption | exact va_up_self _ _ _ | refine (va_up_ne _ _ (by omega)).trans ?_)) (by omega) (by omega) ?_
    refine v_istore_n dX8_takeId_23 rfl (by decide) ?_
    refine v_aload_n dX8_takeId_24 rfl (by rfl) ?_
    refine v_getf hE dX8_takeId_25 fX8_23 (by repeat (first | assumption | exact va_up_self _ _ _ | refine (va_up_ne _ _ (by omega)).trans ?_)) (by rfl) ?_
    refine v_iconst (v := nI 3) dX8_takeId_28 (by decide) ?_
    refine v_iald hE dX8_takeId_29 (by repeat (first | assumption | exact va_up_self _ _ _ | refine (va_up_ne _ _ (by omega)).trans ?_)) (by omega) (by omega) ?_
    refine v_iconst (v := nI 1) dX8_takeId_30 (by decide) ?_
    refine v_isubN dX8_takeId_31 (by omega) ?_
    refine v_istore_n dX8_takeId_32 rfl (by decide) ?_
    refine v_aload_n dX8_takeId_33 rfl (by rfl) ?_
    refine v_getf hE dX8_takeId_34 fX8_9 (by repeat (first | assumption | exact va_up_self _ _ _ | refine (va_up_ne _ _ (by omega)).trans ?_)) (by rfl) ?_
    refine v_iload_n dX8_takeId_37 rfl (by rfl) ?_
    refine v_iload_n dX8_takeId_38 rfl (by rfl) ?_
    refine w_callV hE dX8_takeId_39 kX8_118 (by repeat (first | assumption | exact va_up_self _ _ _ | refine (va_up_ne _ _ (by omega)).trans ?_)) (by rfl) (by rfl) (sX6_isWord hE hu2 (by omega) (by omega)) rfl (by decide) (by decide) (by exact Nat.le_of_ble_eq_true rfl) (by omega) (by omega) (fun v9 g9 u9 h9 => ?_) (fun _ _ _ h => by cases h.1)
    obtain ⟨hv9, hu9, hg9⟩ := h9
    replace hu9 := hu9.symm
    replace hg9 := hg9.symm
    subst hu9
    subst hg9
    cases hv9
    refine v_if_neB (tgt := 47) dX8_takeId_42 (by decide) (fun c42 => ?_) (fun c42 => ?_)
    · refine v_iload_n dX8_takeId_47 rfl (by rfl) ?_
      refine v_istore dX8_takeId_48 (by decide) ?_
      exact lp (by unfold qId; rw [if_neg (by rw [c12]; decide), if_pos c42]) ((qSt v 3 - 1) - (qSt v 2)) (qSt v 2) _ (by omega) (wIz0_ok hwo) rfl
    · refine v_iconst (v := nI 0) dX8_takeId_45 (by decide) ?_
      refine v_iret dX8_takeId_46 rfl (by first | rfl | exact nar_bI) ?_
      unfold qId
      first
        | (rw [if_pos c12]; exact ⟨rfl, rfl, rfl⟩)
        | (rw [if_neg (by rw [c12]; decide), if_neg (by rw [c42]; decide)]; exact ⟨rfl, rfl, rfl⟩)
  · refine v_iconst (v := nI 1) dX8_takeId_15 (by decide) ?_
    refine v_iret dX8_takeId_16 rfl (by first | rfl | exact nar_bI) ?_
    unfold qId
    first
      | (rw [if_pos c12]; exact ⟨rfl, rfl, rfl⟩)
      | (rw [if_neg (by rw [c12]; decide), if_neg (by rw [c42]; decide)]; exact ⟨rfl, rfl, rfl⟩)

set_option maxRecDepth 100000 in
set_option maxHeartbeats 4000000 in
/-- SheetReader.takeRow -/
theorem sX8_takeRow {E : eN} (hE : eOk E) {f : aH} {t : Nat} {a tp c s x : Nat} {v : qV} {u : tS} {w : eV} {r i j : Nat} (h : srP tp c s f a v) (hu : oP f tp u) (hw : enP f x w) (hwo : enOk w) (da : x + 6 < a ∨ a + 1 < x) (dt : tp + 1 < x ∨ x + 6 < tp) (hr : r < 2 ^ 29) (hi : i < 2 ^ 29) (hj : j < 2 ^ 29) : mT E mX8_takeRow 0 0 [.ref a, .ref x, .int (nI r), .int (nI i), .int (nI j)] f t (fun o f' t' => o = .inl (some (.int (bI (qRow u r i j w).1))) ∧ t' = t ∧ f' = enS f x (qRow u r i j w).2) := by
  refine mT_of (n := 2) (lo := [some (.ref a), some (.ref x), some (.int (nI r)), some (.int (nI i)), some (.int (nI j)), none, none]) (by decide) (by exact Nat.le_of_ble_eq_true rfl) rfl rfl ?_
  obtain ⟨h0, h1⟩ := id h
  obtain ⟨⟨u0, u1⟩, u2⟩ := id hu
  obtain ⟨x0, x1, x2, x3, x4, x5, x6⟩ := id hw
  have lp : qRow u r i j w = qRowL u r (j - i) i (wRs w (va_up (eRs w) r 0)) → r < 4 → ∀ (d : Nat) (k : Nat) (y : eV) (z6 : Option Value), k + d = j → enOk y → qRowL u r (j - i) i (wRs w (va_up (eRs w) r 0)) = qRowL u r (j - k) k y → V E mX8_takeRow 0 0 (fun o f' t' => o = .inl (some (.int (bI (qRow u r i j w).1))) ∧ t' = t ∧ f' = enS f x (qRow u r i j w).2) 32 [some (.ref a), some (.ref x), some (.int (nI r)), some (.int (nI i)), some (.int (nI j)), some (.int (nI k)), z6] [] (enS f x y) t 0 0 := by
    intro hq hr4 d
    induction d using Nat.strongRecOn with
    | _ d ih =>
    intro k y z6 hk hy he
    obtain ⟨h2, h3⟩ := sr_enS (w := y) h da
    have hu2 := oP_enS (w := y) hu dt
    obtain ⟨⟨u4, u5⟩, u6⟩ := id hu2
    have hw2 := enP_S f x y
    obtain ⟨x0, x1, x2, x3, x4, x5, x6⟩ := id hw2
    refine v_iload dX8_takeRow_32 (by rfl) ?_
    refine v_iload dX8_takeRow_34 (by rfl) ?_
    refine v_icmp_geN (tgt := 74) dX8_takeRow_36 (by decide) (by omega) (by omega) (fun c36 => ?_) (fun c36 => ?_)
    · refine v_aload_n dX8_takeRow_74 rfl (by rfl) ?_
      refine v_iload_n dX8_takeRow_75 rfl (by rfl) ?_
      refine v_iconst (v := nI 1) dX8_takeRow_76 (by decide) ?_
      refine v_iaddN dX8_takeRow_77 ?_
      refine v_putf hE dX8_takeRow_78 fX8_208 (by repeat (first | assumption | exact va_up_self _ _ _ | refine (va_up_ne _ _ (by omega)).trans ?_)) (by exact Nat.le_of_ble_eq_true rfl) (by rfl) (by rfl) (by rfl) ?_
      refine v_iconst (v := nI 1) dX8_takeRow_81 (by decide) ?_
      refine v_iret dX8_takeRow_82 rfl (by first | rfl | exact nar_bI) ?_
      first
        | (have hR : qRow u r i j w = (false, y) := hq.trans (he.trans (by rw [show j - k = (j - (k + 1)) + 1 by omega]; exact if_pos c56))
           rw [hR]; exact ⟨rfl, rfl, rfl⟩)
        | (have hR : qRow u r i j w = (true, wRo y (r + 1)) := hq.trans (he.trans (by rw [show j - k = 0 by omega]; rfl))
           rw [hR]
           exact ⟨rfl, rfl, enS_ext (by repeat (first | assumption | exact va_up_self _ _ _ | refine (va_up_ne _ _ (by omega)).trans ?_)) (by repeat (first | assumption | exact va_up_self _ _ _ | refine (va_up_ne _ _ (by omega)).trans ?_)) (by repeat (first | assumption | exact va_up_self _ _ _ | refine (va_up_ne _ _ (by omega)).trans ?_)) (by repeat (first | assumption | exact va_up_self _ _ _ | refine (va_up_ne _ _ (by omega)).trans ?_)) (by repeat (first | assumption | exact va_up_self _ _ _ | refine (va_up_ne _ _ (by omega)).trans ?_)) (by repeat (first | assumption | exact va_up_self _ _ _ | refine (va_up_ne _ _ (by omega)).trans ?_)) (by repeat (first | assumption | exact va_up_self _ _ _ | refine (va_up_ne _ _ (by omega)).trans ?_)) (fun b hb => (va_up_ne _ _ (by omega)).trans (enS_ne hb))⟩)
    · refine v_aload_n dX8_takeRow_39 rfl (by rfl) ?_
      refine v_getf hE dX8_takeRow_40 fX8_9 (by repeat (first | assumption | exact va_up_self _ _ _ | refine (va_up_ne _ _ (by omega)).trans ?_)) (by rfl) ?_
      refine v_iload dX8_takeRow_43 (by rfl) ?_
      refine w_callV hE dX8_takeRow_45 kX8_104 (by repeat (first | assumption | exact va_up_self _ _ _ | refine (va_up_ne _ _ (by omega)).trans ?_)) (by rfl) (by rfl) (sX6_at hE hu2.1 u2) rfl (by decide) (by decide) (by exact Nat.le_of_ble_eq_true rfl) (by omega) (by omega) (fun v9 g9 u9 h9 => ?_) (fun _ _ _ h => by cases h.1)
      obtain ⟨hv9, hu9, hg9⟩ := h9
      replace hu9 := hu9.symm
      replace hg9 := hg9.symm
      subst hu9
      subst hg9
      cases hv9
      refine w_callSN hE dX8_takeRow_48 kX8_201 (by rfl) (sX9_letterOf hE) rfl (fun _ _ _ h => by cases h.1) (by decide) (by decide) (by exact Nat.le_of_ble_eq_true rfl) (by omega) (by omega) (fun v9 g9 u9 h9 => ?_)
      obtain ⟨hv9, hu9, hg9⟩ := h9
      replace hu9 := hu9.symm
      replace hg9 := hg9.symm
      subst hu9
      subst hg9
      cases hv9
      refine v_istore dX8_takeRow_51 (by decide) ?_
      refine v_iload dX8_takeRow_53 (by rfl) ?_
      refine v_iconst (v := (-1)) dX8_takeRow_55 (by decide) ?_
      refine v_icmp_ne (tgt := 61) dX8_takeRow_56 (by decide) (fun c56 => ?_) (fun c56 => ?_)
      · refine v_aload_n dX8_takeRow_61 rfl (by rfl) ?_
        refine v_iload_n dX8_takeRow_62 rfl (by rfl) ?_
        refine v_iload dX8_takeRow_63 (by rfl) ?_
        refine w_callV hE dX8_takeRow_65 kX8_204 (by repeat (first | assumption | exact va_up_self _ _ _ | refine (va_up_ne _ _ (by omega)).trans ?_)) (by rfl) (by rfl) (sX0_addLetter hE hw2 hy (by omega)) rfl (by decide) (by decide) (by exact Nat.le_of_ble_eq_true rfl) (by omega) (by omega) (fun v9 g9 u9 h9 => ?_) (fun _ _ _ h => by cases h.1)
        obtain ⟨hv9, hu9, hg9⟩ := h9
        replace hu9 := hu9.symm
        replace hg9 := hg9.symm
        subst hu9
        subst hg9
        cases hv9
        refine v_hp enS_S ?_
        refine v_iincN (y := 1) dX8_takeRow_68 (by rfl) (by decide) (by decide) ?_
        refine v_goto (tgt := 32) dX8_takeRow_71 (by decide) ?_
        exact ih (d - 1) (by omega) (k + 1) _ _ (by omega) (eAddL_ok hy) (he.trans (by rw [show j - k = (j - (k + 1)) + 1 by omega]; exact if_neg c56))
      · refine v_iconst (v := nI 0) dX8_takeRow_59 (by decide) ?_
        refine v_iret dX8_takeRow_60 rfl (by first | rfl | exact nar_bI) ?_
        first
          | (have hR : qRow u r i j w = (false, y) := hq.trans (he.trans (by rw [show j - k = (j - (k + 1)) + 1 by omega]; exact if_pos c56))
             rw [hR]; exact ⟨rfl, rfl, rfl⟩)
          | (have hR : qRow u r i j w = (true, wRo y (r + 1)) := hq.trans (he.trans (by rw [show j - k = 0 by omega]; rfl))
             rw [hR]
             exact ⟨rfl, rfl, enS_ext (by repeat (first | assumption | exact va_up_self _ _ _ | refine (va_up_ne _ _ (by omega)).trans ?_)) (by repeat (first | assumption | exact va_up_self _ _ _ | refine (va_up_ne _ _ (by omega)).trans ?_)) (by repeat (first | assumption | exact va_up_self _ _ _ | refine (va_up_ne _ _ (by omega)).trans ?_)) (by repeat (first | assumption | exact va_up_self _ _ _ | refine (va_up_ne _ _ (by omega)).trans ?_)) (by repeat (first | assumption | exact va_up_self _ _ _ | refine (va_up_ne _ _ (by omega)).trans ?_)) (by repeat (first | assumption | exact va_up_self _ _ _ | refine (va_up_ne _ _ (by omega)).trans ?_)) (by repeat (first | assumption | exact va_up_self _ _ _ | refine (va_up_ne _ _ (by omega)).trans ?_)) (fun b hb => (va_up_ne _ _ (by omega)).trans (enS_ne hb))⟩)
  refine v_iload_n dX8_takeRow_0 rfl (by rfl) ?_
  refine v_iconst (v := nI 4) dX8_takeRow_1 (by decide) ?_
  refine v_icmp_geN (tgt := 20) dX8_takeRow_2 (by decide) (by omega) (by omega) (fun c2 => ?_) (fun c2 => ?_)
  · refine v_iconst (v := nI 0) dX8_takeRow_20 (by decide) ?_
    refine v_iret dX8_takeRow_21 rfl (by first | rfl | exact nar_bI) ?_
    unfold qRow
    rw [if_pos (by omega)]
    exact ⟨rfl, rfl, (enS_id hw).symm⟩
  · refine v_iload dX8_takeRow_5 (by rfl) ?_
    refine v_iload_n dX8_takeRow_7 rfl (by rfl) ?_
    refine v_icmp_leN (tgt := 20) dX8_takeRow_8 (by decide) (by omega) (by omega) (fun c8 => ?_) (fun c8 => ?_)
    · refine v_iconst (v := nI 0) dX8_takeRow_20 (by decide) ?_
      refine v_iret dX8_takeRow_21 rfl (by first | rfl | exact nar_bI) ?_
      unfold qRow
      rw [if_pos (by omega)]
      exact ⟨rfl, rfl, (enS_id hw).symm⟩
    · refine v_iload dX8_takeRow_11 (by rfl) ?_
      refine v_iload_n dX8_takeRow_13 rfl (by rfl) ?_
      refine v_isubN dX8_takeRow_14 (by omega) ?_
      refine v_bipush (v := nI 24) dX8_takeRow_15 (by decide) ?_
      refine v_icmp_leN (tgt := 22) dX8_takeRow_17 (by decide) (by omega) (by omega) (fun c17 => ?_) (fun c17 => ?_)
      · refine v_aload_n dX8_takeRow_22 rfl (by rfl) ?_
        refine v_getf hE dX8_takeRow_23 fX8_198 (by repeat (first | assumption | exact va_up_self _ _ _ | refine (va_up_ne _ _ (by omega)).trans ?_)) (by rfl) ?_
        refine v_iload_n dX8_takeRow_26 rfl (by rfl) ?_
        refine v_iconst (v := nI 0) dX8_takeRow_27 (by decide) ?_
        refine v_iast hE dX8_takeRow_28 (by repeat (first | assumption | exact va_up_self _ _ _ | refine (va_up_ne _ _ (by omega)).trans ?_)) (by omega) (by omega) ?_
        rw [upd_nI]
        refine v_hp (show _ = enS f x (wRs w (va_up (eRs w) r 0)) from enS_ext (by repeat (first | assumption | exact va_up_self _ _ _ | refine (va_up_ne _ _ (by omega)).trans ?_)) (by repeat (first | assumption | exact va_up_self _ _ _ | refine (va_up_ne _ _ (by omega)).trans ?_)) (by repeat (first | assumption | exact va_up_self _ _ _ | refine (va_up_ne _ _ (by omega)).trans ?_)) (by repeat (first | assumption | exact va_up_self _ _ _ | refine (va_up_ne _ _ (by omega)).trans ?_)) (by repeat (first | assumption | exact va_up_self _ _ _ | refine (va_up_ne _ _ (by omega)).trans ?_)) (by repeat (first | assumption | exact va_up_self _ _ _ | refine (va_up_ne _ _ (by omega)).trans ?_)) (by repeat (first | assumption | exact va_up_self _ _ _ | refine (va_up_ne _ _ (by omega)).trans ?_)) (fun b hb => by simp only [va_up]; (repeat rw [if_neg (by omega)]))) ?_
        refine v_iload_n dX8_takeRow_29 rfl (by rfl) ?_
        refine v_istore dX8_takeRow_30 (by decide) ?_
        exact lp (by unfold qRow; rw [if_neg (by omega)]) (by omega) (j - i) i _ none (by omega) (wRs0_ok hwo) rfl
      · refine v_iconst (v := nI 0) dX8_takeRow_20 (by decide) ?_
        refine v_iret dX8_takeRow_21 rfl (by first | rfl | exact nar_bI) ?_
        unfold qRow
        rw [if_pos (by omega)]
        exact ⟨rfl, rfl, (enS_id hw).symm⟩
