abbrev qV : Type := (Nat → Nat) × Nat × Int32 × Nat × Nat × Nat × Nat
abbrev qSt (v : qV) : Nat → Nat := v.1
abbrev qBg (v : qV) : Nat := v.2.1
abbrev qEn (v : qV) : Int32 := v.2.2.1
abbrev qNx (v : qV) : Nat := v.2.2.2.1
abbrev qCm (v : qV) : Nat := v.2.2.2.2.1
abbrev qFa (v : qV) : Nat := v.2.2.2.2.2.1
abbrev qFp (v : qV) : Nat := v.2.2.2.2.2.2
abbrev uSt (v : qV) (x : Nat → Nat) : qV := (x, v.2)
abbrev uBg (v : qV) (x : Nat) : qV := (v.1, x, v.2.2)
abbrev uEn (v : qV) (x : Int32) : qV := (v.1, v.2.1, x, v.2.2.2)
abbrev uNx (v : qV) (x : Nat) : qV := (v.1, v.2.1, v.2.2.1, x, v.2.2.2.2)
abbrev uCm (v : qV) (x : Nat) : qV := (v.1, v.2.1, v.2.2.1, v.2.2.2.1, x, v.2.2.2.2.2)
abbrev uFa (v : qV) (x : Nat) : qV := (v.1, v.2.1, v.2.2.1, v.2.2.2.1, v.2.2.2.2.1, x, v.2.2.2.2.2.2)
abbrev uFp (v : qV) (x : Nat) : qV := (v.1, v.2.1, v.2.2.1, v.2.2.2.1, v.2.2.2.2.1, v.2.2.2.2.2.1, x)
def srP (tp c s : Nat) (f : aH) (a : Nat) (v : qV) : Prop := f a = .inr (8, [.ref tp, .ref c, .ref s, .ref (a + 1), .int (nI (qBg v)), .int (qEn v), .int (nI (qNx v)), .int (nI (qCm v)), .int (nI (qFa v)), .int (nI (qFp v))]) ∧ f (a + 1) = .inl (0, 13, .inl (fun k => nI (qSt v k)))
def srS (tp c s : Nat) (f : aH) (a : Nat) (v : qV) : aH := (va_up (va_up f (a + 1) (.inl (0, 13, .inl (fun k => nI (qSt v k))))) a (.inr (8, [.ref tp, .ref c, .ref s, .ref (a + 1), .int (nI (qBg v)), .int (qEn v), .int (nI (qNx v)), .int (nI (qCm v)), .int (nI (qFa v)), .int (nI (qFp v))])))
theorem srP_S (tp c s : Nat) (f : aH) (a : Nat) (v : qV) : srP tp c s (srS tp c s f a v) a v := ⟨va_up_self _ _ _, (va_up_ne _ _ (by omega)).trans (va_up_self _ _ _)⟩
theorem srS_ne {tp c s : Nat} {f : aH} {a b : Nat} {v : qV} (h : b < a ∨ a + 1 < b) : srS tp c s f a v b = f b := by
  unfold srS
  simp only [va_up]
  repeat rw [if_neg (by omega)]
theorem srS_ext {tp c s : Nat} {f f' : aH} {a : Nat} {v : qV} (h0 : f' a = .inr (8, [.ref tp, .ref c, .ref s, .ref (a + 1), .int (nI (qBg v)), .int (qEn v), .int (nI (qNx v)), .int (nI (qCm v)), .int (nI (qFa v)), .int (nI (qFp v))])) (h1 : f' (a + 1) = .inl (0, 13, .inl (fun k => nI (qSt v k)))) (hne : ∀ b, b < a ∨ a + 1 < b → f' b = f b) : f' = srS tp c s f a v := by
  funext b
  by_cases e0 : b = a
  · rw [e0, h0]; exact ((srP_S tp c s f a v).1).symm
  by_cases e1 : b = (a + 1)
  · rw [e1, h1]; exact ((srP_S tp c s f a v).2).symm
  rw [hne b (by omega), srS_ne (by omega)]
theorem srS_S {tp c s : Nat} {f : aH} {a : Nat} {v w : qV} : srS tp c s (srS tp c s f a v) a w = srS tp c s f a w := srS_ext (srP_S tp c s _ _ _).1 (srP_S tp c s _ _ _).2 (fun b hb => by rw [srS_ne hb, srS_ne hb])
theorem srS_id {tp c s : Nat} {f : aH} {a : Nat} {v : qV} (h : srP tp c s f a v) : srS tp c s f a v = f := (srS_ext h.1 h.2 (fun _ _ => rfl)).symm

theorem sr_enS {f : aH} {tp c s a : Nat} {v : qV} {x : Nat} {w : eV} (h : srP tp c s f a v) (hd : x + 6 < a ∨ a + 1 < x) : srP tp c s (enS f x w) a v := by
  obtain ⟨h0, h1⟩ := h
  refine ⟨?_, ?_⟩ <;> (rw [enS_ne (by omega)]; assumption)
theorem sr_nmS {f : aH} {tp c s a : Nat} {v : qV} {x L : Nat} {w : nV} (h : srP tp c s f a v) (hd : x + 2 < a ∨ a + 1 < x) : srP tp c s (nmS L f x w) a v := by
  obtain ⟨h0, h1⟩ := h
  refine ⟨?_, ?_⟩ <;> (rw [nmS_ne (by omega)]; assumption)
theorem gn_srS {f : aH} {tp c s a : Nat} {v : qV} {b : Nat} {g : gV} (h : gnP f b g) (hd : b + 8 < a ∨ a + 1 < b) : gnP (srS tp c s f a v) b g := by
  obtain ⟨h0, h1, h2, h3, h4, h5, h6, h7, h8⟩ := h
  refine ⟨?_, ?_, ?_, ?_, ?_, ?_, ?_, ?_, ?_⟩ <;> (rw [srS_ne (by omega)]; assumption)
theorem sh_srS {f : aH} {tp c s a : Nat} {v : qV} {b : Nat} {g : sV} (h : shP f b g) (hd : b + 4 < a ∨ a + 1 < b) : shP (srS tp c s f a v) b g := by
  obtain ⟨h0, h1, h2, h3, h4⟩ := h
  refine ⟨?_, ?_, ?_, ?_, ?_⟩ <;> (rw [srS_ne (by omega)]; assumption)
theorem nm_srS {f : aH} {tp c s a : Nat} {v : qV} {b L : Nat} {g : nV} (h : nmP L f b g) (hd : b + 2 < a ∨ a + 1 < b) : nmP L (srS tp c s f a v) b g := by
  obtain ⟨h0, h1, h2⟩ := h
  refine ⟨?_, ?_, ?_⟩ <;> (rw [srS_ne (by omega)]; assumption)
theorem en_srS {f : aH} {tp c s a : Nat} {v : qV} {b : Nat} {g : eV} (h : enP f b g) (hd : b + 6 < a ∨ a + 1 < b) : enP (srS tp c s f a v) b g := by
  obtain ⟨h0, h1, h2, h3, h4, h5, h6⟩ := h
  refine ⟨?_, ?_, ?_, ?_, ?_, ?_, ?_⟩ <;> (rw [srS_ne (by omega)]; assumption)
theorem oP_enS {f : aH} {b x : Nat} {u : tS} {w : eV} (h : oP f b u) (hd : b + 1 < x ∨ x + 6 < b) : oP (enS f x w) b u := ⟨⟨(enS_ne (by omega)).trans h.1.1, (enS_ne (by omega)).trans h.1.2⟩, h.2⟩
theorem oP_srS {f : aH} {tp c s a : Nat} {v : qV} {b : Nat} {u : tS} (h : oP f b u) (hd : b + 1 < a ∨ a + 1 < b) : oP (srS tp c s f a v) b u := ⟨⟨(srS_ne (by omega)).trans h.1.1, (srS_ne (by omega)).trans h.1.2⟩, h.2⟩
theorem oP_nmS {f : aH} {b x L : Nat} {u : tS} {w : nV} (h : oP f b u) (hd : b + 1 < x ∨ x + 2 < b) : oP (nmS L f x w) b u := ⟨⟨(nmS_ne (by omega)).trans h.1.1, (nmS_ne (by omega)).trans h.1.2⟩, h.2⟩
def qFail (v : qV) (n p : Nat) : qV := uFp (uFa v n) p
def qE (v : qV) : Nat := (qEn v).toNatClampNeg
def qLnE (u : tS) (v : qV) : Int32 := tFind u.2.1 (nI 10) (u.1 - qNx v) (qNx v)
def qLine (u : tS) (v : qV) : Bool × qV := if qLnE u v = -1 then (false, qFail (uEn (uBg v (qNx v)) (qLnE u v)) 1 u.1) else (true, uNx (uEn (uBg v (qNx v)) (qLnE u v)) ((qLnE u v).toNatClampNeg + 1))
theorem tFind_r {g : Nat → Int32} {x : Int32} : ∀ (d i : Nat), ¬ tFind g x d i = -1 → ∃ q : Nat, i ≤ q ∧ q < i + d ∧ tFind g x d i = nI q := by
  intro d
  induction d with
  | zero => intro i h; exact absurd rfl h
  | succ d ih =>
    intro i h
    unfold tFind at h ⊢
    split at h
    · rename_i hc
      rw [if_pos hc]
      exact ⟨i, by omega, by omega, rfl⟩
    · rename_i hc
      rw [if_neg hc]
      obtain ⟨q, h1, h2, h3⟩ := ih (i + 1) h
      exact ⟨q, by omega, by omega, h3⟩
/-- a line has been found -/
def qL (u : tS) (v : qV) : Prop := qEn v = nI (qE v) ∧ qBg v ≤ qE v ∧ qE v < u.1
theorem qLine_L {u : tS} {v : qV} (hu : u.1 ≤ 8000) (h : (qLine u v).1 = true) : qL u (qLine u v).2 ∧ qNx (qLine u v).2 = qE (qLine u v).2 + 1 ∧ qBg (qLine u v).2 = qNx v ∧ qSt (qLine u v).2 = qSt v ∧ qCm (qLine u v).2 = qCm v := by
  unfold qLine at h ⊢
  split at h
  · cases h
  · rename_i hc
    rw [if_neg hc]
    obtain ⟨q, h1, h2, h3⟩ := tFind_r _ _ hc
    have h4 : qLnE u v = nI q := h3
    rw [h4]
    have h5 : (nI q).toNatClampNeg = q := nI_clamp (by omega)
    refine ⟨⟨?_, ?_, ?_⟩, ?_, rfl, rfl, rfl⟩
    · show nI q = nI (nI q).toNatClampNeg
      rw [h5]
    · show qNx v ≤ (nI q).toNatClampNeg
      rw [h5]; exact h1
    · show (nI q).toNatClampNeg < u.1
      rw [h5]; omega
    · show (nI q).toNatClampNeg + 1 = (nI q).toNatClampNeg + 1
      rfl
theorem qLine_k {u : tS} {v : qV} : qSt (qLine u v).2 = qSt v ∧ qCm (qLine u v).2 = qCm v := by
  unfold qLine
  split <;> exact ⟨rfl, rfl⟩
def qFst (u : tS) (v : qV) : Bool × qV := if (qLine u v).1 = true then (if tIs u (qBg (qLine u v).2) (qE (qLine u v).2) tx3 = true then (true, (qLine u v).2) else (false, qFail (qLine u v).2 2 (qBg (qLine u v).2))) else (false, (qLine u v).2)
def qCutS (u : tS) (e k : Nat) (x : (Nat → Nat) × Nat × Nat) : (Nat → Nat) × Nat × Nat := if k = e ∨ ocAt u.1 u.2.1 (nI k) = nI 9 then (if x.2.2 < 12 then va_up (va_up x.1 x.2.2 x.2.1) (x.2.2 + 1) (k + 1) else x.1, k + 1, x.2.2 + 1) else x
def qCutL (u : tS) (e : Nat) : Nat → Nat → (Nat → Nat) × Nat × Nat → (Nat → Nat) × Nat × Nat
  | 0, _, x => x
  | d + 1, k, x => qCutL u e d (k + 1) (qCutS u e k x)
def qCutX (u : tS) (v : qV) : (Nat → Nat) × Nat × Nat := qCutL u (qE v) (qE v + 1 - qBg v) (qBg v) (qSt v, qBg v, 0)
def qCut (u : tS) (v : qV) : qV := uCm (uSt v (qCutX u v).1) (qCutX u v).2.2

set_option maxRecDepth 100000 in
set_option maxHeartbeats 4000000 in
/-- SheetReader() -/
theorem sX8_init {E : eN} (hE : eOk E) {f : aH} {t : Nat} {a tp c s : Nat} (h : f a = .inr (8, [.null, .null, .null, .null, .int 0, .int 0, .int 0, .int 0, .int 0, .int 0])) (ht : t = a + 1) : mT E mX8_init 1 13 [.ref a, .ref tp, .ref c, .ref s] f t (fun o f' t' => o = .inl none ∧ t' = t + 1 ∧ f' = srS tp c s f a ((fun _ => 0), 0, nI 0, 0, 0, 0, 0)) := by
  refine mT_of (n := 0) (lo := [some (.ref a), some (.ref tp), some (.ref c), some (.ref s)]) (by decide) (by exact Nat.le_of_ble_eq_true rfl) rfl rfl ?_
  refine v_aload_n dX8_init_0 rfl (by rfl) ?_
  refine v_oinit hE dX8_init_1 oX8_3 (by decide) (by exact Nat.le_of_ble_eq_true rfl) ?_
  refine v_aload_n dX8_init_4 rfl (by rfl) ?_
  refine v_aload_n dX8_init_5 rfl (by rfl) ?_
  refine v_putF hE dX8_init_6 fX8_9 (by rfl) (by rfl) (by repeat (first | assumption | exact va_up_self _ _ _ | refine (va_up_ne _ _ (by omega)).trans ?_)) (by exact Nat.le_of_ble_eq_true rfl) (by rfl) (by rfl) (by rfl) ?_
  refine v_aload_n dX8_init_9 rfl (by rfl) ?_
  refine v_aload_n dX8_init_10 rfl (by rfl) ?_
  refine v_putF hE dX8_init_11 fX8_15 (by rfl) (by rfl) (by repeat (first | assumption | exact va_up_self _ _ _ | refine (va_up_ne _ _ (by omega)).trans ?_)) (by exact Nat.le_of_ble_eq_true rfl) (by rfl) (by rfl) (by rfl) ?_
  refine v_aload_n dX8_init_14 rfl (by rfl) ?_
  refine v_aload_n dX8_init_15 rfl (by rfl) ?_
  refine v_putF hE dX8_init_16 fX8_19 (by rfl) (by rfl) (by repeat (first | assumption | exact va_up_self _ _ _ | refine (va_up_ne _ _ (by omega)).trans ?_)) (by exact Nat.le_of_ble_eq_true rfl) (by rfl) (by rfl) (by rfl) ?_
  refine v_aload_n dX8_init_19 rfl (by rfl) ?_
  refine v_bipush (v := nI 13) dX8_init_20 (by decide) ?_
  refine v_newI hE dX8_init_22 (by omega) (by omega) (by omega) ?_
  refine v_putF hE dX8_init_24 fX8_23 (by rfl) (by rfl) (by repeat (first | assumption | exact va_up_self _ _ _ | refine (va_up_ne _ _ (by omega)).trans ?_)) (by exact Nat.le_of_ble_eq_true rfl) (by rfl) (by rfl) (by rfl) ?_
  refine v_ret dX8_init_27 rfl ?_
  refine ⟨rfl, rfl, ?_⟩
  subst ht
  exact srS_ext (va_up_self _ _ _) ((by repeat (first | assumption | exact va_up_self _ _ _ | refine (va_up_ne _ _ (by omega)).trans ?_))) (fun b hb => by simp only [va_up]; (repeat rw [if_neg (by omega)]))

set_option maxRecDepth 100000 in
set_option maxHeartbeats 4000000 in
/-- SheetReader.fail -/
theorem sX8_fail {E : eN} (hE : eOk E) {f : aH} {t : Nat} {a tp c s : Nat} {v : qV} {n p : Nat} (h : srP tp c s f a v) : mT E mX8_fail 0 0 [.ref a, .int (nI n), .int (nI p)] f t (fun o f' t' => o = .inl (some (.int (bI false))) ∧ t' = t ∧ f' = srS tp c s f a (qFail v n p)) := by
  refine mT_of (n := 0) (lo := [some (.ref a), some (.int (nI n)), some (.int (nI p))]) (by decide) (by exact Nat.le_of_ble_eq_true rfl) rfl rfl ?_
  obtain ⟨h0, h1⟩ := id h
  refine v_aload_n dX8_fail_0 rfl (by rfl) ?_
  refine v_iload_n dX8_fail_1 rfl (by rfl) ?_
  refine v_putf hE dX8_fail_2 fX8_76 (by repeat (first | assumption | exact va_up_self _ _ _ | refine (va_up_ne _ _ (by omega)).trans ?_)) (by exact Nat.le_of_ble_eq_true rfl) (by rfl) (by rfl) (by rfl) ?_
  refine v_aload_n dX8_fail_5 rfl (by rfl) ?_
  refine v_iload_n dX8_fail_6 rfl (by rfl) ?_
  refine v_putf hE dX8_fail_7 fX8_79 (by repeat (first | assumption | exact va_up_self _ _ _ | refine (va_up_ne _ _ (by omega)).trans ?_)) (by exact Nat.le_of_ble_eq_true rfl) (by rfl) (by rfl) (by rfl) ?_
  refine v_iconst (v := nI 0) dX8_fail_10 (by decide) ?_
  refine v_iret dX8_fail_11 rfl (by first | rfl | exact nar_bI) ?_
  exact ⟨rfl, rfl, srS_ext (by repeat (first | assumption | exact va_up_self _ _ _ | refine (va_up_ne _ _ (by omega)).trans ?_)) (by repeat (first | assumption | exact va_up_self _ _ _ | refine (va_up_ne _ _ (by omega)).trans ?_)) (fun b hb => by simp only [va_up]; (repeat rw [if_neg (by omega)]))⟩

set_option maxRecDepth 100000 in
set_option maxHeartbeats 4000000 in
/-- SheetReader.takeLine -/
theorem sX8_takeLine {E : eN} (hE : eOk E) {f : aH} {t : Nat} {a tp c s : Nat} {v : qV} {u : tS} (h : srP tp c s f a v) (hu : oP f tp u) (dt : tp + 1 < a ∨ a + 1 < tp) (hn : qNx v ≤ 8001) : mT E mX8_takeLine 0 0 [.ref a] f t (fun o f' t' => o = .inl (some (.int (bI (qLine u v).1))) ∧ t' = t ∧ f' = srS tp c s f a (qLine u v).2) := by
  refine mT_of (n := 0) (lo := [some (.ref a)]) (by decide) (by exact Nat.le_of_ble_eq_true rfl) rfl rfl ?_
  obtain ⟨h0, h1⟩ := id h
  obtain ⟨⟨u0, u1⟩, u2⟩ := id hu
  refine v_aload_n dX8_takeLine_0 rfl (by rfl) ?_
  refine v_aload_n dX8_takeLine_1 rfl (by rfl) ?_
  refine v_getf hE dX8_takeLine_2 fX8_43 (by repeat (first | assumption | exact va_up_self _ _ _ | refine (va_up_ne _ _ (by omega)).trans ?_)) (by rfl) ?_
  refine v_putf hE dX8_takeLine_5 fX8_54 (by repeat (first | assumption | exact va_up_self _ _ _ | refine (va_up_ne _ _ (by omega)).trans ?_)) (by exact Nat.le_of_ble_eq_true rfl) (by rfl) (by rfl) (by rfl) ?_
  refine v_aload_n dX8_takeLine_8 rfl (by rfl) ?_
  refine v_aload_n dX8_takeLine_9 rfl (by rfl) ?_
  refine v_getf hE dX8_takeLine_10 fX8_9 (by repeat (first | assumption | exact va_up_self _ _ _ | refine (va_up_ne _ _ (by omega)).trans ?_)) (by rfl) ?_
  refine v_bipush (v := nI 10) dX8_takeLine_13 (by decide) ?_
  refine v_aload_n dX8_takeLine_15 rfl (by rfl) ?_
  refine v_getf hE dX8_takeLine_16 fX8_54 (by repeat (first | assumption | exact va_up_self _ _ _ | refine (va_up_ne _ _ (by omega)).trans ?_)) (by rfl) ?_
  refine w_callV hE dX8_takeLine_19 kX8_82 (by repeat (first | assumption | exact va_up_self _ _ _ | refine (va_up_ne _ _ (by omega)).trans ?_)) (by rfl) (by rfl) (sX6_find hE (a := tp) ⟨⟨(va_up_ne _ _ (by omega)).trans u0, (va_up_ne _ _ (by omega)).trans u1⟩, u2⟩ (by omega)) rfl (by decide) (by decide) (by exact Nat.le_of_ble_eq_true rfl) (by omega) (by omega) (fun v9 g9 u9 h9 => ?_) (fun _ _ _ h => by cases h.1)
  obtain ⟨hv9, hu9, hg9⟩ := h9
  replace hu9 := hu9.symm
  replace hg9 := hg9.symm
  subst hu9
  subst hg9
  cases hv9
  refine v_putf hE dX8_takeLine_22 fX8_86 (by repeat (first | assumption | exact va_up_self _ _ _ | refine (va_up_ne _ _ (by omega)).trans ?_)) (by exact Nat.le_of_ble_eq_true rfl) (by rfl) (by rfl) (by rfl) ?_
  refine v_hp (show _ = srS tp c s f a (uEn (uBg v (qNx v)) (qLnE u v)) from srS_ext (by repeat (first | assumption | exact va_up_self _ _ _ | refine (va_up_ne _ _ (by omega)).trans ?_)) (by repeat (first | assumption | exact va_up_self _ _ _ | refine (va_up_ne _ _ (by omega)).trans ?_)) (fun b hb => by simp only [va_up]; (repeat rw [if_neg (by omega)]))) ?_
  obtain ⟨h2, h3⟩ := srP_S tp c s f a (uEn (uBg v (qNx v)) (qLnE u v))
  dsimp only [qSt, qBg, qEn, qNx, qCm, qFa, qFp] at h2 h3
  have hu2 := oP_srS (v := (uEn (uBg v (qNx v)) (qLnE u v))) (c := c) (s := s) (tp := tp) hu dt
  obtain ⟨⟨w0, w1⟩, w2⟩ := id hu2
  refine v_aload_n dX8_takeLine_25 rfl (by rfl) ?_
  refine v_getf hE dX8_takeLine_26 fX8_86 (by repeat (first | assumption | exact va_up_self _ _ _ | refine (va_up_ne _ _ (by omega)).trans ?_)) (by rfl) ?_
  refine v_iconst (v := (-1)) dX8_takeLine_29 (by decide) ?_
  refine v_icmp_ne (tgt := 46) dX8_takeLine_30 (by decide) (fun c30 => ?_) (fun c30 => ?_)
  · obtain ⟨q, e1, e2, e3⟩ := tFind_r _ _ (show ¬ qLnE u v = -1 from c30)
    have e4 : qLnE u v = nI q := e3
    have e5 : (nI q).toNatClampNeg = q := nI_clamp (by omega)
    refine v_aload_n dX8_takeLine_46 rfl (by rfl) ?_
    refine v_aload_n dX8_takeLine_47 rfl (by rfl) ?_
    refine v_getf hE dX8_takeLine_48 fX8_86 (by repeat (first | assumption | exact va_up_self _ _ _ | refine (va_up_ne _ _ (by omega)).trans ?_)) (by rfl) ?_
    refine v_eqi (y := nI q) e4 ?_
    refine v_iconst (v := nI 1) dX8_takeLine_51 (by decide) ?_
    refine v_iaddN dX8_takeLine_52 ?_
    refine v_putf hE dX8_takeLine_53 fX8_43 (by repeat (first | assumption | exact va_up_self _ _ _ | refine (va_up_ne _ _ (by omega)).trans ?_)) (by exact Nat.le_of_ble_eq_true rfl) (by rfl) (by rfl) (by rfl) ?_
    refine v_iconst (v := nI 1) dX8_takeLine_56 (by decide) ?_
    refine v_iret dX8_takeLine_57 rfl (by first | rfl | exact nar_bI) ?_
    unfold qLine
    first
      | (rw [if_pos (show qLnE u v = -1 from c30)]; exact ⟨rfl, rfl, rfl⟩)
      | (rw [if_neg (show ¬ qLnE u v = -1 from c30)]; refine ⟨rfl, rfl, ?_⟩; refine srS_ext ?_ (by repeat (first | assumption | exact va_up_self _ _ _ | refine (va_up_ne _ _ (by omega)).trans ?_)) (fun b hb => (va_up_ne _ _ (by omega)).trans (srS_ne hb)); rw [va_up_self]; rw [e4, e5]; rfl)
  · refine v_aload_n dX8_takeLine_33 rfl (by rfl) ?_
    refine v_iconst (v := nI 1) dX8_takeLine_34 (by decide) ?_
    refine v_aload_n dX8_takeLine_35 rfl (by rfl) ?_
    refine v_getf hE dX8_takeLine_36 fX8_9 (by repeat (first | assumption | exact va_up_self _ _ _ | refine (va_up_ne _ _ (by omega)).trans ?_)) (by rfl) ?_
    refine v_getf hE dX8_takeLine_39 fX8_46 (by repeat (first | assumption | exact va_up_self _ _ _ | refine (va_up_ne _ _ (by omega)).trans ?_)) (by rfl) ?_
    refine w_callV hE dX8_takeLine_42 kX8_57 (by repeat (first | assumption | exact va_up_self _ _ _ | refine (va_up_ne _ _ (by omega)).trans ?_)) (by rfl) (by rfl) (sX8_fail hE (srP_S tp c s f a (uEn (uBg v (qNx v)) (qLnE u v)))) rfl (by decide) (by decide) (by exact Nat.le_of_ble_eq_true rfl) (by omega) (by omega) (fun v9 g9 u9 h9 => ?_) (fun _ _ _ h => by cases h.1)
    obtain ⟨hv9, hu9, hg9⟩ := h9
    replace hu9 := hu9.symm
    replace hg9 := hg9.symm
    subst hu9
    subst hg9
    cases hv9
    refine v_hp srS_S ?_
    refine v_iret dX8_takeLine_45 rfl (by first | rfl | exact nar_bI) ?_
    unfold qLine
    first
      | (rw [if_pos (show qLnE u v = -1 from c30)]; exact ⟨rfl, rfl, rfl⟩)
      | (rw [if_neg (show ¬ qLnE u v = -1 from c30)]; refine ⟨rfl, rfl, ?_⟩; refine srS_ext ?_ (by repeat (first | assumption | exact va_up_self _ _ _ | refine (va_up_ne _ _ (by omega)).trans ?_)) (fun b hb => (va_up_ne _ _ (by omega)).trans (srS_ne hb)); rw [va_up_self]; rw [e4, e5]; rfl)

set_option maxRecDepth 100000 in
set_option maxHeartbeats 4000000 in
/-- SheetReader.takeFirstLine -/
theorem sX8_takeFirstLine {E : eN} (hE : eOk E) {f : aH} {t : Nat} {a tp c s : Nat} {v : qV} {u : tS} (h : srP tp c s f a v) (hu : oP f tp u) (dt : tp + 1 < a ∨ a + 1 < tp) (hn : qNx v ≤ 8001) (hS : eSt E) : mT E mX8_takeFirstLine 0 0 [.ref a] f t (fun o f' t' => o = .inl (some (.int (bI (qFst u v).1))) ∧ t' = t ∧ f' = srS tp c s f a (qFst u v).2) := by
  refine mT_of (n := 0) (lo := [some (.ref a)]) (by decide) (by exact Nat.le_of_ble_eq_true rfl) rfl rfl ?_
  obtain ⟨h0, h1⟩ := id h
  obtain ⟨⟨u0, u1⟩, u2⟩ := id hu
  refine v_aload_n dX8_takeFirstLine_0 rfl (by rfl) ?_
  refine w_callV hE dX8_takeFirstLine_1 kX8_51 (by repeat (first | assumption | exact va_up_self _ _ _ | refine (va_up_ne _ _ (by omega)).trans ?_)) (by rfl) (by rfl) (sX8_takeLine hE h hu dt hn) rfl (by decide) (by decide) (by exact Nat.le_of_ble_eq_true rfl) (by omega) (by omega) (fun v9 g9 u9 h9 => ?_) (fun _ _ _ h => by cases h.1)
  obtain ⟨hv9, hu9, hg9⟩ := h9
  replace hu9 := hu9.symm
  replace hg9 := hg9.symm
  subst hu9
  subst hg9
  cases hv9
  obtain ⟨h2, h3⟩ := srP_S tp c s f a (qLine u v).2
  have hu2 := oP_srS (v := (qLine u v).2) (c := c) (s := s) (tp := tp) hu dt
  refine v_if_eqB (tgt := 43) dX8_takeFirstLine_4 (by decide) (fun c4 => ?_) (fun c4 => ?_)
  · refine v_iconst (v := nI 0) dX8_takeFirstLine_43 (by decide) ?_
    refine v_iret dX8_takeFirstLine_44 rfl (by first | rfl | exact nar_bI) ?_
    unfold qFst
    first
      | (rw [if_pos c4, if_pos c24]; exact ⟨rfl, rfl, rfl⟩)
      | (rw [if_pos c4, if_neg (by rw [c24]; decide)]; exact ⟨rfl, rfl, rfl⟩)
      | (rw [if_neg (by rw [c4]; decide)]; exact ⟨rfl, rfl, rfl⟩)
  · obtain ⟨⟨k1, k2, k3⟩, k4, k5, k6, k7⟩ := qLine_L u2 c4
    refine v_aload_n dX8_takeFirstLine_7 rfl (by rfl) ?_
    refine v_getf hE dX8_takeFirstLine_8 fX8_9 (by repeat (first | assumption | exact va_up_self _ _ _ | refine (va_up_ne _ _ (by omega)).trans ?_)) (by rfl) ?_
    refine v_aload_n dX8_takeFirstLine_11 rfl (by rfl) ?_
    refine v_getf hE dX8_takeFirstLine_12 fX8_54 (by repeat (first | assumption | exact va_up_self _ _ _ | refine (va_up_ne _ _ (by omega)).trans ?_)) (by rfl) ?_
    refine v_aload_n dX8_takeFirstLine_15 rfl (by rfl) ?_
    refine v_getf hE dX8_takeFirstLine_16 fX8_86 (by repeat (first | assumption | exact va_up_self _ _ _ | refine (va_up_ne _ _ (by omega)).trans ?_)) (by rfl) ?_
    refine v_eqi (y := nI (qE (qLine u v).2)) k1 ?_
    refine v_ldcS hS (r := (RX8, 89, "##fileformat=VCFv4.3", tx3)) dX8_takeFirstLine_19 (by unfold strTab; repeat (first | exact List.Mem.head _ | apply List.Mem.tail)) rfl rfl (fun q19 hq19 => ?_)
    refine w_callV hE dX8_takeFirstLine_21 kX8_91 (by repeat (first | assumption | exact va_up_self _ _ _ | refine (va_up_ne _ _ (by omega)).trans ?_)) (by rfl) (by rfl) (sX6_isText hE hu2 hS hq19 (by decide) (by decide) k2 (by omega)) rfl (by decide) (by decide) (by exact Nat.le_of_ble_eq_true rfl) (by omega) (by omega) (fun v9 g9 u9 h9 => ?_) (fun _ _ _ h => by cases h.1)
    obtain ⟨hv9, hu9, hg9⟩ := h9
    replace hu9 := hu9.symm
    replace hg9 := hg9.symm
    subst hu9
    subst hg9
    cases hv9
    refine v_if_neB (tgt := 39) dX8_takeFirstLine_24 (by decide) (fun c24 => ?_) (fun c24 => ?_)
    · refine v_iconst (v := nI 1) dX8_takeFirstLine_39 (by decide) ?_
      refine v_goto (tgt := 44) dX8_takeFirstLine_40 (by decide) ?_
      refine v_iret dX8_takeFirstLine_44 rfl (by first | rfl | exact nar_bI) ?_
      unfold qFst
      first
        | (rw [if_pos c4, if_pos c24]; exact ⟨rfl, rfl, rfl⟩)
        | (rw [if_pos c4, if_neg (by rw [c24]; decide)]; exact ⟨rfl, rfl, rfl⟩)
        | (rw [if_neg (by rw [c4]; decide)]; exact ⟨rfl, rfl, rfl⟩)
    · refine v_aload_n dX8_takeFirstLine_27 rfl (by rfl) ?_
      refine v_iconst (v := nI 2) dX8_takeFirstLine_28 (by decide) ?_
      refine v_aload_n dX8_takeFirstLine_29 rfl (by rfl) ?_
      refine v_getf hE dX8_takeFirstLine_30 fX8_54 (by repeat (first | assumption | exact va_up_self _ _ _ | refine (va_up_ne _ _ (by omega)).trans ?_)) (by rfl) ?_
      refine w_callV hE dX8_takeFirstLine_33 kX8_57 (by repeat (first | assumption | exact va_up_self _ _ _ | refine (va_up_ne _ _ (by omega)).trans ?_)) (by rfl) (by rfl) (sX8_fail hE (srP_S tp c s f a (qLine u v).2)) rfl (by decide) (by decide) (by exact Nat.le_of_ble_eq_true rfl) (by omega) (by omega) (fun v9 g9 u9 h9 => ?_) (fun _ _ _ h => by cases h.1)
      obtain ⟨hv9, hu9, hg9⟩ := h9
      replace hu9 := hu9.symm
      replace hg9 := hg9.symm
      subst hu9
      subst hg9
      cases hv9
      refine v_hp srS_S ?_
      refine v_if_eqB (tgt := 43) dX8_takeFirstLine_36 (by decide) (fun c36 => ?_) (fun c36 => ?_)
      · refine v_iconst (v := nI 0) dX8_takeFirstLine_43 (by decide) ?_
        refine v_iret dX8_takeFirstLine_44 rfl (by first | rfl | exact nar_bI) ?_
        unfold qFst
        first
          | (rw [if_pos c4, if_pos c24]; exact ⟨rfl, rfl, rfl⟩)
          | (rw [if_pos c4, if_neg (by rw [c24]; decide)]; exact ⟨rfl, rfl, rfl⟩)
          | (rw [if_neg (by rw [c4]; decide)]; exact ⟨rfl, rfl, rfl⟩)
      · exact absurd c36 (by decide)

set_option maxRecDepth 100000 in
set_option maxHeartbeats 4000000 in
/-- SheetReader.cutColumns -/
theorem sX8_cutColumns {E : eN} (hE : eOk E) {f : aH} {t : Nat} {a tp c s : Nat} {v : qV} {u : tS} (h : srP tp c s f a v) (hu : oP f tp u) (dt : tp + 1 < a ∨ a + 1 < tp) (hL : qL u v) : mT E mX8_cutColumns 0 0 [.ref a] f t (fun o f' t' => o = .inl none ∧ t' = t ∧ f' = srS tp c s f a (qCut u v)) := by
  refine mT_of (n := 2) (lo := [some (.ref a), none, none]) (by decide) (by exact Nat.le_of_ble_eq_true rfl) rfl rfl ?_
  have hL2 := hL.2.1
  have hL3 := hL.2.2
  have hu8 := hu.2
  obtain ⟨h0, h1⟩ := id h
  have lp : ∀ (d : Nat) (k : Nat) (x : (Nat → Nat) × Nat × Nat), k + d = qE v + 1 → x.2.2 ≤ k → qCutX u v = qCutL u (qE v) (qE v + 1 - k) k x → V E mX8_cutColumns 0 0 (fun o f' t' => o = .inl none ∧ t' = t ∧ f' = srS tp c s f a (qCut u v)) 15 [some (.ref a), some (.int (nI x.2.1)), some (.int (nI k))] [] (srS tp c s f a (uCm (uSt v x.1) x.2.2)) t 0 0 := by
    intro d
    induction d using Nat.strongRecOn with
    | _ d ih =>
    intro k x hk hx he
    have hz := srP_S tp c s f a (uCm (uSt v x.1) x.2.2)
    obtain ⟨h0, h1⟩ := id hz
    dsimp only [qSt, qBg, qEn, qNx, qCm, qFa, qFp] at h0 h1
    have hu2 := oP_srS (v := (uCm (uSt v x.1) x.2.2)) (c := c) (s := s) (tp := tp) hu dt
    obtain ⟨⟨u0, u1⟩, u2⟩ := id hu
    refine v_iload_n dX8_cutColumns_15 rfl (by rfl) ?_
    refine v_aload_n dX8_cutColumns_16 rfl (by rfl) ?_
    refine v_getf hE dX8_cutColumns_17 fX8_86 (by repeat (first | assumption | exact va_up_self _ _ _ | refine (va_up_ne _ _ (by omega)).trans ?_)) (by rfl) ?_
    refine v_eqi (y := nI (qE v)) hL.1 ?_
    refine v_icmp_gtN (tgt := 97) dX8_cutColumns_20 (by decide) (by omega) (by omega) (fun c20 => ?_) (fun c20 => ?_)
    · refine v_ret dX8_cutColumns_97 rfl ?_
      refine ⟨rfl, rfl, ?_⟩
      unfold qCut
      rw [show qCutX u v = x from he.trans (by rw [show qE v + 1 - k = 0 by omega]; rfl)]
    · refine v_iload_n dX8_cutColumns_23 rfl (by rfl) ?_
      refine v_aload_n dX8_cutColumns_24 rfl (by rfl) ?_
      refine v_getf hE dX8_cutColumns_25 fX8_86 (by repeat (first | assumption | exact va_up_self _ _ _ | refine (va_up_ne _ _ (by omega)).trans ?_)) (by rfl) ?_
      refine v_eqi (y := nI (qE v)) hL.1 ?_
      refine v_icmp_eqN (tgt := 44) dX8_cutColumns_28 (by decide) (by omega) (by omega) (fun c28 => ?_) (fun c28 => ?_)
      · refine v_aload_n dX8_cutColumns_44 rfl (by rfl) ?_
        refine v_getf hE dX8_cutColumns_45 fX8_39 (by repeat (first | assumption | exact va_up_self _ _ _ | refine (va_up_ne _ _ (by omega)).trans ?_)) (by rfl) ?_
        refine v_bipush (v := nI 12) dX8_cutColumns_48 (by decide) ?_
        refine v_icmp_geN (tgt := 77) dX8_cutColumns_50 (by decide) (by omega) (by omega) (fun c50 => ?_) (fun c50 => ?_)
        · first | rw [upd_nI, upd_nI] | skip
          refine v_iload_n dX8_cutColumns_77 rfl (by rfl) ?_
          refine v_iconst (v := nI 1) dX8_cutColumns_78 (by decide) ?_
          refine v_iaddN dX8_cutColumns_79 ?_
          refine v_istore_n dX8_cutColumns_80 rfl (by decide) ?_
          refine v_aload_n dX8_cutColumns_81 rfl (by rfl) ?_
          refine v_dup dX8_cutColumns_82 rfl ?_
          refine v_getf hE dX8_cutColumns_83 fX8_39 (by repeat (first | assumption | exact va_up_self _ _ _ | refine (va_up_ne _ _ (by omega)).trans ?_)) (by rfl) ?_
          refine v_iconst (v := nI 1) dX8_cutColumns_86 (by decide) ?_
          refine v_iaddN dX8_cutColumns_87 ?_
          refine v_putf hE dX8_cutColumns_88 fX8_39 (by repeat (first | assumption | exact va_up_self _ _ _ | refine (va_up_ne _ _ (by omega)).trans ?_)) (by exact Nat.le_of_ble_eq_true rfl) (by rfl) (by rfl) (by rfl) ?_
          refine v_iincN (y := 1) dX8_cutColumns_91 (by rfl) (by decide) (by decide) ?_
          refine v_goto (tgt := 15) dX8_cutColumns_94 (by decide) ?_
          first
            | (have hz2 : qCutS u (qE v) k x = x := if_neg (fun z => z.elim c28 c41)
               exact ih (d - 1) (by omega) (k + 1) x (by omega) (by omega) (he.trans (by rw [show qE v + 1 - k = (qE v + 1 - (k + 1)) + 1 by omega]; show qCutL _ _ _ _ (qCutS _ _ _ _) = _; rw [hz2])))
            | (have hz2 : qCutS u (qE v) k x = (va_up (va_up x.1 x.2.2 x.2.1) (x.2.2 + 1) (k + 1), k + 1, x.2.2 + 1) := (if_pos (by first | exact Or.inl c28 | exact Or.inr c41)).trans (by rw [if_pos (by omega)])
               refine v_hp (show _ = srS tp c s f a (uCm (uSt v (va_up (va_up x.1 x.2.2 x.2.1) (x.2.2 + 1) (k + 1))) (x.2.2 + 1)) from srS_ext (by repeat (first | assumption | exact va_up_self _ _ _ | refine (va_up_ne _ _ (by omega)).trans ?_)) (by repeat (first | assumption | exact va_up_self _ _ _ | refine (va_up_ne _ _ (by omega)).trans ?_)) (fun b hb => by simp only [va_up]; (repeat rw [if_neg (by omega)]); exact srS_ne hb)) ?_
               exact ih (d - 1) (by omega) (k + 1) (va_up (va_up x.1 x.2.2 x.2.1) (x.2.2 + 1) (k + 1), k + 1, x.2.2 + 1) (by omega) (by show x.2.2 + 1 ≤ k + 1; omega) (he.trans (by rw [show qE v + 1 - k = (qE v + 1 - (k + 1)) + 1 by omega]; show qCutL _ _ _ _ (qCutS _ _ _ _) = _; rw [hz2])))
            | (have hz2 : qCutS u (qE v) k x = (x.1, k + 1, x.2.2 + 1) := (if_pos (by first | exact Or.inl c28 | exact Or.inr c41)).trans (by rw [if_neg (by omega)])
               refine v_hp (show _ = srS tp c s f a (uCm (uSt v x.1) (x.2.2 + 1)) from srS_ext (by repeat (first | assumption | exact va_up_self _ _ _ | refine (va_up_ne _ _ (by omega)).trans ?_)) (by repeat (first | assumption | exact va_up_self _ _ _ | refine (va_up_ne _ _ (by omega)).trans ?_)) (fun b hb => by simp only [va_up]; (repeat rw [if_neg (by omega)]); exact srS_ne hb)) ?_
               exact ih (d - 1) (by omega) (k + 1) (x.1, k + 1, x.2.2 + 1) (by omega) (by show x.2.2 + 1 ≤ k + 1; omega) (he.trans (by rw [show qE v + 1 - k = (qE v + 1 - (k + 1)) + 1 by omega]; show qCutL _ _ _ _ (qCutS _ _ _ _) = _; rw [hz2])))
        · refine v_aload_n dX8_cutColumns_53 rfl (by rfl) ?_
          refine v_getf hE dX8_cutColumns_54 fX8_23 (by repeat (first | assumption | exact va_up_self _ _ _ | refine (va_up_ne _ _ (by omega)).trans ?_)) (by rfl) ?_
          refine v_aload_n dX8_cutColumns_57 rfl (by rfl) ?_
          refine v_getf hE dX8_cutColumns_58 fX8_39 (by repeat (first | assumption | exact va_up_self _ _ _ | refine (va_up_ne _ _ (by omega)).trans ?_)) (by rfl) ?_
          refine v_iload_n dX8_cutColumns_61 rfl (by rfl) ?_
          refine v_iast hE dX8_cutColumns_62 (by repeat (first | assumption | exact va_up_self _ _ _ | refine (va_up_ne _ _ (by omega)).trans ?_)) (by omega) (by omega) ?_
          refine v_aload_n dX8_cutColumns_63 rfl (by rfl) ?_
          refine v_getf hE dX8_cutColumns_64 fX8_23 (by repeat (first | assumption | exact va_up_self _ _ _ | refine (va_up_ne _ _ (by omega)).trans ?_)) (by rfl) ?_
          refine v_aload_n dX8_cutColumns_67 rfl (by rfl) ?_
          refine v_getf hE dX8_cutColumns_68 fX8_39 (by repeat (first | assumption | exact va_up_self _ _ _ | refine (va_up_ne _ _ (by omega)).trans ?_)) (by rfl) ?_
          refine v_iconst (v := nI 1) dX8_cutColumns_71 (by decide) ?_
          refine v_iaddN dX8_cutColumns_72 ?_
          refine v_iload_n dX8_cutColumns_73 rfl (by rfl) ?_
          refine v_iconst (v := nI 1) dX8_cutColumns_74 (by decide) ?_
          refine v_iaddN dX8_cutColumns_75 ?_
          refine v_iast hE dX8_cutColumns_76 (by repeat (first | assumption | exact va_up_self _ _ _ | refine (va_up_ne _ _ (by omega)).trans ?_)) (by omega) (by omega) ?_
          first | rw [upd_nI, upd_nI] | skip
          refine v_iload_n dX8_cutColumns_77 rfl (by rfl) ?_
          refine v_iconst (v := nI 1) dX8_cutColumns_78 (by decide) ?_
          refine v_iaddN dX8_cutColumns_79 ?_
          refine v_istore_n dX8_cutColumns_80 rfl (by decide) ?_
          refine v_aload_n dX8_cutColumns_81 rfl (by rfl) ?_
          refine v_dup dX8_cutColumns_82 rfl ?_
          refine v_getf hE dX8_cutColumns_83 fX8_39 (by repeat (first | assumption | exact va_up_self _ _ _ | refine (va_up_ne _ _ (by omega)).trans ?_)) (by rfl) ?_
          refine v_iconst (v := nI 1) dX8_cutColumns_86 (by decide) ?_
          refine v_iaddN dX8_cutColumns_87 ?_
          refine v_putf hE dX8_cutColumns_88 fX8_39 (by repeat (first | assumption | exact va_up_self _ _ _ | refine (va_up_ne _ _ (by omega)).trans ?_)) (by exact Nat.le_of_ble_eq_true rfl) (by rfl) (by rfl) (by rfl) ?_
          refine v_iincN (y := 1) dX8_cutColumns_91 (by rfl) (by decide) (by decide) ?_
          refine v_goto (tgt := 15) dX8_cutColumns_94 (by decide) ?_
          first
            | (have hz2 : qCutS u (qE v) k x = x := if_neg (fun z => z.elim c28 c41)
               exact ih (d - 1) (by omega) (k + 1) x (by omega) (by omega) (he.trans (by rw [show qE v + 1 - k = (qE v + 1 - (k + 1)) + 1 by omega]; show qCutL _ _ _ _ (qCutS _ _ _ _) = _; rw [hz2])))
            | (have hz2 : qCutS u (qE v) k x = (va_up (va_up x.1 x.2.2 x.2.1) (x.2.2 + 1) (k + 1), k + 1, x.2.2 + 1) := (if_pos (by first | exact Or.inl c28 | exact Or.inr c41)).trans (by rw [if_pos (by omega)])
               refine v_hp (show _ = srS tp c s f a (uCm (uSt v (va_up (va_up x.1 x.2.2 x.2.1) (x.2.2 + 1) (k + 1))) (x.2.2 + 1)) from srS_ext (by repeat (first | assumption | exact va_up_self _ _ _ | refine (va_up_ne _ _ (by omega)).trans ?_)) (by repeat (first | assumption | exact va_up_self _ _ _ | refine (va_up_ne _ _ (by omega)).trans ?_)) (fun b hb => by simp only [va_up]; (repeat rw [if_neg (by omega)]); exact srS_ne hb)) ?_
               exact ih (d - 1) (by omega) (k + 1) (va_up (va_up x.1 x.2.2 x.2.1) (x.2.2 + 1) (k + 1), k + 1, x.2.2 + 1) (by omega) (by show x.2.2 + 1 ≤ k + 1; omega) (he.trans (by rw [show qE v + 1 - k = (qE v + 1 - (k + 1)) + 1 by omega]; show qCutL _ _ _ _ (qCutS _ _ _ _) = _; rw [hz2])))
            | (have hz2 : qCutS u (qE v) k x = (x.1, k + 1, x.2.2 + 1) := (if_pos (by first | exact Or.inl c28 | exact Or.inr c41)).trans (by rw [if_neg (by omega)])
               refine v_hp (show _ = srS tp c s f a (uCm (uSt v x.1) (x.2.2 + 1)) from srS_ext (by repeat (first | assumption | exact va_up_self _ _ _ | refine (va_up_ne _ _ (by omega)).trans ?_)) (by repeat (first | assumption | exact va_up_self _ _ _ | refine (va_up_ne _ _ (by omega)).trans ?_)) (fun b hb => by simp only [va_up]; (repeat rw [if_neg (by omega)]); exact srS_ne hb)) ?_
               exact ih (d - 1) (by omega) (k + 1) (x.1, k + 1, x.2.2 + 1) (by omega) (by show x.2.2 + 1 ≤ k + 1; omega) (he.trans (by rw [show qE v + 1 - k = (qE v + 1 - (k + 1)) + 1 by omega]; show qCutL _ _ _ _ (qCutS _ _ _ _) = _; rw [hz2])))
      · refine v_aload_n dX8_cutColumns_31 rfl (by rfl) ?_
        refine v_getf hE dX8_cutColumns_32 fX8_9 (by repeat (first | assumption | exact va_up_self _ _ _ | refine (va_up_ne _ _ (by omega)).trans ?_)) (by rfl) ?_
        refine v_iload_n dX8_cutColumns_35 rfl (by rfl) ?_
        refine w_callV hE dX8_cutColumns_36 kX8_104 (by repeat (first | assumption | exact va_up_self _ _ _ | refine (va_up_ne _ _ (by omega)).trans ?_)) (by rfl) (by rfl) (sX6_at hE hu2.1 u2) rfl (by decide) (by decide) (by exact Nat.le_of_ble_eq_true rfl) (by omega) (by omega) (fun v9 g9 u9 h9 => ?_) (fun _ _ _ h => by cases h.1)
        obtain ⟨hv9, hu9, hg9⟩ := h9
        replace hu9 := hu9.symm
        replace hg9 := hg9.symm
        subst hu9
        subst hg9
        cases hv9
        refine v_bipush (v := nI 9) dX8_cutColumns_39 (by decide) ?_
        refine v_icmp_ne (tgt := 91) dX8_cutColumns_41 (by decide) (fun c41 => ?_) (fun c41 => ?_)
        · refine v_iincN (y := 1) dX8_cutColumns_91 (by rfl) (by decide) (by decide) ?_
          refine v_goto (tgt := 15) dX8_cutColumns_94 (by decide) ?_
          first
            | (have hz2 : qCutS u (qE v) k x = x := if_neg (fun z => z.elim c28 c41)
               exact ih (d - 1) (by omega) (k + 1) x (by omega) (by omega) (he.trans (by rw [show qE v + 1 - k = (qE v + 1 - (k + 1)) + 1 by omega]; show qCutL _ _ _ _ (qCutS _ _ _ _) = _; rw [hz2])))
            | (have hz2 : qCutS u (qE v) k x = (va_up (va_up x.1 x.2.2 x.2.1) (x.2.2 + 1) (k + 1), k + 1, x.2.2 + 1) := (if_pos (by first | exact Or.inl c28 | exact Or.inr c41)).trans (by rw [if_pos (by omega)])
               refine v_hp (show _ = srS tp c s f a (uCm (uSt v (va_up (va_up x.1 x.2.2 x.2.1) (x.2.2 + 1) (k + 1))) (x.2.2 + 1)) from srS_ext (by repeat (first | assumption | exact va_up_self _ _ _ | refine (va_up_ne _ _ (by omega)).trans ?_)) (by repeat (first | assumption | exact va_up_self _ _ _ | refine (va_up_ne _ _ (by omega)).trans ?_)) (fun b hb => by simp only [va_up]; (repeat rw [if_neg (by omega)]); exact srS_ne hb)) ?_
               exact ih (d - 1) (by omega) (k + 1) (va_up (va_up x.1 x.2.2 x.2.1) (x.2.2 + 1) (k + 1), k + 1, x.2.2 + 1) (by omega) (by show x.2.2 + 1 ≤ k + 1; omega) (he.trans (by rw [show qE v + 1 - k = (qE v + 1 - (k + 1)) + 1 by omega]; show qCutL _ _ _ _ (qCutS _ _ _ _) = _; rw [hz2])))
            | (have hz2 : qCutS u (qE v) k x = (x.1, k + 1, x.2.2 + 1) := (if_pos (by first | exact Or.inl c28 | exact Or.inr c41)).trans (by rw [if_neg (by omega)])
               refine v_hp (show _ = srS tp c s f a (uCm (uSt v x.1) (x.2.2 + 1)) from srS_ext (by repeat (first | assumption | exact va_up_self _ _ _ | refine (va_up_ne _ _ (by omega)).trans ?_)) (by repeat (first | assumption | exact va_up_self _ _ _ | refine (va_up_ne _ _ (by omega)).trans ?_)) (fun b hb => by simp only [va_up]; (repeat rw [if_neg (by omega)]); exact srS_ne hb)) ?_
               exact ih (d - 1) (by omega) (k + 1) (x.1, k + 1, x.2.2 + 1) (by omega) (by show x.2.2 + 1 ≤ k + 1; omega) (he.trans (by rw [show qE v + 1 - k = (qE v + 1 - (k + 1)) + 1 by omega]; show qCutL _ _ _ _ (qCutS _ _ _ _) = _; rw [hz2])))
        · refine v_aload_n dX8_cutColumns_44 rfl (by rfl) ?_
          refine v_getf hE dX8_cutColumns_45 fX8_39 (by repeat (first | assumption | exact va_up_self _ _ _ | refine (va_up_ne _ _ (by omega)).trans ?_)) (by rfl) ?_
          refine v_bipush (v := nI 12) dX8_cutColumns_48 (by decide) ?_
          refine v_icmp_geN (tgt := 77) dX8_cutColumns_50 (by decide) (by omega) (by omega) (fun c50 => ?_) (fun c50 => ?_)
          · first | rw [upd_nI, upd_nI] | skip
            refine v_iload_n dX8_cutColumns_77 rfl (by rfl) ?_
            refine v_iconst (v := nI 1) dX8_cutColumns_78 (by decide) ?_
            refine v_iaddN dX8_cutColumns_79 ?_
            refine v_istore_n dX8_cutColumns_80 rfl (by decide) ?_
            refine v_aload_n dX8_cutColumns_81 rfl (by rfl) ?_
            refine v_dup dX8_cutColumns_82 rfl ?_
            refine v_getf hE dX8_cutColumns_83 fX8_39 (by repeat (first | assumption | exact va_up_self _ _ _ | refine (va_up_ne _ _ (by omega)).trans ?_)) (by rfl) ?_
            refine v_iconst (v := nI 1) dX8_cutColumns_86 (by decide) ?_
            refine v_iaddN dX8_cutColumns_87 ?_
            refine v_putf hE dX8_cutColumns_88 fX8_39 (by repeat (first | assumption | exact va_up_self _ _ _ | refine (va_up_ne _ _ (by omega)).trans ?_)) (by exact Nat.le_of_ble_eq_true rfl) (by rfl) (by rfl) (by rfl) ?_
            refine v_iincN (y := 1) dX8_cutColumns_91 (by rfl) (by decide) (by decide) ?_
            refine v_goto (tgt := 15) dX8_cutColumns_94 (by decide) ?_
            first
              | (have hz2 : qCutS u (qE v) k x = x := if_neg (fun z => z.elim c28 c41)
                 exact ih (d - 1) (by omega) (k + 1) x (by omega) (by omega) (he.trans (by rw [show qE v + 1 - k = (qE v + 1 - (k + 1)) + 1 by omega]; show qCutL _ _ _ _ (qCutS _ _ _ _) = _; rw [hz2])))
              | (have hz2 : qCutS u (qE v) k x = (va_up (va_up x.1 x.2.2 x.2.1) (x.2.2 + 1) (k + 1), k + 1, x.2.2 + 1) := (if_pos (by first | exact Or.inl c28 | exact Or.inr c41)).trans (by rw [if_pos (by omega)])
                 refine v_hp (show _ = srS tp c s f a (uCm (uSt v (va_up (va_up x.1 x.2.2 x.2.1) (x.2.2 + 1) (k + 1))) (x.2.2 + 1)) from srS_ext (by repeat (first | assumption | exact va_up_self _ _ _ | refine (va_up_ne _ _ (by omega)).trans ?_)) (by repeat (first | assumption | exact va_up_self _ _ _ | refine (va_up_ne _ _ (by omega)).trans ?_)) (fun b hb => by simp only [va_up]; (repeat rw [if_neg (by omega)]); exact srS_ne hb)) ?_
                 exact ih (d - 1) (by omega) (k + 1) (va_up (va_up x.1 x.2.2 x.2.1) (x.2.2 + 1) (k + 1), k + 1, x.2.2 + 1) (by omega) (by show x.2.2 + 1 ≤ k + 1; omega) (he.trans (by rw [show qE v + 1 - k = (qE v + 1 - (k + 1)) + 1 by omega]; show qCutL _ _ _ _ (qCutS _ _ _ _) = _; rw [hz2])))
              | (have hz2 : qCutS u (qE v) k x = (x.1, k + 1, x.2.2 + 1) := (if_pos (by first | exact Or.inl c28 | exact Or.inr c41)).trans (by rw [if_neg (by omega)])
                 refine v_hp (show _ = srS tp c s f a (uCm (uSt v x.1) (x.2.2 + 1)) from srS_ext (by repeat (first | assumption | exact va_up_self _ _ _ | refine (va_up_ne _ _ (by omega)).trans ?_)) (by repeat (first | assumption | exact va_up_self _ _ _ | refine (va_up_ne _ _ (by omega)).trans ?_)) (fun b hb => by simp only [va_up]; (repeat rw [if_neg (by omega)]); exact srS_ne hb)) ?_
                 exact ih (d - 1) (by omega) (k + 1) (x.1, k + 1, x.2.2 + 1) (by omega) (by show x.2.2 + 1 ≤ k + 1; omega) (he.trans (by rw [show qE v + 1 - k = (qE v + 1 - (k + 1)) + 1 by omega]; show qCutL _ _ _ _ (qCutS _ _ _ _) = _; rw [hz2])))
          · refine v_aload_n dX8_cutColumns_53 rfl (by rfl) ?_
            refine v_getf hE dX8_cutColumns_54 fX8_23 (by repeat (first | assumption | exact va_up_self _ _ _ | refine (va_up_ne _ _ (by omega)).trans ?_)) (by rfl) ?_
            refine v_aload_n dX8_cutColumns_57 rfl (by rfl) ?_
            refine v_getf hE dX8_cutColumns_58 fX8_39 (by repeat (first | assumption | exact va_up_self _ _ _ | refine (va_up_ne _ _ (by omega)).trans ?_)) (by rfl) ?_
            refine v_iload_n dX8_cutColumns_61 rfl (by rfl) ?_
            refine v_iast hE dX8_cutColumns_62 (by repeat (first | assumption | exact va_up_self _ _ _ | refine (va_up_ne _ _ (by omega)).trans ?_)) (by omega) (by omega) ?_
            refine v_aload_n dX8_cutColumns_63 rfl (by rfl) ?_
            refine v_getf hE dX8_cutColumns_64 fX8_23 (by repeat (first | assumption | exact va_up_self _ _ _ | refine (va_up_ne _ _ (by omega)).trans ?_)) (by rfl) ?_
            refine v_aload_n dX8_cutColumns_67 rfl (by rfl) ?_
            refine v_getf hE dX8_cutColumns_68 fX8_39 (by repeat (first | assumption | exact va_up_self _ _ _ | refine (va_up_ne _ _ (by omega)).trans ?_)) (by rfl) ?_
            refine v_iconst (v := nI 1) dX8_cutColumns_71 (by decide) ?_
            refine v_iaddN dX8_cutColumns_72 ?_
            refine v_iload_n dX8_cutColumns_73 rfl (by rfl) ?_
            refine v_iconst (v := nI 1) dX8_cutColumns_74 (by decide) ?_
            refine v_iaddN dX8_cutColumns_75 ?_
            refine v_iast hE dX8_cutColumns_76 (by repeat (first | assumption | exact va_up_self _ _ _ | refine (va_up_ne _ _ (by omega)).trans ?_)) (by omega) (by omega) ?_
            first | rw [upd_nI, upd_nI] | skip
            refine v_iload_n dX8_cutColumns_77 rfl (by rfl) ?_
            refine v_iconst (v := nI 1) dX8_cutColumns_78 (by decide) ?_
            refine v_iaddN dX8_cutColumns_79 ?_
            refine v_istore_n dX8_cutColumns_80 rfl (by decide) ?_
            refine v_aload_n dX8_cutColumns_81 rfl (by rfl) ?_
            refine v_dup dX8_cutColumns_82 rfl ?_
            refine v_getf hE dX8_cutColumns_83 fX8_39 (by repeat (first | assumption | exact va_up_self _ _ _ | refine (va_up_ne _ _ (by omega)).trans ?_)) (by rfl) ?_
            refine v_iconst (v := nI 1) dX8_cutColumns_86 (by decide) ?_
            refine v_iaddN dX8_cutColumns_87 ?_
            refine v_putf hE dX8_cutColumns_88 fX8_39 (by repeat (first | assumption | exact va_up_self _ _ _ | refine (va_up_ne _ _ (by omega)).trans ?_)) (by exact Nat.le_of_ble_eq_true rfl) (by rfl) (by rfl) (by rfl) ?_
            refine v_iincN (y := 1) dX8_cutColumns_91 (by rfl) (by decide) (by decide) ?_
            refine v_goto (tgt := 15) dX8_cutColumns_94 (by decide) ?_
            first
              | (have hz2 : qCutS u (qE v) k x = x := if_neg (fun z => z.elim c28 c41)
                 exact ih (d - 1) (by omega) (k + 1) x (by omega) (by omega) (he.trans (by rw [show qE v + 1 - k = (qE v + 1 - (k + 1)) + 1 by omega]; show qCutL _ _ _ _ (qCutS _ _ _ _) = _; rw [hz2])))
              | (have hz2 : qCutS u (qE v) k x = (va_up (va_up x.1 x.2.2 x.2.1) (x.2.2 + 1) (k + 1), k + 1, x.2.2 + 1) := (if_pos (by first | exact Or.inl c28 | exact Or.inr c41)).trans (by rw [if_pos (by omega)])
                 refine v_hp (show _ = srS tp c s f a (uCm (uSt v (va_up (va_up x.1 x.2.2 x.2.1) (x.2.2 + 1) (k + 1))) (x.2.2 + 1)) from srS_ext (by repeat (first | assumption | exact va_up_self _ _ _ | refine (va_up_ne _ _ (by omega)).trans ?_)) (by repeat (first | assumption | exact va_up_self _ _ _ | refine (va_up_ne _ _ (by omega)).trans ?_)) (fun b hb => by simp only [va_up]; (repeat rw [if_neg (by omega)]); exact srS_ne hb)) ?_
                 exact ih (d - 1) (by omega) (k + 1) (va_up (va_up x.1 x.2.2 x.2.1) (x.2.2 + 1) (k + 1), k + 1, x.2.2 + 1) (by omega) (by show x.2.2 + 1 ≤ k + 1; omega) (he.trans (by rw [show qE v + 1 - k = (qE v + 1 - (k + 1)) + 1 by omega]; show qCutL _ _ _ _ (qCutS _ _ _ _) = _; rw [hz2])))
              | (have hz2 : qCutS u (qE v) k x = (x.1, k + 1, x.2.2 + 1) := (if_pos (by first | exact Or.inl c28 | exact Or.inr c41)).trans (by rw [if_neg (by omega)])
                 refine v_hp (show _ = srS tp c s f a (uCm (uSt v x.1) (x.2.2 + 1)) from srS_ext (by repeat (first | assumption | exact va_up_self _ _ _ | refine (va_up_ne _ _ (by omega)).trans ?_)) (by repeat (first | assumption | exact va_up_self _ _ _ | refine (va_up_ne _ _ (by omega)).trans ?_)) (fun b hb => by simp only [va_up]; (repeat rw [if_neg (by omega)]); exact srS_ne hb)) ?_
                 exact ih (d - 1) (by omega) (k + 1) (x.1, k + 1, x.2.2 + 1) (by omega) (by show x.2.2 + 1 ≤ k + 1; omega) (he.trans (by rw [show qE v + 1 - k = (qE v + 1 - (k + 1)) + 1 by omega]; show qCutL _ _ _ _ (qCutS _ _ _ _) = _; rw [hz2])))
  refine v_aload_n dX8_cutColumns_0 rfl (by rfl) ?_
  refine v_iconst (v := nI 0) dX8_cutColumns_1 (by decide) ?_
  refine v_putf hE dX8_cutColumns_2 fX8_39 (by repeat (first | assumption | exact va_up_self _ _ _ | refine (va_up_ne _ _ (by omega)).trans ?_)) (by exact Nat.le_of_ble_eq_true rfl) (by rfl) (by rfl) (by rfl) ?_
  refine v_aload_n dX8_cutColumns_5 rfl (by rfl) ?_
  refine v_getf hE dX8_cutColumns_6 fX8_54 (by repeat (first | assumption | exact va_up_self _ _ _ | refine (va_up_ne _ _ (by omega)).trans ?_)) (by rfl) ?_
  refine v_istore_n dX8_cutColumns_9 rfl (by decide) ?_
  refine v_aload_n dX8_cutColumns_10 rfl (by rfl) ?_
  refine v_getf hE dX8_cutColumns_11 fX8_54 (by repeat (first | assumption | exact va_up_self _ _ _ | refine (va_up_ne _ _ (by omega)).trans ?_)) (by rfl) ?_
  refine v_istore_n dX8_cutColumns_14 rfl (by decide) ?_
  refine v_hp (show _ = srS tp c s f a (uCm (uSt v (qSt v)) 0) from srS_ext (by repeat (first | assumption | exact va_up_self _ _ _ | refine (va_up_ne _ _ (by omega)).trans ?_)) (by repeat (first | assumption | exact va_up_self _ _ _ | refine (va_up_ne _ _ (by omega)).trans ?_)) (fun b hb => va_up_ne _ _ (by omega))) ?_
  exact lp (qE v + 1 - qBg v) (qBg v) (qSt v, qBg v, 0) (by omega) (Nat.zero_le _) rfl
