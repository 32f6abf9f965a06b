theorem eAddL_kp {v : eV} {r : Nat} {x : Int32} : eKp (eAddL v r x) v := by
  unfold eAddL
  split <;> exact ⟨rfl, rfl, rfl⟩
def eBegL (v : eV) : Nat → Nat → Nat
  | 0, c => c
  | d + 1, c => if eAlike v c = true then eBegL v d (c + 1) else c
def eBeg (v : eV) : Nat := eBegL v (eMin v - 1 - 0) 0
theorem eBegL_le {v : eV} : ∀ (d c : Nat), eBegL v d c ≤ c + d := by
  intro d
  induction d with
  | zero => intro c; exact Nat.le_refl _
  | succ d ih =>
    intro c
    show (if _ then _ else _) ≤ _
    split
    · have := ih (c + 1); omega
    · omega
def eShL (r : Nat) : Nat → Nat → eV → eV
  | 0, _, y => y
  | d + 1, k, y => eShL r d (k + 1) (eAddL y r (eLe y (r * 24 + k)))
def eShR (c : Nat) : Nat → Nat → eV → eV
  | 0, _, y => y
  | d + 1, r, y => eShR c d (r + 1) (eShL r (eRs y r - c) c (wRs y (va_up (eRs y) r 0)))
def eTrim (v : eV) (p : Nat) : eV := wPl (eShR (eBeg v) (eRo v - 0) 0 v) (nI (p + eBeg v))

set_option maxRecDepth 100000 in
set_option maxHeartbeats 4000000 in
/-- Entry.cutBeginnings -/
theorem sX0_cutBeginnings {E : eN} (hE : eOk E) {f : aH} {t : Nat} {a p : Nat} {v : eV} (h : enP f a v) (hv : enOk v) (hp : ePl v = nI p) (bp : p < 2 ^ 28) (hpos : ePos v) : mT E mX0_cutBeginnings 0 0 [.ref a] f t (fun o f' t' => o = .inl (some (.int (nI (eBeg v)))) ∧ t' = t ∧ f' = enS f a (eTrim v p)) := by
  refine mT_of (n := 5) (lo := [some (.ref a), none, none, none, none, none]) (by decide) (by exact Nat.le_of_ble_eq_true rfl) rfl rfl ?_
  obtain ⟨h0, h1, h2, h3, h4, h5, h6⟩ := id h
  obtain ⟨k0, k1, k2, k3⟩ := id hv
  have m1 := eMin_pos hpos
  have m2 : eMin v ≤ 24 := eMin_24
  have m3 : eBeg v ≤ 0 + (eMin v - 1 - 0) := eBegL_le _ _
  have lp2 : ∀ (dr : Nat) (r : Nat) (y : eV) (z4 z5 : Option Value), r + dr = eRo v → enOk y → eKp y v → eShR (eBeg v) (eRo v - 0) 0 v = eShR (eBeg v) (eRo v - r) r y → V E mX0_cutBeginnings 0 0 (fun o f' t' => o = .inl (some (.int (nI (eBeg v)))) ∧ t' = t ∧ f' = enS f a (eTrim v p)) 30 [some (.ref a), some (.int (nI (eMin v - 1))), some (.int (nI (eBeg v))), some (.int (nI r)), z4, z5] [] (enS f a y) t 0 0 := by
    intro dr
    induction dr using Nat.strongRecOn with
    | _ dr ihr =>
    intro r y z4 z5 hr hy hkp he
    obtain ⟨e0, e1, e2, e3, e4, e5, e6⟩ := enP_S f a y
    obtain ⟨y0, y1, y2, y3⟩ := id hy
    obtain ⟨u1, u2, u3⟩ := id hkp
    have hy5 := y1 r
    have lq : r < eRo v → ∀ (zz : Nat), zz ≤ 24 → ∀ (d : Nat) (k : Nat) (x : eV), k + d = max (eBeg v) zz → eBeg v ≤ k → enOk x → eKp x v → eShR (eBeg v) (eRo v - 0) 0 v = eShR (eBeg v) (eRo v - (r + 1)) (r + 1) (eShL r (zz - k) k x) → V E mX0_cutBeginnings 0 0 (fun o f' t' => o = .inl (some (.int (nI (eBeg v)))) ∧ t' = t ∧ f' = enS f a (eTrim v p)) 56 [some (.ref a), some (.int (nI (eMin v - 1))), some (.int (nI (eBeg v))), some (.int (nI r)), some (.int (nI zz)), some (.int (nI k))] [] (enS f a x) t 0 0 := by
      intro hr2 zz hzz d
      induction d using Nat.strongRecOn with
      | _ d ih =>
      intro k x hk hkc hx hxk hxe
      obtain ⟨e0, e1, e2, e3, e4, e5, e6⟩ := enP_S f a x
      obtain ⟨x0, x1, x2, x3⟩ := id hx
      obtain ⟨w1, w2, w3⟩ := id hxk
      refine v_iload dX0_cutBeginnings_56 (by rfl) ?_
      refine v_iload dX0_cutBeginnings_58 (by rfl) ?_
      refine v_icmp_geN (tgt := 86) dX0_cutBeginnings_60 (by decide) (by omega) (by omega) (fun c60 => ?_) (fun c60 => ?_)
      · refine v_iincN (y := 1) dX0_cutBeginnings_86 (by rfl) (by decide) (by decide) ?_
        refine v_goto (tgt := 30) dX0_cutBeginnings_89 (by decide) ?_
        exact ihr (dr - 1) (by omega) (r + 1) x _ _ (by omega) hx hxk (hxe.trans (by rw [show zz - k = 0 by omega]; rfl))
      · refine v_aload_n dX0_cutBeginnings_63 rfl (by rfl) ?_
        refine v_iload_n dX0_cutBeginnings_64 rfl (by rfl) ?_
        refine v_aload_n dX0_cutBeginnings_65 rfl (by rfl) ?_
        refine v_getf hE dX0_cutBeginnings_66 fX0_15 (by repeat (first | assumption | exact va_up_self _ _ _ | refine (va_up_ne _ _ (by omega)).trans ?_)) (by rfl) ?_
        refine v_iload_n dX0_cutBeginnings_69 rfl (by rfl) ?_
        refine v_bipush (v := nI 24) dX0_cutBeginnings_70 (by decide) ?_
        refine v_imulN dX0_cutBeginnings_72 ?_
        refine v_iload dX0_cutBeginnings_73 (by rfl) ?_
        refine v_iaddN dX0_cutBeginnings_75 ?_
        refine v_iald hE dX0_cutBeginnings_76 (by repeat (first | assumption | exact va_up_self _ _ _ | refine (va_up_ne _ _ (by omega)).trans ?_)) (by omega) (by omega) ?_
        refine w_callV hE dX0_cutBeginnings_77 kX0_119 (by repeat (first | assumption | exact va_up_self _ _ _ | refine (va_up_ne _ _ (by omega)).trans ?_)) (by rfl) (by rfl) (sX0_addLetter hE (enP_S f a x) hx (by omega)) rfl (by decide) (by decide) (by exact Nat.le_of_ble_eq_true rfl) (by omega) (by omega) (fun v9 g9 u9 h9 => ?_) (fun _ _ _ h => by cases h.1)
        obtain ⟨hv, rfl, rfl⟩ := h9
        cases hv
        refine v_hp enS_S ?_
        refine v_iincN (y := 1) dX0_cutBeginnings_80 (by rfl) (by decide) (by decide) ?_
        refine v_goto (tgt := 56) dX0_cutBeginnings_83 (by decide) ?_
        exact ih (d - 1) (by omega) (k + 1) _ (by omega) (by omega) (eAddL_ok hx) ⟨eAddL_kp.1.trans w1, eAddL_kp.2.1.trans w2, eAddL_kp.2.2.trans w3⟩ (hxe.trans (by rw [show zz - k = (zz - (k + 1)) + 1 by omega]; rfl))
    refine v_iload_n dX0_cutBeginnings_30 rfl (by rfl) ?_
    refine v_aload_n dX0_cutBeginnings_31 rfl (by rfl) ?_
    refine v_getf hE dX0_cutBeginnings_32 fX0_41 (by repeat (first | assumption | exact va_up_self _ _ _ | refine (va_up_ne _ _ (by omega)).trans ?_)) (by rfl) ?_
    refine v_icmp_geN (tgt := 92) dX0_cutBeginnings_35 (by decide) (by omega) (by omega) (fun c35 => ?_) (fun c35 => ?_)
    · rw [u3, hp] at e0
      refine v_aload_n dX0_cutBeginnings_92 rfl (by rfl) ?_
      refine v_dup dX0_cutBeginnings_93 rfl ?_
      refine v_getf hE dX0_cutBeginnings_94 fX0_52 (by repeat (first | assumption | exact va_up_self _ _ _ | refine (va_up_ne _ _ (by omega)).trans ?_)) (by rfl) ?_
      refine v_iload_n dX0_cutBeginnings_97 rfl (by rfl) ?_
      refine v_iaddN dX0_cutBeginnings_98 ?_
      refine v_putf hE dX0_cutBeginnings_99 fX0_52 (by repeat (first | assumption | exact va_up_self _ _ _ | refine (va_up_ne _ _ (by omega)).trans ?_)) (by exact Nat.le_of_ble_eq_true rfl) (by rfl) (by rfl) (by rfl) ?_
      refine v_iload_n dX0_cutBeginnings_102 rfl (by rfl) ?_
      refine v_iret dX0_cutBeginnings_103 rfl (by rfl) ?_
      refine ⟨rfl, rfl, ?_⟩
      unfold eTrim
      rw [he, show eRo v - r = 0 by omega]
      exact enS_ext (by repeat (first | assumption | exact va_up_self _ _ _ | refine (va_up_ne _ _ (by omega)).trans ?_)) (by repeat (first | assumption | exact va_up_self _ _ _ | refine (va_up_ne _ _ (by omega)).trans ?_)) (by repeat (first | assumption | exact va_up_self _ _ _ | refine (va_up_ne _ _ (by omega)).trans ?_)) (by repeat (first | assumption | exact va_up_self _ _ _ | refine (va_up_ne _ _ (by omega)).trans ?_)) (by repeat (first | assumption | exact va_up_self _ _ _ | refine (va_up_ne _ _ (by omega)).trans ?_)) (by repeat (first | assumption | exact va_up_self _ _ _ | refine (va_up_ne _ _ (by omega)).trans ?_)) (by repeat (first | assumption | exact va_up_self _ _ _ | refine (va_up_ne _ _ (by omega)).trans ?_)) (fun b hb => by simp only [va_up]; (repeat rw [if_neg (by omega)]); exact enS_ne hb)
    · refine v_aload_n dX0_cutBeginnings_38 rfl (by rfl) ?_
      refine v_getf hE dX0_cutBeginnings_39 fX0_18 (by repeat (first | assumption | exact va_up_self _ _ _ | refine (va_up_ne _ _ (by omega)).trans ?_)) (by rfl) ?_
      refine v_iload_n dX0_cutBeginnings_42 rfl (by rfl) ?_
      refine v_iald hE dX0_cutBeginnings_43 (by repeat (first | assumption | exact va_up_self _ _ _ | refine (va_up_ne _ _ (by omega)).trans ?_)) (by omega) (by omega) ?_
      refine v_istore dX0_cutBeginnings_44 (by decide) ?_
      refine v_aload_n dX0_cutBeginnings_46 rfl (by rfl) ?_
      refine v_getf hE dX0_cutBeginnings_47 fX0_18 (by repeat (first | assumption | exact va_up_self _ _ _ | refine (va_up_ne _ _ (by omega)).trans ?_)) (by rfl) ?_
      refine v_iload_n dX0_cutBeginnings_50 rfl (by rfl) ?_
      refine v_iconst (v := nI 0) dX0_cutBeginnings_51 (by decide) ?_
      refine v_iast hE dX0_cutBeginnings_52 (by repeat (first | assumption | exact va_up_self _ _ _ | refine (va_up_ne _ _ (by omega)).trans ?_)) (by omega) (by omega) ?_
      rw [upd_nI]
      refine v_hp (show _ = enS f a (wRs y (va_up (eRs y) r 0)) from enS_ext (by repeat (first | assumption | exact va_up_self _ _ _ | refine (va_up_ne _ _ (by omega)).trans ?_)) (by repeat (first | assumption | exact va_up_self _ _ _ | refine (va_up_ne _ _ (by omega)).trans ?_)) (by repeat (first | assumption | exact va_up_self _ _ _ | refine (va_up_ne _ _ (by omega)).trans ?_)) (by repeat (first | assumption | exact va_up_self _ _ _ | refine (va_up_ne _ _ (by omega)).trans ?_)) (by repeat (first | assumption | exact va_up_self _ _ _ | refine (va_up_ne _ _ (by omega)).trans ?_)) (by repeat (first | assumption | exact va_up_self _ _ _ | refine (va_up_ne _ _ (by omega)).trans ?_)) (by repeat (first | assumption | exact va_up_self _ _ _ | refine (va_up_ne _ _ (by omega)).trans ?_)) (fun b hb => by simp only [va_up]; (repeat rw [if_neg (by omega)]); exact enS_ne hb)) ?_
      refine v_iload_n dX0_cutBeginnings_53 rfl (by rfl) ?_
      refine v_istore dX0_cutBeginnings_54 (by decide) ?_
      exact lq (by omega) (eRs y r) (by omega) (max (eBeg v) (eRs y r) - eBeg v) (eBeg v) _ (by omega) (by omega) ⟨y0, va_up_le y1 (by omega), y2, y3⟩ ⟨u1, u2, u3⟩ (he.trans (by rw [show eRo v - r = (eRo v - (r + 1)) + 1 by omega]; rfl))
  have lp : ∀ (d : Nat) (n : Nat), n + d = eMin v - 1 → eBeg v = eBegL v (eMin v - 1 - n) n → V E mX0_cutBeginnings 0 0 (fun o f' t' => o = .inl (some (.int (nI (eBeg v)))) ∧ t' = t ∧ f' = enS f a (eTrim v p)) 9 [some (.ref a), some (.int (nI (eMin v - 1))), some (.int (nI n)), none, none, none] [] f t 0 0 := by
    intro d
    induction d using Nat.strongRecOn with
    | _ d ih =>
    intro n hn he
    refine v_iload_n dX0_cutBeginnings_9 rfl (by rfl) ?_
    refine v_iload_n dX0_cutBeginnings_10 rfl (by rfl) ?_
    refine v_icmp_geN (tgt := 28) dX0_cutBeginnings_11 (by decide) (by omega) (by omega) (fun c11 => ?_) (fun c11 => ?_)
    · have hC : n = eBeg v := by
        rw [he]
        first | (rw [show eMin v - 1 - n = 0 by omega]; rfl) | (rw [show eMin v - 1 - n = (eMin v - 1 - (n + 1)) + 1 by omega]; exact (if_neg (by rw [c19]; decide)).symm)
      subst hC
      refine v_iconst (v := nI 0) dX0_cutBeginnings_28 (by decide) ?_
      refine v_istore_n dX0_cutBeginnings_29 rfl (by decide) ?_
      refine v_hp (enS_id h).symm ?_
      exact lp2 (eRo v) 0 v _ _ (by omega) hv ⟨rfl, rfl, rfl⟩ rfl
    · refine v_aload_n dX0_cutBeginnings_14 rfl (by rfl) ?_
      refine v_iload_n dX0_cutBeginnings_15 rfl (by rfl) ?_
      refine w_callV hE dX0_cutBeginnings_16 kX0_115 (by repeat (first | assumption | exact va_up_self _ _ _ | refine (va_up_ne _ _ (by omega)).trans ?_)) (by rfl) (by rfl) (sX0_alikeAt hE h hv (by omega)) rfl (by decide) (by decide) (by exact Nat.le_of_ble_eq_true rfl) (by omega) (by omega) (fun v9 g9 u9 h9 => ?_) (fun _ _ _ h => by cases h.1)
      obtain ⟨hv, rfl, rfl⟩ := h9
      cases hv
      refine v_if_eqB (tgt := 28) dX0_cutBeginnings_19 (by decide) (fun c19 => ?_) (fun c19 => ?_)
      · have hC : n = eBeg v := by
          rw [he]
          first | (rw [show eMin v - 1 - n = 0 by omega]; rfl) | (rw [show eMin v - 1 - n = (eMin v - 1 - (n + 1)) + 1 by omega]; exact (if_neg (by rw [c19]; decide)).symm)
        subst hC
        refine v_iconst (v := nI 0) dX0_cutBeginnings_28 (by decide) ?_
        refine v_istore_n dX0_cutBeginnings_29 rfl (by decide) ?_
        refine v_hp (enS_id h).symm ?_
        exact lp2 (eRo v) 0 v _ _ (by omega) hv ⟨rfl, rfl, rfl⟩ rfl
      · refine v_iincN (y := 1) dX0_cutBeginnings_22 (by rfl) (by decide) (by decide) ?_
        refine v_goto (tgt := 9) dX0_cutBeginnings_25 (by decide) ?_
        exact ih (d - 1) (by omega) (n + 1) (by omega) (he.trans (by rw [show eMin v - 1 - n = (eMin v - 1 - (n + 1)) + 1 by omega]; exact if_pos c19))
  refine v_aload_n dX0_cutBeginnings_0 rfl (by rfl) ?_
  refine w_callV hE dX0_cutBeginnings_1 kX0_85 (by repeat (first | assumption | exact va_up_self _ _ _ | refine (va_up_ne _ _ (by omega)).trans ?_)) (by rfl) (by rfl) (sX0_shortestRow hE h hv) rfl (by decide) (by decide) (by exact Nat.le_of_ble_eq_true rfl) (by omega) (by omega) (fun v9 g9 u9 h9 => ?_) (fun _ _ _ h => by cases h.1)
  obtain ⟨hv, rfl, rfl⟩ := h9
  cases hv
  refine v_iconst (v := nI 1) dX0_cutBeginnings_4 (by decide) ?_
  refine v_isubN dX0_cutBeginnings_5 (by omega) ?_
  refine v_istore_n dX0_cutBeginnings_6 rfl (by decide) ?_
  refine v_iconst (v := nI 0) dX0_cutBeginnings_7 (by decide) ?_
  refine v_istore_n dX0_cutBeginnings_8 rfl (by decide) ?_
  exact lp (eMin v - 1) 0 (by omega) rfl

theorem eCutL_ok {g : gV} {s p M : Nat} : ∀ (d c : Nat) (y : eV), enOk y → c + d + 1 ≤ M → (∀ q, q < eRo y → M ≤ eRs y q + c) → enOk (eCutL g s p d c y).2 ∧ eKp (eCutL g s p d c y).2 y ∧ (eCutL g s p d c y).1 + 1 ≤ M ∧ ∀ q, q < eRo y → M ≤ eRs (eCutL g s p d c y).2 q + (eCutL g s p d c y).1 := by
  intro d
  induction d with
  | zero => intro c y h1 h2 h3; exact ⟨h1, ⟨rfl, rfl, rfl⟩, by show c + 1 ≤ M; omega, h3⟩
  | succ d ih =>
    intro c y h1 h2 h3
    by_cases e : eEnd y g s p 0 = true
    · have hq : eCutL g s p (d + 1) c y = eCutL g s p d (c + 1) (eDec y) := if_pos e
      rw [hq]
      obtain ⟨⟨l1, l2, l3⟩, l4⟩ := eDecL_kp (eRo y - 0) 0 y
      have l1 : eRo (eDec y) = eRo y := l1
      obtain ⟨i1, ⟨i2, i3, i4⟩, i5, i6⟩ := ih (c + 1) (eDec y) (l4 h1) (by omega) (fun q q1 => by
        have h4 := h3 q (by omega)
        show M ≤ eRs (eDecL (eRo y - 0) 0 y) q + (c + 1)
        rw [eDecL_rs]
        split <;> omega)
      exact ⟨i1, ⟨i2.trans l1, i3.trans l2, i4.trans l3⟩, i5, fun q q1 => i6 q (by omega)⟩
    · have hq : eCutL g s p (d + 1) c y = (c, y) := if_neg e
      rw [hq]
      exact ⟨h1, ⟨rfl, rfl, rfl⟩, by show c + 1 ≤ M; omega, h3⟩
theorem eStepL_le {v : eV} {g : gV} {s p : Nat} : ∀ (d n : Nat), eStepL v g s p d n ≤ n + d := by
  intro d
  induction d with
  | zero => intro n; exact Nat.le_refl _
  | succ d ih =>
    intro n
    show (if _ then _ else _) ≤ _
    split
    · have := ih (n + 1); omega
    · omega
def eNormN (v : eV) (g : gV) (s p : Nat) : Nat := if eMin (eCut v g s p).2 = 1 then eSteps (eCut v g s p).2 g s p else 0
def eNorm2 (v : eV) (g : gV) (s p : Nat) : eV := eMvA (eCut v g s p).2 g s p (eNormN v g s p)
def eNorm (v : eV) (g : gV) (s p : Nat) : Bool × eV := if 1 < eRo v then (decide (0 < (eCut v g s p).1 + eNormN v g s p + eBeg (eNorm2 v g s p)), eTrim (eNorm2 v g s p) (p - eNormN v g s p)) else (false, v)

set_option maxRecDepth 100000 in
set_option maxHeartbeats 4000000 in
/-- Entry.makeNormal -/
theorem sX0_makeNormal {E : eN} (hE : eOk E) {f : aH} {t : Nat} {a c s p : Nat} {v : eV} {g : gV} (h : enP f a v) (hv : enOk v) (hg : gnP f c g) (hgo : gOk g) (hdg : c + 8 < a ∨ a + 6 < c) (hs : eSq v = nI s) (hp : ePl v = nI p) (bs : s < 2 ^ 30) (bp : p < 2 ^ 28) (hpos : ePos v) (hp1 : 1 ≤ p) : mT E mX0_makeNormal 0 0 [.ref a, .ref c] f t (fun o f' t' => o = .inl (some (.int (bI (eNorm v g s p).1))) ∧ t' = t ∧ f' = enS f a (eNorm v g s p).2) := by
  refine mT_of (n := 3) (lo := [some (.ref a), some (.ref c), none, none, none]) (by decide) (by exact Nat.le_of_ble_eq_true rfl) rfl rfl ?_
  obtain ⟨h0, h1, h2, h3, h4, h5, h6⟩ := id h
  obtain ⟨k0, k1, k2, k3⟩ := id hv
  refine v_aload_n dX0_makeNormal_0 rfl (by rfl) ?_
  refine w_callV hE dX0_makeNormal_1 kX0_77 (by repeat (first | assumption | exact va_up_self _ _ _ | refine (va_up_ne _ _ (by omega)).trans ?_)) (by rfl) (by rfl) (sX0_hasAlts hE h hv) rfl (by decide) (by decide) (by exact Nat.le_of_ble_eq_true rfl) (by omega) (by omega) (fun v9 g9 u9 h9 => ?_) (fun _ _ _ h => by cases h.1)
  obtain ⟨hv9, hu9, hg9⟩ := h9
  replace hu9 := hu9.symm
  replace hg9 := hg9.symm
  subst hu9
  subst hg9
  cases hv9
  refine v_if_neB (tgt := 9) dX0_makeNormal_4 (by decide) (fun c4 => ?_) (fun c4 => ?_)
  · have hro : 1 ≤ eRo v := by have := of_decide_eq_true c4; omega
    have m1 := eMin_pos hpos
    have m2 : eMin v ≤ 24 := eMin_24
    obtain ⟨a1, ⟨a2, a3, a4⟩, a5, a6⟩ := eCutL_ok (g := g) (s := s) (p := p) (M := eMin v) (eMin v - 1 - 0) 0 v hv (by omega) (fun q q1 => eMin_le q1)
    have a1 : enOk (eCut v g s p).2 := a1
    have a2 : eRo (eCut v g s p).2 = eRo v := a2
    have a3 : eSq (eCut v g s p).2 = eSq v := a3
    have a4 : ePl (eCut v g s p).2 = ePl v := a4
    have a5 : (eCut v g s p).1 + 1 ≤ eMin v := a5
    have b1 : ePos (eCut v g s p).2 := fun q q1 => by
      have h9 : eMin v ≤ eRs (eCut v g s p).2 q + (eCut v g s p).1 := a6 q (by omega)
      omega
    have b2 : eSteps (eCut v g s p).2 g s p ≤ 0 + (p - 1 - 0) := eStepL_le _ _
    have b3 : eMin (eCut v g s p).2 ≤ 24 := eMin_24
    obtain ⟨d1, ⟨d2, d3, d4⟩, d5⟩ := eMvR_kp g s p (eNormN v g s p) (eRo (eCut v g s p).2 - 0) 0 (eCut v g s p).2
    have b4 : eNormN v g s p ≤ p := by unfold eNormN; split <;> omega
    have f1 : enOk (eNorm2 v g s p) := d5 a1
    have f2 : ePos (eNorm2 v g s p) := fun q q1 => by
      have h9 : eRs (eNorm2 v g s p) = eRs (eCut v g s p).2 := d1
      have q1 : q < eRo (eMvR g s p (eNormN v g s p) (eRo (eCut v g s p).2 - 0) 0 (eCut v g s p).2) := q1
      rw [h9]; exact b1 q (by omega)
    have f3 : ePl (eNorm2 v g s p) = nI (p - eNormN v g s p) := rfl
    have m4 : eBeg (eNorm2 v g s p) ≤ 0 + (eMin (eNorm2 v g s p) - 1 - 0) := eBegL_le _ _
    have m5 : eMin (eNorm2 v g s p) ≤ 24 := eMin_24
    refine v_aload_n dX0_makeNormal_9 rfl (by rfl) ?_
    refine v_aload_n dX0_makeNormal_10 rfl (by rfl) ?_
    refine w_callV hE dX0_makeNormal_11 kX0_81 (by repeat (first | assumption | exact va_up_self _ _ _ | refine (va_up_ne _ _ (by omega)).trans ?_)) (by rfl) (by rfl) (sX0_cutEnds hE h hv hg hgo hdg hs hp bs bp hpos hro) rfl (by decide) (by decide) (by exact Nat.le_of_ble_eq_true rfl) (by omega) (by omega) (fun v9 g9 u9 h9 => ?_) (fun _ _ _ h => by cases h.1)
    obtain ⟨hv9, hu9, hg9⟩ := h9
    replace hu9 := hu9.symm
    replace hg9 := hg9.symm
    subst hu9
    subst hg9
    cases hv9
    obtain ⟨e0, e1, e2, e3, e4, e5, e6⟩ := enP_S f a (eCut v g s p).2
    refine v_istore_n dX0_makeNormal_14 rfl (by decide) ?_
    refine v_aload_n dX0_makeNormal_15 rfl (by rfl) ?_
    refine w_callV hE dX0_makeNormal_16 kX0_85 (by repeat (first | assumption | exact va_up_self _ _ _ | refine (va_up_ne _ _ (by omega)).trans ?_)) (by rfl) (by rfl) (sX0_shortestRow hE (enP_S f a (eCut v g s p).2) a1) rfl (by decide) (by decide) (by exact Nat.le_of_ble_eq_true rfl) (by omega) (by omega) (fun v9 g9 u9 h9 => ?_) (fun _ _ _ h => by cases h.1)
    obtain ⟨hv9, hu9, hg9⟩ := h9
    replace hu9 := hu9.symm
    replace hg9 := hg9.symm
    subst hu9
    subst hg9
    cases hv9
    refine v_iconst (v := nI 1) dX0_makeNormal_19 (by decide) ?_
    refine v_icmp_neN (tgt := 31) dX0_makeNormal_20 (by decide) (by omega) (by omega) (fun c20 => ?_) (fun c20 => ?_)
    · refine v_iconst (v := nI 0) dX0_makeNormal_31 (by decide) ?_
      refine v_eqi (y := nI (eNormN v g s p)) (by unfold eNormN; first | rw [if_pos (by assumption)] | rw [if_neg (by assumption)]) ?_
      refine v_istore_n dX0_makeNormal_32 rfl (by decide) ?_
      refine v_aload_n dX0_makeNormal_33 rfl (by rfl) ?_
      refine v_iload_n dX0_makeNormal_34 rfl (by rfl) ?_
      refine v_aload_n dX0_makeNormal_35 rfl (by rfl) ?_
      refine w_callV hE dX0_makeNormal_36 kX0_92 (by exact (enP_S f a _).1) (by rfl) (by rfl) (sX0_moveLeft hE (enP_S f a (eCut v g s p).2) a1 (gn_enS hg hdg) hgo hdg (a3.trans hs) (a4.trans hp) bs bp b1 b4) rfl (by decide) (by decide) (by exact Nat.le_of_ble_eq_true rfl) (by omega) (by omega) (fun v9 g9 u9 h9 => ?_) (fun _ _ _ h => by cases h.1)
      obtain ⟨hv9, hu9, hg9⟩ := h9
      replace hu9 := hu9.symm
      replace hg9 := hg9.symm
      subst hu9
      subst hg9
      cases hv9
      refine v_hp (enS_S (w := eNorm2 v g s p)) ?_
      refine v_aload_n dX0_makeNormal_39 rfl (by rfl) ?_
      refine w_callV hE dX0_makeNormal_40 kX0_96 (by exact (enP_S f a _).1) (by rfl) (by rfl) (sX0_cutBeginnings hE (enP_S f a (eNorm2 v g s p)) f1 f3 (by omega) f2) rfl (by decide) (by decide) (by exact Nat.le_of_ble_eq_true rfl) (by omega) (by omega) (fun v9 g9 u9 h9 => ?_) (fun _ _ _ h => by cases h.1)
      obtain ⟨hv9, hu9, hg9⟩ := h9
      replace hu9 := hu9.symm
      replace hg9 := hg9.symm
      subst hu9
      subst hg9
      cases hv9
      refine v_hp enS_S ?_
      refine v_istore dX0_makeNormal_43 (by decide) ?_
      refine v_iload_n dX0_makeNormal_45 rfl (by rfl) ?_
      refine v_iload_n dX0_makeNormal_46 rfl (by rfl) ?_
      refine v_iaddN dX0_makeNormal_47 ?_
      refine v_iload dX0_makeNormal_48 (by rfl) ?_
      refine v_iaddN dX0_makeNormal_50 ?_
      refine v_if_leN (tgt := 58) dX0_makeNormal_51 (by decide) (by omega) (fun c51 => ?_) (fun c51 => ?_)
      · refine v_iconst (v := nI 0) dX0_makeNormal_58 (by decide) ?_
        refine v_iret dX0_makeNormal_59 rfl (by rfl) ?_
        refine ⟨congrArg (fun x => (Sum.inl (some (Value.int x)) : aO)) ?_, rfl, ?_⟩
        · unfold eNorm
          rw [if_pos (of_decide_eq_true c4)]
          first | exact bI_t (decide_eq_true (by assumption)) | exact bI_f (decide_eq_false (by omega))
        · unfold eNorm
          rw [if_pos (of_decide_eq_true c4)]
      · refine v_iconst (v := nI 1) dX0_makeNormal_54 (by decide) ?_
        refine v_goto (tgt := 59) dX0_makeNormal_55 (by decide) ?_
        refine v_iret dX0_makeNormal_59 rfl (by rfl) ?_
        refine ⟨congrArg (fun x => (Sum.inl (some (Value.int x)) : aO)) ?_, rfl, ?_⟩
        · unfold eNorm
          rw [if_pos (of_decide_eq_true c4)]
          first | exact bI_t (decide_eq_true (by assumption)) | exact bI_f (decide_eq_false (by omega))
        · unfold eNorm
          rw [if_pos (of_decide_eq_true c4)]
    · refine v_aload_n dX0_makeNormal_23 rfl (by rfl) ?_
      refine v_aload_n dX0_makeNormal_24 rfl (by rfl) ?_
      refine w_callV hE dX0_makeNormal_25 kX0_89 (by repeat (first | assumption | exact va_up_self _ _ _ | refine (va_up_ne _ _ (by omega)).trans ?_)) (by rfl) (by rfl) (sX0_stepsToLeft hE (enP_S f a (eCut v g s p).2) a1 (gn_enS hg hdg) hgo (a3.trans hs) (a4.trans hp) bs (by omega) b1 (by omega) hp1) rfl (by decide) (by decide) (by exact Nat.le_of_ble_eq_true rfl) (by omega) (by omega) (fun v9 g9 u9 h9 => ?_) (fun _ _ _ h => by cases h.1)
      obtain ⟨hv9, hu9, hg9⟩ := h9
      replace hu9 := hu9.symm
      replace hg9 := hg9.symm
      subst hu9
      subst hg9
      cases hv9
      refine v_goto (tgt := 32) dX0_makeNormal_28 (by decide) ?_
      refine v_eqi (y := nI (eNormN v g s p)) (by unfold eNormN; first | rw [if_pos (by assumption)] | rw [if_neg (by assumption)]) ?_
      refine v_istore_n dX0_makeNormal_32 rfl (by decide) ?_
      refine v_aload_n dX0_makeNormal_33 rfl (by rfl) ?_
      refine v_iload_n dX0_makeNormal_34 rfl (by rfl) ?_
      refine v_aload_n dX0_makeNormal_35 rfl (by rfl) ?_
      refine w_callV hE dX0_makeNormal_36 kX0_92 (by exact (enP_S f a _).1) (by rfl) (by rfl) (sX0_moveLeft hE (enP_S f a (eCut v g s p).2) a1 (gn_enS hg hdg) hgo hdg (a3.trans hs) (a4.trans hp) bs bp b1 b4) rfl (by decide) (by decide) (by exact Nat.le_of_ble_eq_true rfl) (by omega) (by omega) (fun v9 g9 u9 h9 => ?_) (fun _ _ _ h => by cases h.1)
      obtain ⟨hv9, hu9, hg9⟩ := h9
      replace hu9 := hu9.symm
      replace hg9 := hg9.symm
      subst hu9
      subst hg9
      cases hv9
      refine v_hp (enS_S (w := eNorm2 v g s p)) ?_
      refine v_aload_n dX0_makeNormal_39 rfl (by rfl) ?_
      refine w_callV hE dX0_makeNormal_40 kX0_96 (by exact (enP_S f a _).1) (by rfl) (by rfl) (sX0_cutBeginnings hE (enP_S f a (eNorm2 v g s p)) f1 f3 (by omega) f2) rfl (by decide) (by decide) (by exact Nat.le_of_ble_eq_true rfl) (by omega) (by omega) (fun v9 g9 u9 h9 => ?_) (fun _ _ _ h => by cases h.1)
      obtain ⟨hv9, hu9, hg9⟩ := h9
      replace hu9 := hu9.symm
      replace hg9 := hg9.symm
      subst hu9
      subst hg9
      cases hv9
      refine v_hp enS_S ?_
      refine v_istore dX0_makeNormal_43 (by decide) ?_
      refine v_iload_n dX0_makeNormal_45 rfl (by rfl) ?_
      refine v_iload_n dX0_makeNormal_46 rfl (by rfl) ?_
      refine v_iaddN dX0_makeNormal_47 ?_
      refine v_iload dX0_makeNormal_48 (by rfl) ?_
      refine v_iaddN dX0_makeNormal_50 ?_
      refine v_if_leN (tgt := 58) dX0_makeNormal_51 (by decide) (by omega) (fun c51 => ?_) (fun c51 => ?_)
      · refine v_iconst (v := nI 0) dX0_makeNormal_58 (by decide) ?_
        refine v_iret dX0_makeNormal_59 rfl (by rfl) ?_
        refine ⟨congrArg (fun x => (Sum.inl (some (Value.int x)) : aO)) ?_, rfl, ?_⟩
        · unfold eNorm
          rw [if_pos (of_decide_eq_true c4)]
          first | exact bI_t (decide_eq_true (by assumption)) | exact bI_f (decide_eq_false (by omega))
        · unfold eNorm
          rw [if_pos (of_decide_eq_true c4)]
      · refine v_iconst (v := nI 1) dX0_makeNormal_54 (by decide) ?_
        refine v_goto (tgt := 59) dX0_makeNormal_55 (by decide) ?_
        refine v_iret dX0_makeNormal_59 rfl (by rfl) ?_
        refine ⟨congrArg (fun x => (Sum.inl (some (Value.int x)) : aO)) ?_, rfl, ?_⟩
        · unfold eNorm
          rw [if_pos (of_decide_eq_true c4)]
          first | exact bI_t (decide_eq_true (by assumption)) | exact bI_f (decide_eq_false (by omega))
        · unfold eNorm
          rw [if_pos (of_decide_eq_true c4)]
  · refine v_iconst (v := nI 0) dX0_makeNormal_7 (by decide) ?_
    refine v_iret dX0_makeNormal_8 rfl (by rfl) ?_
    refine ⟨congrArg (fun x => (Sum.inl (some (Value.int x)) : aO)) (bI_f ?_), rfl, ?_⟩ <;> (unfold eNorm; rw [if_neg (of_decide_eq_false c4)])
    exact (enS_id h).symm
