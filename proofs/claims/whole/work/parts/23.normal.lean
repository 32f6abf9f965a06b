theorem gn_enS {f : aH} {a c : Nat} {v : eV} {g : gV} (h : gnP f c g) (hd : c + 8 < a ∨ a + 6 < c) : gnP (enS f a v) c g := by
  obtain ⟨h0, h1, h2, h3, h4, h5, h6, h7, h8⟩ := h
  refine ⟨?_, ?_, ?_, ?_, ?_, ?_, ?_, ?_, ?_⟩ <;> (rw [enS_ne (by omega)]; assumption)
theorem eMinL_le {v : eV} : ∀ (d r m : Nat), eMinL v d r m ≤ m ∧ ∀ q, r ≤ q → q < r + d → eMinL v d r m ≤ eRs v q := by
  intro d
  induction d with
  | zero => intro r m; exact ⟨Nat.le_refl _, fun q h1 h2 => by omega⟩
  | succ d ih =>
    intro r m
    obtain ⟨i1, i2⟩ := ih (r + 1) (min m (eRs v r))
    refine ⟨?_, fun q h1 h2 => ?_⟩
    · show eMinL v d (r + 1) (min m (eRs v r)) ≤ m
      omega
    · show eMinL v d (r + 1) (min m (eRs v r)) ≤ eRs v q
      by_cases e : q = r
      · subst e; omega
      · exact i2 q (by omega) (by omega)
theorem eMinL_ge {v : eV} {x : Nat} : ∀ (d r m : Nat), x ≤ m → (∀ q, r ≤ q → q < r + d → x ≤ eRs v q) → x ≤ eMinL v d r m := by
  intro d
  induction d with
  | zero => intro r m h _; exact h
  | succ d ih =>
    intro r m h h2
    have h3 := h2 r (by omega) (by omega)
    exact ih (r + 1) (min m (eRs v r)) (by omega) (fun q q1 q2 => h2 q (by omega) (by omega))
theorem eMin_le {v : eV} {r : Nat} (h : r < eRo v) : eMin v ≤ eRs v r := (eMinL_le _ _ _).2 r (by omega) (by omega)
theorem eMin_24 {v : eV} : eMin v ≤ 24 := (eMinL_le _ _ _).1
theorem eMin_pos {v : eV} (h : ePos v) : 1 ≤ eMin v := eMinL_ge _ _ _ (by omega) (fun q _ h2 => h q (by omega))
/-- what stays: the rows' number, where it stands -/
def eKp (y v : eV) : Prop := eRo y = eRo v ∧ eSq y = eSq v ∧ ePl y = ePl v
abbrev eDec1 (y : eV) (r : Nat) : eV := wRs y (va_up (eRs y) r (eRs y r - 1))
def eDecL : Nat → Nat → eV → eV
  | 0, _, y => y
  | d + 1, r, y => eDecL d (r + 1) (eDec1 y r)
def eDec (y : eV) : eV := eDecL (eRo y - 0) 0 y
theorem eDecL_kp : ∀ (d r : Nat) (y : eV), eKp (eDecL d r y) y ∧ (enOk y → enOk (eDecL d r y)) := by
  intro d
  induction d with
  | zero => intro r y; exact ⟨⟨rfl, rfl, rfl⟩, id⟩
  | succ d ih =>
    intro r y
    obtain ⟨⟨i1, i2, i3⟩, i4⟩ := ih (r + 1) (eDec1 y r)
    exact ⟨⟨i1, i2, i3⟩, fun h => i4 ⟨h.1, va_up_le h.2.1 (by have := h.2.1 r; omega), h.2.2⟩⟩
theorem eDecL_rs : ∀ (d r : Nat) (y : eV) (q : Nat), eRs (eDecL d r y) q = if r ≤ q ∧ q < r + d then eRs y q - 1 else eRs y q := by
  intro d
  induction d with
  | zero => intro r y q; rw [if_neg (by omega)]; rfl
  | succ d ih =>
    intro r y q
    show eRs (eDecL d (r + 1) (eDec1 y r)) q = _
    rw [ih]
    show (if _ then va_up (eRs y) r (eRs y r - 1) q - 1 else va_up (eRs y) r (eRs y r - 1) q) = _
    by_cases e : q = r
    · subst e
      rw [if_neg (by omega), if_pos (by omega), va_up_self]
    · rw [va_up_ne _ _ e]
      by_cases e2 : r + 1 ≤ q ∧ q < r + 1 + d
      · rw [if_pos e2, if_pos (by omega)]
      · rw [if_neg e2, if_neg (by omega)]
def eCutL (g : gV) (s p : Nat) : Nat → Nat → eV → Nat × eV
  | 0, c, y => (c, y)
  | d + 1, c, y => if eEnd y g s p 0 = true then eCutL g s p d (c + 1) (eDec y) else (c, y)
def eCut (v : eV) (g : gV) (s p : Nat) : Nat × eV := eCutL g s p (eMin v - 1 - 0) 0 v

set_option maxRecDepth 100000 in
set_option maxHeartbeats 4000000 in
/-- Entry.cutEnds -/
theorem sX0_cutEnds {E : eN} (hE : eOk E) {f : aH} {t : Nat} {a c s p : Nat} {v : eV} {g : gV} (h : enP f a v) (hv : enOk v) (hg : gnP f c g) (hgo : gOk g) (hdg : c + 8 < a ∨ a + 6 < c) (hs : eSq v = nI s) (hp : ePl v = nI p) (bs : s < 2 ^ 30) (bp : p < 2 ^ 28) (hpos : ePos v) (hro : 1 ≤ eRo v) : mT E mX0_cutEnds 0 0 [.ref a, .ref c] f t (fun o f' t' => o = .inl (some (.int (nI (eCut v g s p).1))) ∧ t' = t ∧ f' = enS f a (eCut v g s p).2) := by
  refine mT_of (n := 3) (lo := [some (.ref a), some (.ref c), none, none, none]) (by decide) (by exact Nat.le_of_ble_eq_true rfl) rfl rfl ?_
  obtain ⟨h0, h1, h2, h3, h4, h5, h6⟩ := id h
  obtain ⟨k0, k1, k2, k3⟩ := id hv
  have m1 := eMin_pos hpos
  have m2 : eMin v ≤ 24 := eMin_24
  have lp : ∀ (dn : Nat) (n : Nat) (y : eV) (z : Option Value), n + dn = eMin v - 1 → enOk y → eKp y v → (∀ q, q < eRo v → eMin v ≤ eRs y q + n) → eCut v g s p = eCutL g s p (eMin v - 1 - n) n y → V E mX0_cutEnds 0 0 (fun o f' t' => o = .inl (some (.int (nI (eCut v g s p).1))) ∧ t' = t ∧ f' = enS f a (eCut v g s p).2) 9 [some (.ref a), some (.ref c), some (.int (nI (eMin v - 1))), some (.int (nI n)), z] [] (enS f a y) t 0 0 := by
    intro dn
    induction dn using Nat.strongRecOn with
    | _ dn ihn =>
    intro n y z hn hy hkp hm he
    obtain ⟨e0, e1, e2, e3, e4, e5, e6⟩ := enP_S f a y
    obtain ⟨y0, y1, y2, y3⟩ := id hy
    obtain ⟨z1, z2, z3⟩ := id hkp
    have lq : n < eMin v - 1 → eEnd y g s p 0 = true → ∀ (d : Nat) (r : Nat) (x : eV), r + d = eRo v → enOk x → eKp x v → (∀ q, r ≤ q → q < eRo v → 2 ≤ eRs x q) → eDec y = eDecL (eRo v - r) r x → V E mX0_cutEnds 0 0 (fun o f' t' => o = .inl (some (.int (nI (eCut v g s p).1))) ∧ t' = t ∧ f' = enS f a (eCut v g s p).2) 26 [some (.ref a), some (.ref c), some (.int (nI (eMin v - 1))), some (.int (nI n)), some (.int (nI r))] [] (enS f a x) t 0 0 := by
      intro hn1 hn2 d
      induction d using Nat.strongRecOn with
      | _ d ih =>
      intro r x hr hx hxk hx2 hxe
      obtain ⟨e0, e1, e2, e3, e4, e5, e6⟩ := enP_S f a x
      obtain ⟨x0, x1, x2, x3⟩ := id hx
      obtain ⟨w1, w2, w3⟩ := id hxk
      refine v_iload dX0_cutEnds_26 (by rfl) ?_
      refine v_aload_n dX0_cutEnds_28 rfl (by rfl) ?_
      refine v_getf hE dX0_cutEnds_29 fX0_41 (by repeat (first | assumption | exact va_up_self _ _ _ | refine (va_up_ne _ _ (by omega)).trans ?_)) (by rfl) ?_
      refine v_icmp_geN (tgt := 52) dX0_cutEnds_32 (by decide) (by omega) (by omega) (fun c32 => ?_) (fun c32 => ?_)
      · have hx9 : x = eDec y := (hxe.trans (by rw [show eRo v - r = 0 by omega]; rfl)).symm
        subst hx9
        refine v_iincN (y := 1) dX0_cutEnds_52 (by rfl) (by decide) (by decide) ?_
        refine v_goto (tgt := 9) dX0_cutEnds_55 (by decide) ?_
        exact ihn (dn - 1) (by omega) (n + 1) (eDec y) (some (.int (nI r))) (by omega) hx hxk (fun q q1 => by unfold eDec; rw [eDecL_rs, if_pos (by omega)]; have := hm q q1; omega) (he.trans (by rw [show eMin v - 1 - n = (eMin v - 1 - (n + 1)) + 1 by omega]; exact if_pos hn2))
      · have hx3 := hx2 r (by omega) (by omega)
        refine v_aload_n dX0_cutEnds_35 rfl (by rfl) ?_
        refine v_getf hE dX0_cutEnds_36 fX0_18 (by repeat (first | assumption | exact va_up_self _ _ _ | refine (va_up_ne _ _ (by omega)).trans ?_)) (by rfl) ?_
        refine v_iload dX0_cutEnds_39 (by rfl) ?_
        refine v_dup2 dX0_cutEnds_41 rfl rfl ?_
        refine v_iald hE dX0_cutEnds_42 (by repeat (first | assumption | exact va_up_self _ _ _ | refine (va_up_ne _ _ (by omega)).trans ?_)) (by omega) (by omega) ?_
        refine v_iconst (v := nI 1) dX0_cutEnds_43 (by decide) ?_
        refine v_isubN dX0_cutEnds_44 (by omega) ?_
        refine v_iast hE dX0_cutEnds_45 (by repeat (first | assumption | exact va_up_self _ _ _ | refine (va_up_ne _ _ (by omega)).trans ?_)) (by omega) (by omega) ?_
        rw [upd_nI]
        refine v_iincN (y := 1) dX0_cutEnds_46 (by rfl) (by decide) (by decide) ?_
        refine v_goto (tgt := 26) dX0_cutEnds_49 (by decide) ?_
        refine v_hp (show _ = enS f a (eDec1 x r) from enS_ext (by repeat (first | assumption | exact va_up_self _ _ _ | refine (va_up_ne _ _ (by omega)).trans ?_)) (by repeat (first | assumption | exact va_up_self _ _ _ | refine (va_up_ne _ _ (by omega)).trans ?_)) (by repeat (first | assumption | exact va_up_self _ _ _ | refine (va_up_ne _ _ (by omega)).trans ?_)) (by repeat (first | assumption | exact va_up_self _ _ _ | refine (va_up_ne _ _ (by omega)).trans ?_)) (by repeat (first | assumption | exact va_up_self _ _ _ | refine (va_up_ne _ _ (by omega)).trans ?_)) (by repeat (first | assumption | exact va_up_self _ _ _ | refine (va_up_ne _ _ (by omega)).trans ?_)) (by repeat (first | assumption | exact va_up_self _ _ _ | refine (va_up_ne _ _ (by omega)).trans ?_)) (fun b hb => by simp only [va_up]; (repeat rw [if_neg (by omega)]); exact enS_ne hb)) ?_
        refine ih (d - 1) (by omega) (r + 1) (eDec1 x r) (by omega) ⟨x0, va_up_le x1 (by have := x1 r; omega), x2, x3⟩ ⟨w1, w2, w3⟩ (fun q q1 q2 => ?_) (hxe.trans (by rw [show eRo v - r = (eRo v - (r + 1)) + 1 by omega]; rfl))
        show 2 ≤ va_up (eRs x) r (eRs x r - 1) q
        rw [va_up_ne _ _ (by omega)]
        exact hx2 q (by omega) q2
    refine v_iload_n dX0_cutEnds_9 rfl (by rfl) ?_
    refine v_iload_n dX0_cutEnds_10 rfl (by rfl) ?_
    refine v_icmp_geN (tgt := 58) dX0_cutEnds_11 (by decide) (by omega) (by omega) (fun c11 => ?_) (fun c11 => ?_)
    · refine v_iload_n dX0_cutEnds_58 rfl (by rfl) ?_
      refine v_iret dX0_cutEnds_59 rfl (by rfl) ?_
      refine ⟨congrArg (fun x => (Sum.inl (some (Value.int x)) : aO)) ?_, rfl, ?_⟩ <;> (rw [he]; first | (rw [show eMin v - 1 - n = 0 by omega]; rfl) | (rw [show eMin v - 1 - n = (eMin v - 1 - (n + 1)) + 1 by omega]; show _ = _; simp only [eCutL, c20, Bool.false_eq_true, if_false]))
    · refine v_aload_n dX0_cutEnds_14 rfl (by rfl) ?_
      refine v_iconst (v := nI 0) dX0_cutEnds_15 (by decide) ?_
      refine v_aload_n dX0_cutEnds_16 rfl (by rfl) ?_
      refine w_callV hE dX0_cutEnds_17 kX0_104 (by repeat (first | assumption | exact va_up_self _ _ _ | refine (va_up_ne _ _ (by omega)).trans ?_)) (by rfl) (by rfl) (sX0_endAlikeAfter hE (enP_S f a y) hy (gn_enS hg hdg) hgo (z2.trans hs) (z3.trans hp) bs (by omega) (fun q q1 => by have := hm q (by omega); omega) (by omega) (Nat.zero_le _)) rfl (by decide) (by decide) (by exact Nat.le_of_ble_eq_true rfl) (by omega) (by omega) (fun v9 g9 u9 h9 => ?_) (fun _ _ _ h => by cases h.1)
      obtain ⟨hv, rfl, rfl⟩ := h9
      cases hv
      refine v_if_eqB (tgt := 58) dX0_cutEnds_20 (by decide) (fun c20 => ?_) (fun c20 => ?_)
      · refine v_iload_n dX0_cutEnds_58 rfl (by rfl) ?_
        refine v_iret dX0_cutEnds_59 rfl (by rfl) ?_
        refine ⟨congrArg (fun x => (Sum.inl (some (Value.int x)) : aO)) ?_, rfl, ?_⟩ <;> (rw [he]; first | (rw [show eMin v - 1 - n = 0 by omega]; rfl) | (rw [show eMin v - 1 - n = (eMin v - 1 - (n + 1)) + 1 by omega]; show _ = _; simp only [eCutL, c20, Bool.false_eq_true, if_false]))
      · refine v_iconst (v := nI 0) dX0_cutEnds_23 (by decide) ?_
        refine v_istore dX0_cutEnds_24 (by decide) ?_
        exact lq c11 c20 (eRo v) 0 y (by omega) hy hkp (fun q q1 q2 => by have := hm q q2; omega) (by unfold eDec; rw [z1])
  refine v_aload_n dX0_cutEnds_0 rfl (by rfl) ?_
  refine w_callV hE dX0_cutEnds_1 kX0_85 (by repeat (first | assumption | exact va_up_self _ _ _ | refine (va_up_ne _ _ (by omega)).trans ?_)) (by rfl) (by rfl) (sX0_shortestRow hE h hv) rfl (by decide) (by decide) (by exact Nat.le_of_ble_eq_true rfl) (by omega) (by omega) (fun v9 g9 u9 h9 => ?_) (fun _ _ _ h => by cases h.1)
  obtain ⟨hv, rfl, rfl⟩ := h9
  cases hv
  refine v_iconst (v := nI 1) dX0_cutEnds_4 (by decide) ?_
  refine v_isubN dX0_cutEnds_5 (by omega) ?_
  refine v_istore_n dX0_cutEnds_6 rfl (by decide) ?_
  refine v_iconst (v := nI 0) dX0_cutEnds_7 (by decide) ?_
  refine v_istore_n dX0_cutEnds_8 rfl (by decide) ?_
  refine v_hp (enS_id h).symm ?_
  exact lp (eMin v - 1) 0 v none (by omega) hv ⟨rfl, rfl, rfl⟩ (fun q q1 => eMin_le q1) rfl

def kD : Nat → Int32
  | 0 => -1
  | m + 1 => nI m
def eMvL (g : gV) (s p n r : Nat) : Nat → eV → eV
  | 0, y => y
  | m + 1, y => eMvL g s p n r m (wLe y (upd (eLe y) (r * 24 + m) (eMov y g s p r m n)))
def eMvR (g : gV) (s p n : Nat) : Nat → Nat → eV → eV
  | 0, _, y => y
  | d + 1, r, y => eMvR g s p n d (r + 1) (eMvL g s p n r (eRs y r) y)
theorem eMvL_kp (g : gV) (s p n r : Nat) : ∀ (m : Nat) (y : eV), eRs (eMvL g s p n r m y) = eRs y ∧ eKp (eMvL g s p n r m y) y ∧ (enOk y → enOk (eMvL g s p n r m y)) := by
  intro m
  induction m with
  | zero => intro y; exact ⟨rfl, ⟨rfl, rfl, rfl⟩, id⟩
  | succ m ih =>
    intro y
    obtain ⟨i0, ⟨i1, i2, i3⟩, i4⟩ := ih (wLe y (upd (eLe y) (r * 24 + m) (eMov y g s p r m n)))
    exact ⟨i0, ⟨i1, i2, i3⟩, fun h => i4 ⟨h.1, h.2.1, h.2.2⟩⟩
theorem eMvR_kp (g : gV) (s p n : Nat) : ∀ (d r : Nat) (y : eV), eRs (eMvR g s p n d r y) = eRs y ∧ eKp (eMvR g s p n d r y) y ∧ (enOk y → enOk (eMvR g s p n d r y)) := by
  intro d
  induction d with
  | zero => intro r y; exact ⟨rfl, ⟨rfl, rfl, rfl⟩, id⟩
  | succ d ih =>
    intro r y
    obtain ⟨i0, ⟨i1, i2, i3⟩, i4⟩ := ih (r + 1) (eMvL g s p n r (eRs y r) y)
    obtain ⟨l0, ⟨l1, l2, l3⟩, l4⟩ := eMvL_kp g s p n r (eRs y r) y
    exact ⟨i0.trans l0, ⟨i1.trans l1, i2.trans l2, i3.trans l3⟩, fun h => i4 (l4 h)⟩
def eMvA (v : eV) (g : gV) (s p n : Nat) : eV := wPl (eMvR g s p n (eRo v - 0) 0 v) (nI (p - n))
theorem kD_step (m : Nat) : nI m + Int32.ofInt (-1) = kD m := by
  cases m with
  | zero => decide
  | succ m => exact pk_m1 m

set_option maxRecDepth 100000 in
set_option maxHeartbeats 4000000 in
/-- Entry.moveLeft -/
theorem sX0_moveLeft {E : eN} (hE : eOk E) {f : aH} {t : Nat} {a c s p n : Nat} {v : eV} {g : gV} (h : enP f a v) (hv : enOk v) (hg : gnP f c g) (hgo : gOk g) (hdg : c + 8 < a ∨ a + 6 < c) (hs : eSq v = nI s) (hp : ePl v = nI p) (bs : s < 2 ^ 30) (bp : p < 2 ^ 28) (hpos : ePos v) (hn : n ≤ p) : mT E mX0_moveLeft 0 0 [.ref a, .int (nI n), .ref c] f t (fun o f' t' => o = .inl none ∧ t' = t ∧ f' = enS f a (eMvA v g s p n)) := by
  refine mT_of (n := 2) (lo := [some (.ref a), some (.int (nI n)), some (.ref c), none, none]) (by decide) (by exact Nat.le_of_ble_eq_true rfl) rfl rfl ?_
  obtain ⟨h0, h1, h2, h3, h4, h5, h6⟩ := id h
  obtain ⟨k0, k1, k2, k3⟩ := id hv
  have lp : ∀ (dr : Nat) (r : Nat) (y : eV) (z : Option Value), r + dr = eRo v → enOk y → eKp y v → eRs y = eRs v → eMvR g s p n (eRo v - 0) 0 v = eMvR g s p n (eRo v - r) r y → V E mX0_moveLeft 0 0 (fun o f' t' => o = .inl none ∧ t' = t ∧ f' = enS f a (eMvA v g s p n)) 2 [some (.ref a), some (.int (nI n)), some (.ref c), some (.int (nI r)), z] [] (enS f a y) t 0 0 := by
    intro dr
    induction dr using Nat.strongRecOn with
    | _ dr ihr =>
    intro r y z hr hy hkp hyr he
    obtain ⟨e0, e1, e2, e3, e4, e5, e6⟩ := enP_S f a y
    obtain ⟨y0, y1, y2, y3⟩ := id hy
    obtain ⟨z1, z2, z3⟩ := id hkp
    have hyr9 := congrFun hyr r
    have hx5 := y1 r
    have lq : r < eRo v → ∀ (m : Nat) (x : eV), m ≤ eRs v r → enOk x → eKp x v → eRs x = eRs v → eMvR g s p n (eRo v - 0) 0 v = eMvR g s p n (eRo v - (r + 1)) (r + 1) (eMvL g s p n r m x) → V E mX0_moveLeft 0 0 (fun o f' t' => o = .inl none ∧ t' = t ∧ f' = enS f a (eMvA v g s p n)) 20 [some (.ref a), some (.int (nI n)), some (.ref c), some (.int (nI r)), some (.int (kD m))] [] (enS f a x) t 0 0 := by
      intro hr2 m
      induction m using Nat.strongRecOn with
      | _ m ih =>
      intro x hm hx hxk hxr hxe
      obtain ⟨e0, e1, e2, e3, e4, e5, e6⟩ := enP_S f a x
      obtain ⟨x0, x1, x2, x3⟩ := id hx
      obtain ⟨w1, w2, w3⟩ := id hxk
      have hx4 := x1 r
      match m, ih, hm, hxe with
      | 0, ih, hm, hxe =>
        refine v_iload (x := kD 0) dX0_moveLeft_20 (by rfl) ?_
        refine v_if_lt (tgt := 52) dX0_moveLeft_22 (by decide) (fun c22 => ?_) (fun c22 => ?_)
        · refine v_iincN (y := 1) dX0_moveLeft_52 (by rfl) (by decide) (by decide) ?_
          refine v_goto (tgt := 2) dX0_moveLeft_55 (by decide) ?_
          exact ihr (dr - 1) (by omega) (r + 1) x (some (.int (kD 0))) (by omega) hx hxk hxr hxe
        · exact absurd (show kD 0 < 0 by decide) c22
      | m + 1, ih, hm, hxe =>
        refine v_iload (x := nI m) dX0_moveLeft_20 (by rfl) ?_
        refine v_if_lt (tgt := 52) dX0_moveLeft_22 (by decide) (fun c22 => ?_) (fun c22 => ?_)
        · exact absurd c22 (nI_pos (by omega))
        · refine v_aload_n dX0_moveLeft_25 rfl (by rfl) ?_
          refine v_getf hE dX0_moveLeft_26 fX0_15 (by repeat (first | assumption | exact va_up_self _ _ _ | refine (va_up_ne _ _ (by omega)).trans ?_)) (by rfl) ?_
          refine v_iload_n dX0_moveLeft_29 rfl (by rfl) ?_
          refine v_bipush (v := nI 24) dX0_moveLeft_30 (by decide) ?_
          refine v_imulN dX0_moveLeft_32 ?_
          refine v_iload (x := nI m) dX0_moveLeft_33 (by rfl) ?_
          refine v_iaddN dX0_moveLeft_35 ?_
          refine v_aload_n dX0_moveLeft_36 rfl (by rfl) ?_
          refine v_iload_n dX0_moveLeft_37 rfl (by rfl) ?_
          refine v_iload (x := nI m) dX0_moveLeft_38 (by rfl) ?_
          refine v_iload_n dX0_moveLeft_40 rfl (by rfl) ?_
          refine v_aload_n dX0_moveLeft_41 rfl (by rfl) ?_
          refine w_callV hE dX0_moveLeft_42 kX0_108 (by repeat (first | assumption | exact va_up_self _ _ _ | refine (va_up_ne _ _ (by omega)).trans ?_)) (by rfl) (by rfl) (sX0_movedLetter hE (enP_S f a x) hx (gn_enS hg hdg) hgo (w2.trans hs) (w3.trans hp) bs (by omega) (by omega) (by omega) hn) rfl (by decide) (by decide) (by exact Nat.le_of_ble_eq_true rfl) (by omega) (by omega) (fun v9 g9 u9 h9 => ?_) (fun _ _ _ h => by cases h.1)
          obtain ⟨hv, rfl, rfl⟩ := h9
          cases hv
          refine v_iast hE dX0_moveLeft_45 (by repeat (first | assumption | exact va_up_self _ _ _ | refine (va_up_ne _ _ (by omega)).trans ?_)) (by omega) (by omega) ?_
          refine v_iinc (v := kD m) dX0_moveLeft_46 (by rfl) (kD_step m) (by decide) ?_
          refine v_goto (tgt := 20) dX0_moveLeft_49 (by decide) ?_
          refine v_hp (show _ = enS f a (wLe x (upd (eLe x) (r * 24 + m) (eMov x g s p r m n))) from enS_ext (by repeat (first | assumption | exact va_up_self _ _ _ | refine (va_up_ne _ _ (by omega)).trans ?_)) (by repeat (first | assumption | exact va_up_self _ _ _ | refine (va_up_ne _ _ (by omega)).trans ?_)) (by repeat (first | assumption | exact va_up_self _ _ _ | refine (va_up_ne _ _ (by omega)).trans ?_)) (by repeat (first | assumption | exact va_up_self _ _ _ | refine (va_up_ne _ _ (by omega)).trans ?_)) (by repeat (first | assumption | exact va_up_self _ _ _ | refine (va_up_ne _ _ (by omega)).trans ?_)) (by repeat (first | assumption | exact va_up_self _ _ _ | refine (va_up_ne _ _ (by omega)).trans ?_)) (by repeat (first | assumption | exact va_up_self _ _ _ | refine (va_up_ne _ _ (by omega)).trans ?_)) (fun b hb => by simp only [va_up]; (repeat rw [if_neg (by omega)]); exact enS_ne hb)) ?_
          exact ih m (by omega) _ (by omega) ⟨x0, x1, x2, x3⟩ ⟨w1, w2, w3⟩ hxr hxe
    refine v_iload_n dX0_moveLeft_2 rfl (by rfl) ?_
    refine v_aload_n dX0_moveLeft_3 rfl (by rfl) ?_
    refine v_getf hE dX0_moveLeft_4 fX0_41 (by repeat (first | assumption | exact va_up_self _ _ _ | refine (va_up_ne _ _ (by omega)).trans ?_)) (by rfl) ?_
    refine v_icmp_geN (tgt := 58) dX0_moveLeft_7 (by decide) (by omega) (by omega) (fun c7 => ?_) (fun c7 => ?_)
    · rw [z3, hp] at e0
      refine v_aload_n dX0_moveLeft_58 rfl (by rfl) ?_
      refine v_dup dX0_moveLeft_59 rfl ?_
      refine v_getf hE dX0_moveLeft_60 fX0_52 (by repeat (first | assumption | exact va_up_self _ _ _ | refine (va_up_ne _ _ (by omega)).trans ?_)) (by rfl) ?_
      refine v_iload_n dX0_moveLeft_63 rfl (by rfl) ?_
      refine v_isubN dX0_moveLeft_64 (by omega) ?_
      refine v_putf hE dX0_moveLeft_65 fX0_52 (by repeat (first | assumption | exact va_up_self _ _ _ | refine (va_up_ne _ _ (by omega)).trans ?_)) (by exact Nat.le_of_ble_eq_true rfl) (by rfl) (by rfl) (by rfl) ?_
      refine v_ret dX0_moveLeft_68 rfl ?_
      refine ⟨rfl, rfl, ?_⟩
      unfold eMvA
      rw [he, show eRo v - r = 0 by omega]
      exact enS_ext (by repeat (first | assumption | exact va_up_self _ _ _ | refine (va_up_ne _ _ (by omega)).trans ?_)) (by repeat (first | assumption | exact va_up_self _ _ _ | refine (va_up_ne _ _ (by omega)).trans ?_)) (by repeat (first | assumption | exact va_up_self _ _ _ | refine (va_up_ne _ _ (by omega)).trans ?_)) (by repeat (first | assumption | exact va_up_self _ _ _ | refine (va_up_ne _ _ (by omega)).trans ?_)) (by repeat (first | assumption | exact va_up_self _ _ _ | refine (va_up_ne _ _ (by omega)).trans ?_)) (by repeat (first | assumption | exact va_up_self _ _ _ | refine (va_up_ne _ _ (by omega)).trans ?_)) (by repeat (first | assumption | exact va_up_self _ _ _ | refine (va_up_ne _ _ (by omega)).trans ?_)) (fun b hb => by simp only [va_up]; (repeat rw [if_neg (by omega)]); exact enS_ne hb)
    · have hp1 : 1 ≤ eRs y r := by rw [hyr9]; exact hpos r (by omega)
      refine v_aload_n dX0_moveLeft_10 rfl (by rfl) ?_
      refine v_getf hE dX0_moveLeft_11 fX0_18 (by repeat (first | assumption | exact va_up_self _ _ _ | refine (va_up_ne _ _ (by omega)).trans ?_)) (by rfl) ?_
      refine v_iload_n dX0_moveLeft_14 rfl (by rfl) ?_
      refine v_iald hE dX0_moveLeft_15 (by repeat (first | assumption | exact va_up_self _ _ _ | refine (va_up_ne _ _ (by omega)).trans ?_)) (by omega) (by omega) ?_
      refine v_iconst (v := nI 1) dX0_moveLeft_16 (by decide) ?_
      refine v_isubN dX0_moveLeft_17 (by omega) ?_
      refine v_istore dX0_moveLeft_18 (by decide) ?_
      refine v_lo (lo2 := [some (.ref a), some (.int (nI n)), some (.ref c), some (.int (nI r)), some (.int (kD (eRs y r)))]) (by obtain ⟨e, he9⟩ : ∃ e, eRs y r = e + 1 := ⟨eRs y r - 1, by omega⟩; rw [he9]; rfl) ?_
      exact lq (by omega) (eRs y r) y (by omega) hy hkp hyr (he.trans (by rw [show eRo v - r = (eRo v - (r + 1)) + 1 by omega]; rfl))
  refine v_iconst (v := nI 0) dX0_moveLeft_0 (by decide) ?_
  refine v_istore_n dX0_moveLeft_1 rfl (by decide) ?_
  refine v_hp (enS_id h).symm ?_
  exact lp (eRo v) 0 v none (by omega) hv ⟨rfl, rfl, rfl⟩ rfl rfl
