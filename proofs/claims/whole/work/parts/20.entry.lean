/-! Entry -/
abbrev eV : Type := (Nat → Int32) × (Nat → Int32) × (Nat → Nat) × (Nat → Int32) × (Nat → Nat) × (Nat → Bool) × Int32 × Int32 × Nat × Int32 × Bool × Nat × Nat × Int32
abbrev eId (v : eV) : Nat → Int32 := v.1
abbrev eLe (v : eV) : Nat → Int32 := v.2.1
abbrev eRs (v : eV) : Nat → Nat := v.2.2.1
abbrev eCa (v : eV) : Nat → Int32 := v.2.2.2.1
abbrev eCn (v : eV) : Nat → Nat := v.2.2.2.2.1
abbrev ePh (v : eV) : Nat → Bool := v.2.2.2.2.2.1
abbrev eSq (v : eV) : Int32 := v.2.2.2.2.2.2.1
abbrev ePl (v : eV) : Int32 := v.2.2.2.2.2.2.2.1
abbrev eRo (v : eV) : Nat := v.2.2.2.2.2.2.2.2.1
abbrev eQu (v : eV) : Int32 := v.2.2.2.2.2.2.2.2.2.1
abbrev ePa (v : eV) : Bool := v.2.2.2.2.2.2.2.2.2.2.1
abbrev eIz (v : eV) : Nat := v.2.2.2.2.2.2.2.2.2.2.2.1
abbrev eOi (v : eV) : Nat := v.2.2.2.2.2.2.2.2.2.2.2.2.1
abbrev ePr (v : eV) : Int32 := v.2.2.2.2.2.2.2.2.2.2.2.2.2
abbrev wId (v : eV) (x : Nat → Int32) : eV := (x, v.2)
abbrev wLe (v : eV) (x : Nat → Int32) : eV := (v.1, x, v.2.2)
abbrev wRs (v : eV) (x : Nat → Nat) : eV := (v.1, v.2.1, x, v.2.2.2)
abbrev wCa (v : eV) (x : Nat → Int32) : eV := (v.1, v.2.1, v.2.2.1, x, v.2.2.2.2)
abbrev wCn (v : eV) (x : Nat → Nat) : eV := (v.1, v.2.1, v.2.2.1, v.2.2.2.1, x, v.2.2.2.2.2)
abbrev wPh (v : eV) (x : Nat → Bool) : eV := (v.1, v.2.1, v.2.2.1, v.2.2.2.1, v.2.2.2.2.1, x, v.2.2.2.2.2.2)
abbrev wSq (v : eV) (x : Int32) : eV := (v.1, v.2.1, v.2.2.1, v.2.2.2.1, v.2.2.2.2.1, v.2.2.2.2.2.1, x, v.2.2.2.2.2.2.2)
abbrev wPl (v : eV) (x : Int32) : eV := (v.1, v.2.1, v.2.2.1, v.2.2.2.1, v.2.2.2.2.1, v.2.2.2.2.2.1, v.2.2.2.2.2.2.1, x, v.2.2.2.2.2.2.2.2)
abbrev wRo (v : eV) (x : Nat) : eV := (v.1, v.2.1, v.2.2.1, v.2.2.2.1, v.2.2.2.2.1, v.2.2.2.2.2.1, v.2.2.2.2.2.2.1, v.2.2.2.2.2.2.2.1, x, v.2.2.2.2.2.2.2.2.2)
abbrev wQu (v : eV) (x : Int32) : eV := (v.1, v.2.1, v.2.2.1, v.2.2.2.1, v.2.2.2.2.1, v.2.2.2.2.2.1, v.2.2.2.2.2.2.1, v.2.2.2.2.2.2.2.1, v.2.2.2.2.2.2.2.2.1, x, v.2.2.2.2.2.2.2.2.2.2)
abbrev wPa (v : eV) (x : Bool) : eV := (v.1, v.2.1, v.2.2.1, v.2.2.2.1, v.2.2.2.2.1, v.2.2.2.2.2.1, v.2.2.2.2.2.2.1, v.2.2.2.2.2.2.2.1, v.2.2.2.2.2.2.2.2.1, v.2.2.2.2.2.2.2.2.2.1, x, v.2.2.2.2.2.2.2.2.2.2.2)
abbrev wIz (v : eV) (x : Nat) : eV := (v.1, v.2.1, v.2.2.1, v.2.2.2.1, v.2.2.2.2.1, v.2.2.2.2.2.1, v.2.2.2.2.2.2.1, v.2.2.2.2.2.2.2.1, v.2.2.2.2.2.2.2.2.1, v.2.2.2.2.2.2.2.2.2.1, v.2.2.2.2.2.2.2.2.2.2.1, x, v.2.2.2.2.2.2.2.2.2.2.2.2)
abbrev wOi (v : eV) (x : Nat) : eV := (v.1, v.2.1, v.2.2.1, v.2.2.2.1, v.2.2.2.2.1, v.2.2.2.2.2.1, v.2.2.2.2.2.2.1, v.2.2.2.2.2.2.2.1, v.2.2.2.2.2.2.2.2.1, v.2.2.2.2.2.2.2.2.2.1, v.2.2.2.2.2.2.2.2.2.2.1, v.2.2.2.2.2.2.2.2.2.2.2.1, x, v.2.2.2.2.2.2.2.2.2.2.2.2.2)
abbrev wPr (v : eV) (x : Int32) : eV := (v.1, v.2.1, v.2.2.1, v.2.2.2.1, v.2.2.2.2.1, v.2.2.2.2.2.1, v.2.2.2.2.2.2.1, v.2.2.2.2.2.2.2.1, v.2.2.2.2.2.2.2.2.1, v.2.2.2.2.2.2.2.2.2.1, v.2.2.2.2.2.2.2.2.2.2.1, v.2.2.2.2.2.2.2.2.2.2.2.1, v.2.2.2.2.2.2.2.2.2.2.2.2.1, x)
def enP (f : aH) (a : Nat) (v : eV) : Prop := f a = .inr (0, [.ref (a + 1), .ref (a + 2), .ref (a + 3), .ref (a + 4), .ref (a + 5), .ref (a + 6), .int (eSq v), .int (ePl v), .int (nI (eRo v)), .int (eQu v), .int (bI (ePa v)), .int (nI (eIz v)), .int (nI (eOi v)), .int (ePr v)]) ∧ f (a + 1) = .inl (0, 20, .inl (eId v)) ∧ f (a + 2) = .inl (0, 96, .inl (eLe v)) ∧ f (a + 3) = .inl (0, 4, .inl (fun k => nI (eRs v k))) ∧ f (a + 4) = .inl (0, 6, .inl (eCa v)) ∧ f (a + 5) = .inl (0, 3, .inl (fun k => nI (eCn v k))) ∧ f (a + 6) = .inl (1, 3, .inl (fun k => bI (ePh v k)))
def enS (f : aH) (a : Nat) (v : eV) : aH := (va_up (va_up (va_up (va_up (va_up (va_up (va_up f (a + 6) (.inl (1, 3, .inl (fun k => bI (ePh v k))))) (a + 5) (.inl (0, 3, .inl (fun k => nI (eCn v k))))) (a + 4) (.inl (0, 6, .inl (eCa v)))) (a + 3) (.inl (0, 4, .inl (fun k => nI (eRs v k))))) (a + 2) (.inl (0, 96, .inl (eLe v)))) (a + 1) (.inl (0, 20, .inl (eId v)))) a (.inr (0, [.ref (a + 1), .ref (a + 2), .ref (a + 3), .ref (a + 4), .ref (a + 5), .ref (a + 6), .int (eSq v), .int (ePl v), .int (nI (eRo v)), .int (eQu v), .int (bI (ePa v)), .int (nI (eIz v)), .int (nI (eOi v)), .int (ePr v)])))
theorem enP_S (f : aH) (a : Nat) (v : eV) : enP (enS f a v) a v := ⟨va_up_self _ _ _, (va_up_ne _ _ (by omega)).trans (va_up_self _ _ _), (va_up_ne _ _ (by omega)).trans ((va_up_ne _ _ (by omega)).trans (va_up_self _ _ _)), (va_up_ne _ _ (by omega)).trans ((va_up_ne _ _ (by omega)).trans ((va_up_ne _ _ (by omega)).trans (va_up_self _ _ _))), (va_up_ne _ _ (by omega)).trans ((va_up_ne _ _ (by omega)).trans ((va_up_ne _ _ (by omega)).trans ((va_up_ne _ _ (by omega)).trans (va_up_self _ _ _)))), (va_up_ne _ _ (by omega)).trans ((va_up_ne _ _ (by omega)).trans ((va_up_ne _ _ (by omega)).trans ((va_up_ne _ _ (by omega)).trans ((va_up_ne _ _ (by omega)).trans (va_up_self _ _ _))))), (va_up_ne _ _ (by omega)).trans ((va_up_ne _ _ (by omega)).trans ((va_up_ne _ _ (by omega)).trans ((va_up_ne _ _ (by omega)).trans ((va_up_ne _ _ (by omega)).trans ((va_up_ne _ _ (by omega)).trans (va_up_self _ _ _))))))⟩
theorem enS_ne {f : aH} {a b : Nat} {v : eV} (h : b < a ∨ a + 6 < b) : enS f a v b = f b := by
  unfold enS
  simp only [va_up]
  repeat rw [if_neg (by omega)]
theorem enS_ext {f f' : aH} {a : Nat} {v : eV} (h0 : f' a = .inr (0, [.ref (a + 1), .ref (a + 2), .ref (a + 3), .ref (a + 4), .ref (a + 5), .ref (a + 6), .int (eSq v), .int (ePl v), .int (nI (eRo v)), .int (eQu v), .int (bI (ePa v)), .int (nI (eIz v)), .int (nI (eOi v)), .int (ePr v)])) (h1 : f' (a + 1) = .inl (0, 20, .inl (eId v))) (h2 : f' (a + 2) = .inl (0, 96, .inl (eLe v))) (h3 : f' (a + 3) = .inl (0, 4, .inl (fun k => nI (eRs v k)))) (h4 : f' (a + 4) = .inl (0, 6, .inl (eCa v))) (h5 : f' (a + 5) = .inl (0, 3, .inl (fun k => nI (eCn v k)))) (h6 : f' (a + 6) = .inl (1, 3, .inl (fun k => bI (ePh v k)))) (hne : ∀ b, b < a ∨ a + 6 < b → f' b = f b) : f' = enS f a v := by
  funext b
  by_cases e0 : b = a
  · rw [e0, h0]; exact ((enP_S f a v).1).symm
  by_cases e1 : b = (a + 1)
  · rw [e1, h1]; exact ((enP_S f a v).2.1).symm
  by_cases e2 : b = (a + 2)
  · rw [e2, h2]; exact ((enP_S f a v).2.2.1).symm
  by_cases e3 : b = (a + 3)
  · rw [e3, h3]; exact ((enP_S f a v).2.2.2.1).symm
  by_cases e4 : b = (a + 4)
  · rw [e4, h4]; exact ((enP_S f a v).2.2.2.2.1).symm
  by_cases e5 : b = (a + 5)
  · rw [e5, h5]; exact ((enP_S f a v).2.2.2.2.2.1).symm
  by_cases e6 : b = (a + 6)
  · rw [e6, h6]; exact ((enP_S f a v).2.2.2.2.2.2).symm
  rw [hne b (by omega), enS_ne (by omega)]
theorem enS_S {f : aH} {a : Nat} {v w : eV} : enS (enS f a v) a w = enS f a w := enS_ext (enP_S _ _ _).1 (enP_S _ _ _).2.1 (enP_S _ _ _).2.2.1 (enP_S _ _ _).2.2.2.1 (enP_S _ _ _).2.2.2.2.1 (enP_S _ _ _).2.2.2.2.2.1 (enP_S _ _ _).2.2.2.2.2.2 (fun b hb => by rw [enS_ne hb, enS_ne hb])
theorem enS_id {f : aH} {a : Nat} {v : eV} (h : enP f a v) : enS f a v = f := (enS_ext h.1 h.2.1 h.2.2.1 h.2.2.2.1 h.2.2.2.2.1 h.2.2.2.2.2.1 h.2.2.2.2.2.2 (fun _ _ => rfl)).symm

def eTr (v : eV) : Prop := True
def enOk (v : eV) : Prop := eRo v ≤ 4 ∧ (∀ k, eRs v k ≤ 24) ∧ (∀ k, eCn v k ≤ 2) ∧ eIz v ≤ 20
theorem upd_bI {s : Nat → Bool} {i : Nat} {b : Bool} : upd (fun k => bI (s k)) i (vp_nar .boolean (bI b)) = fun k => bI (va_up s i b k) := by
  have hb : vp_nar .boolean (bI b) = bI b := by cases b <;> decide
  rw [hb]
  funext k
  by_cases h : k = i
  · subst h; simp [upd, va_up]
  · simp [upd, va_up, h]
theorem nar_bI {b : Bool} : narrow .boolean (.int (bI b)) = .int (bI b) := by cases b <;> rfl
theorem fit_bI {b : Bool} : fits .boolean (.int (bI b)) = true := by cases b <;> rfl
def eCall (v : eV) (i c : Nat) : Int32 := if c < eCn v i then eCa v (i * 2 + c) else -1
def eLet (v : eV) (r : Nat) (k : Int32) : Int32 := if 0 ≤ k ∧ k < nI (eRs v r) then eLe v (r * 24 + k.toNatClampNeg) else -1
theorem eLet_in {v : eV} {r j : Nat} (h : j < eRs v r) (hz : eRs v r ≤ 24) : eLet v r (nI j) = eLe v (r * 24 + j) := by
  unfold eLet
  rw [if_pos ⟨nI_pos' (by omega), nI_lt h (by omega)⟩, nI_clamp (by omega)]
theorem eLet_out {v : eV} {r j : Nat} (h : eRs v r ≤ j) (hj : j < 2 ^ 31) : eLet v r (nI j) = -1 := by
  unfold eLet
  rw [if_neg (fun q => nI_nlt h hj q.2)]
def eAddL (v : eV) (r : Nat) (x : Int32) : eV := if eRs v r < 24 then wRs (wLe v (upd (eLe v) (r * 24 + eRs v r) x)) (va_up (eRs v) r (eRs v r + 1)) else v
def eAddI (v : eV) (x : Int32) : eV := if eIz v < 20 then wIz (wId v (upd (eId v) (eIz v) x)) (eIz v + 1) else v
def eCopyR (v : eV) (r : Nat) (w : eV) (q : Nat) : eV := wRs (wLe v (va_cpy (eLe w) (eLe v) (q * 24) (r * 24) 24)) (va_up (eRs v) r (eRs w q))
def eRowIs (v : eV) (r : Nat) (w : eV) (q : Nat) : Bool := decide (eRs v r = eRs w q) && allB (fun k => decide (eLet v r (nI k) = eLet w q (nI k))) (eRs v r - 0) 0
def eBeh (v w : eV) : Bool := decide (eSq w < eSq v) || (decide (eSq v = eSq w) && decide (ePl w < ePl v))
def eWith (v w : eV) : Bool := decide (eSq v = eSq w) && decide (ePl v = ePl w)
def eAllR (v w : eV) : Bool := decide (eRo v = eRo w) && allB (fun r => eRowIs v r w r) (eRo v - 0) 0
def eMinL (v : eV) : Nat → Nat → Nat → Nat
  | 0, _, m => m
  | d + 1, r, m => eMinL v d (r + 1) (min m (eRs v r))
def eMin (v : eV) : Nat := eMinL v (eRo v - 0) 0 24
def eReach (v : eV) (n : Nat) : Bool := allB (fun r => decide (eRs v r + n - eRs v 0 ≤ 24)) (eRo v - 0) 0
def eAlike (v : eV) (k : Nat) : Bool := allB (fun r => decide (eLet v r (nI k) = eLet v 0 (nI k))) (eRo v - 1) 1
def eAltLike (v w : eV) (q : Nat) : Int32 := fndB (fun r => eRowIs v r w q) (eRo v - 1) 1
def eHead (v w : eV) : eV := wId (wIz (wPa (wQu (wPl (wSq v (eSq w)) (ePl w)) (eQu w)) (ePa w)) (eIz w)) (va_cpy (eId w) (eId v) 0 0 20)
def eCopyC (v : eV) (i : Nat) (w : eV) (j : Nat) : eV := wPh (wCn (wCa v (upd (upd (eCa v) (i * 2 + 0) (eCa w (j * 2 + 0))) (i * 2 + (0 + 1)) (eCa w (j * 2 + (0 + 1))))) (va_up (eCn v) i (eCn w j))) (va_up (ePh v) i (ePh w j))
def eNoC (v : eV) (i : Nat) : eV := wPh (wCn (wCa v (upd (eCa v) (i * 2 + 0) (-1))) (va_up (eCn v) i 1)) (va_up (ePh v) i false)

set_option maxRecDepth 100000 in
set_option maxHeartbeats 4000000 in
/-- Entry() -/
theorem sX0_init {E : eN} (hE : eOk E) {f : aH} {t : Nat} {a : Nat} (h : f a = .inr (0, [.null, .null, .null, .null, .null, .null, .int 0, .int 0, .int 0, .int 0, .int 0, .int 0, .int 0, .int 0])) (ht : t = a + 1) : mT E mX0_init 6 132 [.ref a] f t (fun o f' t' => o = .inl none ∧ t' = t + 6 ∧ f' = enS f a ((fun _ => 0), (fun _ => 0), (fun _ => 0), (fun _ => 0), (fun _ => 0), (fun _ => false), 0, 0, 0, 0, false, 0, 0, 0)) := by
  refine mT_of (n := 0) (lo := [some (.ref a)]) (by decide) (by exact Nat.le_of_ble_eq_true rfl) rfl rfl ?_
  subst ht
  refine v_aload_n dX0_init_0 rfl (by rfl) ?_
  refine v_oinit hE dX0_init_1 oX0_3 (by decide) (by exact Nat.le_of_ble_eq_true rfl) ?_
  refine v_aload_n dX0_init_4 rfl (by rfl) ?_
  refine v_bipush (v := nI 20) dX0_init_5 (by decide) ?_
  refine v_newI hE dX0_init_7 (by omega) (by omega) (by omega) ?_
  refine v_putF hE dX0_init_9 fX0_9 (by rfl) (by rfl) (by repeat (first | assumption | exact va_up_self _ _ _ | refine (va_up_ne _ _ (by omega)).trans ?_)) (by exact Nat.le_of_ble_eq_true rfl) (by rfl) (by rfl) (by rfl) ?_
  refine v_aload_n dX0_init_12 rfl (by rfl) ?_
  refine v_bipush (v := nI 96) dX0_init_13 (by decide) ?_
  refine v_newI hE dX0_init_15 (by omega) (by omega) (by omega) ?_
  refine v_putF hE dX0_init_17 fX0_15 (by rfl) (by rfl) (by repeat (first | assumption | exact va_up_self _ _ _ | refine (va_up_ne _ _ (by omega)).trans ?_)) (by exact Nat.le_of_ble_eq_true rfl) (by rfl) (by rfl) (by rfl) ?_
  refine v_aload_n dX0_init_20 rfl (by rfl) ?_
  refine v_iconst (v := nI 4) dX0_init_21 (by decide) ?_
  refine v_newI hE dX0_init_22 (by omega) (by omega) (by omega) ?_
  refine v_putF hE dX0_init_24 fX0_18 (by rfl) (by rfl) (by repeat (first | assumption | exact va_up_self _ _ _ | refine (va_up_ne _ _ (by omega)).trans ?_)) (by exact Nat.le_of_ble_eq_true rfl) (by rfl) (by rfl) (by rfl) ?_
  refine v_aload_n dX0_init_27 rfl (by rfl) ?_
  refine v_bipush (v := nI 6) dX0_init_28 (by decide) ?_
  refine v_newI hE dX0_init_30 (by omega) (by omega) (by omega) ?_
  refine v_putF hE dX0_init_32 fX0_21 (by rfl) (by rfl) (by repeat (first | assumption | exact va_up_self _ _ _ | refine (va_up_ne _ _ (by omega)).trans ?_)) (by exact Nat.le_of_ble_eq_true rfl) (by rfl) (by rfl) (by rfl) ?_
  refine v_aload_n dX0_init_35 rfl (by rfl) ?_
  refine v_iconst (v := nI 3) dX0_init_36 (by decide) ?_
  refine v_newI hE dX0_init_37 (by omega) (by omega) (by omega) ?_
  refine v_putF hE dX0_init_39 fX0_24 (by rfl) (by rfl) (by repeat (first | assumption | exact va_up_self _ _ _ | refine (va_up_ne _ _ (by omega)).trans ?_)) (by exact Nat.le_of_ble_eq_true rfl) (by rfl) (by rfl) (by rfl) ?_
  refine v_aload_n dX0_init_42 rfl (by rfl) ?_
  refine v_iconst (v := nI 3) dX0_init_43 (by decide) ?_
  refine v_newZ hE dX0_init_44 (by omega) (by omega) (by omega) ?_
  refine v_putF hE dX0_init_46 fX0_27 (by rfl) (by rfl) (by repeat (first | assumption | exact va_up_self _ _ _ | refine (va_up_ne _ _ (by omega)).trans ?_)) (by exact Nat.le_of_ble_eq_true rfl) (by rfl) (by rfl) (by rfl) ?_
  refine v_ret dX0_init_49 rfl ?_
  exact ⟨rfl, rfl, enS_ext (by repeat (first | assumption | exact va_up_self _ _ _ | refine (va_up_ne _ _ (by omega)).trans ?_)) (by repeat (first | assumption | exact va_up_self _ _ _ | refine (va_up_ne _ _ (by omega)).trans ?_)) (by repeat (first | assumption | exact va_up_self _ _ _ | refine (va_up_ne _ _ (by omega)).trans ?_)) (by repeat (first | assumption | exact va_up_self _ _ _ | refine (va_up_ne _ _ (by omega)).trans ?_)) (by repeat (first | assumption | exact va_up_self _ _ _ | refine (va_up_ne _ _ (by omega)).trans ?_)) (by repeat (first | assumption | exact va_up_self _ _ _ | refine (va_up_ne _ _ (by omega)).trans ?_)) (by repeat (first | assumption | exact va_up_self _ _ _ | refine (va_up_ne _ _ (by omega)).trans ?_)) (fun b hb => by simp only [va_up]; (repeat rw [if_neg (by omega)]))⟩

set_option maxRecDepth 100000 in
set_option maxHeartbeats 4000000 in
/-- Entry.setCall -/
theorem sX0_setCall {E : eN} (hE : eOk E) {f : aH} {t : Nat} {a i c : Nat} {v : eV} {x : Int32} (h : enP f a v) (hv : enOk v) (hi : i < 3) (hc : c < 2) : mT E mX0_setCall 0 0 [.ref a, .int (nI i), .int (nI c), .int x] f t (fun o f' t' => o = .inl none ∧ t' = t ∧ f' = enS f a (wCa v (upd (eCa v) (i * 2 + c) x))) := by
  refine mT_of (n := 0) (lo := [some (.ref a), some (.int (nI i)), some (.int (nI c)), some (.int x)]) (by decide) (by exact Nat.le_of_ble_eq_true rfl) rfl rfl ?_
  obtain ⟨h0, h1, h2, h3, h4, h5, h6⟩ := id h
  obtain ⟨k0, k1, k2, k3⟩ := id hv
  refine v_aload_n dX0_setCall_0 rfl (by rfl) ?_
  refine v_getf hE dX0_setCall_1 fX0_21 (by repeat (first | assumption | exact va_up_self _ _ _ | refine (va_up_ne _ _ (by omega)).trans ?_)) (by rfl) ?_
  refine v_iload_n dX0_setCall_4 rfl (by rfl) ?_
  refine v_iconst (v := nI 2) dX0_setCall_5 (by decide) ?_
  refine v_imulN dX0_setCall_6 ?_
  refine v_iload_n dX0_setCall_7 rfl (by rfl) ?_
  refine v_iaddN dX0_setCall_8 ?_
  refine v_iload_n dX0_setCall_9 rfl (by rfl) ?_
  refine v_iast hE dX0_setCall_10 (by repeat (first | assumption | exact va_up_self _ _ _ | refine (va_up_ne _ _ (by omega)).trans ?_)) (by omega) (by omega) ?_
  refine v_ret dX0_setCall_11 rfl ?_
  exact ⟨rfl, rfl, enS_ext (by repeat (first | assumption | exact va_up_self _ _ _ | refine (va_up_ne _ _ (by omega)).trans ?_)) (by repeat (first | assumption | exact va_up_self _ _ _ | refine (va_up_ne _ _ (by omega)).trans ?_)) (by repeat (first | assumption | exact va_up_self _ _ _ | refine (va_up_ne _ _ (by omega)).trans ?_)) (by repeat (first | assumption | exact va_up_self _ _ _ | refine (va_up_ne _ _ (by omega)).trans ?_)) (by repeat (first | assumption | exact va_up_self _ _ _ | refine (va_up_ne _ _ (by omega)).trans ?_)) (by repeat (first | assumption | exact va_up_self _ _ _ | refine (va_up_ne _ _ (by omega)).trans ?_)) (by repeat (first | assumption | exact va_up_self _ _ _ | refine (va_up_ne _ _ (by omega)).trans ?_)) (fun b hb => by simp only [va_up]; (repeat rw [if_neg (by omega)]))⟩

set_option maxRecDepth 100000 in
set_option maxHeartbeats 4000000 in
/-- Entry.setNoCall -/
theorem sX0_setNoCall {E : eN} (hE : eOk E) {f : aH} {t : Nat} {a i : Nat} {v : eV} (h : enP f a v) (hv : enOk v) (hi : i < 3) : mT E mX0_setNoCall 0 0 [.ref a, .int (nI i)] f t (fun o f' t' => o = .inl none ∧ t' = t ∧ f' = enS f a (eNoC v i)) := by
  refine mT_of (n := 0) (lo := [some (.ref a), some (.int (nI i))]) (by decide) (by exact Nat.le_of_ble_eq_true rfl) rfl rfl ?_
  obtain ⟨h0, h1, h2, h3, h4, h5, h6⟩ := id h
  obtain ⟨k0, k1, k2, k3⟩ := id hv
  refine v_aload_n dX0_setNoCall_0 rfl (by rfl) ?_
  refine v_iload_n dX0_setNoCall_1 rfl (by rfl) ?_
  refine v_iconst (v := nI 0) dX0_setNoCall_2 (by decide) ?_
  refine v_iconst (v := (-1)) dX0_setNoCall_3 (by decide) ?_
  refine w_callV hE dX0_setNoCall_4 kX0_65 (by repeat (first | assumption | exact va_up_self _ _ _ | refine (va_up_ne _ _ (by omega)).trans ?_)) (by rfl) (by rfl) (sX0_setCall hE h hv hi (by omega)) rfl (by decide) (by decide) (by exact Nat.le_of_ble_eq_true rfl) (by omega) (by omega) (fun v9 g9 u9 h9 => ?_) (fun _ _ _ h => by cases h.1)
  obtain ⟨hv, rfl, rfl⟩ := h9
  cases hv
  obtain ⟨e0, e1, e2, e3, e4, e5, e6⟩ := enP_S f a (wCa v (upd (eCa v) (i * 2 + 0) (-1)))
  refine v_aload_n dX0_setNoCall_7 rfl (by rfl) ?_
  refine v_getf hE dX0_setNoCall_8 fX0_24 (by repeat (first | assumption | exact va_up_self _ _ _ | refine (va_up_ne _ _ (by omega)).trans ?_)) (by rfl) ?_
  refine v_iload_n dX0_setNoCall_11 rfl (by rfl) ?_
  refine v_iconst (v := nI 1) dX0_setNoCall_12 (by decide) ?_
  refine v_iast hE dX0_setNoCall_13 (by repeat (first | assumption | exact va_up_self _ _ _ | refine (va_up_ne _ _ (by omega)).trans ?_)) (by omega) (by omega) ?_
  rw [show nI 1 = nI 1 from rfl, upd_nI]
  refine v_aload_n dX0_setNoCall_14 rfl (by rfl) ?_
  refine v_getf hE dX0_setNoCall_15 fX0_27 (by repeat (first | assumption | exact va_up_self _ _ _ | refine (va_up_ne _ _ (by omega)).trans ?_)) (by rfl) ?_
  refine v_iload_n dX0_setNoCall_18 rfl (by rfl) ?_
  refine v_iconst (v := nI 0) dX0_setNoCall_19 (by decide) ?_
  refine v_zast hE dX0_setNoCall_20 (by repeat (first | assumption | exact va_up_self _ _ _ | refine (va_up_ne _ _ (by omega)).trans ?_)) (by omega) (by omega) ?_
  rw [show nI 0 = bI false from rfl, upd_bI]
  refine v_ret dX0_setNoCall_21 rfl ?_
  exact ⟨rfl, rfl, enS_ext (by repeat (first | assumption | exact va_up_self _ _ _ | refine (va_up_ne _ _ (by omega)).trans ?_)) (by repeat (first | assumption | exact va_up_self _ _ _ | refine (va_up_ne _ _ (by omega)).trans ?_)) (by repeat (first | assumption | exact va_up_self _ _ _ | refine (va_up_ne _ _ (by omega)).trans ?_)) (by repeat (first | assumption | exact va_up_self _ _ _ | refine (va_up_ne _ _ (by omega)).trans ?_)) (by repeat (first | assumption | exact va_up_self _ _ _ | refine (va_up_ne _ _ (by omega)).trans ?_)) (by repeat (first | assumption | exact va_up_self _ _ _ | refine (va_up_ne _ _ (by omega)).trans ?_)) (by repeat (first | assumption | exact va_up_self _ _ _ | refine (va_up_ne _ _ (by omega)).trans ?_)) (fun b hb => by simp only [va_up]; (repeat rw [if_neg (by omega)]); exact enS_ne hb)⟩

set_option maxRecDepth 100000 in
set_option maxHeartbeats 4000000 in
/-- Entry.callAt -/
theorem sX0_callAt {E : eN} (hE : eOk E) {f : aH} {t : Nat} {a i c : Nat} {v : eV} (h : enP f a v) (hv : enOk v) (hi : i < 3) (hc : c < 2) : mT E mX0_callAt 0 0 [.ref a, .int (nI i), .int (nI c)] f t (fun o f' t' => o = .inl (some (.int (eCall v i c))) ∧ t' = t ∧ f' = f) := by
  refine mT_of (n := 0) (lo := [some (.ref a), some (.int (nI i)), some (.int (nI c))]) (by decide) (by exact Nat.le_of_ble_eq_true rfl) rfl rfl ?_
  obtain ⟨h0, h1, h2, h3, h4, h5, h6⟩ := id h
  obtain ⟨k0, k1, k2, k3⟩ := id hv
  have k4 := k2 i
  refine v_iload_n dX0_callAt_0 rfl (by rfl) ?_
  refine v_aload_n dX0_callAt_1 rfl (by rfl) ?_
  refine v_getf hE dX0_callAt_2 fX0_24 (by repeat (first | assumption | exact va_up_self _ _ _ | refine (va_up_ne _ _ (by omega)).trans ?_)) (by rfl) ?_
  refine v_iload_n dX0_callAt_5 rfl (by rfl) ?_
  refine v_iald hE dX0_callAt_6 (by repeat (first | assumption | exact va_up_self _ _ _ | refine (va_up_ne _ _ (by omega)).trans ?_)) (by omega) (by omega) ?_
  refine v_icmp_geN (tgt := 23) dX0_callAt_7 (by decide) (by omega) (by omega) (fun c7 => ?_) (fun c7 => ?_)
  · refine v_iconst (v := (-1)) dX0_callAt_23 (by decide) ?_
    refine v_iret dX0_callAt_24 rfl (by rfl) ?_
    refine ⟨congrArg (fun x => (Sum.inl (some (Value.int x)) : aO)) ?_, rfl, rfl⟩
    unfold eCall
    first | rw [if_pos (by assumption)] | rw [if_neg (by omega)]
  · refine v_aload_n dX0_callAt_10 rfl (by rfl) ?_
    refine v_getf hE dX0_callAt_11 fX0_21 (by repeat (first | assumption | exact va_up_self _ _ _ | refine (va_up_ne _ _ (by omega)).trans ?_)) (by rfl) ?_
    refine v_iload_n dX0_callAt_14 rfl (by rfl) ?_
    refine v_iconst (v := nI 2) dX0_callAt_15 (by decide) ?_
    refine v_imulN dX0_callAt_16 ?_
    refine v_iload_n dX0_callAt_17 rfl (by rfl) ?_
    refine v_iaddN dX0_callAt_18 ?_
    refine v_iald hE dX0_callAt_19 (by repeat (first | assumption | exact va_up_self _ _ _ | refine (va_up_ne _ _ (by omega)).trans ?_)) (by omega) (by omega) ?_
    refine v_goto (tgt := 24) dX0_callAt_20 (by decide) ?_
    refine v_iret dX0_callAt_24 rfl (by rfl) ?_
    refine ⟨congrArg (fun x => (Sum.inl (some (Value.int x)) : aO)) ?_, rfl, rfl⟩
    unfold eCall
    first | rw [if_pos (by assumption)] | rw [if_neg (by omega)]

set_option maxRecDepth 100000 in
set_option maxHeartbeats 4000000 in
/-- Entry.letterAt -/
theorem sX0_letterAt {E : eN} (hE : eOk E) {f : aH} {t : Nat} {a r : Nat} {v : eV} {k : Int32} (h : enP f a v) (hv : enOk v) (hr : r < 4) : mT E mX0_letterAt 0 0 [.ref a, .int (nI r), .int k] f t (fun o f' t' => o = .inl (some (.int (eLet v r k))) ∧ t' = t ∧ f' = f) := by
  refine mT_of (n := 0) (lo := [some (.ref a), some (.int (nI r)), some (.int k)]) (by decide) (by exact Nat.le_of_ble_eq_true rfl) rfl rfl ?_
  obtain ⟨h0, h1, h2, h3, h4, h5, h6⟩ := id h
  obtain ⟨k0, k1, k2, k3⟩ := id hv
  have k4 := k1 r
  refine v_iload_n dX0_letterAt_0 rfl (by rfl) ?_
  refine v_if_lt (tgt := 28) dX0_letterAt_1 (by decide) (fun c1 => ?_) (fun c1 => ?_)
  · refine v_iconst (v := (-1)) dX0_letterAt_28 (by decide) ?_
    refine v_iret dX0_letterAt_29 rfl (by rfl) ?_
    refine ⟨congrArg (fun x => (Sum.inl (some (Value.int x)) : aO)) ?_, rfl, rfl⟩
    first | rw [eLet_in (by assumption) k4] | rw [eLet_out (by assumption) (by omega)] | (unfold eLet; rw [if_neg (fun q => absurd c1 (Int32.not_lt.mpr q.1))])
  · obtain ⟨j, hj, rfl⟩ := nI_of c1
    refine v_iload_n dX0_letterAt_4 rfl (by rfl) ?_
    refine v_aload_n dX0_letterAt_5 rfl (by rfl) ?_
    refine v_getf hE dX0_letterAt_6 fX0_18 (by repeat (first | assumption | exact va_up_self _ _ _ | refine (va_up_ne _ _ (by omega)).trans ?_)) (by rfl) ?_
    refine v_iload_n dX0_letterAt_9 rfl (by rfl) ?_
    refine v_iald hE dX0_letterAt_10 (by repeat (first | assumption | exact va_up_self _ _ _ | refine (va_up_ne _ _ (by omega)).trans ?_)) (by omega) (by omega) ?_
    refine v_icmp_geN (tgt := 28) dX0_letterAt_11 (by decide) (by omega) (by omega) (fun c11 => ?_) (fun c11 => ?_)
    · refine v_iconst (v := (-1)) dX0_letterAt_28 (by decide) ?_
      refine v_iret dX0_letterAt_29 rfl (by rfl) ?_
      refine ⟨congrArg (fun x => (Sum.inl (some (Value.int x)) : aO)) ?_, rfl, rfl⟩
      first | rw [eLet_in (by assumption) k4] | rw [eLet_out (by assumption) (by omega)] | (unfold eLet; rw [if_neg (fun q => absurd c1 (Int32.not_lt.mpr q.1))])
    · refine v_aload_n dX0_letterAt_14 rfl (by rfl) ?_
      refine v_getf hE dX0_letterAt_15 fX0_15 (by repeat (first | assumption | exact va_up_self _ _ _ | refine (va_up_ne _ _ (by omega)).trans ?_)) (by rfl) ?_
      refine v_iload_n dX0_letterAt_18 rfl (by rfl) ?_
      refine v_bipush (v := nI 24) dX0_letterAt_19 (by decide) ?_
      refine v_imulN dX0_letterAt_21 ?_
      refine v_iload_n dX0_letterAt_22 rfl (by rfl) ?_
      refine v_iaddN dX0_letterAt_23 ?_
      refine v_iald hE dX0_letterAt_24 (by repeat (first | assumption | exact va_up_self _ _ _ | refine (va_up_ne _ _ (by omega)).trans ?_)) (by omega) (by omega) ?_
      refine v_goto (tgt := 29) dX0_letterAt_25 (by decide) ?_
      refine v_iret dX0_letterAt_29 rfl (by rfl) ?_
      refine ⟨congrArg (fun x => (Sum.inl (some (Value.int x)) : aO)) ?_, rfl, rfl⟩
      first | rw [eLet_in (by assumption) k4] | rw [eLet_out (by assumption) (by omega)] | (unfold eLet; rw [if_neg (fun q => absurd c1 (Int32.not_lt.mpr q.1))])

set_option maxRecDepth 100000 in
set_option maxHeartbeats 4000000 in
/-- Entry.addLetter -/
theorem sX0_addLetter {E : eN} (hE : eOk E) {f : aH} {t : Nat} {a r : Nat} {v : eV} {x : Int32} (h : enP f a v) (hv : enOk v) (hr : r < 4) : mT E mX0_addLetter 0 0 [.ref a, .int (nI r), .int x] f t (fun o f' t' => o = .inl none ∧ t' = t ∧ f' = enS f a (eAddL v r x)) := by
  refine mT_of (n := 0) (lo := [some (.ref a), some (.int (nI r)), some (.int x)]) (by decide) (by exact Nat.le_of_ble_eq_true rfl) rfl rfl ?_
  obtain ⟨h0, h1, h2, h3, h4, h5, h6⟩ := id h
  obtain ⟨k0, k1, k2, k3⟩ := id hv
  have k4 := k1 r
  refine v_aload_n dX0_addLetter_0 rfl (by rfl) ?_
  refine v_getf hE dX0_addLetter_1 fX0_18 (by repeat (first | assumption | exact va_up_self _ _ _ | refine (va_up_ne _ _ (by omega)).trans ?_)) (by rfl) ?_
  refine v_iload_n dX0_addLetter_4 rfl (by rfl) ?_
  refine v_iald hE dX0_addLetter_5 (by repeat (first | assumption | exact va_up_self _ _ _ | refine (va_up_ne _ _ (by omega)).trans ?_)) (by omega) (by omega) ?_
  refine v_bipush (v := nI 24) dX0_addLetter_6 (by decide) ?_
  refine v_icmp_geN (tgt := 38) dX0_addLetter_8 (by decide) (by omega) (by omega) (fun c8 => ?_) (fun c8 => ?_)
  · first | rw [upd_nI] | skip
    refine v_ret dX0_addLetter_38 rfl ?_
    refine ⟨rfl, rfl, ?_⟩
    unfold eAddL
    first | (rw [if_neg (by omega)]; exact (enS_id h).symm) | (rw [if_pos (by omega)]; exact enS_ext (by repeat (first | assumption | exact va_up_self _ _ _ | refine (va_up_ne _ _ (by omega)).trans ?_)) (by repeat (first | assumption | exact va_up_self _ _ _ | refine (va_up_ne _ _ (by omega)).trans ?_)) (by repeat (first | assumption | exact va_up_self _ _ _ | refine (va_up_ne _ _ (by omega)).trans ?_)) (by repeat (first | assumption | exact va_up_self _ _ _ | refine (va_up_ne _ _ (by omega)).trans ?_)) (by repeat (first | assumption | exact va_up_self _ _ _ | refine (va_up_ne _ _ (by omega)).trans ?_)) (by repeat (first | assumption | exact va_up_self _ _ _ | refine (va_up_ne _ _ (by omega)).trans ?_)) (by repeat (first | assumption | exact va_up_self _ _ _ | refine (va_up_ne _ _ (by omega)).trans ?_)) (fun b hb => by simp only [va_up]; (repeat rw [if_neg (by omega)])))
  · refine v_aload_n dX0_addLetter_11 rfl (by rfl) ?_
    refine v_getf hE dX0_addLetter_12 fX0_15 (by repeat (first | assumption | exact va_up_self _ _ _ | refine (va_up_ne _ _ (by omega)).trans ?_)) (by rfl) ?_
    refine v_iload_n dX0_addLetter_15 rfl (by rfl) ?_
    refine v_bipush (v := nI 24) dX0_addLetter_16 (by decide) ?_
    refine v_imulN dX0_addLetter_18 ?_
    refine v_aload_n dX0_addLetter_19 rfl (by rfl) ?_
    refine v_getf hE dX0_addLetter_20 fX0_18 (by repeat (first | assumption | exact va_up_self _ _ _ | refine (va_up_ne _ _ (by omega)).trans ?_)) (by rfl) ?_
    refine v_iload_n dX0_addLetter_23 rfl (by rfl) ?_
    refine v_iald hE dX0_addLetter_24 (by repeat (first | assumption | exact va_up_self _ _ _ | refine (va_up_ne _ _ (by omega)).trans ?_)) (by omega) (by omega) ?_
    refine v_iaddN dX0_addLetter_25 ?_
    refine v_iload_n dX0_addLetter_26 rfl (by rfl) ?_
    refine v_iast hE dX0_addLetter_27 (by repeat (first | assumption | exact va_up_self _ _ _ | refine (va_up_ne _ _ (by omega)).trans ?_)) (by omega) (by omega) ?_
    refine v_aload_n dX0_addLetter_28 rfl (by rfl) ?_
    refine v_getf hE dX0_addLetter_29 fX0_18 (by repeat (first | assumption | exact va_up_self _ _ _ | refine (va_up_ne _ _ (by omega)).trans ?_)) (by rfl) ?_
    refine v_iload_n dX0_addLetter_32 rfl (by rfl) ?_
    refine v_dup2 dX0_addLetter_33 rfl rfl ?_
    refine v_iald hE dX0_addLetter_34 (by repeat (first | assumption | exact va_up_self _ _ _ | refine (va_up_ne _ _ (by omega)).trans ?_)) (by omega) (by omega) ?_
    refine v_iconst (v := nI 1) dX0_addLetter_35 (by decide) ?_
    refine v_iaddN dX0_addLetter_36 ?_
    refine v_iast hE dX0_addLetter_37 (by repeat (first | assumption | exact va_up_self _ _ _ | refine (va_up_ne _ _ (by omega)).trans ?_)) (by omega) (by omega) ?_
    first | rw [upd_nI] | skip
    refine v_ret dX0_addLetter_38 rfl ?_
    refine ⟨rfl, rfl, ?_⟩
    unfold eAddL
    first | (rw [if_neg (by omega)]; exact (enS_id h).symm) | (rw [if_pos (by omega)]; exact enS_ext (by repeat (first | assumption | exact va_up_self _ _ _ | refine (va_up_ne _ _ (by omega)).trans ?_)) (by repeat (first | assumption | exact va_up_self _ _ _ | refine (va_up_ne _ _ (by omega)).trans ?_)) (by repeat (first | assumption | exact va_up_self _ _ _ | refine (va_up_ne _ _ (by omega)).trans ?_)) (by repeat (first | assumption | exact va_up_self _ _ _ | refine (va_up_ne _ _ (by omega)).trans ?_)) (by repeat (first | assumption | exact va_up_self _ _ _ | refine (va_up_ne _ _ (by omega)).trans ?_)) (by repeat (first | assumption | exact va_up_self _ _ _ | refine (va_up_ne _ _ (by omega)).trans ?_)) (by repeat (first | assumption | exact va_up_self _ _ _ | refine (va_up_ne _ _ (by omega)).trans ?_)) (fun b hb => by simp only [va_up]; (repeat rw [if_neg (by omega)])))

set_option maxRecDepth 100000 in
set_option maxHeartbeats 4000000 in
/-- Entry.addIdOctet -/
theorem sX0_addIdOctet {E : eN} (hE : eOk E) {f : aH} {t : Nat} {a : Nat} {v : eV} {x : Int32} (h : enP f a v) (hv : enOk v) : mT E mX0_addIdOctet 0 0 [.ref a, .int x] f t (fun o f' t' => o = .inl none ∧ t' = t ∧ f' = enS f a (eAddI v x)) := by
  refine mT_of (n := 0) (lo := [some (.ref a), some (.int x)]) (by decide) (by exact Nat.le_of_ble_eq_true rfl) rfl rfl ?_
  obtain ⟨h0, h1, h2, h3, h4, h5, h6⟩ := id h
  obtain ⟨k0, k1, k2, k3⟩ := id hv
  refine v_aload_n dX0_addIdOctet_0 rfl (by rfl) ?_
  refine v_getf hE dX0_addIdOctet_1 fX0_62 (by repeat (first | assumption | exact va_up_self _ _ _ | refine (va_up_ne _ _ (by omega)).trans ?_)) (by rfl) ?_
  refine v_bipush (v := nI 20) dX0_addIdOctet_4 (by decide) ?_
  refine v_icmp_geN (tgt := 29) dX0_addIdOctet_6 (by decide) (by omega) (by omega) (fun c6 => ?_) (fun c6 => ?_)
  · refine v_ret dX0_addIdOctet_29 rfl ?_
    refine ⟨rfl, rfl, ?_⟩
    unfold eAddI
    first | (rw [if_neg (by omega)]; exact (enS_id h).symm) | (rw [if_pos (by omega)]; exact enS_ext (by repeat (first | assumption | exact va_up_self _ _ _ | refine (va_up_ne _ _ (by omega)).trans ?_)) (by repeat (first | assumption | exact va_up_self _ _ _ | refine (va_up_ne _ _ (by omega)).trans ?_)) (by repeat (first | assumption | exact va_up_self _ _ _ | refine (va_up_ne _ _ (by omega)).trans ?_)) (by repeat (first | assumption | exact va_up_self _ _ _ | refine (va_up_ne _ _ (by omega)).trans ?_)) (by repeat (first | assumption | exact va_up_self _ _ _ | refine (va_up_ne _ _ (by omega)).trans ?_)) (by repeat (first | assumption | exact va_up_self _ _ _ | refine (va_up_ne _ _ (by omega)).trans ?_)) (by repeat (first | assumption | exact va_up_self _ _ _ | refine (va_up_ne _ _ (by omega)).trans ?_)) (fun b hb => by simp only [va_up]; (repeat rw [if_neg (by omega)])))
  · refine v_aload_n dX0_addIdOctet_9 rfl (by rfl) ?_
    refine v_getf hE dX0_addIdOctet_10 fX0_9 (by repeat (first | assumption | exact va_up_self _ _ _ | refine (va_up_ne _ _ (by omega)).trans ?_)) (by rfl) ?_
    refine v_aload_n dX0_addIdOctet_13 rfl (by rfl) ?_
    refine v_getf hE dX0_addIdOctet_14 fX0_62 (by repeat (first | assumption | exact va_up_self _ _ _ | refine (va_up_ne _ _ (by omega)).trans ?_)) (by rfl) ?_
    refine v_iload_n dX0_addIdOctet_17 rfl (by rfl) ?_
    refine v_iast hE dX0_addIdOctet_18 (by repeat (first | assumption | exact va_up_self _ _ _ | refine (va_up_ne _ _ (by omega)).trans ?_)) (by omega) (by omega) ?_
    refine v_aload_n dX0_addIdOctet_19 rfl (by rfl) ?_
    refine v_dup dX0_addIdOctet_20 rfl ?_
    refine v_getf hE dX0_addIdOctet_21 fX0_62 (by repeat (first | assumption | exact va_up_self _ _ _ | refine (va_up_ne _ _ (by omega)).trans ?_)) (by rfl) ?_
    refine v_iconst (v := nI 1) dX0_addIdOctet_24 (by decide) ?_
    refine v_iaddN dX0_addIdOctet_25 ?_
    refine v_putf hE dX0_addIdOctet_26 fX0_62 (by repeat (first | assumption | exact va_up_self _ _ _ | refine (va_up_ne _ _ (by omega)).trans ?_)) (by exact Nat.le_of_ble_eq_true rfl) (by rfl) (by rfl) (by rfl) ?_
    refine v_ret dX0_addIdOctet_29 rfl ?_
    refine ⟨rfl, rfl, ?_⟩
    unfold eAddI
    first | (rw [if_neg (by omega)]; exact (enS_id h).symm) | (rw [if_pos (by omega)]; exact enS_ext (by repeat (first | assumption | exact va_up_self _ _ _ | refine (va_up_ne _ _ (by omega)).trans ?_)) (by repeat (first | assumption | exact va_up_self _ _ _ | refine (va_up_ne _ _ (by omega)).trans ?_)) (by repeat (first | assumption | exact va_up_self _ _ _ | refine (va_up_ne _ _ (by omega)).trans ?_)) (by repeat (first | assumption | exact va_up_self _ _ _ | refine (va_up_ne _ _ (by omega)).trans ?_)) (by repeat (first | assumption | exact va_up_self _ _ _ | refine (va_up_ne _ _ (by omega)).trans ?_)) (by repeat (first | assumption | exact va_up_self _ _ _ | refine (va_up_ne _ _ (by omega)).trans ?_)) (by repeat (first | assumption | exact va_up_self _ _ _ | refine (va_up_ne _ _ (by omega)).trans ?_)) (fun b hb => by simp only [va_up]; (repeat rw [if_neg (by omega)])))

set_option maxRecDepth 100000 in
set_option maxHeartbeats 4000000 in
/-- Entry.copyRow -/
theorem sX0_copyRow {E : eN} (hE : eOk E) {f : aH} {t : Nat} {a b r q : Nat} {v w : eV} (h : enP f a v) (hv : enOk v) (hb : enP f b w) (hw : enOk w) (hd : b + 6 < a ∨ a + 6 < b) (hr : r < 4) (hq : q < 4) : mT E mX0_copyRow 0 0 [.ref a, .int (nI r), .ref b, .int (nI q)] f t (fun o f' t' => o = .inl none ∧ t' = t ∧ f' = enS f a (eCopyR v r w q)) := by
  refine mT_of (n := 1) (lo := [some (.ref a), some (.int (nI r)), some (.ref b), some (.int (nI q)), none]) (by decide) (by exact Nat.le_of_ble_eq_true rfl) rfl rfl ?_
  obtain ⟨h0, h1, h2, h3, h4, h5, h6⟩ := id h
  obtain ⟨k0, k1, k2, k3⟩ := id hv
  obtain ⟨g0, g1, g2, g3, g4, g5, g6⟩ := id hb
  obtain ⟨q0, q1, q2, q3⟩ := id hw
  refine v_iload_n dX0_copyRow_0 rfl (by rfl) ?_
  refine v_bipush (v := nI 24) dX0_copyRow_1 (by decide) ?_
  refine v_imulN dX0_copyRow_3 ?_
  refine v_istore dX0_copyRow_4 (by decide) ?_
  refine v_aload_n dX0_copyRow_6 rfl (by rfl) ?_
  refine v_getf hE dX0_copyRow_7 fX0_15 (by repeat (first | assumption | exact va_up_self _ _ _ | refine (va_up_ne _ _ (by omega)).trans ?_)) (by rfl) ?_
  refine v_iload dX0_copyRow_10 (by rfl) ?_
  refine v_aload_n dX0_copyRow_12 rfl (by rfl) ?_
  refine v_getf hE dX0_copyRow_13 fX0_15 (by repeat (first | assumption | exact va_up_self _ _ _ | refine (va_up_ne _ _ (by omega)).trans ?_)) (by rfl) ?_
  refine v_iload_n dX0_copyRow_16 rfl (by rfl) ?_
  refine v_bipush (v := nI 24) dX0_copyRow_17 (by decide) ?_
  refine v_imulN dX0_copyRow_19 ?_
  refine v_bipush (v := nI 24) dX0_copyRow_20 (by decide) ?_
  refine v_acopy hE dX0_copyRow_22 aX0_35 (by decide) (by exact Nat.le_of_ble_eq_true rfl) (by repeat (first | assumption | exact va_up_self _ _ _ | refine (va_up_ne _ _ (by omega)).trans ?_)) (by repeat (first | assumption | exact va_up_self _ _ _ | refine (va_up_ne _ _ (by omega)).trans ?_)) (by omega) (by omega) (by omega) (by omega) (by omega) ?_
  refine v_aload_n dX0_copyRow_25 rfl (by rfl) ?_
  refine v_getf hE dX0_copyRow_26 fX0_18 (by repeat (first | assumption | exact va_up_self _ _ _ | refine (va_up_ne _ _ (by omega)).trans ?_)) (by rfl) ?_
  refine v_iload_n dX0_copyRow_29 rfl (by rfl) ?_
  refine v_aload_n dX0_copyRow_30 rfl (by rfl) ?_
  refine v_getf hE dX0_copyRow_31 fX0_18 (by repeat (first | assumption | exact va_up_self _ _ _ | refine (va_up_ne _ _ (by omega)).trans ?_)) (by rfl) ?_
  refine v_iload_n dX0_copyRow_34 rfl (by rfl) ?_
  refine v_iald hE dX0_copyRow_35 (by repeat (first | assumption | exact va_up_self _ _ _ | refine (va_up_ne _ _ (by omega)).trans ?_)) (by omega) (by omega) ?_
  refine v_iast hE dX0_copyRow_36 (by repeat (first | assumption | exact va_up_self _ _ _ | refine (va_up_ne _ _ (by omega)).trans ?_)) (by omega) (by omega) ?_
  rw [upd_nI]
  refine v_ret dX0_copyRow_37 rfl ?_
  exact ⟨rfl, rfl, enS_ext (by repeat (first | assumption | exact va_up_self _ _ _ | refine (va_up_ne _ _ (by omega)).trans ?_)) (by repeat (first | assumption | exact va_up_self _ _ _ | refine (va_up_ne _ _ (by omega)).trans ?_)) (by repeat (first | assumption | exact va_up_self _ _ _ | refine (va_up_ne _ _ (by omega)).trans ?_)) (by repeat (first | assumption | exact va_up_self _ _ _ | refine (va_up_ne _ _ (by omega)).trans ?_)) (by repeat (first | assumption | exact va_up_self _ _ _ | refine (va_up_ne _ _ (by omega)).trans ?_)) (by repeat (first | assumption | exact va_up_self _ _ _ | refine (va_up_ne _ _ (by omega)).trans ?_)) (by repeat (first | assumption | exact va_up_self _ _ _ | refine (va_up_ne _ _ (by omega)).trans ?_)) (fun b hb => by simp only [va_up]; (repeat rw [if_neg (by omega)]))⟩

set_option maxRecDepth 100000 in
set_option maxHeartbeats 4000000 in
/-- Entry.copyHead -/
theorem sX0_copyHead {E : eN} (hE : eOk E) {f : aH} {t : Nat} {a b : Nat} {v w : eV} (h : enP f a v) (hv : enOk v) (hb : enP f b w) (hw : enOk w) (hd : b + 6 < a ∨ a + 6 < b) : mT E mX0_copyHead 0 0 [.ref a, .ref b] f t (fun o f' t' => o = .inl none ∧ t' = t ∧ f' = enS f a (eHead v w)) := by
  refine mT_of (n := 0) (lo := [some (.ref a), some (.ref b)]) (by decide) (by exact Nat.le_of_ble_eq_true rfl) rfl rfl ?_
  obtain ⟨h0, h1, h2, h3, h4, h5, h6⟩ := id h
  obtain ⟨k0, k1, k2, k3⟩ := id hv
  obtain ⟨g0, g1, g2, g3, g4, g5, g6⟩ := id hb
  obtain ⟨q0, q1, q2, q3⟩ := id hw
  refine v_aload_n dX0_copyHead_0 rfl (by rfl) ?_
  refine v_aload_n dX0_copyHead_1 rfl (by rfl) ?_
  refine v_getf hE dX0_copyHead_2 fX0_49 (by repeat (first | assumption | exact va_up_self _ _ _ | refine (va_up_ne _ _ (by omega)).trans ?_)) (by rfl) ?_
  refine v_putf hE dX0_copyHead_5 fX0_49 (by repeat (first | assumption | exact va_up_self _ _ _ | refine (va_up_ne _ _ (by omega)).trans ?_)) (by exact Nat.le_of_ble_eq_true rfl) (by rfl) (by rfl) (by rfl) ?_
  refine v_aload_n dX0_copyHead_8 rfl (by rfl) ?_
  refine v_aload_n dX0_copyHead_9 rfl (by rfl) ?_
  refine v_getf hE dX0_copyHead_10 fX0_52 (by repeat (first | assumption | exact va_up_self _ _ _ | refine (va_up_ne _ _ (by omega)).trans ?_)) (by rfl) ?_
  refine v_putf hE dX0_copyHead_13 fX0_52 (by repeat (first | assumption | exact va_up_self _ _ _ | refine (va_up_ne _ _ (by omega)).trans ?_)) (by exact Nat.le_of_ble_eq_true rfl) (by rfl) (by rfl) (by rfl) ?_
  refine v_aload_n dX0_copyHead_16 rfl (by rfl) ?_
  refine v_aload_n dX0_copyHead_17 rfl (by rfl) ?_
  refine v_getf hE dX0_copyHead_18 fX0_55 (by repeat (first | assumption | exact va_up_self _ _ _ | refine (va_up_ne _ _ (by omega)).trans ?_)) (by rfl) ?_
  refine v_putf hE dX0_copyHead_21 fX0_55 (by repeat (first | assumption | exact va_up_self _ _ _ | refine (va_up_ne _ _ (by omega)).trans ?_)) (by exact Nat.le_of_ble_eq_true rfl) (by rfl) (by rfl) (by rfl) ?_
  refine v_aload_n dX0_copyHead_24 rfl (by rfl) ?_
  refine v_aload_n dX0_copyHead_25 rfl (by rfl) ?_
  refine v_getf hE dX0_copyHead_26 fX0_58 (by repeat (first | assumption | exact va_up_self _ _ _ | refine (va_up_ne _ _ (by omega)).trans ?_)) (by rfl) ?_
  refine v_putf hE dX0_copyHead_29 fX0_58 (by repeat (first | assumption | exact va_up_self _ _ _ | refine (va_up_ne _ _ (by omega)).trans ?_)) (by exact Nat.le_of_ble_eq_true rfl) (by rfl) nar_bI fit_bI ?_
  refine v_aload_n dX0_copyHead_32 rfl (by rfl) ?_
  refine v_aload_n dX0_copyHead_33 rfl (by rfl) ?_
  refine v_getf hE dX0_copyHead_34 fX0_62 (by repeat (first | assumption | exact va_up_self _ _ _ | refine (va_up_ne _ _ (by omega)).trans ?_)) (by rfl) ?_
  refine v_putf hE dX0_copyHead_37 fX0_62 (by repeat (first | assumption | exact va_up_self _ _ _ | refine (va_up_ne _ _ (by omega)).trans ?_)) (by exact Nat.le_of_ble_eq_true rfl) (by rfl) (by rfl) (by rfl) ?_
  refine v_aload_n dX0_copyHead_40 rfl (by rfl) ?_
  refine v_getf hE dX0_copyHead_41 fX0_9 (by repeat (first | assumption | exact va_up_self _ _ _ | refine (va_up_ne _ _ (by omega)).trans ?_)) (by rfl) ?_
  refine v_iconst (v := nI 0) dX0_copyHead_44 (by decide) ?_
  refine v_aload_n dX0_copyHead_45 rfl (by rfl) ?_
  refine v_getf hE dX0_copyHead_46 fX0_9 (by repeat (first | assumption | exact va_up_self _ _ _ | refine (va_up_ne _ _ (by omega)).trans ?_)) (by rfl) ?_
  refine v_iconst (v := nI 0) dX0_copyHead_49 (by decide) ?_
  refine v_bipush (v := nI 20) dX0_copyHead_50 (by decide) ?_
  refine v_acopy hE dX0_copyHead_52 aX0_35 (by decide) (by exact Nat.le_of_ble_eq_true rfl) (by repeat (first | assumption | exact va_up_self _ _ _ | refine (va_up_ne _ _ (by omega)).trans ?_)) (by repeat (first | assumption | exact va_up_self _ _ _ | refine (va_up_ne _ _ (by omega)).trans ?_)) (by omega) (by omega) (by omega) (by omega) (by omega) ?_
  refine v_ret dX0_copyHead_55 rfl ?_
  exact ⟨rfl, rfl, enS_ext (by repeat (first | assumption | exact va_up_self _ _ _ | refine (va_up_ne _ _ (by omega)).trans ?_)) (by repeat (first | assumption | exact va_up_self _ _ _ | refine (va_up_ne _ _ (by omega)).trans ?_)) (by repeat (first | assumption | exact va_up_self _ _ _ | refine (va_up_ne _ _ (by omega)).trans ?_)) (by repeat (first | assumption | exact va_up_self _ _ _ | refine (va_up_ne _ _ (by omega)).trans ?_)) (by repeat (first | assumption | exact va_up_self _ _ _ | refine (va_up_ne _ _ (by omega)).trans ?_)) (by repeat (first | assumption | exact va_up_self _ _ _ | refine (va_up_ne _ _ (by omega)).trans ?_)) (by repeat (first | assumption | exact va_up_self _ _ _ | refine (va_up_ne _ _ (by omega)).trans ?_)) (fun b hb => by simp only [va_up]; (repeat rw [if_neg (by omega)]))⟩

set_option maxRecDepth 100000 in
set_option maxHeartbeats 4000000 in
/-- Entry.copyCalls -/
theorem sX0_copyCalls {E : eN} (hE : eOk E) {f : aH} {t : Nat} {a b i j : Nat} {v w : eV} (h : enP f a v) (hv : enOk v) (hb : enP f b w) (hw : enOk w) (hd : b + 6 < a ∨ a + 6 < b) (hi : i < 3) (hj : j < 3) : mT E mX0_copyCalls 0 0 [.ref a, .int (nI i), .ref b, .int (nI j)] f t (fun o f' t' => o = .inl none ∧ t' = t ∧ f' = enS f a (eCopyC v i w j)) := by
  refine mT_of (n := 1) (lo := [some (.ref a), some (.int (nI i)), some (.ref b), some (.int (nI j)), none]) (by decide) (by exact Nat.le_of_ble_eq_true rfl) rfl rfl ?_
  obtain ⟨h0, h1, h2, h3, h4, h5, h6⟩ := id h
  obtain ⟨k0, k1, k2, k3⟩ := id hv
  obtain ⟨g0, g1, g2, g3, g4, g5, g6⟩ := id hb
  obtain ⟨q0, q1, q2, q3⟩ := id hw
  refine v_iconst (v := nI 0) dX0_copyCalls_0 (by decide) ?_
  refine v_istore dX0_copyCalls_1 (by decide) ?_
  skip
  refine v_iload dX0_copyCalls_3 (by rfl) ?_
  refine v_iconst (v := nI 2) dX0_copyCalls_5 (by decide) ?_
  refine v_icmp_geN (tgt := 37) dX0_copyCalls_6 (by decide) (by omega) (by omega) (fun c6 => ?_) (fun c6 => ?_)
  · exact absurd c6 (by omega)
  · refine v_aload_n dX0_copyCalls_9 rfl (by rfl) ?_
    refine v_getf hE dX0_copyCalls_10 fX0_21 (by repeat (first | assumption | exact va_up_self _ _ _ | refine (va_up_ne _ _ (by omega)).trans ?_)) (by rfl) ?_
    refine v_iload_n dX0_copyCalls_13 rfl (by rfl) ?_
    refine v_iconst (v := nI 2) dX0_copyCalls_14 (by decide) ?_
    refine v_imulN dX0_copyCalls_15 ?_
    refine v_iload dX0_copyCalls_16 (by rfl) ?_
    refine v_iaddN dX0_copyCalls_18 ?_
    refine v_aload_n dX0_copyCalls_19 rfl (by rfl) ?_
    refine v_getf hE dX0_copyCalls_20 fX0_21 (by repeat (first | assumption | exact va_up_self _ _ _ | refine (va_up_ne _ _ (by omega)).trans ?_)) (by rfl) ?_
    refine v_iload_n dX0_copyCalls_23 rfl (by rfl) ?_
    refine v_iconst (v := nI 2) dX0_copyCalls_24 (by decide) ?_
    refine v_imulN dX0_copyCalls_25 ?_
    refine v_iload dX0_copyCalls_26 (by rfl) ?_
    refine v_iaddN dX0_copyCalls_28 ?_
    refine v_iald hE dX0_copyCalls_29 (by repeat (first | assumption | exact va_up_self _ _ _ | refine (va_up_ne _ _ (by omega)).trans ?_)) (by omega) (by omega) ?_
    refine v_iast hE dX0_copyCalls_30 (by repeat (first | assumption | exact va_up_self _ _ _ | refine (va_up_ne _ _ (by omega)).trans ?_)) (by omega) (by omega) ?_
    refine v_iincN (y := 1) dX0_copyCalls_31 (by rfl) (by decide) (by decide) ?_
    refine v_goto (tgt := 3) dX0_copyCalls_34 (by decide) ?_
    refine v_iload dX0_copyCalls_3 (by rfl) ?_
    refine v_iconst (v := nI 2) dX0_copyCalls_5 (by decide) ?_
    refine v_icmp_geN (tgt := 37) dX0_copyCalls_6 (by decide) (by omega) (by omega) (fun c6 => ?_) (fun c6 => ?_)
    · exact absurd c6 (by omega)
    · refine v_aload_n dX0_copyCalls_9 rfl (by rfl) ?_
      refine v_getf hE dX0_copyCalls_10 fX0_21 (by repeat (first | assumption | exact va_up_self _ _ _ | refine (va_up_ne _ _ (by omega)).trans ?_)) (by rfl) ?_
      refine v_iload_n dX0_copyCalls_13 rfl (by rfl) ?_
      refine v_iconst (v := nI 2) dX0_copyCalls_14 (by decide) ?_
      refine v_imulN dX0_copyCalls_15 ?_
      refine v_iload dX0_copyCalls_16 (by rfl) ?_
      refine v_iaddN dX0_copyCalls_18 ?_
      refine v_aload_n dX0_copyCalls_19 rfl (by rfl) ?_
      refine v_getf hE dX0_copyCalls_20 fX0_21 (by repeat (first | assumption | exact va_up_self _ _ _ | refine (va_up_ne _ _ (by omega)).trans ?_)) (by rfl) ?_
      refine v_iload_n dX0_copyCalls_23 rfl (by rfl) ?_
      refine v_iconst (v := nI 2) dX0_copyCalls_24 (by decide) ?_
      refine v_imulN dX0_copyCalls_25 ?_
      refine v_iload dX0_copyCalls_26 (by rfl) ?_
      refine v_iaddN dX0_copyCalls_28 ?_
      refine v_iald hE dX0_copyCalls_29 (by repeat (first | assumption | exact va_up_self _ _ _ | refine (va_up_ne _ _ (by omega)).trans ?_)) (by omega) (by omega) ?_
      refine v_iast hE dX0_copyCalls_30 (by repeat (first | assumption | exact va_up_self _ _ _ | refine (va_up_ne _ _ (by omega)).trans ?_)) (by omega) (by omega) ?_
      refine v_iincN (y := 1) dX0_copyCalls_31 (by rfl) (by decide) (by decide) ?_
      refine v_goto (tgt := 3) dX0_copyCalls_34 (by decide) ?_
      refine v_iload dX0_copyCalls_3 (by rfl) ?_
      refine v_iconst (v := nI 2) dX0_copyCalls_5 (by decide) ?_
      refine v_icmp_geN (tgt := 37) dX0_copyCalls_6 (by decide) (by omega) (by omega) (fun c6 => ?_) (fun c6 => ?_)
      · refine v_aload_n dX0_copyCalls_37 rfl (by rfl) ?_
        refine v_getf hE dX0_copyCalls_38 fX0_24 (by repeat (first | assumption | exact va_up_self _ _ _ | refine (va_up_ne _ _ (by omega)).trans ?_)) (by rfl) ?_
        refine v_iload_n dX0_copyCalls_41 rfl (by rfl) ?_
        refine v_aload_n dX0_copyCalls_42 rfl (by rfl) ?_
        refine v_getf hE dX0_copyCalls_43 fX0_24 (by repeat (first | assumption | exact va_up_self _ _ _ | refine (va_up_ne _ _ (by omega)).trans ?_)) (by rfl) ?_
        refine v_iload_n dX0_copyCalls_46 rfl (by rfl) ?_
        refine v_iald hE dX0_copyCalls_47 (by repeat (first | assumption | exact va_up_self _ _ _ | refine (va_up_ne _ _ (by omega)).trans ?_)) (by omega) (by omega) ?_
        refine v_iast hE dX0_copyCalls_48 (by repeat (first | assumption | exact va_up_self _ _ _ | refine (va_up_ne _ _ (by omega)).trans ?_)) (by omega) (by omega) ?_
        rw [upd_nI]
        refine v_aload_n dX0_copyCalls_49 rfl (by rfl) ?_
        refine v_getf hE dX0_copyCalls_50 fX0_27 (by repeat (first | assumption | exact va_up_self _ _ _ | refine (va_up_ne _ _ (by omega)).trans ?_)) (by rfl) ?_
        refine v_iload_n dX0_copyCalls_53 rfl (by rfl) ?_
        refine v_aload_n dX0_copyCalls_54 rfl (by rfl) ?_
        refine v_getf hE dX0_copyCalls_55 fX0_27 (by repeat (first | assumption | exact va_up_self _ _ _ | refine (va_up_ne _ _ (by omega)).trans ?_)) (by rfl) ?_
        refine v_iload_n dX0_copyCalls_58 rfl (by rfl) ?_
        refine v_zald hE dX0_copyCalls_59 (by repeat (first | assumption | exact va_up_self _ _ _ | refine (va_up_ne _ _ (by omega)).trans ?_)) (by omega) (by omega) ?_
        refine v_zast hE dX0_copyCalls_60 (by repeat (first | assumption | exact va_up_self _ _ _ | refine (va_up_ne _ _ (by omega)).trans ?_)) (by omega) (by omega) ?_
        rw [upd_bI]
        refine v_ret dX0_copyCalls_61 rfl ?_
        exact ⟨rfl, rfl, enS_ext (by repeat (first | assumption | exact va_up_self _ _ _ | refine (va_up_ne _ _ (by omega)).trans ?_)) (by repeat (first | assumption | exact va_up_self _ _ _ | refine (va_up_ne _ _ (by omega)).trans ?_)) (by repeat (first | assumption | exact va_up_self _ _ _ | refine (va_up_ne _ _ (by omega)).trans ?_)) (by repeat (first | assumption | exact va_up_self _ _ _ | refine (va_up_ne _ _ (by omega)).trans ?_)) (by repeat (first | assumption | exact va_up_self _ _ _ | refine (va_up_ne _ _ (by omega)).trans ?_)) (by repeat (first | assumption | exact va_up_self _ _ _ | refine (va_up_ne _ _ (by omega)).trans ?_)) (by repeat (first | assumption | exact va_up_self _ _ _ | refine (va_up_ne _ _ (by omega)).trans ?_)) (fun b hb => by simp only [va_up]; (repeat rw [if_neg (by omega)]))⟩
      · exact absurd c6 (by omega)

set_option maxRecDepth 100000 in
set_option maxHeartbeats 4000000 in
/-- Entry.rowIs -/
theorem sX0_rowIs {E : eN} (hE : eOk E) {f : aH} {t : Nat} {a b r q : Nat} {v w : eV} (h : enP f a v) (hv : enOk v) (hb : enP f b w) (hw : enOk w) (hr : r < 4) (hq : q < 4) : mT E mX0_rowIs 0 0 [.ref a, .int (nI r), .ref b, .int (nI q)] f t (fun o f' t' => o = .inl (some (.int (bI (eRowIs v r w q)))) ∧ t' = t ∧ f' = f) := by
  refine mT_of (n := 1) (lo := [some (.ref a), some (.int (nI r)), some (.ref b), some (.int (nI q)), none]) (by decide) (by exact Nat.le_of_ble_eq_true rfl) rfl rfl ?_
  obtain ⟨h0, h1, h2, h3, h4, h5, h6⟩ := id h
  obtain ⟨k0, k1, k2, k3⟩ := id hv
  obtain ⟨g0, g1, g2, g3, g4, g5, g6⟩ := id hb
  obtain ⟨q0, q1, q2, q3⟩ := id hw
  have k4 := k1 r
  have q4 := q1 q
  have lp : ∀ (d : Nat) (k : Nat), k + d = eRs v r → eRowIs v r w q = allB (fun k => decide (eLet v r (nI k) = eLet w q (nI k))) (eRs v r - k) k → V E mX0_rowIs 0 0 (fun o f' t' => o = .inl (some (.int (bI (eRowIs v r w q)))) ∧ t' = t ∧ f' = f) 20 [some (.ref a), some (.int (nI r)), some (.ref b), some (.int (nI q)), some (.int (nI k))] [] f t 0 0 := by
    intro d
    induction d using Nat.strongRecOn with
    | _ d ih =>
    intro k hk he
    refine v_iload dX0_rowIs_20 (by rfl) ?_
    refine v_aload_n dX0_rowIs_22 rfl (by rfl) ?_
    refine v_getf hE dX0_rowIs_23 fX0_18 (by repeat (first | assumption | exact va_up_self _ _ _ | refine (va_up_ne _ _ (by omega)).trans ?_)) (by rfl) ?_
    refine v_iload_n dX0_rowIs_26 rfl (by rfl) ?_
    refine v_iald hE dX0_rowIs_27 (by repeat (first | assumption | exact va_up_self _ _ _ | refine (va_up_ne _ _ (by omega)).trans ?_)) (by omega) (by omega) ?_
    refine v_icmp_geN (tgt := 56) dX0_rowIs_28 (by decide) (by omega) (by omega) (fun c28 => ?_) (fun c28 => ?_)
    · refine v_iconst (v := nI 1) dX0_rowIs_56 (by decide) ?_
      refine v_iret dX0_rowIs_57 rfl (by rfl) ?_
      first | exact ⟨congrArg (fun x => (Sum.inl (some (Value.int x)) : aO)) (bI_t (he.trans (allB_0 (by omega)))), rfl, rfl⟩ | exact ⟨congrArg (fun x => (Sum.inl (some (Value.int x)) : aO)) (bI_f (he.trans (allB_f c28 (decide_eq_false c45)))), rfl, rfl⟩
    · refine v_aload_n dX0_rowIs_31 rfl (by rfl) ?_
      refine v_iload_n dX0_rowIs_32 rfl (by rfl) ?_
      refine v_iload dX0_rowIs_33 (by rfl) ?_
      refine w_callV hE dX0_rowIs_35 kX0_69 (by repeat (first | assumption | exact va_up_self _ _ _ | refine (va_up_ne _ _ (by omega)).trans ?_)) (by rfl) (by rfl) (sX0_letterAt hE h hv hr) rfl (by decide) (by decide) (by exact Nat.le_of_ble_eq_true rfl) (by omega) (by omega) (fun v9 g9 u9 h9 => ?_) (fun _ _ _ h => by cases h.1)
      obtain ⟨hv, rfl, rfl⟩ := h9
      cases hv
      refine v_aload_n dX0_rowIs_38 rfl (by rfl) ?_
      refine v_iload_n dX0_rowIs_39 rfl (by rfl) ?_
      refine v_iload dX0_rowIs_40 (by rfl) ?_
      refine w_callV hE dX0_rowIs_42 kX0_69 (by repeat (first | assumption | exact va_up_self _ _ _ | refine (va_up_ne _ _ (by omega)).trans ?_)) (by rfl) (by rfl) (sX0_letterAt hE hb hw hq) rfl (by decide) (by decide) (by exact Nat.le_of_ble_eq_true rfl) (by omega) (by omega) (fun v9 g9 u9 h9 => ?_) (fun _ _ _ h => by cases h.1)
      obtain ⟨hv, rfl, rfl⟩ := h9
      cases hv
      refine v_icmp_eq (tgt := 50) dX0_rowIs_45 (by decide) (fun c45 => ?_) (fun c45 => ?_)
      · refine v_iincN (y := 1) dX0_rowIs_50 (by rfl) (by decide) (by decide) ?_
        refine v_goto (tgt := 20) dX0_rowIs_53 (by decide) ?_
        exact ih (d - 1) (by omega) (k + 1) (by omega) (he.trans (allB_s c28 (decide_eq_true c45)))
      · refine v_iconst (v := nI 0) dX0_rowIs_48 (by decide) ?_
        refine v_iret dX0_rowIs_49 rfl (by rfl) ?_
        first | exact ⟨congrArg (fun x => (Sum.inl (some (Value.int x)) : aO)) (bI_t (he.trans (allB_0 (by omega)))), rfl, rfl⟩ | exact ⟨congrArg (fun x => (Sum.inl (some (Value.int x)) : aO)) (bI_f (he.trans (allB_f c28 (decide_eq_false c45)))), rfl, rfl⟩
  refine v_aload_n dX0_rowIs_0 rfl (by rfl) ?_
  refine v_getf hE dX0_rowIs_1 fX0_18 (by repeat (first | assumption | exact va_up_self _ _ _ | refine (va_up_ne _ _ (by omega)).trans ?_)) (by rfl) ?_
  refine v_iload_n dX0_rowIs_4 rfl (by rfl) ?_
  refine v_iald hE dX0_rowIs_5 (by repeat (first | assumption | exact va_up_self _ _ _ | refine (va_up_ne _ _ (by omega)).trans ?_)) (by omega) (by omega) ?_
  refine v_aload_n dX0_rowIs_6 rfl (by rfl) ?_
  refine v_getf hE dX0_rowIs_7 fX0_18 (by repeat (first | assumption | exact va_up_self _ _ _ | refine (va_up_ne _ _ (by omega)).trans ?_)) (by rfl) ?_
  refine v_iload_n dX0_rowIs_10 rfl (by rfl) ?_
  refine v_iald hE dX0_rowIs_11 (by repeat (first | assumption | exact va_up_self _ _ _ | refine (va_up_ne _ _ (by omega)).trans ?_)) (by omega) (by omega) ?_
  refine v_icmp_eqN (tgt := 17) dX0_rowIs_12 (by decide) (by omega) (by omega) (fun c12 => ?_) (fun c12 => ?_)
  · refine v_iconst (v := nI 0) dX0_rowIs_17 (by decide) ?_
    refine v_istore dX0_rowIs_18 (by decide) ?_
    exact lp (eRs v r) 0 (by omega) (by unfold eRowIs; rw [decide_eq_true c12]; rfl)
  · refine v_iconst (v := nI 0) dX0_rowIs_15 (by decide) ?_
    refine v_iret dX0_rowIs_16 rfl (by rfl) ?_
    refine ⟨congrArg (fun x => (Sum.inl (some (Value.int x)) : aO)) (bI_f ?_), rfl, rfl⟩
    unfold eRowIs
    rw [decide_eq_false c12]; rfl

set_option maxRecDepth 100000 in
set_option maxHeartbeats 4000000 in
/-- Entry.hasAlts -/
theorem sX0_hasAlts {E : eN} (hE : eOk E) {f : aH} {t : Nat} {a : Nat} {v : eV} (h : enP f a v) (hv : enOk v) : mT E mX0_hasAlts 0 0 [.ref a] f t (fun o f' t' => o = .inl (some (.int (bI (decide (1 < eRo v))))) ∧ t' = t ∧ f' = f) := by
  refine mT_of (n := 0) (lo := [some (.ref a)]) (by decide) (by exact Nat.le_of_ble_eq_true rfl) rfl rfl ?_
  obtain ⟨h0, h1, h2, h3, h4, h5, h6⟩ := id h
  obtain ⟨k0, k1, k2, k3⟩ := id hv
  refine v_aload_n dX0_hasAlts_0 rfl (by rfl) ?_
  refine v_getf hE dX0_hasAlts_1 fX0_41 (by repeat (first | assumption | exact va_up_self _ _ _ | refine (va_up_ne _ _ (by omega)).trans ?_)) (by rfl) ?_
  refine v_iconst (v := nI 1) dX0_hasAlts_4 (by decide) ?_
  refine v_icmp_leN (tgt := 12) dX0_hasAlts_5 (by decide) (by omega) (by omega) (fun c5 => ?_) (fun c5 => ?_)
  · refine v_iconst (v := nI 0) dX0_hasAlts_12 (by decide) ?_
    refine v_iret dX0_hasAlts_13 rfl (by rfl) ?_
    refine ⟨congrArg (fun x => (Sum.inl (some (Value.int x)) : aO)) ?_, rfl, rfl⟩
    first | exact bI_t (decide_eq_true (by assumption)) | exact bI_f (decide_eq_false (by omega))
  · refine v_iconst (v := nI 1) dX0_hasAlts_8 (by decide) ?_
    refine v_goto (tgt := 13) dX0_hasAlts_9 (by decide) ?_
    refine v_iret dX0_hasAlts_13 rfl (by rfl) ?_
    refine ⟨congrArg (fun x => (Sum.inl (some (Value.int x)) : aO)) ?_, rfl, rfl⟩
    first | exact bI_t (decide_eq_true (by assumption)) | exact bI_f (decide_eq_false (by omega))

set_option maxRecDepth 100000 in
set_option maxHeartbeats 4000000 in
/-- Entry.standsBehind -/
theorem sX0_standsBehind {E : eN} (hE : eOk E) {f : aH} {t : Nat} {a b : Nat} {v w : eV} (h : enP f a v) (hv : enOk v) (hb : enP f b w) (hw : enOk w) : mT E mX0_standsBehind 0 0 [.ref a, .ref b] f t (fun o f' t' => o = .inl (some (.int (bI (eBeh v w)))) ∧ t' = t ∧ f' = f) := by
  refine mT_of (n := 0) (lo := [some (.ref a), some (.ref b)]) (by decide) (by exact Nat.le_of_ble_eq_true rfl) rfl rfl ?_
  obtain ⟨h0, h1, h2, h3, h4, h5, h6⟩ := id h
  obtain ⟨k0, k1, k2, k3⟩ := id hv
  obtain ⟨g0, g1, g2, g3, g4, g5, g6⟩ := id hb
  obtain ⟨q0, q1, q2, q3⟩ := id hw
  refine v_aload_n dX0_standsBehind_0 rfl (by rfl) ?_
  refine v_getf hE dX0_standsBehind_1 fX0_49 (by repeat (first | assumption | exact va_up_self _ _ _ | refine (va_up_ne _ _ (by omega)).trans ?_)) (by rfl) ?_
  refine v_aload_n dX0_standsBehind_4 rfl (by rfl) ?_
  refine v_getf hE dX0_standsBehind_5 fX0_49 (by repeat (first | assumption | exact va_up_self _ _ _ | refine (va_up_ne _ _ (by omega)).trans ?_)) (by rfl) ?_
  refine v_icmp_gt (tgt := 33) dX0_standsBehind_8 (by decide) (fun c8 => ?_) (fun c8 => ?_)
  · refine v_iconst (v := nI 1) dX0_standsBehind_33 (by decide) ?_
    refine v_goto (tgt := 38) dX0_standsBehind_34 (by decide) ?_
    refine v_iret dX0_standsBehind_38 rfl (by rfl) ?_
    refine ⟨congrArg (fun x => (Sum.inl (some (Value.int x)) : aO)) ?_, rfl, rfl⟩
    unfold eBeh
    first | exact bI_t (by rw [decide_eq_true (by assumption)]; rfl) | exact bI_t (by rw [decide_eq_true c19, decide_eq_true (Int32.not_le.mp c30), Bool.and_true, Bool.or_true]) | exact bI_f (by rw [decide_eq_false c8, decide_eq_false c19]; rfl) | exact bI_f (by rw [decide_eq_false c8, decide_eq_false (Int32.not_lt.mpr c30), Bool.and_false]; rfl)
  · refine v_aload_n dX0_standsBehind_11 rfl (by rfl) ?_
    refine v_getf hE dX0_standsBehind_12 fX0_49 (by repeat (first | assumption | exact va_up_self _ _ _ | refine (va_up_ne _ _ (by omega)).trans ?_)) (by rfl) ?_
    refine v_aload_n dX0_standsBehind_15 rfl (by rfl) ?_
    refine v_getf hE dX0_standsBehind_16 fX0_49 (by repeat (first | assumption | exact va_up_self _ _ _ | refine (va_up_ne _ _ (by omega)).trans ?_)) (by rfl) ?_
    refine v_icmp_ne (tgt := 37) dX0_standsBehind_19 (by decide) (fun c19 => ?_) (fun c19 => ?_)
    · refine v_iconst (v := nI 0) dX0_standsBehind_37 (by decide) ?_
      refine v_iret dX0_standsBehind_38 rfl (by rfl) ?_
      refine ⟨congrArg (fun x => (Sum.inl (some (Value.int x)) : aO)) ?_, rfl, rfl⟩
      unfold eBeh
      first | exact bI_t (by rw [decide_eq_true (by assumption)]; rfl) | exact bI_t (by rw [decide_eq_true c19, decide_eq_true (Int32.not_le.mp c30), Bool.and_true, Bool.or_true]) | exact bI_f (by rw [decide_eq_false c8, decide_eq_false c19]; rfl) | exact bI_f (by rw [decide_eq_false c8, decide_eq_false (Int32.not_lt.mpr c30), Bool.and_false]; rfl)
    · refine v_aload_n dX0_standsBehind_22 rfl (by rfl) ?_
      refine v_getf hE dX0_standsBehind_23 fX0_52 (by repeat (first | assumption | exact va_up_self _ _ _ | refine (va_up_ne _ _ (by omega)).trans ?_)) (by rfl) ?_
      refine v_aload_n dX0_standsBehind_26 rfl (by rfl) ?_
      refine v_getf hE dX0_standsBehind_27 fX0_52 (by repeat (first | assumption | exact va_up_self _ _ _ | refine (va_up_ne _ _ (by omega)).trans ?_)) (by rfl) ?_
      refine v_icmp_le (tgt := 37) dX0_standsBehind_30 (by decide) (fun c30 => ?_) (fun c30 => ?_)
      · refine v_iconst (v := nI 0) dX0_standsBehind_37 (by decide) ?_
        refine v_iret dX0_standsBehind_38 rfl (by rfl) ?_
        refine ⟨congrArg (fun x => (Sum.inl (some (Value.int x)) : aO)) ?_, rfl, rfl⟩
        unfold eBeh
        first | exact bI_t (by rw [decide_eq_true (by assumption)]; rfl) | exact bI_t (by rw [decide_eq_true c19, decide_eq_true (Int32.not_le.mp c30), Bool.and_true, Bool.or_true]) | exact bI_f (by rw [decide_eq_false c8, decide_eq_false c19]; rfl) | exact bI_f (by rw [decide_eq_false c8, decide_eq_false (Int32.not_lt.mpr c30), Bool.and_false]; rfl)
      · refine v_iconst (v := nI 1) dX0_standsBehind_33 (by decide) ?_
        refine v_goto (tgt := 38) dX0_standsBehind_34 (by decide) ?_
        refine v_iret dX0_standsBehind_38 rfl (by rfl) ?_
        refine ⟨congrArg (fun x => (Sum.inl (some (Value.int x)) : aO)) ?_, rfl, rfl⟩
        unfold eBeh
        first | exact bI_t (by rw [decide_eq_true (by assumption)]; rfl) | exact bI_t (by rw [decide_eq_true c19, decide_eq_true (Int32.not_le.mp c30), Bool.and_true, Bool.or_true]) | exact bI_f (by rw [decide_eq_false c8, decide_eq_false c19]; rfl) | exact bI_f (by rw [decide_eq_false c8, decide_eq_false (Int32.not_lt.mpr c30), Bool.and_false]; rfl)

set_option maxRecDepth 100000 in
set_option maxHeartbeats 4000000 in
/-- Entry.standsWith -/
theorem sX0_standsWith {E : eN} (hE : eOk E) {f : aH} {t : Nat} {a b : Nat} {v w : eV} (h : enP f a v) (hv : enOk v) (hb : enP f b w) (hw : enOk w) : mT E mX0_standsWith 0 0 [.ref a, .ref b] f t (fun o f' t' => o = .inl (some (.int (bI (eWith v w)))) ∧ t' = t ∧ f' = f) := by
  refine mT_of (n := 0) (lo := [some (.ref a), some (.ref b)]) (by decide) (by exact Nat.le_of_ble_eq_true rfl) rfl rfl ?_
  obtain ⟨h0, h1, h2, h3, h4, h5, h6⟩ := id h
  obtain ⟨k0, k1, k2, k3⟩ := id hv
  obtain ⟨g0, g1, g2, g3, g4, g5, g6⟩ := id hb
  obtain ⟨q0, q1, q2, q3⟩ := id hw
  refine v_aload_n dX0_standsWith_0 rfl (by rfl) ?_
  refine v_getf hE dX0_standsWith_1 fX0_49 (by repeat (first | assumption | exact va_up_self _ _ _ | refine (va_up_ne _ _ (by omega)).trans ?_)) (by rfl) ?_
  refine v_aload_n dX0_standsWith_4 rfl (by rfl) ?_
  refine v_getf hE dX0_standsWith_5 fX0_49 (by repeat (first | assumption | exact va_up_self _ _ _ | refine (va_up_ne _ _ (by omega)).trans ?_)) (by rfl) ?_
  refine v_icmp_ne (tgt := 26) dX0_standsWith_8 (by decide) (fun c8 => ?_) (fun c8 => ?_)
  · refine v_iconst (v := nI 0) dX0_standsWith_26 (by decide) ?_
    refine v_iret dX0_standsWith_27 rfl (by rfl) ?_
    refine ⟨congrArg (fun x => (Sum.inl (some (Value.int x)) : aO)) ?_, rfl, rfl⟩
    unfold eWith
    first | exact bI_t (by rw [decide_eq_true c8, decide_eq_true c19]; rfl) | exact bI_f (by rw [decide_eq_false c8]; rfl) | exact bI_f (by rw [decide_eq_false c19, Bool.and_false])
  · refine v_aload_n dX0_standsWith_11 rfl (by rfl) ?_
    refine v_getf hE dX0_standsWith_12 fX0_52 (by repeat (first | assumption | exact va_up_self _ _ _ | refine (va_up_ne _ _ (by omega)).trans ?_)) (by rfl) ?_
    refine v_aload_n dX0_standsWith_15 rfl (by rfl) ?_
    refine v_getf hE dX0_standsWith_16 fX0_52 (by repeat (first | assumption | exact va_up_self _ _ _ | refine (va_up_ne _ _ (by omega)).trans ?_)) (by rfl) ?_
    refine v_icmp_ne (tgt := 26) dX0_standsWith_19 (by decide) (fun c19 => ?_) (fun c19 => ?_)
    · refine v_iconst (v := nI 0) dX0_standsWith_26 (by decide) ?_
      refine v_iret dX0_standsWith_27 rfl (by rfl) ?_
      refine ⟨congrArg (fun x => (Sum.inl (some (Value.int x)) : aO)) ?_, rfl, rfl⟩
      unfold eWith
      first | exact bI_t (by rw [decide_eq_true c8, decide_eq_true c19]; rfl) | exact bI_f (by rw [decide_eq_false c8]; rfl) | exact bI_f (by rw [decide_eq_false c19, Bool.and_false])
    · refine v_iconst (v := nI 1) dX0_standsWith_22 (by decide) ?_
      refine v_goto (tgt := 27) dX0_standsWith_23 (by decide) ?_
      refine v_iret dX0_standsWith_27 rfl (by rfl) ?_
      refine ⟨congrArg (fun x => (Sum.inl (some (Value.int x)) : aO)) ?_, rfl, rfl⟩
      unfold eWith
      first | exact bI_t (by rw [decide_eq_true c8, decide_eq_true c19]; rfl) | exact bI_f (by rw [decide_eq_false c8]; rfl) | exact bI_f (by rw [decide_eq_false c19, Bool.and_false])

set_option maxRecDepth 100000 in
set_option maxHeartbeats 4000000 in
/-- Entry.hasAllRowsOf -/
theorem sX0_hasAllRowsOf {E : eN} (hE : eOk E) {f : aH} {t : Nat} {a b : Nat} {v w : eV} (h : enP f a v) (hv : enOk v) (hb : enP f b w) (hw : enOk w) : mT E mX0_hasAllRowsOf 0 0 [.ref a, .ref b] f t (fun o f' t' => o = .inl (some (.int (bI (eAllR v w)))) ∧ t' = t ∧ f' = f) := by
  refine mT_of (n := 1) (lo := [some (.ref a), some (.ref b), none]) (by decide) (by exact Nat.le_of_ble_eq_true rfl) rfl rfl ?_
  obtain ⟨h0, h1, h2, h3, h4, h5, h6⟩ := id h
  obtain ⟨k0, k1, k2, k3⟩ := id hv
  obtain ⟨g0, g1, g2, g3, g4, g5, g6⟩ := id hb
  obtain ⟨q0, q1, q2, q3⟩ := id hw
  have lp : ∀ (d : Nat) (r : Nat), r + d = eRo v → eAllR v w = allB (fun r => eRowIs v r w r) (eRo v - r) r → V E mX0_hasAllRowsOf 0 0 (fun o f' t' => o = .inl (some (.int (bI (eAllR v w)))) ∧ t' = t ∧ f' = f) 15 [some (.ref a), some (.ref b), some (.int (nI r))] [] f t 0 0 := by
    intro d
    induction d using Nat.strongRecOn with
    | _ d ih =>
    intro r hr he
    refine v_iload_n dX0_hasAllRowsOf_15 rfl (by rfl) ?_
    refine v_aload_n dX0_hasAllRowsOf_16 rfl (by rfl) ?_
    refine v_getf hE dX0_hasAllRowsOf_17 fX0_41 (by repeat (first | assumption | exact va_up_self _ _ _ | refine (va_up_ne _ _ (by omega)).trans ?_)) (by rfl) ?_
    refine v_icmp_geN (tgt := 41) dX0_hasAllRowsOf_20 (by decide) (by omega) (by omega) (fun c20 => ?_) (fun c20 => ?_)
    · refine v_iconst (v := nI 1) dX0_hasAllRowsOf_41 (by decide) ?_
      refine v_iret dX0_hasAllRowsOf_42 rfl (by rfl) ?_
      first | exact ⟨congrArg (fun x => (Sum.inl (some (Value.int x)) : aO)) (bI_t (he.trans (allB_0 (by omega)))), rfl, rfl⟩ | exact ⟨congrArg (fun x => (Sum.inl (some (Value.int x)) : aO)) (bI_f (he.trans (allB_f c20 (c30)))), rfl, rfl⟩
    · refine v_aload_n dX0_hasAllRowsOf_23 rfl (by rfl) ?_
      refine v_iload_n dX0_hasAllRowsOf_24 rfl (by rfl) ?_
      refine v_aload_n dX0_hasAllRowsOf_25 rfl (by rfl) ?_
      refine v_iload_n dX0_hasAllRowsOf_26 rfl (by rfl) ?_
      refine w_callV hE dX0_hasAllRowsOf_27 kX0_73 (by repeat (first | assumption | exact va_up_self _ _ _ | refine (va_up_ne _ _ (by omega)).trans ?_)) (by rfl) (by rfl) (sX0_rowIs hE h hv hb hw (by omega) (by omega)) rfl (by decide) (by decide) (by exact Nat.le_of_ble_eq_true rfl) (by omega) (by omega) (fun v9 g9 u9 h9 => ?_) (fun _ _ _ h => by cases h.1)
      obtain ⟨hv, rfl, rfl⟩ := h9
      cases hv
      refine v_if_neB (tgt := 35) dX0_hasAllRowsOf_30 (by decide) (fun c30 => ?_) (fun c30 => ?_)
      · refine v_iincN (y := 1) dX0_hasAllRowsOf_35 (by rfl) (by decide) (by decide) ?_
        refine v_goto (tgt := 15) dX0_hasAllRowsOf_38 (by decide) ?_
        exact ih (d - 1) (by omega) (r + 1) (by omega) (he.trans (allB_s c20 c30))
      · refine v_iconst (v := nI 0) dX0_hasAllRowsOf_33 (by decide) ?_
        refine v_iret dX0_hasAllRowsOf_34 rfl (by rfl) ?_
        first | exact ⟨congrArg (fun x => (Sum.inl (some (Value.int x)) : aO)) (bI_t (he.trans (allB_0 (by omega)))), rfl, rfl⟩ | exact ⟨congrArg (fun x => (Sum.inl (some (Value.int x)) : aO)) (bI_f (he.trans (allB_f c20 (c30)))), rfl, rfl⟩
  refine v_aload_n dX0_hasAllRowsOf_0 rfl (by rfl) ?_
  refine v_getf hE dX0_hasAllRowsOf_1 fX0_41 (by repeat (first | assumption | exact va_up_self _ _ _ | refine (va_up_ne _ _ (by omega)).trans ?_)) (by rfl) ?_
  refine v_aload_n dX0_hasAllRowsOf_4 rfl (by rfl) ?_
  refine v_getf hE dX0_hasAllRowsOf_5 fX0_41 (by repeat (first | assumption | exact va_up_self _ _ _ | refine (va_up_ne _ _ (by omega)).trans ?_)) (by rfl) ?_
  refine v_icmp_eqN (tgt := 13) dX0_hasAllRowsOf_8 (by decide) (by omega) (by omega) (fun c8 => ?_) (fun c8 => ?_)
  · refine v_iconst (v := nI 0) dX0_hasAllRowsOf_13 (by decide) ?_
    refine v_istore_n dX0_hasAllRowsOf_14 rfl (by decide) ?_
    exact lp (eRo v) 0 (by omega) (by unfold eAllR; rw [decide_eq_true c8]; rfl)
  · refine v_iconst (v := nI 0) dX0_hasAllRowsOf_11 (by decide) ?_
    refine v_iret dX0_hasAllRowsOf_12 rfl (by rfl) ?_
    refine ⟨congrArg (fun x => (Sum.inl (some (Value.int x)) : aO)) (bI_f ?_), rfl, rfl⟩
    unfold eAllR
    rw [decide_eq_false c8]; rfl

set_option maxRecDepth 100000 in
set_option maxHeartbeats 4000000 in
/-- Entry.shortestRow -/
theorem sX0_shortestRow {E : eN} (hE : eOk E) {f : aH} {t : Nat} {a : Nat} {v : eV} (h : enP f a v) (hv : enOk v) : mT E mX0_shortestRow 0 0 [.ref a] f t (fun o f' t' => o = .inl (some (.int (nI (eMin v)))) ∧ t' = t ∧ f' = f) := by
  refine mT_of (n := 2) (lo := [some (.ref a), none, none]) (by decide) (by exact Nat.le_of_ble_eq_true rfl) rfl rfl ?_
  obtain ⟨h0, h1, h2, h3, h4, h5, h6⟩ := id h
  obtain ⟨k0, k1, k2, k3⟩ := id hv
  have lp : ∀ (d : Nat) (r m : Nat), r + d = eRo v → m ≤ 24 → eMin v = eMinL v (eRo v - r) r m → V E mX0_shortestRow 0 0 (fun o f' t' => o = .inl (some (.int (nI (eMin v)))) ∧ t' = t ∧ f' = f) 5 [some (.ref a), some (.int (nI m)), some (.int (nI r))] [] f t 0 0 := by
    intro d
    induction d using Nat.strongRecOn with
    | _ d ih =>
    intro r m hr hm he
    have k4 := k1 r
    refine v_iload_n dX0_shortestRow_5 rfl (by rfl) ?_
    refine v_aload_n dX0_shortestRow_6 rfl (by rfl) ?_
    refine v_getf hE dX0_shortestRow_7 fX0_41 (by repeat (first | assumption | exact va_up_self _ _ _ | refine (va_up_ne _ _ (by omega)).trans ?_)) (by rfl) ?_
    refine v_icmp_geN (tgt := 30) dX0_shortestRow_10 (by decide) (by omega) (by omega) (fun c10 => ?_) (fun c10 => ?_)
    · refine v_iload_n dX0_shortestRow_30 rfl (by rfl) ?_
      refine v_iret dX0_shortestRow_31 rfl (by rfl) ?_
      refine ⟨congrArg (fun x => (Sum.inl (some (Value.int x)) : aO)) ?_, rfl, rfl⟩
      rw [he, show eRo v - r = 0 by omega]
      rfl
    · refine v_iload_n dX0_shortestRow_13 rfl (by rfl) ?_
      refine v_aload_n dX0_shortestRow_14 rfl (by rfl) ?_
      refine v_getf hE dX0_shortestRow_15 fX0_18 (by repeat (first | assumption | exact va_up_self _ _ _ | refine (va_up_ne _ _ (by omega)).trans ?_)) (by rfl) ?_
      refine v_iload_n dX0_shortestRow_18 rfl (by rfl) ?_
      refine v_iald hE dX0_shortestRow_19 (by repeat (first | assumption | exact va_up_self _ _ _ | refine (va_up_ne _ _ (by omega)).trans ?_)) (by omega) (by omega) ?_
      refine v_minN hE dX0_shortestRow_20 qX0_99 (by decide) (by exact Nat.le_of_ble_eq_true rfl) (by omega) (by omega) ?_
      refine v_istore_n dX0_shortestRow_23 rfl (by decide) ?_
      refine v_iincN (y := 1) dX0_shortestRow_24 (by rfl) (by decide) (by decide) ?_
      refine v_goto (tgt := 5) dX0_shortestRow_27 (by decide) ?_
      exact ih (d - 1) (by omega) (r + 1) _ (by omega) (by omega) (he.trans (by rw [show eRo v - r = (eRo v - (r + 1)) + 1 by omega]; rfl))
  refine v_bipush (v := nI 24) dX0_shortestRow_0 (by decide) ?_
  refine v_istore_n dX0_shortestRow_2 rfl (by decide) ?_
  refine v_iconst (v := nI 0) dX0_shortestRow_3 (by decide) ?_
  refine v_istore_n dX0_shortestRow_4 rfl (by decide) ?_
  exact lp (eRo v) 0 24 (by omega) (by omega) rfl

set_option maxRecDepth 100000 in
set_option maxHeartbeats 4000000 in
/-- Entry.growth -/
theorem sX0_growth {E : eN} (hE : eOk E) {f : aH} {t : Nat} {a : Nat} {v : eV} (h : enP f a v) (hv : enOk v) : mT E mX0_growth 0 0 [.ref a] f t (fun o f' t' => o = .inl (some (.int (nI (eRs v 1) - nI (eRs v 0)))) ∧ t' = t ∧ f' = f) := by
  refine mT_of (n := 0) (lo := [some (.ref a)]) (by decide) (by exact Nat.le_of_ble_eq_true rfl) rfl rfl ?_
  obtain ⟨h0, h1, h2, h3, h4, h5, h6⟩ := id h
  obtain ⟨k0, k1, k2, k3⟩ := id hv
  refine v_aload_n dX0_growth_0 rfl (by rfl) ?_
  refine v_getf hE dX0_growth_1 fX0_18 (by repeat (first | assumption | exact va_up_self _ _ _ | refine (va_up_ne _ _ (by omega)).trans ?_)) (by rfl) ?_
  refine v_iconst (v := nI 1) dX0_growth_4 (by decide) ?_
  refine v_iald hE dX0_growth_5 (by repeat (first | assumption | exact va_up_self _ _ _ | refine (va_up_ne _ _ (by omega)).trans ?_)) (by omega) (by omega) ?_
  refine v_aload_n dX0_growth_6 rfl (by rfl) ?_
  refine v_getf hE dX0_growth_7 fX0_18 (by repeat (first | assumption | exact va_up_self _ _ _ | refine (va_up_ne _ _ (by omega)).trans ?_)) (by rfl) ?_
  refine v_iconst (v := nI 0) dX0_growth_10 (by decide) ?_
  refine v_iald hE dX0_growth_11 (by repeat (first | assumption | exact va_up_self _ _ _ | refine (va_up_ne _ _ (by omega)).trans ?_)) (by omega) (by omega) ?_
  refine v_isub dX0_growth_12 ?_
  refine v_iret dX0_growth_13 rfl (by rfl) ?_
  exact ⟨rfl, rfl, rfl⟩

set_option maxRecDepth 100000 in
set_option maxHeartbeats 4000000 in
/-- Entry.canReach -/
theorem sX0_canReach {E : eN} (hE : eOk E) {f : aH} {t : Nat} {a n : Nat} {v : eV} (h : enP f a v) (hv : enOk v) (hn : eRs v 0 ≤ n) (hn2 : n ≤ 24) : mT E mX0_canReach 0 0 [.ref a, .int (nI n)] f t (fun o f' t' => o = .inl (some (.int (bI (eReach v n)))) ∧ t' = t ∧ f' = f) := by
  refine mT_of (n := 1) (lo := [some (.ref a), some (.int (nI n)), none]) (by decide) (by exact Nat.le_of_ble_eq_true rfl) rfl rfl ?_
  obtain ⟨h0, h1, h2, h3, h4, h5, h6⟩ := id h
  obtain ⟨k0, k1, k2, k3⟩ := id hv
  have lp : ∀ (d : Nat) (r : Nat), r + d = eRo v → eReach v n = allB (fun r => decide (eRs v r + n - eRs v 0 ≤ 24)) (eRo v - r) r → V E mX0_canReach 0 0 (fun o f' t' => o = .inl (some (.int (bI (eReach v n)))) ∧ t' = t ∧ f' = f) 2 [some (.ref a), some (.int (nI n)), some (.int (nI r))] [] f t 0 0 := by
    intro d
    induction d using Nat.strongRecOn with
    | _ d ih =>
    intro r hr he
    have k4 := k1 r
    refine v_iload_n dX0_canReach_2 rfl (by rfl) ?_
    refine v_aload_n dX0_canReach_3 rfl (by rfl) ?_
    refine v_getf hE dX0_canReach_4 fX0_41 (by repeat (first | assumption | exact va_up_self _ _ _ | refine (va_up_ne _ _ (by omega)).trans ?_)) (by rfl) ?_
    refine v_icmp_geN (tgt := 38) dX0_canReach_7 (by decide) (by omega) (by omega) (fun c7 => ?_) (fun c7 => ?_)
    · refine v_iconst (v := nI 1) dX0_canReach_38 (by decide) ?_
      refine v_iret dX0_canReach_39 rfl (by rfl) ?_
      first | exact ⟨congrArg (fun x => (Sum.inl (some (Value.int x)) : aO)) (bI_t (he.trans (allB_0 (by omega)))), rfl, rfl⟩ | exact ⟨congrArg (fun x => (Sum.inl (some (Value.int x)) : aO)) (bI_f (he.trans (allB_f c7 (decide_eq_false (by omega))))), rfl, rfl⟩
    · refine v_aload_n dX0_canReach_10 rfl (by rfl) ?_
      refine v_getf hE dX0_canReach_11 fX0_18 (by repeat (first | assumption | exact va_up_self _ _ _ | refine (va_up_ne _ _ (by omega)).trans ?_)) (by rfl) ?_
      refine v_iload_n dX0_canReach_14 rfl (by rfl) ?_
      refine v_iald hE dX0_canReach_15 (by repeat (first | assumption | exact va_up_self _ _ _ | refine (va_up_ne _ _ (by omega)).trans ?_)) (by omega) (by omega) ?_
      refine v_iload_n dX0_canReach_16 rfl (by rfl) ?_
      refine v_iaddN dX0_canReach_17 ?_
      refine v_aload_n dX0_canReach_18 rfl (by rfl) ?_
      refine v_getf hE dX0_canReach_19 fX0_18 (by repeat (first | assumption | exact va_up_self _ _ _ | refine (va_up_ne _ _ (by omega)).trans ?_)) (by rfl) ?_
      refine v_iconst (v := nI 0) dX0_canReach_22 (by decide) ?_
      refine v_iald hE dX0_canReach_23 (by repeat (first | assumption | exact va_up_self _ _ _ | refine (va_up_ne _ _ (by omega)).trans ?_)) (by omega) (by omega) ?_
      refine v_isubN dX0_canReach_24 (by omega) ?_
      refine v_bipush (v := nI 24) dX0_canReach_25 (by decide) ?_
      refine v_icmp_leN (tgt := 32) dX0_canReach_27 (by decide) (by omega) (by omega) (fun c27 => ?_) (fun c27 => ?_)
      · refine v_iincN (y := 1) dX0_canReach_32 (by rfl) (by decide) (by decide) ?_
        refine v_goto (tgt := 2) dX0_canReach_35 (by decide) ?_
        exact ih (d - 1) (by omega) (r + 1) (by omega) (he.trans (allB_s c7 (decide_eq_true c27)))
      · refine v_iconst (v := nI 0) dX0_canReach_30 (by decide) ?_
        refine v_iret dX0_canReach_31 rfl (by rfl) ?_
        first | exact ⟨congrArg (fun x => (Sum.inl (some (Value.int x)) : aO)) (bI_t (he.trans (allB_0 (by omega)))), rfl, rfl⟩ | exact ⟨congrArg (fun x => (Sum.inl (some (Value.int x)) : aO)) (bI_f (he.trans (allB_f c7 (decide_eq_false (by omega))))), rfl, rfl⟩
  refine v_iconst (v := nI 0) dX0_canReach_0 (by decide) ?_
  refine v_istore_n dX0_canReach_1 rfl (by decide) ?_
  exact lp (eRo v) 0 (by omega) rfl

set_option maxRecDepth 100000 in
set_option maxHeartbeats 4000000 in
/-- Entry.alikeAt -/
theorem sX0_alikeAt {E : eN} (hE : eOk E) {f : aH} {t : Nat} {a k : Nat} {v : eV} (h : enP f a v) (hv : enOk v) (hk : k < 2 ^ 30) : mT E mX0_alikeAt 0 0 [.ref a, .int (nI k)] f t (fun o f' t' => o = .inl (some (.int (bI (eAlike v k)))) ∧ t' = t ∧ f' = f) := by
  refine mT_of (n := 1) (lo := [some (.ref a), some (.int (nI k)), none]) (by decide) (by exact Nat.le_of_ble_eq_true rfl) rfl rfl ?_
  obtain ⟨h0, h1, h2, h3, h4, h5, h6⟩ := id h
  obtain ⟨k0, k1, k2, k3⟩ := id hv
  have lp : ∀ (d : Nat) (r : Nat), r + d = max 1 (eRo v) → 1 ≤ r → eAlike v k = allB (fun r => decide (eLet v r (nI k) = eLet v 0 (nI k))) (eRo v - r) r → V E mX0_alikeAt 0 0 (fun o f' t' => o = .inl (some (.int (bI (eAlike v k)))) ∧ t' = t ∧ f' = f) 2 [some (.ref a), some (.int (nI k)), some (.int (nI r))] [] f t 0 0 := by
    intro d
    induction d using Nat.strongRecOn with
    | _ d ih =>
    intro r hr hr1 he
    refine v_iload_n dX0_alikeAt_2 rfl (by rfl) ?_
    refine v_aload_n dX0_alikeAt_3 rfl (by rfl) ?_
    refine v_getf hE dX0_alikeAt_4 fX0_41 (by repeat (first | assumption | exact va_up_self _ _ _ | refine (va_up_ne _ _ (by omega)).trans ?_)) (by rfl) ?_
    refine v_icmp_geN (tgt := 33) dX0_alikeAt_7 (by decide) (by omega) (by omega) (fun c7 => ?_) (fun c7 => ?_)
    · refine v_iconst (v := nI 1) dX0_alikeAt_33 (by decide) ?_
      refine v_iret dX0_alikeAt_34 rfl (by rfl) ?_
      first | exact ⟨congrArg (fun x => (Sum.inl (some (Value.int x)) : aO)) (bI_t (he.trans (allB_0 (by omega)))), rfl, rfl⟩ | exact ⟨congrArg (fun x => (Sum.inl (some (Value.int x)) : aO)) (bI_f (he.trans (allB_f c7 (decide_eq_false c22)))), rfl, rfl⟩
    · refine v_aload_n dX0_alikeAt_10 rfl (by rfl) ?_
      refine v_iload_n dX0_alikeAt_11 rfl (by rfl) ?_
      refine v_iload_n dX0_alikeAt_12 rfl (by rfl) ?_
      refine w_callV hE dX0_alikeAt_13 kX0_69 (by repeat (first | assumption | exact va_up_self _ _ _ | refine (va_up_ne _ _ (by omega)).trans ?_)) (by rfl) (by rfl) (sX0_letterAt hE h hv (by omega)) rfl (by decide) (by decide) (by exact Nat.le_of_ble_eq_true rfl) (by omega) (by omega) (fun v9 g9 u9 h9 => ?_) (fun _ _ _ h => by cases h.1)
      obtain ⟨hv, rfl, rfl⟩ := h9
      cases hv
      refine v_aload_n dX0_alikeAt_16 rfl (by rfl) ?_
      refine v_iconst (v := nI 0) dX0_alikeAt_17 (by decide) ?_
      refine v_iload_n dX0_alikeAt_18 rfl (by rfl) ?_
      refine w_callV hE dX0_alikeAt_19 kX0_69 (by repeat (first | assumption | exact va_up_self _ _ _ | refine (va_up_ne _ _ (by omega)).trans ?_)) (by rfl) (by rfl) (sX0_letterAt hE h hv (by omega)) rfl (by decide) (by decide) (by exact Nat.le_of_ble_eq_true rfl) (by omega) (by omega) (fun v9 g9 u9 h9 => ?_) (fun _ _ _ h => by cases h.1)
      obtain ⟨hv, rfl, rfl⟩ := h9
      cases hv
      refine v_icmp_eq (tgt := 27) dX0_alikeAt_22 (by decide) (fun c22 => ?_) (fun c22 => ?_)
      · refine v_iincN (y := 1) dX0_alikeAt_27 (by rfl) (by decide) (by decide) ?_
        refine v_goto (tgt := 2) dX0_alikeAt_30 (by decide) ?_
        exact ih (d - 1) (by omega) (r + 1) (by omega) (by omega) (he.trans (allB_s c7 (decide_eq_true c22)))
      · refine v_iconst (v := nI 0) dX0_alikeAt_25 (by decide) ?_
        refine v_iret dX0_alikeAt_26 rfl (by rfl) ?_
        first | exact ⟨congrArg (fun x => (Sum.inl (some (Value.int x)) : aO)) (bI_t (he.trans (allB_0 (by omega)))), rfl, rfl⟩ | exact ⟨congrArg (fun x => (Sum.inl (some (Value.int x)) : aO)) (bI_f (he.trans (allB_f c7 (decide_eq_false c22)))), rfl, rfl⟩
  refine v_iconst (v := nI 1) dX0_alikeAt_0 (by decide) ?_
  refine v_istore_n dX0_alikeAt_1 rfl (by decide) ?_
  exact lp (max 1 (eRo v) - 1) 1 (by omega) (by omega) rfl

set_option maxRecDepth 100000 in
set_option maxHeartbeats 4000000 in
/-- Entry.altLike -/
theorem sX0_altLike {E : eN} (hE : eOk E) {f : aH} {t : Nat} {a b q : Nat} {v w : eV} (h : enP f a v) (hv : enOk v) (hb : enP f b w) (hw : enOk w) (hq : q < 4) : mT E mX0_altLike 0 0 [.ref a, .ref b, .int (nI q)] f t (fun o f' t' => o = .inl (some (.int (eAltLike v w q))) ∧ t' = t ∧ f' = f) := by
  refine mT_of (n := 1) (lo := [some (.ref a), some (.ref b), some (.int (nI q)), none]) (by decide) (by exact Nat.le_of_ble_eq_true rfl) rfl rfl ?_
  obtain ⟨h0, h1, h2, h3, h4, h5, h6⟩ := id h
  obtain ⟨k0, k1, k2, k3⟩ := id hv
  obtain ⟨g0, g1, g2, g3, g4, g5, g6⟩ := id hb
  obtain ⟨q0, q1, q2, q3⟩ := id hw
  have lp : ∀ (d : Nat) (r : Nat), r + d = max 1 (eRo v) → 1 ≤ r → eAltLike v w q = fndB (fun r => eRowIs v r w q) (eRo v - r) r → V E mX0_altLike 0 0 (fun o f' t' => o = .inl (some (.int (eAltLike v w q))) ∧ t' = t ∧ f' = f) 2 [some (.ref a), some (.ref b), some (.int (nI q)), some (.int (nI r))] [] f t 0 0 := by
    intro d
    induction d using Nat.strongRecOn with
    | _ d ih =>
    intro r hr hr1 he
    refine v_iload_n dX0_altLike_2 rfl (by rfl) ?_
    refine v_aload_n dX0_altLike_3 rfl (by rfl) ?_
    refine v_getf hE dX0_altLike_4 fX0_41 (by repeat (first | assumption | exact va_up_self _ _ _ | refine (va_up_ne _ _ (by omega)).trans ?_)) (by rfl) ?_
    refine v_icmp_geN (tgt := 28) dX0_altLike_7 (by decide) (by omega) (by omega) (fun c7 => ?_) (fun c7 => ?_)
    · refine v_iconst (v := (-1)) dX0_altLike_28 (by decide) ?_
      refine v_iret dX0_altLike_29 rfl (by rfl) ?_
      refine ⟨congrArg (fun x => (Sum.inl (some (Value.int x)) : aO)) ?_, rfl, rfl⟩
      rw [he]
      first | exact (fndB_0 (by omega)).symm | exact (fndB_t c7 c17).symm
    · refine v_aload_n dX0_altLike_10 rfl (by rfl) ?_
      refine v_iload_n dX0_altLike_11 rfl (by rfl) ?_
      refine v_aload_n dX0_altLike_12 rfl (by rfl) ?_
      refine v_iload_n dX0_altLike_13 rfl (by rfl) ?_
      refine w_callV hE dX0_altLike_14 kX0_73 (by repeat (first | assumption | exact va_up_self _ _ _ | refine (va_up_ne _ _ (by omega)).trans ?_)) (by rfl) (by rfl) (sX0_rowIs hE h hv hb hw (by omega) hq) rfl (by decide) (by decide) (by exact Nat.le_of_ble_eq_true rfl) (by omega) (by omega) (fun v9 g9 u9 h9 => ?_) (fun _ _ _ h => by cases h.1)
      obtain ⟨hv, rfl, rfl⟩ := h9
      cases hv
      refine v_if_eqB (tgt := 22) dX0_altLike_17 (by decide) (fun c17 => ?_) (fun c17 => ?_)
      · refine v_iincN (y := 1) dX0_altLike_22 (by rfl) (by decide) (by decide) ?_
        refine v_goto (tgt := 2) dX0_altLike_25 (by decide) ?_
        exact ih (d - 1) (by omega) (r + 1) (by omega) (by omega) (he.trans (fndB_s c7 c17))
      · refine v_iload_n dX0_altLike_20 rfl (by rfl) ?_
        refine v_iret dX0_altLike_21 rfl (by rfl) ?_
        refine ⟨congrArg (fun x => (Sum.inl (some (Value.int x)) : aO)) ?_, rfl, rfl⟩
        rw [he]
        first | exact (fndB_0 (by omega)).symm | exact (fndB_t c7 c17).symm
  refine v_iconst (v := nI 1) dX0_altLike_0 (by decide) ?_
  refine v_istore_n dX0_altLike_1 rfl (by decide) ?_
  exact lp (max 1 (eRo v) - 1) 1 (by omega) (by omega) rfl
