section BRB
variable {E : eN} {I : mR} {mc ms : Nat} {Q : aP} {pc : Nat} {lo : List (Option Value)} {st : List Value} {f : aH} {t bc bs : Nat}
theorem bI_0 {b : Bool} : bI b = 0 ↔ b = false := by cases b <;> decide
theorem v_if_eqB {b : Bool} {off : Int} {tgt : Nat} (d : decode I.2.1 pc = .ok (.ifCond .eq off, 3)) (ht : (pc : Int) + off = (tgt : Int)) (kt : b = false → V E I mc ms Q tgt lo st f t bc bs) (kf : b = true → V E I mc ms Q (pc + 3) lo st f t bc bs) : V E I mc ms Q pc lo (.int (bI b) :: st) f t bc bs :=
  v_if_eq d ht (fun q => kt (bI_0.mp q)) (fun q => kf (by cases b with | false => exact absurd rfl q | true => rfl))
theorem v_if_neB {b : Bool} {off : Int} {tgt : Nat} (d : decode I.2.1 pc = .ok (.ifCond .ne off, 3)) (ht : (pc : Int) + off = (tgt : Int)) (kt : b = true → V E I mc ms Q tgt lo st f t bc bs) (kf : b = false → V E I mc ms Q (pc + 3) lo st f t bc bs) : V E I mc ms Q pc lo (.int (bI b) :: st) f t bc bs :=
  v_if_ne d ht (fun q => kt (by cases b with | false => exact absurd rfl q | true => rfl)) (fun q => kf (bI_0.mp q))
end BRB
/-- the first of d from i on for which p holds; -1 if none -/
def fndB (p : Nat → Bool) : Nat → Nat → Int32
  | 0, _ => -1
  | d + 1, i => if p i = true then nI i else fndB p d (i + 1)
theorem fndB_0 {p : Nat → Bool} {i j : Nat} (h : j ≤ i) : fndB p (j - i) i = -1 := by rw [show j - i = 0 by omega]; rfl
theorem fndB_t {p : Nat → Bool} {i j : Nat} (h : i < j) (hp : p i = true) : fndB p (j - i) i = nI i := by
  rw [show j - i = (j - (i + 1)) + 1 by omega]; exact if_pos hp
theorem fndB_s {p : Nat → Bool} {i j : Nat} (h : i < j) (hp : p i = false) : fndB p (j - i) i = fndB p (j - (i + 1)) (i + 1) := by
  rw [show j - i = (j - (i + 1)) + 1 by omega]; exact if_neg (by rw [hp]; decide)

set_option maxRecDepth 100000 in
set_option maxHeartbeats 4000000 in
/-- Octets() -/
theorem sX6_init {E : eN} (hE : eOk E) {f : aH} {t : Nat} {a : Nat} (h : f a = .inr (6, [.null, .int 0, .int 0])) (ht : t = a + 1) : mT E mX6_init 1 8000 [.ref a] f t (fun o f' t' => o = .inl none ∧ t' = t + 1 ∧ f' = oS f a (0, (fun _ => 0), 0)) := by
  refine mT_of (n := 0) (lo := [some (.ref a)]) (by decide) (by exact Nat.le_of_ble_eq_true rfl) rfl rfl ?_
  subst ht
  refine v_aload_n dX6_init_0 rfl (by rfl) ?_
  refine v_oinit hE dX6_init_1 oX6_3 (by decide) (by exact Nat.le_of_ble_eq_true rfl) ?_
  refine v_aload_n dX6_init_4 rfl (by rfl) ?_
  refine v_sipush (v := nI 8000) dX6_init_5 (by decide) ?_
  refine v_newI hE dX6_init_8 (by omega) (by omega) (by omega) ?_
  refine v_putF hE dX6_init_10 fX6_9 (by rfl) (by rfl) (by repeat (first | assumption | exact va_up_self _ _ _ | refine (va_up_ne _ _ (by omega)).trans ?_)) (by exact Nat.le_of_ble_eq_true rfl) (by rfl) (by rfl) (by rfl) ?_
  refine v_ret dX6_init_13 rfl ?_
  exact ⟨rfl, rfl, oc_ext (by repeat (first | assumption | exact va_up_self _ _ _ | refine (va_up_ne _ _ (by omega)).trans ?_)) (by repeat (first | assumption | exact va_up_self _ _ _ | refine (va_up_ne _ _ (by omega)).trans ?_)) (fun b h1 h2 => by simp only [va_up, h1, h2, if_false])⟩

/-! Names: how many, the octets, the sizes -/
abbrev nV : Type := Nat × (Nat → Int32) × (Nat → Nat)
def nmP (L : Nat) (f : aH) (a : Nat) (v : nV) : Prop := f a = .inr (5, [.int (nI L), .ref (a + 1), .ref (a + 2), .int (nI v.1)]) ∧ f (a + 1) = .inl (0, L * 20, .inl v.2.1) ∧ f (a + 2) = .inl (0, L, .inl (fun k => nI (v.2.2 k)))
def nmS (L : Nat) (f : aH) (a : Nat) (v : nV) : aH := (va_up (va_up (va_up f (a + 2) (.inl (0, L, .inl (fun k => nI (v.2.2 k))))) (a + 1) (.inl (0, L * 20, .inl v.2.1))) a (.inr (5, [.int (nI L), .ref (a + 1), .ref (a + 2), .int (nI v.1)])))
theorem nmP_S (L : Nat) (f : aH) (a : Nat) (v : nV) : nmP L (nmS L f a v) a v := ⟨va_up_self _ _ _, (va_up_ne _ _ (by omega)).trans (va_up_self _ _ _), (va_up_ne _ _ (by omega)).trans ((va_up_ne _ _ (by omega)).trans (va_up_self _ _ _))⟩
theorem nmS_ne {L : Nat} {f : aH} {a b : Nat} {v : nV} (h : b < a ∨ a + 2 < b) : nmS L f a v b = f b := by
  unfold nmS
  simp only [va_up]
  repeat rw [if_neg (by omega)]
theorem nmS_ext {L : Nat} {f f' : aH} {a : Nat} {v : nV} (h0 : f' a = .inr (5, [.int (nI L), .ref (a + 1), .ref (a + 2), .int (nI v.1)])) (h1 : f' (a + 1) = .inl (0, L * 20, .inl v.2.1)) (h2 : f' (a + 2) = .inl (0, L, .inl (fun k => nI (v.2.2 k)))) (hne : ∀ b, b < a ∨ a + 2 < b → f' b = f b) : f' = nmS L f a v := by
  funext b
  by_cases e0 : b = a
  · rw [e0, h0]; exact ((nmP_S L f a v).1).symm
  by_cases e1 : b = (a + 1)
  · rw [e1, h1]; exact ((nmP_S L f a v).2.1).symm
  by_cases e2 : b = (a + 2)
  · rw [e2, h2]; exact ((nmP_S L f a v).2.2).symm
  rw [hne b (by omega), nmS_ne (by omega)]
theorem nmS_S {L : Nat} {f : aH} {a : Nat} {v w : nV} : nmS L (nmS L f a v) a w = nmS L f a w := nmS_ext (nmP_S L _ _ _).1 (nmP_S L _ _ _).2.1 (nmP_S L _ _ _).2.2 (fun b hb => by rw [nmS_ne hb, nmS_ne hb])
theorem nmS_id {L : Nat} {f : aH} {a : Nat} {v : nV} (h : nmP L f a v) : nmS L f a v = f := (nmS_ext h.1 h.2.1 h.2.2 (fun _ _ => rfl)).symm

def nOk (L : Nat) (v : nV) : Prop := v.1 ≤ L ∧ L ≤ 8 ∧ ∀ k, v.2.2 k ≤ 20
def nmNew (L : Nat) (v : nV) : nV := if v.1 < L then (v.1 + 1, v.2.1, va_up v.2.2 v.1 0) else v
def nmAdd (v : nV) (x : Int32) : nV := if v.2.2 (v.1 - 1) < 20 then (v.1, upd v.2.1 ((v.1 - 1) * 20 + v.2.2 (v.1 - 1)) x, va_up v.2.2 (v.1 - 1) (v.2.2 (v.1 - 1) + 1)) else v
def nmSz (v : nV) (i : Nat) : Int32 := if i < v.1 then nI (v.2.2 i) else -1
def nmOct (v : nV) (i : Nat) (k : Int32) : Int32 := if 0 ≤ k ∧ k < nmSz v i then v.2.1 (i * 20 + k.toNatClampNeg) else -1
def nmSame (v : nV) (i : Nat) (w : nV) (j : Nat) : Bool := decide (v.2.2 i = w.2.2 j) && allB (fun k => decide (v.2.1 (i * 20 + k) = w.2.1 (j * 20 + k))) (v.2.2 i - 0) 0
def nmIdx (v w : nV) (j : Nat) : Int32 := fndB (fun i => nmSame v i w j) (v.1 - 0) 0
def nmIn (L : Nat) (v : nV) (s : tS) (i j : Nat) : Int32 := fndB (fun n => tPart s i j v.2.1 (L * 20) (n * 20) (v.2.2 n)) (v.1 - 0) 0
theorem nmOct_in {v : nV} {i j : Nat} (h : j < v.2.2 i) (hi : i < v.1) (hz : v.2.2 i < 2 ^ 31) : nmOct v i (nI j) = v.2.1 (i * 20 + j) := by
  unfold nmOct
  rw [show nmSz v i = nI (v.2.2 i) from if_pos hi, if_pos ⟨nI_pos' (by omega), nI_lt h (by omega)⟩, nI_clamp (by omega)]
theorem nmOct_out {v : nV} {i j : Nat} (h : v.2.2 i ≤ j) (hi : i < v.1) (hj : j < 2 ^ 31) : nmOct v i (nI j) = -1 := by
  unfold nmOct
  rw [show nmSz v i = nI (v.2.2 i) from if_pos hi, if_neg (fun q => nI_nlt h hj q.2)]
theorem nmNew_ok {L : Nat} {v : nV} (h : nOk L v) : nOk L (nmNew L v) := by
  unfold nmNew
  split
  · refine ⟨by show v.1 + 1 ≤ L; omega, h.2.1, fun k => ?_⟩
    show va_up v.2.2 v.1 0 k ≤ 20
    unfold va_up
    split
    · omega
    · exact h.2.2 k
  · exact h
theorem nmAdd_ok {L : Nat} {v : nV} {x : Int32} (h : nOk L v) : nOk L (nmAdd v x) := by
  unfold nmAdd
  split
  · refine ⟨h.1, h.2.1, fun k => ?_⟩
    show va_up v.2.2 (v.1 - 1) _ k ≤ 20
    unfold va_up
    split
    · omega
    · exact h.2.2 k
  · exact h

set_option maxRecDepth 100000 in
set_option maxHeartbeats 4000000 in
/-- Names(L) -/
theorem sX5_init {E : eN} (hE : eOk E) {f : aH} {t : Nat} {a L : Nat} (h : f a = .inr (5, [.int 0, .null, .null, .int 0])) (hL : L ≤ 8) (ht : t = a + 1) : mT E mX5_init 2 (L * 21) [.ref a, .int (nI L)] f t (fun o f' t' => o = .inl none ∧ t' = t + 2 ∧ f' = nmS L f a (0, (fun _ => 0), (fun _ => 0))) := by
  refine mT_of (n := 0) (lo := [some (.ref a), some (.int (nI L))]) (by decide) (by exact Nat.le_of_ble_eq_true rfl) rfl rfl ?_
  subst ht
  refine v_aload_n dX5_init_0 rfl (by rfl) ?_
  refine v_oinit hE dX5_init_1 oX5_3 (by decide) (by exact Nat.le_of_ble_eq_true rfl) ?_
  refine v_aload_n dX5_init_4 rfl (by rfl) ?_
  refine v_iconst (v := nI 0) dX5_init_5 (by decide) ?_
  refine v_iload_n dX5_init_6 rfl (by rfl) ?_
  refine v_maxN hE dX5_init_7 qX5_9 (by decide) (by exact Nat.le_of_ble_eq_true rfl) (by omega) (by omega) ?_
  refine v_eqi (show nI (max 0 L) = nI L by rw [Nat.max_eq_right (Nat.zero_le _)]) ?_
  refine v_putF hE dX5_init_10 fX5_15 (by rfl) (by rfl) (by repeat (first | assumption | exact va_up_self _ _ _ | refine (va_up_ne _ _ (by omega)).trans ?_)) (by exact Nat.le_of_ble_eq_true rfl) (by rfl) (by rfl) (by rfl) ?_
  refine v_aload_n dX5_init_13 rfl (by rfl) ?_
  refine v_aload_n dX5_init_14 rfl (by rfl) ?_
  refine v_getf hE dX5_init_15 fX5_15 (by repeat (first | assumption | exact va_up_self _ _ _ | refine (va_up_ne _ _ (by omega)).trans ?_)) (by rfl) ?_
  refine v_bipush (v := nI 20) dX5_init_18 (by decide) ?_
  refine v_imulN dX5_init_20 ?_
  refine v_newI hE dX5_init_21 (by omega) (by omega) (by omega) ?_
  refine v_putF hE dX5_init_23 fX5_21 (by rfl) (by rfl) (by repeat (first | assumption | exact va_up_self _ _ _ | refine (va_up_ne _ _ (by omega)).trans ?_)) (by exact Nat.le_of_ble_eq_true rfl) (by rfl) (by rfl) (by rfl) ?_
  refine v_aload_n dX5_init_26 rfl (by rfl) ?_
  refine v_aload_n dX5_init_27 rfl (by rfl) ?_
  refine v_getf hE dX5_init_28 fX5_15 (by repeat (first | assumption | exact va_up_self _ _ _ | refine (va_up_ne _ _ (by omega)).trans ?_)) (by rfl) ?_
  refine v_newI hE dX5_init_31 (by omega) (by omega) (by omega) ?_
  refine v_putF hE dX5_init_33 fX5_25 (by rfl) (by rfl) (by repeat (first | assumption | exact va_up_self _ _ _ | refine (va_up_ne _ _ (by omega)).trans ?_)) (by exact Nat.le_of_ble_eq_true rfl) (by rfl) (by rfl) (by rfl) ?_
  refine v_ret dX5_init_36 rfl ?_
  exact ⟨rfl, rfl, nmS_ext (by repeat (first | assumption | exact va_up_self _ _ _ | refine (va_up_ne _ _ (by omega)).trans ?_)) (by repeat (first | assumption | exact va_up_self _ _ _ | refine (va_up_ne _ _ (by omega)).trans ?_)) (by repeat (first | assumption | exact va_up_self _ _ _ | refine (va_up_ne _ _ (by omega)).trans ?_)) (fun b hb => by simp only [va_up]; repeat rw [if_neg (by omega)])⟩

set_option maxRecDepth 100000 in
set_option maxHeartbeats 4000000 in
/-- Names.clear() -/
theorem sX5_clear {E : eN} (hE : eOk E) {f : aH} {t : Nat} {a L : Nat} {v : nV} (h : nmP L f a v) (hv : nOk L v) : mT E mX5_clear 0 0 [.ref a] f t (fun o f' t' => o = .inl none ∧ t' = t ∧ f' = nmS L f a (0, v.2)) := by
  refine mT_of (n := 0) (lo := [some (.ref a)]) (by decide) (by exact Nat.le_of_ble_eq_true rfl) rfl rfl ?_
  obtain ⟨h0, h1, h2⟩ := id h
  obtain ⟨k1, k2, k3⟩ := id hv
  refine v_aload_n dX5_clear_0 rfl (by rfl) ?_
  refine v_iconst (v := nI 0) dX5_clear_1 (by decide) ?_
  refine v_putf hE dX5_clear_2 fX5_28 (by repeat (first | assumption | exact va_up_self _ _ _ | refine (va_up_ne _ _ (by omega)).trans ?_)) (by exact Nat.le_of_ble_eq_true rfl) (by rfl) (by rfl) (by rfl) ?_
  refine v_ret dX5_clear_5 rfl ?_
  exact ⟨rfl, rfl, nmS_ext (by repeat (first | assumption | exact va_up_self _ _ _ | refine (va_up_ne _ _ (by omega)).trans ?_)) (by repeat (first | assumption | exact va_up_self _ _ _ | refine (va_up_ne _ _ (by omega)).trans ?_)) (by repeat (first | assumption | exact va_up_self _ _ _ | refine (va_up_ne _ _ (by omega)).trans ?_)) (fun b hb => by simp only [va_up]; repeat rw [if_neg (by omega)])⟩

set_option maxRecDepth 100000 in
set_option maxHeartbeats 4000000 in
/-- Names.o-pen() -/
theorem sX5_open {E : eN} (hE : eOk E) {f : aH} {t : Nat} {a L : Nat} {v : nV} (h : nmP L f a v) (hv : nOk L v) : mT E mX5_open 0 0 [.ref a] f t (fun o f' t' => o = .inl none ∧ t' = t ∧ f' = nmS L f a (nmNew L v)) := by
  refine mT_of (n := 0) (lo := [some (.ref a)]) (by decide) (by exact Nat.le_of_ble_eq_true rfl) rfl rfl ?_
  obtain ⟨h0, h1, h2⟩ := id h
  obtain ⟨k1, k2, k3⟩ := id hv
  refine v_aload_n dX5_open_0 rfl (by rfl) ?_
  refine v_getf hE dX5_open_1 fX5_28 (by repeat (first | assumption | exact va_up_self _ _ _ | refine (va_up_ne _ _ (by omega)).trans ?_)) (by rfl) ?_
  refine v_aload_n dX5_open_4 rfl (by rfl) ?_
  refine v_getf hE dX5_open_5 fX5_15 (by repeat (first | assumption | exact va_up_self _ _ _ | refine (va_up_ne _ _ (by omega)).trans ?_)) (by rfl) ?_
  refine v_icmp_geN (tgt := 31) dX5_open_8 (by decide) (by omega) (by omega) (fun c8 => ?_) (fun c8 => ?_)
  · refine v_ret dX5_open_31 rfl ?_
    refine ⟨rfl, rfl, ?_⟩
    unfold nmNew
    first | (rw [if_neg (by omega)]; exact (nmS_id h).symm) | (rw [if_pos (by omega)]; exact nmS_ext (by repeat (first | assumption | exact va_up_self _ _ _ | refine (va_up_ne _ _ (by omega)).trans ?_)) (by repeat (first | assumption | exact va_up_self _ _ _ | refine (va_up_ne _ _ (by omega)).trans ?_)) (by repeat (first | assumption | exact va_up_self _ _ _ | refine (va_up_ne _ _ (by omega)).trans ?_)) (fun b hb => by simp only [va_up]; repeat rw [if_neg (by omega)]))
  · refine v_aload_n dX5_open_11 rfl (by rfl) ?_
    refine v_getf hE dX5_open_12 fX5_25 (by repeat (first | assumption | exact va_up_self _ _ _ | refine (va_up_ne _ _ (by omega)).trans ?_)) (by rfl) ?_
    refine v_aload_n dX5_open_15 rfl (by rfl) ?_
    refine v_getf hE dX5_open_16 fX5_28 (by repeat (first | assumption | exact va_up_self _ _ _ | refine (va_up_ne _ _ (by omega)).trans ?_)) (by rfl) ?_
    refine v_iconst (v := nI 0) dX5_open_19 (by decide) ?_
    refine v_iast hE dX5_open_20 (by repeat (first | assumption | exact va_up_self _ _ _ | refine (va_up_ne _ _ (by omega)).trans ?_)) (by omega) (by omega) ?_
    rw [upd_nI]
    refine v_aload_n dX5_open_21 rfl (by rfl) ?_
    refine v_dup dX5_open_22 rfl ?_
    refine v_getf hE dX5_open_23 fX5_28 (by repeat (first | assumption | exact va_up_self _ _ _ | refine (va_up_ne _ _ (by omega)).trans ?_)) (by rfl) ?_
    refine v_iconst (v := nI 1) dX5_open_26 (by decide) ?_
    refine v_iaddN dX5_open_27 ?_
    refine v_putf hE dX5_open_28 fX5_28 (by repeat (first | assumption | exact va_up_self _ _ _ | refine (va_up_ne _ _ (by omega)).trans ?_)) (by exact Nat.le_of_ble_eq_true rfl) (by rfl) (by rfl) (by rfl) ?_
    refine v_ret dX5_open_31 rfl ?_
    refine ⟨rfl, rfl, ?_⟩
    unfold nmNew
    first | (rw [if_neg (by omega)]; exact (nmS_id h).symm) | (rw [if_pos (by omega)]; exact nmS_ext (by repeat (first | assumption | exact va_up_self _ _ _ | refine (va_up_ne _ _ (by omega)).trans ?_)) (by repeat (first | assumption | exact va_up_self _ _ _ | refine (va_up_ne _ _ (by omega)).trans ?_)) (by repeat (first | assumption | exact va_up_self _ _ _ | refine (va_up_ne _ _ (by omega)).trans ?_)) (fun b hb => by simp only [va_up]; repeat rw [if_neg (by omega)]))

set_option maxRecDepth 100000 in
set_option maxHeartbeats 4000000 in
/-- Names.add(x) -/
theorem sX5_add {E : eN} (hE : eOk E) {f : aH} {t : Nat} {a L : Nat} {v : nV} {x : Int32} (h : nmP L f a v) (hv : nOk L v) (hc : 0 < v.1) : mT E mX5_add 0 0 [.ref a, .int x] f t (fun o f' t' => o = .inl none ∧ t' = t ∧ f' = nmS L f a (nmAdd v x)) := by
  refine mT_of (n := 1) (lo := [some (.ref a), some (.int x), none]) (by decide) (by exact Nat.le_of_ble_eq_true rfl) rfl rfl ?_
  obtain ⟨h0, h1, h2⟩ := id h
  obtain ⟨k1, k2, k3⟩ := id hv
  have k4 := k3 (v.1 - 1)
  refine v_aload_n dX5_add_0 rfl (by rfl) ?_
  refine v_getf hE dX5_add_1 fX5_28 (by repeat (first | assumption | exact va_up_self _ _ _ | refine (va_up_ne _ _ (by omega)).trans ?_)) (by rfl) ?_
  refine v_iconst (v := nI 1) dX5_add_4 (by decide) ?_
  refine v_isubN dX5_add_5 (by omega) ?_
  refine v_istore_n dX5_add_6 rfl (by decide) ?_
  refine v_iload_n dX5_add_7 rfl (by rfl) ?_
  refine v_if_lt (tgt := 49) dX5_add_8 (by decide) (fun c8 => ?_) (fun c8 => ?_)
  · exact absurd c8 (nI_pos (by omega))
  · refine v_aload_n dX5_add_11 rfl (by rfl) ?_
    refine v_getf hE dX5_add_12 fX5_25 (by repeat (first | assumption | exact va_up_self _ _ _ | refine (va_up_ne _ _ (by omega)).trans ?_)) (by rfl) ?_
    refine v_iload_n dX5_add_15 rfl (by rfl) ?_
    refine v_iald hE dX5_add_16 (by repeat (first | assumption | exact va_up_self _ _ _ | refine (va_up_ne _ _ (by omega)).trans ?_)) (by omega) (by omega) ?_
    refine v_bipush (v := nI 20) dX5_add_17 (by decide) ?_
    refine v_icmp_geN (tgt := 49) dX5_add_19 (by decide) (by omega) (by omega) (fun c19 => ?_) (fun c19 => ?_)
    · first | rw [upd_nI] | skip
      refine v_ret dX5_add_49 rfl ?_
      refine ⟨rfl, rfl, ?_⟩
      unfold nmAdd
      first | (rw [if_neg (by omega)]; exact (nmS_id h).symm) | (rw [if_pos (by omega)]; exact nmS_ext (by repeat (first | assumption | exact va_up_self _ _ _ | refine (va_up_ne _ _ (by omega)).trans ?_)) (by repeat (first | assumption | exact va_up_self _ _ _ | refine (va_up_ne _ _ (by omega)).trans ?_)) (by repeat (first | assumption | exact va_up_self _ _ _ | refine (va_up_ne _ _ (by omega)).trans ?_)) (fun b hb => by simp only [va_up]; repeat rw [if_neg (by omega)]))
    · refine v_aload_n dX5_add_22 rfl (by rfl) ?_
      refine v_getf hE dX5_add_23 fX5_21 (by repeat (first | assumption | exact va_up_self _ _ _ | refine (va_up_ne _ _ (by omega)).trans ?_)) (by rfl) ?_
      refine v_iload_n dX5_add_26 rfl (by rfl) ?_
      refine v_bipush (v := nI 20) dX5_add_27 (by decide) ?_
      refine v_imulN dX5_add_29 ?_
      refine v_aload_n dX5_add_30 rfl (by rfl) ?_
      refine v_getf hE dX5_add_31 fX5_25 (by repeat (first | assumption | exact va_up_self _ _ _ | refine (va_up_ne _ _ (by omega)).trans ?_)) (by rfl) ?_
      refine v_iload_n dX5_add_34 rfl (by rfl) ?_
      refine v_iald hE dX5_add_35 (by repeat (first | assumption | exact va_up_self _ _ _ | refine (va_up_ne _ _ (by omega)).trans ?_)) (by omega) (by omega) ?_
      refine v_iaddN dX5_add_36 ?_
      refine v_iload_n dX5_add_37 rfl (by rfl) ?_
      refine v_iast hE dX5_add_38 (by repeat (first | assumption | exact va_up_self _ _ _ | refine (va_up_ne _ _ (by omega)).trans ?_)) (by omega) (by omega) ?_
      refine v_aload_n dX5_add_39 rfl (by rfl) ?_
      refine v_getf hE dX5_add_40 fX5_25 (by repeat (first | assumption | exact va_up_self _ _ _ | refine (va_up_ne _ _ (by omega)).trans ?_)) (by rfl) ?_
      refine v_iload_n dX5_add_43 rfl (by rfl) ?_
      refine v_dup2 dX5_add_44 rfl rfl ?_
      refine v_iald hE dX5_add_45 (by repeat (first | assumption | exact va_up_self _ _ _ | refine (va_up_ne _ _ (by omega)).trans ?_)) (by omega) (by omega) ?_
      refine v_iconst (v := nI 1) dX5_add_46 (by decide) ?_
      refine v_iaddN dX5_add_47 ?_
      refine v_iast hE dX5_add_48 (by repeat (first | assumption | exact va_up_self _ _ _ | refine (va_up_ne _ _ (by omega)).trans ?_)) (by omega) (by omega) ?_
      first | rw [upd_nI] | skip
      refine v_ret dX5_add_49 rfl ?_
      refine ⟨rfl, rfl, ?_⟩
      unfold nmAdd
      first | (rw [if_neg (by omega)]; exact (nmS_id h).symm) | (rw [if_pos (by omega)]; exact nmS_ext (by repeat (first | assumption | exact va_up_self _ _ _ | refine (va_up_ne _ _ (by omega)).trans ?_)) (by repeat (first | assumption | exact va_up_self _ _ _ | refine (va_up_ne _ _ (by omega)).trans ?_)) (by repeat (first | assumption | exact va_up_self _ _ _ | refine (va_up_ne _ _ (by omega)).trans ?_)) (fun b hb => by simp only [va_up]; repeat rw [if_neg (by omega)]))

set_option maxRecDepth 100000 in
set_option maxHeartbeats 4000000 in
/-- Names.sizeOf(i) -/
theorem sX5_sizeOf {E : eN} (hE : eOk E) {f : aH} {t : Nat} {a L i : Nat} {v : nV} (h : nmP L f a v) (hv : nOk L v) (hi : i < 2 ^ 30) : mT E mX5_sizeOf 0 0 [.ref a, .int (nI i)] f t (fun o f' t' => o = .inl (some (.int (nmSz v i))) ∧ t' = t ∧ f' = f) := by
  refine mT_of (n := 0) (lo := [some (.ref a), some (.int (nI i))]) (by decide) (by exact Nat.le_of_ble_eq_true rfl) rfl rfl ?_
  obtain ⟨h0, h1, h2⟩ := id h
  obtain ⟨k1, k2, k3⟩ := id hv
  refine v_iload_n dX5_sizeOf_0 rfl (by rfl) ?_
  refine v_if_lt (tgt := 21) dX5_sizeOf_1 (by decide) (fun c1 => ?_) (fun c1 => ?_)
  · exact absurd c1 (nI_pos (by omega))
  · refine v_iload_n dX5_sizeOf_4 rfl (by rfl) ?_
    refine v_aload_n dX5_sizeOf_5 rfl (by rfl) ?_
    refine v_getf hE dX5_sizeOf_6 fX5_28 (by repeat (first | assumption | exact va_up_self _ _ _ | refine (va_up_ne _ _ (by omega)).trans ?_)) (by rfl) ?_
    refine v_icmp_geN (tgt := 21) dX5_sizeOf_9 (by decide) (by omega) (by omega) (fun c9 => ?_) (fun c9 => ?_)
    · refine v_iconst (v := (-1)) dX5_sizeOf_21 (by decide) ?_
      refine v_iret dX5_sizeOf_22 rfl (by rfl) ?_
      refine ⟨congrArg (fun x => (Sum.inl (some (Value.int x)) : aO)) ?_, rfl, rfl⟩
      unfold nmSz
      first | rw [if_pos (by omega)] | rw [if_neg (by omega)]
    · refine v_aload_n dX5_sizeOf_12 rfl (by rfl) ?_
      refine v_getf hE dX5_sizeOf_13 fX5_25 (by repeat (first | assumption | exact va_up_self _ _ _ | refine (va_up_ne _ _ (by omega)).trans ?_)) (by rfl) ?_
      refine v_iload_n dX5_sizeOf_16 rfl (by rfl) ?_
      refine v_iald hE dX5_sizeOf_17 (by repeat (first | assumption | exact va_up_self _ _ _ | refine (va_up_ne _ _ (by omega)).trans ?_)) (by omega) (by omega) ?_
      refine v_goto (tgt := 22) dX5_sizeOf_18 (by decide) ?_
      refine v_iret dX5_sizeOf_22 rfl (by rfl) ?_
      refine ⟨congrArg (fun x => (Sum.inl (some (Value.int x)) : aO)) ?_, rfl, rfl⟩
      unfold nmSz
      first | rw [if_pos (by omega)] | rw [if_neg (by omega)]

set_option maxRecDepth 100000 in
set_option maxHeartbeats 4000000 in
/-- Names.octetAt(i, k) -/
theorem sX5_octetAt {E : eN} (hE : eOk E) {f : aH} {t : Nat} {a L i : Nat} {v : nV} {k : Int32} (h : nmP L f a v) (hv : nOk L v) (hi : i < v.1) : mT E mX5_octetAt 0 0 [.ref a, .int (nI i), .int k] f t (fun o f' t' => o = .inl (some (.int (nmOct v i k))) ∧ t' = t ∧ f' = f) := by
  refine mT_of (n := 0) (lo := [some (.ref a), some (.int (nI i)), some (.int k)]) (by decide) (by exact Nat.le_of_ble_eq_true rfl) rfl rfl ?_
  obtain ⟨h0, h1, h2⟩ := id h
  obtain ⟨k1, k2, k3⟩ := id hv
  have k4 := k3 i
  refine v_iload_n dX5_octetAt_0 rfl (by rfl) ?_
  refine v_if_lt (tgt := 27) dX5_octetAt_1 (by decide) (fun c1 => ?_) (fun c1 => ?_)
  · refine v_iconst (v := (-1)) dX5_octetAt_27 (by decide) ?_
    refine v_iret dX5_octetAt_28 rfl (by rfl) ?_
    refine ⟨congrArg (fun x => (Sum.inl (some (Value.int x)) : aO)) ?_, rfl, rfl⟩
    first | rw [nmOct_in (by assumption) hi (by omega)] | rw [nmOct_out (by assumption) hi (by omega)] | (unfold nmOct; rw [if_neg (fun q => absurd c1 (Int32.not_lt.mpr q.1))])
  · obtain ⟨j, hj, rfl⟩ := nI_of c1
    refine v_iload_n dX5_octetAt_4 rfl (by rfl) ?_
    refine v_aload_n dX5_octetAt_5 rfl (by rfl) ?_
    refine v_iload_n dX5_octetAt_6 rfl (by rfl) ?_
    refine w_callV hE dX5_octetAt_7 kX5_38 (by repeat (first | assumption | exact va_up_self _ _ _ | refine (va_up_ne _ _ (by omega)).trans ?_)) (by rfl) (by rfl) (sX5_sizeOf hE h hv (by omega)) rfl (by decide) (by decide) (by exact Nat.le_of_ble_eq_true rfl) (by omega) (by omega) (fun v9 g9 u9 h9 => ?_) (fun _ _ _ h => by cases h.1)
    obtain ⟨hv, rfl, rfl⟩ := h9
    cases hv
    rw [show nmSz v i = nI (v.2.2 i) from if_pos hi]
    refine v_icmp_geN (tgt := 27) dX5_octetAt_10 (by decide) (by omega) (by omega) (fun c10 => ?_) (fun c10 => ?_)
    · refine v_iconst (v := (-1)) dX5_octetAt_27 (by decide) ?_
      refine v_iret dX5_octetAt_28 rfl (by rfl) ?_
      refine ⟨congrArg (fun x => (Sum.inl (some (Value.int x)) : aO)) ?_, rfl, rfl⟩
      first | rw [nmOct_in (by assumption) hi (by omega)] | rw [nmOct_out (by assumption) hi (by omega)] | (unfold nmOct; rw [if_neg (fun q => absurd c1 (Int32.not_lt.mpr q.1))])
    · refine v_aload_n dX5_octetAt_13 rfl (by rfl) ?_
      refine v_getf hE dX5_octetAt_14 fX5_21 (by repeat (first | assumption | exact va_up_self _ _ _ | refine (va_up_ne _ _ (by omega)).trans ?_)) (by rfl) ?_
      refine v_iload_n dX5_octetAt_17 rfl (by rfl) ?_
      refine v_bipush (v := nI 20) dX5_octetAt_18 (by decide) ?_
      refine v_imulN dX5_octetAt_20 ?_
      refine v_iload_n dX5_octetAt_21 rfl (by rfl) ?_
      refine v_iaddN dX5_octetAt_22 ?_
      refine v_iald hE dX5_octetAt_23 (by repeat (first | assumption | exact va_up_self _ _ _ | refine (va_up_ne _ _ (by omega)).trans ?_)) (by omega) (by omega) ?_
      refine v_goto (tgt := 28) dX5_octetAt_24 (by decide) ?_
      refine v_iret dX5_octetAt_28 rfl (by rfl) ?_
      refine ⟨congrArg (fun x => (Sum.inl (some (Value.int x)) : aO)) ?_, rfl, rfl⟩
      first | rw [nmOct_in (by assumption) hi (by omega)] | rw [nmOct_out (by assumption) hi (by omega)] | (unfold nmOct; rw [if_neg (fun q => absurd c1 (Int32.not_lt.mpr q.1))])

set_option maxRecDepth 100000 in
set_option maxHeartbeats 4000000 in
/-- Names.isName(i, other, j) -/
theorem sX5_isName {E : eN} (hE : eOk E) {f : aH} {t : Nat} {a b L M i j : Nat} {v w : nV} (h : nmP L f a v) (hv : nOk L v) (hb : nmP M f b w) (hw : nOk M w) (hi : i < v.1) (hj : j < w.1) : mT E mX5_isName 0 0 [.ref a, .int (nI i), .ref b, .int (nI j)] f t (fun o f' t' => o = .inl (some (.int (bI (nmSame v i w j)))) ∧ t' = t ∧ f' = f) := by
  refine mT_of (n := 1) (lo := [some (.ref a), some (.int (nI i)), some (.ref b), some (.int (nI j)), none]) (by decide) (by exact Nat.le_of_ble_eq_true rfl) rfl rfl ?_
  obtain ⟨h0, h1, h2⟩ := id h
  obtain ⟨k1, k2, k3⟩ := id hv
  obtain ⟨g0, g1, g2⟩ := id hb
  obtain ⟨q1, q2, q3⟩ := id hw
  have k4 := k3 i
  have q4 := q3 j
  have lp : v.2.2 i = w.2.2 j → ∀ (d : Nat) (k : Nat), k + d = v.2.2 i → nmSame v i w j = allB (fun k => decide (v.2.1 (i * 20 + k) = w.2.1 (j * 20 + k))) (v.2.2 i - k) k → V E mX5_isName 0 0 (fun o f' t' => o = .inl (some (.int (bI (nmSame v i w j)))) ∧ t' = t ∧ f' = f) 20 [some (.ref a), some (.int (nI i)), some (.ref b), some (.int (nI j)), some (.int (nI k))] [] f t 0 0 := by
    intro hsz d
    induction d using Nat.strongRecOn with
    | _ d ih =>
    intro k hk he
    refine v_iload dX5_isName_20 (by rfl) ?_
    refine v_aload_n dX5_isName_22 rfl (by rfl) ?_
    refine v_getf hE dX5_isName_23 fX5_25 (by repeat (first | assumption | exact va_up_self _ _ _ | refine (va_up_ne _ _ (by omega)).trans ?_)) (by rfl) ?_
    refine v_iload_n dX5_isName_26 rfl (by rfl) ?_
    refine v_iald hE dX5_isName_27 (by repeat (first | assumption | exact va_up_self _ _ _ | refine (va_up_ne _ _ (by omega)).trans ?_)) (by omega) (by omega) ?_
    refine v_icmp_geN (tgt := 66) dX5_isName_28 (by decide) (by omega) (by omega) (fun c28 => ?_) (fun c28 => ?_)
    · refine v_iconst (v := nI 1) dX5_isName_66 (by decide) ?_
      refine v_iret dX5_isName_67 rfl (by rfl) ?_
      first | exact ⟨congrArg (fun x => (Sum.inl (some (Value.int x)) : aO)) (bI_t (he.trans (allB_0 (by omega)))), rfl, rfl⟩ | exact ⟨congrArg (fun x => (Sum.inl (some (Value.int x)) : aO)) (bI_f (he.trans (allB_f c28 (decide_eq_false c55)))), rfl, rfl⟩
    · refine v_aload_n dX5_isName_31 rfl (by rfl) ?_
      refine v_getf hE dX5_isName_32 fX5_21 (by repeat (first | assumption | exact va_up_self _ _ _ | refine (va_up_ne _ _ (by omega)).trans ?_)) (by rfl) ?_
      refine v_iload_n dX5_isName_35 rfl (by rfl) ?_
      refine v_bipush (v := nI 20) dX5_isName_36 (by decide) ?_
      refine v_imulN dX5_isName_38 ?_
      refine v_iload dX5_isName_39 (by rfl) ?_
      refine v_iaddN dX5_isName_41 ?_
      refine v_iald hE dX5_isName_42 (by repeat (first | assumption | exact va_up_self _ _ _ | refine (va_up_ne _ _ (by omega)).trans ?_)) (by omega) (by omega) ?_
      refine v_aload_n dX5_isName_43 rfl (by rfl) ?_
      refine v_getf hE dX5_isName_44 fX5_21 (by repeat (first | assumption | exact va_up_self _ _ _ | refine (va_up_ne _ _ (by omega)).trans ?_)) (by rfl) ?_
      refine v_iload_n dX5_isName_47 rfl (by rfl) ?_
      refine v_bipush (v := nI 20) dX5_isName_48 (by decide) ?_
      refine v_imulN dX5_isName_50 ?_
      refine v_iload dX5_isName_51 (by rfl) ?_
      refine v_iaddN dX5_isName_53 ?_
      refine v_iald hE dX5_isName_54 (by repeat (first | assumption | exact va_up_self _ _ _ | refine (va_up_ne _ _ (by omega)).trans ?_)) (by omega) (by omega) ?_
      refine v_icmp_eq (tgt := 60) dX5_isName_55 (by decide) (fun c55 => ?_) (fun c55 => ?_)
      · refine v_iincN (y := 1) dX5_isName_60 (by rfl) (by decide) (by decide) ?_
        refine v_goto (tgt := 20) dX5_isName_63 (by decide) ?_
        exact ih (d - 1) (by omega) (k + 1) (by omega) (he.trans (allB_s c28 (decide_eq_true c55)))
      · refine v_iconst (v := nI 0) dX5_isName_58 (by decide) ?_
        refine v_iret dX5_isName_59 rfl (by rfl) ?_
        first | exact ⟨congrArg (fun x => (Sum.inl (some (Value.int x)) : aO)) (bI_t (he.trans (allB_0 (by omega)))), rfl, rfl⟩ | exact ⟨congrArg (fun x => (Sum.inl (some (Value.int x)) : aO)) (bI_f (he.trans (allB_f c28 (decide_eq_false c55)))), rfl, rfl⟩
  refine v_aload_n dX5_isName_0 rfl (by rfl) ?_
  refine v_getf hE dX5_isName_1 fX5_25 (by repeat (first | assumption | exact va_up_self _ _ _ | refine (va_up_ne _ _ (by omega)).trans ?_)) (by rfl) ?_
  refine v_iload_n dX5_isName_4 rfl (by rfl) ?_
  refine v_iald hE dX5_isName_5 (by repeat (first | assumption | exact va_up_self _ _ _ | refine (va_up_ne _ _ (by omega)).trans ?_)) (by omega) (by omega) ?_
  refine v_aload_n dX5_isName_6 rfl (by rfl) ?_
  refine v_getf hE dX5_isName_7 fX5_25 (by repeat (first | assumption | exact va_up_self _ _ _ | refine (va_up_ne _ _ (by omega)).trans ?_)) (by rfl) ?_
  refine v_iload_n dX5_isName_10 rfl (by rfl) ?_
  refine v_iald hE dX5_isName_11 (by repeat (first | assumption | exact va_up_self _ _ _ | refine (va_up_ne _ _ (by omega)).trans ?_)) (by omega) (by omega) ?_
  refine v_icmp_eqN (tgt := 17) dX5_isName_12 (by decide) (by omega) (by omega) (fun c12 => ?_) (fun c12 => ?_)
  · refine v_iconst (v := nI 0) dX5_isName_17 (by decide) ?_
    refine v_istore dX5_isName_18 (by decide) ?_
    exact lp c12 (v.2.2 i) 0 (by omega) (by unfold nmSame; rw [decide_eq_true c12]; rfl)
  · refine v_iconst (v := nI 0) dX5_isName_15 (by decide) ?_
    refine v_iret dX5_isName_16 rfl (by rfl) ?_
    refine ⟨congrArg (fun x => (Sum.inl (some (Value.int x)) : aO)) (bI_f ?_), rfl, rfl⟩
    unfold nmSame
    rw [decide_eq_false c12]; rfl

set_option maxRecDepth 100000 in
set_option maxHeartbeats 4000000 in
/-- Names.indexOf(other, j) -/
theorem sX5_indexOf {E : eN} (hE : eOk E) {f : aH} {t : Nat} {a b L M j : Nat} {v w : nV} (h : nmP L f a v) (hv : nOk L v) (hb : nmP M f b w) (hw : nOk M w) (hj : j < w.1) : mT E mX5_indexOf 0 0 [.ref a, .ref b, .int (nI j)] f t (fun o f' t' => o = .inl (some (.int (nmIdx v w j))) ∧ t' = t ∧ f' = f) := by
  refine mT_of (n := 1) (lo := [some (.ref a), some (.ref b), some (.int (nI j)), none]) (by decide) (by exact Nat.le_of_ble_eq_true rfl) rfl rfl ?_
  obtain ⟨h0, h1, h2⟩ := id h
  obtain ⟨k1, k2, k3⟩ := id hv
  obtain ⟨g0, g1, g2⟩ := id hb
  obtain ⟨q1, q2, q3⟩ := id hw
  have lp : ∀ (d : Nat) (i : Nat), i + d = v.1 → nmIdx v w j = fndB (fun i => nmSame v i w j) (v.1 - i) i → V E mX5_indexOf 0 0 (fun o f' t' => o = .inl (some (.int (nmIdx v w j))) ∧ t' = t ∧ f' = f) 2 [some (.ref a), some (.ref b), some (.int (nI j)), some (.int (nI i))] [] f t 0 0 := by
    intro d
    induction d using Nat.strongRecOn with
    | _ d ih =>
    intro i hi he
    refine v_iload_n dX5_indexOf_2 rfl (by rfl) ?_
    refine v_aload_n dX5_indexOf_3 rfl (by rfl) ?_
    refine v_getf hE dX5_indexOf_4 fX5_28 (by repeat (first | assumption | exact va_up_self _ _ _ | refine (va_up_ne _ _ (by omega)).trans ?_)) (by rfl) ?_
    refine v_icmp_geN (tgt := 40) dX5_indexOf_7 (by decide) (by omega) (by omega) (fun c7 => ?_) (fun c7 => ?_)
    · refine v_iconst (v := (-1)) dX5_indexOf_40 (by decide) ?_
      refine v_iret dX5_indexOf_41 rfl (by rfl) ?_
      refine ⟨congrArg (fun x => (Sum.inl (some (Value.int x)) : aO)) ?_, rfl, rfl⟩
      rw [he]
      first | exact (fndB_0 (by omega)).symm | exact (fndB_t c7 c29).symm
    · refine v_iload_n dX5_indexOf_10 rfl (by rfl) ?_
      refine v_if_lt (tgt := 40) dX5_indexOf_11 (by decide) (fun c11 => ?_) (fun c11 => ?_)
      · exact absurd c11 (nI_pos (by omega))
      · refine v_iload_n dX5_indexOf_14 rfl (by rfl) ?_
        refine v_aload_n dX5_indexOf_15 rfl (by rfl) ?_
        refine v_getf hE dX5_indexOf_16 fX5_28 (by repeat (first | assumption | exact va_up_self _ _ _ | refine (va_up_ne _ _ (by omega)).trans ?_)) (by rfl) ?_
        refine v_icmp_geN (tgt := 40) dX5_indexOf_19 (by decide) (by omega) (by omega) (fun c19 => ?_) (fun c19 => ?_)
        · refine v_iconst (v := (-1)) dX5_indexOf_40 (by decide) ?_
          refine v_iret dX5_indexOf_41 rfl (by rfl) ?_
          refine ⟨congrArg (fun x => (Sum.inl (some (Value.int x)) : aO)) ?_, rfl, rfl⟩
          rw [he]
          first | exact (fndB_0 (by omega)).symm | exact (fndB_t c7 c29).symm
        · refine v_aload_n dX5_indexOf_22 rfl (by rfl) ?_
          refine v_iload_n dX5_indexOf_23 rfl (by rfl) ?_
          refine v_aload_n dX5_indexOf_24 rfl (by rfl) ?_
          refine v_iload_n dX5_indexOf_25 rfl (by rfl) ?_
          refine w_callV hE dX5_indexOf_26 kX5_42 (by repeat (first | assumption | exact va_up_self _ _ _ | refine (va_up_ne _ _ (by omega)).trans ?_)) (by rfl) (by rfl) (sX5_isName hE h hv hb hw (by omega) hj) rfl (by decide) (by decide) (by exact Nat.le_of_ble_eq_true rfl) (by omega) (by omega) (fun v9 g9 u9 h9 => ?_) (fun _ _ _ h => by cases h.1)
          obtain ⟨hv, rfl, rfl⟩ := h9
          cases hv
          refine v_if_eqB (tgt := 34) dX5_indexOf_29 (by decide) (fun c29 => ?_) (fun c29 => ?_)
          · refine v_iincN (y := 1) dX5_indexOf_34 (by rfl) (by decide) (by decide) ?_
            refine v_goto (tgt := 2) dX5_indexOf_37 (by decide) ?_
            exact ih (d - 1) (by omega) (i + 1) (by omega) (he.trans (fndB_s c7 c29))
          · refine v_iload_n dX5_indexOf_32 rfl (by rfl) ?_
            refine v_iret dX5_indexOf_33 rfl (by rfl) ?_
            refine ⟨congrArg (fun x => (Sum.inl (some (Value.int x)) : aO)) ?_, rfl, rfl⟩
            rw [he]
            first | exact (fndB_0 (by omega)).symm | exact (fndB_t c7 c29).symm
  refine v_iconst (v := nI 0) dX5_indexOf_0 (by decide) ?_
  refine v_istore_n dX5_indexOf_1 rfl (by decide) ?_
  exact lp v.1 0 (by omega) rfl

set_option maxRecDepth 100000 in
set_option maxHeartbeats 4000000 in
/-- Names.indexIn(words, i, j) -/
theorem sX5_indexIn {E : eN} (hE : eOk E) {f : aH} {t : Nat} {a b L i j : Nat} {v : nV} {s : tS} (h : nmP L f a v) (hv : nOk L v) (hb : oP f b s) (hij : i ≤ j) (hj : j < 2 ^ 29) : mT E mX5_indexIn 0 0 [.ref a, .ref b, .int (nI i), .int (nI j)] f t (fun o f' t' => o = .inl (some (.int (nmIn L v s i j))) ∧ t' = t ∧ f' = f) := by
  refine mT_of (n := 1) (lo := [some (.ref a), some (.ref b), some (.int (nI i)), some (.int (nI j)), none]) (by decide) (by exact Nat.le_of_ble_eq_true rfl) rfl rfl ?_
  obtain ⟨h0, h1, h2⟩ := id h
  obtain ⟨k1, k2, k3⟩ := id hv
  obtain ⟨⟨g1, g2⟩, g3⟩ := id hb
  have lp : ∀ (d : Nat) (n : Nat), n + d = v.1 → nmIn L v s i j = fndB (fun n => tPart s i j v.2.1 (L * 20) (n * 20) (v.2.2 n)) (v.1 - n) n → V E mX5_indexIn 0 0 (fun o f' t' => o = .inl (some (.int (nmIn L v s i j))) ∧ t' = t ∧ f' = f) 3 [some (.ref a), some (.ref b), some (.int (nI i)), some (.int (nI j)), some (.int (nI n))] [] f t 0 0 := by
    intro d
    induction d using Nat.strongRecOn with
    | _ d ih =>
    intro n hn he
    have k4 := k3 n
    refine v_iload dX5_indexIn_3 (by rfl) ?_
    refine v_aload_n dX5_indexIn_5 rfl (by rfl) ?_
    refine v_getf hE dX5_indexIn_6 fX5_28 (by repeat (first | assumption | exact va_up_self _ _ _ | refine (va_up_ne _ _ (by omega)).trans ?_)) (by rfl) ?_
    refine v_icmp_geN (tgt := 46) dX5_indexIn_9 (by decide) (by omega) (by omega) (fun c9 => ?_) (fun c9 => ?_)
    · refine v_iconst (v := (-1)) dX5_indexIn_46 (by decide) ?_
      refine v_iret dX5_indexIn_47 rfl (by rfl) ?_
      refine ⟨congrArg (fun x => (Sum.inl (some (Value.int x)) : aO)) ?_, rfl, rfl⟩
      rw [he]
      first | exact (fndB_0 (by omega)).symm | exact (fndB_t c9 c34).symm
    · refine v_aload_n dX5_indexIn_12 rfl (by rfl) ?_
      refine v_iload_n dX5_indexIn_13 rfl (by rfl) ?_
      refine v_iload_n dX5_indexIn_14 rfl (by rfl) ?_
      refine v_aload_n dX5_indexIn_15 rfl (by rfl) ?_
      refine v_getf hE dX5_indexIn_16 fX5_21 (by repeat (first | assumption | exact va_up_self _ _ _ | refine (va_up_ne _ _ (by omega)).trans ?_)) (by rfl) ?_
      refine v_iload dX5_indexIn_19 (by rfl) ?_
      refine v_bipush (v := nI 20) dX5_indexIn_21 (by decide) ?_
      refine v_imulN dX5_indexIn_23 ?_
      refine v_aload_n dX5_indexIn_24 rfl (by rfl) ?_
      refine v_getf hE dX5_indexIn_25 fX5_25 (by repeat (first | assumption | exact va_up_self _ _ _ | refine (va_up_ne _ _ (by omega)).trans ?_)) (by rfl) ?_
      refine v_iload dX5_indexIn_28 (by rfl) ?_
      refine v_iald hE dX5_indexIn_30 (by repeat (first | assumption | exact va_up_self _ _ _ | refine (va_up_ne _ _ (by omega)).trans ?_)) (by omega) (by omega) ?_
      refine w_callV hE dX5_indexIn_31 kX5_46 (by repeat (first | assumption | exact va_up_self _ _ _ | refine (va_up_ne _ _ (by omega)).trans ?_)) (by rfl) (by rfl) (sX6_isPart hE hb h1 hij (by omega) (by omega) (by omega) (by omega)) rfl (by decide) (by decide) (by exact Nat.le_of_ble_eq_true rfl) (by omega) (by omega) (fun v9 g9 u9 h9 => ?_) (fun _ _ _ h => by cases h.1)
      obtain ⟨hv, rfl, rfl⟩ := h9
      cases hv
      refine v_if_eqB (tgt := 40) dX5_indexIn_34 (by decide) (fun c34 => ?_) (fun c34 => ?_)
      · refine v_iincN (y := 1) dX5_indexIn_40 (by rfl) (by decide) (by decide) ?_
        refine v_goto (tgt := 3) dX5_indexIn_43 (by decide) ?_
        exact ih (d - 1) (by omega) (n + 1) (by omega) (he.trans (fndB_s c9 c34))
      · refine v_iload dX5_indexIn_37 (by rfl) ?_
        refine v_iret dX5_indexIn_39 rfl (by rfl) ?_
        refine ⟨congrArg (fun x => (Sum.inl (some (Value.int x)) : aO)) ?_, rfl, rfl⟩
        rw [he]
        first | exact (fndB_0 (by omega)).symm | exact (fndB_t c9 c34).symm
  refine v_iconst (v := nI 0) dX5_indexIn_0 (by decide) ?_
  refine v_istore dX5_indexIn_1 (by decide) ?_
  exact lp v.1 0 (by omega) rfl

set_option maxRecDepth 100000 in
set_option maxHeartbeats 4000000 in
/-- Names.writeName(i, words) -/
theorem sX5_writeName {E : eN} (hE : eOk E) {f : aH} {t : Nat} {a b L i : Nat} {v : nV} {s : tS} (h : nmP L f a v) (hv : nOk L v) (hb : oP f b s) (hi : i < v.1) (hd : b + 1 < a ∨ a + 2 < b) : mT E mX5_writeName 0 0 [.ref a, .int (nI i), .ref b] f t (fun o f' t' => o = .inl none ∧ t' = t ∧ f' = oS f b (tAdds s (prt v.2.1 (v.2.2 i) (i * 20)))) := by
  refine mT_of (n := 0) (lo := [some (.ref a), some (.int (nI i)), some (.ref b)]) (by decide) (by exact Nat.le_of_ble_eq_true rfl) rfl rfl ?_
  obtain ⟨h0, h1, h2⟩ := id h
  obtain ⟨k1, k2, k3⟩ := id hv
  obtain ⟨⟨g1, g2⟩, g3⟩ := id hb
  have k4 := k3 i
  refine v_aload_n dX5_writeName_0 rfl (by rfl) ?_
  refine v_aload_n dX5_writeName_1 rfl (by rfl) ?_
  refine v_getf hE dX5_writeName_2 fX5_21 (by repeat (first | assumption | exact va_up_self _ _ _ | refine (va_up_ne _ _ (by omega)).trans ?_)) (by rfl) ?_
  refine v_iload_n dX5_writeName_5 rfl (by rfl) ?_
  refine v_bipush (v := nI 20) dX5_writeName_6 (by decide) ?_
  refine v_imulN dX5_writeName_8 ?_
  refine v_aload_n dX5_writeName_9 rfl (by rfl) ?_
  refine v_iload_n dX5_writeName_10 rfl (by rfl) ?_
  refine w_callV hE dX5_writeName_11 kX5_38 (by repeat (first | assumption | exact va_up_self _ _ _ | refine (va_up_ne _ _ (by omega)).trans ?_)) (by rfl) (by rfl) (sX5_sizeOf hE h hv (by omega)) rfl (by decide) (by decide) (by exact Nat.le_of_ble_eq_true rfl) (by omega) (by omega) (fun v9 g9 u9 h9 => ?_) (fun _ _ _ h => by cases h.1)
  obtain ⟨hv, rfl, rfl⟩ := h9
  cases hv
  rw [show nmSz v i = nI (v.2.2 i) from if_pos hi]
  refine w_callV hE dX5_writeName_14 kX5_52 (by repeat (first | assumption | exact va_up_self _ _ _ | refine (va_up_ne _ _ (by omega)).trans ?_)) (by rfl) (by rfl) (sX6_addPart hE hb h1 (by omega) (by omega) (by omega) (by omega) (by omega)) rfl (by decide) (by decide) (by exact Nat.le_of_ble_eq_true rfl) (by omega) (by omega) (fun v9 g9 u9 h9 => ?_) (fun _ _ _ h => by cases h.1)
  obtain ⟨hv, rfl, rfl⟩ := h9
  cases hv
  refine v_ret dX5_writeName_17 rfl ?_
  refine ⟨rfl, rfl, ?_⟩
  rw [show min (i * 20 + v.2.2 i) (L * 20) - i * 20 = v.2.2 i by omega]
