section MXN
variable {E : eN} {I : mR} {mc ms : Nat} {Q : aP} {pc : Nat} {lo : List (Option Value)} {st : List Value} {f : aH} {t bc bs : Nat}
theorem v_maxN (hE : eOk E) {ix x y : Nat} (d : decode I.2.1 pc = .ok (.invokestatic ix, 3)) (hL : Cond.methodLink I.1.cls ix Lib.Math.max.name ∈ lw_tbl) (hfr : 1 ≤ I.2.2.2.2.1) (hlo : (st.map fun v => v.category).sum + 13 ≤ I.2.2.2.2.2) (hx : x < 2 ^ 31) (hy : y < 2 ^ 31) (k : V E I mc ms Q (pc + 3) lo (.int (nI (max x y)) :: st) f t bc bs) : V E I mc ms Q pc lo (.int (nI y) :: .int (nI x) :: st) f t bc bs := by
  refine v_max hE d hL hfr hlo (v_eqi ?_ k)
  by_cases h : x < y
  · rw [if_pos (nI_lt h hy), Nat.max_eq_right (by omega)]
  · rw [if_neg (nI_nlt (by omega) hx), Nat.max_eq_left (by omega)]
theorem v_minN (hE : eOk E) {ix x y : Nat} (d : decode I.2.1 pc = .ok (.invokestatic ix, 3)) (hL : Cond.methodLink I.1.cls ix Lib.Math.min.name ∈ lw_tbl) (hfr : 1 ≤ I.2.2.2.2.1) (hlo : (st.map fun v => v.category).sum + 13 ≤ I.2.2.2.2.2) (hx : x < 2 ^ 31) (hy : y < 2 ^ 31) (k : V E I mc ms Q (pc + 3) lo (.int (nI (min x y)) :: st) f t bc bs) : V E I mc ms Q pc lo (.int (nI y) :: .int (nI x) :: st) f t bc bs := by
  refine v_min hE d hL hfr hlo (v_eqi ?_ k)
  by_cases h : y < x
  · rw [if_pos (nI_lt h hx), Nat.min_eq_right (by omega)]
  · rw [if_neg (nI_nlt (by omega) hy), Nat.min_eq_left (by omega)]
end MXN
/-! Octets as one value: how many, the row, whether it grew too long -/
abbrev tS : Type := Nat × (Nat → Int32) × Int32
def oP (f : aH) (a : Nat) (s : tS) : Prop := oc f a s.1 s.2.1 s.2.2 ∧ s.1 ≤ 8000
def oS (f : aH) (a : Nat) (s : tS) : aH := ocS f a s.1 s.2.1 s.2.2
theorem oP_S {f : aH} {a : Nat} {s : tS} (h : s.1 ≤ 8000) : oP (oS f a s) a s := ⟨oc_S _ _ _ _ _, h⟩
theorem oS_S {f : aH} {a : Nat} {s u : tS} : oS (oS f a s) a u = oS f a u := oc_SS
theorem oS_id {f : aH} {a : Nat} {s : tS} (h : oP f a s) : oS f a s = f := oc_id h.1
theorem oS_ne {f : aH} {a : Nat} {s : tS} {b : Nat} (h1 : b ≠ a) (h2 : b ≠ a + 1) : oS f a s b = f b := oc_ne h1 h2
def tAdd (s : tS) (x : Int32) : tS := if s.1 < 8000 then (s.1 + 1, upd s.2.1 s.1 x, s.2.2) else (s.1, s.2.1, 1)
def tAdds (s : tS) (l : List Int32) : tS := l.foldl tAdd s
theorem tAdd_le {s : tS} {x : Int32} (h : s.1 ≤ 8000) : (tAdd s x).1 ≤ 8000 := by
  unfold tAdd
  split
  · show s.1 + 1 ≤ 8000; omega
  · exact h
theorem tAdds_le {l : List Int32} : ∀ {s : tS}, s.1 ≤ 8000 → (tAdds s l).1 ≤ 8000 := by
  induction l with
  | nil => intro s h; exact h
  | cons x l ih => intro s h; exact ih (tAdd_le h)
theorem tAdds_app {s : tS} {l m : List Int32} : tAdds (tAdds s l) m = tAdds s (l ++ m) := List.foldl_append.symm
theorem uX6_add {E : eN} (hE : eOk E) {f : aH} {t a : Nat} {s : tS} {x : Int32} (h : oP f a s) : mT E mX6_add 0 0 [.ref a, .int x] f t (fun o f' t' => o = .inl none ∧ t' = t ∧ f' = oS f a (tAdd s x)) := by
  refine mT_post (sX6_add hE h.1 h.2) (fun o g u q => ⟨q.1, q.2.1, q.2.2.trans ?_⟩)
  unfold tAdd oS
  split <;> rfl
/-- d places of a row, from j on -/
def prt (g : Nat → Int32) : Nat → Nat → List Int32
  | 0, _ => []
  | d + 1, j => g j :: prt g d (j + 1)
/-- where x is first, among d places from j on; -1 if nowhere -/
def tFind (g : Nat → Int32) (x : Int32) : Nat → Nat → Int32
  | 0, _ => -1
  | d + 1, j => if g j = x then nI j else tFind g x d (j + 1)
/-- whether p holds for d places from j on -/
def allP (p : Nat → Prop) : Nat → Nat → Prop
  | 0, _ => True
  | d + 1, j => p j ∧ allP p d (j + 1)
theorem allP_iff {p : Nat → Prop} : ∀ (d j : Nat), allP p d j ↔ ∀ i, i < d → p (j + i) := by
  intro d
  induction d with
  | zero => intro j; exact ⟨fun _ i h => by omega, fun _ => trivial⟩
  | succ d ih =>
    intro j
    constructor
    · intro h i hi
      cases i with
      | zero => exact h.1
      | succ i =>
        have := (ih (j + 1)).mp h.2 i (by omega)
        rwa [show j + 1 + i = j + (i + 1) by omega] at this
    · intro h
      refine ⟨h 0 (by omega), (ih (j + 1)).mpr (fun i hi => ?_)⟩
      have := h (i + 1) (by omega)
      rwa [show j + (i + 1) = j + 1 + i by omega] at this

set_option maxRecDepth 100000 in
set_option maxHeartbeats 4000000 in
/-- Octets.find(x, j) -/
theorem sX6_find {E : eN} (hE : eOk E) {f : aH} {t : Nat} {a j : Nat} {s : tS} {x : Int32} (h : oP f a s) (hj : j < 2 ^ 30) : mT E mX6_find 0 0 [.ref a, .int x, .int (nI j)] f t (fun o f' t' => o = .inl (some (.int (tFind s.2.1 x (s.1 - j) j))) ∧ t' = t ∧ f' = f) := by
  refine mT_of (n := 1) (lo := [some (.ref a), some (.int x), some (.int (nI j)), none]) (by decide) (by exact Nat.le_of_ble_eq_true rfl) rfl rfl ?_
  obtain ⟨⟨h1, h2⟩, h3⟩ := h
  have loop : ∀ (d i : Nat), i + d = max j s.1 → i ≥ j → tFind s.2.1 x (s.1 - j) j = tFind s.2.1 x (s.1 - i) i → V E mX6_find 0 0 (fun o f' t' => o = .inl (some (.int (tFind s.2.1 x (s.1 - j) j))) ∧ t' = t ∧ f' = f) 6 [some (.ref a), some (.int x), some (.int (nI j)), some (.int (nI i))] [] f t 0 0 := by
    intro d
    induction d using Nat.strongRecOn with
    | _ d ih =>
    intro i hi hij he
    refine v_iload_n dX6_find_6 rfl (by rfl) ?_
    refine v_aload_n dX6_find_7 rfl (by rfl) ?_
    refine v_getf hE dX6_find_8 fX6_15 (by repeat (first | assumption | exact va_up_self _ _ _ | refine (va_up_ne _ _ (by omega)).trans ?_)) (by rfl) ?_
    refine v_icmp_geN (tgt := 32) dX6_find_11 (by decide) (by omega) (by omega) (fun c11 => ?_) (fun c11 => ?_)
    · refine v_iconst (v := (-1)) dX6_find_32 (by decide) ?_
      refine v_iret dX6_find_33 rfl (by rfl) ?_
      refine ⟨?_, rfl, rfl⟩
      rw [he]
      first | (rw [show s.1 - i = (s.1 - (i + 1)) + 1 by omega]; unfold tFind; rw [if_pos (by first | assumption | exact Classical.not_not.mp c21)]) | (rw [show s.1 - i = 0 by omega]; rfl)
    · refine v_aload_n dX6_find_14 rfl (by rfl) ?_
      refine v_getf hE dX6_find_15 fX6_9 (by repeat (first | assumption | exact va_up_self _ _ _ | refine (va_up_ne _ _ (by omega)).trans ?_)) (by rfl) ?_
      refine v_iload_n dX6_find_18 rfl (by rfl) ?_
      refine v_iald hE dX6_find_19 (by repeat (first | assumption | exact va_up_self _ _ _ | refine (va_up_ne _ _ (by omega)).trans ?_)) (by omega) (by omega) ?_
      refine v_iload_n dX6_find_20 rfl (by rfl) ?_
      refine v_icmp_ne (tgt := 26) dX6_find_21 (by decide) (fun c21 => ?_) (fun c21 => ?_)
      · refine v_iincN (y := 1) dX6_find_26 (by rfl) (by decide) (by decide) ?_
        refine v_goto (tgt := 6) dX6_find_29 (by decide) ?_
        exact ih (d - 1) (by omega) (i + 1) (by omega) (by omega) (he.trans (by rw [show s.1 - i = (s.1 - (i + 1)) + 1 by omega]; exact if_neg c21))
      · refine v_iload_n dX6_find_24 rfl (by rfl) ?_
        refine v_iret dX6_find_25 rfl (by rfl) ?_
        refine ⟨?_, rfl, rfl⟩
        rw [he]
        first | (rw [show s.1 - i = (s.1 - (i + 1)) + 1 by omega]; unfold tFind; rw [if_pos (by first | assumption | exact Classical.not_not.mp c21)]) | (rw [show s.1 - i = 0 by omega]; rfl)
  refine v_iconst (v := nI 0) dX6_find_0 (by decide) ?_
  refine v_iload_n dX6_find_1 rfl (by rfl) ?_
  refine v_maxN hE dX6_find_2 qX6_37 (by decide) (by exact Nat.le_of_ble_eq_true rfl) (by omega) (by omega) ?_
  refine v_istore_n dX6_find_5 rfl (by decide) ?_
  exact loop (max j s.1 - max 0 j) (max 0 j) (by omega) (by omega) (by rw [show max 0 j = j by omega])
