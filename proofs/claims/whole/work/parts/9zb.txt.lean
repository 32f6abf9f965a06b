/-! apply, pure: the class's text and changes -/
theorem prt_r {f : Nat → Int32} : ∀ (d i : Nat), prt f d i = (List.range d).map (fun a => f (i + a)) := by
  intro d
  induction d with
  | zero => intro i; rfl
  | succ d ih =>
    intro i
    rw [List.range_succ_eq_map, List.map_cons, List.map_map]
    show f i :: prt f d (i + 1) = f (i + 0) :: _
    rw [ih (i + 1)]
    refine congrArg (f i :: ·) (List.map_congr_left (fun a _ => ?_))
    show f (i + 1 + a) = f (i + (a + 1))
    rw [show i + 1 + a = i + (a + 1) by omega]
theorem apSg_t {g : gV} {j n P : Nat} : (apSg g j n P).map Prod.fst = prt (gLe g) (P - n) (gSt g j + n - 1) := by
  unfold apSg
  rw [prt_r, List.map_map]
  rfl
theorem adT_t {w : eV} {q p n : Nat} : (adT w q p n).map Prod.fst = prt (eLe w) n (q * 24) := by
  unfold adT
  rw [prt_r, List.map_map]
  rfl
theorem hPtL_t {W : Nat → eV} {e c P R : Nat → Nat} {g : gV} {j Z : Nat} : ∀ (d k : Nat) (F S A B : Nat → Nat) (u : tS) (n : Nat), tAdds (hPtL W e c P R g j d k F S A B u n).2.1 (prt (gLe g) (Z + 1 - (hPtL W e c P R g j d k F S A B u n).2.2) (gSt g j + (hPtL W e c P R g j d k F S A B u n).2.2 - 1)) = tAdds u ((apM g j Z (fun k => W (e (c k))) P R d k n).map Prod.fst) := by
  intro d
  induction d with
  | zero =>
    intro k F S A B u n
    show tAdds u (prt (gLe g) (Z + 1 - n) (gSt g j + n - 1)) = tAdds u ((apSg g j n (Z + 1)).map Prod.fst)
    rw [apSg_t]
  | succ d ih =>
    intro k F S A B u n
    refine (ih (k + 1) _ _ _ _ _ _).trans ?_
    show tAdds (tAdds (tAdds u (prt (gLe g) (P k - n) (gSt g j + n - 1))) (prt (eLe (W (e (c k)))) (eRs (W (e (c k))) (R k)) (R k * 24))) _ = tAdds u ((apSg g j n (P k) ++ (adT (W (e (c k))) (R k) (P k) (eRs (W (e (c k))) (R k)) ++ apM g j Z (fun k => W (e (c k))) P R d (k + 1) (P k + eRs (W (e (c k))) 0))).map Prod.fst)
    rw [List.map_append, List.map_append, apSg_t, adT_t, tAdds_app, tAdds_app]
/-- the next old place and the length before change k -/
def apN (E : Nat → eV) (P : Nat → Nat) : Nat → Nat
  | 0 => 1
  | k + 1 => P k + eRs (E k) 0
def apLn (E : Nat → eV) (P R : Nat → Nat) : Nat → Nat
  | 0 => 0
  | k + 1 => apLn E P R k + (P k - apN E P k) + eRs (E k) (R k)
theorem prt_l9 {f : Nat → Int32} {d i : Nat} : (prt f d i).length = d := by
  rw [prt_r, List.length_map, List.length_range]
def apG (E : Nat → eV) (P R F S A B : Nat → Nat) (i : Nat) : Prop := F i = P i ∧ S i = eRs (E i) 0 ∧ B i = eRs (E i) (R i) ∧ A i = apLn E P R i + (P i - apN E P i) + 1
theorem hPtL_f {W : Nat → eV} {e c P R : Nat → Nat} {g : gV} {j : Nat} : ∀ (d k : Nat) (F S A B : Nat → Nat) (u : tS), (∀ i, i ≤ k + d → apLn (fun k => W (e (c k))) P R i ≤ 8000) → (∀ i, i < k + d → apLn (fun k => W (e (c k))) P R i + (P i - apN (fun k => W (e (c k))) P i) ≤ 8000) → u.1 = apLn (fun k => W (e (c k))) P R k → (∀ i, i < k → apG (fun k => W (e (c k))) P R F S A B i) → (∀ i, i < k + d → apG (fun k => W (e (c k))) P R (hPtL W e c P R g j d k F S A B u (apN (fun k => W (e (c k))) P k)).1.1 (hPtL W e c P R g j d k F S A B u (apN (fun k => W (e (c k))) P k)).1.2.1 (hPtL W e c P R g j d k F S A B u (apN (fun k => W (e (c k))) P k)).1.2.2.1 (hPtL W e c P R g j d k F S A B u (apN (fun k => W (e (c k))) P k)).1.2.2.2 i) ∧ (hPtL W e c P R g j d k F S A B u (apN (fun k => W (e (c k))) P k)).2.2 = apN (fun k => W (e (c k))) P (k + d) := by
  intro d
  induction d with
  | zero =>
    intro k F S A B u _ _ hu h
    exact ⟨h, rfl⟩
  | succ d ih =>
    intro k F S A B u hl hs hu h
    have l1 := hl (k + 1) (by omega)
    have s1 := hs k (by omega)
    have l2 : apLn (fun k => W (e (c k))) P R (k + 1) = apLn (fun k => W (e (c k))) P R k + (P k - apN (fun k => W (e (c k))) P k) + eRs (W (e (c k))) (R k) := rfl
    obtain ⟨a1, -⟩ := tAdds_ok (prt (gLe g) (P k - apN (fun k => W (e (c k))) P k) (gSt g j + apN (fun k => W (e (c k))) P k - 1)) u (by rw [prt_l9]; omega)
    rw [prt_l9] at a1
    obtain ⟨b1, -⟩ := tAdds_ok (prt (eLe (W (e (c k)))) (eRs (W (e (c k))) (R k)) (R k * 24)) (tAdds u (prt (gLe g) (P k - apN (fun k => W (e (c k))) P k) (gSt g j + apN (fun k => W (e (c k))) P k - 1))) (by rw [prt_l9]; omega)
    rw [prt_l9] at b1
    have h9 := ih (k + 1) (va_up F k (P k)) (va_up S k (eRs (W (e (c k))) 0)) (va_up A k ((tAdds u (prt (gLe g) (P k - apN (fun k => W (e (c k))) P k) (gSt g j + apN (fun k => W (e (c k))) P k - 1))).1 + 1)) (va_up B k (eRs (W (e (c k))) (R k))) (tAdds (tAdds u (prt (gLe g) (P k - apN (fun k => W (e (c k))) P k) (gSt g j + apN (fun k => W (e (c k))) P k - 1))) (prt (eLe (W (e (c k)))) (eRs (W (e (c k))) (R k)) (R k * 24))) (fun i hi => hl i (by omega)) (fun i hi => hs i (by omega)) (by omega) (fun i hi => by
      by_cases ei : i = k
      · rw [ei]
        refine ⟨va_up_self .., va_up_self .., va_up_self .., (va_up_self ..).trans ?_⟩
        omega
      · obtain ⟨x1, x2, x3, x4⟩ := h i (by omega)
        exact ⟨(va_up_ne _ _ ei).trans x1, (va_up_ne _ _ ei).trans x2, (va_up_ne _ _ ei).trans x3, (va_up_ne _ _ ei).trans x4⟩)
    rw [show k + (d + 1) = k + 1 + d by omega]
    exact h9
