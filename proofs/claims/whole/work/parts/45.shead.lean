def qNmL (u : tS) : Nat → Nat → nV → nV
  | 0, _, n => n
  | d + 1, k, n => qNmL u d (k + 1) (nmAdd n (ocAt u.1 u.2.1 (nI k)))
def qName (u : tS) (i j : Nat) (n : nV) : Bool × nV := if tWord u i j = true ∧ nmIn 3 n u i j = -1 then (true, qNmL u (j - i) i (nmNew 3 n)) else (false, n)
def qCol (u : tS) (v : qV) (k : Nat) (cs : List Nat) : Bool := tIs u (qSt v k) (qSt v (k + 1) - 1) cs
def qHeadL (u : tS) (v : qV) : Nat → Nat → nV → Bool × nV
  | 0, _, n => (true, n)
  | d + 1, k, n => if (qName u (qSt v k) (qSt v (k + 1) - 1) n).1 = true then qHeadL u v d (k + 1) (qName u (qSt v k) (qSt v (k + 1) - 1) n).2 else (false, (qName u (qSt v k) (qSt v (k + 1) - 1) n).2)
def qHead (u : tS) (v : qV) (n : nV) : Bool × nV := if qCm v = 8 then (tIs u (qBg v) (qE v) tx5, n) else if qCm v < 10 ∨ 12 < qCm v then (false, n) else if tIs u (qBg v) (qSt v 8 - 1) tx5 = true ∧ qCol u v 8 tx6 = true then qHeadL u v (qCm v - 9) 9 n else (false, n)
/-- the columns of a line have been found -/
def qC (v : qV) : Prop := (∀ k, qSt v k ≤ 8001) ∧ ∀ k, k < qCm v → k < 12 → qBg v + k ≤ qSt v k ∧ qSt v k < qSt v (k + 1)
theorem qCutL_C {u : tS} {e b : Nat} : ∀ (d k : Nat) (x : (Nat → Nat) × Nat × Nat), k + d = e + 1 → e < 8001 → b ≤ k → (∀ j, x.1 j ≤ 8001) → (∀ j, j < x.2.2 → j < 12 → b + j ≤ x.1 j ∧ x.1 j < x.1 (j + 1)) → b + x.2.2 ≤ x.2.1 → x.2.1 ≤ k → (0 < x.2.2 → x.2.2 ≤ 12 → x.1 x.2.2 = x.2.1) → (∀ j, (qCutL u e d k x).1 j ≤ 8001) ∧ (∀ j, j < (qCutL u e d k x).2.2 → j < 12 → b + j ≤ (qCutL u e d k x).1 j ∧ (qCutL u e d k x).1 j < (qCutL u e d k x).1 (j + 1)) := by
  intro d
  induction d with
  | zero => intro k x _ _ _ h1 h2 _ _ _; exact ⟨h1, h2⟩
  | succ d ih =>
    intro k x hk he hb h1 h2 h3 h4 h5
    refine ih (k + 1) (qCutS u e k x) (by omega) he (by omega) ?_ ?_ ?_ ?_ ?_
    · unfold qCutS
      split
      · intro j
        show (if _ then _ else _ : Nat → Nat) j ≤ 8001
        split
        · exact va_up_le (va_up_le h1 (by omega)) (by omega) j
        · exact h1 j
      · exact h1
    · unfold qCutS
      split
      · intro j hj h12
        have hj : j < x.2.2 + 1 := hj
        show b + j ≤ (if _ then _ else _ : Nat → Nat) j ∧ (if _ then _ else _ : Nat → Nat) j < (if _ then _ else _ : Nat → Nat) (j + 1)
        split
        · rename_i hc
          by_cases ej : j = x.2.2
          · subst ej
            rw [va_up_ne _ _ (by omega), va_up_self, va_up_self]
            omega
          · have hj2 := h2 j (by omega) h12
            rw [va_up_ne _ _ (by omega), va_up_ne _ _ (by omega), va_up_ne _ _ (by omega)]
            by_cases e2 : j + 1 = x.2.2
            · rw [e2, va_up_self]
              have h6 := h5 (by omega) (by omega)
              rw [e2, h6] at hj2
              exact hj2
            · rw [va_up_ne _ _ e2]
              exact hj2
        · rename_i hc
          exact h2 j (by omega) h12
      · exact h2
    · unfold qCutS
      split
      · show b + (x.2.2 + 1) ≤ k + 1
        omega
      · exact h3
    · unfold qCutS
      split
      · show k + 1 ≤ k + 1
        omega
      · omega
    · unfold qCutS
      split
      · intro _ h12
        have h12 : x.2.2 + 1 ≤ 12 := h12
        show (if _ then _ else _ : Nat → Nat) (x.2.2 + 1) = k + 1
        rw [if_pos (by omega), va_up_self]
      · exact h5
theorem qCut_C {u : tS} {v : qV} (hu : u.1 ≤ 8000) (hL : qL u v) (h : ∀ k, qSt v k ≤ 8001) : qC (qCut u v) := by
  have h2 := hL.2.1
  have h3 := hL.2.2
  have q := qCutL_C (u := u) (e := qE v) (b := qBg v) (qE v + 1 - qBg v) (qBg v) (qSt v, qBg v, 0) (by omega) (by omega) (by omega) h (fun j hj => by have hj : j < 0 := hj; omega) (by show qBg v + 0 ≤ qBg v; omega) (by show qBg v ≤ qBg v; omega) (fun h0 => by have h0 : 0 < 0 := h0; omega)
  exact q
theorem qNmL_ok {u : tS} {L : Nat} : ∀ (d k : Nat) (n : nV), nOk L n → nOk L (qNmL u d k n) := by
  intro d
  induction d with
  | zero => intro k n h; exact h
  | succ d ih => intro k n h; exact ih (k + 1) _ (nmAdd_ok h)
theorem qNmL_1 {u : tS} : ∀ (d k : Nat) (n : nV), (qNmL u d k n).1 = n.1 := by
  intro d
  induction d with
  | zero => intro k n; rfl
  | succ d ih => intro k n; exact (ih (k + 1) _).trans nmAdd_1
theorem qName_ok {u : tS} {i j : Nat} {n : nV} (h : nOk 3 n) : nOk 3 (qName u i j n).2 := by
  unfold qName
  split
  · exact qNmL_ok _ _ _ (nmNew_ok h)
  · exact h
theorem qName_1 {u : tS} {i j : Nat} {n : nV} (h : n.1 < 3) (hb : (qName u i j n).1 = true) : (qName u i j n).2.1 = n.1 + 1 := by
  unfold qName at hb ⊢
  split at hb
  · rename_i hc
    rw [if_pos hc]
    show (qNmL u (j - i) i (nmNew 3 n)).1 = n.1 + 1
    rw [qNmL_1]
    unfold nmNew
    rw [if_pos h]
  · cases hb

set_option maxRecDepth 100000 in
set_option maxHeartbeats 4000000 in
/-- SheetReader.takeSampleName -/
theorem sX8_takeSampleName {E : eN} (hE : eOk E) {f : aH} {t : Nat} {a tp c s : Nat} {v : qV} {u : tS} {z : sV} {i j : Nat} (h : srP tp c s f a v) (hu : oP f tp u) (hz : shP f s z) (hzo : nOk 3 z.2.1) (dt : tp + 1 < a ∨ a + 1 < tp) (ds : s + 4 < a ∨ a + 1 < s) (dts : tp + 1 < s ∨ s + 4 < tp) (hij : i ≤ j) (hj : j ≤ 8001) (h3 : z.2.1.1 < 3) : mT E mX8_takeSampleName 0 0 [.ref a, .int (nI i), .int (nI j)] f t (fun o f' t' => o = .inl (some (.int (bI (qName u i j z.2.1).1))) ∧ t' = t ∧ f' = nmS 3 f (s + 2) (qName u i j z.2.1).2) := by
  refine mT_of (n := 1) (lo := [some (.ref a), some (.int (nI i)), some (.int (nI j)), none]) (by decide) (by exact Nat.le_of_ble_eq_true rfl) rfl rfl ?_
  obtain ⟨h0, h1⟩ := id h
  obtain ⟨⟨u0, u1⟩, u2⟩ := id hu
  obtain ⟨z0, z1, z2, z3, z4⟩ := id hz
  have lp : qName u i j z.2.1 = (true, qNmL u (j - i) i (nmNew 3 z.2.1)) → ∀ (d : Nat) (k : Nat) (n : nV), k + d = j → nOk 3 n → 0 < n.1 → qNmL u (j - i) i (nmNew 3 z.2.1) = qNmL u (j - k) k n → V E mX8_takeSampleName 0 0 (fun o f' t' => o = .inl (some (.int (bI (qName u i j z.2.1).1))) ∧ t' = t ∧ f' = nmS 3 f (s + 2) (qName u i j z.2.1).2) 46 [some (.ref a), some (.int (nI i)), some (.int (nI j)), some (.int (nI k))] [] (nmS 3 f (s + 2) n) t 0 0 := by
    intro hq d
    induction d using Nat.strongRecOn with
    | _ d ih =>
    intro k n hk hn hn0 he
    have hz2 : shP (nmS 3 f (s + 2) n) s (z.1, n, z.2.2) := by rw [sh_set hz]; exact shP_S _ _ _
    obtain ⟨y0, y1, y2, y3, y4⟩ := id hz2
    dsimp only at y0 y1 y2 y3 y4
    obtain ⟨h2, h3⟩ := sr_nmS (L := 3) (w := n) (x := s + 2) h (by omega)
    have hu2 := oP_nmS (L := 3) (w := n) (x := s + 2) hu (by omega)
    refine v_iload_n dX8_takeSampleName_46 rfl (by rfl) ?_
    refine v_iload_n dX8_takeSampleName_47 rfl (by rfl) ?_
    refine v_icmp_geN (tgt := 75) dX8_takeSampleName_48 (by decide) (by omega) (by omega) (fun c48 => ?_) (fun c48 => ?_)
    · refine v_iconst (v := nI 1) dX8_takeSampleName_75 (by decide) ?_
      refine v_iret dX8_takeSampleName_76 rfl (by first | rfl | exact nar_bI) ?_
      have hR : qName u i j z.2.1 = (true, n) := hq.trans (by rw [he, show j - k = 0 by omega]; rfl)
      rw [hR]
      exact ⟨rfl, rfl, rfl⟩
    · refine v_aload_n dX8_takeSampleName_51 rfl (by rfl) ?_
      refine v_getf hE dX8_takeSampleName_52 fX8_19 (by repeat (first | assumption | exact va_up_self _ _ _ | refine (va_up_ne _ _ (by omega)).trans ?_)) (by rfl) ?_
      refine v_getf hE dX8_takeSampleName_55 fX8_121 (by repeat (first | assumption | exact va_up_self _ _ _ | refine (va_up_ne _ _ (by omega)).trans ?_)) (by rfl) ?_
      refine v_aload_n dX8_takeSampleName_58 rfl (by rfl) ?_
      refine v_getf hE dX8_takeSampleName_59 fX8_9 (by repeat (first | assumption | exact va_up_self _ _ _ | refine (va_up_ne _ _ (by omega)).trans ?_)) (by rfl) ?_
      refine v_iload_n dX8_takeSampleName_62 rfl (by rfl) ?_
      refine w_callV hE dX8_takeSampleName_63 kX8_104 (by repeat (first | assumption | exact va_up_self _ _ _ | refine (va_up_ne _ _ (by omega)).trans ?_)) (by rfl) (by rfl) (sX6_at hE hu2.1 u2) rfl (by decide) (by decide) (by exact Nat.le_of_ble_eq_true rfl) (by omega) (by omega) (fun v9 g9 u9 h9 => ?_) (fun _ _ _ h => by cases h.1)
      obtain ⟨hv9, hu9, hg9⟩ := h9
      replace hu9 := hu9.symm
      replace hg9 := hg9.symm
      subst hu9
      subst hg9
      cases hv9
      refine w_callV hE dX8_takeSampleName_66 kX8_134 (by repeat (first | assumption | exact va_up_self _ _ _ | refine (va_up_ne _ _ (by omega)).trans ?_)) (by rfl) (by rfl) (sX5_add hE (sh_nm hz2) hn (by omega)) rfl (by decide) (by decide) (by exact Nat.le_of_ble_eq_true rfl) (by omega) (by omega) (fun v9 g9 u9 h9 => ?_) (fun _ _ _ h => by cases h.1)
      obtain ⟨hv9, hu9, hg9⟩ := h9
      replace hu9 := hu9.symm
      replace hg9 := hg9.symm
      subst hu9
      subst hg9
      cases hv9
      refine v_hp nmS_S ?_
      refine v_iincN (y := 1) dX8_takeSampleName_69 (by rfl) (by decide) (by decide) ?_
      refine v_goto (tgt := 46) dX8_takeSampleName_72 (by decide) ?_
      exact ih (d - 1) (by omega) (k + 1) _ (by omega) (nmAdd_ok hn) (by rw [nmAdd_1]; exact hn0) (he.trans (by rw [show j - k = (j - (k + 1)) + 1 by omega]; rfl))
  refine v_aload_n dX8_takeSampleName_0 rfl (by rfl) ?_
  refine v_getf hE dX8_takeSampleName_1 fX8_9 (by repeat (first | assumption | exact va_up_self _ _ _ | refine (va_up_ne _ _ (by omega)).trans ?_)) (by rfl) ?_
  refine v_iload_n dX8_takeSampleName_4 rfl (by rfl) ?_
  refine v_iload_n dX8_takeSampleName_5 rfl (by rfl) ?_
  refine w_callV hE dX8_takeSampleName_6 kX8_118 (by repeat (first | assumption | exact va_up_self _ _ _ | refine (va_up_ne _ _ (by omega)).trans ?_)) (by rfl) (by rfl) (sX6_isWord hE hu (by omega) (by omega)) rfl (by decide) (by decide) (by exact Nat.le_of_ble_eq_true rfl) (by omega) (by omega) (fun v9 g9 u9 h9 => ?_) (fun _ _ _ h => by cases h.1)
  obtain ⟨hv9, hu9, hg9⟩ := h9
  replace hu9 := hu9.symm
  replace hg9 := hg9.symm
  subst hu9
  subst hg9
  cases hv9
  refine v_if_eqB (tgt := 32) dX8_takeSampleName_9 (by decide) (fun c9 => ?_) (fun c9 => ?_)
  · refine v_iconst (v := nI 0) dX8_takeSampleName_32 (by decide) ?_
    refine v_iret dX8_takeSampleName_33 rfl (by first | rfl | exact nar_bI) ?_
    have hR : qName u i j z.2.1 = (false, z.2.1) := if_neg (fun q => by first | exact absurd q.1 (by rw [c9]; decide) | exact c29 q.2)
    rw [hR]
    exact ⟨rfl, rfl, (nmS_id (sh_nm hz)).symm⟩
  · refine v_aload_n dX8_takeSampleName_12 rfl (by rfl) ?_
    refine v_getf hE dX8_takeSampleName_13 fX8_19 (by repeat (first | assumption | exact va_up_self _ _ _ | refine (va_up_ne _ _ (by omega)).trans ?_)) (by rfl) ?_
    refine v_getf hE dX8_takeSampleName_16 fX8_121 (by repeat (first | assumption | exact va_up_self _ _ _ | refine (va_up_ne _ _ (by omega)).trans ?_)) (by rfl) ?_
    refine v_aload_n dX8_takeSampleName_19 rfl (by rfl) ?_
    refine v_getf hE dX8_takeSampleName_20 fX8_9 (by repeat (first | assumption | exact va_up_self _ _ _ | refine (va_up_ne _ _ (by omega)).trans ?_)) (by rfl) ?_
    refine v_iload_n dX8_takeSampleName_23 rfl (by rfl) ?_
    refine v_iload_n dX8_takeSampleName_24 rfl (by rfl) ?_
    refine w_callV hE dX8_takeSampleName_25 kX8_125 (by repeat (first | assumption | exact va_up_self _ _ _ | refine (va_up_ne _ _ (by omega)).trans ?_)) (by rfl) (by rfl) (sX5_indexIn hE (sh_nm hz) hzo hu hij (by omega)) rfl (by decide) (by decide) (by exact Nat.le_of_ble_eq_true rfl) (by omega) (by omega) (fun v9 g9 u9 h9 => ?_) (fun _ _ _ h => by cases h.1)
    obtain ⟨hv9, hu9, hg9⟩ := h9
    replace hu9 := hu9.symm
    replace hg9 := hg9.symm
    subst hu9
    subst hg9
    cases hv9
    refine v_iconst (v := (-1)) dX8_takeSampleName_28 (by decide) ?_
    refine v_icmp_eq (tgt := 34) dX8_takeSampleName_29 (by decide) (fun c29 => ?_) (fun c29 => ?_)
    · refine v_aload_n dX8_takeSampleName_34 rfl (by rfl) ?_
      refine v_getf hE dX8_takeSampleName_35 fX8_19 (by repeat (first | assumption | exact va_up_self _ _ _ | refine (va_up_ne _ _ (by omega)).trans ?_)) (by rfl) ?_
      refine v_getf hE dX8_takeSampleName_38 fX8_121 (by repeat (first | assumption | exact va_up_self _ _ _ | refine (va_up_ne _ _ (by omega)).trans ?_)) (by rfl) ?_
      refine w_callV hE dX8_takeSampleName_41 kX8_131 (by repeat (first | assumption | exact va_up_self _ _ _ | refine (va_up_ne _ _ (by omega)).trans ?_)) (by rfl) (by rfl) (sX5_open hE (sh_nm hz) hzo) rfl (by decide) (by decide) (by exact Nat.le_of_ble_eq_true rfl) (by omega) (by omega) (fun v9 g9 u9 h9 => ?_) (fun _ _ _ h => by cases h.1)
      obtain ⟨hv9, hu9, hg9⟩ := h9
      replace hu9 := hu9.symm
      replace hg9 := hg9.symm
      subst hu9
      subst hg9
      cases hv9
      refine v_iload_n dX8_takeSampleName_44 rfl (by rfl) ?_
      refine v_istore_n dX8_takeSampleName_45 rfl (by decide) ?_
      exact lp (if_pos ⟨c9, c29⟩) (j - i) i _ (by omega) (nmNew_ok hzo) (by unfold nmNew; rw [if_pos h3]; exact Nat.succ_pos _) rfl
    · refine v_iconst (v := nI 0) dX8_takeSampleName_32 (by decide) ?_
      refine v_iret dX8_takeSampleName_33 rfl (by first | rfl | exact nar_bI) ?_
      have hR : qName u i j z.2.1 = (false, z.2.1) := if_neg (fun q => by first | exact absurd q.1 (by rw [c9]; decide) | exact c29 q.2)
      rw [hR]
      exact ⟨rfl, rfl, (nmS_id (sh_nm hz)).symm⟩

set_option maxRecDepth 100000 in
set_option maxHeartbeats 4000000 in
/-- SheetReader.columnIs -/
theorem sX8_columnIs {E : eN} (hE : eOk E) {f : aH} {t : Nat} {a tp c s k q : Nat} {v : qV} {u : tS} {cs : List Nat} (h : srP tp c s f a v) (hu : oP f tp u) (hS : eSt E) (hx : strAt E cs q) (hcs : ∀ c ∈ cs, c < 128) (hcl : cs.length < 100) (hk : k < 12) (h1 : qSt v k < qSt v (k + 1)) (h2 : qSt v (k + 1) ≤ 8001) : mT E mX8_columnIs 0 0 [.ref a, .int (nI k), .ref q] f t (fun o f' t' => o = .inl (some (.int (bI (qCol u v k cs)))) ∧ t' = t ∧ f' = f) := by
  refine mT_of (n := 0) (lo := [some (.ref a), some (.int (nI k)), some (.ref q)]) (by decide) (by exact Nat.le_of_ble_eq_true rfl) rfl rfl ?_
  obtain ⟨h8, h9⟩ := id h
  obtain ⟨⟨u0, u1⟩, u2⟩ := id hu
  refine v_aload_n dX8_columnIs_0 rfl (by rfl) ?_
  refine v_getf hE dX8_columnIs_1 fX8_9 (by repeat (first | assumption | exact va_up_self _ _ _ | refine (va_up_ne _ _ (by omega)).trans ?_)) (by rfl) ?_
  refine v_aload_n dX8_columnIs_4 rfl (by rfl) ?_
  refine v_getf hE dX8_columnIs_5 fX8_23 (by repeat (first | assumption | exact va_up_self _ _ _ | refine (va_up_ne _ _ (by omega)).trans ?_)) (by rfl) ?_
  refine v_iload_n dX8_columnIs_8 rfl (by rfl) ?_
  refine v_iald hE dX8_columnIs_9 (by repeat (first | assumption | exact va_up_self _ _ _ | refine (va_up_ne _ _ (by omega)).trans ?_)) (by omega) (by omega) ?_
  refine v_aload_n dX8_columnIs_10 rfl (by rfl) ?_
  refine v_getf hE dX8_columnIs_11 fX8_23 (by repeat (first | assumption | exact va_up_self _ _ _ | refine (va_up_ne _ _ (by omega)).trans ?_)) (by rfl) ?_
  refine v_iload_n dX8_columnIs_14 rfl (by rfl) ?_
  refine v_iconst (v := nI 1) dX8_columnIs_15 (by decide) ?_
  refine v_iaddN dX8_columnIs_16 ?_
  refine v_iald hE dX8_columnIs_17 (by repeat (first | assumption | exact va_up_self _ _ _ | refine (va_up_ne _ _ (by omega)).trans ?_)) (by omega) (by omega) ?_
  refine v_iconst (v := nI 1) dX8_columnIs_18 (by decide) ?_
  refine v_isubN dX8_columnIs_19 (by omega) ?_
  refine v_aload_n dX8_columnIs_20 rfl (by rfl) ?_
  refine w_callV hE dX8_columnIs_21 kX8_91 (by repeat (first | assumption | exact va_up_self _ _ _ | refine (va_up_ne _ _ (by omega)).trans ?_)) (by rfl) (by rfl) (sX6_isText hE hu hS hx hcs hcl (by omega) (by omega)) rfl (by decide) (by decide) (by exact Nat.le_of_ble_eq_true rfl) (by omega) (by omega) (fun v9 g9 u9 h9 => ?_) (fun _ _ _ h => by cases h.1)
  obtain ⟨hv9, hu9, hg9⟩ := h9
  replace hu9 := hu9.symm
  replace hg9 := hg9.symm
  subst hu9
  subst hg9
  cases hv9
  refine v_iret dX8_columnIs_24 rfl (by first | rfl | exact nar_bI) ?_
  exact ⟨rfl, rfl, rfl⟩

set_option maxRecDepth 100000 in
set_option maxHeartbeats 4000000 in
/-- SheetReader.takeHead -/
theorem sX8_takeHead {E : eN} (hE : eOk E) {f : aH} {t : Nat} {a tp c s : Nat} {v : qV} {u : tS} {z : sV} (h : srP tp c s f a v) (hu : oP f tp u) (hz : shP f s z) (hzo : nOk 3 z.2.1) (dt : tp + 1 < a ∨ a + 1 < tp) (ds : s + 4 < a ∨ a + 1 < s) (dts : tp + 1 < s ∨ s + 4 < tp) (hS : eSt E) (hL : qL u v) (hC : qC v) (hz0 : z.2.1.1 = 0) (hcm : qCm v < 2 ^ 28) : mT E mX8_takeHead 0 0 [.ref a] f t (fun o f' t' => o = .inl (some (.int (bI (qHead u v z.2.1).1))) ∧ t' = t ∧ f' = nmS 3 f (s + 2) (qHead u v z.2.1).2) := by
  refine mT_of (n := 1) (lo := [some (.ref a), none]) (by decide) (by exact Nat.le_of_ble_eq_true rfl) rfl rfl ?_
  have hL2 := hL.2.1
  have hL3 := hL.2.2
  obtain ⟨h0, h1⟩ := id h
  obtain ⟨⟨u0, u1⟩, u2⟩ := id hu
  obtain ⟨z0, z1, z2, z3, z4⟩ := id hz
  have lp : qHead u v z.2.1 = qHeadL u v (qCm v - 9) 9 z.2.1 → 10 ≤ qCm v → qCm v ≤ 12 → ∀ (d : Nat) (k : Nat) (n : nV), k + d = qCm v → nOk 3 n → n.1 + 9 ≤ k → qHeadL u v (qCm v - 9) 9 z.2.1 = qHeadL u v (qCm v - k) k n → V E mX8_takeHead 0 0 (fun o f' t' => o = .inl (some (.int (bI (qHead u v z.2.1).1))) ∧ t' = t ∧ f' = nmS 3 f (s + 2) (qHead u v z.2.1).2) 88 [some (.ref a), some (.int (nI k))] [] (nmS 3 f (s + 2) n) t 0 0 := by
    intro hq h10 h12 d
    induction d using Nat.strongRecOn with
    | _ d ih =>
    intro k n hk hn hnk he
    have hz2 : shP (nmS 3 f (s + 2) n) s (z.1, n, z.2.2) := by rw [sh_set hz]; exact shP_S _ _ _
    obtain ⟨y0, y1, y2, y3, y4⟩ := id hz2
    dsimp only at y0 y1 y2 y3 y4
    obtain ⟨h2, h3⟩ := sr_nmS (L := 3) (w := n) (x := s + 2) h (by omega)
    have hu2 := oP_nmS (L := 3) (w := n) (x := s + 2) hu (by omega)
    refine v_iload_n dX8_takeHead_88 rfl (by rfl) ?_
    refine v_aload_n dX8_takeHead_89 rfl (by rfl) ?_
    refine v_getf hE dX8_takeHead_90 fX8_39 (by repeat (first | assumption | exact va_up_self _ _ _ | refine (va_up_ne _ _ (by omega)).trans ?_)) (by rfl) ?_
    refine v_icmp_geN (tgt := 127) dX8_takeHead_93 (by decide) (by omega) (by omega) (fun c93 => ?_) (fun c93 => ?_)
    · refine v_iconst (v := nI 1) dX8_takeHead_127 (by decide) ?_
      refine v_iret dX8_takeHead_128 rfl (by first | rfl | exact nar_bI) ?_
      first
        | (have hR : qHead u v z.2.1 = (false, (qName u (qSt v k) (qSt v (k + 1) - 1) n).2) := hq.trans (he.trans (by rw [show qCm v - k = (qCm v - (k + 1)) + 1 by omega]; exact if_neg (by rw [c116]; decide)))
           rw [hR]; exact ⟨rfl, rfl, rfl⟩)
        | (have hR : qHead u v z.2.1 = (true, n) := hq.trans (he.trans (by rw [show qCm v - k = 0 by omega]; rfl))
           rw [hR]; exact ⟨rfl, rfl, rfl⟩)
    · obtain ⟨g1, g2⟩ := hC.2 k (by omega) (by omega)
      have g3 := hC.1 (k + 1)
      refine v_aload_n dX8_takeHead_96 rfl (by rfl) ?_
      refine v_aload_n dX8_takeHead_97 rfl (by rfl) ?_
      refine v_getf hE dX8_takeHead_98 fX8_23 (by repeat (first | assumption | exact va_up_self _ _ _ | refine (va_up_ne _ _ (by omega)).trans ?_)) (by rfl) ?_
      refine v_iload_n dX8_takeHead_101 rfl (by rfl) ?_
      refine v_iald hE dX8_takeHead_102 (by repeat (first | assumption | exact va_up_self _ _ _ | refine (va_up_ne _ _ (by omega)).trans ?_)) (by omega) (by omega) ?_
      refine v_aload_n dX8_takeHead_103 rfl (by rfl) ?_
      refine v_getf hE dX8_takeHead_104 fX8_23 (by repeat (first | assumption | exact va_up_self _ _ _ | refine (va_up_ne _ _ (by omega)).trans ?_)) (by rfl) ?_
      refine v_iload_n dX8_takeHead_107 rfl (by rfl) ?_
      refine v_iconst (v := nI 1) dX8_takeHead_108 (by decide) ?_
      refine v_iaddN dX8_takeHead_109 ?_
      refine v_iald hE dX8_takeHead_110 (by repeat (first | assumption | exact va_up_self _ _ _ | refine (va_up_ne _ _ (by omega)).trans ?_)) (by omega) (by omega) ?_
      refine v_iconst (v := nI 1) dX8_takeHead_111 (by decide) ?_
      refine v_isubN dX8_takeHead_112 (by omega) ?_
      refine w_callV hE dX8_takeHead_113 kX8_115 (by repeat (first | assumption | exact va_up_self _ _ _ | refine (va_up_ne _ _ (by omega)).trans ?_)) (by rfl) (by rfl) (sX8_takeSampleName hE ⟨h2, h3⟩ hu2 hz2 hn dt ds dts (by omega) (by omega) (by show n.1 < 3; omega)) rfl (by decide) (by decide) (by exact Nat.le_of_ble_eq_true rfl) (by omega) (by omega) (fun v9 g9 u9 h9 => ?_) (fun _ _ _ h => by cases h.1)
      obtain ⟨hv9, hu9, hg9⟩ := h9
      replace hu9 := hu9.symm
      replace hg9 := hg9.symm
      subst hu9
      subst hg9
      cases hv9
      refine v_hp nmS_S ?_
      refine v_if_neB (tgt := 121) dX8_takeHead_116 (by decide) (fun c116 => ?_) (fun c116 => ?_)
      · refine v_iincN (y := 1) dX8_takeHead_121 (by rfl) (by decide) (by decide) ?_
        refine v_goto (tgt := 88) dX8_takeHead_124 (by decide) ?_
        exact ih (d - 1) (by omega) (k + 1) (qName u (qSt v k) (qSt v (k + 1) - 1) n).2 (by omega) (qName_ok hn) (by rw [qName_1 (n := n) (by omega) c116]; omega) (he.trans (by rw [show qCm v - k = (qCm v - (k + 1)) + 1 by omega]; exact if_pos c116))
      · refine v_iconst (v := nI 0) dX8_takeHead_119 (by decide) ?_
        refine v_iret dX8_takeHead_120 rfl (by first | rfl | exact nar_bI) ?_
        first
          | (have hR : qHead u v z.2.1 = (false, (qName u (qSt v k) (qSt v (k + 1) - 1) n).2) := hq.trans (he.trans (by rw [show qCm v - k = (qCm v - (k + 1)) + 1 by omega]; exact if_neg (by rw [c116]; decide)))
             rw [hR]; exact ⟨rfl, rfl, rfl⟩)
          | (have hR : qHead u v z.2.1 = (true, n) := hq.trans (he.trans (by rw [show qCm v - k = 0 by omega]; rfl))
             rw [hR]; exact ⟨rfl, rfl, rfl⟩)
  refine v_aload_n dX8_takeHead_0 rfl (by rfl) ?_
  refine v_getf hE dX8_takeHead_1 fX8_39 (by repeat (first | assumption | exact va_up_self _ _ _ | refine (va_up_ne _ _ (by omega)).trans ?_)) (by rfl) ?_
  refine v_bipush (v := nI 8) dX8_takeHead_4 (by decide) ?_
  refine v_icmp_neN (tgt := 27) dX8_takeHead_6 (by decide) (by omega) (by omega) (fun c6 => ?_) (fun c6 => ?_)
  · refine v_aload_n dX8_takeHead_27 rfl (by rfl) ?_
    refine v_getf hE dX8_takeHead_28 fX8_39 (by repeat (first | assumption | exact va_up_self _ _ _ | refine (va_up_ne _ _ (by omega)).trans ?_)) (by rfl) ?_
    refine v_bipush (v := nI 10) dX8_takeHead_31 (by decide) ?_
    refine v_icmp_ltN (tgt := 45) dX8_takeHead_33 (by decide) (by omega) (by omega) (fun c33 => ?_) (fun c33 => ?_)
    · refine v_iconst (v := nI 0) dX8_takeHead_45 (by decide) ?_
      refine v_iret dX8_takeHead_46 rfl (by first | rfl | exact nar_bI) ?_
      unfold qHead
      first
        | (rw [if_pos (by omega)]; exact ⟨rfl, rfl, (nmS_id (sh_nm hz)).symm⟩)
        | (rw [if_neg (by omega), if_pos (by omega)]; exact ⟨rfl, rfl, (nmS_id (sh_nm hz)).symm⟩)
        | (rw [if_neg (by omega), if_neg (by omega), if_neg (fun q => by first | exact absurd q.1 (by rw [c69]; decide) | exact absurd q.2 (by rw [c80]; decide))]; exact ⟨rfl, rfl, (nmS_id (sh_nm hz)).symm⟩)
    · refine v_aload_n dX8_takeHead_36 rfl (by rfl) ?_
      refine v_getf hE dX8_takeHead_37 fX8_39 (by repeat (first | assumption | exact va_up_self _ _ _ | refine (va_up_ne _ _ (by omega)).trans ?_)) (by rfl) ?_
      refine v_bipush (v := nI 12) dX8_takeHead_40 (by decide) ?_
      refine v_icmp_leN (tgt := 47) dX8_takeHead_42 (by decide) (by omega) (by omega) (fun c42 => ?_) (fun c42 => ?_)
      · have g8 := hC.2 8 (by omega) (by omega)
        have g9 := hC.1 8
        have g7 := hC.1 9
        refine v_aload_n dX8_takeHead_47 rfl (by rfl) ?_
        refine v_getf hE dX8_takeHead_48 fX8_9 (by repeat (first | assumption | exact va_up_self _ _ _ | refine (va_up_ne _ _ (by omega)).trans ?_)) (by rfl) ?_
        refine v_aload_n dX8_takeHead_51 rfl (by rfl) ?_
        refine v_getf hE dX8_takeHead_52 fX8_54 (by repeat (first | assumption | exact va_up_self _ _ _ | refine (va_up_ne _ _ (by omega)).trans ?_)) (by rfl) ?_
        refine v_aload_n dX8_takeHead_55 rfl (by rfl) ?_
        refine v_getf hE dX8_takeHead_56 fX8_23 (by repeat (first | assumption | exact va_up_self _ _ _ | refine (va_up_ne _ _ (by omega)).trans ?_)) (by rfl) ?_
        refine v_bipush (v := nI 8) dX8_takeHead_59 (by decide) ?_
        refine v_iald hE dX8_takeHead_61 (by repeat (first | assumption | exact va_up_self _ _ _ | refine (va_up_ne _ _ (by omega)).trans ?_)) (by omega) (by omega) ?_
        refine v_iconst (v := nI 1) dX8_takeHead_62 (by decide) ?_
        refine v_isubN dX8_takeHead_63 (by omega) ?_
        refine v_ldcS hS (r := (RX8, 108, "#CHROM\tPOS\tID\tREF\tALT\tQUAL\tFILTER\tINFO", tx5)) dX8_takeHead_64 (by unfold strTab; repeat (first | exact List.Mem.head _ | apply List.Mem.tail)) rfl rfl (fun q64 hq64 => ?_)
        refine w_callV hE dX8_takeHead_66 kX8_91 (by repeat (first | assumption | exact va_up_self _ _ _ | refine (va_up_ne _ _ (by omega)).trans ?_)) (by rfl) (by rfl) (sX6_isText hE hu hS hq64 (by decide) (by decide) (by omega) (by omega)) rfl (by decide) (by decide) (by exact Nat.le_of_ble_eq_true rfl) (by omega) (by omega) (fun v9 g9 u9 h9 => ?_) (fun _ _ _ h => by cases h.1)
        obtain ⟨hv9, hu9, hg9⟩ := h9
        replace hu9 := hu9.symm
        replace hg9 := hg9.symm
        subst hu9
        subst hg9
        cases hv9
        refine v_if_eqB (tgt := 83) dX8_takeHead_69 (by decide) (fun c69 => ?_) (fun c69 => ?_)
        · refine v_iconst (v := nI 0) dX8_takeHead_83 (by decide) ?_
          refine v_iret dX8_takeHead_84 rfl (by first | rfl | exact nar_bI) ?_
          unfold qHead
          first
            | (rw [if_pos (by omega)]; exact ⟨rfl, rfl, (nmS_id (sh_nm hz)).symm⟩)
            | (rw [if_neg (by omega), if_pos (by omega)]; exact ⟨rfl, rfl, (nmS_id (sh_nm hz)).symm⟩)
            | (rw [if_neg (by omega), if_neg (by omega), if_neg (fun q => by first | exact absurd q.1 (by rw [c69]; decide) | exact absurd q.2 (by rw [c80]; decide))]; exact ⟨rfl, rfl, (nmS_id (sh_nm hz)).symm⟩)
        · refine v_aload_n dX8_takeHead_72 rfl (by rfl) ?_
          refine v_bipush (v := nI 8) dX8_takeHead_73 (by decide) ?_
          refine v_ldcS hS (r := (RX8, 110, "FORMAT", tx6)) dX8_takeHead_75 (by unfold strTab; repeat (first | exact List.Mem.head _ | apply List.Mem.tail)) rfl rfl (fun q75 hq75 => ?_)
          refine w_callV hE dX8_takeHead_77 kX8_112 (by repeat (first | assumption | exact va_up_self _ _ _ | refine (va_up_ne _ _ (by omega)).trans ?_)) (by rfl) (by rfl) (sX8_columnIs hE h hu hS hq75 (by decide) (by decide) (by omega) g8.2 g7) rfl (by decide) (by decide) (by exact Nat.le_of_ble_eq_true rfl) (by omega) (by omega) (fun v9 g9 u9 h9 => ?_) (fun _ _ _ h => by cases h.1)
          obtain ⟨hv9, hu9, hg9⟩ := h9
          replace hu9 := hu9.symm
          replace hg9 := hg9.symm
          subst hu9
          subst hg9
          cases hv9
          refine v_if_neB (tgt := 85) dX8_takeHead_80 (by decide) (fun c80 => ?_) (fun c80 => ?_)
          · refine v_bipush (v := nI 9) dX8_takeHead_85 (by decide) ?_
            refine v_istore_n dX8_takeHead_87 rfl (by decide) ?_
            refine v_hp (show f = nmS 3 f (s + 2) z.2.1 from (nmS_id (sh_nm hz)).symm) ?_
            exact lp (by unfold qHead; rw [if_neg (by omega), if_neg (by omega), if_pos ⟨c69, c80⟩]) (by omega) (by omega) (qCm v - 9) 9 z.2.1 (by omega) hzo (by omega) rfl
          · refine v_iconst (v := nI 0) dX8_takeHead_83 (by decide) ?_
            refine v_iret dX8_takeHead_84 rfl (by first | rfl | exact nar_bI) ?_
            unfold qHead
            first
              | (rw [if_pos (by omega)]; exact ⟨rfl, rfl, (nmS_id (sh_nm hz)).symm⟩)
              | (rw [if_neg (by omega), if_pos (by omega)]; exact ⟨rfl, rfl, (nmS_id (sh_nm hz)).symm⟩)
              | (rw [if_neg (by omega), if_neg (by omega), if_neg (fun q => by first | exact absurd q.1 (by rw [c69]; decide) | exact absurd q.2 (by rw [c80]; decide))]; exact ⟨rfl, rfl, (nmS_id (sh_nm hz)).symm⟩)
      · refine v_iconst (v := nI 0) dX8_takeHead_45 (by decide) ?_
        refine v_iret dX8_takeHead_46 rfl (by first | rfl | exact nar_bI) ?_
        unfold qHead
        first
          | (rw [if_pos (by omega)]; exact ⟨rfl, rfl, (nmS_id (sh_nm hz)).symm⟩)
          | (rw [if_neg (by omega), if_pos (by omega)]; exact ⟨rfl, rfl, (nmS_id (sh_nm hz)).symm⟩)
          | (rw [if_neg (by omega), if_neg (by omega), if_neg (fun q => by first | exact absurd q.1 (by rw [c69]; decide) | exact absurd q.2 (by rw [c80]; decide))]; exact ⟨rfl, rfl, (nmS_id (sh_nm hz)).symm⟩)
  · refine v_aload_n dX8_takeHead_9 rfl (by rfl) ?_
    refine v_getf hE dX8_takeHead_10 fX8_9 (by repeat (first | assumption | exact va_up_self _ _ _ | refine (va_up_ne _ _ (by omega)).trans ?_)) (by rfl) ?_
    refine v_aload_n dX8_takeHead_13 rfl (by rfl) ?_
    refine v_getf hE dX8_takeHead_14 fX8_54 (by repeat (first | assumption | exact va_up_self _ _ _ | refine (va_up_ne _ _ (by omega)).trans ?_)) (by rfl) ?_
    refine v_aload_n dX8_takeHead_17 rfl (by rfl) ?_
    refine v_getf hE dX8_takeHead_18 fX8_86 (by repeat (first | assumption | exact va_up_self _ _ _ | refine (va_up_ne _ _ (by omega)).trans ?_)) (by rfl) ?_
    refine v_eqi (y := nI (qE v)) hL.1 ?_
    refine v_ldcS hS (r := (RX8, 108, "#CHROM\tPOS\tID\tREF\tALT\tQUAL\tFILTER\tINFO", tx5)) dX8_takeHead_21 (by unfold strTab; repeat (first | exact List.Mem.head _ | apply List.Mem.tail)) rfl rfl (fun q21 hq21 => ?_)
    refine w_callV hE dX8_takeHead_23 kX8_91 (by repeat (first | assumption | exact va_up_self _ _ _ | refine (va_up_ne _ _ (by omega)).trans ?_)) (by rfl) (by rfl) (sX6_isText hE hu hS hq21 (by decide) (by decide) hL.2.1 (by omega)) rfl (by decide) (by decide) (by exact Nat.le_of_ble_eq_true rfl) (by omega) (by omega) (fun v9 g9 u9 h9 => ?_) (fun _ _ _ h => by cases h.1)
    obtain ⟨hv9, hu9, hg9⟩ := h9
    replace hu9 := hu9.symm
    replace hg9 := hg9.symm
    subst hu9
    subst hg9
    cases hv9
    refine v_iret dX8_takeHead_26 rfl (by first | rfl | exact nar_bI) ?_
    unfold qHead
    first
      | (rw [if_pos (by omega)]; exact ⟨rfl, rfl, (nmS_id (sh_nm hz)).symm⟩)
      | (rw [if_neg (by omega), if_pos (by omega)]; exact ⟨rfl, rfl, (nmS_id (sh_nm hz)).symm⟩)
      | (rw [if_neg (by omega), if_neg (by omega), if_neg (fun q => by first | exact absurd q.1 (by rw [c69]; decide) | exact absurd q.2 (by rw [c80]; decide))]; exact ⟨rfl, rfl, (nmS_id (sh_nm hz)).symm⟩)

def qTop (u : tS) : Nat → qV → nV → Bool × qV × nV
  | 0, v, n => (false, qFail v 1 u.1, n)
  | d + 1, v, n => if (qLine u v).1 = true then (if tBeg u (qBg (qLine u v).2) tx4 = true then qTop u d (qLine u v).2 n else if (qHead u (qCut u (qLine u v).2) n).1 = true then (true, qCut u (qLine u v).2, (qHead u (qCut u (qLine u v).2) n).2) else (false, qFail (qCut u (qLine u v).2) 2 (qBg (qLine u v).2), (qHead u (qCut u (qLine u v).2) n).2)) else (false, (qLine u v).2, n)
theorem qCutL_cm {u : tS} {e : Nat} : ∀ (d k : Nat) (x : (Nat → Nat) × Nat × Nat), (qCutL u e d k x).2.2 ≤ x.2.2 + d := by
  intro d
  induction d with
  | zero => intro k x; exact Nat.le_refl _
  | succ d ih =>
    intro k x
    have q := ih (k + 1) (qCutS u e k x)
    have q2 : (qCutS u e k x).2.2 ≤ x.2.2 + 1 := by
      unfold qCutS
      split
      · exact Nat.le_refl _
      · omega
    show (qCutL u e d (k + 1) (qCutS u e k x)).2.2 ≤ _
    omega
theorem qCut_cm {u : tS} {v : qV} (hu : u.1 ≤ 8000) (hL : qL u v) : qCm (qCut u v) ≤ 8001 := by
  have h2 := hL.2.1
  have h3 := hL.2.2
  have := qCutL_cm (u := u) (e := qE v) (qE v + 1 - qBg v) (qBg v) (qSt v, qBg v, 0)
  show (qCutX u v).2.2 ≤ 8001
  unfold qCutX
  have q0 : ((qSt v, qBg v, 0) : (Nat → Nat) × Nat × Nat).2.2 = 0 := rfl
  omega

theorem sr_nm_c {f : aH} {tp c s a x L : Nat} {v w : qV} {n : nV} (hd : x + 2 < a ∨ a + 1 < x) : srS tp c s (nmS L (srS tp c s f a v) x n) a w = nmS L (srS tp c s f a w) x n := by
  obtain ⟨q0, q1⟩ := sr_nmS (L := L) (w := n) (srP_S tp c s f a w) hd
  refine (srS_ext q0 q1 (fun b hb => ?_)).symm
  by_cases e : b < x ∨ x + 2 < b
  · rw [nmS_ne e, nmS_ne e, srS_ne hb, srS_ne hb]
  · obtain ⟨p0, p1, p2⟩ := nmP_S L (srS tp c s f a w) x n
    obtain ⟨r0, r1, r2⟩ := nmP_S L (srS tp c s f a v) x n
    rcases (show b = x ∨ b = x + 1 ∨ b = x + 2 by omega) with e | e | e
    · rw [e, p0, r0]
    · rw [e, p1, r1]
    · rw [e, p2, r2]
set_option maxRecDepth 100000 in
set_option maxHeartbeats 4000000 in
/-- SheetReader.takeLinesToHead -/
theorem sX8_takeLinesToHead {E : eN} (hE : eOk E) {f : aH} {t : Nat} {a tp c s : Nat} {v : qV} {u : tS} {z : sV} (h : srP tp c s f a v) (hu : oP f tp u) (hz : shP f s z) (hzo : nOk 3 z.2.1) (dt : tp + 1 < a ∨ a + 1 < tp) (ds : s + 4 < a ∨ a + 1 < s) (dts : tp + 1 < s ∨ s + 4 < tp) (hS : eSt E) (hz0 : z.2.1.1 = 0) (hnx : qNx v ≤ 8001) (hst0 : ∀ i, qSt v i ≤ 8001) : mT E mX8_takeLinesToHead 0 0 [.ref a] f t (fun o f' t' => o = .inl (some (.int (bI (qTop u 8001 v z.2.1).1))) ∧ t' = t ∧ f' = nmS 3 (srS tp c s f a (qTop u 8001 v z.2.1).2.1) (s + 2) (qTop u 8001 v z.2.1).2.2) := by
  refine mT_of (n := 1) (lo := [some (.ref a), none]) (by decide) (by exact Nat.le_of_ble_eq_true rfl) rfl rfl ?_
  have lp : ∀ (d : Nat) (k : Nat) (w : qV), k + d = 8001 → qNx w ≤ 8001 → (∀ i, qSt w i ≤ 8001) → (qTop u 8001 v z.2.1) = qTop u (8001 - k) w z.2.1 → V E mX8_takeLinesToHead 0 0 (fun o f' t' => o = .inl (some (.int (bI (qTop u 8001 v z.2.1).1))) ∧ t' = t ∧ f' = nmS 3 (srS tp c s f a (qTop u 8001 v z.2.1).2.1) (s + 2) (qTop u 8001 v z.2.1).2.2) 2 [some (.ref a), some (.int (nI k))] [] (srS tp c s f a w) t 0 0 := by
    intro d
    induction d using Nat.strongRecOn with
    | _ d ih =>
    intro k w hk hn hst he
    have hw := srP_S tp c s f a w
    obtain ⟨h0, h1⟩ := id hw
    have hu2 := oP_srS (v := w) (c := c) (s := s) (tp := tp) hu dt
    obtain ⟨⟨u0, u1⟩, u2⟩ := id hu2
    have hz2 := sh_srS (v := w) (c := c) (s := s) (tp := tp) hz ds
    refine v_iload_n dX8_takeLinesToHead_2 rfl (by rfl) ?_
    refine v_sipush (v := nI 8000) dX8_takeLinesToHead_3 (by decide) ?_
    refine v_icmp_gtN (tgt := 69) dX8_takeLinesToHead_6 (by decide) (by omega) (by omega) (fun c6 => ?_) (fun c6 => ?_)
    · refine v_aload_n dX8_takeLinesToHead_69 rfl (by rfl) ?_
      refine v_iconst (v := nI 1) dX8_takeLinesToHead_70 (by decide) ?_
      refine v_aload_n dX8_takeLinesToHead_71 rfl (by rfl) ?_
      refine v_getf hE dX8_takeLinesToHead_72 fX8_9 (by repeat (first | assumption | exact va_up_self _ _ _ | refine (va_up_ne _ _ (by omega)).trans ?_)) (by rfl) ?_
      refine v_getf hE dX8_takeLinesToHead_75 fX8_46 (by repeat (first | assumption | exact va_up_self _ _ _ | refine (va_up_ne _ _ (by omega)).trans ?_)) (by rfl) ?_
      refine w_callV hE dX8_takeLinesToHead_78 kX8_57 (by repeat (first | assumption | exact va_up_self _ _ _ | refine (va_up_ne _ _ (by omega)).trans ?_)) (by rfl) (by rfl) (sX8_fail hE hw) rfl (by decide) (by decide) (by exact Nat.le_of_ble_eq_true rfl) (by omega) (by omega) (fun v9 g9 u9 h9 => ?_) (fun _ _ _ h => by cases h.1)
      obtain ⟨hv9, hu9, hg9⟩ := h9
      replace hu9 := hu9.symm
      replace hg9 := hg9.symm
      subst hu9
      subst hg9
      cases hv9
      refine v_hp srS_S ?_
      refine v_iret dX8_takeLinesToHead_81 rfl (by first | rfl | exact nar_bI) ?_
      have hR := he
      first
        | (rw [show 8001 - k = 0 by omega] at hR; rw [hR]; exact ⟨rfl, rfl, (nmS_id (sh_nm (sh_srS hz ds))).symm⟩)
        | (rw [show 8001 - k = (8001 - (k + 1)) + 1 by omega] at hR
           first
             | (have hR2 := hR.trans (if_neg (by rw [c13]; decide)); rw [hR2]; exact ⟨rfl, rfl, (nmS_id (sh_nm (sh_srS hz ds))).symm⟩)
             | (have hR2 := (hR.trans (if_pos c13)).trans (if_neg (by rw [c31]; decide))
                first
                  | (have hR3 := hR2.trans (if_pos c42); rw [hR3]; exact ⟨rfl, rfl, rfl⟩)
                  | (have hR3 := hR2.trans (if_neg (by rw [c42]; decide)); rw [hR3]; exact ⟨rfl, rfl, rfl⟩)))
    · refine v_aload_n dX8_takeLinesToHead_9 rfl (by rfl) ?_
      refine w_callV hE dX8_takeLinesToHead_10 kX8_51 (by repeat (first | assumption | exact va_up_self _ _ _ | refine (va_up_ne _ _ (by omega)).trans ?_)) (by rfl) (by rfl) (sX8_takeLine hE hw hu2 dt hn) rfl (by decide) (by decide) (by exact Nat.le_of_ble_eq_true rfl) (by omega) (by omega) (fun v9 g9 u9 h9 => ?_) (fun _ _ _ h => by cases h.1)
      obtain ⟨hv9, hu9, hg9⟩ := h9
      replace hu9 := hu9.symm
      replace hg9 := hg9.symm
      subst hu9
      subst hg9
      cases hv9
      refine v_hp srS_S ?_
      have hw2 := srP_S tp c s f a (qLine u w).2
      obtain ⟨h2, h3⟩ := id hw2
      have hu3 := oP_srS (v := (qLine u w).2) (c := c) (s := s) (tp := tp) hu dt
      obtain ⟨⟨t3, t4⟩, t5⟩ := id hu3
      have hz3 := sh_srS (v := (qLine u w).2) (c := c) (s := s) (tp := tp) hz ds
      refine v_if_neB (tgt := 18) dX8_takeLinesToHead_13 (by decide) (fun c13 => ?_) (fun c13 => ?_)
      · obtain ⟨⟨k1, k2, k3⟩, k4, k5, k6, k7⟩ := qLine_L hu.2 c13
        refine v_aload_n dX8_takeLinesToHead_18 rfl (by rfl) ?_
        refine v_getf hE dX8_takeLinesToHead_19 fX8_9 (by repeat (first | assumption | exact va_up_self _ _ _ | refine (va_up_ne _ _ (by omega)).trans ?_)) (by rfl) ?_
        refine v_aload_n dX8_takeLinesToHead_22 rfl (by rfl) ?_
        refine v_getf hE dX8_takeLinesToHead_23 fX8_54 (by repeat (first | assumption | exact va_up_self _ _ _ | refine (va_up_ne _ _ (by omega)).trans ?_)) (by rfl) ?_
        refine v_ldcS hS (r := (RX8, 95, "##", tx4)) dX8_takeLinesToHead_26 (by unfold strTab; repeat (first | exact List.Mem.head _ | apply List.Mem.tail)) rfl rfl (fun q26 hq26 => ?_)
        refine w_callV hE dX8_takeLinesToHead_28 kX8_97 (by repeat (first | assumption | exact va_up_self _ _ _ | refine (va_up_ne _ _ (by omega)).trans ?_)) (by rfl) (by rfl) (sX6_beginsWith hE hu3 hS hq26 (by decide) (by decide) (by omega)) rfl (by decide) (by decide) (by exact Nat.le_of_ble_eq_true rfl) (by omega) (by omega) (fun v9 g9 u9 h9 => ?_) (fun _ _ _ h => by cases h.1)
        obtain ⟨hv9, hu9, hg9⟩ := h9
        replace hu9 := hu9.symm
        replace hg9 := hg9.symm
        subst hu9
        subst hg9
        cases hv9
        refine v_if_neB (tgt := 63) dX8_takeLinesToHead_31 (by decide) (fun c31 => ?_) (fun c31 => ?_)
        · refine v_iincN (y := 1) dX8_takeLinesToHead_63 (by rfl) (by decide) (by decide) ?_
          refine v_goto (tgt := 2) dX8_takeLinesToHead_66 (by decide) ?_
          exact ih (d - 1) (by omega) (k + 1) (qLine u w).2 (by omega) (by rw [k4]; omega) (by intro k; rw [k6]; exact hst k) (he.trans (by rw [show 8001 - k = (8001 - (k + 1)) + 1 by omega]; exact (if_pos c13).trans (if_pos c31)))
        · refine v_aload_n dX8_takeLinesToHead_34 rfl (by rfl) ?_
          refine w_callV hE dX8_takeLinesToHead_35 kX8_61 (by repeat (first | assumption | exact va_up_self _ _ _ | refine (va_up_ne _ _ (by omega)).trans ?_)) (by rfl) (by rfl) (sX8_cutColumns hE hw2 hu3 dt ⟨k1, k2, k3⟩) rfl (by decide) (by decide) (by exact Nat.le_of_ble_eq_true rfl) (by omega) (by omega) (fun v9 g9 u9 h9 => ?_) (fun _ _ _ h => by cases h.1)
          obtain ⟨hv9, hu9, hg9⟩ := h9
          replace hu9 := hu9.symm
          replace hg9 := hg9.symm
          subst hu9
          subst hg9
          cases hv9
          refine v_hp srS_S ?_
          have hw4 := srP_S tp c s f a (qCut u (qLine u w).2)
          obtain ⟨h4, h5⟩ := id hw4
          have hu4 := oP_srS (v := (qCut u (qLine u w).2)) (c := c) (s := s) (tp := tp) hu dt
          have hz4 := sh_srS (v := (qCut u (qLine u w).2)) (c := c) (s := s) (tp := tp) hz ds
          have hcc := qCut_cm (v := (qLine u w).2) hu.2 ⟨k1, k2, k3⟩
          refine v_aload_n dX8_takeLinesToHead_38 rfl (by rfl) ?_
          refine w_callV hE dX8_takeLinesToHead_39 kX8_101 (by repeat (first | assumption | exact va_up_self _ _ _ | refine (va_up_ne _ _ (by omega)).trans ?_)) (by rfl) (by rfl) (sX8_takeHead hE hw4 hu4 hz4 hzo dt ds dts hS ⟨k1, k2, k3⟩ (qCut_C hu.2 ⟨k1, k2, k3⟩ (by intro k; rw [k6]; exact hst k)) hz0 (by omega)) rfl (by decide) (by decide) (by exact Nat.le_of_ble_eq_true rfl) (by omega) (by omega) (fun v9 g9 u9 h9 => ?_) (fun _ _ _ h => by cases h.1)
          obtain ⟨hv9, hu9, hg9⟩ := h9
          replace hu9 := hu9.symm
          replace hg9 := hg9.symm
          subst hu9
          subst hg9
          cases hv9
          have hw5 := sr_nmS (L := 3) (w := (qHead u (qCut u (qLine u w).2) z.2.1).2) (x := s + 2) hw4 (by omega)
          obtain ⟨h6, h7⟩ := id hw5
          refine v_if_neB (tgt := 57) dX8_takeLinesToHead_42 (by decide) (fun c42 => ?_) (fun c42 => ?_)
          · refine v_iconst (v := nI 1) dX8_takeLinesToHead_57 (by decide) ?_
            refine v_goto (tgt := 62) dX8_takeLinesToHead_58 (by decide) ?_
            refine v_iret dX8_takeLinesToHead_62 rfl (by first | rfl | exact nar_bI) ?_
            have hR := he
            first
              | (rw [show 8001 - k = 0 by omega] at hR; rw [hR]; exact ⟨rfl, rfl, (nmS_id (sh_nm (sh_srS hz ds))).symm⟩)
              | (rw [show 8001 - k = (8001 - (k + 1)) + 1 by omega] at hR
                 first
                   | (have hR2 := hR.trans (if_neg (by rw [c13]; decide)); rw [hR2]; exact ⟨rfl, rfl, (nmS_id (sh_nm (sh_srS hz ds))).symm⟩)
                   | (have hR2 := (hR.trans (if_pos c13)).trans (if_neg (by rw [c31]; decide))
                      first
                        | (have hR3 := hR2.trans (if_pos c42); rw [hR3]; exact ⟨rfl, rfl, rfl⟩)
                        | (have hR3 := hR2.trans (if_neg (by rw [c42]; decide)); rw [hR3]; exact ⟨rfl, rfl, rfl⟩)))
          · refine v_aload_n dX8_takeLinesToHead_45 rfl (by rfl) ?_
            refine v_iconst (v := nI 2) dX8_takeLinesToHead_46 (by decide) ?_
            refine v_aload_n dX8_takeLinesToHead_47 rfl (by rfl) ?_
            refine v_getf hE dX8_takeLinesToHead_48 fX8_54 (by repeat (first | assumption | exact va_up_self _ _ _ | refine (va_up_ne _ _ (by omega)).trans ?_)) (by rfl) ?_
            refine w_callV hE dX8_takeLinesToHead_51 kX8_57 (by repeat (first | assumption | exact va_up_self _ _ _ | refine (va_up_ne _ _ (by omega)).trans ?_)) (by rfl) (by rfl) (sX8_fail hE hw5) rfl (by decide) (by decide) (by exact Nat.le_of_ble_eq_true rfl) (by omega) (by omega) (fun v9 g9 u9 h9 => ?_) (fun _ _ _ h => by cases h.1)
            obtain ⟨hv9, hu9, hg9⟩ := h9
            replace hu9 := hu9.symm
            replace hg9 := hg9.symm
            subst hu9
            subst hg9
            cases hv9
            refine v_hp (show _ = nmS 3 (srS tp c s f a (qFail (qCut u (qLine u w).2) 2 (qBg (qLine u w).2))) (s + 2) (qHead u (qCut u (qLine u w).2) z.2.1).2 from sr_nm_c (by omega)) ?_
            refine v_if_eqB (tgt := 61) dX8_takeLinesToHead_54 (by decide) (fun c54 => ?_) (fun c54 => ?_)
            · refine v_iconst (v := nI 0) dX8_takeLinesToHead_61 (by decide) ?_
              refine v_iret dX8_takeLinesToHead_62 rfl (by first | rfl | exact nar_bI) ?_
              have hR := he
              first
                | (rw [show 8001 - k = 0 by omega] at hR; rw [hR]; exact ⟨rfl, rfl, (nmS_id (sh_nm (sh_srS hz ds))).symm⟩)
                | (rw [show 8001 - k = (8001 - (k + 1)) + 1 by omega] at hR
                   first
                     | (have hR2 := hR.trans (if_neg (by rw [c13]; decide)); rw [hR2]; exact ⟨rfl, rfl, (nmS_id (sh_nm (sh_srS hz ds))).symm⟩)
                     | (have hR2 := (hR.trans (if_pos c13)).trans (if_neg (by rw [c31]; decide))
                        first
                          | (have hR3 := hR2.trans (if_pos c42); rw [hR3]; exact ⟨rfl, rfl, rfl⟩)
                          | (have hR3 := hR2.trans (if_neg (by rw [c42]; decide)); rw [hR3]; exact ⟨rfl, rfl, rfl⟩)))
            · exact absurd c54 (by decide)
      · refine v_iconst (v := nI 0) dX8_takeLinesToHead_16 (by decide) ?_
        refine v_iret dX8_takeLinesToHead_17 rfl (by first | rfl | exact nar_bI) ?_
        have hR := he
        first
          | (rw [show 8001 - k = 0 by omega] at hR; rw [hR]; exact ⟨rfl, rfl, (nmS_id (sh_nm (sh_srS hz ds))).symm⟩)
          | (rw [show 8001 - k = (8001 - (k + 1)) + 1 by omega] at hR
             first
               | (have hR2 := hR.trans (if_neg (by rw [c13]; decide)); rw [hR2]; exact ⟨rfl, rfl, (nmS_id (sh_nm (sh_srS hz ds))).symm⟩)
               | (have hR2 := (hR.trans (if_pos c13)).trans (if_neg (by rw [c31]; decide))
                  first
                    | (have hR3 := hR2.trans (if_pos c42); rw [hR3]; exact ⟨rfl, rfl, rfl⟩)
                    | (have hR3 := hR2.trans (if_neg (by rw [c42]; decide)); rw [hR3]; exact ⟨rfl, rfl, rfl⟩)))
  refine v_iconst (v := nI 0) dX8_takeLinesToHead_0 (by decide) ?_
  refine v_istore_n dX8_takeLinesToHead_1 rfl (by decide) ?_
  refine v_hp (show f = srS tp c s f a v from (srS_id h).symm) ?_
  exact lp 8001 0 v (by omega) hnx hst0 rfl
