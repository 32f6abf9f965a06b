def swG {α : Type} (f : Nat → α) (i j : Nat) : Nat → α := va_up (va_up f i (f j)) j (f i)
theorem swG_l {α : Type} {f : Nat → α} {i j : Nat} (h : i ≠ j) : swG f i j i = f j := (va_up_ne _ _ h).trans (va_up_self _ _ _)
theorem swG_r {α : Type} {f : Nat → α} {i j : Nat} : swG f i j j = f i := va_up_self _ _ _
theorem swG_n {α : Type} {f : Nat → α} {i j k : Nat} (h1 : k ≠ i) (h2 : k ≠ j) : swG f i j k = f k := (va_up_ne _ _ h2).trans (va_up_ne _ _ h1)
theorem sA_c {A B : Nat → Nat} (h : ∀ k, k < 2 → A (5 + k) = B (5 + k)) : sA A = sA B := by
  have e : (fun k => if k < 2 then some (A (5 + k)) else none) = (fun k => if k < 2 then some (B (5 + k)) else none) := by
    funext k
    by_cases hk : k < 2
    · rw [if_pos hk, if_pos hk, h k hk]
    · rw [if_neg hk, if_neg hk]
  exact congrArg (fun g => (.inl (5, 2, .inr (.inr (.inr (.inr g)))) : aC)) e
/-- a sheet and the spare one change places -/
def dSwp (x : dV) (i : Nat) : dV := xZ (xA x (swG (dA x) (5 + i) 7)) (swG (dZ x) i 2)
def dSwT (x : dV) : dV := xT (xA x (swG (dA x) 1 2)) (swG (dT x) 1 2)
def dSwG (x : dV) : dV := xG (xA x (swG (dA x) 3 4)) (swG (dG x) 0 1)

theorem dk_sT {D t : Nat} {f0 f : aH} {x : dV}  (hA : dAd D (dA x)) (h : dkF D t f0 f x)  : dkF D t f0 (va_up f D (dC D (swG (dA x) 1 2) (dF x))) (dSwT x) := by
  obtain ⟨⟨c0, c1, hT, hG, hZ, hW, j0, j1, hH⟩, hF⟩ := h
  have ne : ∀ b, b ≠ D → b ≠ D + 25 → (va_up f D (dC D (swG (dA x) 1 2) (dF x))) b = f b := fun b n1 n2 => by exact va_up_ne _ _ n1
  refine ⟨⟨va_up_self _ _ _, ?_, ?_, ?_, ?_, ?_, ?_, ?_, ?_⟩, ?_⟩
  · exact (va_up_ne _ _ (by omega)).trans (c1.trans (sA_c (fun k hk => (swG_n (by omega) (by omega)).symm)))
  · intro i9 hi9
    rcases (show i9 = 0 ∨ i9 = 1 ∨ i9 = 2 by omega) with e | e | e <;> subst e
    · have a1 := dAd_T hA (i := 0) (by omega)
      exact (o_cong (hT 0 (by omega)) (fun b q1 q2 => ne b (by omega) (by omega)) : oP _ (dA x (0)) (dT x 0))
    · have a1 := dAd_T hA (i := 2) (by omega)
      exact (o_cong (hT 2 (by omega)) (fun b q1 q2 => ne b (by omega) (by omega)) : oP _ (dA x (2)) (dT x 2))
    · have a1 := dAd_T hA (i := 1) (by omega)
      exact (o_cong (hT 1 (by omega)) (fun b q1 q2 => ne b (by omega) (by omega)) : oP _ (dA x (1)) (dT x 1))
  · intro i9 hi9
    rcases (show i9 = 0 ∨ i9 = 1 by omega) with e | e <;> subst e
    · have a1 := dAd_G hA (i := 0) (by omega)
      exact (gn_cong (hG 0 (by omega)) (fun b q1 q2 => ne b (by omega) (by omega)) : gnP _ (dA x (3 + 0)) (dG x 0))
    · have a1 := dAd_G hA (i := 1) (by omega)
      exact (gn_cong (hG 1 (by omega)) (fun b q1 q2 => ne b (by omega) (by omega)) : gnP _ (dA x (3 + 1)) (dG x 1))
  · intro i9 hi9
    rcases (show i9 = 0 ∨ i9 = 1 ∨ i9 = 2 by omega) with e | e | e <;> subst e
    · have a1 := dAd_Z hA (i := 0) (by omega)
      exact (sh_cong (hZ 0 (by omega)) (fun b q1 q2 => ne b (by omega) (by omega)) : shP _ (dA x (5 + 0)) (dZ x 0))
    · have a1 := dAd_Z hA (i := 1) (by omega)
      exact (sh_cong (hZ 1 (by omega)) (fun b q1 q2 => ne b (by omega) (by omega)) : shP _ (dA x (5 + 1)) (dZ x 1))
    · have a1 := dAd_Z hA (i := 2) (by omega)
      exact (sh_cong (hZ 2 (by omega)) (fun b q1 q2 => ne b (by omega) (by omega)) : shP _ (dA x (5 + 2)) (dZ x 2))
  · intro y hy
    have a1 := dX_in hy
    exact en_cong (hW y hy) (fun b q1 q2 => ne b (by omega) (by omega))
  · exact (ne _ (by omega) (by omega)).trans j0
  · exact (ne _ (by omega) (by omega)).trans j1
  · exact ha_cong hH (fun b q1 q2 => ne b (by omega) (by omega))
  · intro b q1 q2
    exact (ne b (by omega) (by omega)).trans (hF b q1 q2)
theorem dk_sG {D t : Nat} {f0 f : aH} {x : dV}  (hA : dAd D (dA x)) (h : dkF D t f0 f x)  : dkF D t f0 (va_up f D (dC D (swG (dA x) 3 4) (dF x))) (dSwG x) := by
  obtain ⟨⟨c0, c1, hT, hG, hZ, hW, j0, j1, hH⟩, hF⟩ := h
  have ne : ∀ b, b ≠ D → b ≠ D + 25 → (va_up f D (dC D (swG (dA x) 3 4) (dF x))) b = f b := fun b n1 n2 => by exact va_up_ne _ _ n1
  refine ⟨⟨va_up_self _ _ _, ?_, ?_, ?_, ?_, ?_, ?_, ?_, ?_⟩, ?_⟩
  · exact (va_up_ne _ _ (by omega)).trans (c1.trans (sA_c (fun k hk => (swG_n (by omega) (by omega)).symm)))
  · intro i9 hi9
    rcases (show i9 = 0 ∨ i9 = 1 ∨ i9 = 2 by omega) with e | e | e <;> subst e
    · have a1 := dAd_T hA (i := 0) (by omega)
      exact (o_cong (hT 0 (by omega)) (fun b q1 q2 => ne b (by omega) (by omega)) : oP _ (dA x (0)) (dT x 0))
    · have a1 := dAd_T hA (i := 1) (by omega)
      exact (o_cong (hT 1 (by omega)) (fun b q1 q2 => ne b (by omega) (by omega)) : oP _ (dA x (1)) (dT x 1))
    · have a1 := dAd_T hA (i := 2) (by omega)
      exact (o_cong (hT 2 (by omega)) (fun b q1 q2 => ne b (by omega) (by omega)) : oP _ (dA x (2)) (dT x 2))
  · intro i9 hi9
    rcases (show i9 = 0 ∨ i9 = 1 by omega) with e | e <;> subst e
    · have a1 := dAd_G hA (i := 1) (by omega)
      exact (gn_cong (hG 1 (by omega)) (fun b q1 q2 => ne b (by omega) (by omega)) : gnP _ (dA x (3 + 1)) (dG x 1))
    · have a1 := dAd_G hA (i := 0) (by omega)
      exact (gn_cong (hG 0 (by omega)) (fun b q1 q2 => ne b (by omega) (by omega)) : gnP _ (dA x (3 + 0)) (dG x 0))
  · intro i9 hi9
    rcases (show i9 = 0 ∨ i9 = 1 ∨ i9 = 2 by omega) with e | e | e <;> subst e
    · have a1 := dAd_Z hA (i := 0) (by omega)
      exact (sh_cong (hZ 0 (by omega)) (fun b q1 q2 => ne b (by omega) (by omega)) : shP _ (dA x (5 + 0)) (dZ x 0))
    · have a1 := dAd_Z hA (i := 1) (by omega)
      exact (sh_cong (hZ 1 (by omega)) (fun b q1 q2 => ne b (by omega) (by omega)) : shP _ (dA x (5 + 1)) (dZ x 1))
    · have a1 := dAd_Z hA (i := 2) (by omega)
      exact (sh_cong (hZ 2 (by omega)) (fun b q1 q2 => ne b (by omega) (by omega)) : shP _ (dA x (5 + 2)) (dZ x 2))
  · intro y hy
    have a1 := dX_in hy
    exact en_cong (hW y hy) (fun b q1 q2 => ne b (by omega) (by omega))
  · exact (ne _ (by omega) (by omega)).trans j0
  · exact (ne _ (by omega) (by omega)).trans j1
  · exact ha_cong hH (fun b q1 q2 => ne b (by omega) (by omega))
  · intro b q1 q2
    exact (ne b (by omega) (by omega)).trans (hF b q1 q2)
theorem dk_sZ0 {D t : Nat} {f0 f : aH} {x : dV}  (hA : dAd D (dA x)) (h : dkF D t f0 f x)  : dkF D t f0 (va_up (va_up f (D + 25) (sA (va_up (dA x) (5 + 0) (dA x 7)))) D (dC D (swG (dA x) (5 + 0) 7) (dF x))) (dSwp x 0) := by
  obtain ⟨⟨c0, c1, hT, hG, hZ, hW, j0, j1, hH⟩, hF⟩ := h
  have ne : ∀ b, b ≠ D → b ≠ D + 25 → (va_up (va_up f (D + 25) (sA (va_up (dA x) (5 + 0) (dA x 7)))) D (dC D (swG (dA x) (5 + 0) 7) (dF x))) b = f b := fun b n1 n2 => by rw [va_up_ne _ _ n1, va_up_ne _ _ n2]
  refine ⟨⟨va_up_self _ _ _, ?_, ?_, ?_, ?_, ?_, ?_, ?_, ?_⟩, ?_⟩
  · refine (va_up_ne _ _ (by omega)).trans ((va_up_self _ _ _).trans ?_)
    exact sA_c (fun k hk => (va_up_ne (va_up (dA x) (5 + 0) (dA x 7)) _ (show 5 + k ≠ 7 by omega)).symm)
  · intro i9 hi9
    rcases (show i9 = 0 ∨ i9 = 1 ∨ i9 = 2 by omega) with e | e | e <;> subst e
    · have a1 := dAd_T hA (i := 0) (by omega)
      exact (o_cong (hT 0 (by omega)) (fun b q1 q2 => ne b (by omega) (by omega)) : oP _ (dA x (0)) (dT x 0))
    · have a1 := dAd_T hA (i := 1) (by omega)
      exact (o_cong (hT 1 (by omega)) (fun b q1 q2 => ne b (by omega) (by omega)) : oP _ (dA x (1)) (dT x 1))
    · have a1 := dAd_T hA (i := 2) (by omega)
      exact (o_cong (hT 2 (by omega)) (fun b q1 q2 => ne b (by omega) (by omega)) : oP _ (dA x (2)) (dT x 2))
  · intro i9 hi9
    rcases (show i9 = 0 ∨ i9 = 1 by omega) with e | e <;> subst e
    · have a1 := dAd_G hA (i := 0) (by omega)
      exact (gn_cong (hG 0 (by omega)) (fun b q1 q2 => ne b (by omega) (by omega)) : gnP _ (dA x (3 + 0)) (dG x 0))
    · have a1 := dAd_G hA (i := 1) (by omega)
      exact (gn_cong (hG 1 (by omega)) (fun b q1 q2 => ne b (by omega) (by omega)) : gnP _ (dA x (3 + 1)) (dG x 1))
  · intro i9 hi9
    rcases (show i9 = 0 ∨ i9 = 1 ∨ i9 = 2 by omega) with e | e | e <;> subst e
    · have a1 := dAd_Z hA (i := 2) (by omega)
      exact (sh_cong (hZ 2 (by omega)) (fun b q1 q2 => ne b (by omega) (by omega)) : shP _ (dA x (5 + 2)) (dZ x 2))
    · have a1 := dAd_Z hA (i := 1) (by omega)
      exact (sh_cong (hZ 1 (by omega)) (fun b q1 q2 => ne b (by omega) (by omega)) : shP _ (dA x (5 + 1)) (dZ x 1))
    · have a1 := dAd_Z hA (i := 0) (by omega)
      exact (sh_cong (hZ 0 (by omega)) (fun b q1 q2 => ne b (by omega) (by omega)) : shP _ (dA x (5 + 0)) (dZ x 0))
  · intro y hy
    have a1 := dX_in hy
    exact en_cong (hW y hy) (fun b q1 q2 => ne b (by omega) (by omega))
  · exact (ne _ (by omega) (by omega)).trans j0
  · exact (ne _ (by omega) (by omega)).trans j1
  · exact ha_cong hH (fun b q1 q2 => ne b (by omega) (by omega))
  · intro b q1 q2
    exact (ne b (by omega) (by omega)).trans (hF b q1 q2)
theorem dk_sZ1 {D t : Nat} {f0 f : aH} {x : dV}  (hA : dAd D (dA x)) (h : dkF D t f0 f x)  : dkF D t f0 (va_up (va_up f (D + 25) (sA (va_up (dA x) (5 + 1) (dA x 7)))) D (dC D (swG (dA x) (5 + 1) 7) (dF x))) (dSwp x 1) := by
  obtain ⟨⟨c0, c1, hT, hG, hZ, hW, j0, j1, hH⟩, hF⟩ := h
  have ne : ∀ b, b ≠ D → b ≠ D + 25 → (va_up (va_up f (D + 25) (sA (va_up (dA x) (5 + 1) (dA x 7)))) D (dC D (swG (dA x) (5 + 1) 7) (dF x))) b = f b := fun b n1 n2 => by rw [va_up_ne _ _ n1, va_up_ne _ _ n2]
  refine ⟨⟨va_up_self _ _ _, ?_, ?_, ?_, ?_, ?_, ?_, ?_, ?_⟩, ?_⟩
  · refine (va_up_ne _ _ (by omega)).trans ((va_up_self _ _ _).trans ?_)
    exact sA_c (fun k hk => (va_up_ne (va_up (dA x) (5 + 1) (dA x 7)) _ (show 5 + k ≠ 7 by omega)).symm)
  · intro i9 hi9
    rcases (show i9 = 0 ∨ i9 = 1 ∨ i9 = 2 by omega) with e | e | e <;> subst e
    · have a1 := dAd_T hA (i := 0) (by omega)
      exact (o_cong (hT 0 (by omega)) (fun b q1 q2 => ne b (by omega) (by omega)) : oP _ (dA x (0)) (dT x 0))
    · have a1 := dAd_T hA (i := 1) (by omega)
      exact (o_cong (hT 1 (by omega)) (fun b q1 q2 => ne b (by omega) (by omega)) : oP _ (dA x (1)) (dT x 1))
    · have a1 := dAd_T hA (i := 2) (by omega)
      exact (o_cong (hT 2 (by omega)) (fun b q1 q2 => ne b (by omega) (by omega)) : oP _ (dA x (2)) (dT x 2))
  · intro i9 hi9
    rcases (show i9 = 0 ∨ i9 = 1 by omega) with e | e <;> subst e
    · have a1 := dAd_G hA (i := 0) (by omega)
      exact (gn_cong (hG 0 (by omega)) (fun b q1 q2 => ne b (by omega) (by omega)) : gnP _ (dA x (3 + 0)) (dG x 0))
    · have a1 := dAd_G hA (i := 1) (by omega)
      exact (gn_cong (hG 1 (by omega)) (fun b q1 q2 => ne b (by omega) (by omega)) : gnP _ (dA x (3 + 1)) (dG x 1))
  · intro i9 hi9
    rcases (show i9 = 0 ∨ i9 = 1 ∨ i9 = 2 by omega) with e | e | e <;> subst e
    · have a1 := dAd_Z hA (i := 0) (by omega)
      exact (sh_cong (hZ 0 (by omega)) (fun b q1 q2 => ne b (by omega) (by omega)) : shP _ (dA x (5 + 0)) (dZ x 0))
    · have a1 := dAd_Z hA (i := 2) (by omega)
      exact (sh_cong (hZ 2 (by omega)) (fun b q1 q2 => ne b (by omega) (by omega)) : shP _ (dA x (5 + 2)) (dZ x 2))
    · have a1 := dAd_Z hA (i := 1) (by omega)
      exact (sh_cong (hZ 1 (by omega)) (fun b q1 q2 => ne b (by omega) (by omega)) : shP _ (dA x (5 + 1)) (dZ x 1))
  · intro y hy
    have a1 := dX_in hy
    exact en_cong (hW y hy) (fun b q1 q2 => ne b (by omega) (by omega))
  · exact (ne _ (by omega) (by omega)).trans j0
  · exact (ne _ (by omega) (by omega)).trans j1
  · exact ha_cong hH (fun b q1 q2 => ne b (by omega) (by omega))
  · intro b q1 q2
    exact (ne b (by omega) (by omega)).trans (hF b q1 q2)
set_option maxRecDepth 100000 in
set_option maxHeartbeats 4000000 in
/-- useSpareSheet -/
theorem sX9_useSpare0 {E : eN} (hE : eOk E) {f : aH} {t : Nat} {D t0 : Nat} {f0 : aH} {x : dV} (hA : dAd D (dA x)) (hk : dkF D t0 f0 f x) : mT E mX9_useSpareSheet 0 0 [.ref D, .int (nI 0)] f t (fun o f' t' => o = .inl none ∧ t' = t ∧ dkF D t0 f0 f' (dSwp x 0)) := by
  refine mT_of (n := 1) (lo := [some (.ref D), some (.int (nI 0)), none]) (by decide) (by exact Nat.le_of_ble_eq_true rfl) rfl rfl ?_
  obtain ⟨⟨k0, k1, hkT, hkG, hkZ, hkW, k6, k7, k8⟩, hF⟩ := id hk
  obtain ⟨z0, -⟩ := hkZ 2 (by omega)
  refine v_aload_n dX9_useSpareSheet_0 rfl (by rfl) ?_
  refine v_getf hE dX9_useSpareSheet_1 fX9_34 (by repeat (first | assumption | exact va_up_self _ _ _ | refine (va_up_ne _ _ (by omega)).trans ?_)) (by rfl) ?_
  refine v_iload_n dX9_useSpareSheet_4 rfl (by rfl) ?_
  refine v_aaldD hE dX9_useSpareSheet_5 (by repeat (first | assumption | exact va_up_self _ _ _ | refine (va_up_ne _ _ (by omega)).trans ?_)) (by omega) ?_
  refine v_astore_n dX9_useSpareSheet_6 rfl (by decide) ?_
  refine v_aload_n dX9_useSpareSheet_7 rfl (by rfl) ?_
  refine v_getf hE dX9_useSpareSheet_8 fX9_34 (by repeat (first | assumption | exact va_up_self _ _ _ | refine (va_up_ne _ _ (by omega)).trans ?_)) (by rfl) ?_
  refine v_iload_n dX9_useSpareSheet_11 rfl (by rfl) ?_
  refine v_aload_n dX9_useSpareSheet_12 rfl (by rfl) ?_
  refine v_getf hE dX9_useSpareSheet_13 fX9_39 (by repeat (first | assumption | exact va_up_self _ _ _ | refine (va_up_ne _ _ (by omega)).trans ?_)) (by rfl) ?_
  refine v_aastD hE dX9_useSpareSheet_16 (by repeat (first | assumption | exact va_up_self _ _ _ | refine (va_up_ne _ _ (by omega)).trans ?_)) (vs := _) z0 (by omega) ?_
  refine v_aload_n dX9_useSpareSheet_17 rfl (by rfl) ?_
  refine v_aload_n dX9_useSpareSheet_18 rfl (by rfl) ?_
  refine v_putf hE dX9_useSpareSheet_19 fX9_39 (by repeat (first | assumption | exact va_up_self _ _ _ | refine (va_up_ne _ _ (by omega)).trans ?_)) (by exact Nat.le_of_ble_eq_true rfl) (by rfl) (by rfl) (by rfl) ?_
  refine v_ret dX9_useSpareSheet_22 rfl ?_
  exact ⟨rfl, rfl, dk_sZ0 hA hk⟩

set_option maxRecDepth 100000 in
set_option maxHeartbeats 4000000 in
/-- useSpareSheet -/
theorem sX9_useSpare1 {E : eN} (hE : eOk E) {f : aH} {t : Nat} {D t0 : Nat} {f0 : aH} {x : dV} (hA : dAd D (dA x)) (hk : dkF D t0 f0 f x) : mT E mX9_useSpareSheet 0 0 [.ref D, .int (nI 1)] f t (fun o f' t' => o = .inl none ∧ t' = t ∧ dkF D t0 f0 f' (dSwp x 1)) := by
  refine mT_of (n := 1) (lo := [some (.ref D), some (.int (nI 1)), none]) (by decide) (by exact Nat.le_of_ble_eq_true rfl) rfl rfl ?_
  obtain ⟨⟨k0, k1, hkT, hkG, hkZ, hkW, k6, k7, k8⟩, hF⟩ := id hk
  obtain ⟨z0, -⟩ := hkZ 2 (by omega)
  refine v_aload_n dX9_useSpareSheet_0 rfl (by rfl) ?_
  refine v_getf hE dX9_useSpareSheet_1 fX9_34 (by repeat (first | assumption | exact va_up_self _ _ _ | refine (va_up_ne _ _ (by omega)).trans ?_)) (by rfl) ?_
  refine v_iload_n dX9_useSpareSheet_4 rfl (by rfl) ?_
  refine v_aaldD hE dX9_useSpareSheet_5 (by repeat (first | assumption | exact va_up_self _ _ _ | refine (va_up_ne _ _ (by omega)).trans ?_)) (by omega) ?_
  refine v_astore_n dX9_useSpareSheet_6 rfl (by decide) ?_
  refine v_aload_n dX9_useSpareSheet_7 rfl (by rfl) ?_
  refine v_getf hE dX9_useSpareSheet_8 fX9_34 (by repeat (first | assumption | exact va_up_self _ _ _ | refine (va_up_ne _ _ (by omega)).trans ?_)) (by rfl) ?_
  refine v_iload_n dX9_useSpareSheet_11 rfl (by rfl) ?_
  refine v_aload_n dX9_useSpareSheet_12 rfl (by rfl) ?_
  refine v_getf hE dX9_useSpareSheet_13 fX9_39 (by repeat (first | assumption | exact va_up_self _ _ _ | refine (va_up_ne _ _ (by omega)).trans ?_)) (by rfl) ?_
  refine v_aastD hE dX9_useSpareSheet_16 (by repeat (first | assumption | exact va_up_self _ _ _ | refine (va_up_ne _ _ (by omega)).trans ?_)) (vs := _) z0 (by omega) ?_
  refine v_aload_n dX9_useSpareSheet_17 rfl (by rfl) ?_
  refine v_aload_n dX9_useSpareSheet_18 rfl (by rfl) ?_
  refine v_putf hE dX9_useSpareSheet_19 fX9_39 (by repeat (first | assumption | exact va_up_self _ _ _ | refine (va_up_ne _ _ (by omega)).trans ?_)) (by exact Nat.le_of_ble_eq_true rfl) (by rfl) (by rfl) (by rfl) ?_
  refine v_ret dX9_useSpareSheet_22 rfl ?_
  exact ⟨rfl, rfl, dk_sZ1 hA hk⟩

def fdO (w : Int64) (k : Nat) : Int32 := (w >>> ((nI (8 * k)).toInt64 &&& 63)).toInt32 &&& nI 255
def fdL (w : Int64) : Nat → Nat → tS → tS
  | 0, _, s => s
  | d + 1, k, s => fdL w d (k + 1) (tAdd s (fdO w k))
def pFeed (x : dV) (q : Int32) (w : Int64) : Option Int32 × dV := match ix 9 q with
  | none => (none, x)
  | some m => if m = 0 ∨ 8000 < (dT x 0).1 + m then (none, x) else (some (nI (fdL w (m - 0) 0 (dT x 0)).1), xT x (va_up (dT x) 0 (fdL w (m - 0) 0 (dT x 0))))
theorem fdL_le {w : Int64} : ∀ (d k : Nat) (s : tS), s.1 ≤ 8000 → (fdL w d k s).1 ≤ 8000 := by
  intro d
  induction d with
  | zero => intro k s h; exact h
  | succ d ih => intro k s h; exact ih (k + 1) _ (tAdd_le h)
theorem ge1 {q : Int32} (h : ¬ q < nI 1) : ¬ q < 0 := fun z => h (Int32.lt_trans z (by decide))
theorem le8 {q : Int32} (h : q < nI 9) : q ≤ nI 8 := by
  have h1 := Int32.lt_iff_toInt_lt.mp h
  rw [nI_toInt (by decide)] at h1
  apply Int32.le_iff_toInt_le.mpr
  rw [nI_toInt (by decide)]
  omega
theorem lt1 {q : Int32} (h : q < nI 1) : q < 0 ∨ q = nI 0 := by
  by_cases h0 : q < 0
  · exact Or.inl h0
  · obtain ⟨k, h1, h2, -⟩ := ix_some h0 h (by decide)
    exact Or.inr (by rw [h2, show k = 0 by omega])
theorem fd_none {x : dV} {q : Int32} {w : Int64} (h : q < nI 1 ∨ ¬ q ≤ nI 8) : pFeed x q w = (none, x) := by
  unfold pFeed
  split
  · rfl
  · rename_i m hm
    rcases h with h | h
    · rcases lt1 h with h | h
      · rw [ix_none (Or.inl h)] at hm; cases hm
      · rw [h] at hm
        have : ix 9 (nI 0) = some 0 := by decide
        rw [this] at hm
        cases hm
        exact if_pos (Or.inl rfl)
    · rw [ix_none (Or.inr (fun z => h (le8 z)))] at hm; cases hm
set_option maxRecDepth 100000 in
set_option maxHeartbeats 4000000 in
/-- feed -/
theorem sX9_feed {E : eN} (hE : eOk E) {f : aH} {t : Nat} {D : Nat} {x : dV} {q : Int32} {w : Int64} (hS : eSt E) (hT : eTh E) (hI : dOk D x) (hk : dkP f D x) (ht : D + 1322 < t) : mT E mX9_feed 1 6 [.ref D, .int q, .long w] f t (fun o f' t' => o = dOut nIA (pFeed x q w).1 ∧ t ≤ t' ∧ dkF D t f f' (pFeed x q w).2) := by
  refine mT_of (n := 1) (lo := [some (.ref D), some (.int q), some (.long w), none, none]) (by decide) (by exact Nat.le_of_ble_eq_true rfl) rfl rfl ?_
  have hk0 := dkF_0 (t := t) hk
  obtain ⟨k0, k1, hkT, hkG, hkZ, hkW, k6, k7, k8⟩ := id hk
  have hA := hI.1
  have ho0 := hkT 0 (by omega)
  obtain ⟨⟨p0, p1⟩, p2⟩ := id ho0
  have a00 := hA.1
  have lp : ∀ m : Nat, m ≤ 8 → pFeed x (nI m) w = (some (nI (fdL w (m - 0) 0 (dT x 0)).1), xT x (va_up (dT x) 0 (fdL w (m - 0) 0 (dT x 0)))) → ∀ (d : Nat) (k : Nat) (y : tS), k + d = m → y.1 ≤ 8000 → fdL w (m - 0) 0 (dT x 0) = fdL w (m - k) k y → V E mX9_feed 1 6 (fun o f' t' => o = dOut nIA (pFeed x (nI m) w).1 ∧ t ≤ t' ∧ dkF D t f f' (pFeed x (nI m) w).2) 49 [some (.ref D), some (.int (nI m)), some (.long w), none, some (.int (nI k))] [] (oS f (dA x 0) y) t 1 6 := by
    intro m hm8 hp d
    induction d using Nat.strongRecOn with
    | _ d ih =>
    intro k y hk hy he
    have hk2 := dk_T (j := 0) (u := y) hA hk0 (by omega) hy
    obtain ⟨⟨k0, k1, hkT, -⟩, -⟩ := id hk2
    have ho := hkT 0 (by omega)
    have ho : oP (oS f (dA x 0) y) (dA x 0) y := oP_S hy
    obtain ⟨⟨o0, o1⟩, o2⟩ := id ho
    have a0 := hA.1
    rw [a0] at o0 o1 k0 k1 ho ⊢
    refine v_iload dX9_feed_49 (by rfl) ?_
    refine v_iload_n dX9_feed_51 rfl (by rfl) ?_
    refine v_icmp_geN (tgt := 80) dX9_feed_52 (by decide) (by omega) (by omega) (fun c52 => ?_) (fun c52 => ?_)
    · refine v_aload_n dX9_feed_80 rfl (by rfl) ?_
      refine v_getf hE dX9_feed_81 fX9_10 (by repeat (first | assumption | exact va_up_self _ _ _ | refine (va_up_ne _ _ (by omega)).trans ?_)) (by rfl) ?_
      refine v_getf hE dX9_feed_84 fX9_68 (by repeat (first | assumption | exact va_up_self _ _ _ | refine (va_up_ne _ _ (by omega)).trans ?_)) (by rfl) ?_
      refine v_iret dX9_feed_87 rfl (by first | rfl | exact nar_bI) ?_
      rw [hp, he, show m - k = 0 by omega]
      refine ⟨rfl, Nat.le_refl _, ?_⟩
      rw [← a0]
      exact dk_T hA hk0 (by omega) hy
    · refine v_aload_n dX9_feed_55 rfl (by rfl) ?_
      refine v_getf hE dX9_feed_56 fX9_10 (by repeat (first | assumption | exact va_up_self _ _ _ | refine (va_up_ne _ _ (by omega)).trans ?_)) (by rfl) ?_
      refine v_lload_n dX9_feed_59 rfl (by rfl) ?_
      refine v_bipush (v := nI 8) dX9_feed_60 (by decide) ?_
      refine v_iload dX9_feed_62 (by rfl) ?_
      refine v_imulN dX9_feed_64 ?_
      refine v_lshr dX9_feed_65 rfl ?_
      refine v_l2i dX9_feed_66 rfl ?_
      refine v_sipush (v := nI 255) dX9_feed_67 (by decide) ?_
      refine v_iand dX9_feed_70 ?_
      refine w_callV hE dX9_feed_71 kX9_73 (by repeat (first | assumption | exact va_up_self _ _ _ | refine (va_up_ne _ _ (by omega)).trans ?_)) (by rfl) (by rfl) (uX6_add hE ho) rfl (by decide) (by decide) (by exact Nat.le_of_ble_eq_true rfl) (by omega) (by omega) (fun v9 g9 u9 h9 => ?_) (fun _ _ _ h => by cases h.1)
      obtain ⟨hv9, hu9, hg9⟩ := h9
      replace hu9 := hu9.symm
      replace hg9 := hg9.symm
      subst hu9
      subst hg9
      cases hv9
      refine v_hp oS_S ?_
      refine v_iincN (y := 1) dX9_feed_74 (by rfl) (by decide) (by decide) ?_
      refine v_goto (tgt := 49) dX9_feed_77 (by decide) ?_
      rw [← a0]
      exact ih (d - 1) (by omega) (k + 1) _ (by omega) (tAdd_le hy) (he.trans (by rw [show m - k = (m - (k + 1)) + 1 by omega]; rfl))
  rw [a00] at p0 p1
  refine v_iload_n dX9_feed_0 rfl (by rfl) ?_
  refine v_iconst (v := nI 1) dX9_feed_1 (by decide) ?_
  refine v_icmp_lt (tgt := 11) dX9_feed_2 (by decide) (fun c2 => ?_) (fun c2 => ?_)
  · refine v_throw hE hS hT (cls := nIA) (r := (RX9, 63, "1 to 8 octets can be fed", tx0)) thIA rfl (by unfold strTab; repeat (first | exact List.Mem.head _ | apply List.Mem.tail)) rfl rfl dX9_feed_11 dX9_feed_14 dX9_feed_15 dX9_feed_17 dX9_feed_20 (by decide) (by decide) (by omega) (by omega) (fun u9 hu9 => ?_)
    rw [fd_none (by first | exact Or.inl c2 | exact Or.inr c8)]
    exact ⟨rfl, hu9, dkF_0 hk⟩
  · refine v_iload_n dX9_feed_5 rfl (by rfl) ?_
    refine v_bipush (v := nI 8) dX9_feed_6 (by decide) ?_
    refine v_icmp_le (tgt := 21) dX9_feed_8 (by decide) (fun c8 => ?_) (fun c8 => ?_)
    · obtain ⟨m, hm, e, hwx⟩ := ix_le (n := 8) (ge1 c2) c8 (by decide)
      subst e
      have hm1 : m ≠ 0 := fun z => by (subst z; exact c2 (by decide))
      refine v_aload_n dX9_feed_21 rfl (by rfl) ?_
      refine v_getf hE dX9_feed_22 fX9_10 (by repeat (first | assumption | exact va_up_self _ _ _ | refine (va_up_ne _ _ (by omega)).trans ?_)) (by rfl) ?_
      refine v_getf hE dX9_feed_25 fX9_68 (by repeat (first | assumption | exact va_up_self _ _ _ | refine (va_up_ne _ _ (by omega)).trans ?_)) (by rfl) ?_
      refine v_iload_n dX9_feed_28 rfl (by rfl) ?_
      refine v_iaddN dX9_feed_29 ?_
      refine v_sipush (v := nI 8000) dX9_feed_30 (by decide) ?_
      refine v_icmp_leN (tgt := 46) dX9_feed_33 (by decide) (by omega) (by omega) (fun c33 => ?_) (fun c33 => ?_)
      · refine v_iconst (v := nI 0) dX9_feed_46 (by decide) ?_
        refine v_istore dX9_feed_47 (by decide) ?_
        have hp : pFeed x (nI m) w = (some (nI (fdL w (m - 0) 0 (dT x 0)).1), xT x (va_up (dT x) 0 (fdL w (m - 0) 0 (dT x 0)))) := by
          unfold pFeed
          rw [hwx]
          exact if_neg (fun z => z.elim hm1 (by omega))
        have hid : f = oS f (dA x 0) (dT x 0) := (oS_id (hkT 0 (by omega))).symm
        have hV := lp m hm hp m 0 (dT x 0) (by omega) (hkT 0 (by omega)).2 rfl
        rw [← hid] at hV
        exact hV
      · refine v_throw hE hS hT (cls := nIA) (r := (RX9, 71, "the tape would be too long", tx1)) thIA rfl (by unfold strTab; repeat (first | exact List.Mem.head _ | apply List.Mem.tail)) rfl rfl dX9_feed_36 dX9_feed_39 dX9_feed_40 dX9_feed_42 dX9_feed_45 (by decide) (by decide) (by omega) (by omega) (fun u9 hu9 => ?_)
        have hp : pFeed x (nI m) w = (none, x) := by
          unfold pFeed
          rw [hwx]
          exact if_pos (Or.inr (by omega))
        rw [hp]
        exact ⟨rfl, hu9, dkF_0 hk⟩
    · refine v_throw hE hS hT (cls := nIA) (r := (RX9, 63, "1 to 8 octets can be fed", tx0)) thIA rfl (by unfold strTab; repeat (first | exact List.Mem.head _ | apply List.Mem.tail)) rfl rfl dX9_feed_11 dX9_feed_14 dX9_feed_15 dX9_feed_17 dX9_feed_20 (by decide) (by decide) (by omega) (by omega) (fun u9 hu9 => ?_)
      rw [fd_none (by first | exact Or.inl c2 | exact Or.inr c8)]
      exact ⟨rfl, hu9, dkF_0 hk⟩

def pAga (x : dV) : Option Int32 × dV := (some (nI (dT x 1).1), xT x (va_up (dT x) 0 ((dT x 1).1, va_cpy (dT x 1).2.1 (dT x 0).2.1 0 0 (dT x 1).1, 0)))
set_option maxRecDepth 100000 in
set_option maxHeartbeats 4000000 in
/-- again -/
theorem sX9_again {E : eN} (hE : eOk E) {f : aH} {t : Nat} {D : Nat} {x : dV} (hS : eSt E) (hT : eTh E) (hI : dOk D x) (hk : dkP f D x) (ht : D + 1322 < t) : mT E mX9_again 0 0 [.ref D] f t (fun o f' t' => o = dOut nIO (pAga x).1 ∧ t ≤ t' ∧ dkF D t f f' (pAga x).2) := by
  refine mT_of (n := 0) (lo := [some (.ref D)]) (by decide) (by exact Nat.le_of_ble_eq_true rfl) rfl rfl ?_
  have hk0 := dkF_0 (t := t) hk
  obtain ⟨k0, k1, hkT, hkG, hkZ, hkW, k6, k7, k8⟩ := id hk
  have hA := hI.1
  have ho0 := hkT 0 (by omega)
  have ho1 := hkT 1 (by omega)
  have a00 := hA.1
  have hd := dAd_T2 hA (i := 1) (j := 0) (by omega) (by omega) (by omega)
  obtain ⟨⟨p0, p1⟩, p2⟩ := id ho0
  obtain ⟨⟨r0, r1⟩, r2⟩ := id ho1
  rw [a00] at p0 p1 hd ho0
  refine v_aload_n dX9_again_0 rfl (by rfl) ?_
  refine v_getf hE dX9_again_1 fX9_10 (by repeat (first | assumption | exact va_up_self _ _ _ | refine (va_up_ne _ _ (by omega)).trans ?_)) (by rfl) ?_
  refine v_aload_n dX9_again_4 rfl (by rfl) ?_
  refine v_getf hE dX9_again_5 fX9_16 (by repeat (first | assumption | exact va_up_self _ _ _ | refine (va_up_ne _ _ (by omega)).trans ?_)) (by rfl) ?_
  refine w_callV hE dX9_again_8 kX9_269 (by repeat (first | assumption | exact va_up_self _ _ _ | refine (va_up_ne _ _ (by omega)).trans ?_)) (by rfl) (by rfl) (sX6_copyFrom hE ho0 ho1 hd) rfl (by decide) (by decide) (by exact Nat.le_of_ble_eq_true rfl) (by omega) (by omega) (fun v9 g9 u9 h9 => ?_) (fun _ _ _ h => by cases h.1)
  obtain ⟨hv9, hu9, hg9⟩ := h9
  replace hu9 := hu9.symm
  replace hg9 := hg9.symm
  subst hu9
  subst hg9
  cases hv9
  have hk2 := dk_T (j := 0) (u := ((dT x 1).1, va_cpy (dT x 1).2.1 (dT x 0).2.1 0 0 (dT x 1).1, (0 : Int32))) hA hk0 (by omega) r2
  rw [a00] at hk2
  obtain ⟨⟨k2, k3, -⟩, -⟩ := id hk2
  obtain ⟨⟨o0, o1⟩, -⟩ := oP_S (f := f) (a := D + 1) (s := ((dT x 1).1, va_cpy (dT x 1).2.1 (dT x 0).2.1 0 0 (dT x 1).1, (0 : Int32))) r2
  refine v_aload_n dX9_again_11 rfl (by rfl) ?_
  refine v_getf hE dX9_again_12 fX9_10 (by repeat (first | assumption | exact va_up_self _ _ _ | refine (va_up_ne _ _ (by omega)).trans ?_)) (by rfl) ?_
  refine v_getf hE dX9_again_15 fX9_68 (by repeat (first | assumption | exact va_up_self _ _ _ | refine (va_up_ne _ _ (by omega)).trans ?_)) (by rfl) ?_
  refine v_iret dX9_again_18 rfl (by first | rfl | exact nar_bI) ?_
  exact ⟨rfl, Nat.le_refl _, hk2⟩
