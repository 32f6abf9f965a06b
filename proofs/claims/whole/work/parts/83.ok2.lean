/-! the desk's invariant is kept: feed, again, write, apply -/
theorem dOk_fee {D : Nat} {x : dV} {q : Int32} {w : Int64} (h : dOk D x) : dOk D (pFeed x q w).2 := by
  unfold pFeed
  split
  · exact h
  · split
    · exact h
    · exact h
theorem dOk_aga {D : Nat} {x : dV} (h : dOk D x) : dOk D (pAga x).2 := h
theorem dAd_sT {D : Nat} {A : Nat → Nat} (h : dAd D A) : dAd D (swG A 1 2) := by
  obtain ⟨h0, h1, h2⟩ := h
  refine ⟨h0, ?_, h2⟩
  show (A 2 = D + 3 ∧ A 1 = D + 5) ∨ (A 2 = D + 5 ∧ A 1 = D + 3)
  omega
theorem dOk_sT {D : Nat} {x : dV} (h : dOk D x) : dOk D (dSwT x) := ⟨dAd_sT h.1, h.2⟩
theorem dOk_wri {D : Nat} {x : dV} {q : Int32} (h : dOk D x) : dOk D (pWri x q).2 := by
  unfold pWri
  split
  · exact h
  · rename_i i hi
    split
    · exact dOk_sT (x := xT x (va_up (dT x) 2 (pWrT x i))) h
    · exact h
theorem hPtL_b {W : Nat → eV} {e c P R : Nat → Nat} {g : gV} {j : Nat} : ∀ (d k : Nat) (F S A B : Nat → Nat) (u : tS) (n : Nat), u.1 ≤ 8000 → (∀ z, k ≤ z → z < k + d → P z < 2 ^ 28 ∧ eRs (W (e (c z))) 0 < 2 ^ 28 ∧ eRs (W (e (c z))) (R z) < 2 ^ 28) → (∀ z, F z < 2 ^ 28 ∧ S z < 2 ^ 28 ∧ A z < 2 ^ 28 ∧ B z < 2 ^ 28) → ∀ z, (hPtL W e c P R g j d k F S A B u n).1.1 z < 2 ^ 28 ∧ (hPtL W e c P R g j d k F S A B u n).1.2.1 z < 2 ^ 28 ∧ (hPtL W e c P R g j d k F S A B u n).1.2.2.1 z < 2 ^ 28 ∧ (hPtL W e c P R g j d k F S A B u n).1.2.2.2 z < 2 ^ 28 := by
  intro d
  induction d with
  | zero => intro k F S A B u n _ _ h; exact h
  | succ d ih =>
    intro k F S A B u n hu hP h
    have hu1 : (tAdds u (prt (gLe g) (P k - n) (gSt g j + n - 1))).1 ≤ 8000 := tAdds_le hu
    obtain ⟨q1, q2, q3⟩ := hP k (by omega) (by omega)
    refine ih (k + 1) _ _ _ _ _ _ (tAdds_le hu1) (fun z z1 z2 => hP z (by omega) (by omega)) (fun z => ?_)
    obtain ⟨a1, a2, a3, a4⟩ := h z
    have up : ∀ (G : Nat → Nat) (v : Nat), G z < 2 ^ 28 → v < 2 ^ 28 → va_up G k v z < 2 ^ 28 := fun G v b1 b2 => by
      by_cases e : z = k
      · rw [e, va_up_self]; exact b2
      · rw [va_up_ne _ _ e]; exact b1
    exact ⟨up _ _ a1 q1, up _ _ a2 q2, up _ _ a3 (by omega), up _ _ a4 q3⟩
theorem dOk_app {D : Nat} {x : dV} {q r m p : Int32} (h : dOk D x) : dOk D (pApp x q r m p).2 := by
  unfold pApp
  split
  · exact h
  · rename_i i hi
    have i2 := (ix_r hi (by decide)).1
    have hzo := h.2.2.1 i (by omega)
    have hn4 := hzo.1.1
    split
    · exact h
    · rename_i n hn
      have n2 := (ix_r hn (by omega)).1
      split
      · exact h
      · rename_i w hw
        have w2 := (ix_r hw (by decide)).1
        split
        · exact h
        · rename_i k hk
          have hgo := h.2.1 0 (by omega)
          have k3 := hgo.1.1
          have k4 := hgo.2.1
          have k2 := (ix_r hk (by omega)).1
          obtain ⟨o1, o2, o3⟩ := ap_ok h i2 n2 w2 k2
          have t1 := hgo.2.2.1
          have t2 := hgo.2.2.2 k k2
          obtain ⟨h1, h2, h3, h4, h5, h6, h7⟩ := id h
          split
          · refine ⟨h1, h2, h3, h4, h5, h6, ⟨o2, ?_⟩, o3⟩
            refine hPtL_b _ _ _ _ _ _ _ _ (Nat.zero_le _) (fun z z1 z2 => ?_) h7.1.2
            have z3 : z < (apC x i n w k).2 := by omega
            obtain ⟨b1, b2, b3, b4, b5⟩ := o1 z z3
            have c1 := h4 _ (dre_X h (show i < 3 by omega) ((apC x i n w k).1 z) (o3 z))
            exact ⟨by omega, by have := c1.2.1 0; omega, by have := c1.2.1 (apR x i n w k z); omega⟩
          · exact ⟨h1, h2, h3, h4, h5, h6, h7.1, o3⟩