/-! join: the class's side -/
theorem jFit_f {v w : eV} (h : jFit v w = true) : 1 < eRo v ∧ 1 < eRo w ∧ eSq v = eSq w ∧ ePl v = ePl w ∧ (∀ q, q < eRo v → eRs v q + (max (eRs v 0) (eRs w 0) - eRs v 0) ≤ 24) ∧ ∀ q, q < eRo w → eRs w q + (max (eRs v 0) (eRs w 0) - eRs w 0) ≤ 24 := by
  unfold jFit eWith eReach at h
  rw [Bool.and_eq_true, Bool.and_eq_true, Bool.and_eq_true, Bool.and_eq_true, Bool.and_eq_true, decide_eq_true_eq, decide_eq_true_eq, decide_eq_true_eq, decide_eq_true_eq, allB_iff, allB_iff] at h
  obtain ⟨h1, h2, ⟨h3, h4⟩, h5, h6⟩ := h
  refine ⟨h1, h2, h3, h4, fun q hq => ?_, fun q hq => ?_⟩
  · have := of_decide_eq_true (h5 q (by omega) (by omega))
    omega
  · have := of_decide_eq_true (h6 q (by omega) (by omega))
    omega
theorem fnd_no {p : Nat → Bool} : ∀ (d i : Nat), fndB p d i = -1 → i + d < 2 ^ 31 → ∀ j, i ≤ j → j < i + d → p j = false := by
  intro d
  induction d with
  | zero => intro i _ _ j h1 h2; omega
  | succ d ih =>
    intro i h hb j h1 h2
    have h : (if p i = true then nI i else fndB p d (i + 1)) = -1 := h
    split at h
    · exact absurd h (nI_m1 (by omega))
    · rename_i hq
      by_cases e : j = i
      · rw [e]; exact Bool.eq_false_iff.mpr hq
      · exact ih (i + 1) h (by omega) j (by omega) (by omega)
/-- rows of small letters, none empty -/
def eSm (v : eV) : Prop := ∀ o, o < eRo v → 1 ≤ eRs v o ∧ ∀ k, k < eRs v o → ∃ c, c < 128 ∧ eLe v (o * 24 + k) = nI c
def jlI (wa w : eV) (T : Nat) (v : eV) (g : Nat → Int32) (r : Nat) : Prop := enOk v ∧ eRo wa ≤ eRo v ∧ eSm v ∧ eRs v 0 = T ∧ eHq wa v 3 ∧ eDs v ∧ ∀ q, 1 ≤ q → q < r → ∃ n : Nat, n < eRo v ∧ g q = nI n
theorem jAlL_I {wa w : eV} {T : Nat} (hw : enOk w) (hs : eSm w) (hwa : 1 ≤ eRo wa) : ∀ (d r : Nat) (v : eV) (g : Nat → Int32), 1 ≤ r → r + d = eRo w → jlI wa w T v g r → (jAlL w d r v g).1 = true → jlI wa w T (jAlL w d r v g).2.1 (jAlL w d r v g).2.2 (eRo w) := by
  intro d
  induction d with
  | zero =>
    intro r v g _ h hI _
    rw [show eRo w = r by omega]
    exact hI
  | succ d ih =>
    intro r v g h1 h hI
    obtain ⟨a1, a2, a3, a4, a5, a6, a7⟩ := hI
    have hro := a1.1
    have e : jAlL w (d + 1) r v g = if eAltLike v w r = -1 then (if eRo v = 4 then (false, v, g) else jAlL w d (r + 1) (wRo (eCopyR v (eRo v) w r) (eRo v + 1)) (upd g r (nI (eRo v)))) else jAlL w d (r + 1) v (upd g r (eAltLike v w r)) := rfl
    rw [e]
    have hr24 := hw.2.1 r
    by_cases c : eAltLike v w r = -1
    · rw [if_pos c]
      by_cases c2 : eRo v = 4
      · rw [if_pos c2]
        intro q
        exact Bool.noConfusion q
      · rw [if_neg c2]
        refine ih (r + 1) _ _ (by omega) (by omega) ⟨wRo_ok (eCopyR_ok a1 hw) (by omega), by show eRo wa ≤ eRo v + 1; omega, fun o ho => ?_, ?_, a5, fun x z x1 x2 x3 x4 x5 => ?_, fun q q1 q2 => ?_⟩
        · have ho : o < eRo v + 1 := ho
          show 1 ≤ va_up (eRs v) (eRo v) (eRs w r) o ∧ ∀ k, k < va_up (eRs v) (eRo v) (eRs w r) o → ∃ c, c < 128 ∧ va_cpy (eLe w) (eLe v) (r * 24) (eRo v * 24) 24 (o * 24 + k) = nI c
          by_cases e2 : o = eRo v
          · subst e2
            rw [va_up_self]
            refine ⟨(hs r (by omega)).1, fun k hk => ?_⟩
            unfold va_cpy
            rw [if_pos (by omega), show eRo v * 24 + k - eRo v * 24 = k by omega]
            exact (hs r (by omega)).2 k hk
          · rw [va_up_ne _ _ e2]
            refine ⟨(a3 o (by omega)).1, fun k hk => ?_⟩
            have := a1.2.1 o
            unfold va_cpy
            rw [if_neg (by omega)]
            exact (a3 o (by omega)).2 k hk
        · show va_up (eRs v) (eRo v) (eRs w r) 0 = T
          rw [va_up_ne _ _ (by omega)]
          exact a4
        · have x3 : z < eRo v + 1 := x3
          have x4 : va_up (eRs v) (eRo v) (eRs w r) x = va_up (eRs v) (eRo v) (eRs w r) z := x4
          have x5 : ∀ k, k < va_up (eRs v) (eRo v) (eRs w r) x → va_cpy (eLe w) (eLe v) (r * 24) (eRo v * 24) 24 (x * 24 + k) = va_cpy (eLe w) (eLe v) (r * 24) (eRo v * 24) 24 (z * 24 + k) := x5
          have hx := a1.2.1 x
          rw [va_up_ne _ _ (show x ≠ eRo v by omega)] at x4 x5
          by_cases e2 : z = eRo v
          · subst e2
            rw [va_up_self] at x4
            have hno := fnd_no _ _ c (by omega) x x1 (by omega)
            refine absurd ((eRowIs_raw hx hr24).mpr ⟨x4, fun k hk => ?_⟩) (by rw [hno]; decide)
            have q := x5 k hk
            unfold va_cpy at q
            rw [if_neg (by omega), if_pos (by omega), show eRo v * 24 + k - eRo v * 24 = k by omega] at q
            exact q
          · rw [va_up_ne _ _ e2] at x4
            have hz := a1.2.1 z
            refine a6 x z x1 x2 (by omega) x4 (fun k hk => ?_)
            have q := x5 k hk
            unfold va_cpy at q
            rw [if_neg (by omega), if_neg (by omega)] at q
            exact q
        · show ∃ n : Nat, n < eRo v + 1 ∧ upd g r (nI (eRo v)) q = nI n
          by_cases e2 : q = r
          · rw [e2, updS]
            exact ⟨eRo v, by omega, rfl⟩
          · rw [updN e2]
            obtain ⟨n, n1, n2⟩ := a7 q q1 (by omega)
            exact ⟨n, by omega, n2⟩
    · rw [if_neg c]
      refine ih (r + 1) _ _ (by omega) (by omega) ⟨a1, a2, a3, a4, a5, a6, fun q q1 q2 => ?_⟩
      by_cases e2 : q = r
      · rw [e2, updS]
        obtain ⟨n, n1, n2, n3, -⟩ := fndB_r _ _ c
        exact ⟨n, by omega, n3⟩
      · rw [updN e2]
        exact a7 q q1 (by omega)
theorem jRow_sm {va w u : eV} (hva : enOk va) (hw : enOk w) (hu : enOk u) (hfit : ∀ q, q < eRo w → eRs w q + (max (eRs w 0) (eRs u 0) - eRs w 0) ≤ 24) (hro : 1 ≤ eRo w) (hru : 1 ≤ eRo u) (hp : ePos w) (hl : eLv w) (hlu : eLv u) : eSm (eRch (eCopy va w) u) := by
  obtain ⟨a1, a2, a3, a4⟩ := jRow hva hw hfit hro
  intro o ho
  rw [a2] at ho
  obtain ⟨c1, c2⟩ := a4 o ho
  have := hp o ho
  refine ⟨by rw [c1]; omega, fun k hk => ?_⟩
  rw [c2 k hk]
  by_cases e : k < eRs w o
  · rw [if_pos e]
    exact hl.1 o k ho e
  · rw [c1] at hk
    rw [if_neg e, eLet_in (by omega) (hu.2.1 0)]
    exact hlu.1 0 _ (by omega) (by omega)
/-- a joined record -/
theorem jn_k {wa wb va vb : eV} {g : Nat → Int32} {m : Nat} {G : gV} (hf : jFit wa wb = true) (hj : (jAl (eRch (eCopy va wa) wb) (eRch (eCopy vb wb) wa) g).1 = true) (oka : enOk wa) (okb : enOk wb) (okva : enOk va) (okvb : enOk vb) (hG : gOk G) (hga : eGo wa m G) (hgb : eGo wb m G) (hla : eLv wa) (hlb : eLv wb) (hm : m ≤ 3) : eGo (jCaS (eRch (eCopy vb wb) wa) (jAl (eRch (eCopy va wa) wb) (eRch (eCopy vb wb) wa) g).2.2 (m - 0) 0 (jAl (eRch (eCopy va wa) wb) (eRch (eCopy vb wb) wa) g).2.1) m G ∧ eLv (jCaS (eRch (eCopy vb wb) wa) (jAl (eRch (eCopy va wa) wb) (eRch (eCopy vb wb) wa) g).2.2 (m - 0) 0 (jAl (eRch (eCopy va wa) wb) (eRch (eCopy vb wb) wa) g).2.1) := by
  obtain ⟨f1, f2, f3, f4, f5, f6⟩ := jFit_f hf
  have f6' : ∀ q, q < eRo wb → eRs wb q + (max (eRs wb 0) (eRs wa 0) - eRs wb 0) ≤ 24 := fun q hq => by
    rw [Nat.max_comm]
    exact f6 q hq
  obtain ⟨a1, a2, a3, a4⟩ := jRow (u := wb) okva oka f5 (by omega)
  obtain ⟨b1, b2, b3, b4⟩ := jRow (u := wa) okvb okb f6' (by omega)
  have hs1 := jRow_sm okva oka okb f5 (by omega) (by omega) hga.2.2.1 hla hlb
  have hs2 := jRow_sm okvb okb oka f6' (by omega) (by omega) hgb.2.2.1 hlb hla
  have hI : jlI wa (eRch (eCopy vb wb) wa) (max (eRs wa 0) (eRs wb 0)) (eRch (eCopy va wa) wb) g 1 := by
    refine ⟨a1, by omega, hs1, ?_, a3, fun x z x1 x2 x3 x4 x5 => ?_, fun q h1 h2 => by omega⟩
    · rw [(a4 0 (by omega)).1]
      omega
    · rw [a2] at x3
      obtain ⟨c1, c2⟩ := a4 x (by omega)
      obtain ⟨d1, d2⟩ := a4 z (by omega)
      refine hla.2.2 x z x1 x2 x3 (by omega) (fun k hk => ?_)
      have := x5 k (by omega)
      rw [c2 k (by omega), d2 k (by omega), if_pos hk, if_pos (by omega)] at this
      exact this
  have hR := jAlL_I (wa := wa) b1 hs2 (by omega) (eRo (eRch (eCopy vb wb) wa) - 1) 1 (eRch (eCopy va wa) wb) g (Nat.le_refl _) (by rw [b2]; omega) hI hj
  have hR : jlI wa (eRch (eCopy vb wb) wa) (max (eRs wa 0) (eRs wb 0)) (jAl (eRch (eCopy va wa) wb) (eRch (eCopy vb wb) wa) g).2.1 (jAl (eRch (eCopy va wa) wb) (eRch (eCopy vb wb) wa) g).2.2 (eRo (eRch (eCopy vb wb) wa)) := hR
  generalize jAl (eRch (eCopy va wa) wb) (eRch (eCopy vb wb) wa) g = J at hR
  obtain ⟨r1, r2, r3, r4, r5, r6, r7⟩ := hR
  obtain ⟨n1, n2, n3⟩ := jCaS_f (w := eRch (eCopy vb wb) wa) (g := J.2.2) b1.2.2.1 (m - 0) 0 J.2.1 r1.2.2.1
  generalize jCaS (eRch (eCopy vb wb) wa) J.2.2 (m - 0) 0 J.2.1 = N at n1 n2 n3
  obtain ⟨m1, m2, m3, m4, m5, m6, m7, m8, m9⟩ := n1
  obtain ⟨h1, h2, h3, h4, h5, h6, h7⟩ := r5
  obtain ⟨⟨s, p, u1, u2, u3, u4, u5⟩, g2, g3, g4, g5⟩ := hga
  obtain ⟨⟨s', p', v1, v2, v3, v4, v5⟩, k2, k3, k4, k5⟩ := hgb
  have hc8 := hG.1.1
  have hc9 := hG.2.1
  have hz1 := hG.2.2.2 s u3
  have hz2 := hG.2.2.2 s' v3
  have hto := hG.2.2.1
  have es : s = s' := nI_inj (u1.symm.trans (f3.trans v1)) (by omega) (by omega)
  have ep : p = p' := nI_inj (u2.symm.trans (f4.trans v2)) (by omega) (by omega)
  subst es
  subst ep
  refine ⟨⟨⟨s, p, by rw [m5, h1]; exact u1, by rw [m6, h2]; exact u2, u3, u4, ?_⟩, by rw [m7]; omega, fun o ho => ?_, by rw [m8, h5]; exact g4, fun i hi => ?_⟩, ⟨fun q k hq hk => ?_, fun k hk => ?_, ?_⟩⟩
  · rw [m4, r4]
    omega
  · rw [m4]
    rw [m7] at ho
    exact (r3 o ho).1
  · obtain ⟨x1, x2, x3⟩ := n2 i (by omega) (by omega)
    obtain ⟨y1, y2, y3⟩ := h7 i (by omega)
    obtain ⟨z1, z2, z3⟩ := b3.2.2.2.2.2.2 i (by omega)
    have ga := g5 i hi
    have gb := k5 i hi
    rw [y1, z1] at x1 x3
    refine ⟨by rw [x1]; have := ga.1; omega, fun c hc => ?_⟩
    rw [x1] at hc
    rw [x3 c hc, m7]
    have qa : eCall J.2.1 i c = -1 ∨ ∃ n : Nat, n < eRo wa ∧ eCall J.2.1 i c = nI n := by
      unfold eCall
      rw [y1]
      by_cases e : c < eCn wa i
      · rw [if_pos e, y3 c e]
        exact ga.2 c e
      · rw [if_neg e]
        exact Or.inl rfl
    have qb : eCall (eRch (eCopy vb wb) wa) i c = -1 ∨ ∃ n : Nat, n < eRo wb ∧ eCall (eRch (eCopy vb wb) wa) i c = nI n := by
      unfold eCall
      rw [z1]
      by_cases e : c < eCn wb i
      · rw [if_pos e, z3 c e]
        exact gb.2 c e
      · rw [if_neg e]
        exact Or.inl rfl
    unfold jCall
    split
    · split
      · split
        · exact Or.inr ⟨0, by omega, rfl⟩
        · exact Or.inl rfl
      · rename_i hy
        rcases qb with q | ⟨n, q1, q2⟩
        · exact absurd (Or.inl (by rw [q]; decide)) hy
        · rw [q2] at hy ⊢
          have hn0 : n ≠ 0 := fun e => hy (Or.inl (by rw [e]; decide))
          rw [nI_clamp (n := n) (by have := okb.1; omega)]
          exact Or.inr (r7 n (by omega) (by rw [b2]; exact q1))
    · rename_i hx
      rcases qa with q | ⟨n, q1, q2⟩
      · exact absurd (by rw [q]; decide) hx
      · exact Or.inr ⟨n, by omega, q2⟩
  · rw [m7] at hq
    rw [m4] at hk
    rw [m3]
    exact (r3 q hq).2 k hk
  · rw [m2, h3] at hk
    rw [m1, h4 k hk]
    exact hla.2.1 k hk
  · unfold eDs
    rw [m3, m4, m7]
    exact r6
theorem jJ_f {W : Nat → eV} {x y j m : Nat} {g : Nat → Int32} (hx1 : x ≠ j + 1) (hx2 : x ≠ j + 8) : (∀ z, z ≠ x → z ≠ j + 1 → z ≠ j + 8 → (jJoin W x y j m g).2.1 z = W z) ∧ (jJoin W x y j m g).1 = (jFit (W x) (W y) && (jAl (jFst W x y j) (jSnd W x y j) g).1) ∧ ((jJoin W x y j m g).1 = true → (jJoin W x y j m g).2.1 x = eCopy (W x) (jCaS (jSnd W x y j) (jAl (jFst W x y j) (jSnd W x y j) g).2.2 (m - 0) 0 (jAl (jFst W x y j) (jSnd W x y j) g).2.1)) ∧ ((jJoin W x y j m g).1 = false → (jJoin W x y j m g).2.1 x = W x) := by
  unfold jJoin
  by_cases c : jFit (W x) (W y) = true
  · rw [if_pos c, c, Bool.true_and]
    by_cases c2 : (jAl (jFst W x y j) (jSnd W x y j) g).1 = true
    · rw [if_pos c2]
      refine ⟨fun z h1 h2 h3 => ?_, c2.symm, fun _ => va_up_self _ _ _, fun q => Bool.noConfusion q⟩
      show va_up (va_up (va_up W (j + 1) _) (j + 8) _) x _ z = W z
      rw [va_up_ne _ _ h1, va_up_ne _ _ h3, va_up_ne _ _ h2]
    · rw [if_neg c2]
      refine ⟨fun z h1 h2 h3 => ?_, (Bool.eq_false_iff.mpr c2).symm, fun q => Bool.noConfusion q, fun _ => ?_⟩
      · show va_up (va_up W (j + 1) _) (j + 8) _ z = W z
        rw [va_up_ne _ _ h3, va_up_ne _ _ h2]
      · show va_up (va_up W (j + 1) _) (j + 8) _ x = W x
        rw [va_up_ne _ _ hx2, va_up_ne _ _ hx1]
  · rw [if_neg c, Bool.eq_false_iff.mpr c, Bool.false_and]
    exact ⟨fun _ _ _ _ => rfl, rfl, fun q => Bool.noConfusion q, fun _ => rfl⟩
/-- the records of a table while they are joined -/
def jaI (X : Nat → Prop) (W0 : Nat → eV) (u : Nat → Nat) (G : gV) (m D i : Nat) (x : jaV) : Prop := (∀ z, X z → enOk (x.1 z)) ∧ (∀ z, (∀ k, k < 60 → z ≠ u k) → z ≠ D + 1301 + 1 → z ≠ D + 1301 + 8 → x.1 z = W0 z) ∧ (∀ k, k < 60 → ∃ l, l < 60 ∧ x.2.1 k = u l) ∧ sIn x.2.1 ∧ x.2.2.2 < i ∧ (∀ k, i ≤ k → k < 60 → x.2.1 k = u k ∧ x.1 (u k) = W0 (u k)) ∧ ∀ k, k ≤ x.2.2.2 → eGo (x.1 (x.2.1 k)) m G ∧ eLv (x.1 (x.2.1 k))
theorem jaI_s {X : Nat → Prop} {W0 : Nat → eV} {u : Nat → Nat} {G : gV} {m D i : Nat} {x : jaV} (hA : jsA X (D + 1301)) (hG : gOk G) (hm : m ≤ 3) (hX : ∀ k, k < 60 → X (u k) ∧ u k ≠ D + 1301 + 1 ∧ u k ≠ D + 1301 + 8) (hi : i < 60) (hg : eGo (W0 (u i)) m G) (hl : eLv (W0 (u i))) (h : jaI X W0 u G m D i x) : jaI X W0 u G m D (i + 1) (jaS m (D + 1301) i x) := by
  obtain ⟨a1, a2, a3, a4, a5, a6, a7⟩ := h
  obtain ⟨l, l1, l2⟩ := a3 x.2.2.2 (by omega)
  have hxl := hX l l1
  rw [← l2] at hxl
  have hei := (a6 i (Nat.le_refl _) hi).1
  have hwi := (a6 i (Nat.le_refl _) hi).2
  have hxi := hX i hi
  obtain ⟨j1, j2, j3, j4⟩ := jJ_f (W := x.1) (x := x.2.1 x.2.2.2) (y := x.2.1 i) (j := D + 1301) (m := m) (g := x.2.2.1) hxl.2.1 hxl.2.2
  have jok := jJoin_ok (n := m) (g := x.2.2.1) hA a1 hxl.1 (show X (x.2.1 i) by rw [hei]; exact hxi.1)
  have hne : x.2.1 x.2.2.2 ≠ u i := fun e => a4 x.2.2.2 i (by omega) hi (by omega) (e.trans hei.symm)
  unfold jaS
  by_cases c : (jJoin x.1 (x.2.1 x.2.2.2) (x.2.1 i) (D + 1301) m x.2.2.1).1 = true
  · rw [if_pos c]
    refine ⟨jok, fun z h1 h2 h3 => ?_, a3, a4, Nat.lt_succ_of_lt a5, fun k h1 h2 => ⟨(a6 k (by omega) h2).1, ?_⟩, fun k hk => ?_⟩
    · rw [j1 z (by rw [l2]; exact h1 l l1) h2 h3]
      exact a2 z h1 h2 h3
    · have hk := hX k h2
      rw [j1 (u k) (fun e => a4 x.2.2.2 k (by omega) h2 (by omega) (((a6 k (by omega) h2).1.trans e).symm)) hk.2.1 hk.2.2]
      exact (a6 k (by omega) h2).2
    · have hk : k ≤ x.2.2.2 := hk
      by_cases e : k = x.2.2.2
      · subst e
        rw [j3 c]
        rw [j2, Bool.and_eq_true] at c
        have hwi2 : x.1 (x.2.1 i) = W0 (u i) := by rw [hei]; exact hwi
        have hk1 := jn_k c.1 c.2 (a1 _ hxl.1) (by rw [hei]; exact a1 _ hxi.1) (a1 _ hA.2.1) (a1 _ hA.2.2.1) hG (a7 _ hk).1 (by rw [hwi2]; exact hg) (a7 _ hk).2 (by rw [hwi2]; exact hl) hm
        have okn := jCaS_ok (g := (jAl (jFst x.1 (x.2.1 x.2.2.2) (x.2.1 i) (D + 1301)) (jSnd x.1 (x.2.1 x.2.2.2) (x.2.1 i) (D + 1301)) x.2.2.1).2.2) (eRch_ok (w := x.1 (x.2.1 x.2.2.2)) (eCopy_ok (a1 _ hA.2.2.1) (show enOk (x.1 (x.2.1 i)) by rw [hei]; exact a1 _ hxi.1))) (m - 0) 0 _ (jAl_ok (g := x.2.2.1) (eRch_ok (w := x.1 (x.2.1 i)) (eCopy_ok (a1 _ hA.2.1) (a1 _ hxl.1))) (eRch_ok (w := x.1 (x.2.1 x.2.2.2)) (eCopy_ok (a1 _ hA.2.2.1) (show enOk (x.1 (x.2.1 i)) by rw [hei]; exact a1 _ hxi.1))))
        exact ⟨eGo_q hk1.1 (eEq_m (eCopy_q okn) hm), eLv_q hk1.2 (eCopy_q okn)⟩
      · obtain ⟨l', l1', l2'⟩ := a3 k (by omega)
        have hxk := hX l' l1'
        rw [← l2'] at hxk
        rw [j1 (x.2.1 k) (a4 k x.2.2.2 (by omega) (by omega) e) hxk.2.1 hxk.2.2]
        exact a7 k hk
  · rw [if_neg c]
    have hW : ∀ z, z ≠ D + 1301 + 1 → z ≠ D + 1301 + 8 → (jJoin x.1 (x.2.1 x.2.2.2) (x.2.1 i) (D + 1301) m x.2.2.1).2.1 z = x.1 z := fun z h2 h3 => by
      by_cases e : z = x.2.1 x.2.2.2
      · rw [e]
        exact j4 (Bool.eq_false_iff.mpr c)
      · exact j1 z e h2 h3
    have hsw : ∀ k, k ≠ x.2.2.2 + 1 → k ≠ i → swp x.2.1 (x.2.2.2 + 1) i k = x.2.1 k := fun k h1 h2 => by
      show va_up (va_up x.2.1 (x.2.2.2 + 1) (x.2.1 i)) i (x.2.1 (x.2.2.2 + 1)) k = _
      rw [va_up_ne _ _ h2, va_up_ne _ _ h1]
    have hs1 : swp x.2.1 (x.2.2.2 + 1) i (x.2.2.2 + 1) = u i := by
      show va_up (va_up x.2.1 (x.2.2.2 + 1) (x.2.1 i)) i (x.2.1 (x.2.2.2 + 1)) (x.2.2.2 + 1) = _
      by_cases e : x.2.2.2 + 1 = i
      · rw [e, va_up_self]
        exact hei
      · rw [va_up_ne _ _ e, va_up_self]
        exact hei
    have hs2 : swp x.2.1 (x.2.2.2 + 1) i i = x.2.1 (x.2.2.2 + 1) := by
      show va_up (va_up x.2.1 (x.2.2.2 + 1) (x.2.1 i)) i (x.2.1 (x.2.2.2 + 1)) i = _
      exact va_up_self _ _ _
    refine ⟨jok, fun z h1 h2 h3 => (hW z h2 h3).trans (a2 z h1 h2 h3), fun k hk => ?_, sIn_swp a4 (by omega) hi, by show x.2.2.2 + 1 < i + 1; omega, fun k h1 h2 => ⟨?_, ?_⟩, fun k hk => ?_⟩
    · show ∃ l, l < 60 ∧ swp x.2.1 (x.2.2.2 + 1) i k = u l
      by_cases e1 : k = x.2.2.2 + 1
      · rw [e1, hs1]
        exact ⟨i, hi, rfl⟩
      · by_cases e2 : k = i
        · rw [e2, hs2]
          exact a3 _ (by omega)
        · rw [hsw k e1 e2]
          exact a3 k hk
    · show swp x.2.1 (x.2.2.2 + 1) i k = u k
      rw [hsw k (by omega) (by omega)]
      exact (a6 k (by omega) h2).1
    · have hk := hX k h2
      rw [hW _ hk.2.1 hk.2.2]
      exact (a6 k (by omega) h2).2
    · have hk : k ≤ x.2.2.2 + 1 := hk
      show eGo ((jJoin x.1 (x.2.1 x.2.2.2) (x.2.1 i) (D + 1301) m x.2.2.1).2.1 (swp x.2.1 (x.2.2.2 + 1) i k)) m G ∧ eLv ((jJoin x.1 (x.2.1 x.2.2.2) (x.2.1 i) (D + 1301) m x.2.2.1).2.1 (swp x.2.1 (x.2.2.2 + 1) i k))
      by_cases e1 : k = x.2.2.2 + 1
      · rw [e1, hs1, hW _ hxi.2.1 hxi.2.2, hwi]
        exact ⟨hg, hl⟩
      · rw [hsw k e1 (by omega)]
        obtain ⟨l', l1', l2'⟩ := a3 k (by omega)
        have hxk := hX l' l1'
        rw [← l2'] at hxk
        rw [hW _ hxk.2.1 hxk.2.2]
        exact a7 k (by omega)
theorem jaI_L {X : Nat → Prop} {W0 : Nat → eV} {u : Nat → Nat} {G : gV} {m D n : Nat} (hA : jsA X (D + 1301)) (hG : gOk G) (hm : m ≤ 3) (hX : ∀ k, k < 60 → X (u k) ∧ u k ≠ D + 1301 + 1 ∧ u k ≠ D + 1301 + 8) (hn : n ≤ 60) (hg : ∀ i, i < n → eGo (W0 (u i)) m G ∧ eLv (W0 (u i))) : ∀ (d i : Nat) (x : jaV), i + d = n → jaI X W0 u G m D i x → jaI X W0 u G m D n (jaL m (D + 1301) d i x) := by
  intro d
  induction d with
  | zero =>
    intro i x h hI
    rw [show n = i by omega]
    exact hI
  | succ d ih =>
    intro i x h hI
    exact ih (i + 1) _ (by omega) (jaI_s hA hG hm hX (by omega) (hg i (by omega)).1 (hg i (by omega)).2 hI)