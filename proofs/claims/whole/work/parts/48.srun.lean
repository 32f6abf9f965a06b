theorem no_es {X : Nat → Prop} {b : Nat} (h : ∀ x, X x → b < x ∨ x + 6 < b) : ¬ esB X b := fun ⟨x, hx, h1, h2⟩ => by
  have := h x hx
  omega
theorem sr_seS {f : aH} {X : Nat → Prop} {W : Nat → eV} {tp c s a : Nat} {v : qV} {z : sV} (h : srP tp c s f a v) (h1 : ∀ x, X x → x + 6 < a ∨ a + 1 < x) (h2 : s + 4 < a ∨ a + 1 < s) : srP tp c s (seS f X W s z) a v := ⟨(seS_ne (no_es fun x hx => by have := h1 x hx; omega) (by omega)).trans h.1, (seS_ne (no_es fun x hx => by have := h1 x hx; omega) (by omega)).trans h.2⟩
theorem oP_seS {f : aH} {X : Nat → Prop} {W : Nat → eV} {b s : Nat} {u : tS} {z : sV} (h : oP f b u) (h1 : ∀ x, X x → b + 1 < x ∨ x + 6 < b) (h2 : b + 1 < s ∨ s + 4 < b) : oP (seS f X W s z) b u := ⟨⟨(seS_ne (no_es fun x hx => by have := h1 x hx; omega) (by omega)).trans h.1.1, (seS_ne (no_es fun x hx => by have := h1 x hx; omega) (by omega)).trans h.1.2⟩, h.2⟩
theorem gn_seS {f : aH} {X : Nat → Prop} {W : Nat → eV} {c s : Nat} {g : gV} {z : sV} (h : gnP f c g) (h1 : ∀ x, X x → c + 8 < x ∨ x + 6 < c) (h2 : c + 8 < s ∨ s + 4 < c) : gnP (seS f X W s z) c g := by
  obtain ⟨p0, p1, p2, p3, p4, p5, p6, p7, p8⟩ := h
  refine ⟨?_, ?_, ?_, ?_, ?_, ?_, ?_, ?_, ?_⟩ <;> (rw [seS_ne (no_es fun x hx => by have := h1 x hx; omega) (by omega)]; assumption)
theorem sr_se_c {f : aH} {X : Nat → Prop} {W : Nat → eV} {tp c s a : Nat} {v : qV} {z : sV} (hA : seA X s) (h1 : ∀ x, X x → x + 6 < a ∨ a + 1 < x) (h2 : s + 4 < a ∨ a + 1 < s) : srS tp c s (seS f X W s z) a v = seS (srS tp c s f a v) X W s z := by
  have hP := seP_S (f := f) (W := W) (v := z) hA
  refine seS_ext hA ⟨sh_srS hP.1 h2, fun x hx => en_srS (hP.2 x hx) (h1 x hx)⟩ (fun b n1 n2 => ?_)
  by_cases e : b < a ∨ a + 1 < b
  · rw [srS_ne e, srS_ne e, seS_ne n1 n2]
  · obtain ⟨p0, p1⟩ := srP_S tp c s (seS f X W s z) a v
    obtain ⟨r0, r1⟩ := srP_S tp c s f a v
    rcases (show b = a ∨ b = a + 1 by omega) with e | e
    · rw [e, p0, r0]
    · rw [e, p1, r1]
theorem sr_se_2 {f : aH} {X : Nat → Prop} {W : Nat → eV} {tp c s a : Nat} {v w : qV} {z : sV} (hA : seA X s) (h1 : ∀ x, X x → x + 6 < a ∨ a + 1 < x) (h2 : s + 4 < a ∨ a + 1 < s) : srS tp c s (seS (srS tp c s f a v) X W s z) a w = seS (srS tp c s f a w) X W s z := by
  rw [sr_se_c hA h1 h2, srS_S]
theorem qHeadL_n {u : tS} {v : qV} : ∀ (d k : Nat) (n : nV), nOk 3 n → n.1 + 9 = k → k + d ≤ 12 → nOk 3 (qHeadL u v d k n).2 ∧ ((qHeadL u v d k n).1 = true → (qHeadL u v d k n).2.1 = n.1 + d) := by
  intro d
  induction d with
  | zero => intro k n h _ _; exact ⟨h, fun _ => rfl⟩
  | succ d ih =>
    intro k n h h2 h3
    unfold qHeadL
    split
    · rename_i hc
      have q1 := qName_1 (n := n) (by omega) hc
      obtain ⟨a1, a2⟩ := ih (k + 1) (qName u (qSt v k) (qSt v (k + 1) - 1) n).2 (qName_ok h) (by omega) (by omega)
      exact ⟨a1, fun q => by rw [a2 q, q1]; omega⟩
    · exact ⟨qName_ok h, fun q => by (cases q)⟩
/-- what the head line gives -/
def qHd (v : qV) (n : nV) : Prop := nOk 3 n ∧ ((n.1 = 0 ∧ qCm v = 8) ∨ (n.1 + 9 = qCm v ∧ 10 ≤ qCm v ∧ qCm v ≤ 12))
theorem qHead_n {u : tS} {v : qV} {n : nV} (h : nOk 3 n) (h0 : n.1 = 0) : nOk 3 (qHead u v n).2 ∧ ((qHead u v n).1 = true → qHd v (qHead u v n).2) := by
  unfold qHead
  split
  · rename_i hc
    exact ⟨h, fun _ => ⟨h, Or.inl ⟨h0, hc⟩⟩⟩
  · split
    · exact ⟨h, fun q => by (cases q)⟩
    · split
      · obtain ⟨a1, a2⟩ := qHeadL_n (u := u) (v := v) (qCm v - 9) 9 n h (by omega) (by omega)
        exact ⟨a1, fun q => ⟨a1, Or.inr ⟨by rw [a2 q]; omega, by omega, by omega⟩⟩⟩
      · exact ⟨h, fun q => by (cases q)⟩
theorem qTop_n {u : tS} (hu : u.1 ≤ 8000) : ∀ (d : Nat) (v : qV) (n : nV), nOk 3 n → n.1 = 0 → (∀ k, qSt v k ≤ 8001) → nOk 3 (qTop u d v n).2.2 ∧ ((qTop u d v n).1 = true → qHd (qTop u d v n).2.1 (qTop u d v n).2.2 ∧ qNx (qTop u d v n).2.1 ≤ 8001 ∧ ∀ k, qSt (qTop u d v n).2.1 k ≤ 8001) := by
  intro d
  induction d with
  | zero => intro v n h h0 hs; exact ⟨h, fun q => by (cases q)⟩
  | succ d ih =>
    intro v n h h0 hs
    unfold qTop
    split
    · rename_i hc
      obtain ⟨⟨k1, k2, k3⟩, k4, k5, k6, k7⟩ := qLine_L hu hc
      split
      · exact ih _ _ h h0 (fun k => by rw [k6]; exact hs k)
      · obtain ⟨a1, a2⟩ := qHead_n (u := u) (v := qCut u (qLine u v).2) h h0
        split
        · rename_i hd
          exact ⟨a1, fun _ => ⟨a2 hd, (by show qNx (qLine u v).2 ≤ 8001; rw [k4]; omega), (qCut_C hu ⟨k1, k2, k3⟩ (fun k => by rw [k6]; exact hs k)).1⟩⟩
        · exact ⟨a1, fun q => by (cases q)⟩
    · exact ⟨h, fun q => by (cases q)⟩
theorem qThn_v {r : Bool × eV} {bad v : qV} {k : eV → Bool × qV × eV} (hk : ∀ y, (k y).1 = true → (k y).2.1 = v) (h : (qThn r bad k).1 = true) : (qThn r bad k).2.1 = v := by
  unfold qThn at h ⊢
  split at h
  · rename_i hc
    rw [if_pos hc]
    exact hk _ h
  · cases h
theorem qE0_v {u : tS} {v : qV} {g : gV} {n : Nat} {y : eV} (h : (qE0 u v g n y).1 = true) : (qE0 u v g n y).2.1 = v :=
  qThn_v (fun _ h => qThn_v (fun _ h => qThn_v (fun _ h => qThn_v (fun _ h => qThn_v (fun _ h => qThn_v (fun _ h => qThn_v (fun _ h => qThn_v (fun _ h => qThn_v (fun _ h => qThn_v (fun _ _ => rfl) h) h) h) h) h) h) h) h) h) h
theorem qAll_v {u : tS} {v : qV} : ∀ (d r : Nat) (w : eV), (qAll u v d r w).1 = true → (qAll u v d r w).2.1 = v := by
  intro d
  induction d with
  | zero => intro r w _; rfl
  | succ d ih =>
    intro r w h
    unfold qAll at h ⊢
    split at h
    · rename_i hc
      rw [if_pos hc]
      exact ih _ _ h
    · cases h
def qOne (u : tS) (g : gV) (n due i : Nat) (v : qV) (w : eV) : Bool × qV × eV :=
  if (qLine u v).1 = true then (if i = 60 then (false, qFail (qLine u v).2 6 (qBg (qLine u v).2), w) else if qCm (qCut u (qLine u v).2) = due then (if (qE0 u (qCut u (qLine u v).2) g n w).1 = true then qAll u (qCut u (qLine u v).2) (n - 0) 0 (qE0 u (qCut u (qLine u v).2) g n w).2.2 else qE0 u (qCut u (qLine u v).2) g n w) else (false, qFail (qCut u (qLine u v).2) 3 (qBg (qLine u v).2), w)) else (false, (qLine u v).2, w)
def qRunL (u : tS) (g : gV) (n due : Nat) (e : Nat → Nat) : Nat → Nat → qV → (Nat → eV) → Bool × qV × (Nat → eV) × Nat
  | 0, i, v, W => (true, v, W, i)
  | d + 1, i, v, W => if u.1 ≤ qNx v then (true, v, W, i) else if (qOne u g n due i v (W (e i))).1 = true then qRunL u g n due e d (i + 1) (qOne u g n due i v (W (e i))).2.1 (va_up W (e i) (qOne u g n due i v (W (e i))).2.2) else (false, (qOne u g n due i v (W (e i))).2.1, va_up W (e i) (qOne u g n due i v (W (e i))).2.2, i)
def qNew : qV := ((fun _ => 0), 0, nI 0, 0, 0, 0, 0)
def qRunH (u : tS) (g : gV) (z : sV) (W : Nat → eV) (h : Bool × qV × nV) : Bool × qV × (Nat → eV) × sV := if h.1 = true then ((qRunL u g h.2.2.1 (qCm h.2.1) z.1 61 0 h.2.1 W).1, (qRunL u g h.2.2.1 (qCm h.2.1) z.1 61 0 h.2.1 W).2.1, (qRunL u g h.2.2.1 (qCm h.2.1) z.1 61 0 h.2.1 W).2.2.1, (z.1, h.2.2, (qRunL u g h.2.2.1 (qCm h.2.1) z.1 61 0 h.2.1 W).2.2.2)) else (false, h.2.1, W, (z.1, h.2.2, 0))
def qRun (u : tS) (g : gV) (z : sV) (W : Nat → eV) : Bool × qV × (Nat → eV) × sV := if (qFst u qNew).1 = true then qRunH u g z W (qTop u 8001 (qFst u qNew).2 (0, z.2.1.2)) else (false, (qFst u qNew).2, W, (z.1, (0, z.2.1.2), 0))
theorem qFst_k {u : tS} {v : qV} (hu : u.1 ≤ 8000) (hv : qNx v ≤ 8001) : qNx (qFst u v).2 ≤ 8001 ∧ qSt (qFst u v).2 = qSt v := by
  have hl : qNx (qLine u v).2 ≤ 8001 ∧ qSt (qLine u v).2 = qSt v := by
    refine ⟨?_, qLine_k.1⟩
    by_cases hb : (qLine u v).1 = true
    · obtain ⟨⟨k1, k2, k3⟩, k4, k5, k6, k7⟩ := qLine_L hu hb
      rw [k4]; omega
    · unfold qLine at hb ⊢
      split
      · exact hv
      · rename_i hc
        rw [if_neg hc] at hb
        exact absurd rfl hb
  unfold qFst
  split
  · split
    · exact hl
    · exact hl
  · exact hl

set_option maxRecDepth 100000 in
set_option maxHeartbeats 4000000 in
/-- SheetReader.run -/
theorem sX8_run {E : eN} (hE : eOk E) {f : aH} {t : Nat} {a tp c s : Nat} {u : tS} {g : gV} {z : sV} {X : Nat → Prop} {W : Nat → eV} (h : srP tp c s f a qNew) (hu : oP f tp u) (hg : gnP f c g) (hgo : gOk g) (hA : seA X s) (hz : seP f X W s z) (hzo : shOk z) (hW : ∀ z, X z → enOk (W z)) (hX : ∀ i, i < 60 → X (z.1 i)) (hS : eSt E) (dX : ∀ x, X x → x + 6 < a ∨ a + 1 < x) (dXt : ∀ x, X x → tp + 1 < x ∨ x + 6 < tp) (dXc : ∀ x, X x → c + 8 < x ∨ x + 6 < c) (dt : tp + 1 < a ∨ a + 1 < tp) (ds : s + 4 < a ∨ a + 1 < s) (dts : tp + 1 < s ∨ s + 4 < tp) (dcs : c + 8 < s ∨ s + 4 < c) (dca : c + 8 < a ∨ a + 1 < c) : mT E mX8_run 0 0 [.ref a] f t (fun o f' t' => o = .inl (some (.int (bI (qRun u g z W).1))) ∧ t' = t ∧ f' = seS (srS tp c s f a (qRun u g z W).2.1) X (qRun u g z W).2.2.1 s (qRun u g z W).2.2.2) := by
  refine mT_of (n := 2) (lo := [some (.ref a), none, none]) (by decide) (by exact Nat.le_of_ble_eq_true rfl) rfl rfl ?_
  obtain ⟨h0, h1⟩ := id h
  obtain ⟨⟨u0, u1⟩, u2⟩ := id hu
  obtain ⟨⟨z0, z1, z2, z3, z4⟩, hEs⟩ := id hz
  have lp : ∀ (n : nV) (due : Nat) (v0 : qV), nOk 3 n → ((n.1 = 0 ∧ due = 8) ∨ (n.1 + 9 = due ∧ 10 ≤ due ∧ due ≤ 12)) → ∀ (d : Nat) (i : Nat) (v : qV) (U : Nat → eV), i + d = 60 → qNx v ≤ 8001 → (∀ k, qSt v k ≤ 8001) → (∀ x, X x → enOk (U x)) → (qRunL u g n.1 due z.1 61 0 v0 W) = qRunL u g n.1 due z.1 (61 - i) i v U → V E mX8_run 0 0 (fun o f' t' => o = .inl (some (.int (bI (qRunL u g n.1 due z.1 61 0 v0 W).1))) ∧ t' = t ∧ f' = seS (srS tp c s f a (qRunL u g n.1 due z.1 61 0 v0 W).2.1) X (qRunL u g n.1 due z.1 61 0 v0 W).2.2.1 s (z.1, n, (qRunL u g n.1 due z.1 61 0 v0 W).2.2.2)) 30 [some (.ref a), some (.int (nI due)), some (.int (nI i))] [] (seS (srS tp c s f a v) X U s (z.1, n, i)) t 0 0 := by
    intro n due v0 hno hdu d
    induction d using Nat.strongRecOn with
    | _ d ih =>
    intro i v U hi hn hst hU he
    have hs0 := sr_seS (X := X) (W := U) (z := (z.1, n, i)) (srP_S tp c s f a v) dX ds
    obtain ⟨r00, r10⟩ := id hs0
    have hu0 := oP_seS (X := X) (W := U) (z := (z.1, n, i)) (oP_srS (v := v) (c := c) (s := s) (tp := tp) hu dt) dXt dts
    obtain ⟨⟨u00, u10⟩, u20⟩ := id hu0
    have hg0 := gn_seS (X := X) (W := U) (z := (z.1, n, i)) (gn_srS (v := v) (c := c) (s := s) (tp := tp) hg dca) dXc dcs
    have hz0 := seP_S (f := srS tp c s f a v) (W := U) (v := (z.1, n, i)) hA
    obtain ⟨⟨p00, p10, p20, p30, p40⟩, -⟩ := id hz0
    dsimp only at p00 p10 p20 p30 p40
    refine v_iload_n dX8_run_30 rfl (by rfl) ?_
    refine v_bipush (v := nI 60) dX8_run_31 (by decide) ?_
    refine v_icmp_gtN (tgt := 148) dX8_run_33 (by decide) (by omega) (by omega) (fun c33 => ?_) (fun c33 => ?_)
    · exact absurd c33 (by omega)
    · refine v_aload_n dX8_run_36 rfl (by rfl) ?_
      refine v_getf hE dX8_run_37 fX8_43 (by repeat (first | assumption | exact va_up_self _ _ _ | refine (va_up_ne _ _ (by omega)).trans ?_)) (by rfl) ?_
      refine v_aload_n dX8_run_40 rfl (by rfl) ?_
      refine v_getf hE dX8_run_41 fX8_9 (by repeat (first | assumption | exact va_up_self _ _ _ | refine (va_up_ne _ _ (by omega)).trans ?_)) (by rfl) ?_
      refine v_getf hE dX8_run_44 fX8_46 (by repeat (first | assumption | exact va_up_self _ _ _ | refine (va_up_ne _ _ (by omega)).trans ?_)) (by rfl) ?_
      refine v_icmp_geN (tgt := 148) dX8_run_47 (by decide) (by omega) (by omega) (fun c47 => ?_) (fun c47 => ?_)
      · refine v_iconst (v := nI 1) dX8_run_148 (by decide) ?_
        refine v_iret dX8_run_149 rfl (by first | rfl | exact nar_bI) ?_
        first
          | (have hR : (qRunL u g n.1 due z.1 61 0 v0 W) = (true, v, U, i) := he.trans (by rw [show 61 - i = (61 - (i + 1)) + 1 by omega]; exact if_pos c47)
             rw [hR]; exact ⟨rfl, rfl, rfl⟩)
      · refine v_aload_n dX8_run_50 rfl (by rfl) ?_
        refine w_callV hE dX8_run_51 kX8_51 (by repeat (first | assumption | exact va_up_self _ _ _ | refine (va_up_ne _ _ (by omega)).trans ?_)) (by rfl) (by rfl) (sX8_takeLine hE hs0 hu0 dt hn) rfl (by decide) (by decide) (by exact Nat.le_of_ble_eq_true rfl) (by omega) (by omega) (fun v9 g9 u9 h9 => ?_) (fun _ _ _ h => by cases h.1)
        obtain ⟨hv9, hu9, hg9⟩ := h9
        replace hu9 := hu9.symm
        replace hg9 := hg9.symm
        subst hu9
        subst hg9
        cases hv9
        refine v_hp (sr_se_2 hA dX ds) ?_
        have hs1 := sr_seS (X := X) (W := U) (z := (z.1, n, i)) (srP_S tp c s f a (qLine u v).2) dX ds
        obtain ⟨r01, r11⟩ := id hs1
        have hu1 := oP_seS (X := X) (W := U) (z := (z.1, n, i)) (oP_srS (v := (qLine u v).2) (c := c) (s := s) (tp := tp) hu dt) dXt dts
        obtain ⟨⟨u01, u11⟩, u21⟩ := id hu1
        have hg1 := gn_seS (X := X) (W := U) (z := (z.1, n, i)) (gn_srS (v := (qLine u v).2) (c := c) (s := s) (tp := tp) hg dca) dXc dcs
        have hz1 := seP_S (f := srS tp c s f a (qLine u v).2) (W := U) (v := (z.1, n, i)) hA
        obtain ⟨⟨p01, p11, p21, p31, p41⟩, -⟩ := id hz1
        dsimp only at p01 p11 p21 p31 p41
        refine v_if_neB (tgt := 59) dX8_run_54 (by decide) (fun c54 => ?_) (fun c54 => ?_)
        · obtain ⟨⟨k1, k2, k3⟩, k4, k5, k6, k7⟩ := qLine_L hu.2 c54
          refine v_iload_n dX8_run_59 rfl (by rfl) ?_
          refine v_bipush (v := nI 60) dX8_run_60 (by decide) ?_
          refine v_icmp_neN (tgt := 76) dX8_run_62 (by decide) (by omega) (by omega) (fun c62 => ?_) (fun c62 => ?_)
          · refine v_aload_n dX8_run_76 rfl (by rfl) ?_
            refine w_callV hE dX8_run_77 kX8_61 (by repeat (first | assumption | exact va_up_self _ _ _ | refine (va_up_ne _ _ (by omega)).trans ?_)) (by rfl) (by rfl) (sX8_cutColumns hE hs1 hu1 dt ⟨k1, k2, k3⟩) rfl (by decide) (by decide) (by exact Nat.le_of_ble_eq_true rfl) (by omega) (by omega) (fun v9 g9 u9 h9 => ?_) (fun _ _ _ h => by cases h.1)
            obtain ⟨hv9, hu9, hg9⟩ := h9
            replace hu9 := hu9.symm
            replace hg9 := hg9.symm
            subst hu9
            subst hg9
            cases hv9
            refine v_hp (sr_se_2 hA dX ds) ?_
            have hs2 := sr_seS (X := X) (W := U) (z := (z.1, n, i)) (srP_S tp c s f a (qCut u (qLine u v).2)) dX ds
            obtain ⟨r02, r12⟩ := id hs2
            have hu2 := oP_seS (X := X) (W := U) (z := (z.1, n, i)) (oP_srS (v := (qCut u (qLine u v).2)) (c := c) (s := s) (tp := tp) hu dt) dXt dts
            obtain ⟨⟨u02, u12⟩, u22⟩ := id hu2
            have hg2 := gn_seS (X := X) (W := U) (z := (z.1, n, i)) (gn_srS (v := (qCut u (qLine u v).2)) (c := c) (s := s) (tp := tp) hg dca) dXc dcs
            have hz2 := seP_S (f := srS tp c s f a (qCut u (qLine u v).2)) (W := U) (v := (z.1, n, i)) hA
            obtain ⟨⟨p02, p12, p22, p32, p42⟩, -⟩ := id hz2
            dsimp only at p02 p12 p22 p32 p42
            have hCC := qCut_C (v := (qLine u v).2) hu.2 ⟨k1, k2, k3⟩ (by intro k; rw [k6]; exact hst k)
            have hcm := qCut_cm (v := (qLine u v).2) hu.2 ⟨k1, k2, k3⟩
            refine v_aload_n dX8_run_80 rfl (by rfl) ?_
            refine v_getf hE dX8_run_81 fX8_39 (by repeat (first | assumption | exact va_up_self _ _ _ | refine (va_up_ne _ _ (by omega)).trans ?_)) (by rfl) ?_
            refine v_iload_n dX8_run_84 rfl (by rfl) ?_
            refine v_icmp_eqN (tgt := 98) dX8_run_85 (by decide) (by omega) (by omega) (fun c85 => ?_) (fun c85 => ?_)
            · have hi6 : i < 60 := by omega
              have hXi := hX i hi6
              have hdue : qCm (qCut u (qLine u v).2) = due := c85
              refine v_aload_n dX8_run_98 rfl (by rfl) ?_
              refine v_aload_n dX8_run_99 rfl (by rfl) ?_
              refine v_getf hE dX8_run_100 fX8_19 (by repeat (first | assumption | exact va_up_self _ _ _ | refine (va_up_ne _ _ (by omega)).trans ?_)) (by rfl) ?_
              refine v_getf hE dX8_run_103 fX8_64 (by repeat (first | assumption | exact va_up_self _ _ _ | refine (va_up_ne _ _ (by omega)).trans ?_)) (by rfl) ?_
              refine v_iload_n dX8_run_106 rfl (by rfl) ?_
              refine v_aaldC hE dX8_run_107 (by repeat (first | assumption | exact va_up_self _ _ _ | refine (va_up_ne _ _ (by omega)).trans ?_)) (by omega) ?_
              refine w_callV hE dX8_run_108 kX8_68 (by repeat (first | assumption | exact va_up_self _ _ _ | refine (va_up_ne _ _ (by omega)).trans ?_)) (by rfl) (by rfl) (sX8_takeEntry hE hs2 hu2 (hz2.2 _ hXi) (hU _ hXi) hg2 hgo hz2.1 hno hS hCC (dX _ hXi) (dXt _ hXi) (dXc _ hXi) (hA.2 _ hXi) (by omega) (fun hh => by have hh : ¬ n.1 = 0 := hh; omega)) rfl (by decide) (by decide) (by exact Nat.le_of_ble_eq_true rfl) (by omega) (by omega) (fun v9 g9 u9 h9 => ?_) (fun _ _ _ h => by cases h.1)
              obtain ⟨hv9, hu9, hg9⟩ := h9
              replace hu9 := hu9.symm
              replace hg9 := hg9.symm
              subst hu9
              subst hg9
              cases hv9
              refine v_hp (show _ = seS (srS tp c s f a (qE0 u (qCut u (qLine u v).2) g n.1 (U (z.1 i))).2.1) X (va_up U (z.1 i) (qE0 u (qCut u (qLine u v).2) g n.1 (U (z.1 i))).2.2) s (z.1, n, i) from by rw [seS_up hA hXi, sr_se_2 hA dX ds]) ?_
              refine v_if_eqB (tgt := 130) dX8_run_111 (by decide) (fun c111 => ?_) (fun c111 => ?_)
              · refine v_iconst (v := nI 0) dX8_run_130 (by decide) ?_
                refine v_iret dX8_run_131 rfl (by first | rfl | exact nar_bI) ?_
                first
                  | (have hone : (qOne u g n.1 due i v (U (z.1 i))) = (qAll u (qCut u (qLine u v).2) (n.1 - 0) 0 (qE0 u (qCut u (qLine u v).2) g n.1 (U (z.1 i))).2.2) := (if_pos c54).trans ((if_neg (by omega)).trans ((if_pos c85).trans (if_pos c111)))
                     have hone1 : ¬ (qOne u g n.1 due i v (U (z.1 i))).1 = true := by rw [hone]; rw [c127]; decide
                     have hR : (qRunL u g n.1 due z.1 61 0 v0 W) = (false, (qOne u g n.1 due i v (U (z.1 i))).2.1, va_up U (z.1 i) (qOne u g n.1 due i v (U (z.1 i))).2.2, i) := he.trans (by rw [show 61 - i = (61 - (i + 1)) + 1 by omega]; exact (if_neg (by omega)).trans (if_neg hone1))
                     rw [hR, hone]; exact ⟨rfl, rfl, rfl⟩)
                  | (have hone : (qOne u g n.1 due i v (U (z.1 i))) = (qE0 u (qCut u (qLine u v).2) g n.1 (U (z.1 i))) := (if_pos c54).trans ((if_neg (by omega)).trans ((if_pos c85).trans (if_neg (by rw [c111]; decide))))
                     have hone1 : ¬ (qOne u g n.1 due i v (U (z.1 i))).1 = true := by rw [hone]; rw [c111]; decide
                     have hR : (qRunL u g n.1 due z.1 61 0 v0 W) = (false, (qOne u g n.1 due i v (U (z.1 i))).2.1, va_up U (z.1 i) (qOne u g n.1 due i v (U (z.1 i))).2.2, i) := he.trans (by rw [show 61 - i = (61 - (i + 1)) + 1 by omega]; exact (if_neg (by omega)).trans (if_neg hone1))
                     rw [hR, hone]; exact ⟨rfl, rfl, rfl⟩)
              · rw [qE0_v c111]
                have hs3 := sr_seS (X := X) (W := (va_up U (z.1 i) (qE0 u (qCut u (qLine u v).2) g n.1 (U (z.1 i))).2.2)) (z := (z.1, n, i)) (srP_S tp c s f a (qCut u (qLine u v).2)) dX ds
                obtain ⟨r03, r13⟩ := id hs3
                have hu3 := oP_seS (X := X) (W := (va_up U (z.1 i) (qE0 u (qCut u (qLine u v).2) g n.1 (U (z.1 i))).2.2)) (z := (z.1, n, i)) (oP_srS (v := (qCut u (qLine u v).2)) (c := c) (s := s) (tp := tp) hu dt) dXt dts
                obtain ⟨⟨u03, u13⟩, u23⟩ := id hu3
                have hg3 := gn_seS (X := X) (W := (va_up U (z.1 i) (qE0 u (qCut u (qLine u v).2) g n.1 (U (z.1 i))).2.2)) (z := (z.1, n, i)) (gn_srS (v := (qCut u (qLine u v).2)) (c := c) (s := s) (tp := tp) hg dca) dXc dcs
                have hz3 := seP_S (f := srS tp c s f a (qCut u (qLine u v).2)) (W := (va_up U (z.1 i) (qE0 u (qCut u (qLine u v).2) g n.1 (U (z.1 i))).2.2)) (v := (z.1, n, i)) hA
                obtain ⟨⟨p03, p13, p23, p33, p43⟩, -⟩ := id hz3
                dsimp only at p03 p13 p23 p33 p43
                have hwx := hz3.2 _ hXi
                rw [va_up_self] at hwx
                refine v_aload_n dX8_run_114 rfl (by rfl) ?_
                refine v_aload_n dX8_run_115 rfl (by rfl) ?_
                refine v_getf hE dX8_run_116 fX8_19 (by repeat (first | assumption | exact va_up_self _ _ _ | refine (va_up_ne _ _ (by omega)).trans ?_)) (by rfl) ?_
                refine v_getf hE dX8_run_119 fX8_64 (by repeat (first | assumption | exact va_up_self _ _ _ | refine (va_up_ne _ _ (by omega)).trans ?_)) (by rfl) ?_
                refine v_iload_n dX8_run_122 rfl (by rfl) ?_
                refine v_aaldC hE dX8_run_123 (by repeat (first | assumption | exact va_up_self _ _ _ | refine (va_up_ne _ _ (by omega)).trans ?_)) (by omega) ?_
                refine w_callV hE dX8_run_124 kX8_72 (by repeat (first | assumption | exact va_up_self _ _ _ | refine (va_up_ne _ _ (by omega)).trans ?_)) (by rfl) (by rfl) (sX8_takeAllCalls hE hs3 hu3 hwx (qE0_ok (hU _ hXi)).1 hz3.1 hno hS hCC (dX _ hXi) (dXt _ hXi) (hA.2 _ hXi) ((qE0_ok (hU _ hXi)).2 c111) (show n.1 = 0 ∨ n.1 + 9 ≤ qCm (qCut u (qLine u v).2) by omega)) rfl (by decide) (by decide) (by exact Nat.le_of_ble_eq_true rfl) (by omega) (by omega) (fun v9 g9 u9 h9 => ?_) (fun _ _ _ h => by cases h.1)
                obtain ⟨hv9, hu9, hg9⟩ := h9
                replace hu9 := hu9.symm
                replace hg9 := hg9.symm
                subst hu9
                subst hg9
                cases hv9
                refine v_hp (show _ = seS (srS tp c s f a (qAll u (qCut u (qLine u v).2) (n.1 - 0) 0 (qE0 u (qCut u (qLine u v).2) g n.1 (U (z.1 i))).2.2).2.1) X (va_up U (z.1 i) (qAll u (qCut u (qLine u v).2) (n.1 - 0) 0 (qE0 u (qCut u (qLine u v).2) g n.1 (U (z.1 i))).2.2).2.2) s (z.1, n, i) from by rw [seS_up hA hXi, sr_se_2 hA dX ds, va_up_up]) ?_
                refine v_if_neB (tgt := 132) dX8_run_127 (by decide) (fun c127 => ?_) (fun c127 => ?_)
                · rw [qAll_v _ _ _ c127]
                  have hs4 := sr_seS (X := X) (W := (va_up U (z.1 i) (qAll u (qCut u (qLine u v).2) (n.1 - 0) 0 (qE0 u (qCut u (qLine u v).2) g n.1 (U (z.1 i))).2.2).2.2)) (z := (z.1, n, i)) (srP_S tp c s f a (qCut u (qLine u v).2)) dX ds
                  obtain ⟨r04, r14⟩ := id hs4
                  have hu4 := oP_seS (X := X) (W := (va_up U (z.1 i) (qAll u (qCut u (qLine u v).2) (n.1 - 0) 0 (qE0 u (qCut u (qLine u v).2) g n.1 (U (z.1 i))).2.2).2.2)) (z := (z.1, n, i)) (oP_srS (v := (qCut u (qLine u v).2)) (c := c) (s := s) (tp := tp) hu dt) dXt dts
                  obtain ⟨⟨u04, u14⟩, u24⟩ := id hu4
                  have hg4 := gn_seS (X := X) (W := (va_up U (z.1 i) (qAll u (qCut u (qLine u v).2) (n.1 - 0) 0 (qE0 u (qCut u (qLine u v).2) g n.1 (U (z.1 i))).2.2).2.2)) (z := (z.1, n, i)) (gn_srS (v := (qCut u (qLine u v).2)) (c := c) (s := s) (tp := tp) hg dca) dXc dcs
                  have hz4 := seP_S (f := srS tp c s f a (qCut u (qLine u v).2)) (W := (va_up U (z.1 i) (qAll u (qCut u (qLine u v).2) (n.1 - 0) 0 (qE0 u (qCut u (qLine u v).2) g n.1 (U (z.1 i))).2.2).2.2)) (v := (z.1, n, i)) hA
                  obtain ⟨⟨p04, p14, p24, p34, p44⟩, -⟩ := id hz4
                  dsimp only at p04 p14 p24 p34 p44
                  refine v_aload_n dX8_run_132 rfl (by rfl) ?_
                  refine v_getf hE dX8_run_133 fX8_19 (by repeat (first | assumption | exact va_up_self _ _ _ | refine (va_up_ne _ _ (by omega)).trans ?_)) (by rfl) ?_
                  refine v_iload_n dX8_run_136 rfl (by rfl) ?_
                  refine v_iconst (v := nI 1) dX8_run_137 (by decide) ?_
                  refine v_iaddN dX8_run_138 ?_
                  refine v_putf hE dX8_run_139 fX8_75 (by repeat (first | assumption | exact va_up_self _ _ _ | refine (va_up_ne _ _ (by omega)).trans ?_)) (by exact Nat.le_of_ble_eq_true rfl) (by rfl) (by rfl) (by rfl) ?_
                  refine v_iincN (y := 1) dX8_run_142 (by rfl) (by decide) (by decide) ?_
                  refine v_goto (tgt := 30) dX8_run_145 (by decide) ?_
                  have hone : (qOne u g n.1 due i v (U (z.1 i))) = (qAll u (qCut u (qLine u v).2) (n.1 - 0) 0 (qE0 u (qCut u (qLine u v).2) g n.1 (U (z.1 i))).2.2) := (if_pos c54).trans ((if_neg (by omega)).trans ((if_pos c85).trans (if_pos c111)))
                  have hone1 : (qOne u g n.1 due i v (U (z.1 i))).1 = true := by rw [hone]; exact c127
                  have hone2 : (qOne u g n.1 due i v (U (z.1 i))).2.1 = (qCut u (qLine u v).2) := by rw [hone]; exact qAll_v _ _ _ c127
                  have hone3 : (qOne u g n.1 due i v (U (z.1 i))).2.2 = (qAll u (qCut u (qLine u v).2) (n.1 - 0) 0 (qE0 u (qCut u (qLine u v).2) g n.1 (U (z.1 i))).2.2).2.2 := by rw [hone]
                  refine v_hp (show _ = seS (srS tp c s f a (qCut u (qLine u v).2)) X (va_up U (z.1 i) (qAll u (qCut u (qLine u v).2) (n.1 - 0) 0 (qE0 u (qCut u (qLine u v).2) g n.1 (U (z.1 i))).2.2).2.2) s (z.1, n, i + 1) from (shS_ext (by repeat (first | assumption | exact va_up_self _ _ _ | refine (va_up_ne _ _ (by omega)).trans ?_)) (by repeat (first | assumption | exact va_up_self _ _ _ | refine (va_up_ne _ _ (by omega)).trans ?_)) (by repeat (first | assumption | exact va_up_self _ _ _ | refine (va_up_ne _ _ (by omega)).trans ?_)) (by repeat (first | assumption | exact va_up_self _ _ _ | refine (va_up_ne _ _ (by omega)).trans ?_)) (by repeat (first | assumption | exact va_up_self _ _ _ | refine (va_up_ne _ _ (by omega)).trans ?_)) (fun b hb => by simp only [va_up]; (repeat rw [if_neg (by omega)]))).trans seS_sh) ?_
                  exact ih (d - 1) (by omega) (i + 1) (qCut u (qLine u v).2) (va_up U (z.1 i) (qAll u (qCut u (qLine u v).2) (n.1 - 0) 0 (qE0 u (qCut u (qLine u v).2) g n.1 (U (z.1 i))).2.2).2.2) (by omega) (by show qNx (qLine u v).2 ≤ 8001; rw [k4]; omega) hCC.1 (upW_ok hU (qAll_ok _ _ _ (qE0_ok (hU _ hXi)).1)) (he.trans (by rw [show 61 - i = (61 - (i + 1)) + 1 by omega]; exact (if_neg (by omega)).trans ((if_pos hone1).trans (by rw [hone2, hone3]))))
                · refine v_iconst (v := nI 0) dX8_run_130 (by decide) ?_
                  refine v_iret dX8_run_131 rfl (by first | rfl | exact nar_bI) ?_
                  first
                    | (have hone : (qOne u g n.1 due i v (U (z.1 i))) = (qAll u (qCut u (qLine u v).2) (n.1 - 0) 0 (qE0 u (qCut u (qLine u v).2) g n.1 (U (z.1 i))).2.2) := (if_pos c54).trans ((if_neg (by omega)).trans ((if_pos c85).trans (if_pos c111)))
                       have hone1 : ¬ (qOne u g n.1 due i v (U (z.1 i))).1 = true := by rw [hone]; rw [c127]; decide
                       have hR : (qRunL u g n.1 due z.1 61 0 v0 W) = (false, (qOne u g n.1 due i v (U (z.1 i))).2.1, va_up U (z.1 i) (qOne u g n.1 due i v (U (z.1 i))).2.2, i) := he.trans (by rw [show 61 - i = (61 - (i + 1)) + 1 by omega]; exact (if_neg (by omega)).trans (if_neg hone1))
                       rw [hR, hone]; exact ⟨rfl, rfl, rfl⟩)
                    | (have hone : (qOne u g n.1 due i v (U (z.1 i))) = (qE0 u (qCut u (qLine u v).2) g n.1 (U (z.1 i))) := (if_pos c54).trans ((if_neg (by omega)).trans ((if_pos c85).trans (if_neg (by rw [c111]; decide))))
                       have hone1 : ¬ (qOne u g n.1 due i v (U (z.1 i))).1 = true := by rw [hone]; rw [c111]; decide
                       have hR : (qRunL u g n.1 due z.1 61 0 v0 W) = (false, (qOne u g n.1 due i v (U (z.1 i))).2.1, va_up U (z.1 i) (qOne u g n.1 due i v (U (z.1 i))).2.2, i) := he.trans (by rw [show 61 - i = (61 - (i + 1)) + 1 by omega]; exact (if_neg (by omega)).trans (if_neg hone1))
                       rw [hR, hone]; exact ⟨rfl, rfl, rfl⟩)
            · refine v_aload_n dX8_run_88 rfl (by rfl) ?_
              refine v_iconst (v := nI 3) dX8_run_89 (by decide) ?_
              refine v_aload_n dX8_run_90 rfl (by rfl) ?_
              refine v_getf hE dX8_run_91 fX8_54 (by repeat (first | assumption | exact va_up_self _ _ _ | refine (va_up_ne _ _ (by omega)).trans ?_)) (by rfl) ?_
              refine w_callV hE dX8_run_94 kX8_57 (by repeat (first | assumption | exact va_up_self _ _ _ | refine (va_up_ne _ _ (by omega)).trans ?_)) (by rfl) (by rfl) (sX8_fail hE hs2) rfl (by decide) (by decide) (by exact Nat.le_of_ble_eq_true rfl) (by omega) (by omega) (fun v9 g9 u9 h9 => ?_) (fun _ _ _ h => by cases h.1)
              obtain ⟨hv9, hu9, hg9⟩ := h9
              replace hu9 := hu9.symm
              replace hg9 := hg9.symm
              subst hu9
              subst hg9
              cases hv9
              refine v_hp (sr_se_2 hA dX ds) ?_
              refine v_iret dX8_run_97 rfl (by first | rfl | exact nar_bI) ?_
              first
                | (have hone : (qOne u g n.1 due i v (U (z.1 i))) = (false, qFail (qCut u (qLine u v).2) 3 (qBg (qLine u v).2), U (z.1 i)) := (if_pos c54).trans ((if_neg (by omega)).trans (if_neg c85))
                   have hone1 : ¬ (qOne u g n.1 due i v (U (z.1 i))).1 = true := by rw [hone]; exact Bool.false_ne_true
                   have hR : (qRunL u g n.1 due z.1 61 0 v0 W) = (false, (qOne u g n.1 due i v (U (z.1 i))).2.1, va_up U (z.1 i) (qOne u g n.1 due i v (U (z.1 i))).2.2, i) := he.trans (by rw [show 61 - i = (61 - (i + 1)) + 1 by omega]; exact (if_neg (by omega)).trans (if_neg hone1))
                   rw [hR, hone]; exact ⟨rfl, rfl, by first | (rw [esW_id]; done) | (rw [esW_id]; rfl)⟩)
          · refine v_aload_n dX8_run_65 rfl (by rfl) ?_
            refine v_bipush (v := nI 6) dX8_run_66 (by decide) ?_
            refine v_aload_n dX8_run_68 rfl (by rfl) ?_
            refine v_getf hE dX8_run_69 fX8_54 (by repeat (first | assumption | exact va_up_self _ _ _ | refine (va_up_ne _ _ (by omega)).trans ?_)) (by rfl) ?_
            refine w_callV hE dX8_run_72 kX8_57 (by repeat (first | assumption | exact va_up_self _ _ _ | refine (va_up_ne _ _ (by omega)).trans ?_)) (by rfl) (by rfl) (sX8_fail hE hs1) rfl (by decide) (by decide) (by exact Nat.le_of_ble_eq_true rfl) (by omega) (by omega) (fun v9 g9 u9 h9 => ?_) (fun _ _ _ h => by cases h.1)
            obtain ⟨hv9, hu9, hg9⟩ := h9
            replace hu9 := hu9.symm
            replace hg9 := hg9.symm
            subst hu9
            subst hg9
            cases hv9
            refine v_hp (sr_se_2 hA dX ds) ?_
            refine v_iret dX8_run_75 rfl (by first | rfl | exact nar_bI) ?_
            first
              | (have hone : (qOne u g n.1 due i v (U (z.1 i))) = (false, qFail (qLine u v).2 6 (qBg (qLine u v).2), U (z.1 i)) := (if_pos c54).trans (if_pos (by omega))
                 have hone1 : ¬ (qOne u g n.1 due i v (U (z.1 i))).1 = true := by rw [hone]; exact Bool.false_ne_true
                 have hR : (qRunL u g n.1 due z.1 61 0 v0 W) = (false, (qOne u g n.1 due i v (U (z.1 i))).2.1, va_up U (z.1 i) (qOne u g n.1 due i v (U (z.1 i))).2.2, i) := he.trans (by rw [show 61 - i = (61 - (i + 1)) + 1 by omega]; exact (if_neg (by omega)).trans (if_neg hone1))
                 rw [hR, hone]; exact ⟨rfl, rfl, by first | (rw [esW_id]; done) | (rw [esW_id]; rfl)⟩)
        · refine v_iconst (v := nI 0) dX8_run_57 (by decide) ?_
          refine v_iret dX8_run_58 rfl (by first | rfl | exact nar_bI) ?_
          first
            | (have hone : (qOne u g n.1 due i v (U (z.1 i))) = (false, (qLine u v).2, U (z.1 i)) := if_neg (by rw [c54]; decide)
               have hone1 : ¬ (qOne u g n.1 due i v (U (z.1 i))).1 = true := by rw [hone]; exact Bool.false_ne_true
               have hR : (qRunL u g n.1 due z.1 61 0 v0 W) = (false, (qOne u g n.1 due i v (U (z.1 i))).2.1, va_up U (z.1 i) (qOne u g n.1 due i v (U (z.1 i))).2.2, i) := he.trans (by rw [show 61 - i = (61 - (i + 1)) + 1 by omega]; exact (if_neg (by omega)).trans (if_neg hone1))
               rw [hR, hone]; exact ⟨rfl, rfl, by first | (rw [esW_id]; done) | (rw [esW_id]; rfl)⟩)
  refine v_aload_n dX8_run_0 rfl (by rfl) ?_
  refine v_getf hE dX8_run_1 fX8_19 (by repeat (first | assumption | exact va_up_self _ _ _ | refine (va_up_ne _ _ (by omega)).trans ?_)) (by rfl) ?_
  refine w_callV hE dX8_run_4 kX8_27 (by repeat (first | assumption | exact va_up_self _ _ _ | refine (va_up_ne _ _ (by omega)).trans ?_)) (by rfl) (by rfl) (sX7_clear hE hz.1 hzo) rfl (by decide) (by decide) (by exact Nat.le_of_ble_eq_true rfl) (by omega) (by omega) (fun v9 g9 u9 h9 => ?_) (fun _ _ _ h => by cases h.1)
  obtain ⟨hv9, hu9, hg9⟩ := h9
  replace hu9 := hu9.symm
  replace hg9 := hg9.symm
  subst hu9
  subst hg9
  cases hv9
  refine v_hp (show shS f s (z.1, (0, z.2.1.2), 0) = seS f X W s (z.1, (0, z.2.1.2), 0) from by have q := seS_sh (f := f) (X := X) (W := W) (a := s) (v := z) (w := (z.1, (0, z.2.1.2), 0)); rw [seS_id hA hz] at q; exact q) ?_
  have hs0 := sr_seS (W := W) (z := (z.1, (0, z.2.1.2), 0)) h dX ds
  obtain ⟨y0, y1⟩ := id hs0
  have hu0 := oP_seS (W := W) (z := (z.1, (0, z.2.1.2), 0)) hu dXt dts
  refine v_aload_n dX8_run_7 rfl (by rfl) ?_
  refine w_callV hE dX8_run_8 kX8_32 (by repeat (first | assumption | exact va_up_self _ _ _ | refine (va_up_ne _ _ (by omega)).trans ?_)) (by rfl) (by rfl) (sX8_takeFirstLine hE hs0 hu0 dt (Nat.zero_le _) hS) rfl (by decide) (by decide) (by exact Nat.le_of_ble_eq_true rfl) (by omega) (by omega) (fun v9 g9 u9 h9 => ?_) (fun _ _ _ h => by cases h.1)
  obtain ⟨hv9, hu9, hg9⟩ := h9
  replace hu9 := hu9.symm
  replace hg9 := hg9.symm
  subst hu9
  subst hg9
  cases hv9
  refine v_hp (sr_se_c hA dX ds) ?_
  have hs1 := sr_seS (X := X) (W := W) (z := (z.1, (0, z.2.1.2), 0)) (srP_S tp c s f a (qFst u qNew).2) dX ds
  obtain ⟨y2, y3⟩ := id hs1
  have hu1 := oP_seS (X := X) (W := W) (z := (z.1, (0, z.2.1.2), 0)) (oP_srS (v := (qFst u qNew).2) (c := c) (s := s) (tp := tp) hu dt) dXt dts
  have hz1 := seP_S (f := srS tp c s f a (qFst u qNew).2) (W := W) (v := (z.1, (0, z.2.1.2), 0)) hA
  have hf := qFst_k (v := qNew) hu.2 (Nat.zero_le _)
  have hn0 : nOk 3 ((0, z.2.1.2) : nV) := ⟨Nat.zero_le _, hzo.1.2.1, hzo.1.2.2⟩
  refine v_if_eqB (tgt := 21) dX8_run_11 (by decide) (fun c11 => ?_) (fun c11 => ?_)
  · refine v_iconst (v := nI 0) dX8_run_21 (by decide) ?_
    refine v_iret dX8_run_22 rfl (by first | rfl | exact nar_bI) ?_
    first
      | (have hq : (qRun u g z W) = (false, (qFst u qNew).2, W, (z.1, (0, z.2.1.2), 0)) := if_neg (by rw [c11]; decide)
         rw [hq]; exact ⟨rfl, rfl, rfl⟩)
      | (have hq : (qRun u g z W) = qRunH u g z W (qTop u 8001 (qFst u qNew).2 (0, z.2.1.2)) := if_pos c11
         have hq2 : qRunH u g z W (qTop u 8001 (qFst u qNew).2 (0, z.2.1.2)) = (false, (qTop u 8001 (qFst u qNew).2 (0, z.2.1.2)).2.1, W, (z.1, (qTop u 8001 (qFst u qNew).2 (0, z.2.1.2)).2.2, 0)) := if_neg (by rw [c18]; decide)
         rw [hq, hq2]; exact ⟨rfl, rfl, rfl⟩)
  · refine v_aload_n dX8_run_14 rfl (by rfl) ?_
    refine w_callV hE dX8_run_15 kX8_36 (by repeat (first | assumption | exact va_up_self _ _ _ | refine (va_up_ne _ _ (by omega)).trans ?_)) (by rfl) (by rfl) (sX8_takeLinesToHead hE hs1 hu1 hz1.1 hn0 dt ds dts hS rfl hf.1 (by intro k; rw [hf.2]; exact Nat.zero_le _)) rfl (by decide) (by decide) (by exact Nat.le_of_ble_eq_true rfl) (by omega) (by omega) (fun v9 g9 u9 h9 => ?_) (fun _ _ _ h => by cases h.1)
    obtain ⟨hv9, hu9, hg9⟩ := h9
    replace hu9 := hu9.symm
    replace hg9 := hg9.symm
    subst hu9
    subst hg9
    cases hv9
    refine v_hp (show _ = seS (srS tp c s f a (qTop u 8001 (qFst u qNew).2 (0, z.2.1.2)).2.1) X W s (z.1, (qTop u 8001 (qFst u qNew).2 (0, z.2.1.2)).2.2, 0) from by rw [sr_se_2 hA dX ds, sh_set (seP_S hA).1, seS_sh]) ?_
    have htn := qTop_n hu.2 8001 (qFst u qNew).2 (0, z.2.1.2) hn0 rfl (by intro k; rw [hf.2]; exact Nat.zero_le _)
    have hs2 := sr_seS (X := X) (W := W) (z := (z.1, (qTop u 8001 (qFst u qNew).2 (0, z.2.1.2)).2.2, 0)) (srP_S tp c s f a (qTop u 8001 (qFst u qNew).2 (0, z.2.1.2)).2.1) dX ds
    obtain ⟨y4, y5⟩ := id hs2
    refine v_if_neB (tgt := 23) dX8_run_18 (by decide) (fun c18 => ?_) (fun c18 => ?_)
    · refine v_aload_n dX8_run_23 rfl (by rfl) ?_
      refine v_getf hE dX8_run_24 fX8_39 (by repeat (first | assumption | exact va_up_self _ _ _ | refine (va_up_ne _ _ (by omega)).trans ?_)) (by rfl) ?_
      refine v_istore_n dX8_run_27 rfl (by decide) ?_
      refine v_iconst (v := nI 0) dX8_run_28 (by decide) ?_
      refine v_istore_n dX8_run_29 rfl (by decide) ?_
      obtain ⟨ht1, ht2, ht3⟩ := htn.2 c18
      have hq : (qRun u g z W) = qRunH u g z W (qTop u 8001 (qFst u qNew).2 (0, z.2.1.2)) := if_pos c11
      have hq2 : qRunH u g z W (qTop u 8001 (qFst u qNew).2 (0, z.2.1.2)) = _ := if_pos c18
      rw [hq, hq2]
      exact lp (qTop u 8001 (qFst u qNew).2 (0, z.2.1.2)).2.2 (qCm (qTop u 8001 (qFst u qNew).2 (0, z.2.1.2)).2.1) (qTop u 8001 (qFst u qNew).2 (0, z.2.1.2)).2.1 ht1.1 ht1.2 60 0 (qTop u 8001 (qFst u qNew).2 (0, z.2.1.2)).2.1 W (by omega) ht2 ht3 hW rfl
    · refine v_iconst (v := nI 0) dX8_run_21 (by decide) ?_
      refine v_iret dX8_run_22 rfl (by first | rfl | exact nar_bI) ?_
      first
        | (have hq : (qRun u g z W) = (false, (qFst u qNew).2, W, (z.1, (0, z.2.1.2), 0)) := if_neg (by rw [c11]; decide)
           rw [hq]; exact ⟨rfl, rfl, rfl⟩)
        | (have hq : (qRun u g z W) = qRunH u g z W (qTop u 8001 (qFst u qNew).2 (0, z.2.1.2)) := if_pos c11
           have hq2 : qRunH u g z W (qTop u 8001 (qFst u qNew).2 (0, z.2.1.2)) = (false, (qTop u 8001 (qFst u qNew).2 (0, z.2.1.2)).2.1, W, (z.1, (qTop u 8001 (qFst u qNew).2 (0, z.2.1.2)).2.2, 0)) := if_neg (by rw [c18]; decide)
           rw [hq, hq2]; exact ⟨rfl, rfl, rfl⟩)
