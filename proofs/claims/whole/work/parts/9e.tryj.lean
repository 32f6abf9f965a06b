def tjF (y z : mV) : Prop := z.2 = y.2 ∧ (∀ k, k < 20 ∨ (31 < k ∧ k ≠ 35) → z.1 k = y.1 k) ∧ aNw z.1 ∧ ∀ r w n, r < 180 → mE y r w n → enOk w → n ≤ 3 → mE z r w n
theorem tjS_E {y v : mV} {r n : Nat} {w : eV} (h : tjS y v) (hw : mE y r w n) (hr : r < 180) (ho : enOk w) : mE v r w n := by
  obtain ⟨h1, h2, h3, h4, h5, h6⟩ := h
  obtain ⟨e1, e2, e3, e4, e5, e6, e7, e8, e9, e10⟩ := hw
  have k1 := ho.1
  unfold mE
  rw [h2 20 (by decide) (by decide) (by decide) (by decide), h2 21 (by decide) (by decide) (by decide) (by decide), h2 22 (by decide) (by decide) (by decide) (by decide), h2 23 (by decide) (by decide) (by decide) (by decide), h2 27 (by decide) (by decide) (by decide) (by decide), h2 28 (by decide) (by decide) (by decide) (by decide), h2 29 (by decide) (by decide) (by decide) (by decide), h2 30 (by decide) (by decide) (by decide) (by decide), h2 31 (by decide) (by decide) (by decide) (by decide), h3 r hr]
  refine ⟨e1, e2, e3, e4, e5, e6, fun q hq => ⟨(h4 _ (by omega)).trans (e7 q hq).1, fun k hk => ?_⟩, e8, e9, e10⟩
  have := ho.2.1 q
  rw [h5 _ (by omega)]
  exact (e7 q hq).2 k hk
theorem tjS_F {y v : mV} {a : Nat} (hO : aNw y.1) (h : tjS (mCopy y 180 a) v) : tjF y v := by
  have hf := mFr_c (B := fun r => 180 ≤ r) (a := 180) (b := a) (mFr_0 hO) (show 180 ≤ 180 by decide)
  exact ⟨h.1.trans hf.1, fun k hk => (h.2.1 k (by omega) (by omega) (by omega) (by omega)).trans (hf.2.1 k (by omega)), h.2.2.2.2.2, fun r w n hr hw ho hn => tjS_E h (mCopy_o hw ho hn (by omega)) hr ho⟩
theorem tjF_j {y v : mV} {s a b : Nat} {pa pb : Bool} (h : tjF y v) (hs : s < 3) : tjF y (mJC v 180 s a b pa pb) := ⟨h.1, fun k hk => by
  show va_up (va_up (va_up v.1 30 _) 31 _) 29 _ k = _
  rw [va_up_ne _ _ (by omega), va_up_ne _ _ (by omega), va_up_ne _ _ (by omega)]
  exact h.2.1 k hk, mJC_nw h.2.2.1, fun r w n hr hw ho hn => mJC_o (h.2.2.2 r w n hr hw ho hn) ho hn hr hs⟩
theorem tjS_rw {y v : mV} {r q s : Nat} {l : Nat → Int32} (h : tjS y v) (hw : rwA y r q s l) (hr : r < 180) (hq : q < 4) (hs : s ≤ 26) : rwA v r q s l := ⟨(h.2.2.2.1 _ (by omega)).trans hw.1, fun k hk => (h.2.2.2.2.1 _ (by omega)).trans (hw.2 k hk)⟩
abbrev mJ3 (v : mV) (a b : Nat) (p0 q0 p1 q1 p2 q2 : Bool) : mV := mJC (mJC (mJC v 180 0 a b p0 q0) 180 (0 + 1) a b p1 q1) 180 (0 + 1 + 1) a b p2 q2
theorem jc3 {v : mV} {a b : Nat} {p0 q0 p1 q1 p2 q2 : Bool} (ha : a < 180) (hb : b < 180) (h0 : v.1 31 (3 * a + 0) = bI p0) (k0 : v.1 31 (3 * b + 0) = bI q0) (h1 : v.1 31 (3 * a + 1) = bI p1) (k1 : v.1 31 (3 * b + 1) = bI q1) (h2 : v.1 31 (3 * a + 2) = bI p2) (k2 : v.1 31 (3 * b + 2) = bI q2) : ∀ s, s < 3 → (mJ3 v a b p0 q0 p1 q1 p2 q2).1 30 (3 * 180 + s) = jMx (v.1 30 (3 * a + s)) (v.1 30 (3 * b + s)) ∧ (∃ p q, v.1 31 (3 * a + s) = bI p ∧ v.1 31 (3 * b + s) = bI q ∧ (mJ3 v a b p0 q0 p1 q1 p2 q2).1 31 (3 * 180 + s) = bI (jPb (v.1 30 (3 * a + s)) (v.1 30 (3 * b + s)) p q)) ∧ ∀ c, c < 2 → (mJ3 v a b p0 q0 p1 q1 p2 q2).1 29 (6 * 180 + 2 * s + c) = jcV (v.1 35) (mCA v a s c) (mCA v b s c) := by
  intro s hs
  have n30 : ∀ (y : mV) (s r t : Nat) (p q : Bool), r < 180 → t < 3 → s < 3 → (mJC y 180 s a b p q).1 30 (3 * r + t) = y.1 30 (3 * r + t) := fun y s r t p q _ _ _ => updN (by omega)
  rcases (show s = 0 ∨ s = 1 ∨ s = 2 by omega) with e | e | e <;> subst e
  · obtain ⟨x1, x2, x3⟩ := mJC_t (y := mJC (mJC v 180 0 a b p0 q0) 180 (0 + 1) a b p1 q1) (s := 0 + 1 + 1) (t := 0) (a := a) (b := b) (pa := p2) (pb := q2) (by decide) (by decide) (by decide)
    obtain ⟨y1, y2, y3⟩ := mJC_t (y := mJC v 180 0 a b p0 q0) (s := 0 + 1) (t := 0) (a := a) (b := b) (pa := p1) (pb := q1) (by decide) (by decide) (by decide)
    obtain ⟨z1, z2, z3⟩ := mJC_s (y := v) (s := 0) (a := a) (b := b) (pa := p0) (pb := q0)
    exact ⟨x1.trans (y1.trans z1), ⟨p0, q0, h0, k0, x2.trans (y2.trans z2)⟩, fun c hc => (x3 c hc).trans ((y3 c hc).trans (z3 c hc))⟩
  · obtain ⟨x1, x2, x3⟩ := mJC_t (y := mJC (mJC v 180 0 a b p0 q0) 180 (0 + 1) a b p1 q1) (s := 0 + 1 + 1) (t := 1) (a := a) (b := b) (pa := p2) (pb := q2) (by decide) (by decide) (by decide)
    obtain ⟨z1, z2, z3⟩ := mJC_s (y := mJC v 180 0 a b p0 q0) (s := 0 + 1) (a := a) (b := b) (pa := p1) (pb := q1)
    rw [n30 v 0 a 1 p0 q0 ha (by decide) (by decide), n30 v 0 b 1 p0 q0 hb (by decide) (by decide)] at z1 z2
    refine ⟨x1.trans z1, ⟨p1, q1, h1, k1, x2.trans z2⟩, fun c hc => (x3 c hc).trans ((z3 c hc).trans ?_)⟩
    rw [mJC_ca ha (by decide) (by decide) hc, mJC_ca hb (by decide) (by decide) hc]
    rfl
  · obtain ⟨z1, z2, z3⟩ := mJC_s (y := mJC (mJC v 180 0 a b p0 q0) 180 (0 + 1) a b p1 q1) (s := 0 + 1 + 1) (a := a) (b := b) (pa := p2) (pb := q2)
    rw [n30 _ (0 + 1) a 2 p1 q1 ha (by decide) (by decide), n30 _ (0 + 1) b 2 p1 q1 hb (by decide) (by decide), n30 v 0 a 2 p0 q0 ha (by decide) (by decide), n30 v 0 b 2 p0 q0 hb (by decide) (by decide)] at z1 z2
    refine ⟨z1, ⟨p2, q2, h2, k2, z2⟩, fun c hc => (z3 c hc).trans ?_⟩
    rw [mJC_ca ha (by decide) (by decide) hc, mJC_ca hb (by decide) (by decide) hc, mJC_ca ha (by decide) (by decide) hc, mJC_ca hb (by decide) (by decide) hc]
    rfl
theorem fnd_c {p q : Nat → Bool} : ∀ {d i : Nat}, (∀ j, i ≤ j → j < i + d → p j = q j) → fndB p d i = fndB q d i := by
  intro d
  induction d with
  | zero => intro i _; rfl
  | succ d ih =>
    intro i h
    show (if p i = true then nI i else fndB p d (i + 1)) = if q i = true then nI i else fndB q d (i + 1)
    rw [h i (Nat.le_refl _) (by omega), ih (fun j h1 h2 => h j (by omega) (by omega))]
theorem bI_inj {a b : Bool} (h : bI a = bI b) : a = b := by
  cases a <;> cases b <;> first | rfl | exact absurd h (by decide)
set_option maxRecDepth 100000 in
set_option maxHeartbeats 2500000 in
/-- model: tryJoin -/
theorem sX10_tryJoin {E : eN} (hE : eOk E) {f : aH} {t : Nat} {M : Nat} {y : mV} {a b m : Nat} {wa wb va vb : eV} {g : Nat → Int32} (hO : aNw y.1) (hwa : mE y a wa m) (hwb : mE y b wb m) (oka : enOk wa) (okb : enOk wb) (okva : enOk va) (okvb : enOk vb) (hda : eDs wa) (hcb : ∀ s, s < m → ∀ c, c < eCn wb s → eCa wb (s * 2 + c) = -1 ∨ ∃ n : Nat, n < eRo wb ∧ eCa wb (s * 2 + c) = nI n) (hm : m ≤ 3) (ha : a < 180) (hb : b < 180) : mT E mX10_tryJoin 0 0 [.ref M, .int (nI 180), .int (nI a), .int (nI b)] (mdS f M y) t (fun o f' t' => o = .inl (some (.int (bI (jFit wa wb && (jAl (eRch (eCopy va wa) wb) (eRch (eCopy vb wb) wa) g).1)))) ∧ t' = t ∧ ∃ y', f' = mdS f M y' ∧ tjF y y' ∧ ((jFit wa wb && (jAl (eRch (eCopy va wa) wb) (eRch (eCopy vb wb) wa) g).1) = true → mE y' 180 (jCaS (eRch (eCopy vb wb) wa) (jAl (eRch (eCopy va wa) wb) (eRch (eCopy vb wb) wa) g).2.2 (m - 0) 0 (jAl (eRch (eCopy va wa) wb) (eRch (eCopy vb wb) wa) g).2.1) m)) := by
  refine mT_of (n := 4) (lo := [some (.ref M), some (.int (nI 180)), some (.int (nI a)), some (.int (nI b)), none, none, none, none]) (by decide) (by exact Nat.le_of_ble_eq_true rfl) rfl rfl ?_
  have hra4 := oka.1
  have hrb4 := okb.1
  have hra1 := hwa.2.2.2.2.2.1
  have hrb1 := hwb.2.2.2.2.2.1
  have ha1 : ∀ r, r < eRo wa → rwA (mCopy y 180 a) a r (eRs wa r) (fun k => eLe wa (r * 24 + k)) := (mCopy_o (a := 180) (b := a) hwa oka hm (by omega)).2.2.2.2.2.2.1
  have hb1 : ∀ r, r < eRo wb → rwA (mCopy y 180 a) b r (eRs wb r) (fun k => eLe wb (r * 24 + k)) := (mCopy_o (a := 180) (b := a) hwb okb hm (by omega)).2.2.2.2.2.2.1
  have st5 : 1 < eRo wa → 1 < eRo wb → (jFit wa wb = true ↔ ((∀ q, q < eRo wa → eRs wa q + ((max (eRs wa 0) (eRs wb 0)) - eRs wa 0) ≤ 24) ∧ (∀ q, q < eRo wb → eRs wb q + ((max (eRs wa 0) (eRs wb 0)) - eRs wb 0) ≤ 24))) → ∀ (w W : Nat) (A' : Nat) (zz : Nat → Nat) (cc : Nat → Nat → Int32) (v : mV) (z6 z7 : Option Value), W = w → ((∀ q, q < eRo wa → eRs wa q + ((max (eRs wa 0) (eRs wb 0)) - eRs wa 0) ≤ 24) ∧ (∀ q, q < eRo wb → eRs wb q + ((max (eRs wa 0) (eRs wb 0)) - eRs wb 0) ≤ 24)) → tjS (mCopy y 180 a) v → A' ≤ 3 → v.1 24 180 = nI A' → (∀ o, o ≤ A' → rwA v 180 o (zz o) (cc o) ∧ zz o ≤ 26) → (jAl (eRch (eCopy va wa) wb) (eRch (eCopy vb wb) wa) g).1 = true → eRo (jAl (eRch (eCopy va wa) wb) (eRch (eCopy vb wb) wa) g).2.1 = A' + 1 → enOk (jAl (eRch (eCopy va wa) wb) (eRch (eCopy vb wb) wa) g).2.1 → (∀ o, o ≤ A' → eRs (jAl (eRch (eCopy va wa) wb) (eRch (eCopy vb wb) wa) g).2.1 o = zz o ∧ ∀ k, k < zz o → eLe (jAl (eRch (eCopy va wa) wb) (eRch (eCopy vb wb) wa) g).2.1 (o * 24 + k) = cc o k) → eHq wa (jAl (eRch (eCopy va wa) wb) (eRch (eCopy vb wb) wa) g).2.1 3 → (∀ q', 1 ≤ q' → q' < eRo wb → v.1 35 q' = (jAl (eRch (eCopy va wa) wb) (eRch (eCopy vb wb) wa) g).2.2 q') → V E mX10_tryJoin 0 0 (fun o f' t' => o = .inl (some (.int (bI (jFit wa wb && (jAl (eRch (eCopy va wa) wb) (eRch (eCopy vb wb) wa) g).1)))) ∧ t' = t ∧ ∃ y', f' = mdS f M y' ∧ tjF y y' ∧ ((jFit wa wb && (jAl (eRch (eCopy va wa) wb) (eRch (eCopy vb wb) wa) g).1) = true → mE y' 180 (jCaS (eRch (eCopy vb wb) wa) (jAl (eRch (eCopy va wa) wb) (eRch (eCopy vb wb) wa) g).2.2 (m - 0) 0 (jAl (eRch (eCopy va wa) wb) (eRch (eCopy vb wb) wa) g).2.1) m)) 321 [some (.ref M), some (.int (nI 180)), some (.int (nI a)), some (.int (nI b)), some (.int (nI w)), some (.int (nI 0)), z6, z7] [] (mdS f M v) t 0 0 := by
    intro hra hrb hfit w W A' zz cc v z6 z7 _ hft hv hA3 h24 hrow hja hro hok hrs hhd hnum
    have hv2 := jRow (va := vb) (w := wb) (u := wa) okvb okb (fun q hq => by rw [Nat.max_comm]; exact hft.2 q hq) (by omega)
    refine v_iload dX10_tryJoin_321 (by rfl) ?_
    refine v_iconst (v := nI 3) dX10_tryJoin_323 (by decide) ?_
    refine v_icmp_geN (tgt := 342) dX10_tryJoin_324 (by decide) (by omega) (by omega) (fun c324 => ?_) (fun c324 => ?_)
    · exact absurd c324 (by omega)
    · refine v_aload_n dX10_tryJoin_327 rfl (by rfl) ?_
      refine v_iload_n dX10_tryJoin_328 rfl (by rfl) ?_
      refine v_iload dX10_tryJoin_329 (by rfl) ?_
      refine v_iload_n dX10_tryJoin_331 rfl (by rfl) ?_
      refine v_iload_n dX10_tryJoin_332 rfl (by rfl) ?_
      refine w_callV hE dX10_tryJoin_333 kX10_335 mdS_M (by rfl) (by rfl) (sX10_joinCalls hE (j := 180) (a := a) (b := b) hv.2.2.2.2.2 (by decide) (by decide) (by omega) (by omega) (by omega) (by omega)) rfl (by decide) (by decide) (by exact Nat.le_of_ble_eq_true rfl) (by omega) (by omega) (fun v9 g9 u9 h9 => ?_) (fun _ _ _ h => by cases h.1)
      obtain ⟨hv9, hu9, p0, q0, a0, b0, hg9⟩ := h9
      replace hu9 := hu9.symm
      subst hu9
      subst hg9
      cases hv9
      refine v_iincN (y := 1) dX10_tryJoin_336 (by rfl) (by decide) (by decide) ?_
      refine v_goto (tgt := 321) dX10_tryJoin_339 (by decide) ?_
      refine v_iload dX10_tryJoin_321 (by rfl) ?_
      refine v_iconst (v := nI 3) dX10_tryJoin_323 (by decide) ?_
      refine v_icmp_geN (tgt := 342) dX10_tryJoin_324 (by decide) (by omega) (by omega) (fun c324 => ?_) (fun c324 => ?_)
      · exact absurd c324 (by omega)
      · refine v_aload_n dX10_tryJoin_327 rfl (by rfl) ?_
        refine v_iload_n dX10_tryJoin_328 rfl (by rfl) ?_
        refine v_iload dX10_tryJoin_329 (by rfl) ?_
        refine v_iload_n dX10_tryJoin_331 rfl (by rfl) ?_
        refine v_iload_n dX10_tryJoin_332 rfl (by rfl) ?_
        refine w_callV hE dX10_tryJoin_333 kX10_335 mdS_M (by rfl) (by rfl) (sX10_joinCalls hE (j := 180) (a := a) (b := b) (mJC_nw hv.2.2.2.2.2) (by decide) (by decide) (by omega) (by omega) (by omega) (by omega)) rfl (by decide) (by decide) (by exact Nat.le_of_ble_eq_true rfl) (by omega) (by omega) (fun v9 g9 u9 h9 => ?_) (fun _ _ _ h => by cases h.1)
        obtain ⟨hv9, hu9, p1, q1, a1, b1, hg9⟩ := h9
        replace hu9 := hu9.symm
        subst hu9
        subst hg9
        cases hv9
        refine v_iincN (y := 1) dX10_tryJoin_336 (by rfl) (by decide) (by decide) ?_
        refine v_goto (tgt := 321) dX10_tryJoin_339 (by decide) ?_
        refine v_iload dX10_tryJoin_321 (by rfl) ?_
        refine v_iconst (v := nI 3) dX10_tryJoin_323 (by decide) ?_
        refine v_icmp_geN (tgt := 342) dX10_tryJoin_324 (by decide) (by omega) (by omega) (fun c324 => ?_) (fun c324 => ?_)
        · exact absurd c324 (by omega)
        · refine v_aload_n dX10_tryJoin_327 rfl (by rfl) ?_
          refine v_iload_n dX10_tryJoin_328 rfl (by rfl) ?_
          refine v_iload dX10_tryJoin_329 (by rfl) ?_
          refine v_iload_n dX10_tryJoin_331 rfl (by rfl) ?_
          refine v_iload_n dX10_tryJoin_332 rfl (by rfl) ?_
          refine w_callV hE dX10_tryJoin_333 kX10_335 mdS_M (by rfl) (by rfl) (sX10_joinCalls hE (j := 180) (a := a) (b := b) (mJC_nw (mJC_nw hv.2.2.2.2.2)) (by decide) (by decide) (by omega) (by omega) (by omega) (by omega)) rfl (by decide) (by decide) (by exact Nat.le_of_ble_eq_true rfl) (by omega) (by omega) (fun v9 g9 u9 h9 => ?_) (fun _ _ _ h => by cases h.1)
          obtain ⟨hv9, hu9, p2, q2, a2, b2, hg9⟩ := h9
          replace hu9 := hu9.symm
          subst hu9
          subst hg9
          cases hv9
          refine v_iincN (y := 1) dX10_tryJoin_336 (by rfl) (by decide) (by decide) ?_
          refine v_goto (tgt := 321) dX10_tryJoin_339 (by decide) ?_
          refine v_iload dX10_tryJoin_321 (by rfl) ?_
          refine v_iconst (v := nI 3) dX10_tryJoin_323 (by decide) ?_
          refine v_icmp_geN (tgt := 342) dX10_tryJoin_324 (by decide) (by omega) (by omega) (fun c324 => ?_) (fun c324 => ?_)
          · refine v_iconst (v := nI 1) dX10_tryJoin_342 (by decide) ?_
            refine v_iret dX10_tryJoin_343 rfl (by first | rfl | exact nar_bI) ?_
            have hF : (jFit wa wb && (jAl (eRch (eCopy va wa) wb) (eRch (eCopy vb wb) wa) g).1) = true := by
              rw [hfit.mpr hft, Bool.true_and, hja]
            refine ⟨congrArg (fun x => (Sum.inl (some (Value.int x)) : aO)) (bI_t hF), rfl, _, rfl, tjF_j (tjF_j (tjF_j (tjS_F hO hv) (by decide)) (by decide)) (by decide), fun _ => ?_⟩
            have hc3 := jc3 (v := v) ha hb a0 b0 (by have := a1; rw [show (mJC v 180 0 a b p0 q0).1 31 (3 * a + (0 + 1)) = v.1 31 (3 * a + (0 + 1)) from updN (by omega)] at this; exact this) (by have := b1; rw [show (mJC v 180 0 a b p0 q0).1 31 (3 * b + (0 + 1)) = v.1 31 (3 * b + (0 + 1)) from updN (by omega)] at this; exact this) (by have := a2; rw [show (mJC (mJC v 180 0 a b p0 q0) 180 (0 + 1) a b p1 q1).1 31 (3 * a + (0 + 1 + 1)) = v.1 31 (3 * a + (0 + 1 + 1)) from (updN (by omega)).trans (updN (by omega))] at this; exact this) (by have := b2; rw [show (mJC (mJC v 180 0 a b p0 q0) 180 (0 + 1) a b p1 q1).1 31 (3 * b + (0 + 1 + 1)) = v.1 31 (3 * b + (0 + 1 + 1)) from (updN (by omega)).trans (updN (by omega))] at this; exact this)
            obtain ⟨n1, n2, n3⟩ := jCaS_f (w := (eRch (eCopy vb wb) wa)) (g := (jAl (eRch (eCopy va wa) wb) (eRch (eCopy vb wb) wa) g).2.2) hv2.1.2.2.1 (m - 0) 0 (jAl (eRch (eCopy va wa) wb) (eRch (eCopy vb wb) wa) g).2.1 hok.2.2.1
            have hva : mE v a wa m := tjS_E hv (mCopy_o hwa oka hm (by omega)) ha oka
            have hvb : mE v b wb m := tjS_E hv (mCopy_o hwb okb hm (by omega)) hb okb
            obtain ⟨e1, e2, e3, e4, -, -, -, e8, e9, -⟩ := mCopy_a (a := 180) hwa oka hm
            obtain ⟨h1, h2, h3, h4, h5, h6, h7⟩ := hhd
            obtain ⟨m1, m2, m3, m4, m5, m6, m7, m8, m9⟩ := n1
            have hvk := hv.2.1
            unfold mE
            rw [m1, m2, m3, m4, m5, m6, m7, m8, m9, h1, h2, h3, h5, h6, hro]
            refine ⟨(congrFun (hvk 20 (by decide) (by decide) (by decide) (by decide)) 180).trans e1, (congrFun (hvk 21 (by decide) (by decide) (by decide) (by decide)) 180).trans e2, (congrFun (hvk 23 (by decide) (by decide) (by decide) (by decide)) 180).trans e3, fun k hk => ?_, h24, by omega, fun q hq => ?_, (congrFun (hvk 27 (by decide) (by decide) (by decide) (by decide)) 180).trans e8, (congrFun (hvk 28 (by decide) (by decide) (by decide) (by decide)) 180).trans e9, fun s hs => ?_⟩
            · rw [h4 k hk, ← e4 k hk]
              exact congrFun (hvk 22 (by decide) (by decide) (by decide) (by decide)) _
            · obtain ⟨r1, r2⟩ := (hrow q (by omega)).1
              rw [(hrs q (by omega)).1]
              exact ⟨r1, fun k hk => (r2 k hk).trans ((hrs q (by omega)).2 k hk).symm⟩
            · obtain ⟨x1, ⟨p, q, x2, x3, x4⟩, x5⟩ := hc3 s (by omega)
              obtain ⟨y1, y2, y3⟩ := n2 s (by omega) (by omega)
              obtain ⟨c1, c2, c3⟩ := hva.2.2.2.2.2.2.2.2.2 s hs
              obtain ⟨d1, d2, d3⟩ := hvb.2.2.2.2.2.2.2.2.2 s hs
              obtain ⟨k1, k2, k3⟩ := h7 s (by omega)
              obtain ⟨l1, l2, l3⟩ := hv2.2.2.1.2.2.2.2.2.2 s (by omega)
              have q1 := oka.2.2.1 s
              have q2 := okb.2.2.1 s
              have ep : p = ePh wa s := bI_inj (x2.symm.trans c2)
              have eq : q = ePh wb s := bI_inj (x3.symm.trans d2)
              have hcv : ∀ c, eCall (jAl (eRch (eCopy va wa) wb) (eRch (eCopy vb wb) wa) g).2.1 s c = eCall wa s c := fun c => by
                unfold eCall
                rw [k1]
                by_cases e : c < eCn wa s
                · rw [if_pos e, if_pos e, k3 c e]
                · rw [if_neg e, if_neg e]
              have hcw : ∀ c, eCall (eRch (eCopy vb wb) wa) s c = eCall wb s c := fun c => by
                unfold eCall
                rw [l1]
                by_cases e : c < eCn wb s
                · rw [if_pos e, if_pos e, l3 c e]
                · rw [if_neg e, if_neg e]
              rw [k1, l1] at y1 y3
              rw [y1]
              refine ⟨?_, ?_, fun c hc => ?_⟩
              · rw [x1, c1, d1, jMx_n (by omega) (by omega)]
              · rw [x4, c1, d1, ep, eq, jPb_n q1 q2, y2]
                unfold jPh
                rw [k1, k2, l1, l2]
              · rw [x5 c (by omega), mCA_e hva oka hs (by omega), mCA_e hvb okb hs (by omega), y3 c hc, hcv, hcw]
                refine jcV_n (B := (eRo wb - 1)) (by have := okb.1; omega) (fun q' h1 h2 => hnum q' h1 (by omega)) ?_
                unfold eCall
                by_cases e : c < eCn wb s
                · rw [if_pos e]
                  rcases hcb s hs c e with z | ⟨n, z1, z2⟩
                  · exact Or.inl z
                  · exact Or.inr ⟨n, by omega, z2⟩
                · rw [if_neg e]
                  exact Or.inl rfl
          · exact absurd c324 (by omega)
  have st4 : 1 < eRo wa → 1 < eRo wb → (jFit wa wb = true ↔ ((∀ q, q < eRo wa → eRs wa q + ((max (eRs wa 0) (eRs wb 0)) - eRs wa 0) ≤ 24) ∧ (∀ q, q < eRo wb → eRs wb q + ((max (eRs wa 0) (eRs wb 0)) - eRs wb 0) ≤ 24))) → ∀ (w : Nat) (W0 : eV), ((w = a ∧ W0 = wa ∧ eRs wb 0 ≤ eRs wa 0) ∨ (w = b ∧ W0 = wb ∧ eRs wa 0 < eRs wb 0)) → ∀ (A' : Nat) (zz : Nat → Nat) (cc : Nat → Nat → Int32) (v : mV) (z6 z7 : Option Value), tjS (mCopy y 180 a) v → A' ≤ 3 → v.1 24 180 = nI A' → (∀ o, o ≤ A' → rwA v 180 o (zz o) (cc o) ∧ zz o ≤ 26) → (((∀ q, q < eRo wa → eRs wa q + ((max (eRs wa 0) (eRs wb 0)) - eRs wa 0) ≤ 24) ∧ (∀ q, q < eRo wb → eRs wb q + ((max (eRs wa 0) (eRs wb 0)) - eRs wb 0) ≤ 24)) → (∃ (vv : eV) (gg : Nat → Int32), (jAl (eRch (eCopy va wa) wb) (eRch (eCopy vb wb) wa) g) = jAlL (eRch (eCopy vb wb) wa) (eRo wb - (eRo wb)) (eRo wb) vv gg ∧ eRo vv = A' + 1 ∧ enOk vv ∧ (∀ o, o ≤ A' → eRs vv o = zz o ∧ ∀ k, k < zz o → eLe vv (o * 24 + k) = cc o k) ∧ eHq wa vv 3 ∧ eDs vv ∧ ∀ q', 1 ≤ q' → q' < (eRo wb) → v.1 35 q' = gg q')) → (¬ ((∀ q, q < eRo wa → eRs wa q + ((max (eRs wa 0) (eRs wb 0)) - eRs wa 0) ≤ 24) ∧ (∀ q, q < eRo wb → eRs wb q + ((max (eRs wa 0) (eRs wb 0)) - eRs wb 0) ≤ 24)) → ((∃ o, o ≤ A' ∧ 24 < zz o) ∨ ∃ q0, (eRo wb) ≤ q0 ∧ q0 ≤ (eRo wb - 1) ∧ 24 < xs wb W0 q0)) → ∀ (d o : Nat), o + d = A' + 1 → (∀ o', o' < o → zz o' ≤ 24) → V E mX10_tryJoin 0 0 (fun o f' t' => o = .inl (some (.int (bI (jFit wa wb && (jAl (eRch (eCopy va wa) wb) (eRch (eCopy vb wb) wa) g).1)))) ∧ t' = t ∧ ∃ y', f' = mdS f M y' ∧ tjF y y' ∧ ((jFit wa wb && (jAl (eRch (eCopy va wa) wb) (eRch (eCopy vb wb) wa) g).1) = true → mE y' 180 (jCaS (eRch (eCopy vb wb) wa) (jAl (eRch (eCopy va wa) wb) (eRch (eCopy vb wb) wa) g).2.2 (m - 0) 0 (jAl (eRch (eCopy va wa) wb) (eRch (eCopy vb wb) wa) g).2.1) m)) 283 [some (.ref M), some (.int (nI 180)), some (.int (nI a)), some (.int (nI b)), some (.int (nI w)), some (.int (nI o)), z6, z7] [] (mdS f M v) t 0 0 := by
    intro hra hrb hfit w W0 hW A' zz cc v z6 z7 hv hA3 h24 hrow hI1 hI2 d
    induction d using Nat.strongRecOn with
    | _ d ih =>
    intro o hd hz
    refine v_iload dX10_tryJoin_283 (by rfl) ?_
    refine v_aload_n dX10_tryJoin_285 rfl (by rfl) ?_
    refine v_getf hE dX10_tryJoin_286 fX10_84 mdS_M (by rfl) ?_
    refine v_iload_n dX10_tryJoin_289 rfl (by rfl) ?_
    refine m_iald hE (k := 24) dX10_tryJoin_290 (by decide) (by decide) rfl (show _ < 240 by omega) (by omega) ?_
    refine v_eqi (y := nI A') h24 ?_
    refine v_icmp_gtN (tgt := 318) dX10_tryJoin_291 (by decide) (by omega) (by omega) (fun c291 => ?_) (fun c291 => ?_)
    · refine v_iconst (v := nI 0) dX10_tryJoin_318 (by decide) ?_
      refine v_istore dX10_tryJoin_319 (by decide) ?_
      have hft : ((∀ q, q < eRo wa → eRs wa q + ((max (eRs wa 0) (eRs wb 0)) - eRs wa 0) ≤ 24) ∧ (∀ q, q < eRo wb → eRs wb q + ((max (eRs wa 0) (eRs wb 0)) - eRs wb 0) ≤ 24)) := Classical.byContradiction (fun hnf => by
        rcases hI2 hnf with ⟨o', o1, o2⟩ | ⟨q0, o1, o2, o3⟩
        · have := hz o' (by omega)
          omega
        · omega)
      obtain ⟨vv, gg, j1, j2, j3, j4, j5, j6, j7⟩ := hI1 hft
      rw [Nat.sub_self] at j1
      have j1 : (jAl (eRch (eCopy va wa) wb) (eRch (eCopy vb wb) wa) g) = (true, vv, gg) := j1
      exact st5 hra hrb hfit w w A' zz cc v _ _ rfl hft hv hA3 h24 hrow (by rw [j1]) (by rw [j1]; exact j2) (by rw [j1]; exact j3) (by rw [j1]; exact j4) (by rw [j1]; exact j5) (by rw [j1]; exact j7)
    · have hz26 := (hrow o (by omega)).2
      refine v_aload_n dX10_tryJoin_294 rfl (by rfl) ?_
      refine v_getf hE dX10_tryJoin_295 fX10_90 mdS_M (by rfl) ?_
      refine v_iconst (v := nI 4) dX10_tryJoin_298 (by decide) ?_
      refine v_iload_n dX10_tryJoin_299 rfl (by rfl) ?_
      refine v_imulN dX10_tryJoin_300 ?_
      refine v_iload dX10_tryJoin_301 (by rfl) ?_
      refine v_iaddN dX10_tryJoin_303 ?_
      refine m_iald hE (k := 26) dX10_tryJoin_304 (by decide) (by decide) rfl (show _ < 960 by omega) (by omega) ?_
      refine v_eqi (y := nI (zz o)) (hrow o (by omega)).1.1 ?_
      refine v_bipush (v := nI 24) dX10_tryJoin_305 (by decide) ?_
      refine v_icmp_leN (tgt := 312) dX10_tryJoin_307 (by decide) (by omega) (by omega) (fun c307 => ?_) (fun c307 => ?_)
      · refine v_iincN (y := 1) dX10_tryJoin_312 (by rfl) (by decide) (by decide) ?_
        refine v_goto (tgt := 283) dX10_tryJoin_315 (by decide) ?_
        exact ih (d - 1) (by omega) (o + 1) (by omega) (fun o' h' => by
          by_cases e : o' = o
          · rw [e]; omega
          · exact hz o' (by omega))
      · refine v_iconst (v := nI 0) dX10_tryJoin_310 (by decide) ?_
        refine v_iret dX10_tryJoin_311 rfl (by first | rfl | exact nar_bI) ?_
        have hnf : ¬ ((∀ q, q < eRo wa → eRs wa q + ((max (eRs wa 0) (eRs wb 0)) - eRs wa 0) ≤ 24) ∧ (∀ q, q < eRo wb → eRs wb q + ((max (eRs wa 0) (eRs wb 0)) - eRs wb 0) ≤ 24)) := fun hft => by
          obtain ⟨vv, gg, j1, j2, j3, j4, -⟩ := hI1 hft
          have := j3.2.1 o
          rw [(j4 o (by omega)).1] at this
          omega
        have hF : (jFit wa wb && (jAl (eRch (eCopy va wa) wb) (eRch (eCopy vb wb) wa) g).1) = false := by
          rw [Bool.eq_false_iff.mpr (fun q => hnf (hfit.mp q)), Bool.false_and]
        refine ⟨congrArg (fun x => (Sum.inl (some (Value.int x)) : aO)) (bI_f hF), rfl, _, rfl, tjS_F hO hv, fun q => ?_⟩
        rw [hF] at q
        exact Bool.noConfusion q
  have st3 : ∀ (w q A' : Nat) (zz : Nat → Nat) (cc : Nat → Nat → Int32) (v : mV), 1 ≤ q → q ≤ 3 → A' ≤ 3 → v.1 24 180 = nI A' → (∀ o, o ≤ A' → rwA v 180 o (zz o) (cc o) ∧ zz o ≤ 26) → (∀ z7 : Option Value, V E mX10_tryJoin 0 0 (fun o f' t' => o = .inl (some (.int (bI (jFit wa wb && (jAl (eRch (eCopy va wa) wb) (eRch (eCopy vb wb) wa) g).1)))) ∧ t' = t ∧ ∃ y', f' = mdS f M y' ∧ tjF y y' ∧ ((jFit wa wb && (jAl (eRch (eCopy va wa) wb) (eRch (eCopy vb wb) wa) g).1) = true → mE y' 180 (jCaS (eRch (eCopy vb wb) wa) (jAl (eRch (eCopy va wa) wb) (eRch (eCopy vb wb) wa) g).2.2 (m - 0) 0 (jAl (eRch (eCopy va wa) wb) (eRch (eCopy vb wb) wa) g).2.1) m)) 212 [some (.ref M), some (.int (nI 180)), some (.int (nI a)), some (.int (nI b)), some (.int (nI w)), some (.int (nI q)), some (.int (nI 239)), z7] [] (mdS f M (va_up v.1 35 (upd (v.1 35) q (nI (lm (fun o => mSR v (4 * 180 + o) (4 * 239 + 1) (zz o)) (A' + 1 - 1)))), v.2)) t 0 0) → ∀ (d o : Nat), o + d = A' + 1 → 1 ≤ o → V E mX10_tryJoin 0 0 (fun o f' t' => o = .inl (some (.int (bI (jFit wa wb && (jAl (eRch (eCopy va wa) wb) (eRch (eCopy vb wb) wa) g).1)))) ∧ t' = t ∧ ∃ y', f' = mdS f M y' ∧ tjF y y' ∧ ((jFit wa wb && (jAl (eRch (eCopy va wa) wb) (eRch (eCopy vb wb) wa) g).1) = true → mE y' 180 (jCaS (eRch (eCopy vb wb) wa) (jAl (eRch (eCopy va wa) wb) (eRch (eCopy vb wb) wa) g).2.2 (m - 0) 0 (jAl (eRch (eCopy va wa) wb) (eRch (eCopy vb wb) wa) g).2.1) m)) 163 [some (.ref M), some (.int (nI 180)), some (.int (nI a)), some (.int (nI b)), some (.int (nI w)), some (.int (nI q)), some (.int (nI 239)), some (.int (nI o))] [] (mdS f M (va_up v.1 35 (upd (v.1 35) q (nI (lm (fun o => mSR v (4 * 180 + o) (4 * 239 + 1) (zz o)) (o - 1)))), v.2)) t 0 0 := by
    intro w q A' zz cc v hq1 hq3 hA3 h24 hrow hc d
    induction d using Nat.strongRecOn with
    | _ d ih =>
    intro o hd ho1
    refine v_iload dX10_tryJoin_163 (by rfl) ?_
    refine v_aload_n dX10_tryJoin_165 rfl (by rfl) ?_
    refine v_getf hE dX10_tryJoin_166 fX10_84 mdS_M (by rfl) ?_
    refine v_iload_n dX10_tryJoin_169 rfl (by rfl) ?_
    refine m_iald hE (k := 24) dX10_tryJoin_170 (by decide) (by decide) rfl (show _ < 240 by omega) (by omega) ?_
    refine v_eqi (y := nI A') h24 ?_
    refine v_icmp_gtN (tgt := 212) dX10_tryJoin_171 (by decide) (by omega) (by omega) (fun c171 => ?_) (fun c171 => ?_)
    · have e9 : o = A' + 1 := by omega
      subst e9
      exact hc _
    · refine v_aload_n dX10_tryJoin_174 rfl (by rfl) ?_
      refine v_getf hE dX10_tryJoin_175 fX10_118 mdS_M (by rfl) ?_
      refine v_iload dX10_tryJoin_178 (by rfl) ?_
      refine v_aload_n dX10_tryJoin_180 rfl (by rfl) ?_
      refine v_iload_n dX10_tryJoin_181 rfl (by rfl) ?_
      refine v_iload dX10_tryJoin_182 (by rfl) ?_
      refine v_iload dX10_tryJoin_184 (by rfl) ?_
      refine v_iconst (v := nI 1) dX10_tryJoin_186 (by decide) ?_
      refine w_callV hE dX10_tryJoin_187 kX10_258 mdS_M (by rfl) (by rfl) (sX10_sameRow hE (y := (va_up v.1 35 (upd (v.1 35) q (nI (lm (fun o => mSR v (4 * 180 + o) (4 * 239 + 1) (zz o)) (o - 1)))), v.2)) (a := 180) (r := o) (b := 239) (q := 1) (hrow o (by omega)).1.1 (hrow o (by omega)).2 (by decide) (by omega) (by decide) (by decide)) rfl (by decide) (by decide) (by exact Nat.le_of_ble_eq_true rfl) (by omega) (by omega) (fun v9 g9 u9 h9 => ?_) (fun _ _ _ h => by cases h.1)
      obtain ⟨hv9, hu9, hg9⟩ := h9
      replace hu9 := hu9.symm
      subst hu9
      subst hg9
      cases hv9
      refine v_eqi (y := bI (mSR v (4 * 180 + o) (4 * 239 + 1) (zz o))) rfl ?_
      refine v_if_eqB (tgt := 198) dX10_tryJoin_190 (by decide) (fun c190 => ?_) (fun c190 => ?_)
      · refine v_aload_n dX10_tryJoin_198 rfl (by rfl) ?_
        refine v_getf hE dX10_tryJoin_199 fX10_118 mdS_M (by rfl) ?_
        refine v_iload dX10_tryJoin_202 (by rfl) ?_
        refine m_iald hE (k := 35) dX10_tryJoin_204 (by decide) (by decide) rfl (show _ < 4 by omega) (by omega) ?_
        refine v_eqi (y := nI (lm (fun o => mSR v (4 * 180 + o) (4 * 239 + 1) (zz o)) o)) (by
          have e8 : lm (fun o => mSR v (4 * 180 + o) (4 * 239 + 1) (zz o)) o = lm (fun o => mSR v (4 * 180 + o) (4 * 239 + 1) (zz o)) (o - 1) := by
            obtain ⟨o9, rfl⟩ : ∃ o9, o = o9 + 1 := ⟨o - 1, by omega⟩
            exact if_neg (by show ¬ mSR v (4 * 180 + (o9 + 1)) (4 * 239 + 1) (zz (o9 + 1)) = true; rw [c190]; decide)
          rw [e8]
          exact updS) ?_
        refine m_iast hE (k := 35) dX10_tryJoin_205 (by decide) (by decide) rfl (show _ < 4 by omega) (by omega) ?_
        refine v_iincN (y := 1) dX10_tryJoin_206 (by rfl) (by decide) (by decide) ?_
        refine v_goto (tgt := 163) dX10_tryJoin_209 (by decide) ?_
        refine v_hp (show _ = mdS f M (va_up v.1 35 (upd (v.1 35) q (nI (lm (fun o => mSR v (4 * 180 + o) (4 * 239 + 1) (zz o)) (o + 1 - 1)))), v.2) from by
          dsimp only
          rw [va_up_self, va_up_up]
          refine congrArg (mdS f M) (Prod.ext (congrArg (va_up v.1 35) ?_) rfl)
          funext i
          unfold upd
          split <;> rfl) ?_
        exact ih (d - 1) (by omega) (o + 1) (by omega) (by omega)
      · refine v_iload dX10_tryJoin_193 (by rfl) ?_
        refine v_eqi (y := nI (lm (fun o => mSR v (4 * 180 + o) (4 * 239 + 1) (zz o)) o)) (by rw [show lm (fun o => mSR v (4 * 180 + o) (4 * 239 + 1) (zz o)) o = o from by
          obtain ⟨o9, rfl⟩ : ∃ o9, o = o9 + 1 := ⟨o - 1, by omega⟩
          exact if_pos c190]) ?_
        refine v_goto (tgt := 205) dX10_tryJoin_195 (by decide) ?_
        refine m_iast hE (k := 35) dX10_tryJoin_205 (by decide) (by decide) rfl (show _ < 4 by omega) (by omega) ?_
        refine v_iincN (y := 1) dX10_tryJoin_206 (by rfl) (by decide) (by decide) ?_
        refine v_goto (tgt := 163) dX10_tryJoin_209 (by decide) ?_
        refine v_hp (show _ = mdS f M (va_up v.1 35 (upd (v.1 35) q (nI (lm (fun o => mSR v (4 * 180 + o) (4 * 239 + 1) (zz o)) (o + 1 - 1)))), v.2) from by
          dsimp only
          rw [va_up_self, va_up_up]
          refine congrArg (mdS f M) (Prod.ext (congrArg (va_up v.1 35) ?_) rfl)
          funext i
          unfold upd
          split <;> rfl) ?_
        exact ih (d - 1) (by omega) (o + 1) (by omega) (by omega)
  have st2 : 1 < eRo wa → 1 < eRo wb → (jFit wa wb = true ↔ ((∀ q, q < eRo wa → eRs wa q + ((max (eRs wa 0) (eRs wb 0)) - eRs wa 0) ≤ 24) ∧ (∀ q, q < eRo wb → eRs wb q + ((max (eRs wa 0) (eRs wb 0)) - eRs wb 0) ≤ 24))) → ∀ (w : Nat) (W0 : eV), ((w = a ∧ W0 = wa ∧ eRs wb 0 ≤ eRs wa 0) ∨ (w = b ∧ W0 = wb ∧ eRs wa 0 < eRs wb 0)) → ∀ (d q A' : Nat) (zz : Nat → Nat) (cc : Nat → Nat → Int32) (v : mV) (z6 z7 : Option Value), q + d = eRo wb → 1 ≤ q → tjS (mCopy y 180 a) v → A' ≤ 3 → 1 ≤ A' → v.1 24 180 = nI A' → (∀ o, o ≤ A' → rwA v 180 o (zz o) (cc o) ∧ zz o ≤ 26) → (((∀ q, q < eRo wa → eRs wa q + ((max (eRs wa 0) (eRs wb 0)) - eRs wa 0) ≤ 24) ∧ (∀ q, q < eRo wb → eRs wb q + ((max (eRs wa 0) (eRs wb 0)) - eRs wb 0) ≤ 24)) → (∃ (vv : eV) (gg : Nat → Int32), (jAl (eRch (eCopy va wa) wb) (eRch (eCopy vb wb) wa) g) = jAlL (eRch (eCopy vb wb) wa) (eRo wb - q) q vv gg ∧ eRo vv = A' + 1 ∧ enOk vv ∧ (∀ o, o ≤ A' → eRs vv o = zz o ∧ ∀ k, k < zz o → eLe vv (o * 24 + k) = cc o k) ∧ eHq wa vv 3 ∧ eDs vv ∧ ∀ q', 1 ≤ q' → q' < q → v.1 35 q' = gg q')) → (¬ ((∀ q, q < eRo wa → eRs wa q + ((max (eRs wa 0) (eRs wb 0)) - eRs wa 0) ≤ 24) ∧ (∀ q, q < eRo wb → eRs wb q + ((max (eRs wa 0) (eRs wb 0)) - eRs wb 0) ≤ 24)) → ((∃ o, o ≤ A' ∧ 24 < zz o) ∨ ∃ q0, q ≤ q0 ∧ q0 ≤ (eRo wb - 1) ∧ 24 < xs wb W0 q0)) → V E mX10_tryJoin 0 0 (fun o f' t' => o = .inl (some (.int (bI (jFit wa wb && (jAl (eRch (eCopy va wa) wb) (eRch (eCopy vb wb) wa) g).1)))) ∧ t' = t ∧ ∃ y', f' = mdS f M y' ∧ tjF y y' ∧ ((jFit wa wb && (jAl (eRch (eCopy va wa) wb) (eRch (eCopy vb wb) wa) g).1) = true → mE y' 180 (jCaS (eRch (eCopy vb wb) wa) (jAl (eRch (eCopy va wa) wb) (eRch (eCopy vb wb) wa) g).2.2 (m - 0) 0 (jAl (eRch (eCopy va wa) wb) (eRch (eCopy vb wb) wa) g).2.1) m)) 124 [some (.ref M), some (.int (nI 180)), some (.int (nI a)), some (.int (nI b)), some (.int (nI w)), some (.int (nI q)), z6, z7] [] (mdS f M v) t 0 0 := by
    intro hra hrb hfit w W0 hW d
    have hT : eRs W0 0 = (max (eRs wa 0) (eRs wb 0)) := by
      rcases hW with ⟨-, e, h⟩ | ⟨-, e, h⟩ <;> subst e <;> omega
    have hw180 : w < 180 := by
      rcases hW with ⟨e, -, -⟩ | ⟨e, -, -⟩ <;> omega
    have hu1 : rwA (mCopy y 180 a) w 0 (eRs W0 0) (fun k => eLe W0 (0 * 24 + k)) := by
      rcases hW with ⟨e1, e2, -⟩ | ⟨e1, e2, -⟩ <;> subst e1 <;> subst e2
      · exact ha1 0 (by omega)
      · exact hb1 0 (by omega)
    have hT24 : eRs W0 0 ≤ 24 := by
      have := oka.2.1 0
      have := okb.2.1 0
      omega
    induction d using Nat.strongRecOn with
    | _ d ih =>
    intro q A' zz cc v z6 z7 hd hq1 hv hA3 hAA h24 hrow hI1 hI2
    have hbB : v.1 24 b = nI (eRo wb - 1) := (hv.2.2.1 b hb).trans ((mCopy_o (a := 180) (b := a) hwb okb hm (by omega)).2.2.2.2.1)
    have hro4 := okb.1
    refine v_iload dX10_tryJoin_124 (by rfl) ?_
    refine v_aload_n dX10_tryJoin_126 rfl (by rfl) ?_
    refine v_getf hE dX10_tryJoin_127 fX10_84 mdS_M (by rfl) ?_
    refine v_iload_n dX10_tryJoin_130 rfl (by rfl) ?_
    refine m_iald hE (k := 24) dX10_tryJoin_131 (by decide) (by decide) rfl (show _ < 240 by omega) (by omega) ?_
    refine v_eqi (y := nI (eRo wb - 1)) hbB ?_
    refine v_icmp_gtN (tgt := 280) dX10_tryJoin_132 (by decide) (by omega) (by omega) (fun c132 => ?_) (fun c132 => ?_)
    · refine v_iconst (v := nI 0) dX10_tryJoin_280 (by decide) ?_
      refine v_istore dX10_tryJoin_281 (by decide) ?_
      have e9 : q = eRo wb := by omega
      subst e9
      exact st4 hra hrb hfit w W0 hW A' zz cc v z6 z7 hv hA3 h24 hrow hI1 hI2 (A' + 1) 0 (by omega) (fun o' h' => absurd h' (Nat.not_lt_zero _))
    · have hsq := okb.2.1 q
      have hs0 := okb.2.1 0
      refine v_sipush (v := nI 239) dX10_tryJoin_135 (by decide) ?_
      refine v_istore dX10_tryJoin_138 (by decide) ?_
      refine v_aload_n dX10_tryJoin_140 rfl (by rfl) ?_
      refine v_iload dX10_tryJoin_141 (by rfl) ?_
      refine v_iconst (v := nI 1) dX10_tryJoin_143 (by decide) ?_
      refine v_iload_n dX10_tryJoin_144 rfl (by rfl) ?_
      refine v_iload dX10_tryJoin_145 (by rfl) ?_
      refine v_iload dX10_tryJoin_147 (by rfl) ?_
      refine w_callV hE dX10_tryJoin_149 kX10_331 mdS_M (by rfl) (by rfl) (sX10_longer hE (y := v) (a := 239) (q := 1) (b := b) (p := q) (w := w) (n := eRs wb q) (k0 := eRs wb 0) (kw := eRs W0 0) hv.2.2.2.2.2 (tjS_rw hv (hb1 q (by omega)) hb (by omega) (by omega)).1 (by omega) (tjS_rw hv (hb1 0 (by omega)) hb (by omega) (by omega)).1 (by omega) (tjS_rw hv hu1 hw180 (by omega) (by omega)).1 (by omega) (by omega) (by omega) (by omega) (by omega) (by omega) (by omega) (by omega)) rfl (by decide) (by decide) (by exact Nat.le_of_ble_eq_true rfl) (by omega) (by omega) (fun v9 g9 u9 h9 => ?_) (fun _ _ _ h => by cases h.1)
      obtain ⟨hv9, hu9, hg9⟩ := h9
      replace hu9 := hu9.symm
      subst hu9
      subst hg9
      cases hv9
      refine v_aload_n dX10_tryJoin_152 rfl (by rfl) ?_
      refine v_getf hE dX10_tryJoin_153 fX10_118 mdS_M (by rfl) ?_
      refine v_iload dX10_tryJoin_156 (by rfl) ?_
      refine v_iconst (v := nI 0) dX10_tryJoin_158 (by decide) ?_
      refine m_iast hE (k := 35) dX10_tryJoin_159 (by decide) (by decide) rfl (show _ < 4 by omega) (by omega) ?_
      refine v_iconst (v := nI 1) dX10_tryJoin_160 (by decide) ?_
      refine v_istore dX10_tryJoin_161 (by decide) ?_
      have hvS : tjS (mCopy y 180 a) (mLg v 239 1 b q w (eRs wb q) (eRs wb 0) (eRs W0 0)) := tjS_lg hv (by decide) (by omega)
      have hrowS : (∀ o, o ≤ A' → rwA (mLg v 239 1 b q w (eRs wb q) (eRs wb 0) (eRs W0 0)) 180 o (zz o) (cc o) ∧ zz o ≤ 26) := fun o ho => ⟨lg_oth (hrow o ho).1 (by omega) (hrow o ho).2 (by omega), (hrow o ho).2⟩
      have hsp : rwA (mLg v 239 1 b q w (eRs wb q) (eRs wb 0) (eRs W0 0)) 239 1 (xs wb W0 q) (xl wb W0 q) := lg_row (fun r hr => tjS_rw hv (hb1 r hr) hb (by have := okb.1; omega) (by have := okb.2.1 r; omega)) (tjS_rw hv hu1 hw180 (by omega) (by omega)) (by omega) (by omega) (by omega) (by decide) (by omega) okb.2.1 hT24
      have hs26 := xs_26 (W := W0) hsq
      obtain ⟨lm1, lm2, lm3⟩ := lm_le (p := (fun o => mSR (mLg v 239 1 b q w (eRs wb q) (eRs wb 0) (eRs W0 0)) (4 * 180 + o) (4 * 239 + 1) (zz o))) A'
      refine v_hp (show _ = mdS f M (va_up (mLg v 239 1 b q w (eRs wb q) (eRs wb 0) (eRs W0 0)).1 35 (upd ((mLg v 239 1 b q w (eRs wb q) (eRs wb 0) (eRs W0 0)).1 35) q (nI (lm (fun o => mSR (mLg v 239 1 b q w (eRs wb q) (eRs wb 0) (eRs W0 0)) (4 * 180 + o) (4 * 239 + 1) (zz o)) (1 - 1)))), (mLg v 239 1 b q w (eRs wb q) (eRs wb 0) (eRs W0 0)).2) from rfl) ?_
      refine st3 w q A' zz cc (mLg v 239 1 b q w (eRs wb q) (eRs wb 0) (eRs W0 0)) (by omega) (by omega) hA3 h24 hrowS (fun z7 => ?_) A' 1 (by omega) (Nat.le_refl _)
      have hV2r : ∀ (hft : ((∀ q, q < eRo wa → eRs wa q + ((max (eRs wa 0) (eRs wb 0)) - eRs wa 0) ≤ 24) ∧ (∀ q, q < eRo wb → eRs wb q + ((max (eRs wa 0) (eRs wb 0)) - eRs wb 0) ≤ 24))) (k : Nat), k < xs wb W0 q → eRs (eRch (eCopy vb wb) wa) q = xs wb W0 q ∧ eLe (eRch (eCopy vb wb) wa) (q * 24 + k) = xl wb W0 q k := fun hft k hk => by
        have hv2 := jRow (va := vb) (w := wb) (u := wa) okvb okb (fun q hq => by rw [Nat.max_comm]; exact hft.2 q hq) (by omega)
        have hx := xs_fit (w := wb) (u := wa) (W := W0) (q := q) (by rw [Nat.max_comm]; exact hft.2 q (by omega)) (by rw [hT, Nat.max_comm])
        obtain ⟨c1, c2⟩ := hv2.2.2.2 q (by omega)
        refine ⟨by rw [c1, hx], ?_⟩
        rw [c2 k (by rw [c1]; omega)]
        unfold xl
        by_cases e : k < eRs wb q
        · rw [if_pos e, if_pos e]
        · rw [if_neg e, if_neg e]
          have hW0 : W0 = wa := by
            rcases hW with ⟨-, e2, -⟩ | ⟨-, e2, h2⟩
            · exact e2
            · exfalso
              omega
          rw [hW0, eLet_in (by omega) (oka.2.1 0), Nat.zero_mul, Nat.zero_add]
      have hmat : ∀ o, o ≤ A' → ((fun o => mSR (mLg v 239 1 b q w (eRs wb q) (eRs wb 0) (eRs W0 0)) (4 * 180 + o) (4 * 239 + 1) (zz o)) o = true ↔ (zz o = xs wb W0 q ∧ ∀ k, k < zz o → cc o k = xl wb W0 q k)) := fun o ho => mSR_raw (hrowS o ho).1 hsp (hrowS o ho).2 hs26
      have halt : ∀ (hft : ((∀ q, q < eRo wa → eRs wa q + ((max (eRs wa 0) (eRs wb 0)) - eRs wa 0) ≤ 24) ∧ (∀ q, q < eRo wb → eRs wb q + ((max (eRs wa 0) (eRs wb 0)) - eRs wb 0) ≤ 24))) (vv : eV), eRo vv = A' + 1 → enOk vv → (∀ o, o ≤ A' → eRs vv o = zz o ∧ ∀ k, k < zz o → eLe vv (o * 24 + k) = cc o k) → eDs vv → eAltLike vv (eRch (eCopy vb wb) wa) q = if (lm (fun o => mSR (mLg v 239 1 b q w (eRs wb q) (eRs wb 0) (eRs W0 0)) (4 * 180 + o) (4 * 239 + 1) (zz o)) A') = 0 then -1 else nI (lm (fun o => mSR (mLg v 239 1 b q w (eRs wb q) (eRs wb 0) (eRs W0 0)) (4 * 180 + o) (4 * 239 + 1) (zz o)) A') := fun hft vv k1 k2 k3 k4 => by
        have hv2 := jRow (va := vb) (w := wb) (u := wa) okvb okb (fun q hq => by rw [Nat.max_comm]; exact hft.2 q hq) (by omega)
        have hx := xs_fit (w := wb) (u := wa) (W := W0) (q := q) (by rw [Nat.max_comm]; exact hft.2 q (by omega)) (by rw [hT, Nat.max_comm])
        have hp : ∀ o, 1 ≤ o → o ≤ A' → eRowIs vv o (eRch (eCopy vb wb) wa) q = (fun o => mSR (mLg v 239 1 b q w (eRs wb q) (eRs wb 0) (eRs W0 0)) (4 * 180 + o) (4 * 239 + 1) (zz o)) o := fun o h1 h2 => bool_eq (by
          rw [eRowIs_raw (k2.2.1 o) (hv2.1.2.1 q), hmat o h2, (k3 o h2).1, (hv2.2.2.2 q (by omega)).1, ← hx]
          constructor
          · rintro ⟨z1, z2⟩
            refine ⟨z1, fun k hk => ?_⟩
            rw [← (k3 o h2).2 k hk, z2 k hk]
            exact (hV2r hft k (by omega)).2
          · rintro ⟨z1, z2⟩
            refine ⟨z1, fun k hk => ?_⟩
            rw [(k3 o h2).2 k hk, z2 k hk]
            exact (hV2r hft k (by omega)).2.symm)
        unfold eAltLike
        rw [k1, show A' + 1 - 1 = A' by omega, fnd_c (fun o h1 h2 => hp o h1 (by omega))]
        refine fnd_lm hA3 (fun x z h1 h2 h3 h4 h5 h6 => ?_)
        obtain ⟨x1, x2⟩ := (hmat x h2).mp h5
        obtain ⟨z1, z2⟩ := (hmat z h4).mp h6
        refine Classical.byContradiction (fun hne => ?_)
        rcases Nat.lt_or_gt_of_ne hne with hlt | hlt
        · exact k4 x z h1 hlt (by omega) (by rw [(k3 x h2).1, (k3 z h4).1]; omega) (fun k hk => by
            rw [(k3 x h2).1] at hk
            rw [(k3 x h2).2 k hk, (k3 z h4).2 k (by omega), x2 k hk, z2 k (by omega)])
        · exact k4 z x h3 hlt (by omega) (by rw [(k3 x h2).1, (k3 z h4).1]; omega) (fun k hk => by
            rw [(k3 z h4).1] at hk
            rw [(k3 x h2).2 k (by omega), (k3 z h4).2 k hk, x2 k (by omega), z2 k hk])
      have hstp : ∀ vv gg, jAlL (eRch (eCopy vb wb) wa) (eRo wb - q) q vv gg = if eAltLike vv (eRch (eCopy vb wb) wa) q = -1 then (if eRo vv = 4 then (false, vv, gg) else jAlL (eRch (eCopy vb wb) wa) (eRo wb - (q + 1)) (q + 1) (wRo (eCopyR vv (eRo vv) (eRch (eCopy vb wb) wa) q) (eRo vv + 1)) (upd gg q (nI (eRo vv)))) else jAlL (eRch (eCopy vb wb) wa) (eRo wb - (q + 1)) (q + 1) vv (upd gg q (eAltLike vv (eRch (eCopy vb wb) wa) q)) := fun vv gg => by
        rw [show eRo wb - q = (eRo wb - (q + 1)) + 1 by omega]
        rfl
      rw [show A' + 1 - 1 = A' by omega]
      refine v_aload_n dX10_tryJoin_212 rfl (by rfl) ?_
      refine v_getf hE dX10_tryJoin_213 fX10_118 mdS_M (by rfl) ?_
      refine v_iload dX10_tryJoin_216 (by rfl) ?_
      refine m_iald hE (k := 35) dX10_tryJoin_218 (by decide) (by decide) rfl (show _ < 4 by omega) (by omega) ?_
      refine v_eqi (y := nI (lm (fun o => mSR (mLg v 239 1 b q w (eRs wb q) (eRs wb 0) (eRs W0 0)) (4 * 180 + o) (4 * 239 + 1) (zz o)) A')) updS ?_
      refine v_if_neN (tgt := 274) dX10_tryJoin_219 (by decide) (by omega) (fun c219 => ?_) (fun c219 => ?_)
      · refine v_iincN (y := 1) dX10_tryJoin_274 (by rfl) (by decide) (by decide) ?_
        refine v_goto (tgt := 124) dX10_tryJoin_277 (by decide) ?_
        refine ih (d - 1) (by omega) (q + 1) A' zz cc (va_up (mLg v 239 1 b q w (eRs wb q) (eRs wb 0) (eRs W0 0)).1 35 (upd ((mLg v 239 1 b q w (eRs wb q) (eRs wb 0) (eRs W0 0)).1 35) q (nI (lm (fun o => mSR (mLg v 239 1 b q w (eRs wb q) (eRs wb 0) (eRs W0 0)) (4 * 180 + o) (4 * 239 + 1) (zz o)) A'))), (mLg v 239 1 b q w (eRs wb q) (eRs wb 0) (eRs W0 0)).2) _ _ (by omega) (by omega) (tjS_35 hvS (nI_le (by omega) (by decide))) hA3 hAA h24 hrowS (fun hft => ?_) (fun hnf => ?_)
        · obtain ⟨vv, gg, j1, j2, j3, j4, j5, j6, j7⟩ := hI1 hft
          have e8 := halt hft vv j2 j3 j4 j6
          rw [if_neg (by omega)] at e8
          refine ⟨vv, upd gg q (nI (lm (fun o => mSR (mLg v 239 1 b q w (eRs wb q) (eRs wb 0) (eRs W0 0)) (4 * 180 + o) (4 * 239 + 1) (zz o)) A')), ?_, j2, j3, j4, j5, j6, fun q' h1 h2 => ?_⟩
          · rw [j1, hstp, e8, if_neg (nI_m1 (by omega))]
          · show upd ((mLg v 239 1 b q w (eRs wb q) (eRs wb 0) (eRs W0 0)).1 35) q (nI (lm (fun o => mSR (mLg v 239 1 b q w (eRs wb q) (eRs wb 0) (eRs W0 0)) (4 * 180 + o) (4 * 239 + 1) (zz o)) A')) q' = upd gg q (nI (lm (fun o => mSR (mLg v 239 1 b q w (eRs wb q) (eRs wb 0) (eRs W0 0)) (4 * 180 + o) (4 * 239 + 1) (zz o)) A')) q'
            by_cases e : q' = q
            · rw [e, updS, updS]
            · rw [updN e, updN e]
              exact j7 q' h1 (by omega)
        · rcases hI2 hnf with h | ⟨q0, o1, o2, o3⟩
          · exact Or.inl h
          · by_cases e : q0 = q
            · rw [e] at o3
              have hm9 := (hmat (lm (fun o => mSR (mLg v 239 1 b q w (eRs wb q) (eRs wb 0) (eRs W0 0)) (4 * 180 + o) (4 * 239 + 1) (zz o)) A') lm1).mp (lm2 (by omega))
              exact Or.inl ⟨(lm (fun o => mSR (mLg v 239 1 b q w (eRs wb q) (eRs wb 0) (eRs W0 0)) (4 * 180 + o) (4 * 239 + 1) (zz o)) A'), lm1, by rw [hm9.1]; exact o3⟩
            · exact Or.inr ⟨q0, by omega, o2, o3⟩
      · refine v_aload_n dX10_tryJoin_222 rfl (by rfl) ?_
        refine v_getf hE dX10_tryJoin_223 fX10_84 mdS_M (by rfl) ?_
        refine v_iload_n dX10_tryJoin_226 rfl (by rfl) ?_
        refine m_iald hE (k := 24) dX10_tryJoin_227 (by decide) (by decide) rfl (show _ < 240 by omega) (by omega) ?_
        refine v_eqi (y := nI A') h24 ?_
        refine v_iconst (v := nI 3) dX10_tryJoin_228 (by decide) ?_
        refine v_icmp_neN (tgt := 234) dX10_tryJoin_229 (by decide) (by omega) (by omega) (fun c229 => ?_) (fun c229 => ?_)
        · refine v_aload_n dX10_tryJoin_234 rfl (by rfl) ?_
          refine v_getf hE dX10_tryJoin_235 fX10_84 mdS_M (by rfl) ?_
          refine v_iload_n dX10_tryJoin_238 rfl (by rfl) ?_
          refine v_dup2 dX10_tryJoin_239 rfl rfl ?_
          refine m_iald hE (k := 24) dX10_tryJoin_240 (by decide) (by decide) rfl (show _ < 240 by omega) (by omega) ?_
          refine v_eqi (y := nI A') h24 ?_
          refine v_iconst (v := nI 1) dX10_tryJoin_241 (by decide) ?_
          refine v_iaddN dX10_tryJoin_242 ?_
          refine m_iast hE (k := 24) dX10_tryJoin_243 (by decide) (by decide) rfl (show _ < 240 by omega) (by omega) ?_
          refine v_aload_n dX10_tryJoin_244 rfl (by rfl) ?_
          refine v_getf hE dX10_tryJoin_245 fX10_118 mdS_M (by rfl) ?_
          refine v_iload dX10_tryJoin_248 (by rfl) ?_
          refine v_aload_n dX10_tryJoin_250 rfl (by rfl) ?_
          refine v_getf hE dX10_tryJoin_251 fX10_84 mdS_M (by rfl) ?_
          refine v_iload_n dX10_tryJoin_254 rfl (by rfl) ?_
          refine m_iald hE (k := 24) dX10_tryJoin_255 (by decide) (by decide) rfl (show _ < 240 by omega) (by omega) ?_
          refine v_eqi (y := nI (A' + 1)) (by dsimp only; rw [va_up_self, updS]) ?_
          refine m_iast hE (k := 35) dX10_tryJoin_256 (by decide) (by decide) rfl (show _ < 4 by omega) (by omega) ?_
          have hvW : tjS (mCopy y 180 a) (va_up (va_up (va_up (mLg v 239 1 b q w (eRs wb q) (eRs wb 0) (eRs W0 0)).1 35 (upd ((mLg v 239 1 b q w (eRs wb q) (eRs wb 0) (eRs W0 0)).1 35) q (nI (lm (fun o => mSR (mLg v 239 1 b q w (eRs wb q) (eRs wb 0) (eRs W0 0)) (4 * 180 + o) (4 * 239 + 1) (zz o)) A'))), (mLg v 239 1 b q w (eRs wb q) (eRs wb 0) (eRs W0 0)).2).1 24 (upd ((va_up (mLg v 239 1 b q w (eRs wb q) (eRs wb 0) (eRs W0 0)).1 35 (upd ((mLg v 239 1 b q w (eRs wb q) (eRs wb 0) (eRs W0 0)).1 35) q (nI (lm (fun o => mSR (mLg v 239 1 b q w (eRs wb q) (eRs wb 0) (eRs W0 0)) (4 * 180 + o) (4 * 239 + 1) (zz o)) A'))), (mLg v 239 1 b q w (eRs wb q) (eRs wb 0) (eRs W0 0)).2).1 24) 180 (nI (A' + 1))), (va_up (mLg v 239 1 b q w (eRs wb q) (eRs wb 0) (eRs W0 0)).1 35 (upd ((mLg v 239 1 b q w (eRs wb q) (eRs wb 0) (eRs W0 0)).1 35) q (nI (lm (fun o => mSR (mLg v 239 1 b q w (eRs wb q) (eRs wb 0) (eRs W0 0)) (4 * 180 + o) (4 * 239 + 1) (zz o)) A'))), (mLg v 239 1 b q w (eRs wb q) (eRs wb 0) (eRs W0 0)).2).2).1 35 (upd ((va_up (va_up (mLg v 239 1 b q w (eRs wb q) (eRs wb 0) (eRs W0 0)).1 35 (upd ((mLg v 239 1 b q w (eRs wb q) (eRs wb 0) (eRs W0 0)).1 35) q (nI (lm (fun o => mSR (mLg v 239 1 b q w (eRs wb q) (eRs wb 0) (eRs W0 0)) (4 * 180 + o) (4 * 239 + 1) (zz o)) A'))), (mLg v 239 1 b q w (eRs wb q) (eRs wb 0) (eRs W0 0)).2).1 24 (upd ((va_up (mLg v 239 1 b q w (eRs wb q) (eRs wb 0) (eRs W0 0)).1 35 (upd ((mLg v 239 1 b q w (eRs wb q) (eRs wb 0) (eRs W0 0)).1 35) q (nI (lm (fun o => mSR (mLg v 239 1 b q w (eRs wb q) (eRs wb 0) (eRs W0 0)) (4 * 180 + o) (4 * 239 + 1) (zz o)) A'))), (mLg v 239 1 b q w (eRs wb q) (eRs wb 0) (eRs W0 0)).2).1 24) 180 (nI (A' + 1))), (va_up (mLg v 239 1 b q w (eRs wb q) (eRs wb 0) (eRs W0 0)).1 35 (upd ((mLg v 239 1 b q w (eRs wb q) (eRs wb 0) (eRs W0 0)).1 35) q (nI (lm (fun o => mSR (mLg v 239 1 b q w (eRs wb q) (eRs wb 0) (eRs W0 0)) (4 * 180 + o) (4 * 239 + 1) (zz o)) A'))), (mLg v 239 1 b q w (eRs wb q) (eRs wb 0) (eRs W0 0)).2).2).1 35) q (nI (A' + 1))), (va_up (va_up (mLg v 239 1 b q w (eRs wb q) (eRs wb 0) (eRs W0 0)).1 35 (upd ((mLg v 239 1 b q w (eRs wb q) (eRs wb 0) (eRs W0 0)).1 35) q (nI (lm (fun o => mSR (mLg v 239 1 b q w (eRs wb q) (eRs wb 0) (eRs W0 0)) (4 * 180 + o) (4 * 239 + 1) (zz o)) A'))), (mLg v 239 1 b q w (eRs wb q) (eRs wb 0) (eRs W0 0)).2).1 24 (upd ((va_up (mLg v 239 1 b q w (eRs wb q) (eRs wb 0) (eRs W0 0)).1 35 (upd ((mLg v 239 1 b q w (eRs wb q) (eRs wb 0) (eRs W0 0)).1 35) q (nI (lm (fun o => mSR (mLg v 239 1 b q w (eRs wb q) (eRs wb 0) (eRs W0 0)) (4 * 180 + o) (4 * 239 + 1) (zz o)) A'))), (mLg v 239 1 b q w (eRs wb q) (eRs wb 0) (eRs W0 0)).2).1 24) 180 (nI (A' + 1))), (va_up (mLg v 239 1 b q w (eRs wb q) (eRs wb 0) (eRs W0 0)).1 35 (upd ((mLg v 239 1 b q w (eRs wb q) (eRs wb 0) (eRs W0 0)).1 35) q (nI (lm (fun o => mSR (mLg v 239 1 b q w (eRs wb q) (eRs wb 0) (eRs W0 0)) (4 * 180 + o) (4 * 239 + 1) (zz o)) A'))), (mLg v 239 1 b q w (eRs wb q) (eRs wb 0) (eRs W0 0)).2).2).2) := tjS_35 (tjS_24 (tjS_35 hvS (nI_le (by omega) (by decide))) (by decide)) (nI_le (by omega) (by decide))
          refine v_aload_n dX10_tryJoin_257 rfl (by rfl) ?_
          refine v_iload_n dX10_tryJoin_258 rfl (by rfl) ?_
          refine v_aload_n dX10_tryJoin_259 rfl (by rfl) ?_
          refine v_getf hE dX10_tryJoin_260 fX10_118 mdS_M (by rfl) ?_
          refine v_iload dX10_tryJoin_263 (by rfl) ?_
          refine m_iald hE (k := 35) dX10_tryJoin_265 (by decide) (by decide) rfl (show _ < 4 by omega) (by omega) ?_
          refine v_eqi (y := nI (A' + 1)) updS ?_
          refine v_iload_n dX10_tryJoin_266 rfl (by rfl) ?_
          refine v_iload dX10_tryJoin_267 (by rfl) ?_
          refine v_iload dX10_tryJoin_269 (by rfl) ?_
          refine w_callV hE dX10_tryJoin_271 kX10_331 mdS_M (by rfl) (by rfl) (sX10_longer hE (y := (va_up (va_up (va_up (mLg v 239 1 b q w (eRs wb q) (eRs wb 0) (eRs W0 0)).1 35 (upd ((mLg v 239 1 b q w (eRs wb q) (eRs wb 0) (eRs W0 0)).1 35) q (nI (lm (fun o => mSR (mLg v 239 1 b q w (eRs wb q) (eRs wb 0) (eRs W0 0)) (4 * 180 + o) (4 * 239 + 1) (zz o)) A'))), (mLg v 239 1 b q w (eRs wb q) (eRs wb 0) (eRs W0 0)).2).1 24 (upd ((va_up (mLg v 239 1 b q w (eRs wb q) (eRs wb 0) (eRs W0 0)).1 35 (upd ((mLg v 239 1 b q w (eRs wb q) (eRs wb 0) (eRs W0 0)).1 35) q (nI (lm (fun o => mSR (mLg v 239 1 b q w (eRs wb q) (eRs wb 0) (eRs W0 0)) (4 * 180 + o) (4 * 239 + 1) (zz o)) A'))), (mLg v 239 1 b q w (eRs wb q) (eRs wb 0) (eRs W0 0)).2).1 24) 180 (nI (A' + 1))), (va_up (mLg v 239 1 b q w (eRs wb q) (eRs wb 0) (eRs W0 0)).1 35 (upd ((mLg v 239 1 b q w (eRs wb q) (eRs wb 0) (eRs W0 0)).1 35) q (nI (lm (fun o => mSR (mLg v 239 1 b q w (eRs wb q) (eRs wb 0) (eRs W0 0)) (4 * 180 + o) (4 * 239 + 1) (zz o)) A'))), (mLg v 239 1 b q w (eRs wb q) (eRs wb 0) (eRs W0 0)).2).2).1 35 (upd ((va_up (va_up (mLg v 239 1 b q w (eRs wb q) (eRs wb 0) (eRs W0 0)).1 35 (upd ((mLg v 239 1 b q w (eRs wb q) (eRs wb 0) (eRs W0 0)).1 35) q (nI (lm (fun o => mSR (mLg v 239 1 b q w (eRs wb q) (eRs wb 0) (eRs W0 0)) (4 * 180 + o) (4 * 239 + 1) (zz o)) A'))), (mLg v 239 1 b q w (eRs wb q) (eRs wb 0) (eRs W0 0)).2).1 24 (upd ((va_up (mLg v 239 1 b q w (eRs wb q) (eRs wb 0) (eRs W0 0)).1 35 (upd ((mLg v 239 1 b q w (eRs wb q) (eRs wb 0) (eRs W0 0)).1 35) q (nI (lm (fun o => mSR (mLg v 239 1 b q w (eRs wb q) (eRs wb 0) (eRs W0 0)) (4 * 180 + o) (4 * 239 + 1) (zz o)) A'))), (mLg v 239 1 b q w (eRs wb q) (eRs wb 0) (eRs W0 0)).2).1 24) 180 (nI (A' + 1))), (va_up (mLg v 239 1 b q w (eRs wb q) (eRs wb 0) (eRs W0 0)).1 35 (upd ((mLg v 239 1 b q w (eRs wb q) (eRs wb 0) (eRs W0 0)).1 35) q (nI (lm (fun o => mSR (mLg v 239 1 b q w (eRs wb q) (eRs wb 0) (eRs W0 0)) (4 * 180 + o) (4 * 239 + 1) (zz o)) A'))), (mLg v 239 1 b q w (eRs wb q) (eRs wb 0) (eRs W0 0)).2).2).1 35) q (nI (A' + 1))), (va_up (va_up (mLg v 239 1 b q w (eRs wb q) (eRs wb 0) (eRs W0 0)).1 35 (upd ((mLg v 239 1 b q w (eRs wb q) (eRs wb 0) (eRs W0 0)).1 35) q (nI (lm (fun o => mSR (mLg v 239 1 b q w (eRs wb q) (eRs wb 0) (eRs W0 0)) (4 * 180 + o) (4 * 239 + 1) (zz o)) A'))), (mLg v 239 1 b q w (eRs wb q) (eRs wb 0) (eRs W0 0)).2).1 24 (upd ((va_up (mLg v 239 1 b q w (eRs wb q) (eRs wb 0) (eRs W0 0)).1 35 (upd ((mLg v 239 1 b q w (eRs wb q) (eRs wb 0) (eRs W0 0)).1 35) q (nI (lm (fun o => mSR (mLg v 239 1 b q w (eRs wb q) (eRs wb 0) (eRs W0 0)) (4 * 180 + o) (4 * 239 + 1) (zz o)) A'))), (mLg v 239 1 b q w (eRs wb q) (eRs wb 0) (eRs W0 0)).2).1 24) 180 (nI (A' + 1))), (va_up (mLg v 239 1 b q w (eRs wb q) (eRs wb 0) (eRs W0 0)).1 35 (upd ((mLg v 239 1 b q w (eRs wb q) (eRs wb 0) (eRs W0 0)).1 35) q (nI (lm (fun o => mSR (mLg v 239 1 b q w (eRs wb q) (eRs wb 0) (eRs W0 0)) (4 * 180 + o) (4 * 239 + 1) (zz o)) A'))), (mLg v 239 1 b q w (eRs wb q) (eRs wb 0) (eRs W0 0)).2).2).2)) (a := 180) (q := (A' + 1)) (b := b) (p := q) (w := w) (n := eRs wb q) (k0 := eRs wb 0) (kw := eRs W0 0) hvW.2.2.2.2.2 (tjS_rw hvW (hb1 q (by omega)) hb (by omega) (by omega)).1 (by omega) (tjS_rw hvW (hb1 0 (by omega)) hb (by omega) (by omega)).1 (by omega) (tjS_rw hvW hu1 hw180 (by omega) (by omega)).1 (by omega) (by omega) (by omega) (by omega) (by omega) (by omega) (by omega) (by omega)) rfl (by decide) (by decide) (by exact Nat.le_of_ble_eq_true rfl) (by omega) (by omega) (fun v9 g9 u9 h9 => ?_) (fun _ _ _ h => by cases h.1)
          obtain ⟨hv9, hu9, hg9⟩ := h9
          replace hu9 := hu9.symm
          subst hu9
          subst hg9
          cases hv9
          refine v_iincN (y := 1) dX10_tryJoin_274 (by rfl) (by decide) (by decide) ?_
          refine v_goto (tgt := 124) dX10_tryJoin_277 (by decide) ?_
          refine ih (d - 1) (by omega) (q + 1) (A' + 1) (va_up zz (A' + 1) (xs wb W0 q)) (va_up cc (A' + 1) (xl wb W0 q)) _ _ _ (by omega) (by omega) (tjS_lg hvW (by decide) (by omega)) (by omega) (by omega) (by show upd ((va_up (mLg v 239 1 b q w (eRs wb q) (eRs wb 0) (eRs W0 0)).1 35 (upd ((mLg v 239 1 b q w (eRs wb q) (eRs wb 0) (eRs W0 0)).1 35) q (nI (lm (fun o => mSR (mLg v 239 1 b q w (eRs wb q) (eRs wb 0) (eRs W0 0)) (4 * 180 + o) (4 * 239 + 1) (zz o)) A'))), (mLg v 239 1 b q w (eRs wb q) (eRs wb 0) (eRs W0 0)).2).1 24) 180 (nI (A' + 1)) 180 = _; exact updS) (fun o ho => ?_) (fun hft => ?_) (fun hnf => ?_)
          · by_cases e : o = A' + 1
            · subst e
              rw [va_up_self, va_up_self]
              exact ⟨lg_row (fun r hr => tjS_rw hvW (hb1 r hr) hb (by have := okb.1; omega) (by have := okb.2.1 r; omega)) (tjS_rw hvW hu1 hw180 (by omega) (by omega)) (by omega) (by omega) (by omega) (by omega) (by omega) okb.2.1 hT24, hs26⟩
            · rw [va_up_ne _ _ e, va_up_ne _ _ e]
              exact ⟨lg_oth (hrowS o (by omega)).1 (by omega) (hrowS o (by omega)).2 (by omega), (hrowS o (by omega)).2⟩
          · obtain ⟨vv, gg, j1, j2, j3, j4, j5, j6, j7⟩ := hI1 hft
            have e8 := halt hft vv j2 j3 j4 j6
            rw [if_pos (by omega)] at e8
            have hv2 := jRow (va := vb) (w := wb) (u := wa) okvb okb (fun q hq => by rw [Nat.max_comm]; exact hft.2 q hq) (by omega)
            have hx := xs_fit (w := wb) (u := wa) (W := W0) (q := q) (by rw [Nat.max_comm]; exact hft.2 q (by omega)) (by rw [hT, Nat.max_comm])
            have hqs : eRs (eRch (eCopy vb wb) wa) q = xs wb W0 q := by rw [(hv2.2.2.2 q (by omega)).1, hx]
            have hq24 := hv2.1.2.1 q
            have hnew : ∀ o, o ≤ A' + 1 → eRs (wRo (eCopyR vv (eRo vv) (eRch (eCopy vb wb) wa) q) (eRo vv + 1)) o = (va_up zz (A' + 1) (xs wb W0 q)) o ∧ ∀ k, k < (va_up zz (A' + 1) (xs wb W0 q)) o → eLe (wRo (eCopyR vv (eRo vv) (eRch (eCopy vb wb) wa) q) (eRo vv + 1)) (o * 24 + k) = (va_up cc (A' + 1) (xl wb W0 q)) o k := fun o ho => by
              show va_up (eRs vv) (eRo vv) (eRs (eRch (eCopy vb wb) wa) q) o = _ ∧ ∀ k, _ → va_cpy (eLe (eRch (eCopy vb wb) wa)) (eLe vv) (q * 24) (eRo vv * 24) 24 (o * 24 + k) = _
              rw [j2]
              by_cases e : o = A' + 1
              · subst e
                rw [va_up_self, va_up_self, va_up_self]
                refine ⟨hqs, fun k hk => ?_⟩
                unfold va_cpy
                rw [if_pos (by omega), show (A' + 1) * 24 + k - (A' + 1) * 24 = k by omega]
                exact (hV2r hft k hk).2
              · rw [va_up_ne _ _ e, va_up_ne _ _ e, va_up_ne _ _ e]
                refine ⟨(j4 o (by omega)).1, fun k hk => ?_⟩
                have := j3.2.1 o
                rw [(j4 o (by omega)).1] at this
                unfold va_cpy
                rw [if_neg (by omega)]
                exact (j4 o (by omega)).2 k hk
            refine ⟨wRo (eCopyR vv (eRo vv) (eRch (eCopy vb wb) wa) q) (eRo vv + 1), upd gg q (nI (eRo vv)), ?_, by show eRo vv + 1 = _; omega, wRo_ok (eCopyR_ok j3 hv2.1) (by omega), hnew, j5, fun x z h1 h2 h3 h4 h5 => ?_, fun q' h1 h2 => ?_⟩
            · rw [j1, hstp, e8, if_pos rfl, if_neg (by omega)]
            · have h3 : z < eRo vv + 1 := h3
              rw [(hnew x (by omega)).1, (hnew z (by omega)).1] at h4
              by_cases e : z = A' + 1
              · subst e
                rw [va_up_ne _ _ (show x ≠ A' + 1 by omega), va_up_self] at h4
                have hno := lm3 (by omega) x h1 (by omega)
                refine absurd ((hmat x (by omega)).mpr ⟨h4, fun k hk => ?_⟩) (fun z9 => Bool.noConfusion (hno.symm.trans z9))
                have hk' : k < (va_up zz (A' + 1) (xs wb W0 q)) x := by rw [va_up_ne _ _ (show x ≠ A' + 1 by omega)]; exact hk
                have q1 := h5 k (by rw [(hnew x (by omega)).1]; exact hk')
                rw [(hnew x (by omega)).2 k hk', (hnew (A' + 1) (by omega)).2 k (by rw [va_up_self]; omega), va_up_self, va_up_ne _ _ (show x ≠ A' + 1 by omega)] at q1
                exact q1
              · rw [va_up_ne _ _ (show x ≠ A' + 1 by omega), va_up_ne _ _ e] at h4
                refine j6 x z h1 h2 (by omega) (by rw [(j4 x (by omega)).1, (j4 z (by omega)).1]; exact h4) (fun k hk => ?_)
                rw [(j4 x (by omega)).1] at hk
                have hk' : k < (va_up zz (A' + 1) (xs wb W0 q)) x := by rw [va_up_ne _ _ (show x ≠ A' + 1 by omega)]; exact hk
                have q1 := h5 k (by rw [(hnew x (by omega)).1]; exact hk')
                rw [(hnew x (by omega)).2 k hk', (hnew z (by omega)).2 k (by rw [va_up_ne _ _ e]; omega), va_up_ne _ _ (show x ≠ A' + 1 by omega), va_up_ne _ _ e] at q1
                rw [(j4 x (by omega)).2 k hk, (j4 z (by omega)).2 k (by omega)]
                exact q1
            · show upd ((va_up (va_up (mLg v 239 1 b q w (eRs wb q) (eRs wb 0) (eRs W0 0)).1 35 (upd ((mLg v 239 1 b q w (eRs wb q) (eRs wb 0) (eRs W0 0)).1 35) q (nI (lm (fun o => mSR (mLg v 239 1 b q w (eRs wb q) (eRs wb 0) (eRs W0 0)) (4 * 180 + o) (4 * 239 + 1) (zz o)) A'))), (mLg v 239 1 b q w (eRs wb q) (eRs wb 0) (eRs W0 0)).2).1 24 (upd ((va_up (mLg v 239 1 b q w (eRs wb q) (eRs wb 0) (eRs W0 0)).1 35 (upd ((mLg v 239 1 b q w (eRs wb q) (eRs wb 0) (eRs W0 0)).1 35) q (nI (lm (fun o => mSR (mLg v 239 1 b q w (eRs wb q) (eRs wb 0) (eRs W0 0)) (4 * 180 + o) (4 * 239 + 1) (zz o)) A'))), (mLg v 239 1 b q w (eRs wb q) (eRs wb 0) (eRs W0 0)).2).1 24) 180 (nI (A' + 1))), (va_up (mLg v 239 1 b q w (eRs wb q) (eRs wb 0) (eRs W0 0)).1 35 (upd ((mLg v 239 1 b q w (eRs wb q) (eRs wb 0) (eRs W0 0)).1 35) q (nI (lm (fun o => mSR (mLg v 239 1 b q w (eRs wb q) (eRs wb 0) (eRs W0 0)) (4 * 180 + o) (4 * 239 + 1) (zz o)) A'))), (mLg v 239 1 b q w (eRs wb q) (eRs wb 0) (eRs W0 0)).2).2).1 35) q (nI (A' + 1)) q' = upd gg q (nI (eRo vv)) q'
              rw [j2]
              by_cases e : q' = q
              · rw [e, updS, updS]
              · rw [updN e, updN e]
                show upd ((mLg v 239 1 b q w (eRs wb q) (eRs wb 0) (eRs W0 0)).1 35) q _ q' = _
                rw [updN e]
                exact j7 q' h1 (by omega)
          · rcases hI2 hnf with ⟨o', o1, o2⟩ | ⟨q0, o1, o2, o3⟩
            · exact Or.inl ⟨o', by omega, by rw [va_up_ne _ _ (show o' ≠ A' + 1 by omega)]; exact o2⟩
            · by_cases e : q0 = q
              · rw [e] at o3
                exact Or.inl ⟨A' + 1, Nat.le_refl _, by rw [va_up_self]; exact o3⟩
              · exact Or.inr ⟨q0, by omega, o2, o3⟩
        · refine v_iconst (v := nI 0) dX10_tryJoin_232 (by decide) ?_
          refine v_iret dX10_tryJoin_233 rfl (by first | rfl | exact nar_bI) ?_
          have hF : (jFit wa wb && (jAl (eRch (eCopy va wa) wb) (eRch (eCopy vb wb) wa) g).1) = false := by
            by_cases hft : ((∀ q, q < eRo wa → eRs wa q + ((max (eRs wa 0) (eRs wb 0)) - eRs wa 0) ≤ 24) ∧ (∀ q, q < eRo wb → eRs wb q + ((max (eRs wa 0) (eRs wb 0)) - eRs wb 0) ≤ 24))
            · obtain ⟨vv, gg, j1, j2, j3, j4, j5, j6, j7⟩ := hI1 hft
              have e8 := halt hft vv j2 j3 j4 j6
              rw [if_pos (by omega)] at e8
              rw [j1, hstp, e8, if_pos rfl, if_pos (by omega), Bool.and_false]
            · rw [Bool.eq_false_iff.mpr (fun q => hft (hfit.mp q)), Bool.false_and]
          refine ⟨congrArg (fun x => (Sum.inl (some (Value.int x)) : aO)) (bI_f hF), rfl, _, rfl, tjS_F hO (tjS_35 hvS (nI_le (by omega) (by decide))), fun q => ?_⟩
          rw [hF] at q
          exact Bool.noConfusion q
  have st1 : 1 < eRo wa → 1 < eRo wb → (jFit wa wb = true ↔ ((∀ q, q < eRo wa → eRs wa q + ((max (eRs wa 0) (eRs wb 0)) - eRs wa 0) ≤ 24) ∧ (∀ q, q < eRo wb → eRs wb q + ((max (eRs wa 0) (eRs wb 0)) - eRs wb 0) ≤ 24))) → ∀ (w : Nat) (W0 : eV), ((w = a ∧ W0 = wa ∧ eRs wb 0 ≤ eRs wa 0) ∨ (w = b ∧ W0 = wb ∧ eRs wa 0 < eRs wb 0)) → ∀ (d q : Nat) (v : mV) (z6 z7 : Option Value), q + d = eRo wa → tjS (mCopy y 180 a) v → v.1 24 180 = nI (eRo wa - 1) → (∀ o, o < q → rwA v 180 o (xs wa W0 o) (xl wa W0 o)) → V E mX10_tryJoin 0 0 (fun o f' t' => o = .inl (some (.int (bI (jFit wa wb && (jAl (eRch (eCopy va wa) wb) (eRch (eCopy vb wb) wa) g).1)))) ∧ t' = t ∧ ∃ y', f' = mdS f M y' ∧ tjF y y' ∧ ((jFit wa wb && (jAl (eRch (eCopy va wa) wb) (eRch (eCopy vb wb) wa) g).1) = true → mE y' 180 (jCaS (eRch (eCopy vb wb) wa) (jAl (eRch (eCopy va wa) wb) (eRch (eCopy vb wb) wa) g).2.2 (m - 0) 0 (jAl (eRch (eCopy va wa) wb) (eRch (eCopy vb wb) wa) g).2.1) m)) 85 [some (.ref M), some (.int (nI 180)), some (.int (nI a)), some (.int (nI b)), some (.int (nI w)), some (.int (nI q)), z6, z7] [] (mdS f M v) t 0 0 := by
    intro hra hrb hfit w W0 hW d
    have hT : eRs W0 0 = (max (eRs wa 0) (eRs wb 0)) := by
      rcases hW with ⟨-, e, h⟩ | ⟨-, e, h⟩ <;> subst e <;> omega
    have hw180 : w < 180 := by
      rcases hW with ⟨e, -, -⟩ | ⟨e, -, -⟩ <;> omega
    have hu1 : rwA (mCopy y 180 a) w 0 (eRs W0 0) (fun k => eLe W0 (0 * 24 + k)) := by
      rcases hW with ⟨e1, e2, -⟩ | ⟨e1, e2, -⟩ <;> subst e1 <;> subst e2
      · exact ha1 0 (by omega)
      · exact hb1 0 (by omega)
    have hT24 : eRs W0 0 ≤ 24 := by
      have := oka.2.1 0
      have := okb.2.1 0
      omega
    induction d using Nat.strongRecOn with
    | _ d ih =>
    intro q v z6 z7 hd hv h24 hrow
    have haA : v.1 24 a = nI (eRo wa - 1) := (hv.2.2.1 a ha).trans ((mCopy_o (a := 180) (b := a) hwa oka hm (by omega)).2.2.2.2.1)
    have hro4 := oka.1
    refine v_iload dX10_tryJoin_85 (by rfl) ?_
    refine v_aload_n dX10_tryJoin_87 rfl (by rfl) ?_
    refine v_getf hE dX10_tryJoin_88 fX10_84 mdS_M (by rfl) ?_
    refine v_iload_n dX10_tryJoin_91 rfl (by rfl) ?_
    refine m_iald hE (k := 24) dX10_tryJoin_92 (by decide) (by decide) rfl (show _ < 240 by omega) (by omega) ?_
    refine v_eqi (y := nI (eRo wa - 1)) haA ?_
    refine v_icmp_gtN (tgt := 114) dX10_tryJoin_93 (by decide) (by omega) (by omega) (fun c93 => ?_) (fun c93 => ?_)
    · refine v_aload_n dX10_tryJoin_114 rfl (by rfl) ?_
      refine v_getf hE dX10_tryJoin_115 fX10_118 mdS_M (by rfl) ?_
      refine v_iconst (v := nI 0) dX10_tryJoin_118 (by decide) ?_
      refine v_iconst (v := nI 0) dX10_tryJoin_119 (by decide) ?_
      refine m_iast hE (k := 35) dX10_tryJoin_120 (by decide) (by decide) rfl (show _ < 4 by omega) (by omega) ?_
      refine v_iconst (v := nI 1) dX10_tryJoin_121 (by decide) ?_
      refine v_istore dX10_tryJoin_122 (by decide) ?_
      have e9 : q = eRo wa := by omega
      subst e9
      refine st2 hra hrb hfit w W0 hW (eRo wb - 1) 1 (eRo wa - 1) (xs wa W0) (xl wa W0) _ _ _ (by omega) (Nat.le_refl _) (tjS_35 hv (by decide)) (by omega) (by omega) h24 (fun o ho => ⟨hrow o (by omega), xs_26 (oka.2.1 o)⟩) (fun hft => ?_) (fun hnf => ?_)
      · have hv1 := jRow (va := va) (w := wa) (u := wb) okva oka hft.1 (by omega)
        have hr1 : ∀ o, o ≤ (eRo wa - 1) → eRs (eRch (eCopy va wa) wb) o = xs wa W0 o ∧ ∀ k, k < xs wa W0 o → eLe (eRch (eCopy va wa) wb) (o * 24 + k) = xl wa W0 o k := fun o ho => by
          obtain ⟨c1, c2⟩ := hv1.2.2.2 o (by omega)
          have hx := xs_fit (w := wa) (u := wb) (W := W0) (q := o) (hft.1 o (by omega)) hT
          refine ⟨by rw [c1, hx], fun k hk => ?_⟩
          rw [c2 k (by rw [c1, ← hx]; exact hk)]
          unfold xl
          by_cases e : k < eRs wa o
          · rw [if_pos e, if_pos e]
          · rw [if_neg e, if_neg e]
            have hW0 : W0 = wb := by
              rcases hW with ⟨-, e2, h2⟩ | ⟨-, e2, h2⟩
              · exfalso
                omega
              · exact e2
            rw [hW0, eLet_in (by omega) (okb.2.1 0), Nat.zero_mul, Nat.zero_add]
        have hv2 := jRow (va := vb) (w := wb) (u := wa) okvb okb (fun q hq => by rw [Nat.max_comm]; exact hft.2 q hq) (by omega)
        refine ⟨(eRch (eCopy va wa) wb), g, by show jAlL (eRch (eCopy vb wb) wa) (eRo (eRch (eCopy vb wb) wa) - 1) 1 _ _ = _; rw [hv2.2.1], by rw [hv1.2.1]; omega, hv1.1, hr1, hv1.2.2.1, fun x z h1 h2 h3 h4 h5 => ?_, fun q' h1 h2 => by omega⟩
        rw [hv1.2.1] at h3
        obtain ⟨c1, c2⟩ := hv1.2.2.2 x (by omega)
        obtain ⟨d1, d2⟩ := hv1.2.2.2 z (by omega)
        refine hda x z h1 h2 h3 (by omega) (fun k hk => ?_)
        have := h5 k (by omega)
        rw [c2 k (by omega), d2 k (by omega), if_pos hk, if_pos (by omega)] at this
        exact this
      · by_cases hfa : (∀ q, q < eRo wa → eRs wa q + ((max (eRs wa 0) (eRs wb 0)) - eRs wa 0) ≤ 24)
        · by_cases hfb : (∀ q, q < eRo wb → eRs wb q + ((max (eRs wa 0) (eRs wb 0)) - eRs wb 0) ≤ 24)
          · exact absurd ⟨hfa, hfb⟩ hnf
          · obtain ⟨q0, h0⟩ := Classical.not_forall.mp hfb
            obtain ⟨h1, h2⟩ := Classical.not_imp.mp h0
            have hq0 : q0 ≠ 0 := fun e => by
              subst e
              have := oka.2.1 0
              have := okb.2.1 0
              omega
            exact Or.inr ⟨q0, by omega, by omega, xs_no h2 hT (okb.2.1 q0)⟩
        · obtain ⟨q0, h0⟩ := Classical.not_forall.mp hfa
          obtain ⟨h1, h2⟩ := Classical.not_imp.mp h0
          exact Or.inl ⟨q0, by omega, xs_no h2 hT (oka.2.1 q0)⟩
    · have hsq := oka.2.1 q
      have hs0 := oka.2.1 0
      refine v_aload_n dX10_tryJoin_96 rfl (by rfl) ?_
      refine v_iload_n dX10_tryJoin_97 rfl (by rfl) ?_
      refine v_iload dX10_tryJoin_98 (by rfl) ?_
      refine v_iload_n dX10_tryJoin_100 rfl (by rfl) ?_
      refine v_iload dX10_tryJoin_101 (by rfl) ?_
      refine v_iload dX10_tryJoin_103 (by rfl) ?_
      refine w_callV hE dX10_tryJoin_105 kX10_331 mdS_M (by rfl) (by rfl) (sX10_longer hE (y := v) (a := 180) (q := q) (b := a) (p := q) (w := w) (n := eRs wa q) (k0 := eRs wa 0) (kw := eRs W0 0) hv.2.2.2.2.2 (tjS_rw hv (ha1 q (by omega)) ha (by omega) (by omega)).1 (by omega) (tjS_rw hv (ha1 0 (by omega)) ha (by omega) (by omega)).1 (by omega) (tjS_rw hv hu1 hw180 (by omega) (by omega)).1 (by omega) (by omega) (by omega) (by omega) (by omega) (by omega) (by omega) (by omega)) rfl (by decide) (by decide) (by exact Nat.le_of_ble_eq_true rfl) (by omega) (by omega) (fun v9 g9 u9 h9 => ?_) (fun _ _ _ h => by cases h.1)
      obtain ⟨hv9, hu9, hg9⟩ := h9
      replace hu9 := hu9.symm
      subst hu9
      subst hg9
      cases hv9
      refine v_iincN (y := 1) dX10_tryJoin_108 (by rfl) (by decide) (by decide) ?_
      refine v_goto (tgt := 85) dX10_tryJoin_111 (by decide) ?_
      exact ih (d - 1) (by omega) (q + 1) _ _ _ (by omega) (tjS_lg hv (by decide) (by omega)) h24 (fun o ho => by
        by_cases e : o = q
        · subst e
          exact lg_row (fun r hr => tjS_rw hv (ha1 r hr) ha (by have := oka.1; omega) (by have := oka.2.1 r; omega)) (tjS_rw hv hu1 hw180 (by omega) (by omega)) (by omega) (by omega) (by omega) (by omega) (by omega) oka.2.1 hT24
        · exact lg_oth (hrow o (by omega)) (by omega) (xs_26 (oka.2.1 o)) (by omega))
  have st0 : 1 < eRo wa → 1 < eRo wb → (jFit wa wb = true ↔ ((∀ q, q < eRo wa → eRs wa q + ((max (eRs wa 0) (eRs wb 0)) - eRs wa 0) ≤ 24) ∧ (∀ q, q < eRo wb → eRs wb q + ((max (eRs wa 0) (eRs wb 0)) - eRs wb 0) ≤ 24))) → ∀ (w : Nat) (W0 : eV), ((w = a ∧ W0 = wa ∧ eRs wb 0 ≤ eRs wa 0) ∨ (w = b ∧ W0 = wb ∧ eRs wa 0 < eRs wb 0)) → V E mX10_tryJoin 0 0 (fun o f' t' => o = .inl (some (.int (bI (jFit wa wb && (jAl (eRch (eCopy va wa) wb) (eRch (eCopy vb wb) wa) g).1)))) ∧ t' = t ∧ ∃ y', f' = mdS f M y' ∧ tjF y y' ∧ ((jFit wa wb && (jAl (eRch (eCopy va wa) wb) (eRch (eCopy vb wb) wa) g).1) = true → mE y' 180 (jCaS (eRch (eCopy vb wb) wa) (jAl (eRch (eCopy va wa) wb) (eRch (eCopy vb wb) wa) g).2.2 (m - 0) 0 (jAl (eRch (eCopy va wa) wb) (eRch (eCopy vb wb) wa) g).2.1) m)) 76 [some (.ref M), some (.int (nI 180)), some (.int (nI a)), some (.int (nI b)), some (.int (nI w)), none, none, none] [] (mdS f M y) t 0 0 := by
    intro hra hrb hfit w W0 hW
    refine v_aload_n dX10_tryJoin_76 rfl (by rfl) ?_
    refine v_iload_n dX10_tryJoin_77 rfl (by rfl) ?_
    refine v_iload_n dX10_tryJoin_78 rfl (by rfl) ?_
    refine w_callV hE dX10_tryJoin_79 kX10_197 mdS_M (by rfl) (by rfl) (sX10_copy hE hO (by decide) (by omega) (by omega)) rfl (by decide) (by decide) (by exact Nat.le_of_ble_eq_true rfl) (by omega) (by omega) (fun v9 g9 u9 h9 => ?_) (fun _ _ _ h => by cases h.1)
    obtain ⟨hv9, hu9, hg9⟩ := h9
    replace hu9 := hu9.symm
    subst hu9
    subst hg9
    cases hv9
    refine v_iconst (v := nI 0) dX10_tryJoin_82 (by decide) ?_
    refine v_istore dX10_tryJoin_83 (by decide) ?_
    exact st1 hra hrb hfit w W0 hW (eRo wa) 0 (mCopy y 180 a) _ _ (by omega) (tjS_r (mCopy_nw hO)) (mCopy_a (a := 180) hwa oka hm).2.2.2.2.1 (fun o ho => absurd ho (Nat.not_lt_zero _))
  refine v_aload_n dX10_tryJoin_0 rfl (by rfl) ?_
  refine v_getf hE dX10_tryJoin_1 fX10_84 mdS_M (by rfl) ?_
  refine v_iload_n dX10_tryJoin_4 rfl (by rfl) ?_
  refine m_iald hE (k := 24) dX10_tryJoin_5 (by decide) (by decide) rfl (show _ < 240 by omega) (by omega) ?_
  refine v_eqi (y := nI (eRo wa - 1)) hwa.2.2.2.2.1 ?_
  refine v_if_eqN (tgt := 48) dX10_tryJoin_6 (by decide) (by omega) (fun c6 => ?_) (fun c6 => ?_)
  · refine v_iconst (v := nI 0) dX10_tryJoin_48 (by decide) ?_
    refine v_iret dX10_tryJoin_49 rfl (by first | rfl | exact nar_bI) ?_
    have hF : (jFit wa wb && (jAl (eRch (eCopy va wa) wb) (eRch (eCopy vb wb) wa) g).1) = false := by
      have hf : jFit wa wb = false := by
        refine Bool.eq_false_iff.mpr (fun q => ?_)
        unfold jFit eWith at q
        rw [Bool.and_eq_true, Bool.and_eq_true, Bool.and_eq_true, Bool.and_eq_true, decide_eq_true_eq, decide_eq_true_eq, decide_eq_true_eq, decide_eq_true_eq] at q
        first
          | omega
          | exact c30 q.2.2.1.1
          | exact c45 q.2.2.1.2
      rw [hf, Bool.false_and]
    refine ⟨congrArg (fun x => (Sum.inl (some (Value.int x)) : aO)) (bI_f hF), rfl, _, rfl, ⟨rfl, fun _ _ => rfl, hO, fun _ _ _ _ h _ _ => h⟩, fun q => ?_⟩
    rw [hF] at q
    exact Bool.noConfusion q
  · refine v_aload_n dX10_tryJoin_9 rfl (by rfl) ?_
    refine v_getf hE dX10_tryJoin_10 fX10_84 mdS_M (by rfl) ?_
    refine v_iload_n dX10_tryJoin_13 rfl (by rfl) ?_
    refine m_iald hE (k := 24) dX10_tryJoin_14 (by decide) (by decide) rfl (show _ < 240 by omega) (by omega) ?_
    refine v_eqi (y := nI (eRo wb - 1)) hwb.2.2.2.2.1 ?_
    refine v_if_eqN (tgt := 48) dX10_tryJoin_15 (by decide) (by omega) (fun c15 => ?_) (fun c15 => ?_)
    · refine v_iconst (v := nI 0) dX10_tryJoin_48 (by decide) ?_
      refine v_iret dX10_tryJoin_49 rfl (by first | rfl | exact nar_bI) ?_
      have hF : (jFit wa wb && (jAl (eRch (eCopy va wa) wb) (eRch (eCopy vb wb) wa) g).1) = false := by
        have hf : jFit wa wb = false := by
          refine Bool.eq_false_iff.mpr (fun q => ?_)
          unfold jFit eWith at q
          rw [Bool.and_eq_true, Bool.and_eq_true, Bool.and_eq_true, Bool.and_eq_true, decide_eq_true_eq, decide_eq_true_eq, decide_eq_true_eq, decide_eq_true_eq] at q
          first
            | omega
            | exact c30 q.2.2.1.1
            | exact c45 q.2.2.1.2
        rw [hf, Bool.false_and]
      refine ⟨congrArg (fun x => (Sum.inl (some (Value.int x)) : aO)) (bI_f hF), rfl, _, rfl, ⟨rfl, fun _ _ => rfl, hO, fun _ _ _ _ h _ _ => h⟩, fun q => ?_⟩
      rw [hF] at q
      exact Bool.noConfusion q
    · refine v_aload_n dX10_tryJoin_18 rfl (by rfl) ?_
      refine v_getf hE dX10_tryJoin_19 fX10_72 mdS_M (by rfl) ?_
      refine v_iload_n dX10_tryJoin_22 rfl (by rfl) ?_
      refine m_iald hE (k := 20) dX10_tryJoin_23 (by decide) (by decide) rfl (show _ < 240 by omega) (by omega) ?_
      refine v_eqi (y := eSq wa) hwa.1 ?_
      refine v_aload_n dX10_tryJoin_24 rfl (by rfl) ?_
      refine v_getf hE dX10_tryJoin_25 fX10_72 mdS_M (by rfl) ?_
      refine v_iload_n dX10_tryJoin_28 rfl (by rfl) ?_
      refine m_iald hE (k := 20) dX10_tryJoin_29 (by decide) (by decide) rfl (show _ < 240 by omega) (by omega) ?_
      refine v_eqi (y := eSq wb) hwb.1 ?_
      refine v_icmp_ne (tgt := 48) dX10_tryJoin_30 (by decide) (fun c30 => ?_) (fun c30 => ?_)
      · refine v_iconst (v := nI 0) dX10_tryJoin_48 (by decide) ?_
        refine v_iret dX10_tryJoin_49 rfl (by first | rfl | exact nar_bI) ?_
        have hF : (jFit wa wb && (jAl (eRch (eCopy va wa) wb) (eRch (eCopy vb wb) wa) g).1) = false := by
          have hf : jFit wa wb = false := by
            refine Bool.eq_false_iff.mpr (fun q => ?_)
            unfold jFit eWith at q
            rw [Bool.and_eq_true, Bool.and_eq_true, Bool.and_eq_true, Bool.and_eq_true, decide_eq_true_eq, decide_eq_true_eq, decide_eq_true_eq, decide_eq_true_eq] at q
            first
              | omega
              | exact c30 q.2.2.1.1
              | exact c45 q.2.2.1.2
          rw [hf, Bool.false_and]
        refine ⟨congrArg (fun x => (Sum.inl (some (Value.int x)) : aO)) (bI_f hF), rfl, _, rfl, ⟨rfl, fun _ _ => rfl, hO, fun _ _ _ _ h _ _ => h⟩, fun q => ?_⟩
        rw [hF] at q
        exact Bool.noConfusion q
      · refine v_aload_n dX10_tryJoin_33 rfl (by rfl) ?_
        refine v_getf hE dX10_tryJoin_34 fX10_75 mdS_M (by rfl) ?_
        refine v_iload_n dX10_tryJoin_37 rfl (by rfl) ?_
        refine m_iald hE (k := 21) dX10_tryJoin_38 (by decide) (by decide) rfl (show _ < 240 by omega) (by omega) ?_
        refine v_eqi (y := ePl wa) hwa.2.1 ?_
        refine v_aload_n dX10_tryJoin_39 rfl (by rfl) ?_
        refine v_getf hE dX10_tryJoin_40 fX10_75 mdS_M (by rfl) ?_
        refine v_iload_n dX10_tryJoin_43 rfl (by rfl) ?_
        refine m_iald hE (k := 21) dX10_tryJoin_44 (by decide) (by decide) rfl (show _ < 240 by omega) (by omega) ?_
        refine v_eqi (y := ePl wb) hwb.2.1 ?_
        refine v_icmp_eq (tgt := 50) dX10_tryJoin_45 (by decide) (fun c45 => ?_) (fun c45 => ?_)
        · have hs0 := oka.2.1 0
          have ht0 := okb.2.1 0
          have hfit : jFit wa wb = true ↔ ((∀ q, q < eRo wa → eRs wa q + ((max (eRs wa 0) (eRs wb 0)) - eRs wa 0) ≤ 24) ∧ (∀ q, q < eRo wb → eRs wb q + ((max (eRs wa 0) (eRs wb 0)) - eRs wb 0) ≤ 24)) := by
            unfold jFit eWith eReach
            rw [decide_eq_true (show 1 < eRo wa by omega), decide_eq_true (show 1 < eRo wb by omega), decide_eq_true (show eSq wa = eSq wb from c30), decide_eq_true (show ePl wa = ePl wb from c45), Bool.true_and, Bool.true_and, Bool.true_and, Bool.true_and, Bool.and_eq_true, allB_iff, allB_iff]
            refine ⟨fun h => ⟨fun q hq => ?_, fun q hq => ?_⟩, fun h => ⟨fun q _ hq => decide_eq_true ?_, fun q _ hq => decide_eq_true ?_⟩⟩
            · have := of_decide_eq_true (h.1 q (by omega) (by omega))
              omega
            · have := of_decide_eq_true (h.2 q (by omega) (by omega))
              omega
            · have := h.1 q (by omega)
              omega
            · have := h.2 q (by omega)
              omega
          refine v_aload_n dX10_tryJoin_50 rfl (by rfl) ?_
          refine v_getf hE dX10_tryJoin_51 fX10_90 mdS_M (by rfl) ?_
          refine v_iconst (v := nI 4) dX10_tryJoin_54 (by decide) ?_
          refine v_iload_n dX10_tryJoin_55 rfl (by rfl) ?_
          refine v_imulN dX10_tryJoin_56 ?_
          refine m_iald hE (k := 26) dX10_tryJoin_57 (by decide) (by decide) rfl (show _ < 960 by omega) (by omega) ?_
          refine v_eqi (y := nI (eRs wb 0)) (hwb.2.2.2.2.2.2.1 0 (by omega)).1 ?_
          refine v_aload_n dX10_tryJoin_58 rfl (by rfl) ?_
          refine v_getf hE dX10_tryJoin_59 fX10_90 mdS_M (by rfl) ?_
          refine v_iconst (v := nI 4) dX10_tryJoin_62 (by decide) ?_
          refine v_iload_n dX10_tryJoin_63 rfl (by rfl) ?_
          refine v_imulN dX10_tryJoin_64 ?_
          refine m_iald hE (k := 26) dX10_tryJoin_65 (by decide) (by decide) rfl (show _ < 960 by omega) (by omega) ?_
          refine v_eqi (y := nI (eRs wa 0)) (hwa.2.2.2.2.2.2.1 0 (by omega)).1 ?_
          refine v_icmp_leN (tgt := 73) dX10_tryJoin_66 (by decide) (by omega) (by omega) (fun c66 => ?_) (fun c66 => ?_)
          · refine v_iload_n dX10_tryJoin_73 rfl (by rfl) ?_
            refine v_istore dX10_tryJoin_74 (by decide) ?_
            exact st0 (by omega) (by omega) hfit a wa (Or.inl ⟨rfl, rfl, by omega⟩)
          · refine v_iload_n dX10_tryJoin_69 rfl (by rfl) ?_
            refine v_goto (tgt := 74) dX10_tryJoin_70 (by decide) ?_
            refine v_istore dX10_tryJoin_74 (by decide) ?_
            exact st0 (by omega) (by omega) hfit b wb (Or.inr ⟨rfl, rfl, by omega⟩)
        · refine v_iconst (v := nI 0) dX10_tryJoin_48 (by decide) ?_
          refine v_iret dX10_tryJoin_49 rfl (by first | rfl | exact nar_bI) ?_
          have hF : (jFit wa wb && (jAl (eRch (eCopy va wa) wb) (eRch (eCopy vb wb) wa) g).1) = false := by
            have hf : jFit wa wb = false := by
              refine Bool.eq_false_iff.mpr (fun q => ?_)
              unfold jFit eWith at q
              rw [Bool.and_eq_true, Bool.and_eq_true, Bool.and_eq_true, Bool.and_eq_true, decide_eq_true_eq, decide_eq_true_eq, decide_eq_true_eq, decide_eq_true_eq] at q
              first
                | omega
                | exact c30 q.2.2.1.1
                | exact c45 q.2.2.1.2
            rw [hf, Bool.false_and]
          refine ⟨congrArg (fun x => (Sum.inl (some (Value.int x)) : aO)) (bI_f hF), rfl, _, rfl, ⟨rfl, fun _ _ => rfl, hO, fun _ _ _ _ h _ _ => h⟩, fun q => ?_⟩
          rw [hF] at q
          exact Bool.noConfusion q
