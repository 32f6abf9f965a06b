theorem eNorm_f {w : eV} {g : gV} {s p : Nat} (hw : enOk w) (hpos : ePos w) (hro : 1 < eRo w) (hp1 : 1 ≤ p) : ∃ c1 n b : Nat, n ≤ p - 1 ∧ (∀ q, q < eRo w → c1 + b < eRs w q) ∧ eRst (eNorm w g s p).2 w ∧ ePl (eNorm w g s p).2 = nI (p - n + b) ∧ (∀ q, q < eRo w → eRs (eNorm w g s p).2 q = eRs w q - c1 - b) ∧ (∀ k, eRs (eNorm w g s p).2 k ≤ 24) ∧ (∀ q k, q < eRo w → k < eRs w q - c1 - b → eLe (eNorm w g s p).2 (q * 24 + k) = if k + b < n then gnLet g s (p - n + (k + b)) else eLe w (q * 24 + (k + b - n))) ∧ ∀ a d, a < eRo w → d < eRo w → eRs w a = eRs w d → (∀ k, k < eRs w a - c1 - b → eLe (eNorm w g s p).2 (a * 24 + k) = eLe (eNorm w g s p).2 (d * 24 + k)) → ∀ k, k < eRs w a → eLe w (a * 24 + k) = eLe w (d * 24 + k) := by
  have hmp := eMin_pos hpos
  obtain ⟨m, h0, h1, h2, h3, h4, h5, h6⟩ := eCutL_f (g := g) (s := s) (p := p) (eMin w - 1 - 0) 0 w hw.2.1 (fun q hq => by have := eMin_le hq; omega)
  obtain ⟨k1, -⟩ := eCutL_ok (g := g) (s := s) (p := p) (M := eMin w) (eMin w - 1 - 0) 0 w hw (by omega) (fun q hq => by have := eMin_le hq; omega)
  have e : (eNorm w g s p).2 = eTrim (eMvA (eCut w g s p).2 g s p (eNormN w g s p)) (p - eNormN w g s p) := by
    unfold eNorm
    rw [if_pos hro]
    rfl
  have hn : eNormN w g s p ≤ p - 1 := by
    unfold eNormN
    split
    · have := eStepL_le (v := (eCut w g s p).2) (g := g) (s := s) (p := p) (p - 1 - 0) 0
      unfold eSteps
      omega
    · omega
  rw [e]
  have h1 : (eCut w g s p).1 = 0 + m := h1
  have h2 : eRst (eCut w g s p).2 w := h2
  have h4 : eLe (eCut w g s p).2 = eLe w := h4
  have h5 : ∀ q, q < eRo w → eRs (eCut w g s p).2 q = eRs w q - m := h5
  have k1 : enOk (eCut w g s p).2 := k1
  have hst : ∀ n', n' < eNormN w g s p → eEnd (eCut w g s p).2 g s p n' = true := fun n' hn' => by
    unfold eNormN at hn'
    split at hn'
    · exact eStepL_a (p - 1 - 0) 0 n' (by omega) hn'
    · omega
  generalize (eCut w g s p).2 = u0 at h2 h4 h5 k1 hst
  generalize eNormN w g s p = n at hn hst
  obtain ⟨a1, a2, a3, a4⟩ := eMvA_f (v := u0) (g := g) (s := s) (p := p) (n := n) k1.2.1
  generalize eMvA u0 g s p n = u at a1 a2 a3 a4
  have hz24 : ∀ k, eRs u k ≤ 24 := by rw [a3]; exact k1.2.1
  obtain ⟨t1, t2, t3⟩ := eTrim_f (v := u) (p := p - n) hz24
  have hb : eBeg u ≤ eMin u - 1 := by
    have := eBegL_le (v := u) (eMin u - 1 - 0) 0
    unfold eBeg
    omega
  have hru : eRo u = eRo w := a1.2.2.2.2.2.2.1.trans h2.2.2.2.2.2.2.1
  have hr0 : eRo u0 = eRo w := h2.2.2.2.2.2.2.1
  have hle : ∀ q k, q < eRo w → k < eRs w q - m - eBeg u → eLe (eTrim u (p - n)) (q * 24 + k) = if k + eBeg u < n then gnLet g s (p - n + (k + eBeg u)) else eLe w (q * 24 + (k + eBeg u - n)) := fun q k hq hk => by
    have q1 : eRs u0 q = eRs w q - m := h5 q hq
    rw [(t3 q (by omega)).2 k (by rw [a3, q1]; exact hk), show q * 24 + k + eBeg u = q * 24 + (k + eBeg u) by omega, a4 q (k + eBeg u) (by omega) (by omega)]
    unfold eMov
    split
    · rfl
    · rw [eLet_in (by omega) (k1.2.1 q), h4]
  have hml : ∀ q, q < eRo w → m + eBeg u < eRs w q := fun q hq => by
    have q1 := eMin_le (v := u) (r := q) (by omega)
    rw [a3, h5 q hq] at q1
    have := eMin_le (v := w) (r := q) hq
    omega
  refine ⟨m, n, eBeg u, hn, hml, eRst_t t1 (eRst_t a1 h2), t2, fun q hq => ?_, fun k => ?_, hle, fun a d ha hd had hN k hk => ?_⟩
  · rw [(t3 q (by omega)).1, a3, h5 q hq]
  · obtain ⟨-, -, s3, -⟩ := eShR_f (c := eBeg u) (eRo u - 0) 0 u hz24
    have := s3 k
    show eRs (eShR (eBeg u) (eRo u - 0) 0 u) k ≤ 24
    rw [this]
    have := hz24 k
    split <;> omega
  · have ma := hml a ha
    have md := hml d hd
    have sa : eRs u0 a = eRs w a - m := h5 a ha
    have sd : eRs u0 d = eRs w d - m := h5 d hd
    by_cases c1 : eRs w a - m ≤ k
    · have q := h6 a d ha hd had (eRs w a - 1 - k) (by omega)
      rw [show eRs w a - 1 - (eRs w a - 1 - k) = k by omega, show eRs w d - 1 - (eRs w a - 1 - k) = k by omega] at q
      exact q
    · by_cases c2 : eRs w a - m ≤ k + n
      · have hE := hst (eRs w a - m - 1 - k) (by omega)
        have qa := eEnd_a hE a (by omega)
        have qd := eEnd_a hE d (by omega)
        have q := qa.trans qd.symm
        unfold eMov at q
        rw [sa, sd, if_neg (by omega), if_neg (by omega), eLet_in (by omega) (k1.2.1 a), eLet_in (by omega) (k1.2.1 d), h4, show eRs w a - m - 1 - (eRs w a - m - 1 - k) = k by omega, show eRs w d - m - 1 - (eRs w a - m - 1 - k) = k by omega] at q
        exact q
      · by_cases c3 : eBeg u ≤ k + n
        · have q := hN (k + n - eBeg u) (by omega)
          rw [hle a _ ha (by omega), hle d _ hd (by omega), if_neg (by omega), if_neg (by omega), show k + n - eBeg u + eBeg u - n = k by omega] at q
          exact q
        · have hA := eBegL_a (v := u) (eMin u - 1 - 0) 0 (k + n) (by omega) (by show k + n < eBeg u; omega)
          have hA' : ∀ r, r < eRo w → eLet u r (nI (k + n)) = eLet u 0 (nI (k + n)) := fun r hr => by
            by_cases e : r = 0
            · rw [e]
            · exact of_decide_eq_true ((allB_iff _ _ |>.mp hA) r (by omega) (by omega))
          have q := (hA' a ha).trans (hA' d hd).symm
          rw [eLet_in (by rw [a3]; omega) (hz24 a), eLet_in (by rw [a3]; omega) (hz24 d), a4 a (k + n) (by omega) (by omega), a4 d (k + n) (by omega) (by omega)] at q
          unfold eMov at q
          rw [if_neg (by omega), if_neg (by omega), show k + n - n = k by omega, eLet_in (by omega) (k1.2.1 a), eLet_in (by omega) (k1.2.1 d), h4] at q
          exact q
theorem eNorm_k {w : eV} {g : gV} {s p m : Nat} (hw : enOk w) (hgo : gOk g) (hgl : gLv g) (hG : eGo w m g) (hs : eSq w = nI s) (hp : ePl w = nI p) (hs2 : s < 8) (hp2 : p < 2 ^ 28) : enOk (eNorm w g s p).2 ∧ eGo (eNorm w g s p).2 m g ∧ (eLv w → eLv (eNorm w g s p).2) := by
  by_cases hro : 1 < eRo w
  · obtain ⟨⟨s', p', b1, b2, b3, b4, b5⟩, g2, g3, g4, g5⟩ := hG
    have e1 : s' = s := nI_inj (b1.symm.trans hs) (by have := hgo.1.1; have := hgo.2.1; omega) (by omega)
    have e2 : p' = p := nI_inj (b2.symm.trans hp) (by have := hgo.2.2.2 s' b3; have := hgo.2.2.1; omega) (by omega)
    subst e1
    subst e2
    obtain ⟨c1, n, b, n1, n2, n3, n4, n5, n6, n7, n8⟩ := eNorm_f (g := g) (s := s') (p := p') hw g3 hro b4
    generalize (eNorm w g s' p').2 = N at n3 n4 n5 n6 n7 n8
    obtain ⟨r1, r2, r3, r4, r5, r6, r7, r8, r9⟩ := n3
    have q0 := n2 0 (by omega)
    refine ⟨⟨by rw [r7]; exact hw.1, n6, by rw [r4]; exact hw.2.2.1, by rw [r2]; exact hw.2.2.2⟩, ⟨⟨s', p' - n + b, r6.trans b1, n4, b3, by omega, ?_⟩, by omega, fun q hq => ?_, by rw [r8]; exact g4, by rw [r3, r4, r7]; exact g5⟩, fun hl => ⟨fun q k hq hk => ?_, by rw [r1, r2]; exact hl.2.1, fun a d h1 h2 h3 h4 h5 => ?_⟩⟩
    · rw [n5 0 (by omega)]
      omega
    · have := n2 q (by omega)
      rw [n5 q (by omega)]
      omega
    · have := n2 q (by omega)
      rw [n5 q (by omega)] at hk
      rw [n7 q k (by omega) hk]
      split
      · unfold gnLet
        rw [if_pos ⟨b3, by omega, by omega⟩]
        exact hgl.1 _ (by have := hgo.2.2.2 s' b3; omega)
      · exact hl.1 q _ (by omega) (by omega)
    · rw [r7] at h3
      have ma := n2 a (by omega)
      have md := n2 d h3
      rw [n5 a (by omega), n5 d h3] at h4
      rw [n5 a (by omega)] at h5
      exact hl.2.2 a d h1 h2 h3 (by omega) (n8 a d (by omega) h3 (by omega) h5)
  · have e : (eNorm w g s p).2 = w := by
      unfold eNorm
      rw [if_neg hro]
    rw [e]
    exact ⟨hw, hG, id⟩
/-- the records of a table while they are made normal -/
def nrI (X : Nat → Prop) (W : Nat → eV) (u : Nat → Nat) (g : gV) (m n j : Nat) (U : Nat → eV) : Prop := (∀ z, X z → enOk (U z)) ∧ (∀ z, (∀ k, k < 60 → z ≠ u k) → U z = W z) ∧ (∀ k, k < n → eGo (U (u k)) m g ∧ eLv (U (u k))) ∧ ∀ k, j ≤ k → k < 60 → U (u k) = W (u k)
theorem nrI_s {X : Nat → Prop} {W : Nat → eV} {u : Nat → Nat} {g : gV} {m n j : Nat} {U : Nat → eV} (hgo : gOk g) (hgl : gLv g) (hinj : ∀ a b, a < 60 → b < 60 → u a = u b → a = b) (hX : ∀ k, k < 60 → X (u k)) (hn : n ≤ 60) (hj : j < n) (h : nrI X W u g m n j U) : nrI X W u g m n (j + 1) (va_up U (u j) (nrS g (U (u j))).2) := by
  obtain ⟨h1, h2, h3, h4⟩ := h
  obtain ⟨hG, hL⟩ := h3 j hj
  obtain ⟨⟨s, p, b1, b2, b3, b4, b5⟩, -⟩ := id hG
  have hc8 := hgo.1.1
  have hc9 := hgo.2.1
  have hgz := hgo.2.2.2 s b3
  have hto := hgo.2.2.1
  have e : nrS g (U (u j)) = eNorm (U (u j)) g s p := by
    unfold nrS
    rw [b1, b2, nI_clamp (n := s) (by omega), nI_clamp (n := p) (by omega)]
  rw [e]
  obtain ⟨k1, k2, k3⟩ := eNorm_k (h1 _ (hX j (by omega))) hgo hgl hG b1 b2 (by omega) (by omega)
  refine ⟨fun z hz => ?_, fun z hz => (va_up_ne _ _ (hz j (by omega))).trans (h2 z hz), fun k hk => ?_, fun k a b => ?_⟩
  · by_cases q : z = u j
    · rw [q, va_up_self]; exact k1
    · rw [va_up_ne _ _ q]; exact h1 z hz
  · by_cases q : k = j
    · rw [q, va_up_self]; exact ⟨k2, k3 hL⟩
    · rw [va_up_ne _ _ (fun z => q (hinj k j (by omega) (by omega) z))]; exact h3 k hk
  · rw [va_up_ne _ _ (fun z => by have := hinj k j b (by omega) z; omega)]
    exact h4 k (by omega) b
theorem nrI_L {X : Nat → Prop} {W : Nat → eV} {u : Nat → Nat} {g : gV} {m n : Nat} (hgo : gOk g) (hgl : gLv g) (hinj : ∀ a b, a < 60 → b < 60 → u a = u b → a = b) (hX : ∀ k, k < 60 → X (u k)) (hn : n ≤ 60) : ∀ (d j : Nat) (U : Nat → eV) (c : Nat), j + d = n → nrI X W u g m n j U → nrI X W u g m n n (nrL g u d j U c).1 := by
  intro d
  induction d with
  | zero => intro j U c hj h; rw [show n = j by omega] at h ⊢; exact h
  | succ d ih =>
    intro j U c hj h
    exact ih (j + 1) _ _ (by omega) (nrI_s hgo hgl hinj hX hn (by omega) h)
theorem dOk_nor {D : Nat} {x : dV} {q : Int32} (h : dOk D x) (hl : dLv x) : dOk D (pNor x q).2 := by
  unfold pNor
  split
  · exact h
  · rename_i i hi
    have i2 := (ix_r hi (by decide)).1
    obtain ⟨h1, h2, h3, h4, h5, h6, h7⟩ := id h
    have hz8 := (h3 i (by omega)).2
    have hinj : ∀ a b, a < 60 → b < 60 → (dZ x i).1 a = (dZ x i).1 b → a = b := fun a b a1 b1 e => Classical.byContradiction (fun q => dre_i h (show i < 3 by omega) a b a1 b1 q e)
    obtain ⟨n1, n2, n3, n4⟩ := nrI_L (X := dX D) (W := dW x) (u := (dZ x i).1) (m := (dZ x i).2.1.1) (h2 0 (by omega)) hl.1 hinj (fun k hk => dre_X h (show i < 3 by omega) k hk) hz8 ((dZ x i).2.2 - 0) 0 (dW x) 0 (by omega) ⟨h4, fun _ _ => rfl, fun k hk => ⟨h6 i k i2 hk, (hl.2 i i2).2 k hk⟩, fun _ _ _ => rfl⟩
    refine ⟨h1, h2, h3, n1, h5, fun a k ha hk => ?_, h7⟩
    show eGo ((nrL (dG x 0) (dZ x i).1 ((dZ x i).2.2 - 0) 0 (dW x) 0).1 ((dZ x a).1 k)) _ _
    by_cases e : a = i
    · subst e
      exact (n3 k hk).1
    · have hk' : k < (dZ x a).2.2 := hk
      have := (h3 a (by omega)).2
      rw [n2 _ (fun l hl q => by have := (h5.2 a k i l (by omega) (by omega) (by omega) hl q).1; omega)]
      exact h6 a k ha hk
theorem mFr_n {B : Nat → Prop} {r : Nat} {y z v : mV} (h : mFr B y z) (h2 : nFr r z v) (hB : B r) : mFr B y v := ⟨h2.1.trans h.1, fun k hk => (h2.2.1 k (by omega) (by omega) (by omega)).trans (h.2.1 k hk), h2.2.2.2.2.2, fun a w m hb ha hw hm => nFr_o h2 (h.2.2.2 a w m hb ha hw hm) hw (fun e => hb (e ▸ hB))⟩
set_option maxRecDepth 100000 in
set_option maxHeartbeats 1500000 in
/-- model: normalise -/
theorem sX10_normalise {E : eN} (hE : eOk E) {f : aH} {t : Nat} {M D : Nat} {y : mV} {x : dV} {q : Int32} (hR : mRel x y) (hI : dOk D x) : mT E mX10_normalise 0 0 [.ref M, .int q] (mdS f M y) t (fun o f' t' => o = .inl (some (.int ((pNor x q).1.getD (nI 0)))) ∧ t' = t ∧ mAns M f (pNor x q) f') := by
  refine mT_of (n := 3) (lo := [some (.ref M), some (.int q), none, none, none]) (by decide) (by exact Nat.le_of_ble_eq_true rfl) rfl rfl ?_
  have lp : ∀ i : Nat, ix 2 (nI i) = some i → i < 2 → ∀ (d j : Nat) (UU : Nat → eV) (c : Nat) (v : mV) (z4 : Option Value), j + d = (dZ x i).2.2 → c ≤ j → mFr (tB i) (y.1, va_up y.2 0 (bI (! true))) v → (∀ k, k < (dZ x i).2.2 → mE v (60 * i + k) (UU ((dZ x i).1 k)) (dZ x i).2.1.1) → nrL (dG x 0) (dZ x i).1 ((dZ x i).2.2 - 0) 0 (dW x) 0 = nrL (dG x 0) (dZ x i).1 ((dZ x i).2.2 - j) j UU c → (nrI (dX D) (dW x) (dZ x i).1 (dG x 0) (dZ x i).2.1.1 (dZ x i).2.2 j UU) → V E mX10_normalise 0 0 (fun o f' t' => o = .inl (some (.int ((pNor x (nI i)).1.getD (nI 0)))) ∧ t' = t ∧ mAns M f (pNor x (nI i)) f') 19 [some (.ref M), some (.int (nI i)), some (.int (nI c)), some (.int (nI j)), z4] [] (mdS f M v) t 0 0 := by
    intro i hi0 i2 d
    have hzo := hI.2.2.1 i (by omega)
    have hz8 := hzo.2
    have hn3 := hzo.1.1
    have hgo := hI.2.1 0 (by omega)
    have hgl := hR.2.2.2.2.2.2.2.1
    have hgt := hgo.2.2.1
    have hgc := hgo.1.1
    have hgc2 := hgo.2.1
    have hX : ∀ k, k < 60 → dX D ((dZ x i).1 k) := fun k hk => dre_X hI (show i < 3 by omega) k hk
    have hTb := hR.2.2.2.1 i i2
    have hinj : ∀ a b, a < 60 → b < 60 → (dZ x i).1 a = (dZ x i).1 b → a = b := fun a b h1 h2 e => Classical.byContradiction (fun q => dre_i hI (show i < 3 by omega) a b h1 h2 q e)
    induction d using Nat.strongRecOn with
    | _ d ih =>
    intro j UU c v z4 hd hcj hv hv9 hr hni
    have hMv : v.1 16 i = nI (dZ x i).2.2 := by
      rw [hv.2.1 16 (by omega)]
      exact hTb.1
    refine v_iload_n dX10_normalise_19 rfl (by rfl) ?_
    refine v_aload_n dX10_normalise_20 rfl (by rfl) ?_
    refine v_getf hE dX10_normalise_21 fX10_60 mdS_M (by rfl) ?_
    refine v_iload_n dX10_normalise_24 rfl (by rfl) ?_
    refine m_iald hE (k := 16) dX10_normalise_25 (by decide) (by decide) rfl (show _ < 4 by omega) (by omega) ?_
    refine v_eqi (y := nI (dZ x i).2.2) hMv ?_
    refine v_icmp_geN (tgt := 65) dX10_normalise_26 (by decide) (by omega) (by omega) (fun c26 => ?_) (fun c26 => ?_)
    · refine v_iload_n dX10_normalise_65 rfl (by rfl) ?_
      refine v_iret dX10_normalise_66 rfl (by first | rfl | exact nar_bI) ?_
      have e9 : j = (dZ x i).2.2 := by omega
      subst e9
      rw [Nat.sub_self] at hr
      have hr : nrL (dG x 0) (dZ x i).1 ((dZ x i).2.2 - 0) 0 (dW x) 0 = (UU, c) := hr
      have hR2 : pNor x (nI i) = (some (nI c), xW x UU) := by
        unfold pNor
        rw [hi0]
        show (some (nI (nrL (dG x 0) (dZ x i).1 ((dZ x i).2.2 - 0) 0 (dW x) 0).2), xW x (nrL (dG x 0) (dZ x i).1 ((dZ x i).2.2 - 0) 0 (dW x) 0).1) = _
        rw [hr]
      rw [hR2]
      refine ⟨rfl, rfl, v, rfl, mRel_z (Z := dZ x) (W := UU) hR (fun k hk => hv.2.1 k (by omega)) (fun j h0 h52 => ?_) hv.2.2.1 (fun i' hi' => ?_) ?_, ?_⟩
      · rw [hv.1]
        exact va_up_ne _ _ (by omega)
      · obtain ⟨t1, t2, t3, t4⟩ := hR.2.2.2.1 i' hi'
        refine ⟨by rw [hv.2.1 16 (by omega)]; exact t1, by rw [hv.2.1 17 (by omega)]; exact t2, fun s hs => by rw [hv.2.1 19 (by omega), hv.2.1 18 (by omega)]; exact t3 s hs, fun k hk => ?_⟩
        by_cases e : i' = i
        · subst e
          exact hv9 k hk
        · have hz' := (hI.2.2.1 i' (by omega)).2
          rw [hni.2.1 _ (fun l hl q => by have := (hI.2.2.2.2.1.2 i' k i l (by omega) (by omega) (by omega) hl q).1; omega)]
          exact hv.2.2.2 _ _ _ (fun z => by have := z.1; have := z.2; omega) (t4 k hk) (hI.2.2.2.1 _ (dre_X hI (show i' < 3 by omega) k (by omega))) (hI.2.2.1 i' (by omega)).1.1
      · obtain ⟨l1, l2⟩ := hR.2.2.2.2.2.2.2
        refine dLv_z l1 (fun i' hi' => ⟨(l2 i' hi').1, fun k hk => ?_⟩)
        by_cases e : i' = i
        · subst e
          exact (hni.2.2.1 k hk).2
        · have hz' := (hI.2.2.1 i' (by omega)).2
          rw [hni.2.1 _ (fun l hl q => by have := (hI.2.2.2.2.1.2 i' k i l (by omega) (by omega) (by omega) hl q).1; omega)]
          exact (l2 i' hi').2 k hk
      · rw [hv.1]
        rfl
    · have hrec := hv9 j (by omega)
      have hwo : enOk (UU ((dZ x i).1 j)) := hni.1 _ (hX j (by omega))
      have hro4 := hwo.1
      have hst : nrL (dG x 0) (dZ x i).1 ((dZ x i).2.2 - j) j UU c = nrL (dG x 0) (dZ x i).1 ((dZ x i).2.2 - (j + 1)) (j + 1) (va_up UU ((dZ x i).1 j) (nrS (dG x 0) (UU ((dZ x i).1 j))).2) (if (nrS (dG x 0) (UU ((dZ x i).1 j))).1 = true then c + 1 else c) := by
        rw [show (dZ x i).2.2 - j = ((dZ x i).2.2 - (j + 1)) + 1 by omega]
        rfl
      have hnx := nrI_s hgo hgl hinj hX hz8 (show j < (dZ x i).2.2 by omega) hni
      refine v_bipush (v := nI 60) dX10_normalise_29 (by decide) ?_
      refine v_iload_n dX10_normalise_31 rfl (by rfl) ?_
      refine v_imulN dX10_normalise_32 ?_
      refine v_iload_n dX10_normalise_33 rfl (by rfl) ?_
      refine v_iaddN dX10_normalise_34 ?_
      refine v_istore dX10_normalise_35 (by decide) ?_
      refine v_aload_n dX10_normalise_37 rfl (by rfl) ?_
      refine v_getf hE dX10_normalise_38 fX10_84 mdS_M (by rfl) ?_
      refine v_iload dX10_normalise_41 (by rfl) ?_
      refine m_iald hE (k := 24) dX10_normalise_43 (by decide) (by decide) rfl (show _ < 240 by omega) (by omega) ?_
      refine v_eqi (y := nI (eRo (UU ((dZ x i).1 j)) - 1)) hrec.2.2.2.2.1 ?_
      refine v_if_leN (tgt := 59) dX10_normalise_44 (by decide) (by omega) (fun c44 => ?_) (fun c44 => ?_)
      · refine v_iincN (y := 1) dX10_normalise_59 (by rfl) (by decide) (by decide) ?_
        refine v_goto (tgt := 19) dX10_normalise_62 (by decide) ?_
        have e1 : nrS (dG x 0) (UU ((dZ x i).1 j)) = (false, UU ((dZ x i).1 j)) := by
          unfold nrS eNorm
          exact if_neg (by have := hrec.2.2.2.2.2.1; omega)
        rw [e1] at hst hnx
        have e2 : va_up UU ((dZ x i).1 j) (UU ((dZ x i).1 j)) = UU := va_up_id rfl
        dsimp only at hst hnx
        rw [e2] at hst hnx
        exact ih (d - 1) (by omega) (j + 1) UU c v _ (by omega) (by omega) hv hv9 (hr.trans hst) hnx
      · obtain ⟨⟨s, p, b1, b2, b3, b4, b5⟩, g2, g3, g4, g5⟩ := (hni.2.2.1 j (by omega)).1
        have hgz := hgo.2.2.2 s b3
        have e1 : nrS (dG x 0) (UU ((dZ x i).1 j)) = eNorm (UU ((dZ x i).1 j)) (dG x 0) s p := by
          unfold nrS
          rw [b1, b2, nI_clamp (n := s) (by omega), nI_clamp (n := p) (by omega)]
        have hgv : mGn v (dG x 0) := by
          obtain ⟨g1, g2, g3⟩ := hR.2.2.1
          refine ⟨by rw [hv.1]; exact g1, fun s' hs' => ?_, fun k hk => ?_⟩
          · rw [hv.2.1 3 (by omega), hv.2.1 2 (by omega), hv.2.1 5 (by omega), hv.2.1 6 (by omega), hv.2.1 7 (by omega), hv.2.1 8 (by omega)]
            exact g2 s' hs'
          · rw [hv.2.1 4 (by omega)]
            exact g3 k hk
        refine v_aload_n dX10_normalise_47 rfl (by rfl) ?_
        refine v_iload dX10_normalise_48 (by rfl) ?_
        refine w_callV hE dX10_normalise_50 kX10_328 mdS_M (by rfl) (by rfl) (sX10_makeNormal hE (g := (dG x 0)) (s := s) (p := p) hrec hwo g3 (by omega) hgv hgo hgl hv.2.2.1 (by omega) b1 b2 b3 b4 b5) rfl (by decide) (by decide) (by exact Nat.le_of_ble_eq_true rfl) (by omega) (by omega) (fun v9 g9 u9 h9 => ?_) (fun _ _ _ h => by cases h.1)
        obtain ⟨hv9', hu9, v1, hg9, hn1, hE1⟩ := h9
        replace hu9 := hu9.symm
        subst hu9
        subst hg9
        cases hv9'
        have hv2 : ∀ k, k < (dZ x i).2.2 → mE v1 (60 * i + k) (va_up UU ((dZ x i).1 j) (eNorm (UU ((dZ x i).1 j)) (dG x 0) s p).2 ((dZ x i).1 k)) (dZ x i).2.1.1 := fun k hk => by
          by_cases e : k = j
          · subst e
            rw [va_up_self]
            exact hE1
          · rw [va_up_ne _ _ (fun z => e (hinj k j (by omega) (by omega) z))]
            exact nFr_o hn1 (hv9 k hk) (hni.1 _ (hX k (by omega))) (by omega)
        refine v_if_eqB (tgt := 59) dX10_normalise_53 (by decide) (fun c53 => ?_) (fun c53 => ?_)
        · refine v_iincN (y := 1) dX10_normalise_59 (by rfl) (by decide) (by decide) ?_
          refine v_goto (tgt := 19) dX10_normalise_62 (by decide) ?_
          rw [e1, if_neg (by rw [c53]; decide)] at hst
          rw [e1] at hnx
          exact ih (d - 1) (by omega) (j + 1) _ c v1 _ (by omega) (by omega) (mFr_n hv hn1 ⟨by omega, by omega⟩) hv2 (hr.trans hst) hnx
        · refine v_iincN (y := 1) dX10_normalise_56 (by rfl) (by decide) (by decide) ?_
          refine v_iincN (y := 1) dX10_normalise_59 (by rfl) (by decide) (by decide) ?_
          refine v_goto (tgt := 19) dX10_normalise_62 (by decide) ?_
          rw [e1, if_pos c53] at hst
          rw [e1] at hnx
          exact ih (d - 1) (by omega) (j + 1) _ (c + 1) v1 _ (by omega) (by omega) (mFr_n hv hn1 ⟨by omega, by omega⟩) hv2 (hr.trans hst) hnx
  refine v_aload_n dX10_normalise_0 rfl (by rfl) ?_
  refine v_iload_n dX10_normalise_1 rfl (by rfl) ?_
  refine v_iconst (v := nI 0) dX10_normalise_2 (by decide) ?_
  refine v_iconst (v := nI 1) dX10_normalise_3 (by decide) ?_
  refine w_callS hE dX10_normalise_4 kX10_136 (by rfl) (sX10_in hE) rfl (by decide) (by decide) (by exact Nat.le_of_ble_eq_true rfl) (by omega) (by omega) (fun v9 g9 u9 h9 => ?_) (fun _ _ _ h => by cases h.1)
  obtain ⟨hv9, hu9, hg9⟩ := h9
  replace hu9 := hu9.symm
  replace hg9 := hg9.symm
  subst hu9
  subst hg9
  cases hv9
  rw [in_ix1 (n := 1) (by omega)]
  refine w_callV hE dX10_normalise_7 kX10_143 mdS_M (by rfl) (by rfl) (sX10_goes hE) rfl (by decide) (by decide) (by exact Nat.le_of_ble_eq_true rfl) (by omega) (by omega) (fun v9 g9 u9 h9 => ?_) (fun _ _ _ h => by cases h.1)
  obtain ⟨hv9, hu9, hg9⟩ := h9
  replace hu9 := hu9.symm
  subst hu9
  subst hg9
  cases hv9
  refine v_if_neB (tgt := 15) dX10_normalise_10 (by decide) (fun c10 => ?_) (fun c10 => ?_)
  · obtain ⟨i, hi0⟩ := Option.isSome_iff_exists.mp c10
    obtain ⟨i2, i3⟩ := ix_r hi0 (by omega)
    subst i3
    rw [c10]
    refine v_iconst (v := nI 0) dX10_normalise_15 (by decide) ?_
    refine v_istore_n dX10_normalise_16 rfl (by decide) ?_
    refine v_iconst (v := nI 0) dX10_normalise_17 (by decide) ?_
    refine v_istore_n dX10_normalise_18 rfl (by decide) ?_
    exact lp i hi0 i2 (dZ x i).2.2 0 (dW x) 0 _ _ (by omega) (by omega) (mFr_0 hR.1) (hR.2.2.2.1 i i2).2.2.2 rfl ⟨hI.2.2.2.1, fun _ _ => rfl, fun k hk => ⟨hI.2.2.2.2.2.1 i k i2 hk, (hR.2.2.2.2.2.2.2.2 i i2).2 k hk⟩, fun _ _ _ => rfl⟩
  · refine v_iconst (v := nI 0) dX10_normalise_13 (by decide) ?_
    refine v_iret dX10_normalise_14 rfl (by first | rfl | exact nar_bI) ?_
    have hA : pNor x q = (none, x) := by
      unfold pNor
      split
      · rfl
      · rename_i i hi
        exfalso
        rw [show ix 2 q = some i from hi] at c10
        exact Bool.noConfusion c10
    rw [hA, c10]
    exact ⟨rfl, rfl, _, rfl, mRel_0 hR, rfl⟩
