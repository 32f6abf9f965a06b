theorem oP_haS {f : aH} {a b : Nat} {z : hV} {u : tS} (h : oP f b u) (hd : b + 1 < a ∨ a + 5 < b) : oP (haS f a z) b u := ⟨⟨(haS_ne (by omega)).trans h.1.1, (haS_ne (by omega)).trans h.1.2⟩, h.2⟩
theorem ha_oS {f : aH} {a b : Nat} {z : hV} {u : tS} (h : haP f a z) (hd : b + 1 < a ∨ a + 5 < b) : haP (oS f b u) a z := by
  obtain ⟨p0, p1, p2, p3, p4, p5⟩ := h
  exact ⟨(oS_ne (by omega) (by omega)).trans p0, (oS_ne (by omega) (by omega)).trans p1, (oS_ne (by omega) (by omega)).trans p2, (oS_ne (by omega) (by omega)).trans p3, (oS_ne (by omega) (by omega)).trans p4, (oS_ne (by omega) (by omega)).trans p5⟩
theorem hw_ext {f f' : aH} {a b : Nat} {z : hV} {u : tS} (h : haP f' a z) (h2 : oc f' b u.1 u.2.1 u.2.2) (hne : ∀ x, x < a ∨ a + 5 < x → x ≠ b → x ≠ b + 1 → f' x = f x) : f' = oS (haS f a z) b u := by
  refine oc_ext h2.1 h2.2 (fun x n1 n2 => ?_)
  by_cases hx : x < a ∨ a + 5 < x
  · rw [haS_ne hx, hne x hx n1 n2]
  · obtain ⟨p0, p1, p2, p3, p4, p5⟩ := h
    obtain ⟨q0, q1, q2, q3, q4, q5⟩ := haP_S f a z
    rcases (show x = a ∨ x = a + 1 ∨ x = a + 2 ∨ x = a + 3 ∨ x = a + 4 ∨ x = a + 5 by omega) with e | e | e | e | e | e
    · rw [e, p0, q0]
    · rw [e, p1, q1]
    · rw [e, p2, q2]
    · rw [e, p3, q3]
    · rw [e, p4, q4]
    · rw [e, p5, q5]
theorem gn_haS {f : aH} {a c : Nat} {z : hV} {g : gV} (h : gnP f c g) (hd : a + 5 < c ∨ c + 8 < a) : gnP (haS f a z) c g := by
  obtain ⟨h0, h1, h2, h3, h4, h5, h6, h7, h8⟩ := h
  refine ⟨?_, ?_, ?_, ?_, ?_, ?_, ?_, ?_, ?_⟩ <;> (rw [haS_ne (by omega)]; assumption)
theorem se_oS {f : aH} {X : Nat → Prop} {W : Nat → eV} {s b : Nat} {v : sV} {u : tS} (h : seP f X W s v) (h1 : ∀ x, X x → b + 1 < x ∨ x + 6 < b) (h2 : b + 1 < s ∨ s + 4 < b) : seP (oS f b u) X W s v := ⟨sh_oS h.1 h2, fun x hx => en_oS (h.2 x hx) (h1 x hx)⟩
def hPtL (W : Nat → eV) (e c P R : Nat → Nat) (g : gV) (j : Nat) : Nat → Nat → (Nat → Nat) → (Nat → Nat) → (Nat → Nat) → (Nat → Nat) → tS → Nat → ((Nat → Nat) × (Nat → Nat) × (Nat → Nat) × (Nat → Nat)) × tS × Nat
  | 0, _, F, S, A, B, u, n => ((F, S, A, B), u, n)
  | d + 1, k, F, S, A, B, u, n => hPtL W e c P R g j d (k + 1) (va_up F k (P k)) (va_up S k (eRs (W (e (c k))) 0)) (va_up A k ((tAdds u (prt (gLe g) (P k - n) (gSt g j + n - 1))).1 + 1)) (va_up B k (eRs (W (e (c k))) (R k))) (tAdds (tAdds u (prt (gLe g) (P k - n) (gSt g j + n - 1))) (prt (eLe (W (e (c k)))) (eRs (W (e (c k))) (R k)) (R k * 24))) (P k + eRs (W (e (c k))) 0)

set_option maxRecDepth 100000 in
set_option maxHeartbeats 4000000 in
/-- Haplotype.putOn -/
theorem sX3_putOn {E : eN} (hE : eOk E) {f : aH} {t : Nat} {a s b c q r j : Nat} {X : Nat → Prop} {W : Nat → eV} {v : sV} {z : hV} {g : gV} {u : tS} {P R : Nat → Nat} (h : haP f a z) (hs : seP f X W s v) (hv : shOk v) (hW : ∀ z, X z → enOk (W z)) (hX : ∀ i, i < 60 → X (v.1 i)) (d1 : ∀ x, X x → x + 6 < a ∨ a + 5 < x) (d2 : s + 4 < a ∨ a + 5 < s) (hg : gnP f c g) (hgo : gOk g) (d3 : a + 5 < c ∨ c + 8 < a) (hb : oP f b u) (d4 : b + 1 < a ∨ a + 5 < b) (d5 : ∀ x, X x → b + 1 < x ∨ x + 6 < b) (d6 : b + 1 < s ∨ s + 4 < b) (d7 : b + 1 < c ∨ c + 8 < b) (hq : q < 3) (hr : r < 2) (hj : j < gCt g) (hn : hCc z ≤ 60) (hc0 : ∀ k, hCh z k < 60) (hP : ∀ k, k < hCc z → ePl (W (v.1 (hCh z k))) = nI (P k) ∧ 1 ≤ P k ∧ P k + eRs (W (v.1 (hCh z k))) 0 ≤ gSz g j + 1 ∧ eCall (W (v.1 (hCh z k))) q r = nI (R k) ∧ R k < 4) (hC : ∀ k, k + 1 < hCc z → P k + eRs (W (v.1 (hCh z k))) 0 ≤ P (k + 1)) : mT E mX3_putOn 0 0 [.ref a, .ref s, .int (nI q), .int (nI r), .ref c, .int (nI j), .ref b] f t (fun o f' t' => o = .inl none ∧ t' = t ∧ f' = oS (haS f a (hCh z, (hPtL W v.1 (hCh z) P R g j (hCc z - 0) 0 (hFr z) (hSz z) (hNf z) (hNz z) u 1).1.1, (hPtL W v.1 (hCh z) P R g j (hCc z - 0) 0 (hFr z) (hSz z) (hNf z) (hNz z) u 1).1.2.1, (hPtL W v.1 (hCh z) P R g j (hCc z - 0) 0 (hFr z) (hSz z) (hNf z) (hNz z) u 1).1.2.2.1, (hPtL W v.1 (hCh z) P R g j (hCc z - 0) 0 (hFr z) (hSz z) (hNf z) (hNz z) u 1).1.2.2.2, hCc z, hCc z, gnSz g j, (tAdds (hPtL W v.1 (hCh z) P R g j (hCc z - 0) 0 (hFr z) (hSz z) (hNf z) (hNz z) u 1).2.1 (prt (gLe g) (gnSz g j + 1 - (hPtL W v.1 (hCh z) P R g j (hCc z - 0) 0 (hFr z) (hSz z) (hNf z) (hNz z) u 1).2.2) (gSt g j + (hPtL W v.1 (hCh z) P R g j (hCc z - 0) 0 (hFr z) (hSz z) (hNf z) (hNz z) u 1).2.2 - 1))).1)) b (tAdds (hPtL W v.1 (hCh z) P R g j (hCc z - 0) 0 (hFr z) (hSz z) (hNf z) (hNz z) u 1).2.1 (prt (gLe g) (gnSz g j + 1 - (hPtL W v.1 (hCh z) P R g j (hCc z - 0) 0 (hFr z) (hSz z) (hNf z) (hNz z) u 1).2.2) (gSt g j + (hPtL W v.1 (hCh z) P R g j (hCc z - 0) 0 (hFr z) (hSz z) (hNf z) (hNz z) u 1).2.2 - 1)))) := by
  refine mT_of (n := 4) (lo := [some (.ref a), some (.ref s), some (.int (nI q)), some (.int (nI r)), some (.ref c), some (.int (nI j)), some (.ref b), none, none, none, none]) (by decide) (by exact Nat.le_of_ble_eq_true rfl) rfl rfl ?_
  have lp : ∀ (d : Nat) (k : Nat) (F S A B : Nat → Nat) (y : tS) (n : Nat) (z9 z10 : Option Value), k + d = hCc z → y.1 ≤ 8000 → 1 ≤ n → n ≤ gSz g j + 1 → (k < hCc z → n ≤ P k) → (hPtL W v.1 (hCh z) P R g j (hCc z - 0) 0 (hFr z) (hSz z) (hNf z) (hNz z) u 1) = hPtL W v.1 (hCh z) P R g j (hCc z - k) k F S A B y n → V E mX3_putOn 0 0 (fun o f' t' => o = .inl none ∧ t' = t ∧ f' = oS (haS f a (hCh z, (hPtL W v.1 (hCh z) P R g j (hCc z - 0) 0 (hFr z) (hSz z) (hNf z) (hNz z) u 1).1.1, (hPtL W v.1 (hCh z) P R g j (hCc z - 0) 0 (hFr z) (hSz z) (hNf z) (hNz z) u 1).1.2.1, (hPtL W v.1 (hCh z) P R g j (hCc z - 0) 0 (hFr z) (hSz z) (hNf z) (hNz z) u 1).1.2.2.1, (hPtL W v.1 (hCh z) P R g j (hCc z - 0) 0 (hFr z) (hSz z) (hNf z) (hNz z) u 1).1.2.2.2, hCc z, hCc z, gnSz g j, (tAdds (hPtL W v.1 (hCh z) P R g j (hCc z - 0) 0 (hFr z) (hSz z) (hNf z) (hNz z) u 1).2.1 (prt (gLe g) (gnSz g j + 1 - (hPtL W v.1 (hCh z) P R g j (hCc z - 0) 0 (hFr z) (hSz z) (hNf z) (hNz z) u 1).2.2) (gSt g j + (hPtL W v.1 (hCh z) P R g j (hCc z - 0) 0 (hFr z) (hSz z) (hNf z) (hNz z) u 1).2.2 - 1))).1)) b (tAdds (hPtL W v.1 (hCh z) P R g j (hCc z - 0) 0 (hFr z) (hSz z) (hNf z) (hNz z) u 1).2.1 (prt (gLe g) (gnSz g j + 1 - (hPtL W v.1 (hCh z) P R g j (hCc z - 0) 0 (hFr z) (hSz z) (hNf z) (hNz z) u 1).2.2) (gSt g j + (hPtL W v.1 (hCh z) P R g j (hCc z - 0) 0 (hFr z) (hSz z) (hNf z) (hNz z) u 1).2.2 - 1)))) 6 [some (.ref a), some (.ref s), some (.int (nI q)), some (.int (nI r)), some (.ref c), some (.int (nI j)), some (.ref b), some (.int (nI n)), some (.int (nI k)), z9, z10] [] (oS (haS f a (hCh z, F, S, A, B, hCc z, hCt z, hTo z, hNt z)) b y) t 0 0 := by
    intro d
    induction d using Nat.strongRecOn with
    | _ d ih =>
    intro k F S A B y n z9 z10 hk hy hn1 hn2 hnx he
    have hz := haP_S f a (hCh z, F, S, A, B, hCc z, hCt z, hTo z, hNt z)
    have hz2 := ha_oS (u := y) hz d4
    obtain ⟨h0, h1, h2, h3, h4, h5⟩ := id hz2
    dsimp only [hCc, hCt, hTo, hNt, hCh, hFr, hSz, hNf, hNz] at h0 h1 h2 h3 h4 h5
    have hse := se_oS (u := y) (se_haS (z := (hCh z, F, S, A, B, hCc z, hCt z, hTo z, hNt z)) hs d1 d2) d5 d6
    obtain ⟨⟨p0, p1, p2, p3, p4⟩, hEs⟩ := id hse
    have hg2 := gn_oS (s := y) (gn_haS (z := (hCh z, F, S, A, B, hCc z, hCt z, hTo z, hNt z)) hg d3) d7
    have hb2 := oP_S (f := haS f a (hCh z, F, S, A, B, hCc z, hCt z, hTo z, hNt z)) (a := b) hy
    have gz : gnSz g j = gSz g j := if_pos hj
    have gt := hgo.2.2.1
    have ga := hgo.1.1
    have gb := hgo.2.1
    have qcc : hCc z = z.2.2.2.2.2.1 := rfl
    have gs := hgo.2.2.2 j hj
    obtain ⟨⟨c0, c1⟩, c2⟩ := id hb2
    obtain ⟨g0, g1, g2, g3, g4, g5, g6, g7, g8⟩ := id hg2
    refine v_iload dX3_putOn_6 (by rfl) ?_
    refine v_aload_n dX3_putOn_8 rfl (by rfl) ?_
    refine v_getf hE dX3_putOn_9 fX3_37 (by repeat (first | assumption | exact va_up_self _ _ _ | refine (va_up_ne _ _ (by omega)).trans ?_)) (by rfl) ?_
    refine v_icmp_geN (tgt := 139) dX3_putOn_12 (by decide) (by omega) (by omega) (fun c12 => ?_) (fun c12 => ?_)
    · refine v_aload_n dX3_putOn_139 rfl (by rfl) ?_
      refine v_aload dX3_putOn_140 (by rfl) ?_
      refine v_iload dX3_putOn_142 (by rfl) ?_
      refine w_callV hE dX3_putOn_144 kX3_84 (by repeat (first | assumption | exact va_up_self _ _ _ | refine (va_up_ne _ _ (by omega)).trans ?_)) (by rfl) (by rfl) (sX1_sizeOf hE hg2 hgo (by omega)) rfl (by decide) (by decide) (by exact Nat.le_of_ble_eq_true rfl) (by omega) (by omega) (fun v9 g9 u9 h9 => ?_) (fun _ _ _ h => by cases h.1)
      obtain ⟨hv9, hu9, hg9⟩ := h9
      replace hu9 := hu9.symm
      replace hg9 := hg9.symm
      subst hu9
      subst hg9
      cases hv9
      refine v_putf hE dX3_putOn_147 fX3_31 (by repeat (first | assumption | exact va_up_self _ _ _ | refine (va_up_ne _ _ (by omega)).trans ?_)) (by exact Nat.le_of_ble_eq_true rfl) (by rfl) (by rfl) (by rfl) ?_
      refine v_hp (show _ = oS (haS f a (hCh z, F, S, A, B, hCc z, hCt z, gnSz g j, hNt z)) b y from hw_ext ⟨(by repeat (first | assumption | exact va_up_self _ _ _ | refine (va_up_ne _ _ (by omega)).trans ?_)), (by repeat (first | assumption | exact va_up_self _ _ _ | refine (va_up_ne _ _ (by omega)).trans ?_)), (by repeat (first | assumption | exact va_up_self _ _ _ | refine (va_up_ne _ _ (by omega)).trans ?_)), (by repeat (first | assumption | exact va_up_self _ _ _ | refine (va_up_ne _ _ (by omega)).trans ?_)), (by repeat (first | assumption | exact va_up_self _ _ _ | refine (va_up_ne _ _ (by omega)).trans ?_)), (by repeat (first | assumption | exact va_up_self _ _ _ | refine (va_up_ne _ _ (by omega)).trans ?_))⟩ ⟨(by repeat (first | assumption | exact va_up_self _ _ _ | refine (va_up_ne _ _ (by omega)).trans ?_)), (by repeat (first | assumption | exact va_up_self _ _ _ | refine (va_up_ne _ _ (by omega)).trans ?_))⟩ (fun x n1 n2 n3 => by simp only [va_up]; (repeat rw [if_neg (by omega)]); rw [oS_ne n2 n3, haS_ne n1])) ?_
      obtain ⟨h0, h1, h2, h3, h4, h5⟩ := id (ha_oS (u := y) (haP_S f a (hCh z, F, S, A, B, hCc z, hCt z, gnSz g j, hNt z)) d4)
      dsimp only [hCc, hCt, hTo, hNt, hCh, hFr, hSz, hNf, hNz] at h0 h1 h2 h3 h4 h5
      obtain ⟨g0, g1, g2, g3, g4, g5, g6, g7, g8⟩ := gn_oS (s := y) (gn_haS (z := (hCh z, F, S, A, B, hCc z, hCt z, gnSz g j, hNt z)) hg d3) d7
      refine v_aload dX3_putOn_150 (by rfl) ?_
      refine v_iload dX3_putOn_152 (by rfl) ?_
      refine v_iload dX3_putOn_154 (by rfl) ?_
      refine v_aload_n dX3_putOn_156 rfl (by rfl) ?_
      refine v_getf hE dX3_putOn_157 fX3_31 (by repeat (first | assumption | exact va_up_self _ _ _ | refine (va_up_ne _ _ (by omega)).trans ?_)) (by rfl) ?_
      refine v_iconst (v := nI 1) dX3_putOn_160 (by decide) ?_
      refine v_iaddN dX3_putOn_161 ?_
      refine v_aload dX3_putOn_162 (by rfl) ?_
      refine w_callV hE dX3_putOn_164 kX3_71 (by repeat (first | assumption | exact va_up_self _ _ _ | refine (va_up_ne _ _ (by omega)).trans ?_)) (by rfl) (by rfl) (sX1_writeLetters hE (gn_oS (s := y) (gn_haS (z := (hCh z, F, S, A, B, hCc z, hCt z, gnSz g j, hNt z)) hg d3) d7) hgo (oP_S hy) hj d7 hn1 (by omega) (by omega)) rfl (by decide) (by decide) (by exact Nat.le_of_ble_eq_true rfl) (by omega) (by omega) (fun v9 g9 u9 h9 => ?_) (fun _ _ _ h => by cases h.1)
      obtain ⟨hv9, hu9, hg9⟩ := h9
      replace hu9 := hu9.symm
      replace hg9 := hg9.symm
      subst hu9
      subst hg9
      cases hv9
      refine v_hp oS_S ?_
      have hy1 : (tAdds y (prt (gLe g) (gnSz g j + 1 - n) (gSt g j + n - 1))).1 ≤ 8000 := tAdds_le hy
      obtain ⟨h0, h1, h2, h3, h4, h5⟩ := id (ha_oS (u := (tAdds y (prt (gLe g) (gnSz g j + 1 - n) (gSt g j + n - 1)))) (haP_S f a (hCh z, F, S, A, B, hCc z, hCt z, gnSz g j, hNt z)) d4)
      dsimp only [hCc, hCt, hTo, hNt, hCh, hFr, hSz, hNf, hNz] at h0 h1 h2 h3 h4 h5
      obtain ⟨⟨b0, b1⟩, b2⟩ := oP_S (f := haS f a (hCh z, F, S, A, B, hCc z, hCt z, gnSz g j, hNt z)) (a := b) hy1
      refine v_aload_n dX3_putOn_167 rfl (by rfl) ?_
      refine v_aload dX3_putOn_168 (by rfl) ?_
      refine v_getf hE dX3_putOn_170 fX3_77 (by repeat (first | assumption | exact va_up_self _ _ _ | refine (va_up_ne _ _ (by omega)).trans ?_)) (by rfl) ?_
      refine v_putf hE dX3_putOn_173 fX3_34 (by repeat (first | assumption | exact va_up_self _ _ _ | refine (va_up_ne _ _ (by omega)).trans ?_)) (by exact Nat.le_of_ble_eq_true rfl) (by rfl) (by rfl) (by rfl) ?_
      refine v_aload_n dX3_putOn_176 rfl (by rfl) ?_
      refine v_aload_n dX3_putOn_177 rfl (by rfl) ?_
      refine v_getf hE dX3_putOn_178 fX3_37 (by repeat (first | assumption | exact va_up_self _ _ _ | refine (va_up_ne _ _ (by omega)).trans ?_)) (by rfl) ?_
      refine v_putf hE dX3_putOn_181 fX3_27 (by repeat (first | assumption | exact va_up_self _ _ _ | refine (va_up_ne _ _ (by omega)).trans ?_)) (by exact Nat.le_of_ble_eq_true rfl) (by rfl) (by rfl) (by rfl) ?_
      refine v_ret dX3_putOn_184 rfl ?_
      refine ⟨rfl, rfl, ?_⟩
      rw [he, show hCc z - k = 0 by omega]
      exact hw_ext ⟨(by repeat (first | assumption | exact va_up_self _ _ _ | refine (va_up_ne _ _ (by omega)).trans ?_)), (by repeat (first | assumption | exact va_up_self _ _ _ | refine (va_up_ne _ _ (by omega)).trans ?_)), (by repeat (first | assumption | exact va_up_self _ _ _ | refine (va_up_ne _ _ (by omega)).trans ?_)), (by repeat (first | assumption | exact va_up_self _ _ _ | refine (va_up_ne _ _ (by omega)).trans ?_)), (by repeat (first | assumption | exact va_up_self _ _ _ | refine (va_up_ne _ _ (by omega)).trans ?_)), (by repeat (first | assumption | exact va_up_self _ _ _ | refine (va_up_ne _ _ (by omega)).trans ?_))⟩ ⟨(by repeat (first | assumption | exact va_up_self _ _ _ | refine (va_up_ne _ _ (by omega)).trans ?_)), (by repeat (first | assumption | exact va_up_self _ _ _ | refine (va_up_ne _ _ (by omega)).trans ?_))⟩ (fun x n1 n2 n3 => by simp only [va_up]; (repeat rw [if_neg (by omega)]); rw [oS_ne n2 n3, haS_ne n1])
    · have hck := hc0 k
      have hkk : k < hCc z := by omega
      obtain ⟨hp1, hp2, hp3, hp4, hp5⟩ := hP k hkk
      obtain ⟨x0, x1, x2, x3, x4, x5, x6⟩ := hEs _ (hX _ hck)
      have hnk := hnx hkk
      have hok := hW _ (hX _ hck)
      have hrs := hok.2.1
      have hr0 := hrs 0
      have hrr := hrs (R k)
      refine v_aload_n dX3_putOn_15 rfl (by rfl) ?_
      refine v_getf hE dX3_putOn_16 fX3_44 (by repeat (first | assumption | exact va_up_self _ _ _ | refine (va_up_ne _ _ (by omega)).trans ?_)) (by rfl) ?_
      refine v_aload_n dX3_putOn_19 rfl (by rfl) ?_
      refine v_getf hE dX3_putOn_20 fX3_9 (by repeat (first | assumption | exact va_up_self _ _ _ | refine (va_up_ne _ _ (by omega)).trans ?_)) (by rfl) ?_
      refine v_iload dX3_putOn_23 (by rfl) ?_
      refine v_iald hE dX3_putOn_25 (by repeat (first | assumption | exact va_up_self _ _ _ | refine (va_up_ne _ _ (by omega)).trans ?_)) (by omega) (by omega) ?_
      refine v_aaldC hE dX3_putOn_26 (by repeat (first | assumption | exact va_up_self _ _ _ | refine (va_up_ne _ _ (by omega)).trans ?_)) (by omega) ?_
      refine v_astore dX3_putOn_27 (by decide) ?_
      refine v_aload dX3_putOn_29 (by rfl) ?_
      refine v_iload_n dX3_putOn_31 rfl (by rfl) ?_
      refine v_iload_n dX3_putOn_32 rfl (by rfl) ?_
      refine w_callV hE dX3_putOn_33 kX3_53 (by repeat (first | assumption | exact va_up_self _ _ _ | refine (va_up_ne _ _ (by omega)).trans ?_)) (by rfl) (by rfl) (sX0_callAt hE (hEs _ (hX _ hck)) hok hq hr) rfl (by decide) (by decide) (by exact Nat.le_of_ble_eq_true rfl) (by omega) (by omega) (fun v9 g9 u9 h9 => ?_) (fun _ _ _ h => by cases h.1)
      obtain ⟨hv9, hu9, hg9⟩ := h9
      replace hu9 := hu9.symm
      replace hg9 := hg9.symm
      subst hu9
      subst hg9
      cases hv9
      refine v_eqi (y := nI (R k)) hp4 ?_
      refine v_istore dX3_putOn_36 (by decide) ?_
      refine v_aload dX3_putOn_38 (by rfl) ?_
      refine v_iload dX3_putOn_40 (by rfl) ?_
      refine v_iload dX3_putOn_42 (by rfl) ?_
      refine v_aload dX3_putOn_44 (by rfl) ?_
      refine v_getf hE dX3_putOn_46 fX3_65 (by repeat (first | assumption | exact va_up_self _ _ _ | refine (va_up_ne _ _ (by omega)).trans ?_)) (by rfl) ?_
      refine v_eqi (y := nI (P k)) hp1 ?_
      refine v_aload dX3_putOn_49 (by rfl) ?_
      refine w_callV hE dX3_putOn_51 kX3_71 (by repeat (first | assumption | exact va_up_self _ _ _ | refine (va_up_ne _ _ (by omega)).trans ?_)) (by rfl) (by rfl) (sX1_writeLetters hE hg2 hgo hb2 hj d7 hn1 hnk (by omega)) rfl (by decide) (by decide) (by exact Nat.le_of_ble_eq_true rfl) (by omega) (by omega) (fun v9 g9 u9 h9 => ?_) (fun _ _ _ h => by cases h.1)
      obtain ⟨hv9, hu9, hg9⟩ := h9
      replace hu9 := hu9.symm
      replace hg9 := hg9.symm
      subst hu9
      subst hg9
      cases hv9
      refine v_hp oS_S ?_
      have hy1 : (tAdds y (prt (gLe g) (P k - n) (gSt g j + n - 1))).1 ≤ 8000 := tAdds_le hy
      have hz3 := ha_oS (u := (tAdds y (prt (gLe g) (P k - n) (gSt g j + n - 1)))) hz d4
      obtain ⟨h0, h1, h2, h3, h4, h5⟩ := id hz3
      dsimp only [hCc, hCt, hTo, hNt, hCh, hFr, hSz, hNf, hNz] at h0 h1 h2 h3 h4 h5
      have hEs2 := fun x hx => en_oS (u := (tAdds y (prt (gLe g) (P k - n) (gSt g j + n - 1)))) ((se_haS (z := (hCh z, F, S, A, B, hCc z, hCt z, hTo z, hNt z)) hs d1 d2).2 x hx) (d5 x hx)
      obtain ⟨x0, x1, x2, x3, x4, x5, x6⟩ := hEs2 _ (hX _ hck)
      obtain ⟨⟨b0, b1⟩, b2⟩ := oP_S (f := haS f a (hCh z, F, S, A, B, hCc z, hCt z, hTo z, hNt z)) (a := b) hy1
      have dx := d1 _ (hX _ hck)
      have dx2 := d5 _ (hX _ hck)
      have dx3 : v.1 (z.1 k) + 6 < a ∨ a + 5 < v.1 (z.1 k) := dx
      have dx4 : b + 1 < v.1 (z.1 k) ∨ v.1 (z.1 k) + 6 < b := dx2
      refine v_aload_n dX3_putOn_54 rfl (by rfl) ?_
      refine v_getf hE dX3_putOn_55 fX3_15 (by repeat (first | assumption | exact va_up_self _ _ _ | refine (va_up_ne _ _ (by omega)).trans ?_)) (by rfl) ?_
      refine v_iload dX3_putOn_58 (by rfl) ?_
      refine v_aload dX3_putOn_60 (by rfl) ?_
      refine v_getf hE dX3_putOn_62 fX3_65 (by repeat (first | assumption | exact va_up_self _ _ _ | refine (va_up_ne _ _ (by omega)).trans ?_)) (by rfl) ?_
      refine v_eqi (y := nI (P k)) hp1 ?_
      refine v_iast hE dX3_putOn_65 (by repeat (first | assumption | exact va_up_self _ _ _ | refine (va_up_ne _ _ (by omega)).trans ?_)) (by omega) (by omega) ?_
      rw [upd_nI]
      refine v_aload_n dX3_putOn_66 rfl (by rfl) ?_
      refine v_getf hE dX3_putOn_67 fX3_18 (by repeat (first | assumption | exact va_up_self _ _ _ | refine (va_up_ne _ _ (by omega)).trans ?_)) (by rfl) ?_
      refine v_iload dX3_putOn_70 (by rfl) ?_
      refine v_aload dX3_putOn_72 (by rfl) ?_
      refine v_getf hE dX3_putOn_74 fX3_68 (by repeat (first | assumption | exact va_up_self _ _ _ | refine (va_up_ne _ _ (by omega)).trans ?_)) (by rfl) ?_
      refine v_iconst (v := nI 0) dX3_putOn_77 (by decide) ?_
      refine v_iald hE dX3_putOn_78 (by repeat (first | assumption | exact va_up_self _ _ _ | refine (va_up_ne _ _ (by omega)).trans ?_)) (by omega) (by omega) ?_
      refine v_iast hE dX3_putOn_79 (by repeat (first | assumption | exact va_up_self _ _ _ | refine (va_up_ne _ _ (by omega)).trans ?_)) (by omega) (by omega) ?_
      rw [upd_nI]
      refine v_aload_n dX3_putOn_80 rfl (by rfl) ?_
      refine v_getf hE dX3_putOn_81 fX3_21 (by repeat (first | assumption | exact va_up_self _ _ _ | refine (va_up_ne _ _ (by omega)).trans ?_)) (by rfl) ?_
      refine v_iload dX3_putOn_84 (by rfl) ?_
      refine v_aload dX3_putOn_86 (by rfl) ?_
      refine v_getf hE dX3_putOn_88 fX3_77 (by repeat (first | assumption | exact va_up_self _ _ _ | refine (va_up_ne _ _ (by omega)).trans ?_)) (by rfl) ?_
      refine v_iconst (v := nI 1) dX3_putOn_91 (by decide) ?_
      refine v_iaddN dX3_putOn_92 ?_
      refine v_iast hE dX3_putOn_93 (by repeat (first | assumption | exact va_up_self _ _ _ | refine (va_up_ne _ _ (by omega)).trans ?_)) (by omega) (by omega) ?_
      rw [upd_nI]
      refine v_aload_n dX3_putOn_94 rfl (by rfl) ?_
      refine v_getf hE dX3_putOn_95 fX3_24 (by repeat (first | assumption | exact va_up_self _ _ _ | refine (va_up_ne _ _ (by omega)).trans ?_)) (by rfl) ?_
      refine v_iload dX3_putOn_98 (by rfl) ?_
      refine v_aload dX3_putOn_100 (by rfl) ?_
      refine v_getf hE dX3_putOn_102 fX3_68 (by repeat (first | assumption | exact va_up_self _ _ _ | refine (va_up_ne _ _ (by omega)).trans ?_)) (by rfl) ?_
      refine v_iload dX3_putOn_105 (by rfl) ?_
      refine v_iald hE dX3_putOn_107 (by repeat (first | assumption | exact va_up_self _ _ _ | refine (va_up_ne _ _ (by omega)).trans ?_)) (by omega) (by omega) ?_
      refine v_iast hE dX3_putOn_108 (by repeat (first | assumption | exact va_up_self _ _ _ | refine (va_up_ne _ _ (by omega)).trans ?_)) (by omega) (by omega) ?_
      rw [upd_nI]
      refine v_hp (show _ = oS (haS f a (hCh z, va_up F k (P k), va_up S k (eRs (W (v.1 (hCh z k))) 0), va_up A k ((tAdds y (prt (gLe g) (P k - n) (gSt g j + n - 1))).1 + 1), va_up B k (eRs (W (v.1 (hCh z k))) (R k)), hCc z, hCt z, hTo z, hNt z)) b (tAdds y (prt (gLe g) (P k - n) (gSt g j + n - 1))) from hw_ext ⟨by repeat (first | assumption | exact va_up_self _ _ _ | refine (va_up_ne _ _ (by omega)).trans ?_), by repeat (first | assumption | exact va_up_self _ _ _ | refine (va_up_ne _ _ (by omega)).trans ?_), by repeat (first | assumption | exact va_up_self _ _ _ | refine (va_up_ne _ _ (by omega)).trans ?_), by repeat (first | assumption | exact va_up_self _ _ _ | refine (va_up_ne _ _ (by omega)).trans ?_), by repeat (first | assumption | exact va_up_self _ _ _ | refine (va_up_ne _ _ (by omega)).trans ?_), by repeat (first | assumption | exact va_up_self _ _ _ | refine (va_up_ne _ _ (by omega)).trans ?_)⟩ ⟨(by repeat (first | assumption | exact va_up_self _ _ _ | refine (va_up_ne _ _ (by omega)).trans ?_)), (by repeat (first | assumption | exact va_up_self _ _ _ | refine (va_up_ne _ _ (by omega)).trans ?_))⟩ (fun x n1 n2 n3 => by simp only [va_up]; (repeat rw [if_neg (by omega)]); rw [oS_ne n2 n3, haS_ne n1])) ?_
      have hse3 := se_oS (u := (tAdds y (prt (gLe g) (P k - n) (gSt g j + n - 1)))) (se_haS (z := (hCh z, va_up F k (P k), va_up S k (eRs (W (v.1 (hCh z k))) 0), va_up A k ((tAdds y (prt (gLe g) (P k - n) (gSt g j + n - 1))).1 + 1), va_up B k (eRs (W (v.1 (hCh z k))) (R k)), hCc z, hCt z, hTo z, hNt z)) hs d1 d2) d5 d6
      obtain ⟨x0, x1, x2, x3, x4, x5, x6⟩ := hse3.2 _ (hX _ hck)
      refine v_aload dX3_putOn_109 (by rfl) ?_
      refine v_iload dX3_putOn_111 (by rfl) ?_
      refine v_aload dX3_putOn_113 (by rfl) ?_
      refine w_callV hE dX3_putOn_115 kX3_80 (by repeat (first | assumption | exact va_up_self _ _ _ | refine (va_up_ne _ _ (by omega)).trans ?_)) (by rfl) (by rfl) (sX0_writeRow hE (hse3.2 _ (hX _ hck)) hok (oP_S hy1) (by have := d5 _ (hX _ hck); omega) hp5) rfl (by decide) (by decide) (by exact Nat.le_of_ble_eq_true rfl) (by omega) (by omega) (fun v9 g9 u9 h9 => ?_) (fun _ _ _ h => by cases h.1)
      obtain ⟨hv9, hu9, hg9⟩ := h9
      replace hu9 := hu9.symm
      replace hg9 := hg9.symm
      subst hu9
      subst hg9
      cases hv9
      refine v_hp oS_S ?_
      have hse4 := se_oS (u := (tAdds (tAdds y (prt (gLe g) (P k - n) (gSt g j + n - 1))) (prt (eLe (W (v.1 (hCh z k)))) (eRs (W (v.1 (hCh z k))) (R k)) (R k * 24)))) (se_haS (z := (hCh z, va_up F k (P k), va_up S k (eRs (W (v.1 (hCh z k))) 0), va_up A k ((tAdds y (prt (gLe g) (P k - n) (gSt g j + n - 1))).1 + 1), va_up B k (eRs (W (v.1 (hCh z k))) (R k)), hCc z, hCt z, hTo z, hNt z)) hs d1 d2) d5 d6
      obtain ⟨x0, x1, x2, x3, x4, x5, x6⟩ := hse4.2 _ (hX _ hck)
      refine v_aload dX3_putOn_118 (by rfl) ?_
      refine v_getf hE dX3_putOn_120 fX3_65 (by repeat (first | assumption | exact va_up_self _ _ _ | refine (va_up_ne _ _ (by omega)).trans ?_)) (by rfl) ?_
      refine v_eqi (y := nI (P k)) hp1 ?_
      refine v_aload dX3_putOn_123 (by rfl) ?_
      refine v_getf hE dX3_putOn_125 fX3_68 (by repeat (first | assumption | exact va_up_self _ _ _ | refine (va_up_ne _ _ (by omega)).trans ?_)) (by rfl) ?_
      refine v_iconst (v := nI 0) dX3_putOn_128 (by decide) ?_
      refine v_iald hE dX3_putOn_129 (by repeat (first | assumption | exact va_up_self _ _ _ | refine (va_up_ne _ _ (by omega)).trans ?_)) (by omega) (by omega) ?_
      refine v_iaddN dX3_putOn_130 ?_
      refine v_istore dX3_putOn_131 (by decide) ?_
      refine v_iincN (y := 1) dX3_putOn_133 (by rfl) (by decide) (by decide) ?_
      refine v_goto (tgt := 6) dX3_putOn_136 (by decide) ?_
      exact ih (d - 1) (by omega) (k + 1) _ _ _ _ _ _ _ _ (by omega) (tAdds_le hy1) (by omega) (by omega) (fun hk2 => hC k hk2) (he.trans (by rw [show hCc z - k = (hCc z - (k + 1)) + 1 by omega]; rfl))
  refine v_iconst (v := nI 1) dX3_putOn_0 (by decide) ?_
  refine v_istore dX3_putOn_1 (by decide) ?_
  refine v_iconst (v := nI 0) dX3_putOn_3 (by decide) ?_
  refine v_istore dX3_putOn_4 (by decide) ?_
  refine v_hp (show f = oS (haS f a (hCh z, hFr z, hSz z, hNf z, hNz z, hCc z, hCt z, hTo z, hNt z)) b u from by rw [show (hCh z, hFr z, hSz z, hNf z, hNz z, hCc z, hCt z, hTo z, hNt z) = z from rfl, haS_id h, oS_id hb]) ?_
  exact lp (hCc z) 0 _ _ _ _ _ 1 none none (by omega) hb.2 (by omega) (by omega) (fun hk => (hP 0 hk).2.1) rfl
