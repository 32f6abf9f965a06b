theorem ltr_62 : ltr (nI 62) = -1 := by decide
theorem ltr_10 : ltr (nI 10) = -1 := by decide
theorem ltr_m1 : ltr (-1) = -1 := by decide
theorem ltr_c {x : Int32} (h : ¬ ltr x = -1) : ∃ c, c < 128 ∧ ltr x = nI c := by
  unfold ltr at h ⊢
  by_cases e0 : x = nI 65
  · exact ⟨65, by decide, by rw [if_pos e0]⟩
  by_cases e1 : x = nI 67
  · exact ⟨67, by decide, by rw [if_neg e0, if_pos e1]⟩
  by_cases e2 : x = nI 71
  · exact ⟨71, by decide, by rw [if_neg e0, if_neg e1, if_pos e2]⟩
  by_cases e3 : x = nI 78
  · exact ⟨78, by decide, by rw [if_neg e0, if_neg e1, if_neg e2, if_pos e3]⟩
  by_cases e4 : x = nI 84
  · exact ⟨84, by decide, by rw [if_neg e0, if_neg e1, if_neg e2, if_neg e3, if_pos e4]⟩
  by_cases e5 : x = nI 97
  · exact ⟨65, by decide, by rw [if_neg e0, if_neg e1, if_neg e2, if_neg e3, if_neg e4, if_pos e5]⟩
  by_cases e6 : x = nI 99
  · exact ⟨67, by decide, by rw [if_neg e0, if_neg e1, if_neg e2, if_neg e3, if_neg e4, if_neg e5, if_pos e6]⟩
  by_cases e7 : x = nI 103
  · exact ⟨71, by decide, by rw [if_neg e0, if_neg e1, if_neg e2, if_neg e3, if_neg e4, if_neg e5, if_neg e6, if_pos e7]⟩
  by_cases e8 : x = nI 110
  · exact ⟨78, by decide, by rw [if_neg e0, if_neg e1, if_neg e2, if_neg e3, if_neg e4, if_neg e5, if_neg e6, if_neg e7, if_pos e8]⟩
  by_cases e9 : x = nI 116
  · exact ⟨84, by decide, by rw [if_neg e0, if_neg e1, if_neg e2, if_neg e3, if_neg e4, if_neg e5, if_neg e6, if_neg e7, if_neg e8, if_pos e9]⟩
  exact absurd (by rw [if_neg e0, if_neg e1, if_neg e2, if_neg e3, if_neg e4, if_neg e5, if_neg e6, if_neg e7, if_neg e8, if_neg e9]) h
theorem ltk {v : rV} {g : gV} {x : Int32} (h : rSt v = 3 ∨ rSt v = 4 ∨ rSt v = 5) (hx : ¬ ltr x = -1) : rTake v g x = rTakeL v g (ltr x) := by
  have n62 : ¬ x = nI 62 := fun e => hx (by rw [e]; exact ltr_62)
  have n10 : ¬ x = nI 10 := fun e => hx (by rw [e]; exact ltr_10)
  by_cases h4 : rSt v = 4
  · rw [tk4 h4]
    unfold rLett
    rw [if_neg n10, if_neg hx]
  · rw [tkLn (by omega) (by omega) (by omega)]
    unfold rLine
    rw [if_neg (fun q => n62 q.1), if_pos ⟨hx, by omega⟩]
theorem ltf {v : rV} {g : gV} {x : Int32} (h : rSt v = 3 ∨ (rSt v = 5 ∧ ¬ x = nI 62) ∨ (rSt v = 4 ∧ ¬ x = nI 10)) (hx : ltr x = -1) : rTake v g x = (false, rFail v 2, g) := by
  rcases h with h | ⟨h, h2⟩ | ⟨h, h2⟩
  · rw [tkLn (by omega) (by omega) (by omega)]
    unfold rLine
    rw [if_neg (fun q => q.2 h), if_neg (fun q => q.1 hx)]
  · rw [tkLn (by omega) (by omega) (by omega)]
    unfold rLine
    rw [if_neg (fun q => h2 q.1), if_neg (fun q => q.1 hx)]
  · rw [tk4 h]
    unfold rLett
    rw [if_neg h2, if_pos hx]
theorem lte {v : rV} {g : gV} (h : rSt v = 4) : rTake v g (nI 10) = (true, (rEndL v g).1, (rEndL v g).2) := by
  rw [tk4 h]
  exact if_pos rfl
/-- while a sequence's letters are read -/
def ltQ (z : mV) (g g0 : gV) (s p0 p1 w : Nat) : Prop := g.1 = g0.1 ∧ gCt g = s + 1 ∧ gSt g = gSt g0 ∧ (∀ i, i ≠ s → gSz g i = gSz g0 i ∧ gWi g i = gWi g0 i ∧ gTp g i = gTp g0 i) ∧ gTo g ≤ 3000 ∧ z.2 45 = nI (gTo g) ∧ (∀ k, k < gTo g → z.1 11 k = gLe g k ∧ ∃ c, c < 128 ∧ gLe g k = nI c) ∧ z.1 13 s = nI (gSz g s) ∧ gSz g s ≤ gTo g ∧ (gSz g s = 0 → p1 = p0) ∧ (gSz g s ≠ 0 → gTp g s = nI p0) ∧ gWi g s = w
theorem ltQ_p {z : mV} {g g0 : gV} {s p0 p1 p2 w : Nat} (h : ltQ z g g0 s p0 p1 w) (hz : gSz g s ≠ 0) : ltQ z g g0 s p0 p2 w := by
  obtain ⟨h1, h2, h3, h4, h5, h6, h7, h8, h9, ha, hb, hc⟩ := h
  exact ⟨h1, h2, h3, h4, h5, h6, h7, h8, h9, fun q => absurd q hz, hb, hc⟩
theorem ltQ_w {z : mV} {g g0 : gV} {s p0 p1 p2 w n : Nat} (h : ltQ z g g0 s p0 p1 w) (hz : gSz g s ≠ 0) : ltQ z (gnWidth g n) g0 s p0 p2 n := by
  obtain ⟨h1, h2, h3, h4, h5, h6, h7, h8, h9, ha, hb, hc⟩ := h
  have e : gnWidth g n = (g.1, gLe g, gSt g, gSz g, va_up (gWi g) s n, gTp g, gCt g, gTo g) := by
    unfold gnWidth
    rw [show gCt g - 1 = s by omega]
  rw [e]
  exact ⟨h1, h2, h3, fun i hi => ⟨(h4 i hi).1, (va_up_ne _ _ hi).trans (h4 i hi).2.1, (h4 i hi).2.2⟩, h5, h6, h7, h8, h9, fun q => absurd q hz, hb, va_up_self _ _ _⟩
theorem ltQ_a {z : mV} {g g0 : gV} {s p0 p1 w c : Nat} (h : ltQ z g g0 s p0 p1 w) (ht : gTo g < 3000) (hc : c < 128) : ltQ (va_up (va_up z.1 11 (upd (z.1 11) (gTo g) (nI c))) 13 (upd (z.1 13) s (nI (gSz g s + 1))), va_up z.2 45 (nI (gTo g + 1))) (gnAdd g (nI c) (nI p1)) g0 s p0 (p1 + 1) w ∧ gSz (gnAdd g (nI c) (nI p1)) s ≠ 0 := by
  obtain ⟨h1, h2, h3, h4, h5, h6, h7, h8, h9, ha, hb, hw⟩ := h
  have e : gnAdd g (nI c) (nI p1) = (g.1, upd (gLe g) (gTo g) (nI c), gSt g, va_up (gSz g) s (gSz g s + 1), gWi g, (if gSz g s = 0 then upd (gTp g) s (nI p1) else gTp g), gCt g, gTo g + 1) := by
    unfold gnAdd
    rw [if_pos ht, show gCt g - 1 = s by omega]
  rw [e]
  have e0 : (va_up (gSz g) s (gSz g s + 1)) s = gSz g s + 1 := va_up_self _ _ _
  refine ⟨⟨h1, h2, h3, fun i hi => ⟨(va_up_ne _ _ hi).trans (h4 i hi).1, (h4 i hi).2.1, ?_⟩, ht, rfl, fun k hk => ?_, ?_, ?_, fun q => ?_, fun _ => ?_, hw⟩, ?_⟩
  · show (if gSz g s = 0 then upd (gTp g) s (nI p1) else gTp g) i = _
    split
    · rw [updN hi]; exact (h4 i hi).2.2
    · exact (h4 i hi).2.2
  · show upd (z.1 11) (gTo g) (nI c) k = upd (gLe g) (gTo g) (nI c) k ∧ ∃ c', c' < 128 ∧ upd (gLe g) (gTo g) (nI c) k = nI c'
    have hk : k < gTo g + 1 := hk
    by_cases q : k = gTo g
    · rw [q, updS, updS]
      exact ⟨rfl, c, hc, rfl⟩
    · rw [updN q, updN q]
      exact h7 k (by omega)
  · show upd (z.1 13) s (nI (gSz g s + 1)) s = nI ((va_up (gSz g) s (gSz g s + 1)) s)
    rw [updS, e0]
  · show (va_up (gSz g) s (gSz g s + 1)) s ≤ gTo g + 1
    rw [e0]
    omega
  · have q : (va_up (gSz g) s (gSz g s + 1)) s = 0 := q
    rw [e0] at q
    omega
  · show (if gSz g s = 0 then upd (gTp g) s (nI p1) else gTp g) s = _
    split
    · rename_i q
      rw [updS, ha q]
    · rename_i q
      exact hb q
  · show (va_up (gSz g) s (gSz g s + 1)) s ≠ 0
    rw [e0]
    omega
def rL0 (y y' : mV) : Prop := (∀ k, k < 11 ∨ 15 < k → y'.1 k = y.1 k) ∧ aNw y'.1
def rL1 (y z : mV) (s q p0 : Nat) : Prop := rL0 y z ∧ (∀ k i, i ≠ s → 12 ≤ k → z.1 k i = y.1 k i) ∧ z.1 12 s = nI q ∧ z.1 14 s = nI p0 ∧ ∀ j, j ≠ 45 → z.2 j = y.2 j
theorem rL1_0 {y : mV} {s q p0 : Nat} {g : gV} (h : aNw y.1) (hq : gSt g s = q) : rL1 y (va_up (va_up (va_up y.1 12 (upd (y.1 12) s (nI q))) 14 (upd (y.1 14) s (nI p0))) 13 (upd (y.1 13) s (nI 0)), y.2) s (gSt g s) p0 := by
  refine ⟨⟨fun k hk => ?_, aNw_i (aNw_i (aNw_i h rfl) rfl) rfl⟩, fun k i hi hk => ?_, ?_, ?_, fun j hj => rfl⟩
  · dsimp only
    rw [va_up_ne _ _ (by omega), va_up_ne _ _ (by omega), va_up_ne _ _ (by omega)]
  · dsimp only
    by_cases e3 : k = 13
    · subst e3
      rw [va_up_self, updN hi]
    rw [va_up_ne _ _ e3]
    by_cases e2 : k = 14
    · subst e2
      rw [va_up_self, updN hi]
    rw [va_up_ne _ _ e2]
    by_cases e1 : k = 12
    · subst e1
      rw [va_up_self, updN hi]
    rw [va_up_ne _ _ e1]
  · show upd (y.1 12) s (nI q) s = _
    rw [updS, hq]
  · show upd (y.1 14) s (nI p0) s = _
    rw [updS]
theorem ltQ_0 {y : mV} {g : gV} {s p : Nat} (hct : gCt g = s + 1) (hz : gSz g s = 0) (ht : gTo g ≤ 3000) (hL : y.2 45 = nI (gTo g)) (hle : ∀ k, k < gTo g → y.1 11 k = gLe g k ∧ ∃ c, c < 128 ∧ gLe g k = nI c) (hw : gWi g s = 0) : ltQ (va_up (va_up (va_up y.1 12 (upd (y.1 12) s (nI (gTo g)))) 14 (upd (y.1 14) s (nI p))) 13 (upd (y.1 13) s (nI 0)), y.2) g g s p p 0 := by
  refine ⟨rfl, hct, rfl, fun i _ => ⟨rfl, rfl, rfl⟩, ht, hL, hle, ?_, by omega, fun _ => rfl, fun q => absurd hz q, hw⟩
  show upd (y.1 13) s (nI 0) s = _
  rw [updS, hz]
theorem ltQ_15 {z : mV} {g g0 : gV} {s p0 p1 w : Nat} {F : Nat → Int32} (h : ltQ z g g0 s p0 p1 w) : ltQ (va_up z.1 15 F, z.2) g g0 s p0 p1 w := h
theorem rL1_w {y z : mV} {s q p0 w : Nat} (h : rL1 y z s q p0) : rL1 y (va_up z.1 15 (upd (z.1 15) s (nI w)), z.2) s q p0 := by
  obtain ⟨⟨a1, a2⟩, a3, a4, a5, a6⟩ := h
  refine ⟨⟨fun k a => (va_up_ne _ _ (by omega)).trans (a1 k a), aNw_i a2 rfl⟩, fun k i hi hk => ?_, a4, a5, a6⟩
  dsimp only
  by_cases e : k = 15
  · subst e
    rw [va_up_self, updN hi]
    exact a3 15 i hi hk
  · rw [va_up_ne _ _ e]
    exact a3 k i hi hk
theorem rL1_a {y z : mV} {s q p0 n m : Nat} {c : Nat} {x : Int32} (h : rL1 y z s q p0) (hc : c < 128) : rL1 y (va_up (va_up z.1 11 (upd (z.1 11) n (nI c))) 13 (upd (z.1 13) s (nI m)), va_up z.2 45 x) s q p0 := by
  obtain ⟨⟨a1, a2⟩, a3, a4, a5, a6⟩ := h
  refine ⟨⟨fun k a => ?_, aNw_i (aNw_1 a2 (fun _ => upd_nar (fun i => a2.1 11 i rfl) (by have := i8_nar (nI c); rwa [byt c hc] at this)) (fun z => by cases z)) rfl⟩, fun k i hi hk => ?_, a4, a5, fun j hj => (va_up_ne _ _ hj).trans (a6 j hj)⟩
  · dsimp only
    rw [va_up_ne _ _ (by omega), va_up_ne _ _ (by omega)]
    exact a1 k a
  · dsimp only
    by_cases e : k = 13
    · subst e
      rw [va_up_self, updN hi]
      exact a3 13 i hi hk
    · rw [va_up_ne _ _ e, va_up_ne _ _ (by omega)]
      exact a3 k i hi hk
set_option maxRecDepth 100000 in
set_option maxHeartbeats 4000000 in
/-- model: readLetters -/
theorem sX10_readLetters {E : eN} (hE : eOk E) {f : aH} {t : Nat} {M : Nat} {y : mV} {u : tS} {v : rV} {g : gV} {p s : Nat} (hp : mTp y u) (hO : aNw y.1) (hF : y.2 43 = nI 0) (hM : y.2 12 = nI s) (hs : s < 8) (hct : gCt g = s + 1) (hL : y.2 45 = nI (gTo g)) (hto : gTo g ≤ 3000) (hle : ∀ k, k < gTo g → y.1 11 k = gLe g k ∧ ∃ c, c < 128 ∧ gLe g k = nI c) (hst0 : gSt g s = gTo g) (hgz0 : gSz g s = 0) (hw0 : gWi g s = 0) (hp1 : p ≤ u.1) (hst : rSt v = 3) (hwi : rWi v = 0) (hls : rLs v = 0) (hll : rLl v = 0) : mT E mX10_readLetters 0 0 [.ref M, .int (nI p)] (mdS f M y) t (fun o f' t' => t' = t ∧ ∃ y' o1, o = .inl (some (.int o1)) ∧ f' = mdS f M y' ∧ rL0 y y' ∧ (((∀ j, j ≠ 43 → j ≠ 44 → j ≠ 45 → y'.2 j = y.2 j) ∧ rF (rRunL u (u.1 - p) p v g) y') ∨ (∃ (p2 w : Nat) (v2 : rV) (g2 : gV), o1 = nI p2 ∧ p < p2 ∧ p2 ≤ u.1 ∧ (rRunL u (u.1 - p) p v g) = rRunL u (u.1 - p2) p2 v2 g2 ∧ rSt v2 = 5 ∧ (p2 < u.1 → mOct u p2 = nI 62) ∧ ltQ y' g2 g s p p2 w ∧ gSz g2 s ≠ 0 ∧ y'.1 15 s = nI w ∧ rL1 y y' s (gSt g s) p))) := by
  refine mT_of (n := 7) (lo := [some (.ref M), some (.int (nI p)), none, none, none, none, none, none, none]) (by decide) (by exact Nat.le_of_ble_eq_true rfl) rfl rfl ?_
  have hu8 := hp.2.1
  have lp : ∀ (d p1 n wi ln la : Nat) (z : mV) (vv : rV) (gg : gV), p ≤ p1 → p1 + d = u.1 → rL1 y z s (gSt g s) p → ltQ z gg g s p p1 wi → (n = 0 ∧ ln = 0) ∨ gSz gg s ≠ 0 → (n = 0 ∧ ln = 0 ∧ rSt vv = 3) ∨ (n = 0 ∧ 0 < ln ∧ rSt vv = 5 ∧ p1 < u.1 ∧ ¬ mOct u p1 = nI 62) ∨ (0 < n ∧ rSt vv = 4) → (ln = 0 ∧ wi = 0) ∨ (0 < ln ∧ 0 < wi) → rWi vv = wi → rLs vv = n → rLl vv = la → n ≤ p1 ∧ wi ≤ 8000 ∧ ln ≤ p1 ∧ la ≤ 8000 → (rRunL u (u.1 - p) p v g) = rRunL u (u.1 - p1) p1 vv gg → V E mX10_readLetters 0 0 (fun o f' t' => t' = t ∧ ∃ y' o1, o = .inl (some (.int o1)) ∧ f' = mdS f M y' ∧ rL0 y y' ∧ (((∀ j, j ≠ 43 → j ≠ 44 → j ≠ 45 → y'.2 j = y.2 j) ∧ rF (rRunL u (u.1 - p) p v g) y') ∨ (∃ (p2 w : Nat) (v2 : rV) (g2 : gV), o1 = nI p2 ∧ p < p2 ∧ p2 ≤ u.1 ∧ (rRunL u (u.1 - p) p v g) = rRunL u (u.1 - p2) p2 v2 g2 ∧ rSt v2 = 5 ∧ (p2 < u.1 → mOct u p2 = nI 62) ∧ ltQ y' g2 g s p p2 w ∧ gSz g2 s ≠ 0 ∧ y'.1 15 s = nI w ∧ rL1 y y' s (gSt g s) p))) 58 [some (.ref M), some (.int (nI p)), some (.int (nI s)), some (.int (nI p1)), some (.int (nI wi)), some (.int (nI ln)), some (.int (nI la)), some (.int (nI 1)), some (.int (nI n))] [] (mdS f M z) t 0 0 := by
      intro d
      induction d using Nat.strongRecOn with
      | _ d ih =>
      intro p1 n wi ln la z vv gg hp0 hp1 hz hq hnz hst hw hwi hls hla hbd hr
      have hpz : mTp z u := ⟨(hz.2.2.2.2 2 (by decide)).trans hp.1, hp.2.1, by rw [hz.1.1 1 (by omega)]; exact hp.2.2⟩
      have hFz : z.2 43 = nI 0 := (hz.2.2.2.2 43 (by decide)).trans hF
      have hto := hq.2.2.2.2.1
      have hsz := hq.2.2.2.2.2.2.2.2.1
      have nl : p1 < u.1 → ∀ (w2 : Nat) (v2 : rV) (g2 : gV), rSt v2 = 5 → rWi v2 = w2 → rLs v2 = 0 → rLl v2 = n → 0 < w2 → ltQ z g2 g s p (p1 + 1) w2 → gSz g2 s ≠ 0 → (rRunL u (u.1 - p) p v g) = rRunL u (u.1 - (p1 + 1)) (p1 + 1) v2 g2 → w2 ≤ 8000 → V E mX10_readLetters 0 0 (fun o f' t' => t' = t ∧ ∃ y' o1, o = .inl (some (.int o1)) ∧ f' = mdS f M y' ∧ rL0 y y' ∧ (((∀ j, j ≠ 43 → j ≠ 44 → j ≠ 45 → y'.2 j = y.2 j) ∧ rF (rRunL u (u.1 - p) p v g) y') ∨ (∃ (p2 w : Nat) (v2 : rV) (g2 : gV), o1 = nI p2 ∧ p < p2 ∧ p2 ≤ u.1 ∧ (rRunL u (u.1 - p) p v g) = rRunL u (u.1 - p2) p2 v2 g2 ∧ rSt v2 = 5 ∧ (p2 < u.1 → mOct u p2 = nI 62) ∧ ltQ y' g2 g s p p2 w ∧ gSz g2 s ≠ 0 ∧ y'.1 15 s = nI w ∧ rL1 y y' s (gSt g s) p))) 251 [some (.ref M), some (.int (nI p)), some (.int (nI s)), some (.int (nI (p1 + 1))), some (.int (nI wi)), some (.int (nI ln)), some (.int (nI la)), some (.int (nI 1)), some (.int (nI n))] [.int (nI w2)] (mdS f M z) t 0 0 := by
        intro hlt w2 v2 g2 h5 h6 h7 h8 h0 hq2 hgz2 hr2 hw8
        refine v_istore dX10_readLetters_251 (by decide) ?_
        refine v_iload dX10_readLetters_253 (by rfl) ?_
        refine v_istore dX10_readLetters_255 (by decide) ?_
        refine v_iincN (y := 1) dX10_readLetters_257 (by rfl) (by decide) (by decide) ?_
        refine v_aload_n dX10_readLetters_260 rfl (by rfl) ?_
        refine v_iload_n dX10_readLetters_261 rfl (by rfl) ?_
        refine w_callV hE dX10_readLetters_262 kX10_156 mdS_M (by rfl) (by rfl) (sX10_at hE (y := z) (u := u) hpz (by omega)) rfl (by decide) (by decide) (by exact Nat.le_of_ble_eq_true rfl) (by omega) (by omega) (fun v9 g9 u9 h9 => ?_) (fun _ _ _ h => by cases h.1)
        obtain ⟨hv9, hu9, hg9⟩ := h9
        replace hu9 := hu9.symm
        subst hu9
        subst hg9
        cases hv9
        refine v_iconst (v := (-1)) dX10_readLetters_265 (by decide) ?_
        refine v_icmp_eq (tgt := 283) dX10_readLetters_266 (by decide) (fun c266 => ?_) (fun c266 => ?_)
        · refine v_iconst (v := nI 0) dX10_readLetters_283 (by decide) ?_
          refine v_istore dX10_readLetters_284 (by decide) ?_
          refine v_goto (tgt := 43) dX10_readLetters_286 (by decide) ?_
          refine v_iload dX10_readLetters_43 (by rfl) ?_
          refine v_if_eqN (tgt := 289) dX10_readLetters_45 (by decide) (by omega) (fun c45 => ?_) (fun c45 => ?_)
          · refine v_aload_n dX10_readLetters_289 rfl (by rfl) ?_
            refine v_getf hE dX10_readLetters_290 fX10_57 mdS_M (by rfl) ?_
            refine v_iload_n dX10_readLetters_293 rfl (by rfl) ?_
            refine v_iload dX10_readLetters_294 (by rfl) ?_
            refine m_iast hE (k := 15) dX10_readLetters_296 (by decide) (by decide) rfl (show _ < 9 by omega) (by omega) ?_
            refine v_iload_n dX10_readLetters_297 rfl (by rfl) ?_
            refine v_iret dX10_readLetters_298 rfl (by first | rfl | exact nar_bI) ?_
            refine ⟨rfl, _, _, rfl, rfl, ⟨fun k a => (va_up_ne _ _ (by omega)).trans (hz.1.1 k a), aNw_i hz.1.2 rfl⟩, Or.inr ⟨p1 + 1, w2, _, _, rfl, by omega, by omega, hr2, h5, fun q => ?_, ltQ_15 hq2, hgz2, ?_, rL1_w hz⟩⟩
            · first
                | exact c276
                | (have := (mTp_o hpz (p1 + 1) (by omega)).mp c266; omega)
            · show (va_up z.1 15 (upd (z.1 15) s (nI w2))) 15 s = _
              rw [va_up_self, updS]
          · exact absurd rfl c45
        · refine v_aload_n dX10_readLetters_269 rfl (by rfl) ?_
          refine v_iload_n dX10_readLetters_270 rfl (by rfl) ?_
          refine w_callV hE dX10_readLetters_271 kX10_156 mdS_M (by rfl) (by rfl) (sX10_at hE (y := z) (u := u) hpz (by omega)) rfl (by decide) (by decide) (by exact Nat.le_of_ble_eq_true rfl) (by omega) (by omega) (fun v9 g9 u9 h9 => ?_) (fun _ _ _ h => by cases h.1)
          obtain ⟨hv9, hu9, hg9⟩ := h9
          replace hu9 := hu9.symm
          subst hu9
          subst hg9
          cases hv9
          refine v_bipush (v := nI 62) dX10_readLetters_274 (by decide) ?_
          refine v_icmp_eq (tgt := 283) dX10_readLetters_276 (by decide) (fun c276 => ?_) (fun c276 => ?_)
          · refine v_iconst (v := nI 0) dX10_readLetters_283 (by decide) ?_
            refine v_istore dX10_readLetters_284 (by decide) ?_
            refine v_goto (tgt := 43) dX10_readLetters_286 (by decide) ?_
            refine v_iload dX10_readLetters_43 (by rfl) ?_
            refine v_if_eqN (tgt := 289) dX10_readLetters_45 (by decide) (by omega) (fun c45 => ?_) (fun c45 => ?_)
            · refine v_aload_n dX10_readLetters_289 rfl (by rfl) ?_
              refine v_getf hE dX10_readLetters_290 fX10_57 mdS_M (by rfl) ?_
              refine v_iload_n dX10_readLetters_293 rfl (by rfl) ?_
              refine v_iload dX10_readLetters_294 (by rfl) ?_
              refine m_iast hE (k := 15) dX10_readLetters_296 (by decide) (by decide) rfl (show _ < 9 by omega) (by omega) ?_
              refine v_iload_n dX10_readLetters_297 rfl (by rfl) ?_
              refine v_iret dX10_readLetters_298 rfl (by first | rfl | exact nar_bI) ?_
              refine ⟨rfl, _, _, rfl, rfl, ⟨fun k a => (va_up_ne _ _ (by omega)).trans (hz.1.1 k a), aNw_i hz.1.2 rfl⟩, Or.inr ⟨p1 + 1, w2, _, _, rfl, by omega, by omega, hr2, h5, fun q => ?_, ltQ_15 hq2, hgz2, ?_, rL1_w hz⟩⟩
              · first
                  | exact c276
                  | (have := (mTp_o hpz (p1 + 1) (by omega)).mp c266; omega)
              · show (va_up z.1 15 (upd (z.1 15) s (nI w2))) 15 s = _
                rw [va_up_self, updS]
            · exact absurd rfl c45
          · refine v_iconst (v := nI 1) dX10_readLetters_279 (by decide) ?_
            refine v_goto (tgt := 284) dX10_readLetters_280 (by decide) ?_
            refine v_istore dX10_readLetters_284 (by decide) ?_
            refine v_goto (tgt := 43) dX10_readLetters_286 (by decide) ?_
            refine v_iload dX10_readLetters_43 (by rfl) ?_
            refine v_if_eqN (tgt := 289) dX10_readLetters_45 (by decide) (by omega) (fun c45 => ?_) (fun c45 => ?_)
            · exact absurd c45 (by decide)
            · refine v_aload_n dX10_readLetters_48 rfl (by rfl) ?_
              refine v_getf hE dX10_readLetters_49 fX10_147 mdS_M (by rfl) ?_
              refine v_eqi (y := nI 0) hFz ?_
              refine v_if_neN (tgt := 289) dX10_readLetters_52 (by decide) (by omega) (fun c52 => ?_) (fun c52 => ?_)
              · exact absurd rfl c52
              · refine v_iconst (v := nI 0) dX10_readLetters_55 (by decide) ?_
                refine v_istore dX10_readLetters_56 (by decide) ?_
                have hlt2 : p1 + 1 < u.1 := by
                  by_cases q : p1 + 1 < u.1
                  · exact q
                  · exact absurd ((mTp_o hpz (p1 + 1) (by omega)).mpr (by omega)) c266
                exact ih (d - 1) (by omega) (p1 + 1) 0 w2 (ln + 1) n z _ _ (by omega) (by omega) hz hq2 (Or.inr hgz2) (Or.inr (Or.inl ⟨rfl, by omega, h5, hlt2, c276⟩)) (by omega) h6 h7 h8 (by omega) hr2
      refine v_aload_n dX10_readLetters_58 rfl (by rfl) ?_
      refine v_getf hE dX10_readLetters_59 fX10_147 mdS_M (by rfl) ?_
      refine v_eqi (y := nI 0) hFz ?_
      refine v_if_neN (tgt := 176) dX10_readLetters_62 (by decide) (by omega) (fun c62 => ?_) (fun c62 => ?_)
      · exact absurd rfl c62
      · refine v_aload_n dX10_readLetters_65 rfl (by rfl) ?_
        refine v_iload_n dX10_readLetters_66 rfl (by rfl) ?_
        refine w_callV hE dX10_readLetters_67 kX10_156 mdS_M (by rfl) (by rfl) (sX10_at hE (y := z) (u := u) hpz (by omega)) rfl (by decide) (by decide) (by exact Nat.le_of_ble_eq_true rfl) (by omega) (by omega) (fun v9 g9 u9 h9 => ?_) (fun _ _ _ h => by cases h.1)
        obtain ⟨hv9, hu9, hg9⟩ := h9
        replace hu9 := hu9.symm
        subst hu9
        subst hg9
        cases hv9
        refine w_callS hE dX10_readLetters_70 kX10_174 (by rfl) (sX10_letterOf hE) rfl (by decide) (by decide) (by exact Nat.le_of_ble_eq_true rfl) (by omega) (by omega) (fun v9 g9 u9 h9 => ?_) (fun _ _ _ h => by cases h.1)
        obtain ⟨hv9, hu9, hg9⟩ := h9
        replace hu9 := hu9.symm
        replace hg9 := hg9.symm
        subst hu9
        subst hg9
        cases hv9
        refine v_iconst (v := (-1)) dX10_readLetters_73 (by decide) ?_
        refine v_icmp_eq (tgt := 176) dX10_readLetters_74 (by decide) (fun c74 => ?_) (fun c74 => ?_)
        · refine v_aload_n dX10_readLetters_176 rfl (by rfl) ?_
          refine v_getf hE dX10_readLetters_177 fX10_147 mdS_M (by rfl) ?_
          refine v_eqi (y := nI 0) hFz ?_
          refine v_if_neN (tgt := 201) dX10_readLetters_180 (by decide) (by omega) (fun c180 => ?_) (fun c180 => ?_)
          · exact absurd rfl c180
          · refine v_aload_n dX10_readLetters_183 rfl (by rfl) ?_
            refine v_iload_n dX10_readLetters_184 rfl (by rfl) ?_
            refine w_callV hE dX10_readLetters_185 kX10_156 mdS_M (by rfl) (by rfl) (sX10_at hE (y := z) (u := u) hpz (by omega)) rfl (by decide) (by decide) (by exact Nat.le_of_ble_eq_true rfl) (by omega) (by omega) (fun v9 g9 u9 h9 => ?_) (fun _ _ _ h => by cases h.1)
            obtain ⟨hv9, hu9, hg9⟩ := h9
            replace hu9 := hu9.symm
            subst hu9
            subst hg9
            cases hv9
            refine v_iconst (v := (-1)) dX10_readLetters_188 (by decide) ?_
            refine v_icmp_ne (tgt := 201) dX10_readLetters_189 (by decide) (fun c189 => ?_) (fun c189 => ?_)
            · refine v_aload_n dX10_readLetters_201 rfl (by rfl) ?_
              refine v_getf hE dX10_readLetters_202 fX10_147 mdS_M (by rfl) ?_
              refine v_eqi (y := nI 0) hFz ?_
              refine v_if_neN (tgt := 229) dX10_readLetters_205 (by decide) (by omega) (fun c205 => ?_) (fun c205 => ?_)
              · exact absurd rfl c205
              · refine v_aload_n dX10_readLetters_208 rfl (by rfl) ?_
                refine v_iload_n dX10_readLetters_209 rfl (by rfl) ?_
                refine w_callV hE dX10_readLetters_210 kX10_156 mdS_M (by rfl) (by rfl) (sX10_at hE (y := z) (u := u) hpz (by omega)) rfl (by decide) (by decide) (by exact Nat.le_of_ble_eq_true rfl) (by omega) (by omega) (fun v9 g9 u9 h9 => ?_) (fun _ _ _ h => by cases h.1)
                obtain ⟨hv9, hu9, hg9⟩ := h9
                replace hu9 := hu9.symm
                subst hu9
                subst hg9
                cases hv9
                refine v_bipush (v := nI 10) dX10_readLetters_213 (by decide) ?_
                refine v_icmp_ne (tgt := 223) dX10_readLetters_215 (by decide) (fun c215 => ?_) (fun c215 => ?_)
                · have hlt : p1 < u.1 := by
                    by_cases q : p1 < u.1
                    · exact q
                    · exact absurd ((mTp_o hpz p1 (by omega)).mpr (by omega)) c189
                  refine v_aload_n dX10_readLetters_223 rfl (by rfl) ?_
                  refine v_iconst (v := nI 2) dX10_readLetters_224 (by decide) ?_
                  refine v_iload_n dX10_readLetters_225 rfl (by rfl) ?_
                  refine w_callV hE dX10_readLetters_226 kX10_160 mdS_M (by rfl) (by rfl) (sX10_bad hE) rfl (by decide) (by decide) (by exact Nat.le_of_ble_eq_true rfl) (by omega) (by omega) (fun v9 g9 u9 h9 => ?_) (fun _ _ _ h => by cases h.1)
                  obtain ⟨hv9, hu9, hg9⟩ := h9
                  replace hu9 := hu9.symm
                  subst hu9
                  subst hg9
                  cases hv9
                  rw [mBad_0 hFz]
                  refine v_aload_n dX10_readLetters_229 rfl (by rfl) ?_
                  refine v_getf hE dX10_readLetters_230 fX10_147 mdS_M (by rfl) ?_
                  refine v_eqi (y := nI 2) rfl ?_
                  refine v_if_neN (tgt := 286) dX10_readLetters_233 (by decide) (by omega) (fun c233 => ?_) (fun c233 => ?_)
                  · refine v_goto (tgt := 43) dX10_readLetters_286 (by decide) ?_
                    refine v_iload dX10_readLetters_43 (by rfl) ?_
                    refine v_if_eqN (tgt := 289) dX10_readLetters_45 (by decide) (by omega) (fun c45 => ?_) (fun c45 => ?_)
                    · exact absurd c45 (by decide)
                    · refine v_aload_n dX10_readLetters_48 rfl (by rfl) ?_
                      refine v_getf hE dX10_readLetters_49 fX10_147 mdS_M (by rfl) ?_
                      refine v_eqi (y := nI 2) rfl ?_
                      refine v_if_neN (tgt := 289) dX10_readLetters_52 (by decide) (by omega) (fun c52 => ?_) (fun c52 => ?_)
                      · refine v_aload_n dX10_readLetters_289 rfl (by rfl) ?_
                        refine v_getf hE dX10_readLetters_290 fX10_57 mdS_M (by rfl) ?_
                        refine v_iload_n dX10_readLetters_293 rfl (by rfl) ?_
                        refine v_iload dX10_readLetters_294 (by rfl) ?_
                        refine m_iast hE (k := 15) dX10_readLetters_296 (by decide) (by decide) rfl (show _ < 9 by omega) (by omega) ?_
                        refine v_iload_n dX10_readLetters_297 rfl (by rfl) ?_
                        refine v_iret dX10_readLetters_298 rfl (by first | rfl | exact nar_bI) ?_
                        have q9 := rF_mk (A := va_up z.1 15 (upd (z.1 15) s (nI wi))) (s := z.2) (F := 2) (Q := p1) (hr.trans (rst_f hlt (ltf (by show rSt vv = 3 ∨ (rSt vv = 5 ∧ _) ∨ (rSt vv = 4 ∧ _); rcases hst with q | q | q; exact Or.inl q.2.2; exact Or.inr (Or.inl ⟨q.2.2.1, q.2.2.2.2⟩); exact Or.inr (Or.inr ⟨q.2, by first | exact c215 | omega⟩)) c74))) (rfl) (rfl) (by decide) (by decide)
                        exact ⟨rfl, _, _, rfl, rfl, ⟨fun k a => (va_up_ne _ _ (by omega)).trans (hz.1.1 k a), aNw_i hz.1.2 rfl⟩, Or.inl ⟨fun j a b c => (q9.1 j a b).trans (hz.2.2.2.2 j c), q9.2⟩⟩
                      · exact absurd c52 (by decide)
                  · exact absurd c233 (by decide)
                · refine v_iload dX10_readLetters_218 (by rfl) ?_
                  refine v_if_neN (tgt := 229) dX10_readLetters_220 (by decide) (by omega) (fun c220 => ?_) (fun c220 => ?_)
                  · have hlt : p1 < u.1 := by
                      by_cases q : p1 < u.1
                      · exact q
                      · exact absurd ((mTp_o hpz p1 (by omega)).mpr (by omega)) c189
                    have hst4 : rSt vv = 4 := by omega
                    have hgz : gSz gg s ≠ 0 := by
                      rcases hnz with q | q
                      · omega
                      · exact q
                    have k0 := lte (v := pAt vv p1) (g := gg) hst4
                    rw [← c215] at k0
                    refine v_aload_n dX10_readLetters_229 rfl (by rfl) ?_
                    refine v_getf hE dX10_readLetters_230 fX10_147 mdS_M (by rfl) ?_
                    refine v_eqi (y := nI 0) hFz ?_
                    refine v_if_neN (tgt := 286) dX10_readLetters_233 (by decide) (by omega) (fun c233 => ?_) (fun c233 => ?_)
                    · exact absurd rfl c233
                    · refine v_iincN (y := 1) dX10_readLetters_236 (by rfl) (by decide) (by decide) ?_
                      refine v_iload dX10_readLetters_239 (by rfl) ?_
                      refine v_if_neN (tgt := 249) dX10_readLetters_241 (by decide) (by omega) (fun c241 => ?_) (fun c241 => ?_)
                      · refine v_iload dX10_readLetters_249 (by rfl) ?_
                        have k1 : rEndL (pAt vv p1) gg = (pSt (pLs (pLl (pAt vv p1) (rLs (pAt vv p1))) 0) 5, gg) := if_neg (show ¬ rWi vv = 0 by omega)
                        rw [k1] at k0
                        dsimp only at k0
                        exact nl hlt wi (pSt (pLs (pLl (pAt vv p1) (rLs (pAt vv p1))) 0) 5) gg rfl hwi rfl hls (by omega) (ltQ_p hq hgz) hgz (hr.trans (rst_s hlt k0)) (by omega)
                      · refine v_iload dX10_readLetters_244 (by rfl) ?_
                        refine v_goto (tgt := 251) dX10_readLetters_246 (by decide) ?_
                        have k1 : rEndL (pAt vv p1) gg = (pSt (pLs (pLl (pWi (pAt vv p1) (rLs (pAt vv p1))) (rLs (pAt vv p1))) 0) 5, gnWidth gg (rLs (pAt vv p1))) := if_pos (show rWi vv = 0 by omega)
                        rw [k1] at k0
                        dsimp only at k0
                        exact nl hlt n (pSt (pLs (pLl (pWi (pAt vv p1) (rLs (pAt vv p1))) (rLs (pAt vv p1))) 0) 5) (gnWidth gg (rLs (pAt vv p1))) rfl hls rfl hls (by omega) (by show ltQ z (gnWidth gg (rLs vv)) _ _ _ _ _; rw [hls]; exact ltQ_w hq hgz) (by show gSz gg s ≠ 0; exact hgz) (hr.trans (rst_s hlt k0)) (by omega)
                  · have hlt : p1 < u.1 := by
                      by_cases q : p1 < u.1
                      · exact q
                      · exact absurd ((mTp_o hpz p1 (by omega)).mpr (by omega)) c189
                    refine v_aload_n dX10_readLetters_223 rfl (by rfl) ?_
                    refine v_iconst (v := nI 2) dX10_readLetters_224 (by decide) ?_
                    refine v_iload_n dX10_readLetters_225 rfl (by rfl) ?_
                    refine w_callV hE dX10_readLetters_226 kX10_160 mdS_M (by rfl) (by rfl) (sX10_bad hE) rfl (by decide) (by decide) (by exact Nat.le_of_ble_eq_true rfl) (by omega) (by omega) (fun v9 g9 u9 h9 => ?_) (fun _ _ _ h => by cases h.1)
                    obtain ⟨hv9, hu9, hg9⟩ := h9
                    replace hu9 := hu9.symm
                    subst hu9
                    subst hg9
                    cases hv9
                    rw [mBad_0 hFz]
                    refine v_aload_n dX10_readLetters_229 rfl (by rfl) ?_
                    refine v_getf hE dX10_readLetters_230 fX10_147 mdS_M (by rfl) ?_
                    refine v_eqi (y := nI 2) rfl ?_
                    refine v_if_neN (tgt := 286) dX10_readLetters_233 (by decide) (by omega) (fun c233 => ?_) (fun c233 => ?_)
                    · refine v_goto (tgt := 43) dX10_readLetters_286 (by decide) ?_
                      refine v_iload dX10_readLetters_43 (by rfl) ?_
                      refine v_if_eqN (tgt := 289) dX10_readLetters_45 (by decide) (by omega) (fun c45 => ?_) (fun c45 => ?_)
                      · exact absurd c45 (by decide)
                      · refine v_aload_n dX10_readLetters_48 rfl (by rfl) ?_
                        refine v_getf hE dX10_readLetters_49 fX10_147 mdS_M (by rfl) ?_
                        refine v_eqi (y := nI 2) rfl ?_
                        refine v_if_neN (tgt := 289) dX10_readLetters_52 (by decide) (by omega) (fun c52 => ?_) (fun c52 => ?_)
                        · refine v_aload_n dX10_readLetters_289 rfl (by rfl) ?_
                          refine v_getf hE dX10_readLetters_290 fX10_57 mdS_M (by rfl) ?_
                          refine v_iload_n dX10_readLetters_293 rfl (by rfl) ?_
                          refine v_iload dX10_readLetters_294 (by rfl) ?_
                          refine m_iast hE (k := 15) dX10_readLetters_296 (by decide) (by decide) rfl (show _ < 9 by omega) (by omega) ?_
                          refine v_iload_n dX10_readLetters_297 rfl (by rfl) ?_
                          refine v_iret dX10_readLetters_298 rfl (by first | rfl | exact nar_bI) ?_
                          have q9 := rF_mk (A := va_up z.1 15 (upd (z.1 15) s (nI wi))) (s := z.2) (F := 2) (Q := p1) (hr.trans (rst_f hlt (ltf (by show rSt vv = 3 ∨ (rSt vv = 5 ∧ _) ∨ (rSt vv = 4 ∧ _); rcases hst with q | q | q; exact Or.inl q.2.2; exact Or.inr (Or.inl ⟨q.2.2.1, q.2.2.2.2⟩); exact Or.inr (Or.inr ⟨q.2, by first | exact c215 | omega⟩)) c74))) (rfl) (rfl) (by decide) (by decide)
                          exact ⟨rfl, _, _, rfl, rfl, ⟨fun k a => (va_up_ne _ _ (by omega)).trans (hz.1.1 k a), aNw_i hz.1.2 rfl⟩, Or.inl ⟨fun j a b c => (q9.1 j a b).trans (hz.2.2.2.2 j c), q9.2⟩⟩
                        · exact absurd c52 (by decide)
                    · exact absurd c233 (by decide)
            · refine v_aload_n dX10_readLetters_192 rfl (by rfl) ?_
              refine v_iconst (v := nI 1) dX10_readLetters_193 (by decide) ?_
              refine v_iload_n dX10_readLetters_194 rfl (by rfl) ?_
              refine w_callV hE dX10_readLetters_195 kX10_160 mdS_M (by rfl) (by rfl) (sX10_bad hE) rfl (by decide) (by decide) (by exact Nat.le_of_ble_eq_true rfl) (by omega) (by omega) (fun v9 g9 u9 h9 => ?_) (fun _ _ _ h => by cases h.1)
              obtain ⟨hv9, hu9, hg9⟩ := h9
              replace hu9 := hu9.symm
              subst hu9
              subst hg9
              cases hv9
              rw [mBad_0 hFz]
              refine v_goto (tgt := 229) dX10_readLetters_198 (by decide) ?_
              refine v_aload_n dX10_readLetters_229 rfl (by rfl) ?_
              refine v_getf hE dX10_readLetters_230 fX10_147 mdS_M (by rfl) ?_
              refine v_eqi (y := nI 1) rfl ?_
              refine v_if_neN (tgt := 286) dX10_readLetters_233 (by decide) (by omega) (fun c233 => ?_) (fun c233 => ?_)
              · refine v_goto (tgt := 43) dX10_readLetters_286 (by decide) ?_
                refine v_iload dX10_readLetters_43 (by rfl) ?_
                refine v_if_eqN (tgt := 289) dX10_readLetters_45 (by decide) (by omega) (fun c45 => ?_) (fun c45 => ?_)
                · exact absurd c45 (by decide)
                · refine v_aload_n dX10_readLetters_48 rfl (by rfl) ?_
                  refine v_getf hE dX10_readLetters_49 fX10_147 mdS_M (by rfl) ?_
                  refine v_eqi (y := nI 1) rfl ?_
                  refine v_if_neN (tgt := 289) dX10_readLetters_52 (by decide) (by omega) (fun c52 => ?_) (fun c52 => ?_)
                  · refine v_aload_n dX10_readLetters_289 rfl (by rfl) ?_
                    refine v_getf hE dX10_readLetters_290 fX10_57 mdS_M (by rfl) ?_
                    refine v_iload_n dX10_readLetters_293 rfl (by rfl) ?_
                    refine v_iload dX10_readLetters_294 (by rfl) ?_
                    refine m_iast hE (k := 15) dX10_readLetters_296 (by decide) (by decide) rfl (show _ < 9 by omega) (by omega) ?_
                    refine v_iload_n dX10_readLetters_297 rfl (by rfl) ?_
                    refine v_iret dX10_readLetters_298 rfl (by first | rfl | exact nar_bI) ?_
                    have q9 := rF_mk (A := va_up z.1 15 (upd (z.1 15) s (nI wi))) (s := z.2) (F := 1) (Q := p1) (hr.trans (rst_0 (by have := (mTp_o hpz p1 (by omega)).mp c189; omega) (by rcases hst with q | q | q <;> first | (rw [q.2.2]; decide) | (have := (mTp_o hpz p1 (by omega)).mp c189; omega)))) (rfl) (by have := (mTp_o hpz p1 (by omega)).mp c189; show u.1 = p1; omega) (by decide) (by decide)
                    exact ⟨rfl, _, _, rfl, rfl, ⟨fun k a => (va_up_ne _ _ (by omega)).trans (hz.1.1 k a), aNw_i hz.1.2 rfl⟩, Or.inl ⟨fun j a b c => (q9.1 j a b).trans (hz.2.2.2.2 j c), q9.2⟩⟩
                  · exact absurd c52 (by decide)
              · exact absurd c233 (by decide)
        · have hlt : p1 < u.1 := by
            by_cases q : p1 < u.1
            · exact q
            · exfalso
              rw [(mTp_o hpz p1 (by omega)).mpr (by omega)] at c74
              exact c74 ltr_m1
          have k0 : rTake (pAt vv p1) gg (mOct u p1) = rTakeL (pAt vv p1) gg (ltr (mOct u p1)) := ltk (by show rSt vv = 3 ∨ rSt vv = 4 ∨ rSt vv = 5; omega) c74
          refine v_aload_n dX10_readLetters_77 rfl (by rfl) ?_
          refine v_getf hE dX10_readLetters_78 fX10_171 mdS_M (by rfl) ?_
          refine v_eqi (y := nI (gTo gg)) hq.2.2.2.2.2.1 ?_
          refine v_sipush (v := nI 3000) dX10_readLetters_81 (by decide) ?_
          refine v_icmp_neN (tgt := 96) dX10_readLetters_84 (by decide) (by omega) (by omega) (fun c84 => ?_) (fun c84 => ?_)
          · refine v_iload dX10_readLetters_96 (by rfl) ?_
            refine v_if_leN (tgt := 129) dX10_readLetters_98 (by decide) (by omega) (fun c98 => ?_) (fun c98 => ?_)
            · refine v_aload_n dX10_readLetters_129 rfl (by rfl) ?_
              refine v_getf hE dX10_readLetters_130 fX10_45 mdS_M (by rfl) ?_
              refine v_aload_n dX10_readLetters_133 rfl (by rfl) ?_
              refine v_getf hE dX10_readLetters_134 fX10_171 mdS_M (by rfl) ?_
              refine v_eqi (y := nI (gTo gg)) hq.2.2.2.2.2.1 ?_
              refine v_aload_n dX10_readLetters_137 rfl (by rfl) ?_
              refine v_iload_n dX10_readLetters_138 rfl (by rfl) ?_
              refine w_callV hE dX10_readLetters_139 kX10_156 mdS_M (by rfl) (by rfl) (sX10_at hE (y := z) (u := u) hpz (by omega)) rfl (by decide) (by decide) (by exact Nat.le_of_ble_eq_true rfl) (by omega) (by omega) (fun v9 g9 u9 h9 => ?_) (fun _ _ _ h => by cases h.1)
              obtain ⟨hv9, hu9, hg9⟩ := h9
              replace hu9 := hu9.symm
              subst hu9
              subst hg9
              cases hv9
              refine w_callS hE dX10_readLetters_142 kX10_174 (by rfl) (sX10_letterOf hE) rfl (by decide) (by decide) (by exact Nat.le_of_ble_eq_true rfl) (by omega) (by omega) (fun v9 g9 u9 h9 => ?_) (fun _ _ _ h => by cases h.1)
              obtain ⟨hv9, hu9, hg9⟩ := h9
              replace hu9 := hu9.symm
              replace hg9 := hg9.symm
              subst hu9
              subst hg9
              cases hv9
              obtain ⟨c, c1, c2⟩ := ltr_c c74
              refine v_eqi (y := nI c) c2 ?_
              refine v_i2b dX10_readLetters_145 rfl ?_
              refine m_bast hE (k := 11) dX10_readLetters_146 (by decide) (by decide) rfl (show _ < 3001 by omega) (by omega) ?_
              rw [i8_nar, byt c c1]
              refine v_aload_n dX10_readLetters_147 rfl (by rfl) ?_
              refine v_dup dX10_readLetters_148 rfl ?_
              refine v_getf hE dX10_readLetters_149 fX10_171 mdS_M (by rfl) ?_
              refine v_eqi (y := nI (gTo gg)) hq.2.2.2.2.2.1 ?_
              refine v_iconst (v := nI 1) dX10_readLetters_152 (by decide) ?_
              refine v_iaddN dX10_readLetters_153 ?_
              refine m_put hE (j := 45) dX10_readLetters_154 fX10_171 (by exact Nat.le_of_ble_eq_true rfl) (by rfl) (by rfl) (by rfl) (by rfl) ?_
              refine v_aload_n dX10_readLetters_157 rfl (by rfl) ?_
              refine v_getf hE dX10_readLetters_158 fX10_51 mdS_M (by rfl) ?_
              refine v_iload_n dX10_readLetters_161 rfl (by rfl) ?_
              refine v_dup2 dX10_readLetters_162 rfl rfl ?_
              refine m_iald hE (k := 13) dX10_readLetters_163 (by decide) (by decide) rfl (show _ < 9 by omega) (by omega) ?_
              refine v_eqi (y := nI (gSz gg s)) hq.2.2.2.2.2.2.2.1 ?_
              refine v_iconst (v := nI 1) dX10_readLetters_164 (by decide) ?_
              refine v_iaddN dX10_readLetters_165 ?_
              refine m_iast hE (k := 13) dX10_readLetters_166 (by decide) (by decide) rfl (show _ < 9 by omega) (by omega) ?_
              refine v_iincN (y := 1) dX10_readLetters_167 (by rfl) (by decide) (by decide) ?_
              refine v_iincN (y := 1) dX10_readLetters_170 (by rfl) (by decide) (by decide) ?_
              refine v_goto (tgt := 58) dX10_readLetters_173 (by decide) ?_
              have k1 : rTake (pAt vv p1) gg (mOct u p1) = (true, pSt (pLs (pAt vv p1) (rLs (pAt vv p1) + 1)) 4, gnAdd gg (nI c) (nI p1)) := by
                rw [k0]
                unfold rTakeL
                rw [if_neg (by omega), if_neg (by show ¬ (0 < rWi vv ∧ (rLs vv = rWi vv ∨ (rLs vv = 0 ∧ rLl vv < rWi vv))); omega), c2]
              obtain ⟨q1, q2⟩ := ltQ_a hq (by omega) c1
              exact ih (d - 1) (by omega) (p1 + 1) (n + 1) wi ln la _ (pSt (pLs (pAt vv p1) (rLs (pAt vv p1) + 1)) 4) (gnAdd gg (nI c) (nI p1)) (by omega) (by omega) (rL1_a hz c1) q1 (Or.inr q2) (Or.inr (Or.inr ⟨by omega, rfl⟩)) hw hwi (by show rLs vv + 1 = _; omega) hla (by omega) (hr.trans (rst_s hlt k1))
            · refine v_iload dX10_readLetters_101 (by rfl) ?_
              refine v_if_neN (tgt := 113) dX10_readLetters_103 (by decide) (by omega) (fun c103 => ?_) (fun c103 => ?_)
              · refine v_iload dX10_readLetters_113 (by rfl) ?_
                refine v_iload dX10_readLetters_115 (by rfl) ?_
                refine v_icmp_neN (tgt := 129) dX10_readLetters_117 (by decide) (by omega) (by omega) (fun c117 => ?_) (fun c117 => ?_)
                · refine v_aload_n dX10_readLetters_129 rfl (by rfl) ?_
                  refine v_getf hE dX10_readLetters_130 fX10_45 mdS_M (by rfl) ?_
                  refine v_aload_n dX10_readLetters_133 rfl (by rfl) ?_
                  refine v_getf hE dX10_readLetters_134 fX10_171 mdS_M (by rfl) ?_
                  refine v_eqi (y := nI (gTo gg)) hq.2.2.2.2.2.1 ?_
                  refine v_aload_n dX10_readLetters_137 rfl (by rfl) ?_
                  refine v_iload_n dX10_readLetters_138 rfl (by rfl) ?_
                  refine w_callV hE dX10_readLetters_139 kX10_156 mdS_M (by rfl) (by rfl) (sX10_at hE (y := z) (u := u) hpz (by omega)) rfl (by decide) (by decide) (by exact Nat.le_of_ble_eq_true rfl) (by omega) (by omega) (fun v9 g9 u9 h9 => ?_) (fun _ _ _ h => by cases h.1)
                  obtain ⟨hv9, hu9, hg9⟩ := h9
                  replace hu9 := hu9.symm
                  subst hu9
                  subst hg9
                  cases hv9
                  refine w_callS hE dX10_readLetters_142 kX10_174 (by rfl) (sX10_letterOf hE) rfl (by decide) (by decide) (by exact Nat.le_of_ble_eq_true rfl) (by omega) (by omega) (fun v9 g9 u9 h9 => ?_) (fun _ _ _ h => by cases h.1)
                  obtain ⟨hv9, hu9, hg9⟩ := h9
                  replace hu9 := hu9.symm
                  replace hg9 := hg9.symm
                  subst hu9
                  subst hg9
                  cases hv9
                  obtain ⟨c, c1, c2⟩ := ltr_c c74
                  refine v_eqi (y := nI c) c2 ?_
                  refine v_i2b dX10_readLetters_145 rfl ?_
                  refine m_bast hE (k := 11) dX10_readLetters_146 (by decide) (by decide) rfl (show _ < 3001 by omega) (by omega) ?_
                  rw [i8_nar, byt c c1]
                  refine v_aload_n dX10_readLetters_147 rfl (by rfl) ?_
                  refine v_dup dX10_readLetters_148 rfl ?_
                  refine v_getf hE dX10_readLetters_149 fX10_171 mdS_M (by rfl) ?_
                  refine v_eqi (y := nI (gTo gg)) hq.2.2.2.2.2.1 ?_
                  refine v_iconst (v := nI 1) dX10_readLetters_152 (by decide) ?_
                  refine v_iaddN dX10_readLetters_153 ?_
                  refine m_put hE (j := 45) dX10_readLetters_154 fX10_171 (by exact Nat.le_of_ble_eq_true rfl) (by rfl) (by rfl) (by rfl) (by rfl) ?_
                  refine v_aload_n dX10_readLetters_157 rfl (by rfl) ?_
                  refine v_getf hE dX10_readLetters_158 fX10_51 mdS_M (by rfl) ?_
                  refine v_iload_n dX10_readLetters_161 rfl (by rfl) ?_
                  refine v_dup2 dX10_readLetters_162 rfl rfl ?_
                  refine m_iald hE (k := 13) dX10_readLetters_163 (by decide) (by decide) rfl (show _ < 9 by omega) (by omega) ?_
                  refine v_eqi (y := nI (gSz gg s)) hq.2.2.2.2.2.2.2.1 ?_
                  refine v_iconst (v := nI 1) dX10_readLetters_164 (by decide) ?_
                  refine v_iaddN dX10_readLetters_165 ?_
                  refine m_iast hE (k := 13) dX10_readLetters_166 (by decide) (by decide) rfl (show _ < 9 by omega) (by omega) ?_
                  refine v_iincN (y := 1) dX10_readLetters_167 (by rfl) (by decide) (by decide) ?_
                  refine v_iincN (y := 1) dX10_readLetters_170 (by rfl) (by decide) (by decide) ?_
                  refine v_goto (tgt := 58) dX10_readLetters_173 (by decide) ?_
                  have k1 : rTake (pAt vv p1) gg (mOct u p1) = (true, pSt (pLs (pAt vv p1) (rLs (pAt vv p1) + 1)) 4, gnAdd gg (nI c) (nI p1)) := by
                    rw [k0]
                    unfold rTakeL
                    rw [if_neg (by omega), if_neg (by show ¬ (0 < rWi vv ∧ (rLs vv = rWi vv ∨ (rLs vv = 0 ∧ rLl vv < rWi vv))); omega), c2]
                  obtain ⟨q1, q2⟩ := ltQ_a hq (by omega) c1
                  exact ih (d - 1) (by omega) (p1 + 1) (n + 1) wi ln la _ (pSt (pLs (pAt vv p1) (rLs (pAt vv p1) + 1)) 4) (gnAdd gg (nI c) (nI p1)) (by omega) (by omega) (rL1_a hz c1) q1 (Or.inr q2) (Or.inr (Or.inr ⟨by omega, rfl⟩)) hw hwi (by show rLs vv + 1 = _; omega) hla (by omega) (hr.trans (rst_s hlt k1))
                · refine v_aload_n dX10_readLetters_120 rfl (by rfl) ?_
                  refine v_iconst (v := nI 5) dX10_readLetters_121 (by decide) ?_
                  refine v_iload_n dX10_readLetters_122 rfl (by rfl) ?_
                  refine w_callV hE dX10_readLetters_123 kX10_160 mdS_M (by rfl) (by rfl) (sX10_bad hE) rfl (by decide) (by decide) (by exact Nat.le_of_ble_eq_true rfl) (by omega) (by omega) (fun v9 g9 u9 h9 => ?_) (fun _ _ _ h => by cases h.1)
                  obtain ⟨hv9, hu9, hg9⟩ := h9
                  replace hu9 := hu9.symm
                  subst hu9
                  subst hg9
                  cases hv9
                  rw [mBad_0 hFz]
                  refine v_goto (tgt := 58) dX10_readLetters_126 (by decide) ?_
                  refine v_aload_n dX10_readLetters_58 rfl (by rfl) ?_
                  refine v_getf hE dX10_readLetters_59 fX10_147 mdS_M (by rfl) ?_
                  refine v_eqi (y := nI 5) rfl ?_
                  refine v_if_neN (tgt := 176) dX10_readLetters_62 (by decide) (by omega) (fun c62 => ?_) (fun c62 => ?_)
                  · refine v_aload_n dX10_readLetters_176 rfl (by rfl) ?_
                    refine v_getf hE dX10_readLetters_177 fX10_147 mdS_M (by rfl) ?_
                    refine v_eqi (y := nI 5) rfl ?_
                    refine v_if_neN (tgt := 201) dX10_readLetters_180 (by decide) (by omega) (fun c180 => ?_) (fun c180 => ?_)
                    · refine v_aload_n dX10_readLetters_201 rfl (by rfl) ?_
                      refine v_getf hE dX10_readLetters_202 fX10_147 mdS_M (by rfl) ?_
                      refine v_eqi (y := nI 5) rfl ?_
                      refine v_if_neN (tgt := 229) dX10_readLetters_205 (by decide) (by omega) (fun c205 => ?_) (fun c205 => ?_)
                      · refine v_aload_n dX10_readLetters_229 rfl (by rfl) ?_
                        refine v_getf hE dX10_readLetters_230 fX10_147 mdS_M (by rfl) ?_
                        refine v_eqi (y := nI 5) rfl ?_
                        refine v_if_neN (tgt := 286) dX10_readLetters_233 (by decide) (by omega) (fun c233 => ?_) (fun c233 => ?_)
                        · refine v_goto (tgt := 43) dX10_readLetters_286 (by decide) ?_
                          refine v_iload dX10_readLetters_43 (by rfl) ?_
                          refine v_if_eqN (tgt := 289) dX10_readLetters_45 (by decide) (by omega) (fun c45 => ?_) (fun c45 => ?_)
                          · exact absurd c45 (by decide)
                          · refine v_aload_n dX10_readLetters_48 rfl (by rfl) ?_
                            refine v_getf hE dX10_readLetters_49 fX10_147 mdS_M (by rfl) ?_
                            refine v_eqi (y := nI 5) rfl ?_
                            refine v_if_neN (tgt := 289) dX10_readLetters_52 (by decide) (by omega) (fun c52 => ?_) (fun c52 => ?_)
                            · refine v_aload_n dX10_readLetters_289 rfl (by rfl) ?_
                              refine v_getf hE dX10_readLetters_290 fX10_57 mdS_M (by rfl) ?_
                              refine v_iload_n dX10_readLetters_293 rfl (by rfl) ?_
                              refine v_iload dX10_readLetters_294 (by rfl) ?_
                              refine m_iast hE (k := 15) dX10_readLetters_296 (by decide) (by decide) rfl (show _ < 9 by omega) (by omega) ?_
                              refine v_iload_n dX10_readLetters_297 rfl (by rfl) ?_
                              refine v_iret dX10_readLetters_298 rfl (by first | rfl | exact nar_bI) ?_
                              have q9 := rF_mk (A := va_up z.1 15 (upd (z.1 15) s (nI wi))) (s := z.2) (F := 5) (Q := p1) (hr.trans (rst_f hlt (by rw [k0]; unfold rTakeL; rw [if_neg (by omega), if_pos (by show 0 < rWi vv ∧ (rLs vv = rWi vv ∨ (rLs vv = 0 ∧ rLl vv < rWi vv)); omega)]))) (rfl) (rfl) (by decide) (by decide)
                              exact ⟨rfl, _, _, rfl, rfl, ⟨fun k a => (va_up_ne _ _ (by omega)).trans (hz.1.1 k a), aNw_i hz.1.2 rfl⟩, Or.inl ⟨fun j a b c => (q9.1 j a b).trans (hz.2.2.2.2 j c), q9.2⟩⟩
                            · exact absurd c52 (by decide)
                        · exact absurd c233 (by decide)
                      · exact absurd c205 (by decide)
                    · exact absurd c180 (by decide)
                  · exact absurd c62 (by decide)
              · refine v_iload dX10_readLetters_106 (by rfl) ?_
                refine v_iload dX10_readLetters_108 (by rfl) ?_
                refine v_icmp_ltN (tgt := 120) dX10_readLetters_110 (by decide) (by omega) (by omega) (fun c110 => ?_) (fun c110 => ?_)
                · refine v_aload_n dX10_readLetters_120 rfl (by rfl) ?_
                  refine v_iconst (v := nI 5) dX10_readLetters_121 (by decide) ?_
                  refine v_iload_n dX10_readLetters_122 rfl (by rfl) ?_
                  refine w_callV hE dX10_readLetters_123 kX10_160 mdS_M (by rfl) (by rfl) (sX10_bad hE) rfl (by decide) (by decide) (by exact Nat.le_of_ble_eq_true rfl) (by omega) (by omega) (fun v9 g9 u9 h9 => ?_) (fun _ _ _ h => by cases h.1)
                  obtain ⟨hv9, hu9, hg9⟩ := h9
                  replace hu9 := hu9.symm
                  subst hu9
                  subst hg9
                  cases hv9
                  rw [mBad_0 hFz]
                  refine v_goto (tgt := 58) dX10_readLetters_126 (by decide) ?_
                  refine v_aload_n dX10_readLetters_58 rfl (by rfl) ?_
                  refine v_getf hE dX10_readLetters_59 fX10_147 mdS_M (by rfl) ?_
                  refine v_eqi (y := nI 5) rfl ?_
                  refine v_if_neN (tgt := 176) dX10_readLetters_62 (by decide) (by omega) (fun c62 => ?_) (fun c62 => ?_)
                  · refine v_aload_n dX10_readLetters_176 rfl (by rfl) ?_
                    refine v_getf hE dX10_readLetters_177 fX10_147 mdS_M (by rfl) ?_
                    refine v_eqi (y := nI 5) rfl ?_
                    refine v_if_neN (tgt := 201) dX10_readLetters_180 (by decide) (by omega) (fun c180 => ?_) (fun c180 => ?_)
                    · refine v_aload_n dX10_readLetters_201 rfl (by rfl) ?_
                      refine v_getf hE dX10_readLetters_202 fX10_147 mdS_M (by rfl) ?_
                      refine v_eqi (y := nI 5) rfl ?_
                      refine v_if_neN (tgt := 229) dX10_readLetters_205 (by decide) (by omega) (fun c205 => ?_) (fun c205 => ?_)
                      · refine v_aload_n dX10_readLetters_229 rfl (by rfl) ?_
                        refine v_getf hE dX10_readLetters_230 fX10_147 mdS_M (by rfl) ?_
                        refine v_eqi (y := nI 5) rfl ?_
                        refine v_if_neN (tgt := 286) dX10_readLetters_233 (by decide) (by omega) (fun c233 => ?_) (fun c233 => ?_)
                        · refine v_goto (tgt := 43) dX10_readLetters_286 (by decide) ?_
                          refine v_iload dX10_readLetters_43 (by rfl) ?_
                          refine v_if_eqN (tgt := 289) dX10_readLetters_45 (by decide) (by omega) (fun c45 => ?_) (fun c45 => ?_)
                          · exact absurd c45 (by decide)
                          · refine v_aload_n dX10_readLetters_48 rfl (by rfl) ?_
                            refine v_getf hE dX10_readLetters_49 fX10_147 mdS_M (by rfl) ?_
                            refine v_eqi (y := nI 5) rfl ?_
                            refine v_if_neN (tgt := 289) dX10_readLetters_52 (by decide) (by omega) (fun c52 => ?_) (fun c52 => ?_)
                            · refine v_aload_n dX10_readLetters_289 rfl (by rfl) ?_
                              refine v_getf hE dX10_readLetters_290 fX10_57 mdS_M (by rfl) ?_
                              refine v_iload_n dX10_readLetters_293 rfl (by rfl) ?_
                              refine v_iload dX10_readLetters_294 (by rfl) ?_
                              refine m_iast hE (k := 15) dX10_readLetters_296 (by decide) (by decide) rfl (show _ < 9 by omega) (by omega) ?_
                              refine v_iload_n dX10_readLetters_297 rfl (by rfl) ?_
                              refine v_iret dX10_readLetters_298 rfl (by first | rfl | exact nar_bI) ?_
                              have q9 := rF_mk (A := va_up z.1 15 (upd (z.1 15) s (nI wi))) (s := z.2) (F := 5) (Q := p1) (hr.trans (rst_f hlt (by rw [k0]; unfold rTakeL; rw [if_neg (by omega), if_pos (by show 0 < rWi vv ∧ (rLs vv = rWi vv ∨ (rLs vv = 0 ∧ rLl vv < rWi vv)); omega)]))) (rfl) (rfl) (by decide) (by decide)
                              exact ⟨rfl, _, _, rfl, rfl, ⟨fun k a => (va_up_ne _ _ (by omega)).trans (hz.1.1 k a), aNw_i hz.1.2 rfl⟩, Or.inl ⟨fun j a b c => (q9.1 j a b).trans (hz.2.2.2.2 j c), q9.2⟩⟩
                            · exact absurd c52 (by decide)
                        · exact absurd c233 (by decide)
                      · exact absurd c205 (by decide)
                    · exact absurd c180 (by decide)
                  · exact absurd c62 (by decide)
                · refine v_iload dX10_readLetters_113 (by rfl) ?_
                  refine v_iload dX10_readLetters_115 (by rfl) ?_
                  refine v_icmp_neN (tgt := 129) dX10_readLetters_117 (by decide) (by omega) (by omega) (fun c117 => ?_) (fun c117 => ?_)
                  · refine v_aload_n dX10_readLetters_129 rfl (by rfl) ?_
                    refine v_getf hE dX10_readLetters_130 fX10_45 mdS_M (by rfl) ?_
                    refine v_aload_n dX10_readLetters_133 rfl (by rfl) ?_
                    refine v_getf hE dX10_readLetters_134 fX10_171 mdS_M (by rfl) ?_
                    refine v_eqi (y := nI (gTo gg)) hq.2.2.2.2.2.1 ?_
                    refine v_aload_n dX10_readLetters_137 rfl (by rfl) ?_
                    refine v_iload_n dX10_readLetters_138 rfl (by rfl) ?_
                    refine w_callV hE dX10_readLetters_139 kX10_156 mdS_M (by rfl) (by rfl) (sX10_at hE (y := z) (u := u) hpz (by omega)) rfl (by decide) (by decide) (by exact Nat.le_of_ble_eq_true rfl) (by omega) (by omega) (fun v9 g9 u9 h9 => ?_) (fun _ _ _ h => by cases h.1)
                    obtain ⟨hv9, hu9, hg9⟩ := h9
                    replace hu9 := hu9.symm
                    subst hu9
                    subst hg9
                    cases hv9
                    refine w_callS hE dX10_readLetters_142 kX10_174 (by rfl) (sX10_letterOf hE) rfl (by decide) (by decide) (by exact Nat.le_of_ble_eq_true rfl) (by omega) (by omega) (fun v9 g9 u9 h9 => ?_) (fun _ _ _ h => by cases h.1)
                    obtain ⟨hv9, hu9, hg9⟩ := h9
                    replace hu9 := hu9.symm
                    replace hg9 := hg9.symm
                    subst hu9
                    subst hg9
                    cases hv9
                    obtain ⟨c, c1, c2⟩ := ltr_c c74
                    refine v_eqi (y := nI c) c2 ?_
                    refine v_i2b dX10_readLetters_145 rfl ?_
                    refine m_bast hE (k := 11) dX10_readLetters_146 (by decide) (by decide) rfl (show _ < 3001 by omega) (by omega) ?_
                    rw [i8_nar, byt c c1]
                    refine v_aload_n dX10_readLetters_147 rfl (by rfl) ?_
                    refine v_dup dX10_readLetters_148 rfl ?_
                    refine v_getf hE dX10_readLetters_149 fX10_171 mdS_M (by rfl) ?_
                    refine v_eqi (y := nI (gTo gg)) hq.2.2.2.2.2.1 ?_
                    refine v_iconst (v := nI 1) dX10_readLetters_152 (by decide) ?_
                    refine v_iaddN dX10_readLetters_153 ?_
                    refine m_put hE (j := 45) dX10_readLetters_154 fX10_171 (by exact Nat.le_of_ble_eq_true rfl) (by rfl) (by rfl) (by rfl) (by rfl) ?_
                    refine v_aload_n dX10_readLetters_157 rfl (by rfl) ?_
                    refine v_getf hE dX10_readLetters_158 fX10_51 mdS_M (by rfl) ?_
                    refine v_iload_n dX10_readLetters_161 rfl (by rfl) ?_
                    refine v_dup2 dX10_readLetters_162 rfl rfl ?_
                    refine m_iald hE (k := 13) dX10_readLetters_163 (by decide) (by decide) rfl (show _ < 9 by omega) (by omega) ?_
                    refine v_eqi (y := nI (gSz gg s)) hq.2.2.2.2.2.2.2.1 ?_
                    refine v_iconst (v := nI 1) dX10_readLetters_164 (by decide) ?_
                    refine v_iaddN dX10_readLetters_165 ?_
                    refine m_iast hE (k := 13) dX10_readLetters_166 (by decide) (by decide) rfl (show _ < 9 by omega) (by omega) ?_
                    refine v_iincN (y := 1) dX10_readLetters_167 (by rfl) (by decide) (by decide) ?_
                    refine v_iincN (y := 1) dX10_readLetters_170 (by rfl) (by decide) (by decide) ?_
                    refine v_goto (tgt := 58) dX10_readLetters_173 (by decide) ?_
                    have k1 : rTake (pAt vv p1) gg (mOct u p1) = (true, pSt (pLs (pAt vv p1) (rLs (pAt vv p1) + 1)) 4, gnAdd gg (nI c) (nI p1)) := by
                      rw [k0]
                      unfold rTakeL
                      rw [if_neg (by omega), if_neg (by show ¬ (0 < rWi vv ∧ (rLs vv = rWi vv ∨ (rLs vv = 0 ∧ rLl vv < rWi vv))); omega), c2]
                    obtain ⟨q1, q2⟩ := ltQ_a hq (by omega) c1
                    exact ih (d - 1) (by omega) (p1 + 1) (n + 1) wi ln la _ (pSt (pLs (pAt vv p1) (rLs (pAt vv p1) + 1)) 4) (gnAdd gg (nI c) (nI p1)) (by omega) (by omega) (rL1_a hz c1) q1 (Or.inr q2) (Or.inr (Or.inr ⟨by omega, rfl⟩)) hw hwi (by show rLs vv + 1 = _; omega) hla (by omega) (hr.trans (rst_s hlt k1))
                  · refine v_aload_n dX10_readLetters_120 rfl (by rfl) ?_
                    refine v_iconst (v := nI 5) dX10_readLetters_121 (by decide) ?_
                    refine v_iload_n dX10_readLetters_122 rfl (by rfl) ?_
                    refine w_callV hE dX10_readLetters_123 kX10_160 mdS_M (by rfl) (by rfl) (sX10_bad hE) rfl (by decide) (by decide) (by exact Nat.le_of_ble_eq_true rfl) (by omega) (by omega) (fun v9 g9 u9 h9 => ?_) (fun _ _ _ h => by cases h.1)
                    obtain ⟨hv9, hu9, hg9⟩ := h9
                    replace hu9 := hu9.symm
                    subst hu9
                    subst hg9
                    cases hv9
                    rw [mBad_0 hFz]
                    refine v_goto (tgt := 58) dX10_readLetters_126 (by decide) ?_
                    refine v_aload_n dX10_readLetters_58 rfl (by rfl) ?_
                    refine v_getf hE dX10_readLetters_59 fX10_147 mdS_M (by rfl) ?_
                    refine v_eqi (y := nI 5) rfl ?_
                    refine v_if_neN (tgt := 176) dX10_readLetters_62 (by decide) (by omega) (fun c62 => ?_) (fun c62 => ?_)
                    · refine v_aload_n dX10_readLetters_176 rfl (by rfl) ?_
                      refine v_getf hE dX10_readLetters_177 fX10_147 mdS_M (by rfl) ?_
                      refine v_eqi (y := nI 5) rfl ?_
                      refine v_if_neN (tgt := 201) dX10_readLetters_180 (by decide) (by omega) (fun c180 => ?_) (fun c180 => ?_)
                      · refine v_aload_n dX10_readLetters_201 rfl (by rfl) ?_
                        refine v_getf hE dX10_readLetters_202 fX10_147 mdS_M (by rfl) ?_
                        refine v_eqi (y := nI 5) rfl ?_
                        refine v_if_neN (tgt := 229) dX10_readLetters_205 (by decide) (by omega) (fun c205 => ?_) (fun c205 => ?_)
                        · refine v_aload_n dX10_readLetters_229 rfl (by rfl) ?_
                          refine v_getf hE dX10_readLetters_230 fX10_147 mdS_M (by rfl) ?_
                          refine v_eqi (y := nI 5) rfl ?_
                          refine v_if_neN (tgt := 286) dX10_readLetters_233 (by decide) (by omega) (fun c233 => ?_) (fun c233 => ?_)
                          · refine v_goto (tgt := 43) dX10_readLetters_286 (by decide) ?_
                            refine v_iload dX10_readLetters_43 (by rfl) ?_
                            refine v_if_eqN (tgt := 289) dX10_readLetters_45 (by decide) (by omega) (fun c45 => ?_) (fun c45 => ?_)
                            · exact absurd c45 (by decide)
                            · refine v_aload_n dX10_readLetters_48 rfl (by rfl) ?_
                              refine v_getf hE dX10_readLetters_49 fX10_147 mdS_M (by rfl) ?_
                              refine v_eqi (y := nI 5) rfl ?_
                              refine v_if_neN (tgt := 289) dX10_readLetters_52 (by decide) (by omega) (fun c52 => ?_) (fun c52 => ?_)
                              · refine v_aload_n dX10_readLetters_289 rfl (by rfl) ?_
                                refine v_getf hE dX10_readLetters_290 fX10_57 mdS_M (by rfl) ?_
                                refine v_iload_n dX10_readLetters_293 rfl (by rfl) ?_
                                refine v_iload dX10_readLetters_294 (by rfl) ?_
                                refine m_iast hE (k := 15) dX10_readLetters_296 (by decide) (by decide) rfl (show _ < 9 by omega) (by omega) ?_
                                refine v_iload_n dX10_readLetters_297 rfl (by rfl) ?_
                                refine v_iret dX10_readLetters_298 rfl (by first | rfl | exact nar_bI) ?_
                                have q9 := rF_mk (A := va_up z.1 15 (upd (z.1 15) s (nI wi))) (s := z.2) (F := 5) (Q := p1) (hr.trans (rst_f hlt (by rw [k0]; unfold rTakeL; rw [if_neg (by omega), if_pos (by show 0 < rWi vv ∧ (rLs vv = rWi vv ∨ (rLs vv = 0 ∧ rLl vv < rWi vv)); omega)]))) (rfl) (rfl) (by decide) (by decide)
                                exact ⟨rfl, _, _, rfl, rfl, ⟨fun k a => (va_up_ne _ _ (by omega)).trans (hz.1.1 k a), aNw_i hz.1.2 rfl⟩, Or.inl ⟨fun j a b c => (q9.1 j a b).trans (hz.2.2.2.2 j c), q9.2⟩⟩
                              · exact absurd c52 (by decide)
                          · exact absurd c233 (by decide)
                        · exact absurd c205 (by decide)
                      · exact absurd c180 (by decide)
                    · exact absurd c62 (by decide)
          · refine v_aload_n dX10_readLetters_87 rfl (by rfl) ?_
            refine v_iconst (v := nI 3) dX10_readLetters_88 (by decide) ?_
            refine v_iload_n dX10_readLetters_89 rfl (by rfl) ?_
            refine w_callV hE dX10_readLetters_90 kX10_160 mdS_M (by rfl) (by rfl) (sX10_bad hE) rfl (by decide) (by decide) (by exact Nat.le_of_ble_eq_true rfl) (by omega) (by omega) (fun v9 g9 u9 h9 => ?_) (fun _ _ _ h => by cases h.1)
            obtain ⟨hv9, hu9, hg9⟩ := h9
            replace hu9 := hu9.symm
            subst hu9
            subst hg9
            cases hv9
            rw [mBad_0 hFz]
            refine v_goto (tgt := 58) dX10_readLetters_93 (by decide) ?_
            refine v_aload_n dX10_readLetters_58 rfl (by rfl) ?_
            refine v_getf hE dX10_readLetters_59 fX10_147 mdS_M (by rfl) ?_
            refine v_eqi (y := nI 3) rfl ?_
            refine v_if_neN (tgt := 176) dX10_readLetters_62 (by decide) (by omega) (fun c62 => ?_) (fun c62 => ?_)
            · refine v_aload_n dX10_readLetters_176 rfl (by rfl) ?_
              refine v_getf hE dX10_readLetters_177 fX10_147 mdS_M (by rfl) ?_
              refine v_eqi (y := nI 3) rfl ?_
              refine v_if_neN (tgt := 201) dX10_readLetters_180 (by decide) (by omega) (fun c180 => ?_) (fun c180 => ?_)
              · refine v_aload_n dX10_readLetters_201 rfl (by rfl) ?_
                refine v_getf hE dX10_readLetters_202 fX10_147 mdS_M (by rfl) ?_
                refine v_eqi (y := nI 3) rfl ?_
                refine v_if_neN (tgt := 229) dX10_readLetters_205 (by decide) (by omega) (fun c205 => ?_) (fun c205 => ?_)
                · refine v_aload_n dX10_readLetters_229 rfl (by rfl) ?_
                  refine v_getf hE dX10_readLetters_230 fX10_147 mdS_M (by rfl) ?_
                  refine v_eqi (y := nI 3) rfl ?_
                  refine v_if_neN (tgt := 286) dX10_readLetters_233 (by decide) (by omega) (fun c233 => ?_) (fun c233 => ?_)
                  · refine v_goto (tgt := 43) dX10_readLetters_286 (by decide) ?_
                    refine v_iload dX10_readLetters_43 (by rfl) ?_
                    refine v_if_eqN (tgt := 289) dX10_readLetters_45 (by decide) (by omega) (fun c45 => ?_) (fun c45 => ?_)
                    · exact absurd c45 (by decide)
                    · refine v_aload_n dX10_readLetters_48 rfl (by rfl) ?_
                      refine v_getf hE dX10_readLetters_49 fX10_147 mdS_M (by rfl) ?_
                      refine v_eqi (y := nI 3) rfl ?_
                      refine v_if_neN (tgt := 289) dX10_readLetters_52 (by decide) (by omega) (fun c52 => ?_) (fun c52 => ?_)
                      · refine v_aload_n dX10_readLetters_289 rfl (by rfl) ?_
                        refine v_getf hE dX10_readLetters_290 fX10_57 mdS_M (by rfl) ?_
                        refine v_iload_n dX10_readLetters_293 rfl (by rfl) ?_
                        refine v_iload dX10_readLetters_294 (by rfl) ?_
                        refine m_iast hE (k := 15) dX10_readLetters_296 (by decide) (by decide) rfl (show _ < 9 by omega) (by omega) ?_
                        refine v_iload_n dX10_readLetters_297 rfl (by rfl) ?_
                        refine v_iret dX10_readLetters_298 rfl (by first | rfl | exact nar_bI) ?_
                        have q9 := rF_mk (A := va_up z.1 15 (upd (z.1 15) s (nI wi))) (s := z.2) (F := 3) (Q := p1) (hr.trans (rst_f hlt (by rw [k0]; unfold rTakeL; rw [if_pos (by omega)]))) (rfl) (rfl) (by decide) (by decide)
                        exact ⟨rfl, _, _, rfl, rfl, ⟨fun k a => (va_up_ne _ _ (by omega)).trans (hz.1.1 k a), aNw_i hz.1.2 rfl⟩, Or.inl ⟨fun j a b c => (q9.1 j a b).trans (hz.2.2.2.2 j c), q9.2⟩⟩
                      · exact absurd c52 (by decide)
                  · exact absurd c233 (by decide)
                · exact absurd c205 (by decide)
              · exact absurd c180 (by decide)
            · exact absurd c62 (by decide)
  refine v_aload_n dX10_readLetters_0 rfl (by rfl) ?_
  refine v_getf hE dX10_readLetters_1 fX10_153 mdS_M (by rfl) ?_
  refine v_eqi (y := nI s) hM ?_
  refine v_istore_n dX10_readLetters_4 rfl (by decide) ?_
  refine v_iload_n dX10_readLetters_5 rfl (by rfl) ?_
  refine v_istore_n dX10_readLetters_6 rfl (by decide) ?_
  refine v_aload_n dX10_readLetters_7 rfl (by rfl) ?_
  refine v_getf hE dX10_readLetters_8 fX10_48 mdS_M (by rfl) ?_
  refine v_iload_n dX10_readLetters_11 rfl (by rfl) ?_
  refine v_aload_n dX10_readLetters_12 rfl (by rfl) ?_
  refine v_getf hE dX10_readLetters_13 fX10_171 mdS_M (by rfl) ?_
  refine v_eqi (y := nI (gTo g)) hL ?_
  refine m_iast hE (k := 12) dX10_readLetters_16 (by decide) (by decide) rfl (show _ < 9 by omega) (by omega) ?_
  refine v_aload_n dX10_readLetters_17 rfl (by rfl) ?_
  refine v_getf hE dX10_readLetters_18 fX10_54 mdS_M (by rfl) ?_
  refine v_iload_n dX10_readLetters_21 rfl (by rfl) ?_
  refine v_iload_n dX10_readLetters_22 rfl (by rfl) ?_
  refine m_iast hE (k := 14) dX10_readLetters_23 (by decide) (by decide) rfl (show _ < 9 by omega) (by omega) ?_
  refine v_aload_n dX10_readLetters_24 rfl (by rfl) ?_
  refine v_getf hE dX10_readLetters_25 fX10_51 mdS_M (by rfl) ?_
  refine v_iload_n dX10_readLetters_28 rfl (by rfl) ?_
  refine v_iconst (v := nI 0) dX10_readLetters_29 (by decide) ?_
  refine m_iast hE (k := 13) dX10_readLetters_30 (by decide) (by decide) rfl (show _ < 9 by omega) (by omega) ?_
  refine v_iconst (v := nI 0) dX10_readLetters_31 (by decide) ?_
  refine v_istore dX10_readLetters_32 (by decide) ?_
  refine v_iconst (v := nI 0) dX10_readLetters_34 (by decide) ?_
  refine v_istore dX10_readLetters_35 (by decide) ?_
  refine v_iconst (v := nI 0) dX10_readLetters_37 (by decide) ?_
  refine v_istore dX10_readLetters_38 (by decide) ?_
  refine v_iconst (v := nI 1) dX10_readLetters_40 (by decide) ?_
  refine v_istore dX10_readLetters_41 (by decide) ?_
  refine v_iload dX10_readLetters_43 (by rfl) ?_
  refine v_if_eqN (tgt := 289) dX10_readLetters_45 (by decide) (by omega) (fun c45 => ?_) (fun c45 => ?_)
  · exact absurd c45 (by decide)
  · refine v_aload_n dX10_readLetters_48 rfl (by rfl) ?_
    refine v_getf hE dX10_readLetters_49 fX10_147 mdS_M (by rfl) ?_
    refine v_eqi (y := nI 0) hF ?_
    refine v_if_neN (tgt := 289) dX10_readLetters_52 (by decide) (by omega) (fun c52 => ?_) (fun c52 => ?_)
    · exact absurd rfl c52
    · refine v_iconst (v := nI 0) dX10_readLetters_55 (by decide) ?_
      refine v_istore dX10_readLetters_56 (by decide) ?_
      refine v_hp (show _ = mdS f M (va_up (va_up (va_up y.1 12 (upd (y.1 12) s (nI (gTo g)))) 14 (upd (y.1 14) s (nI p))) 13 (upd (y.1 13) s (nI 0)), y.2) from rfl) ?_
      exact lp (u.1 - p) p 0 0 0 0 (va_up (va_up (va_up y.1 12 (upd (y.1 12) s (nI (gTo g)))) 14 (upd (y.1 14) s (nI p))) 13 (upd (y.1 13) s (nI 0)), y.2) v g (Nat.le_refl _) (by omega) (rL1_0 (q := gTo g) (p0 := p) hO hst0) (ltQ_0 (p := p) hct hgz0 hto hL hle hw0) (Or.inl ⟨rfl, rfl⟩) (Or.inl ⟨rfl, rfl, hst⟩) (Or.inl ⟨rfl, rfl⟩) hwi hls hll (by omega) rfl
