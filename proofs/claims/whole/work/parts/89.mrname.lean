/-! the genome reader's run, step by step -/
theorem rst_s {u : tS} {v v2 : rV} {g g2 : gV} {k : Nat} (h : k < u.1) (e : rTake (pAt v k) g (mOct u k) = (true, v2, g2)) : rRunL u (u.1 - k) k v g = rRunL u (u.1 - (k + 1)) (k + 1) v2 g2 := by
  rw [show u.1 - k = (u.1 - (k + 1)) + 1 by omega]
  show (if (rTake (pAt v k) g (mOct u k)).1 = true then rRunL u (u.1 - (k + 1)) (k + 1) (rTake (pAt v k) g (mOct u k)).2.1 (rTake (pAt v k) g (mOct u k)).2.2 else (false, (rTake (pAt v k) g (mOct u k)).2)) = _
  rw [e]
  exact if_pos rfl
theorem rst_f {u : tS} {v v2 : rV} {g g2 : gV} {k : Nat} (h : k < u.1) (e : rTake (pAt v k) g (mOct u k) = (false, v2, g2)) : rRunL u (u.1 - k) k v g = (false, v2, g2) := by
  rw [show u.1 - k = (u.1 - (k + 1)) + 1 by omega]
  show (if (rTake (pAt v k) g (mOct u k)).1 = true then rRunL u (u.1 - (k + 1)) (k + 1) (rTake (pAt v k) g (mOct u k)).2.1 (rTake (pAt v k) g (mOct u k)).2.2 else (false, (rTake (pAt v k) g (mOct u k)).2)) = _
  rw [e]
  exact if_neg (fun q => Bool.noConfusion q)
theorem rst_0 {u : tS} {v : rV} {g : gV} {k : Nat} (h : u.1 ≤ k) (hs : rSt v ≠ 5) : rRunL u (u.1 - k) k v g = (false, rFail (pAt v u.1) 1, g) := by
  rw [show u.1 - k = 0 by omega]
  exact if_neg hs
theorem rst_t {u : tS} {v : rV} {g : gV} {k : Nat} (h : u.1 ≤ k) (hs : rSt v = 5) : rRunL u (u.1 - k) k v g = (true, pAt v u.1, g) := by
  rw [show u.1 - k = 0 by omega]
  exact if_pos hs
theorem tk1 {v : rV} {g : gV} {x : Int32} (h : rSt v = 1) : rTake v g x = rName v g x := if_pos h
theorem tk2 {v : rV} {g : gV} {x : Int32} (h : rSt v = 2) : rTake v g x = rRem v g x := by
  unfold rTake
  rw [if_neg (by rw [h]; decide), if_pos h]
theorem tk4 {v : rV} {g : gV} {x : Int32} (h : rSt v = 4) : rTake v g x = rLett v g x := by
  unfold rTake
  rw [if_neg (by rw [h]; decide), if_neg (by rw [h]; decide), if_pos h]
theorem tkLn {v : rV} {g : gV} {x : Int32} (h1 : rSt v ≠ 1) (h2 : rSt v ≠ 2) (h4 : rSt v ≠ 4) : rTake v g x = rLine v g x := by
  unfold rTake
  rw [if_neg h1, if_neg h2, if_neg h4]
/-- the model has failed as the run has -/
def rF (R : Bool × rV × gV) (y : mV) : Prop := ∃ (F Q : Nat) (v2 : rV) (g2 : gV), y.2 43 = nI F ∧ 0 < F ∧ F ≤ 5 ∧ y.2 44 = nI Q ∧ R = (false, v2, g2) ∧ rFa v2 = F ∧ rFp v2 = Q
theorem rF_mk {R : Bool × rV × gV} {A : Nat → Nat → Int32} {s : Nat → Int32} {F Q : Nat} {v2 : rV} {g2 : gV} (h : R = (false, v2, g2)) (h1 : rFa v2 = F) (h2 : rFp v2 = Q) (h3 : 0 < F) (h4 : F ≤ 5) : (∀ j, j ≠ 43 → j ≠ 44 → (va_up (va_up s 43 (nI F)) 44 (nI Q)) j = s j) ∧ rF R (A, va_up (va_up s 43 (nI F)) 44 (nI Q)) :=
  ⟨fun j a b => (va_up_ne _ _ b).trans (va_up_ne _ _ a), F, Q, v2, g2, rfl, h3, h4, rfl, h, h1, h2⟩
theorem mBad_0 {y : mV} {n p : Int32} (h : y.2 43 = nI 0) : mBad y n p = (y.1, va_up (va_up y.2 43 n) 44 p) := if_pos h
def rN1 (y y' : mV) : Prop := (∀ k, k ≠ 9 → k ≠ 10 → y'.1 k = y.1 k) ∧ aNw y'.1
theorem isNm_c {x : Int32} (h : isNm x = true) : ∃ c, c < 128 ∧ x = nI c := by
  unfold isNm at h
  rw [Bool.or_eq_true, Bool.or_eq_true, Bool.or_eq_true, Bool.or_eq_true] at h
  rcases h with h | h | h | h | h
  · obtain ⟨n, _, h2, h3⟩ := mIn_nat (a := 65) (b := 90) h (by decide) (by decide)
    exact ⟨n, by omega, h3⟩
  · obtain ⟨n, _, h2, h3⟩ := mIn_nat (a := 97) (b := 122) h (by decide) (by decide)
    exact ⟨n, by omega, h3⟩
  · obtain ⟨n, _, h2, h3⟩ := mIn_nat (a := 48) (b := 57) h (by decide) (by decide)
    exact ⟨n, by omega, h3⟩
  · exact ⟨95, by decide, of_decide_eq_true h⟩
  · exact ⟨46, by decide, of_decide_eq_true h⟩
theorem isNm_m1 : isNm (-1) = false := by decide
theorem isNm_10 : isNm (nI 10) = false := by decide
/-- while a name is read -/
def nmQ (z : mV) (v : nV) (s n : Nat) : Prop := v.1 = s + 1 ∧ v.2.2 s = n ∧ n ≤ 20 ∧ (∀ i, i < s → z.1 10 i = nI (v.2.2 i) ∧ v.2.2 i ≤ 20) ∧ ∀ i k, i ≤ s → k < v.2.2 i → z.1 9 (20 * i + k) = v.2.1 (i * 20 + k) ∧ ∃ c, c < 128 ∧ v.2.1 (i * 20 + k) = nI c
theorem nmQ_s {z : mV} {v : nV} {s n c : Nat} (h : nmQ z v s n) (hn : n < 20) (hc : c < 128) : nmQ (va_up z.1 9 (upd (z.1 9) (20 * s + n) (nI c)), z.2) (nmAdd v (nI c)) s (n + 1) := by
  obtain ⟨h1, h2, h3, h4, h5⟩ := h
  have e : nmAdd v (nI c) = (v.1, upd v.2.1 (s * 20 + n) (nI c), va_up v.2.2 s (n + 1)) := by
    unfold nmAdd
    rw [show v.1 - 1 = s by omega, h2, if_pos hn]
  rw [e]
  refine ⟨h1, va_up_self _ _ _, by omega, fun i hi => ?_, fun i k hi hk => ?_⟩
  · have q := h4 i hi
    dsimp only
    rw [va_up_ne _ _ (show i ≠ s by omega), va_up_ne _ _ (show (10 : Nat) ≠ 9 by decide)]
    exact q
  · dsimp only at hk ⊢
    rw [va_up_self]
    by_cases e2 : i = s
    · subst e2
      rw [va_up_self] at hk
      by_cases e3 : k = n
      · subst e3
        rw [updS, updS]
        exact ⟨rfl, c, hc, rfl⟩
      · rw [updN (by omega), updN (by omega)]
        exact h5 i k hi (by omega)
    · rw [va_up_ne _ _ e2] at hk
      have := (h4 i (by omega)).2
      rw [updN (by omega), updN (by omega)]
      exact h5 i k hi hk
def nmL (v : nV) (m : Nat) : Prop := ∀ i k, i < m → k < v.2.2 i → ∃ c, c < 128 ∧ v.2.1 (i * 20 + k) = nI c
theorem nmQ_e {z : mV} {v : nV} {s n : Nat} {q : Nat → Int32} (h : nmQ z v s n) : mNm (va_up z.1 10 (upd (z.1 10) s (nI n)), q) v s ∧ nmL v (s + 1) := by
  obtain ⟨h1, h2, h3, h4, h5⟩ := h
  refine ⟨fun i hi => ?_, fun i k hi hk => (h5 i k (by omega) hk).2⟩
  dsimp only
  rw [va_up_self, va_up_ne _ _ (show (9 : Nat) ≠ 10 by decide)]
  by_cases e : i = s
  · subst e
    rw [updS]
    exact ⟨by rw [h2], by omega, fun k hk => (h5 i k hi hk).1⟩
  · rw [updN e]
    exact ⟨(h4 i (by omega)).1, (h4 i (by omega)).2, fun k hk => (h5 i k hi hk).1⟩
theorem fnd_eq {p : Nat → Bool} {s : Nat} (hs : s < 2 ^ 31) (hp : p s = true) : ∀ (d i : Nat), i ≤ s → s < i + d → (fndB p d i = nI s ↔ ∀ j, i ≤ j → j < s → p j = false) := by
  intro d
  induction d with
  | zero => intro i h1 h2; omega
  | succ d ih =>
    intro i h1 h2
    show ((if p i = true then nI i else fndB p d (i + 1)) = nI s ↔ _)
    by_cases e : i = s
    · subst e
      rw [if_pos hp]
      exact ⟨fun _ j a b => absurd b (by omega), fun _ => rfl⟩
    · by_cases q : p i = true
      · rw [if_pos q]
        exact ⟨fun h => absurd (nI_inj h (by omega) hs) e, fun h => absurd (h i (Nat.le_refl _) (by omega)) (by rw [q]; decide)⟩
      · rw [if_neg q, ih (i + 1) (by omega) (by omega)]
        refine ⟨fun h j a b => ?_, fun h j a b => h j (by omega) b⟩
        by_cases e2 : j = i
        · subst e2
          exact Bool.eq_false_iff.mpr q
        · exact h j (by omega) b
theorem nmSame_r {v : nV} {s : Nat} : nmSame v s v s = true := by
  unfold nmSame
  rw [decide_eq_true rfl, Bool.true_and, allB_iff]
  exact fun j _ _ => decide_eq_true rfl
theorem idx_old {v : nV} {s : Nat} (h : v.1 = s + 1) (hs : s < 8) : nmIdx v v s = nI s ↔ allB (odP v s) (s - 0) 0 = true := by
  unfold nmIdx
  rw [fnd_eq (p := fun i => nmSame v i v s) (by omega) nmSame_r (v.1 - 0) 0 (by omega) (by omega), allB_iff]
  refine ⟨fun q j a b => ?_, fun q j a b => ?_⟩
  · unfold odP
    rw [q j a (by omega)]
    rfl
  · have := q j a (by omega)
    unfold odP at this
    cases hh : nmSame v j v s with
    | false => rfl
    | true => rw [hh] at this; exact Bool.noConfusion this
theorem gnOpen_2 {g : gV} (h : gCt g < 8) : gnOpen g = (nmNew 8 g.1, gLe g, va_up (gSt g) (gCt g) (gTo g), va_up (gSz g) (gCt g) 0, va_up (gWi g) (gCt g) 0, upd (gTp g) (gCt g) (-1), gCt g + 1, gTo g) := if_pos h
/-- what a name's end says -/
def nmSt (vv : rV) (x : Int32) (n : Nat) : Prop := (rSt vv = 1 ∧ isNm x = false ∧ (0 < n → ¬ x = nI 32)) ∨ (rSt vv = 2 ∧ 0 < n ∧ mIn x (nI 32) (nI 126) = false)
theorem nmSt_2 {vv : rV} {g : gV} {x : Int32} {n : Nat} (h : nmSt vv x n) (hn : rNs vv = n) (hx : ¬ x = nI 10 ∨ n = 0) : ∃ v2, rTake vv g x = (false, v2, g) ∧ rFa v2 = 2 ∧ rFp v2 = rAt vv := by
  rcases h with ⟨h1, h2, h3⟩ | ⟨h1, h2, h3⟩
  · rw [tk1 h1]
    unfold rName
    rw [if_neg (by rw [h2]; decide)]
    by_cases e : n = 0
    · rw [if_pos (by omega)]
      exact ⟨_, rfl, rfl, rfl⟩
    · rw [if_neg (by omega), if_neg (by rcases hx with q | q; exact q; exact absurd q e), if_neg (h3 (by omega))]
      exact ⟨_, rfl, rfl, rfl⟩
  · rw [tk2 h1]
    unfold rRem
    have h10 : ¬ x = nI 10 := by rcases hx with q | q; exact q; omega
    rw [if_neg h10]
    have : x < nI 32 ∨ ¬ x ≤ nI 126 := by
      by_cases q : x < nI 32
      · exact Or.inl q
      · refine Or.inr (fun q2 => ?_)
        unfold mIn at h3
        rw [decide_eq_true (Int32.not_lt.mp q), decide_eq_true q2] at h3
        exact Bool.noConfusion h3
    rw [if_pos this]
    exact ⟨_, rfl, rfl, rfl⟩
theorem nmSt_10 {vv : rV} {g : gV} {n : Nat} (h : nmSt vv (nI 10) n) (hn : rNs vv = n) (h0 : n ≠ 0) : rTake vv g (nI 10) = rEndN vv g := by
  rcases h with ⟨h1, h2, h3⟩ | ⟨h1, h2, h3⟩
  · rw [tk1 h1]
    unfold rName
    rw [if_neg (by rw [h2]; decide), if_neg (by omega), if_pos rfl]
  · rw [tk2 h1]
    unfold rRem
    rw [if_pos rfl]
theorem nmQ_0 {z : mV} {v : nV} {s : Nat} (hs : s < 8) (h : v.1 = s) (hN : ∀ i, i < s → z.1 10 i = nI (v.2.2 i) ∧ v.2.2 i ≤ 20 ∧ ∀ k, k < v.2.2 i → z.1 9 (20 * i + k) = v.2.1 (i * 20 + k) ∧ ∃ c, c < 128 ∧ v.2.1 (i * 20 + k) = nI c) : nmQ z (nmNew 8 v) s 0 := by
  have e : nmNew 8 v = (v.1 + 1, v.2.1, va_up v.2.2 v.1 0) := if_pos (by omega)
  rw [e, h]
  refine ⟨rfl, va_up_self _ _ _, by omega, fun i hi => ?_, fun i k hi hk => ?_⟩
  · dsimp only
    rw [va_up_ne _ _ (show i ≠ s by omega)]
    exact ⟨(hN i hi).1, (hN i hi).2.1⟩
  · dsimp only at hk ⊢
    by_cases e2 : i = s
    · subst e2
      rw [va_up_self] at hk
      omega
    · rw [va_up_ne _ _ e2] at hk
      exact (hN i (by omega)).2.2 k hk
set_option maxRecDepth 100000 in
set_option maxHeartbeats 600000 in
/-- model: readName -/
theorem sX10_readName {E : eN} (hE : eOk E) {f : aH} {t : Nat} {M : Nat} {y : mV} {u : tS} {v : rV} {g : gV} {p : Nat} (hp : mTp y u) (hO : aNw y.1) (hF : y.2 43 = nI 0) (hM : y.2 12 = nI (gCt g)) (hc8 : (gCt g) ≤ 8) (hct0 : g.1.1 = (gCt g)) (hN : ∀ i, i < (gCt g) → y.1 10 i = nI (g.1.2.2 i) ∧ g.1.2.2 i ≤ 20 ∧ ∀ k, k < g.1.2.2 i → y.1 9 (20 * i + k) = g.1.2.1 (i * 20 + k) ∧ ∃ c, c < 128 ∧ g.1.2.1 (i * 20 + k) = nI c) (hp1 : p ≤ u.1) (hst : rSt v = 0 ∨ (rSt v = 5 ∧ p < u.1 ∧ mOct u p = nI 62)) : mT E mX10_readName 0 0 [.ref M, .int (nI p)] (mdS f M y) t (fun o f' t' => t' = t ∧ ∃ y' o1, o = .inl (some (.int o1)) ∧ f' = mdS f M y' ∧ rN1 y y' ∧ (((∀ j, j ≠ 43 → j ≠ 44 → y'.2 j = y.2 j) ∧ rF (rRunL u (u.1 - p) p v g) y') ∨ (y'.2 = y.2 ∧ ∃ (p2 : Nat) (v2 : rV) (nm : nV), o1 = nI p2 ∧ p < p2 ∧ p2 ≤ u.1 ∧ (rRunL u (u.1 - p) p v g) = rRunL u (u.1 - p2) p2 v2 (nm, ((gnOpen g).2)) ∧ rSt v2 = 3 ∧ rWi v2 = 0 ∧ rLs v2 = 0 ∧ rLl v2 = 0 ∧ nm.1 = (gCt g) + 1 ∧ mNm y' nm (gCt g) ∧ nmL nm ((gCt g) + 1) ∧ (gCt g) < 8))) := by
  refine mT_of (n := 4) (lo := [some (.ref M), some (.int (nI p)), none, none, none, none]) (by decide) (by exact Nat.le_of_ble_eq_true rfl) rfl rfl ?_
  have hu8 := hp.2.1
  have tail : (gCt g) < 8 → ∀ (p1 n : Nat) (z : mV) (vv : rV) (nm : nV), p < p1 → p1 ≤ u.1 → z.2 = y.2 → rN1 y z → mNm z nm (gCt g) → nmL nm ((gCt g) + 1) → nm.1 = (gCt g) + 1 → rNt vv = p + 1 → rNs vv = n → n ≤ 20 → (rRunL u (u.1 - p) p v g) = rRunL u (u.1 - p1) p1 vv (nm, ((gnOpen g).2)) → nmSt vv (mOct u p1) n → V E mX10_readName 0 0 (fun o f' t' => t' = t ∧ ∃ y' o1, o = .inl (some (.int o1)) ∧ f' = mdS f M y' ∧ rN1 y y' ∧ (((∀ j, j ≠ 43 → j ≠ 44 → y'.2 j = y.2 j) ∧ rF (rRunL u (u.1 - p) p v g) y') ∨ (y'.2 = y.2 ∧ ∃ (p2 : Nat) (v2 : rV) (nm : nV), o1 = nI p2 ∧ p < p2 ∧ p2 ≤ u.1 ∧ (rRunL u (u.1 - p) p v g) = rRunL u (u.1 - p2) p2 v2 (nm, ((gnOpen g).2)) ∧ rSt v2 = 3 ∧ rWi v2 = 0 ∧ rLs v2 = 0 ∧ rLl v2 = 0 ∧ nm.1 = (gCt g) + 1 ∧ mNm y' nm (gCt g) ∧ nmL nm ((gCt g) + 1) ∧ (gCt g) < 8))) 175 [some (.ref M), some (.int (nI p)), some (.int (nI (gCt g))), some (.int (nI p1)), some (.int (nI (p + 1))), some (.int (nI n))] [] (mdS f M z) t 0 0 := by
    intro hs p1 n z vv nm hp0 hp1 hz2 hz1 hmn hml hnm hnt hns hn20 hr hst
    have hct : gCt (nm, ((gnOpen g).2)) - 1 = (gCt g) := by
      show gCt (gnOpen g) - 1 = _
      rw [gnOpen_2 hs]
      rfl
    have hpz : mTp z u := ⟨by rw [hz2]; exact hp.1, hp.2.1, by rw [hz1.1 1 (by decide) (by decide)]; exact hp.2.2⟩
    have hFz : z.2 43 = nI 0 := by rw [hz2]; exact hF
    refine v_aload_n dX10_readName_175 rfl (by rfl) ?_
    refine v_iload_n dX10_readName_176 rfl (by rfl) ?_
    refine w_callV hE dX10_readName_177 kX10_156 mdS_M (by rfl) (by rfl) (sX10_at hE (y := z) (u := u) (hpz) (by omega)) rfl (by decide) (by decide) (by exact Nat.le_of_ble_eq_true rfl) (by omega) (by omega) (fun v9 g9 u9 h9 => ?_) (fun _ _ _ h => by cases h.1)
    obtain ⟨hv9, hu9, hg9⟩ := h9
    replace hu9 := hu9.symm
    subst hu9
    subst hg9
    cases hv9
    refine v_iconst (v := (-1)) dX10_readName_180 (by decide) ?_
    refine v_icmp_ne (tgt := 193) dX10_readName_181 (by decide) (fun c181 => ?_) (fun c181 => ?_)
    · have hlt : p1 < u.1 := by
        by_cases q : p1 < u.1
        · exact q
        · exact absurd ((mTp_o hpz p1 (by omega)).mpr (by omega)) c181
      refine v_aload_n dX10_readName_193 rfl (by rfl) ?_
      refine v_iload_n dX10_readName_194 rfl (by rfl) ?_
      refine w_callV hE dX10_readName_195 kX10_156 mdS_M (by rfl) (by rfl) (sX10_at hE (y := z) (u := u) (hpz) (by omega)) rfl (by decide) (by decide) (by exact Nat.le_of_ble_eq_true rfl) (by omega) (by omega) (fun v9 g9 u9 h9 => ?_) (fun _ _ _ h => by cases h.1)
      obtain ⟨hv9, hu9, hg9⟩ := h9
      replace hu9 := hu9.symm
      subst hu9
      subst hg9
      cases hv9
      refine v_bipush (v := nI 10) dX10_readName_198 (by decide) ?_
      refine v_icmp_ne (tgt := 208) dX10_readName_200 (by decide) (fun c200 => ?_) (fun c200 => ?_)
      · refine v_aload_n dX10_readName_208 rfl (by rfl) ?_
        refine v_iconst (v := nI 2) dX10_readName_209 (by decide) ?_
        refine v_iload_n dX10_readName_210 rfl (by rfl) ?_
        refine w_callV hE dX10_readName_211 kX10_160 mdS_M (by rfl) (by rfl) (sX10_bad hE) rfl (by decide) (by decide) (by exact Nat.le_of_ble_eq_true rfl) (by omega) (by omega) (fun v9 g9 u9 h9 => ?_) (fun _ _ _ h => by cases h.1)
        obtain ⟨hv9, hu9, hg9⟩ := h9
        replace hu9 := hu9.symm
        subst hu9
        subst hg9
        cases hv9
        rw [mBad_0 hFz]
        refine v_goto (tgt := 232) dX10_readName_214 (by decide) ?_
        refine v_iload_n dX10_readName_232 rfl (by rfl) ?_
        refine v_iconst (v := nI 1) dX10_readName_233 (by decide) ?_
        refine v_iaddN dX10_readName_234 ?_
        refine v_iret dX10_readName_235 rfl (by first | rfl | exact nar_bI) ?_
        obtain ⟨v2, k1, k2, k3⟩ := nmSt_2 (vv := pAt vv p1) (g := (nm, ((gnOpen g).2))) hst hns (by first | exact Or.inl c200 | exact Or.inr (by omega))
        exact ⟨rfl, _, _, rfl, rfl, hz1, Or.inl (by
          have q9 := rF_mk (A := z.1) (s := z.2) (F := 2) (Q := p1) (hr.trans (rst_f (by omega) k1)) (k2) (k3) (by decide) (by decide)
          exact ⟨fun j a b => (q9.1 j a b).trans (congrFun hz2 j), q9.2⟩)⟩
      · refine v_iload dX10_readName_203 (by rfl) ?_
        refine v_if_neN (tgt := 217) dX10_readName_205 (by decide) (by omega) (fun c205 => ?_) (fun c205 => ?_)
        · refine v_aload_n dX10_readName_217 rfl (by rfl) ?_
          refine v_iload_n dX10_readName_218 rfl (by rfl) ?_
          refine w_callV hE dX10_readName_219 kX10_168 mdS_M (by rfl) (by rfl) (sX10_isOld hE hmn (by omega)) rfl (by decide) (by decide) (by exact Nat.le_of_ble_eq_true rfl) (by omega) (by omega) (fun v9 g9 u9 h9 => ?_) (fun _ _ _ h => by cases h.1)
          obtain ⟨hv9, hu9, hg9⟩ := h9
          replace hu9 := hu9.symm
          subst hu9
          subst hg9
          cases hv9
          refine v_if_eqB (tgt := 232) dX10_readName_222 (by decide) (fun c222 => ?_) (fun c222 => ?_)
          · refine v_iload_n dX10_readName_232 rfl (by rfl) ?_
            refine v_iconst (v := nI 1) dX10_readName_233 (by decide) ?_
            refine v_iaddN dX10_readName_234 ?_
            refine v_iret dX10_readName_235 rfl (by first | rfl | exact nar_bI) ?_
            have k1 : rTake (pAt vv p1) (nm, ((gnOpen g).2)) (mOct u p1) = (true, pSt (pLl (pLs (pWi (pAt vv p1) 0) 0) 0) 3, (nm, ((gnOpen g).2))) := by
              rw [c200, nmSt_10 (vv := pAt vv p1) (by rw [← c200]; exact hst) hns (by omega)]
              unfold rEndN
              rw [hct, if_pos ((idx_old hnm hs).mpr (by cases q : allB (odP nm (gCt g)) ((gCt g) - 0) 0 with | true => rfl | false => rw [q] at c222; exact Bool.noConfusion c222))]
            exact ⟨rfl, _, _, rfl, rfl, hz1, Or.inr ⟨hz2, p1 + 1, _, nm, rfl, by omega, by omega, hr.trans (rst_s (by omega) k1), rfl, rfl, rfl, rfl, hnm, hmn, hml, hs⟩⟩
          · refine v_aload_n dX10_readName_225 rfl (by rfl) ?_
            refine v_iconst (v := nI 4) dX10_readName_226 (by decide) ?_
            refine v_iload dX10_readName_227 (by rfl) ?_
            refine w_callV hE dX10_readName_229 kX10_160 mdS_M (by rfl) (by rfl) (sX10_bad hE) rfl (by decide) (by decide) (by exact Nat.le_of_ble_eq_true rfl) (by omega) (by omega) (fun v9 g9 u9 h9 => ?_) (fun _ _ _ h => by cases h.1)
            obtain ⟨hv9, hu9, hg9⟩ := h9
            replace hu9 := hu9.symm
            subst hu9
            subst hg9
            cases hv9
            rw [mBad_0 hFz]
            refine v_iload_n dX10_readName_232 rfl (by rfl) ?_
            refine v_iconst (v := nI 1) dX10_readName_233 (by decide) ?_
            refine v_iaddN dX10_readName_234 ?_
            refine v_iret dX10_readName_235 rfl (by first | rfl | exact nar_bI) ?_
            have k1 : rTake (pAt vv p1) (nm, ((gnOpen g).2)) (mOct u p1) = (false, pFp (pFa (pAt vv p1) 4) (rNt (pAt vv p1)), (nm, ((gnOpen g).2))) := by
              rw [c200, nmSt_10 (vv := pAt vv p1) (by rw [← c200]; exact hst) hns (by omega)]
              unfold rEndN
              rw [hct, if_neg (fun q => absurd ((idx_old hnm hs).mp q) (by intro q; rw [q] at c222; exact Bool.noConfusion c222))]
            exact ⟨rfl, _, _, rfl, rfl, hz1, Or.inl (by
              have q9 := rF_mk (A := z.1) (s := z.2) (F := 4) (Q := (p + 1)) (hr.trans (rst_f (by omega) k1)) (rfl) (hnt) (by decide) (by decide)
              exact ⟨fun j a b => (q9.1 j a b).trans (congrFun hz2 j), q9.2⟩)⟩
        · refine v_aload_n dX10_readName_208 rfl (by rfl) ?_
          refine v_iconst (v := nI 2) dX10_readName_209 (by decide) ?_
          refine v_iload_n dX10_readName_210 rfl (by rfl) ?_
          refine w_callV hE dX10_readName_211 kX10_160 mdS_M (by rfl) (by rfl) (sX10_bad hE) rfl (by decide) (by decide) (by exact Nat.le_of_ble_eq_true rfl) (by omega) (by omega) (fun v9 g9 u9 h9 => ?_) (fun _ _ _ h => by cases h.1)
          obtain ⟨hv9, hu9, hg9⟩ := h9
          replace hu9 := hu9.symm
          subst hu9
          subst hg9
          cases hv9
          rw [mBad_0 hFz]
          refine v_goto (tgt := 232) dX10_readName_214 (by decide) ?_
          refine v_iload_n dX10_readName_232 rfl (by rfl) ?_
          refine v_iconst (v := nI 1) dX10_readName_233 (by decide) ?_
          refine v_iaddN dX10_readName_234 ?_
          refine v_iret dX10_readName_235 rfl (by first | rfl | exact nar_bI) ?_
          obtain ⟨v2, k1, k2, k3⟩ := nmSt_2 (vv := pAt vv p1) (g := (nm, ((gnOpen g).2))) hst hns (by first | exact Or.inl c200 | exact Or.inr (by omega))
          exact ⟨rfl, _, _, rfl, rfl, hz1, Or.inl (by
            have q9 := rF_mk (A := z.1) (s := z.2) (F := 2) (Q := p1) (hr.trans (rst_f (by omega) k1)) (k2) (k3) (by decide) (by decide)
            exact ⟨fun j a b => (q9.1 j a b).trans (congrFun hz2 j), q9.2⟩)⟩
    · refine v_aload_n dX10_readName_184 rfl (by rfl) ?_
      refine v_iconst (v := nI 1) dX10_readName_185 (by decide) ?_
      refine v_iload_n dX10_readName_186 rfl (by rfl) ?_
      refine w_callV hE dX10_readName_187 kX10_160 mdS_M (by rfl) (by rfl) (sX10_bad hE) rfl (by decide) (by decide) (by exact Nat.le_of_ble_eq_true rfl) (by omega) (by omega) (fun v9 g9 u9 h9 => ?_) (fun _ _ _ h => by cases h.1)
      obtain ⟨hv9, hu9, hg9⟩ := h9
      replace hu9 := hu9.symm
      subst hu9
      subst hg9
      cases hv9
      rw [mBad_0 hFz]
      refine v_goto (tgt := 232) dX10_readName_190 (by decide) ?_
      refine v_iload_n dX10_readName_232 rfl (by rfl) ?_
      refine v_iconst (v := nI 1) dX10_readName_233 (by decide) ?_
      refine v_iaddN dX10_readName_234 ?_
      refine v_iret dX10_readName_235 rfl (by first | rfl | exact nar_bI) ?_
      have e1 := (mTp_o hpz p1 (by omega)).mp c181
      have e2 : p1 = u.1 := by omega
      exact ⟨rfl, _, _, rfl, rfl, hz1, Or.inl (by
        have q9 := rF_mk (A := z.1) (s := z.2) (F := 1) (Q := p1) (hr.trans (rst_0 (by omega) (by rcases hst with q | q <;> (rw [q.1]; decide)))) (rfl) (e2.symm) (by decide) (by decide)
        exact ⟨fun j a b => (q9.1 j a b).trans (congrFun hz2 j), q9.2⟩)⟩
  have lp2 : (gCt g) < 8 → ∀ (n : Nat) (z : mV) (nm : nV), z.2 = y.2 → rN1 y z → mNm z nm (gCt g) → nmL nm ((gCt g) + 1) → nm.1 = (gCt g) + 1 → n ≤ 20 → 0 < n → ∀ (d p1 : Nat) (vv : rV), p < p1 → p1 + d = u.1 → rSt vv = 2 → rNt vv = p + 1 → rNs vv = n → (rRunL u (u.1 - p) p v g) = rRunL u (u.1 - p1) p1 vv (nm, ((gnOpen g).2)) → V E mX10_readName 0 0 (fun o f' t' => t' = t ∧ ∃ y' o1, o = .inl (some (.int o1)) ∧ f' = mdS f M y' ∧ rN1 y y' ∧ (((∀ j, j ≠ 43 → j ≠ 44 → y'.2 j = y.2 j) ∧ rF (rRunL u (u.1 - p) p v g) y') ∨ (y'.2 = y.2 ∧ ∃ (p2 : Nat) (v2 : rV) (nm : nV), o1 = nI p2 ∧ p < p2 ∧ p2 ≤ u.1 ∧ (rRunL u (u.1 - p) p v g) = rRunL u (u.1 - p2) p2 v2 (nm, ((gnOpen g).2)) ∧ rSt v2 = 3 ∧ rWi v2 = 0 ∧ rLs v2 = 0 ∧ rLl v2 = 0 ∧ nm.1 = (gCt g) + 1 ∧ mNm y' nm (gCt g) ∧ nmL nm ((gCt g) + 1) ∧ (gCt g) < 8))) 154 [some (.ref M), some (.int (nI p)), some (.int (nI (gCt g))), some (.int (nI p1)), some (.int (nI (p + 1))), some (.int (nI n))] [] (mdS f M z) t 0 0 := by
    intro hs n z nm hz2 hz1 hmn hml hnm hn20 h0 d
    have hpz : mTp z u := ⟨by rw [hz2]; exact hp.1, hp.2.1, by rw [hz1.1 1 (by decide) (by decide)]; exact hp.2.2⟩
    have hFz : z.2 43 = nI 0 := by rw [hz2]; exact hF
    induction d using Nat.strongRecOn with
    | _ d ih =>
    intro p1 vv hp0 hp1 hst hnt hns hr
    refine v_aload_n dX10_readName_154 rfl (by rfl) ?_
    refine v_iload_n dX10_readName_155 rfl (by rfl) ?_
    refine w_callV hE dX10_readName_156 kX10_156 mdS_M (by rfl) (by rfl) (sX10_at hE (y := z) (u := u) (hpz) (by omega)) rfl (by decide) (by decide) (by exact Nat.le_of_ble_eq_true rfl) (by omega) (by omega) (fun v9 g9 u9 h9 => ?_) (fun _ _ _ h => by cases h.1)
    obtain ⟨hv9, hu9, hg9⟩ := h9
    replace hu9 := hu9.symm
    subst hu9
    subst hg9
    cases hv9
    refine v_bipush (v := nI 32) dX10_readName_159 (by decide) ?_
    refine v_bipush (v := nI 126) dX10_readName_161 (by decide) ?_
    refine w_callS hE dX10_readName_163 kX10_136 (by rfl) (sX10_in hE) rfl (by decide) (by decide) (by exact Nat.le_of_ble_eq_true rfl) (by omega) (by omega) (fun v9 g9 u9 h9 => ?_) (fun _ _ _ h => by cases h.1)
    obtain ⟨hv9, hu9, hg9⟩ := h9
    replace hu9 := hu9.symm
    replace hg9 := hg9.symm
    subst hu9
    subst hg9
    cases hv9
    refine v_if_eqB (tgt := 175) dX10_readName_166 (by decide) (fun c166 => ?_) (fun c166 => ?_)
    · exact tail hs p1 n z vv nm hp0 (by omega) hz2 hz1 hmn hml hnm hnt hns hn20 hr (Or.inr ⟨hst, h0, c166⟩)
    · refine v_iincN (y := 1) dX10_readName_169 (by rfl) (by decide) (by decide) ?_
      refine v_goto (tgt := 154) dX10_readName_172 (by decide) ?_
      have hlt : p1 < u.1 := by
        by_cases q : p1 < u.1
        · exact q
        · exfalso
          rw [(mTp_o hpz p1 (by omega)).mpr (by omega)] at c166
          exact absurd c166 (by decide)
      have k1 : rTake (pAt vv p1) (nm, ((gnOpen g).2)) (mOct u p1) = (true, pAt vv p1, (nm, ((gnOpen g).2))) := by
        rw [tk2 (v := pAt vv p1) hst]
        unfold rRem
        obtain ⟨c, ca, cb, cc⟩ := mIn_nat c166 (by decide) (by decide)
        rw [cc, if_neg (nI_n (by omega) (by omega) (by omega)), if_neg (fun q => by rcases q with q | q; exact absurd q (nI_nlt ca (by omega)); exact q (nI_le cb (by omega)))]
      exact ih (d - 1) (by omega) (p1 + 1) (pAt vv p1) (by omega) (by omega) hst hnt hns (hr.trans (rst_s hlt k1))
  have lp1 : (gCt g) < 8 → ∀ (d p1 n : Nat) (z : mV) (vv : rV) (nm : nV), p < p1 → p1 + d = u.1 → z.2 = y.2 → rN1 y z → z.1 10 = y.1 10 → nmQ z nm (gCt g) n → rSt vv = 1 → rNt vv = p + 1 → rNs vv = n → (rRunL u (u.1 - p) p v g) = rRunL u (u.1 - p1) p1 vv (nm, ((gnOpen g).2)) → V E mX10_readName 0 0 (fun o f' t' => t' = t ∧ ∃ y' o1, o = .inl (some (.int o1)) ∧ f' = mdS f M y' ∧ rN1 y y' ∧ (((∀ j, j ≠ 43 → j ≠ 44 → y'.2 j = y.2 j) ∧ rF (rRunL u (u.1 - p) p v g) y') ∨ (y'.2 = y.2 ∧ ∃ (p2 : Nat) (v2 : rV) (nm : nV), o1 = nI p2 ∧ p < p2 ∧ p2 ≤ u.1 ∧ (rRunL u (u.1 - p) p v g) = rRunL u (u.1 - p2) p2 v2 (nm, ((gnOpen g).2)) ∧ rSt v2 = 3 ∧ rWi v2 = 0 ∧ rLs v2 = 0 ∧ rLl v2 = 0 ∧ nm.1 = (gCt g) + 1 ∧ mNm y' nm (gCt g) ∧ nmL nm ((gCt g) + 1) ∧ (gCt g) < 8))) 61 [some (.ref M), some (.int (nI p)), some (.int (nI (gCt g))), some (.int (nI p1)), some (.int (nI (p + 1))), some (.int (nI n))] [] (mdS f M z) t 0 0 := by
    intro hs d
    induction d using Nat.strongRecOn with
    | _ d ih =>
    intro p1 n z vv nm hp0 hp1 hz2 hz1 hz3 hq hst hnt hns hr
    have hn20 := hq.2.2.1
    have hpz : mTp z u := ⟨by rw [hz2]; exact hp.1, hp.2.1, by rw [hz1.1 1 (by decide) (by decide)]; exact hp.2.2⟩
    have hFz : z.2 43 = nI 0 := by rw [hz2]; exact hF
    refine v_aload_n dX10_readName_61 rfl (by rfl) ?_
    refine v_getf hE dX10_readName_62 fX10_147 mdS_M (by rfl) ?_
    refine v_eqi (y := nI 0) hFz ?_
    refine v_if_neN (tgt := 122) dX10_readName_65 (by decide) (by omega) (fun c65 => ?_) (fun c65 => ?_)
    · exact absurd rfl c65
    · refine v_aload_n dX10_readName_68 rfl (by rfl) ?_
      refine v_iload_n dX10_readName_69 rfl (by rfl) ?_
      refine w_callV hE dX10_readName_70 kX10_156 mdS_M (by rfl) (by rfl) (sX10_at hE (y := z) (u := u) (hpz) (by omega)) rfl (by decide) (by decide) (by exact Nat.le_of_ble_eq_true rfl) (by omega) (by omega) (fun v9 g9 u9 h9 => ?_) (fun _ _ _ h => by cases h.1)
      obtain ⟨hv9, hu9, hg9⟩ := h9
      replace hu9 := hu9.symm
      subst hu9
      subst hg9
      cases hv9
      refine w_callS hE dX10_readName_73 kX10_164 (by rfl) (sX10_isNameSign hE) rfl (by decide) (by decide) (by exact Nat.le_of_ble_eq_true rfl) (by omega) (by omega) (fun v9 g9 u9 h9 => ?_) (fun _ _ _ h => by cases h.1)
      obtain ⟨hv9, hu9, hg9⟩ := h9
      replace hu9 := hu9.symm
      replace hg9 := hg9.symm
      subst hu9
      subst hg9
      cases hv9
      refine v_if_eqB (tgt := 122) dX10_readName_76 (by decide) (fun c76 => ?_) (fun c76 => ?_)
      · obtain ⟨hmn, hml⟩ := nmQ_e (q := z.2) hq
        have hz9 : rN1 y (va_up z.1 10 (upd (z.1 10) (gCt g) (nI n)), z.2) := ⟨fun k a b => (va_up_ne _ _ b).trans (hz1.1 k a b), aNw_i hz1.2 rfl⟩
        refine v_aload_n dX10_readName_122 rfl (by rfl) ?_
        refine v_getf hE dX10_readName_123 fX10_42 mdS_M (by rfl) ?_
        refine v_iload_n dX10_readName_126 rfl (by rfl) ?_
        refine v_iload dX10_readName_127 (by rfl) ?_
        refine m_iast hE (k := 10) dX10_readName_129 (by decide) (by decide) rfl (show _ < 9 by omega) (by omega) ?_
        refine v_aload_n dX10_readName_130 rfl (by rfl) ?_
        refine v_getf hE dX10_readName_131 fX10_147 mdS_M (by rfl) ?_
        refine v_eqi (y := nI 0) hFz ?_
        refine v_if_eqN (tgt := 139) dX10_readName_134 (by decide) (by omega) (fun c134 => ?_) (fun c134 => ?_)
        · refine v_aload_n dX10_readName_139 rfl (by rfl) ?_
          refine v_iload_n dX10_readName_140 rfl (by rfl) ?_
          refine w_callV hE dX10_readName_141 kX10_156 mdS_M (by rfl) (by rfl) (sX10_at hE (y := (va_up z.1 10 (upd (z.1 10) (gCt g) (nI n)), z.2)) (u := u) hpz (by omega)) rfl (by decide) (by decide) (by exact Nat.le_of_ble_eq_true rfl) (by omega) (by omega) (fun v9 g9 u9 h9 => ?_) (fun _ _ _ h => by cases h.1)
          obtain ⟨hv9, hu9, hg9⟩ := h9
          replace hu9 := hu9.symm
          subst hu9
          subst hg9
          cases hv9
          refine v_bipush (v := nI 32) dX10_readName_144 (by decide) ?_
          refine v_icmp_ne (tgt := 175) dX10_readName_146 (by decide) (fun c146 => ?_) (fun c146 => ?_)
          · exact tail hs p1 n (va_up z.1 10 (upd (z.1 10) (gCt g) (nI n)), z.2) vv nm (by omega) (by omega) hz2 hz9 hmn hml hq.1 hnt hns hn20 hr (Or.inl ⟨hst, c76, fun q => by first | exact c146 | omega⟩)
          · refine v_iload dX10_readName_149 (by rfl) ?_
            refine v_if_leN (tgt := 175) dX10_readName_151 (by decide) (by omega) (fun c151 => ?_) (fun c151 => ?_)
            · exact tail hs p1 n (va_up z.1 10 (upd (z.1 10) (gCt g) (nI n)), z.2) vv nm (by omega) (by omega) hz2 hz9 hmn hml hq.1 hnt hns hn20 hr (Or.inl ⟨hst, c76, fun q => by first | exact c146 | omega⟩)
            · refine v_aload_n dX10_readName_154 rfl (by rfl) ?_
              refine v_iload_n dX10_readName_155 rfl (by rfl) ?_
              refine w_callV hE dX10_readName_156 kX10_156 mdS_M (by rfl) (by rfl) (sX10_at hE (y := (va_up z.1 10 (upd (z.1 10) (gCt g) (nI n)), z.2)) (u := u) hpz (by omega)) rfl (by decide) (by decide) (by exact Nat.le_of_ble_eq_true rfl) (by omega) (by omega) (fun v9 g9 u9 h9 => ?_) (fun _ _ _ h => by cases h.1)
              obtain ⟨hv9, hu9, hg9⟩ := h9
              replace hu9 := hu9.symm
              subst hu9
              subst hg9
              cases hv9
              refine v_bipush (v := nI 32) dX10_readName_159 (by decide) ?_
              refine v_bipush (v := nI 126) dX10_readName_161 (by decide) ?_
              refine w_callS hE dX10_readName_163 kX10_136 (by rfl) (sX10_in hE) rfl (by decide) (by decide) (by exact Nat.le_of_ble_eq_true rfl) (by omega) (by omega) (fun v9 g9 u9 h9 => ?_) (fun _ _ _ h => by cases h.1)
              obtain ⟨hv9, hu9, hg9⟩ := h9
              replace hu9 := hu9.symm
              replace hg9 := hg9.symm
              subst hu9
              subst hg9
              cases hv9
              refine v_if_eqB (tgt := 175) dX10_readName_166 (by decide) (fun c166 => ?_) (fun c166 => ?_)
              · rw [c146] at c166
                exact absurd c166 (by decide)
              · refine v_iincN (y := 1) dX10_readName_169 (by rfl) (by decide) (by decide) ?_
                refine v_goto (tgt := 154) dX10_readName_172 (by decide) ?_
                have k1 : rTake (pAt vv p1) (nm, ((gnOpen g).2)) (mOct u p1) = (true, pSt (pAt vv p1) 2, (nm, ((gnOpen g).2))) := by
                  rw [tk1 (v := pAt vv p1) hst]
                  unfold rName
                  rw [if_neg (by rw [c76]; decide), if_neg (show ¬ rNs vv = 0 by omega), c146, if_neg (by decide), if_pos rfl]
                have hlt : p1 < u.1 := by
                  by_cases q : p1 < u.1
                  · exact q
                  · exfalso
                    rw [(mTp_o hpz p1 (by omega)).mpr (by omega)] at c146
                    exact absurd c146 (by decide)
                exact lp2 hs n (va_up z.1 10 (upd (z.1 10) (gCt g) (nI n)), z.2) nm hz2 hz9 hmn hml hq.1 hn20 (by omega) (u.1 - (p1 + 1)) (p1 + 1) (pSt (pAt vv p1) 2) (by omega) (by omega) rfl hnt hns (hr.trans (rst_s hlt k1))
        · exact absurd rfl c134
      · have hlt : p1 < u.1 := by
          by_cases q : p1 < u.1
          · exact q
          · exfalso
            rw [(mTp_o hpz p1 (by omega)).mpr (by omega), isNm_m1] at c76
            exact Bool.noConfusion c76
        obtain ⟨c, c1, c2⟩ := isNm_c c76
        refine v_iload dX10_readName_79 (by rfl) ?_
        refine v_bipush (v := nI 20) dX10_readName_81 (by decide) ?_
        refine v_icmp_neN (tgt := 95) dX10_readName_83 (by decide) (by omega) (by omega) (fun c83 => ?_) (fun c83 => ?_)
        · refine v_aload_n dX10_readName_95 rfl (by rfl) ?_
          refine v_getf hE dX10_readName_96 fX10_39 mdS_M (by rfl) ?_
          refine v_bipush (v := nI 20) dX10_readName_99 (by decide) ?_
          refine v_iload_n dX10_readName_101 rfl (by rfl) ?_
          refine v_imulN dX10_readName_102 ?_
          refine v_iload dX10_readName_103 (by rfl) ?_
          refine v_iaddN dX10_readName_105 ?_
          refine v_aload_n dX10_readName_106 rfl (by rfl) ?_
          refine v_iload_n dX10_readName_107 rfl (by rfl) ?_
          refine w_callV hE dX10_readName_108 kX10_156 mdS_M (by rfl) (by rfl) (sX10_at hE (y := z) (u := u) (hpz) (by omega)) rfl (by decide) (by decide) (by exact Nat.le_of_ble_eq_true rfl) (by omega) (by omega) (fun v9 g9 u9 h9 => ?_) (fun _ _ _ h => by cases h.1)
          obtain ⟨hv9, hu9, hg9⟩ := h9
          replace hu9 := hu9.symm
          subst hu9
          subst hg9
          cases hv9
          refine v_eqi (y := nI c) c2 ?_
          refine v_i2b dX10_readName_111 rfl ?_
          refine m_bast hE (k := 9) dX10_readName_112 (by decide) (by decide) rfl (show _ < 180 by omega) (by omega) ?_
          rw [i8_nar, byt c c1]
          refine v_iincN (y := 1) dX10_readName_113 (by rfl) (by decide) (by decide) ?_
          refine v_iincN (y := 1) dX10_readName_116 (by rfl) (by decide) (by decide) ?_
          refine v_goto (tgt := 61) dX10_readName_119 (by decide) ?_
          have k1 : rTake (pAt vv p1) (nm, ((gnOpen g).2)) (mOct u p1) = (true, pNs (pAt vv p1) (rNs (pAt vv p1) + 1), (nmAdd nm (mOct u p1), ((gnOpen g).2))) := by
            rw [tk1 (v := pAt vv p1) hst]
            unfold rName
            rw [if_pos c76, if_neg (show ¬ rNs vv = 20 by omega)]
          rw [c2] at k1
          exact ih (d - 1) (by omega) (p1 + 1) (n + 1) _ (pNs (pAt vv p1) (rNs (pAt vv p1) + 1)) (nmAdd nm (nI c)) (by omega) (by omega) hz2 ⟨fun k a b => (va_up_ne _ _ a).trans (hz1.1 k a b), aNw_1 hz1.2 (fun _ => upd_nar (fun i => hz1.2.1 9 i rfl) (by have := i8_nar (nI c); rwa [byt c c1] at this)) (fun q => by cases q)⟩ (by exact hz3) (nmQ_s hq (by omega) c1) hst hnt (by show rNs vv + 1 = _; omega) (hr.trans (rst_s hlt (by rw [c2]; exact k1)))
        · refine v_aload_n dX10_readName_86 rfl (by rfl) ?_
          refine v_iconst (v := nI 3) dX10_readName_87 (by decide) ?_
          refine v_iload_n dX10_readName_88 rfl (by rfl) ?_
          refine w_callV hE dX10_readName_89 kX10_160 mdS_M (by rfl) (by rfl) (sX10_bad hE) rfl (by decide) (by decide) (by exact Nat.le_of_ble_eq_true rfl) (by omega) (by omega) (fun v9 g9 u9 h9 => ?_) (fun _ _ _ h => by cases h.1)
          obtain ⟨hv9, hu9, hg9⟩ := h9
          replace hu9 := hu9.symm
          subst hu9
          subst hg9
          cases hv9
          rw [mBad_0 hFz]
          refine v_goto (tgt := 61) dX10_readName_92 (by decide) ?_
          refine v_aload_n dX10_readName_61 rfl (by rfl) ?_
          refine v_getf hE dX10_readName_62 fX10_147 mdS_M (by rfl) ?_
          refine v_eqi (y := nI 3) rfl ?_
          refine v_if_neN (tgt := 122) dX10_readName_65 (by decide) (by omega) (fun c65 => ?_) (fun c65 => ?_)
          · refine v_aload_n dX10_readName_122 rfl (by rfl) ?_
            refine v_getf hE dX10_readName_123 fX10_42 mdS_M (by rfl) ?_
            refine v_iload_n dX10_readName_126 rfl (by rfl) ?_
            refine v_iload dX10_readName_127 (by rfl) ?_
            refine m_iast hE (k := 10) dX10_readName_129 (by decide) (by decide) rfl (show _ < 9 by omega) (by omega) ?_
            refine v_aload_n dX10_readName_130 rfl (by rfl) ?_
            refine v_getf hE dX10_readName_131 fX10_147 mdS_M (by rfl) ?_
            refine v_eqi (y := nI 3) rfl ?_
            refine v_if_eqN (tgt := 139) dX10_readName_134 (by decide) (by omega) (fun c134 => ?_) (fun c134 => ?_)
            · exact absurd c134 (by decide)
            · refine v_iload_n dX10_readName_137 rfl (by rfl) ?_
              refine v_iret dX10_readName_138 rfl (by first | rfl | exact nar_bI) ?_
              have k1 : rTake (pAt vv p1) (nm, ((gnOpen g).2)) (mOct u p1) = (false, rFail (pAt vv p1) 3, (nm, ((gnOpen g).2))) := by
                rw [tk1 (v := pAt vv p1) hst]
                unfold rName
                rw [if_pos c76, if_pos (show rNs vv = 20 by omega)]
              exact ⟨rfl, _, _, rfl, rfl, ⟨fun k a b => (va_up_ne _ _ b).trans (hz1.1 k a b), aNw_i hz1.2 rfl⟩, Or.inl (by
                have q9 := rF_mk (A := va_up z.1 10 (upd (z.1 10) (gCt g) (nI n))) (s := z.2) (F := 3) (Q := p1) (hr.trans (rst_f hlt k1)) rfl rfl (by decide) (by decide)
                exact ⟨fun j a b => (q9.1 j a b).trans (congrFun hz2 j), q9.2⟩)⟩
          · exact absurd c65 (by decide)
  refine v_aload_n dX10_readName_0 rfl (by rfl) ?_
  refine v_getf hE dX10_readName_1 fX10_153 mdS_M (by rfl) ?_
  refine v_eqi (y := nI (gCt g)) hM ?_
  refine v_istore_n dX10_readName_4 rfl (by decide) ?_
  refine v_iload_n dX10_readName_5 rfl (by rfl) ?_
  refine v_istore_n dX10_readName_6 rfl (by decide) ?_
  refine v_aload_n dX10_readName_7 rfl (by rfl) ?_
  refine v_iload_n dX10_readName_8 rfl (by rfl) ?_
  refine w_callV hE dX10_readName_9 kX10_156 mdS_M (by rfl) (by rfl) (sX10_at hE (y := y) (u := u) (hp) (by omega)) rfl (by decide) (by decide) (by exact Nat.le_of_ble_eq_true rfl) (by omega) (by omega) (fun v9 g9 u9 h9 => ?_) (fun _ _ _ h => by cases h.1)
  obtain ⟨hv9, hu9, hg9⟩ := h9
  replace hu9 := hu9.symm
  subst hu9
  subst hg9
  cases hv9
  refine v_bipush (v := nI 62) dX10_readName_12 (by decide) ?_
  refine v_icmp_eq (tgt := 38) dX10_readName_14 (by decide) (fun c14 => ?_) (fun c14 => ?_)
  · have hlt : p < u.1 := by
      by_cases q : p < u.1
      · exact q
      · exfalso
        rw [(mTp_o hp p (by omega)).mpr (by omega)] at c14
        exact absurd c14 (by decide)
    have k0 : rTake (pAt v p) g (mOct u p) = rOpen (pAt v p) g := by
      rw [tkLn (by show rSt v ≠ 1; omega) (by show rSt v ≠ 2; omega) (by show rSt v ≠ 4; omega)]
      unfold rLine
      rw [if_pos ⟨c14, by show rSt v ≠ 3; omega⟩]
    refine v_iload_n dX10_readName_38 rfl (by rfl) ?_
    refine v_bipush (v := nI 8) dX10_readName_39 (by decide) ?_
    refine v_icmp_neN (tgt := 52) dX10_readName_41 (by decide) (by omega) (by omega) (fun c41 => ?_) (fun c41 => ?_)
    · refine v_iincN (y := 1) dX10_readName_52 (by rfl) (by decide) (by decide) ?_
      refine v_iload_n dX10_readName_55 rfl (by rfl) ?_
      refine v_istore dX10_readName_56 (by decide) ?_
      refine v_iconst (v := nI 0) dX10_readName_58 (by decide) ?_
      refine v_istore dX10_readName_59 (by decide) ?_
      have hs : (gCt g) < 8 := by omega
      have k1 : rTake (pAt v p) g (mOct u p) = (true, pSt (pNt (pNs (pAt v p) 0) (p + 1)) 1, (nmNew 8 g.1, ((gnOpen g).2))) := by
        rw [k0]
        unfold rOpen
        rw [if_neg (by omega), gnOpen_2 hs]
      exact lp1 hs (u.1 - (p + 1)) (p + 1) 0 y (pSt (pNt (pNs (pAt v p) 0) (p + 1)) 1) (nmNew 8 g.1) (by omega) (by omega) rfl ⟨fun _ _ _ => rfl, hO⟩ rfl (nmQ_0 hs hct0 hN) rfl rfl rfl (rst_s hlt k1)
    · refine v_aload_n dX10_readName_44 rfl (by rfl) ?_
      refine v_iconst (v := nI 3) dX10_readName_45 (by decide) ?_
      refine v_iload_n dX10_readName_46 rfl (by rfl) ?_
      refine w_callV hE dX10_readName_47 kX10_160 mdS_M (by rfl) (by rfl) (sX10_bad hE) rfl (by decide) (by decide) (by exact Nat.le_of_ble_eq_true rfl) (by omega) (by omega) (fun v9 g9 u9 h9 => ?_) (fun _ _ _ h => by cases h.1)
      obtain ⟨hv9, hu9, hg9⟩ := h9
      replace hu9 := hu9.symm
      subst hu9
      subst hg9
      cases hv9
      rw [mBad_0 hF]
      refine v_iload_n dX10_readName_50 rfl (by rfl) ?_
      refine v_iret dX10_readName_51 rfl (by first | rfl | exact nar_bI) ?_
      have k1 : rTake (pAt v p) g (mOct u p) = (false, rFail (pAt v p) 3, g) := by
        rw [k0]
        unfold rOpen
        rw [if_pos (by omega)]
      exact ⟨rfl, _, _, rfl, rfl, ⟨fun k _ _ => rfl, hO⟩, Or.inl (rF_mk (F := 3) (Q := p) (rst_f hlt k1) rfl rfl (by decide) (by decide))⟩
  · refine v_aload_n dX10_readName_17 rfl (by rfl) ?_
    refine v_aload_n dX10_readName_18 rfl (by rfl) ?_
    refine v_iload_n dX10_readName_19 rfl (by rfl) ?_
    refine w_callV hE dX10_readName_20 kX10_156 mdS_M (by rfl) (by rfl) (sX10_at hE (y := y) (u := u) (hp) (by omega)) rfl (by decide) (by decide) (by exact Nat.le_of_ble_eq_true rfl) (by omega) (by omega) (fun v9 g9 u9 h9 => ?_) (fun _ _ _ h => by cases h.1)
    obtain ⟨hv9, hu9, hg9⟩ := h9
    replace hu9 := hu9.symm
    subst hu9
    subst hg9
    cases hv9
    refine v_iconst (v := (-1)) dX10_readName_23 (by decide) ?_
    refine v_icmp_ne (tgt := 31) dX10_readName_24 (by decide) (fun c24 => ?_) (fun c24 => ?_)
    · refine v_iconst (v := nI 2) dX10_readName_31 (by decide) ?_
      refine v_iload_n dX10_readName_32 rfl (by rfl) ?_
      refine w_callV hE dX10_readName_33 kX10_160 mdS_M (by rfl) (by rfl) (sX10_bad hE) rfl (by decide) (by decide) (by exact Nat.le_of_ble_eq_true rfl) (by omega) (by omega) (fun v9 g9 u9 h9 => ?_) (fun _ _ _ h => by cases h.1)
      obtain ⟨hv9, hu9, hg9⟩ := h9
      replace hu9 := hu9.symm
      subst hu9
      subst hg9
      cases hv9
      rw [mBad_0 hF]
      refine v_iload_n dX10_readName_36 rfl (by rfl) ?_
      refine v_iret dX10_readName_37 rfl (by first | rfl | exact nar_bI) ?_
      have hlt : p < u.1 := by
        by_cases q : p < u.1
        · exact q
        · exfalso
          exact c24 ((mTp_o hp p (by omega)).mpr (by omega))
      have e3 : rSt v = 0 := by
        rcases hst with q | q
        · exact q
        · exact absurd q.2.2 c14
      have k1 : rTake (pAt v p) g (mOct u p) = (false, rFail (pAt v p) 2, g) := by
        rw [tkLn (by show rSt v ≠ 1; omega) (by show rSt v ≠ 2; omega) (by show rSt v ≠ 4; omega)]
        unfold rLine
        rw [if_neg (fun q => c14 q.1), if_neg (fun q => q.2 e3)]
      exact ⟨rfl, _, _, rfl, rfl, ⟨fun k _ _ => rfl, hO⟩, Or.inl (rF_mk (F := 2) (Q := p) (rst_f hlt k1) rfl rfl (by decide) (by decide))⟩
    · refine v_iconst (v := nI 1) dX10_readName_27 (by decide) ?_
      refine v_goto (tgt := 32) dX10_readName_28 (by decide) ?_
      refine v_iload_n dX10_readName_32 rfl (by rfl) ?_
      refine w_callV hE dX10_readName_33 kX10_160 mdS_M (by rfl) (by rfl) (sX10_bad hE) rfl (by decide) (by decide) (by exact Nat.le_of_ble_eq_true rfl) (by omega) (by omega) (fun v9 g9 u9 h9 => ?_) (fun _ _ _ h => by cases h.1)
      obtain ⟨hv9, hu9, hg9⟩ := h9
      replace hu9 := hu9.symm
      subst hu9
      subst hg9
      cases hv9
      rw [mBad_0 hF]
      refine v_iload_n dX10_readName_36 rfl (by rfl) ?_
      refine v_iret dX10_readName_37 rfl (by first | rfl | exact nar_bI) ?_
      have e1 := (mTp_o hp p (by omega)).mp c24
      have e2 : p = u.1 := by omega
      have e3 : rSt v = 0 := by
        rcases hst with q | q
        · exact q
        · omega
      have q9 := rF_mk (A := y.1) (s := y.2) (F := 1) (Q := p) (rst_0 (v := v) (g := g) (u := u) (k := p) (by omega) (by rw [e3]; decide)) rfl e2.symm (by decide) (by decide)
      exact ⟨rfl, _, _, rfl, rfl, ⟨fun k _ _ => rfl, hO⟩, Or.inl q9⟩
