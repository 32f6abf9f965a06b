/-! split: the class's side -/
def splI (W : Nat → eV) (e : Nat → Nat) (P : eV → Prop) (x : (Nat → eV) × Nat) : Prop := x.2 ≤ 60 ∧ (∀ z, (∀ k, k < 60 → z ≠ e k) → x.1 z = W z) ∧ (∀ k, k < x.2 → P (x.1 (e k))) ∧ ∀ k, k < 60 → enOk (x.1 (e k))
theorem splI_s {W : Nat → eV} {e : Nat → Nat} {P : eV → Prop} {x : (Nat → eV) × Nat} {v : eV} (h : splI W e P x) (hx : x.2 < 60) (hP : P v) (hv : enOk v) (hinj : ∀ a b, a < 60 → b < 60 → e a = e b → a = b) : splI W e P (va_up x.1 (e x.2) v, x.2 + 1) := by
  obtain ⟨h1, h2, h3, h4⟩ := h
  refine ⟨hx, fun z hz => (va_up_ne _ _ (hz _ hx)).trans (h2 z hz), fun k hk => ?_, fun k hk => ?_⟩
  · have hk : k < x.2 + 1 := hk
    by_cases q : k = x.2
    · subst q
      show P (va_up x.1 (e x.2) v (e x.2))
      rw [va_up_self]
      exact hP
    · show P (va_up x.1 (e x.2) v (e k))
      rw [va_up_ne _ _ (fun z => q (hinj k x.2 (by omega) hx z))]
      exact h3 k (by omega)
  · by_cases q : k = x.2
    · subst q
      show enOk (va_up x.1 (e x.2) v (e x.2))
      rw [va_up_self]
      exact hv
    · show enOk (va_up x.1 (e x.2) v (e k))
      rw [va_up_ne _ _ (fun z => q (hinj k x.2 hk hx z))]
      exact h4 k hk
theorem sTsL_I {W : Nat → eV} {e : Nat → Nat} {P : eV → Prop} {y m : Nat} (hinj : ∀ a b, a < 60 → b < 60 → e a = e b → a = b) (hy : ∀ k, k < 60 → y ≠ e k) (hwo : enOk (W y)) : ∀ (d q : Nat) (x : (Nat → eV) × Nat), splI W e P x → (∀ q' v, q ≤ q' → q' < q + d → enOk v → P (eTake v (W y) q' m)) → splI W e P (sTsL e y m d q x) := by
  intro d
  induction d with
  | zero => intro q x h _; exact h
  | succ d ih =>
    intro q x h hP
    show splI W e P (if x.2 < 60 then sTsL e y m d (q + 1) (va_up x.1 (e x.2) (eTake (x.1 (e x.2)) (x.1 y) q m), x.2 + 1) else x)
    split
    · rename_i hx
      rw [h.2.1 y hy]
      exact ih (q + 1) _ (splI_s h hx (hP q _ (by omega) (by omega) (h.2.2.2 _ hx)) (eTake_ok (h.2.2.2 _ hx) hwo) hinj) (fun q' v h1 h2 => hP q' v (by omega) (by omega))
    · exact h
theorem sTs_I {W : Nat → eV} {e : Nat → Nat} {P : eV → Prop} {y m : Nat} {x : (Nat → eV) × Nat} (hinj : ∀ a b, a < 60 → b < 60 → e a = e b → a = b) (hy : ∀ k, k < 60 → y ≠ e k) (hwo : enOk (W y)) (h : splI W e P x) (hP0 : ∀ v, enOk v → P (eCopy v (W y))) (hP : ∀ q' v, 1 ≤ q' → q' < eRo (W y) → enOk v → P (eTake v (W y) q' m)) : splI W e P (sTs e y m x) := by
  unfold sTs
  rw [h.2.1 y hy]
  refine sTsL_I hinj hy hwo _ _ _ ?_ (fun q' v h1 h2 => hP q' v (by omega) (by omega))
  unfold sTs0
  split
  · exact h
  · rename_i hx
    rw [h.2.1 y hy]
    exact splI_s h (by omega) (hP0 _ (h.2.2.2 _ (by omega))) (eCopy_ok (h.2.2.2 _ (by omega)) hwo) hinj
theorem sSplL_I {W : Nat → eV} {e u : Nat → Nat} {P : eV → Prop} {m : Nat} (hinj : ∀ a b, a < 60 → b < 60 → e a = e b → a = b) (hy : ∀ i k, i < 60 → k < 60 → u i ≠ e k) (hwo : ∀ i, i < 60 → enOk (W (u i))) (n : Nat) (hn : n ≤ 60) (hP0 : ∀ i v, i < n → enOk v → P (eCopy v (W (u i)))) (hP : ∀ i q' v, i < n → 1 ≤ q' → q' < eRo (W (u i)) → enOk v → P (eTake v (W (u i)) q' m)) : ∀ (d i : Nat) (x : (Nat → eV) × Nat), i + d = n → splI W e P x → splI W e P (sSplL e u m d i x) := by
  intro d
  induction d with
  | zero => intro i x _ h; exact h
  | succ d ih =>
    intro i x hi h
    exact ih (i + 1) _ (by omega) (sTs_I hinj (fun k hk => hy i k (by omega) hk) (hwo i (by omega)) h (fun v => hP0 i v (by omega)) (fun q' v => hP i q' v (by omega)))
theorem shSpL_le2 {W : Nat → eV} {u : Nat → Nat} : ∀ (d i c : Nat), c + d ≤ shSpL W u d i c := by
  intro d
  induction d with
  | zero => intro i c; exact Nat.le_refl _
  | succ d ih =>
    intro i c
    have := ih (i + 1) (c + max 1 (eRo (W (u i)) - 1))
    show c + (d + 1) ≤ shSpL W u d (i + 1) (c + max 1 (eRo (W (u i)) - 1))
    omega
/-! and the model's -/
def mSp (g : Nat → Int32) (a b q k : Nat) : Nat → Int32 := fun i => if b ≤ i ∧ i < b + k then splC q (g (a + (i - b))) else g i
theorem mSp_o {g : Nat → Int32} {a b q k i : Nat} (h : i < b ∨ b + k ≤ i) : mSp g a b q k i = g i := if_neg (by omega)
theorem mSp_i {g : Nat → Int32} {a b q k i : Nat} (h : i < k) : mSp g a b q k (b + i) = splC q (g (a + i)) := by
  unfold mSp
  rw [if_pos ⟨by omega, by omega⟩, show b + i - b = i by omega]
theorem mSp_0 {g : Nat → Int32} {a b q : Nat} : mSp g a b q 0 = g := funext fun i => if_neg (by omega)
theorem mSp_s {g : Nat → Int32} {a b q n : Nat} : upd (mSp g a b q n) (b + n) (splC q (g (a + n))) = mSp g a b q (n + 1) := by
  funext i
  by_cases e : i = b + n
  · subst e
    rw [updS, mSp_i (by omega)]
  · rw [updN e]
    unfold mSp
    by_cases h : b ≤ i ∧ i < b + n
    · rw [if_pos h, if_pos ⟨h.1, by omega⟩]
    · rw [if_neg h, if_neg (by omega)]
theorem splC_3 {q : Nat} {x : Int32} (h : x ≤ nI 3) : splC q x ≤ nI 3 := by
  unfold splC
  split
  · exact h
  · split <;> decide
theorem mSp_3 {g : Nat → Int32} {a b q k : Nat} (h : ∀ i, g i ≤ nI 3) : ∀ i, mSp g a b q k i ≤ nI 3 := fun i => by
  unfold mSp
  split
  · exact splC_3 (h _)
  · exact h i
def mT1 (y : mV) (n r q : Nat) : mV := (va_up (va_up y.1 24 (upd (y.1 24) n (nI 1))) 26 (upd (y.1 26) (4 * n + 1) (y.1 26 (4 * r + q))), y.2)
def mT2 (y : mV) (n r q k : Nat) : mV := (va_up y.1 25 (mCp (y.1 25) (26 * (4 * r + q)) (26 * (4 * n + 1)) k), y.2)
def mT3 (y : mV) (n r q k : Nat) : mV := (va_up y.1 29 (mSp (y.1 29) (6 * r) (6 * n) q k), y.2)
def mTk (y : mV) (n r q : Nat) : mV := mT3 (mT2 (mT1 (mCopy y n r) n r q) n r q 26) n r q 6
theorem mTk_24 {y : mV} {n r q : Nat} : (mTk y n r q).1 24 = upd ((mCopy y n r).1 24) n (nI 1) := rfl
theorem mTk_26 {y : mV} {n r q : Nat} : (mTk y n r q).1 26 = upd ((mCopy y n r).1 26) (4 * n + 1) ((mCopy y n r).1 26 (4 * r + q)) := rfl
theorem mTk_25 {y : mV} {n r q : Nat} : (mTk y n r q).1 25 = mCp ((mCopy y n r).1 25) (26 * (4 * r + q)) (26 * (4 * n + 1)) 26 := rfl
theorem mTk_29 {y : mV} {n r q : Nat} : (mTk y n r q).1 29 = mSp ((mCopy y n r).1 29) (6 * r) (6 * n) q 6 := rfl
theorem mTk_k {y : mV} {n r q k : Nat} (h1 : k ≠ 24) (h2 : k ≠ 25) (h3 : k ≠ 26) (h4 : k ≠ 29) : (mTk y n r q).1 k = (mCopy y n r).1 k := by
  show va_up (va_up (va_up (va_up (mCopy y n r).1 24 _) 26 _) 25 _) 29 _ k = _
  rw [va_up_ne _ _ h4, va_up_ne _ _ h2, va_up_ne _ _ h3, va_up_ne _ _ h1]
theorem mTk_o {y : mV} {n r q a m : Nat} {w : eV} (h : mE y a w m) (hwo : enOk w) (hm : m ≤ 3) (ha : a ≠ n) : mE (mTk y n r q) a w m := by
  obtain ⟨h1, h2, h3, h4, h5, h6, h7, h8, h9, h10⟩ := mCopy_o (a := n) (b := r) h hwo hm ha
  have k1 := hwo.1
  unfold mE
  rw [mTk_k (k := 20) (by decide) (by decide) (by decide) (by decide), mTk_k (k := 21) (by decide) (by decide) (by decide) (by decide), mTk_k (k := 22) (by decide) (by decide) (by decide) (by decide), mTk_k (k := 23) (by decide) (by decide) (by decide) (by decide), mTk_k (k := 27) (by decide) (by decide) (by decide) (by decide), mTk_k (k := 28) (by decide) (by decide) (by decide) (by decide), mTk_k (k := 30) (by decide) (by decide) (by decide) (by decide), mTk_k (k := 31) (by decide) (by decide) (by decide) (by decide), mTk_24, mTk_25, mTk_26, mTk_29]
  refine ⟨h1, h2, h3, h4, by rw [updN ha]; exact h5, h6, fun p hp => ⟨by rw [updN (by omega)]; exact (h7 p hp).1, fun k hk => ?_⟩, h8, h9, fun s hs => ⟨(h10 s hs).1, (h10 s hs).2.1, fun c hc => ?_⟩⟩
  · have := hwo.2.1 p
    rw [mCp_o (by omega)]
    exact (h7 p hp).2 k hk
  · have := hwo.2.2.1 s
    rw [mSp_o (by omega)]
    exact (h10 s hs).2.2 c hc
theorem mTk_a {y : mV} {n r q m : Nat} {w : eV} (h : mE y r w m) (hwo : enOk w) (hm : m ≤ 3) (hr : r ≠ n) (hq : q < eRo w) : mE (mTk y n r q) n (eTkW w q) m := by
  obtain ⟨h1, h2, h3, h4, h5, h6, h7, h8, h9, h10⟩ := mCopy_a (a := n) h hwo hm
  obtain ⟨-, -, -, -, -, -, g7, -, -, g10⟩ := mCopy_o (a := n) (b := r) h hwo hm hr
  have k1 := hwo.1
  unfold mE
  rw [mTk_k (k := 20) (by decide) (by decide) (by decide) (by decide), mTk_k (k := 21) (by decide) (by decide) (by decide) (by decide), mTk_k (k := 22) (by decide) (by decide) (by decide) (by decide), mTk_k (k := 23) (by decide) (by decide) (by decide) (by decide), mTk_k (k := 27) (by decide) (by decide) (by decide) (by decide), mTk_k (k := 28) (by decide) (by decide) (by decide) (by decide), mTk_k (k := 30) (by decide) (by decide) (by decide) (by decide), mTk_k (k := 31) (by decide) (by decide) (by decide) (by decide), mTk_24, mTk_25, mTk_26, mTk_29]
  refine ⟨h1, h2, h3, h4, by rw [updS]; rfl, by show 1 ≤ 2; decide, fun p hp => ?_, h8, h9, fun s hs => ⟨(h10 s hs).1, (h10 s hs).2.1, fun c hc => ?_⟩⟩
  · have hp : p < 2 := hp
    have := hwo.2.1 0
    have := hwo.2.1 q
    rcases (show p = 0 ∨ p = 1 by omega) with e | e <;> subst e
    · refine ⟨by rw [updN (by omega)]; exact (h7 0 (by omega)).1, fun k hk => ?_⟩
      have hk : k < eRs w 0 := hk
      rw [mCp_o (by omega), (h7 0 (by omega)).2 k hk]
      show _ = va_cpy (eLe w) (eLe w) (q * 24) (1 * 24) 24 (0 * 24 + k)
      unfold va_cpy
      rw [if_neg (by omega)]
    · refine ⟨by rw [updS]; exact (g7 q hq).1, fun k hk => ?_⟩
      have hk : k < eRs w q := hk
      rw [mCp_i (by omega), (g7 q hq).2 k hk]
      show _ = va_cpy (eLe w) (eLe w) (q * 24) (1 * 24) 24 (1 * 24 + k)
      unfold va_cpy
      rw [if_pos (by omega)]
      exact congrArg (eLe w) (by omega)
  · have hc : c < eCn w s := hc
    have := hwo.2.2.1 s
    rw [show 6 * n + 2 * s + c = 6 * n + (2 * s + c) by omega, mSp_i (by omega), show 6 * r + (2 * s + c) = 6 * r + 2 * s + c by omega, (g10 s hs).2.2 c hc]
theorem mT1_nw {y : mV} {n r q : Nat} (h : aNw y.1) : aNw (mT1 y n r q).1 := aNw_i (aNw_i h rfl) rfl
theorem mT2_nw {y : mV} {n r q k : Nat} (h : aNw y.1) : aNw (mT2 y n r q k).1 := aNw_cp h h
theorem mTk_nw {y : mV} {n r q : Nat} (h : aNw y.1) : aNw (mTk y n r q).1 := aNw_1 (mT2_nw (mT1_nw (mCopy_nw h))) (fun z => by cases z) (fun z => by cases z) (fun _ i => mSp_3 (fun i => (mT2_nw (mT1_nw (mCopy_nw h))).2.2 29 i (Or.inl rfl)) i)
theorem mFr_tk {B : Nat → Prop} {y z : mV} {n r q : Nat} (h : mFr B y z) (ha : B n) : mFr B y (mTk z n r q) := by
  have h2 := mFr_c (a := n) (b := r) h ha
  refine ⟨h2.1, fun k hk => ?_, mTk_nw h.2.2.1, fun a w m hB hr hw hm => mTk_o (h.2.2.2 a w m hB hr hw hm) hw hm (fun e => hB (e ▸ ha))⟩
  rw [mTk_k (by omega) (by omega) (by omega) (by omega)]
  exact h2.2.1 k hk
set_option maxRecDepth 100000 in
set_option maxHeartbeats 1500000 in
/-- model: split -/
theorem sX10_split {E : eN} (hE : eOk E) {f : aH} {t : Nat} {M D : Nat} {y : mV} {x : dV} {q : Int32} (hR : mRel x y) (hI : dOk D x) : mT E mX10_split 0 0 [.ref M, .int q] (mdS f M y) t (fun o f' t' => o = .inl (some (.int ((pSpl x q).1.getD (nI 0)))) ∧ t' = t ∧ mAns M f (pSpl x q) f') := by
  refine mT_of (n := 8) (lo := [some (.ref M), some (.int q), none, none, none, none, none, none, none, none]) (by decide) (by exact Nat.le_of_ble_eq_true rfl) rfl rfl ?_
  have lpF : ∀ i : Nat, ix 2 (nI i) = some i → i < 2 → (shSp (dW x) (dZ x i)) ≤ 60 → (sSplL (dZ x 2).1 (dZ x i).1 (nmAll 3 (0, (dZ x 2).2.1.2) (dZ x i).2.1).1 ((dZ x i).2.2 - 0) 0 (dW x, 0)).2 = (shSp (dW x) (dZ x i)) → ∀ (z : mV) (z3 : Int32) (z5 z6 z7 z8 z9 : Option Value), mFr (tB 2) (y.1, va_up y.2 0 (bI (! true))) z → (∀ k, k < (shSp (dW x) (dZ x i)) → mE z (120 + k) ((sSplL (dZ x 2).1 (dZ x i).1 (nmAll 3 (0, (dZ x 2).2.1.2) (dZ x i).2.1).1 ((dZ x i).2.2 - 0) 0 (dW x, 0)).1 ((dZ x 2).1 k)) (dZ x i).2.1.1) → ∀ (d k : Nat) (v : mV), k + d = (shSp (dW x) (dZ x i)) → mFr (tB i) (va_up z.1 16 (upd (z.1 16) i (nI (shSp (dW x) (dZ x i)))), z.2) v → (∀ j, j < k → mE v (60 * i + j) ((sSplL (dZ x 2).1 (dZ x i).1 (nmAll 3 (0, (dZ x 2).2.1.2) (dZ x i).2.1).1 ((dZ x i).2.2 - 0) 0 (dW x, 0)).1 ((dZ x 2).1 j)) (dZ x i).2.1.1) → V E mX10_split 0 0 (fun o f' t' => o = .inl (some (.int ((pSpl x (nI i)).1.getD (nI 0)))) ∧ t' = t ∧ mAns M f (pSpl x (nI i)) f') 318 [some (.ref M), some (.int (nI i)), some (.int (nI (shSp (dW x) (dZ x i)))), some (.int z3), some (.int (nI k)), z5, z6, z7, z8, z9] [] (mdS f M v) t 0 0 := by
    intro i hi0 i2 h60 hS2 z z3 z5 z6 z7 z8 z9 hz hz9 d
    have hzo := hI.2.2.1 i (by omega)
    have hz8 := hzo.2
    have hn3 := hzo.1.1
    have hwo : ∀ j, j < 60 → enOk (dW x ((dZ x i).1 j)) := fun j hj => hI.2.2.2.1 _ (dre_X hI (show i < 3 by omega) j hj)
    have heo : ∀ j, j < 60 → enOk (dW x ((dZ x 2).1 j)) := fun j hj => hI.2.2.2.1 _ (dre_X hI (show 2 < 3 by omega) j hj)
    have hTb := hR.2.2.2.1 i i2
    have hinj : ∀ a b, a < 60 → b < 60 → (dZ x 2).1 a = (dZ x 2).1 b → a = b := fun a b h1 h2 e => Classical.byContradiction (fun q => dre_i hI (show 2 < 3 by omega) a b h1 h2 q e)
    have hue : ∀ a b, a < 60 → b < 60 → (dZ x i).1 a ≠ (dZ x 2).1 b := fun a b h1 h2 e => by
      have := (hI.2.2.2.2.1.2 i a 2 b (by omega) h1 (by omega) h2 e).1
      omega
    have hKK : (nmAll 3 (0, (dZ x 2).2.1.2) (dZ x i).2.1).1 = (dZ x i).2.1.1 := (nmAll_0 hzo.1).1
    have hS := sSplL_I (m := (nmAll 3 (0, (dZ x 2).2.1.2) (dZ x i).2.1).1) (P := fun _ => True) hinj hue hwo (dZ x i).2.2 hz8 (fun _ _ _ _ => trivial) (fun _ _ _ _ _ _ _ => trivial) ((dZ x i).2.2 - 0) 0 (dW x, 0) (by omega) ⟨by show 0 ≤ 60; omega, fun z _ => rfl, fun k hk => absurd hk (Nat.not_lt_zero _), heo⟩
    have hsw : swG (va_up (dZ x) 2 ((dZ x 2).1, nmAll 3 (0, (dZ x 2).2.1.2) (dZ x i).2.1, (sSplL (dZ x 2).1 (dZ x i).1 (nmAll 3 (0, (dZ x 2).2.1.2) (dZ x i).2.1).1 ((dZ x i).2.2 - 0) 0 (dW x, 0)).2)) i 2 i = ((dZ x 2).1, nmAll 3 (0, (dZ x 2).2.1.2) (dZ x i).2.1, (sSplL (dZ x 2).1 (dZ x i).1 (nmAll 3 (0, (dZ x 2).2.1.2) (dZ x i).2.1).1 ((dZ x i).2.2 - 0) 0 (dW x, 0)).2) := by
      rw [swG_l (by omega), va_up_self]
    have hswo : ∀ i', i' < 2 → i' ≠ i → swG (va_up (dZ x) 2 ((dZ x 2).1, nmAll 3 (0, (dZ x 2).2.1.2) (dZ x i).2.1, (sSplL (dZ x 2).1 (dZ x i).1 (nmAll 3 (0, (dZ x 2).2.1.2) (dZ x i).2.1).1 ((dZ x i).2.2 - 0) 0 (dW x, 0)).2)) i 2 i' = dZ x i' := fun i' h1 h2 => by
      unfold swG
      rw [va_up_ne _ _ (by omega), va_up_ne _ _ h2, va_up_ne _ _ (by omega)]
    induction d using Nat.strongRecOn with
    | _ d ih =>
    intro k v hd hv hv9
    refine v_iload dX10_split_318 (by rfl) ?_
    refine v_iload_n dX10_split_320 rfl (by rfl) ?_
    refine v_icmp_geN (tgt := 346) dX10_split_321 (by decide) (by omega) (by omega) (fun c321 => ?_) (fun c321 => ?_)
    · refine v_iload_n dX10_split_346 rfl (by rfl) ?_
      refine v_iret dX10_split_347 rfl (by first | rfl | exact nar_bI) ?_
      have hR2 : pSpl x (nI i) = (some (nI (sSplL (dZ x 2).1 (dZ x i).1 (nmAll 3 (0, (dZ x 2).2.1.2) (dZ x i).2.1).1 ((dZ x i).2.2 - 0) 0 (dW x, 0)).2), dSwp (pSpX x i) i) := by
        unfold pSpl
        rw [hi0]
        exact if_pos h60
      rw [hR2, hS2]
      have hv16 : v.1 16 = upd (y.1 16) i (nI (shSp (dW x) (dZ x i))) := by
        rw [hv.2.1 16 (by omega)]
        show va_up z.1 16 (upd (z.1 16) i (nI (shSp (dW x) (dZ x i)))) 16 = _
        rw [va_up_self, hz.2.1 16 (by omega)]
      have hvk : ∀ k, k ≠ 16 → k < 20 ∨ 31 < k → v.1 k = y.1 k := fun k k1 k2 => by
        rw [hv.2.1 k (by omega)]
        show va_up z.1 16 (upd (z.1 16) i (nI (shSp (dW x) (dZ x i)))) k = y.1 k
        rw [va_up_ne _ _ k1, hz.2.1 k k2]
      have hmr : mRel (xW (xZ x (swG (va_up (dZ x) 2 ((dZ x 2).1, nmAll 3 (0, (dZ x 2).2.1.2) (dZ x i).2.1, (sSplL (dZ x 2).1 (dZ x i).1 (nmAll 3 (0, (dZ x 2).2.1.2) (dZ x i).2.1).1 ((dZ x i).2.2 - 0) 0 (dW x, 0)).2)) i 2)) (sSplL (dZ x 2).1 (dZ x i).1 (nmAll 3 (0, (dZ x 2).2.1.2) (dZ x i).2.1).1 ((dZ x i).2.2 - 0) 0 (dW x, 0)).1) v := by
        refine mRel_z hR (fun k hk => hvk k (by omega) (by omega)) (fun j h0 h52 => ?_) hv.2.2.1 (fun i' hi' => ?_) ?_
        · rw [hv.1]
          show z.2 j = y.2 j
          rw [hz.1]
          exact va_up_ne _ _ (by omega)
        · obtain ⟨t1, t2, t3, t4⟩ := hR.2.2.2.1 i' hi'
          by_cases e : i' = i
          · have e' := e.symm
            subst e'
            rw [hsw]
            refine ⟨by rw [hv16, updS, hS2], by rw [hvk 17 (by omega) (by omega), t2]; exact congrArg nI hKK.symm, fun s hs => ?_, fun p hp => ?_⟩
            · have hs : s < (dZ x i).2.1.1 := by rw [← hKK]; exact hs
              obtain ⟨n1, n2⟩ := (nmAll_0 (s := (dZ x 2).2.1.2) hzo.1).2 s hs
              rw [hvk 19 (by omega) (by omega), hvk 18 (by omega) (by omega)]
              refine ⟨by rw [(t3 s hs).1]; exact congrArg nI n1.symm, fun k hk => ?_⟩
              have hk : k < (dZ x i).2.1.2.2 s := by rw [← n1]; exact hk
              exact ((t3 s hs).2 k hk).trans (n2 k hk).symm
            · have hp : p < (sSplL (dZ x 2).1 (dZ x i).1 (nmAll 3 (0, (dZ x 2).2.1.2) (dZ x i).2.1).1 ((dZ x i).2.2 - 0) 0 (dW x, 0)).2 := hp
              exact (congrArg (mE v (60 * i + p) ((sSplL (dZ x 2).1 (dZ x i).1 (nmAll 3 (0, (dZ x 2).2.1.2) (dZ x i).2.1).1 ((dZ x i).2.2 - 0) 0 (dW x, 0)).1 ((dZ x 2).1 p))) hKK).mpr (hv9 p (by omega))
          · rw [hswo i' hi' e]
            refine ⟨by rw [hv16, updN (by omega)]; exact t1, by rw [hvk 17 (by omega) (by omega)]; exact t2, fun s hs => by rw [hvk 19 (by omega) (by omega), hvk 18 (by omega) (by omega)]; exact t3 s hs, fun p hp => ?_⟩
            have hz' := (hI.2.2.1 i' (by omega)).2
            have hw' := hI.2.2.2.1 _ (dre_X hI (show i' < 3 by omega) p (by omega))
            have hn' := (hI.2.2.1 i' (by omega)).1.1
            rw [hS.2.1 _ (fun k hk q => by have := (hI.2.2.2.2.1.2 i' p 2 k (by omega) (by omega) (by omega) hk q).1; omega)]
            exact hv.2.2.2 _ _ _ (fun z => by have := z.1; have := z.2; omega) (hz.2.2.2 _ _ _ (fun z => by have := z.1; have := z.2; omega) (t4 p hp) hw' hn') hw' hn'
        · obtain ⟨l1, l2⟩ := hR.2.2.2.2.2.2.2
          refine dLv_z l1 (fun i' hi' => ?_)
          by_cases e : i' = i
          · have e' := e.symm
            subst e'
            rw [hsw]
            refine ⟨fun s k hs hk => ?_, fun p hp => ?_⟩
            · have hs : s < (dZ x i).2.1.1 := by rw [← hKK]; exact hs
              obtain ⟨n1, n2⟩ := (nmAll_0 (s := (dZ x 2).2.1.2) hzo.1).2 s hs
              have hk : k < (dZ x i).2.1.2.2 s := by rw [← n1]; exact hk
              have q := (l2 i hi').1 s k hs hk
              rw [← n2 k hk] at q
              exact q
            · have hp : p < (sSplL (dZ x 2).1 (dZ x i).1 (nmAll 3 (0, (dZ x 2).2.1.2) (dZ x i).2.1).1 ((dZ x i).2.2 - 0) 0 (dW x, 0)).2 := hp
              have hL := sSplL_I (P := eLv) (m := (nmAll 3 (0, (dZ x 2).2.1.2) (dZ x i).2.1).1) hinj hue hwo (dZ x i).2.2 hz8 (fun i' v h1 h2 => eLv_q ((l2 i hi').2 i' h1) (eCopy_q (hwo i' (by omega)))) (fun i' q' v h1 h2 h3 h4 => eLv_q (eTkW_Lv ((l2 i hi').2 i' h1) (hwo i' (by omega)) h3) (eTake_q h4 (hwo i' (by omega)) (by rw [hKK]; exact hn3) h3 h2)) ((dZ x i).2.2 - 0) 0 (dW x, 0) (by omega) ⟨by show 0 ≤ 60; omega, fun z _ => rfl, fun k hk => absurd hk (Nat.not_lt_zero _), heo⟩
              exact hL.2.2.1 p hp
          · rw [hswo i' hi' e]
            refine ⟨(l2 i' hi').1, fun p hp => ?_⟩
            have hz' := (hI.2.2.1 i' (by omega)).2
            rw [hS.2.1 _ (fun k hk q => by have := (hI.2.2.2.2.1.2 i' p 2 k (by omega) (by omega) (by omega) hk q).1; omega)]
            exact (l2 i' hi').2 p hp
      refine ⟨rfl, rfl, v, rfl, hmr, ?_⟩
      rw [hv.1]
      show z.2 0 = _
      rw [hz.1]
      rfl
    · refine v_aload_n dX10_split_324 rfl (by rfl) ?_
      refine v_bipush (v := nI 60) dX10_split_325 (by decide) ?_
      refine v_iload_n dX10_split_327 rfl (by rfl) ?_
      refine v_imulN dX10_split_328 ?_
      refine v_iload dX10_split_329 (by rfl) ?_
      refine v_iaddN dX10_split_331 ?_
      refine v_bipush (v := nI 120) dX10_split_332 (by decide) ?_
      refine v_iload dX10_split_334 (by rfl) ?_
      refine v_iaddN dX10_split_336 ?_
      refine w_callV hE dX10_split_337 kX10_197 mdS_M (by rfl) (by rfl) (sX10_copy hE hv.2.2.1 (by omega) (by omega) (by omega)) rfl (by decide) (by decide) (by exact Nat.le_of_ble_eq_true rfl) (by omega) (by omega) (fun v9 g9 u9 h9 => ?_) (fun _ _ _ h => by cases h.1)
      obtain ⟨hv9, hu9, hg9⟩ := h9
      replace hu9 := hu9.symm
      subst hu9
      subst hg9
      cases hv9
      refine v_iincN (y := 1) dX10_split_340 (by rfl) (by decide) (by decide) ?_
      refine v_goto (tgt := 318) dX10_split_343 (by decide) ?_
      have hsrc : mE v (120 + k) ((sSplL (dZ x 2).1 (dZ x i).1 (nmAll 3 (0, (dZ x 2).2.1.2) (dZ x i).2.1).1 ((dZ x i).2.2 - 0) 0 (dW x, 0)).1 ((dZ x 2).1 k)) (dZ x i).2.1.1 := hv.2.2.2 (120 + k) _ _ (fun z => by have := z.1; have := z.2; omega) (hz9 k (by omega)) (hS.2.2.2 k (by omega)) hn3
      exact ih (d - 1) (by omega) (k + 1) _ (by omega) (mFr_c hv ⟨by omega, by omega⟩) (fun j hj => by
        by_cases e : j = k
        · subst e
          exact mCopy_a hsrc (hS.2.2.2 j (by omega)) hn3
        · exact mCopy_o (hv9 j (by omega)) (hS.2.2.2 j (by omega)) hn3 (by omega))
  have l6 : ∀ (Q9 : aP) (b : mV) (n r q : Nat) (z1 z2 z4 z6 : Option Value), n < 240 → r < 240 → n ≠ r → q < 4 → (∀ z8 z9 : Option Value, V E mX10_split 0 0 Q9 293 [some (.ref M), z1, z2, some (.int (nI n)), z4, some (.int (nI r)), z6, some (.int (nI q)), z8, z9] [] (mdS f M (mT3 b n r q 6)) t 0 0) → ∀ (d k : Nat) (z9 : Option Value), k + d = 6 → V E mX10_split 0 0 Q9 231 [some (.ref M), z1, z2, some (.int (nI n)), z4, some (.int (nI r)), z6, some (.int (nI q)), some (.int (nI k)), z9] [] (mdS f M (mT3 b n r q k)) t 0 0 := by
    intro Q9 b n r q z1 z2 z4 z6 hn hr hnr hq hc d
    induction d using Nat.strongRecOn with
    | _ d ih =>
    intro k z9 hk
    refine v_iload dX10_split_231 (by rfl) ?_
    refine v_bipush (v := nI 6) dX10_split_233 (by decide) ?_
    refine v_icmp_geN (tgt := 293) dX10_split_235 (by decide) (by omega) (by omega) (fun c235 => ?_) (fun c235 => ?_)
    · have e9 : k = 6 := by omega
      subst e9
      exact hc _ _
    · refine v_aload_n dX10_split_238 rfl (by rfl) ?_
      refine v_getf hE dX10_split_239 fX10_100 mdS_M (by rfl) ?_
      refine v_bipush (v := nI 6) dX10_split_242 (by decide) ?_
      refine v_iload dX10_split_244 (by rfl) ?_
      refine v_imulN dX10_split_246 ?_
      refine v_iload dX10_split_247 (by rfl) ?_
      refine v_iaddN dX10_split_249 ?_
      refine m_iald hE (k := 29) dX10_split_250 (by decide) (by decide) rfl (show _ < 1440 by omega) (by omega) ?_
      refine v_eqi (y := b.1 29 (6 * r + k)) (mSp_o (by omega)) ?_
      refine v_istore dX10_split_251 (by decide) ?_
      refine v_aload_n dX10_split_253 rfl (by rfl) ?_
      refine v_getf hE dX10_split_254 fX10_100 mdS_M (by rfl) ?_
      refine v_bipush (v := nI 6) dX10_split_257 (by decide) ?_
      refine v_iload_n dX10_split_259 rfl (by rfl) ?_
      refine v_imulN dX10_split_260 ?_
      refine v_iload dX10_split_261 (by rfl) ?_
      refine v_iaddN dX10_split_263 ?_
      refine v_iload dX10_split_264 (by rfl) ?_
      refine v_if_le (tgt := 284) dX10_split_266 (by decide) (fun c266 => ?_) (fun c266 => ?_)
      · refine v_iload dX10_split_284 (by rfl) ?_
        refine v_eqi (y := splC q (b.1 29 (6 * r + k))) (by unfold splC; rw [if_pos c266]) ?_
        refine m_iast hE (k := 29) dX10_split_286 (by decide) (by decide) rfl (show _ < 1440 by omega) (by omega) ?_
        refine v_iincN (y := 1) dX10_split_287 (by rfl) (by decide) (by decide) ?_
        refine v_goto (tgt := 231) dX10_split_290 (by decide) ?_
        refine v_hp (show _ = mdS f M (mT3 b n r q (k + 1)) from by
          unfold mT3
          dsimp only
          rw [va_up_self, va_up_up, mSp_s]) ?_
        exact ih (d - 1) (by omega) (k + 1) _ (by omega)
      · refine v_iload dX10_split_269 (by rfl) ?_
        refine v_iload dX10_split_271 (by rfl) ?_
        refine v_icmp_ne (tgt := 280) dX10_split_273 (by decide) (fun c273 => ?_) (fun c273 => ?_)
        · refine v_iconst (v := nI 0) dX10_split_280 (by decide) ?_
          refine v_eqi (y := splC q (b.1 29 (6 * r + k))) (by unfold splC; rw [if_neg c266, if_neg c273]) ?_
          refine v_goto (tgt := 286) dX10_split_281 (by decide) ?_
          refine m_iast hE (k := 29) dX10_split_286 (by decide) (by decide) rfl (show _ < 1440 by omega) (by omega) ?_
          refine v_iincN (y := 1) dX10_split_287 (by rfl) (by decide) (by decide) ?_
          refine v_goto (tgt := 231) dX10_split_290 (by decide) ?_
          refine v_hp (show _ = mdS f M (mT3 b n r q (k + 1)) from by
            unfold mT3
            dsimp only
            rw [va_up_self, va_up_up, mSp_s]) ?_
          exact ih (d - 1) (by omega) (k + 1) _ (by omega)
        · refine v_iconst (v := nI 1) dX10_split_276 (by decide) ?_
          refine v_eqi (y := splC q (b.1 29 (6 * r + k))) (by unfold splC; rw [if_neg c266, if_pos c273]) ?_
          refine v_goto (tgt := 286) dX10_split_277 (by decide) ?_
          refine m_iast hE (k := 29) dX10_split_286 (by decide) (by decide) rfl (show _ < 1440 by omega) (by omega) ?_
          refine v_iincN (y := 1) dX10_split_287 (by rfl) (by decide) (by decide) ?_
          refine v_goto (tgt := 231) dX10_split_290 (by decide) ?_
          refine v_hp (show _ = mdS f M (mT3 b n r q (k + 1)) from by
            unfold mT3
            dsimp only
            rw [va_up_self, va_up_up, mSp_s]) ?_
          exact ih (d - 1) (by omega) (k + 1) _ (by omega)
  have l26 : ∀ (Q9 : aP) (b : mV) (n r q : Nat) (z1 z2 z4 z6 z9 : Option Value), aNw b.1 → n < 240 → r < 240 → n ≠ r → q < 4 → (∀ z8 z9 : Option Value, V E mX10_split 0 0 Q9 293 [some (.ref M), z1, z2, some (.int (nI n)), z4, some (.int (nI r)), z6, some (.int (nI q)), z8, z9] [] (mdS f M (mT3 (mT2 b n r q 26) n r q 6)) t 0 0) → ∀ (d k : Nat), k + d = 26 → V E mX10_split 0 0 Q9 181 [some (.ref M), z1, z2, some (.int (nI n)), z4, some (.int (nI r)), z6, some (.int (nI q)), some (.int (nI k)), z9] [] (mdS f M (mT2 b n r q k)) t 0 0 := by
    intro Q9 b n r q z1 z2 z4 z6 z9 hb hn hr hnr hq hc d
    induction d using Nat.strongRecOn with
    | _ d ih =>
    intro k hk
    refine v_iload dX10_split_181 (by rfl) ?_
    refine v_bipush (v := nI 26) dX10_split_183 (by decide) ?_
    refine v_icmp_geN (tgt := 228) dX10_split_185 (by decide) (by omega) (by omega) (fun c185 => ?_) (fun c185 => ?_)
    · refine v_iconst (v := nI 0) dX10_split_228 (by decide) ?_
      refine v_istore dX10_split_229 (by decide) ?_
      have e9 : k = 26 := by omega
      subst e9
      refine v_hp (show _ = mdS f M (mT3 (mT2 b n r q 26) n r q 0) from by
        unfold mT3
        rw [mSp_0, va_up_id rfl]) ?_
      exact l6 Q9 (mT2 b n r q 26) n r q z1 z2 z4 z6 hn hr hnr hq hc 6 0 z9 (by omega)
    · refine v_aload_n dX10_split_188 rfl (by rfl) ?_
      refine v_getf hE dX10_split_189 fX10_87 mdS_M (by rfl) ?_
      refine v_bipush (v := nI 26) dX10_split_192 (by decide) ?_
      refine v_iconst (v := nI 4) dX10_split_194 (by decide) ?_
      refine v_iload_n dX10_split_195 rfl (by rfl) ?_
      refine v_imulN dX10_split_196 ?_
      refine v_iconst (v := nI 1) dX10_split_197 (by decide) ?_
      refine v_iaddN dX10_split_198 ?_
      refine v_imulN dX10_split_199 ?_
      refine v_iload dX10_split_200 (by rfl) ?_
      refine v_iaddN dX10_split_202 ?_
      refine v_aload_n dX10_split_203 rfl (by rfl) ?_
      refine v_getf hE dX10_split_204 fX10_87 mdS_M (by rfl) ?_
      refine v_bipush (v := nI 26) dX10_split_207 (by decide) ?_
      refine v_iconst (v := nI 4) dX10_split_209 (by decide) ?_
      refine v_iload dX10_split_210 (by rfl) ?_
      refine v_imulN dX10_split_212 ?_
      refine v_iload dX10_split_213 (by rfl) ?_
      refine v_iaddN dX10_split_215 ?_
      refine v_imulN dX10_split_216 ?_
      refine v_iload dX10_split_217 (by rfl) ?_
      refine v_iaddN dX10_split_219 ?_
      refine m_bald hE (k := 25) dX10_split_220 (by decide) (by decide) rfl (show _ < 24960 by omega) (by omega) ?_
      refine v_eqi (y := b.1 25 (26 * (4 * r + q) + k)) (mCp_o (by omega)) ?_
      refine m_bast hE (k := 25) dX10_split_221 (by decide) (by decide) rfl (show _ < 24960 by omega) (by omega) ?_
      rw [hb.1 25 _ rfl]
      refine v_iincN (y := 1) dX10_split_222 (by rfl) (by decide) (by decide) ?_
      refine v_goto (tgt := 181) dX10_split_225 (by decide) ?_
      refine v_hp (show _ = mdS f M (mT2 b n r q (k + 1)) from by
        unfold mT2
        dsimp only
        rw [va_up_self, va_up_up, mCp_s]) ?_
      exact ih (d - 1) (by omega) (k + 1) (by omega)
  have lpO : ∀ i : Nat, ix 2 (nI i) = some i → i < 2 → (shSp (dW x) (dZ x i)) ≤ 60 → ∀ (d j : Nat) (X : (Nat → eV) × Nat) (v : mV) (z5 z6 z7 z8 z9 : Option Value), j + d = (dZ x i).2.2 → mFr (tB 2) (y.1, va_up y.2 0 (bI (! true))) v → (sSplL (dZ x 2).1 (dZ x i).1 (nmAll 3 (0, (dZ x 2).2.1.2) (dZ x i).2.1).1 ((dZ x i).2.2 - 0) 0 (dW x, 0)) = sSplL (dZ x 2).1 (dZ x i).1 (nmAll 3 (0, (dZ x 2).2.1.2) (dZ x i).2.1).1 ((dZ x i).2.2 - j) j X → splI (dW x) (dZ x 2).1 (fun _ => True) X → shSpL (dW x) (dZ x i).1 ((dZ x i).2.2 - j) j X.2 = (shSp (dW x) (dZ x i)) → (∀ k, k < X.2 → mE v (120 + k) (X.1 ((dZ x 2).1 k)) (dZ x i).2.1.1) → V E mX10_split 0 0 (fun o f' t' => o = .inl (some (.int ((pSpl x (nI i)).1.getD (nI 0)))) ∧ t' = t ∧ mAns M f (pSpl x (nI i)) f') 82 [some (.ref M), some (.int (nI i)), some (.int (nI (shSp (dW x) (dZ x i)))), some (.int (nI (120 + X.2))), some (.int (nI j)), z5, z6, z7, z8, z9] [] (mdS f M v) t 0 0 := by
    intro i hi0 i2 h60 d
    have hzo := hI.2.2.1 i (by omega)
    have hz8 := hzo.2
    have hn3 := hzo.1.1
    have hwo : ∀ j, j < 60 → enOk (dW x ((dZ x i).1 j)) := fun j hj => hI.2.2.2.1 _ (dre_X hI (show i < 3 by omega) j hj)
    have heo : ∀ j, j < 60 → enOk (dW x ((dZ x 2).1 j)) := fun j hj => hI.2.2.2.1 _ (dre_X hI (show 2 < 3 by omega) j hj)
    have hTb := hR.2.2.2.1 i i2
    have hinj : ∀ a b, a < 60 → b < 60 → (dZ x 2).1 a = (dZ x 2).1 b → a = b := fun a b h1 h2 e => Classical.byContradiction (fun q => dre_i hI (show 2 < 3 by omega) a b h1 h2 q e)
    have hue : ∀ a b, a < 60 → b < 60 → (dZ x i).1 a ≠ (dZ x 2).1 b := fun a b h1 h2 e => by
      have := (hI.2.2.2.2.1.2 i a 2 b (by omega) h1 (by omega) h2 e).1
      omega
    have hKK : (nmAll 3 (0, (dZ x 2).2.1.2) (dZ x i).2.1).1 = (dZ x i).2.1.1 := (nmAll_0 hzo.1).1
    induction d using Nat.strongRecOn with
    | _ d ih =>
    intro j X v z5 z6 z7 z8 z9 hd hv hr hX hall hv9
    have hMv : v.1 16 i = nI (dZ x i).2.2 := by
      rw [hv.2.1 16 (by omega)]
      exact hTb.1
    have hle0 := shSpL_le2 (W := dW x) (u := (dZ x i).1) ((dZ x i).2.2 - j) j X.2
    have lq : j < (dZ x i).2.2 → 2 ≤ (eRo (dW x ((dZ x i).1 j)) - 1) → ∀ (d2 q : Nat) (X : (Nat → eV) × Nat) (v : mV) (z8 z9 : Option Value), q + d2 = (eRo (dW x ((dZ x i).1 j)) - 1) + 1 → 1 ≤ q → mFr (tB 2) (y.1, va_up y.2 0 (bI (! true))) v → (sSplL (dZ x 2).1 (dZ x i).1 (nmAll 3 (0, (dZ x 2).2.1.2) (dZ x i).2.1).1 ((dZ x i).2.2 - 0) 0 (dW x, 0)) = sSplL (dZ x 2).1 (dZ x i).1 (nmAll 3 (0, (dZ x 2).2.1.2) (dZ x i).2.1).1 ((dZ x i).2.2 - (j + 1)) (j + 1) (sTsL (dZ x 2).1 ((dZ x i).1 j) (nmAll 3 (0, (dZ x 2).2.1.2) (dZ x i).2.1).1 ((eRo (dW x ((dZ x i).1 j)) - 1) + 1 - q) q X) → splI (dW x) (dZ x 2).1 (fun _ => True) X → shSpL (dW x) (dZ x i).1 ((dZ x i).2.2 - (j + 1)) (j + 1) (X.2 + ((eRo (dW x ((dZ x i).1 j)) - 1) + 1 - q)) = (shSp (dW x) (dZ x i)) → (∀ k, k < X.2 → mE v (120 + k) (X.1 ((dZ x 2).1 k)) (dZ x i).2.1.1) → V E mX10_split 0 0 (fun o f' t' => o = .inl (some (.int ((pSpl x (nI i)).1.getD (nI 0)))) ∧ t' = t ∧ mAns M f (pSpl x (nI i)) f') 129 [some (.ref M), some (.int (nI i)), some (.int (nI (shSp (dW x) (dZ x i)))), some (.int (nI (120 + X.2))), some (.int (nI j)), some (.int (nI (60 * i + j))), some (.int (nI (eRo (dW x ((dZ x i).1 j)) - 1))), some (.int (nI q)), z8, z9] [] (mdS f M v) t 0 0 := by
      intro hjN hA2 d2
      have hro4 := (hwo j (by omega)).1
      induction d2 using Nat.strongRecOn with
      | _ d2 ih2 =>
      intro q X v z8 z9 hq hq1 hv hr hX hall hv9
      have hle := shSpL_le2 (W := dW x) (u := (dZ x i).1) ((dZ x i).2.2 - (j + 1)) (j + 1) (X.2 + ((eRo (dW x ((dZ x i).1 j)) - 1) + 1 - q))
      refine v_iload dX10_split_129 (by rfl) ?_
      refine v_iload dX10_split_131 (by rfl) ?_
      refine v_icmp_gtN (tgt := 302) dX10_split_133 (by decide) (by omega) (by omega) (fun c133 => ?_) (fun c133 => ?_)
      · refine v_iincN (y := 1) dX10_split_302 (by rfl) (by decide) (by decide) ?_
        refine v_goto (tgt := 82) dX10_split_305 (by decide) ?_
        have e9 : q = (eRo (dW x ((dZ x i).1 j)) - 1) + 1 := by omega
        subst e9
        exact ih (d - 1) (by omega) (j + 1) X _ _ _ _ _ _ (by omega) hv (hr.trans (by rw [Nat.sub_self]; rfl)) hX (by rw [← hall, Nat.sub_self]; rfl) hv9
      · refine v_aload_n dX10_split_136 rfl (by rfl) ?_
        refine v_iload_n dX10_split_137 rfl (by rfl) ?_
        refine v_iload dX10_split_138 (by rfl) ?_
        refine w_callV hE dX10_split_140 kX10_197 mdS_M (by rfl) (by rfl) (sX10_copy hE hv.2.2.1 (by omega) (by omega) (by omega)) rfl (by decide) (by decide) (by exact Nat.le_of_ble_eq_true rfl) (by omega) (by omega) (fun v9 g9 u9 h9 => ?_) (fun _ _ _ h => by cases h.1)
        obtain ⟨hv9, hu9, hg9⟩ := h9
        replace hu9 := hu9.symm
        subst hu9
        subst hg9
        cases hv9
        refine v_iload dX10_split_143 (by rfl) ?_
        refine v_iconst (v := nI 1) dX10_split_145 (by decide) ?_
        refine v_icmp_leN (tgt := 293) dX10_split_146 (by decide) (by omega) (by omega) (fun c146 => ?_) (fun c146 => ?_)
        · exact absurd c146 (by omega)
        · refine v_aload_n dX10_split_149 rfl (by rfl) ?_
          refine v_getf hE dX10_split_150 fX10_84 mdS_M (by rfl) ?_
          refine v_iload_n dX10_split_153 rfl (by rfl) ?_
          refine v_iconst (v := nI 1) dX10_split_154 (by decide) ?_
          refine m_iast hE (k := 24) dX10_split_155 (by decide) (by decide) rfl (show _ < 240 by omega) (by omega) ?_
          refine v_aload_n dX10_split_156 rfl (by rfl) ?_
          refine v_getf hE dX10_split_157 fX10_90 mdS_M (by rfl) ?_
          refine v_iconst (v := nI 4) dX10_split_160 (by decide) ?_
          refine v_iload_n dX10_split_161 rfl (by rfl) ?_
          refine v_imulN dX10_split_162 ?_
          refine v_iconst (v := nI 1) dX10_split_163 (by decide) ?_
          refine v_iaddN dX10_split_164 ?_
          refine v_aload_n dX10_split_165 rfl (by rfl) ?_
          refine v_getf hE dX10_split_166 fX10_90 mdS_M (by rfl) ?_
          refine v_iconst (v := nI 4) dX10_split_169 (by decide) ?_
          refine v_iload dX10_split_170 (by rfl) ?_
          refine v_imulN dX10_split_172 ?_
          refine v_iload dX10_split_173 (by rfl) ?_
          refine v_iaddN dX10_split_175 ?_
          refine m_iald hE (k := 26) dX10_split_176 (by decide) (by decide) rfl (show _ < 960 by omega) (by omega) ?_
          refine v_eqi (y := (mCopy v (120 + X.2) (60 * i + j)).1 26 (4 * (60 * i + j) + q)) rfl ?_
          refine m_iast hE (k := 26) dX10_split_177 (by decide) (by decide) rfl (show _ < 960 by omega) (by omega) ?_
          refine v_iconst (v := nI 0) dX10_split_178 (by decide) ?_
          refine v_istore dX10_split_179 (by decide) ?_
          refine v_hp (show _ = mdS f M (mT2 (mT1 (mCopy v (120 + X.2) (60 * i + j)) (120 + X.2) (60 * i + j) q) (120 + X.2) (60 * i + j) q 0) from by
            unfold mT2
            rw [mCp_0, va_up_id rfl]
            rfl) ?_
          refine l26 _ (mT1 (mCopy v (120 + X.2) (60 * i + j)) (120 + X.2) (60 * i + j) q) (120 + X.2) (60 * i + j) q _ _ _ _ _ (mT1_nw (mCopy_nw hv.2.2.1)) (by omega) (by omega) (by omega) (by omega) (fun z8 z9 => ?_) 26 0 (by omega)
          refine v_hp (show _ = mdS f M (mTk v (120 + X.2) (60 * i + j) q) from rfl) ?_
          refine v_iincN (y := 1) dX10_split_293 (by rfl) (by decide) (by decide) ?_
          refine v_iincN (y := 1) dX10_split_296 (by rfl) (by decide) (by decide) ?_
          refine v_goto (tgt := 129) dX10_split_299 (by decide) ?_
          have hrec : mE v (60 * i + j) (dW x ((dZ x i).1 j)) (dZ x i).2.1.1 := hv.2.2.2 _ _ _ (fun z => by have := z.1; have := z.2; omega) (hTb.2.2.2 j (by omega)) (hwo j (by omega)) hn3
          have hXj : X.1 ((dZ x i).1 j) = dW x ((dZ x i).1 j) := hX.2.1 _ (fun k hk => hue j k (by omega) hk)
          have hs1 : sTsL (dZ x 2).1 ((dZ x i).1 j) (nmAll 3 (0, (dZ x 2).2.1.2) (dZ x i).2.1).1 ((eRo (dW x ((dZ x i).1 j)) - 1) + 1 - q) q X = sTsL (dZ x 2).1 ((dZ x i).1 j) (nmAll 3 (0, (dZ x 2).2.1.2) (dZ x i).2.1).1 ((eRo (dW x ((dZ x i).1 j)) - 1) + 1 - (q + 1)) (q + 1) (va_up X.1 ((dZ x 2).1 X.2) (eTake (X.1 ((dZ x 2).1 X.2)) (dW x ((dZ x i).1 j)) q (nmAll 3 (0, (dZ x 2).2.1.2) (dZ x i).2.1).1), X.2 + 1) := by
            rw [show (eRo (dW x ((dZ x i).1 j)) - 1) + 1 - q = ((eRo (dW x ((dZ x i).1 j)) - 1) + 1 - (q + 1)) + 1 by omega]
            show (if X.2 < 60 then _ else X) = _
            rw [if_pos (by omega), hXj]
          rw [hs1] at hr
          exact ih2 (d2 - 1) (by omega) (q + 1) (va_up X.1 ((dZ x 2).1 X.2) (eTake (X.1 ((dZ x 2).1 X.2)) (dW x ((dZ x i).1 j)) q (nmAll 3 (0, (dZ x 2).2.1.2) (dZ x i).2.1).1), X.2 + 1) _ _ _ (by omega) (by omega) (mFr_tk hv ⟨by omega, by omega⟩) hr (splI_s hX (by omega) trivial (eTake_ok (hX.2.2.2 _ (by omega)) (hwo j (by omega))) hinj) (by rw [← hall]; exact congrArg (shSpL (dW x) (dZ x i).1 ((dZ x i).2.2 - (j + 1)) (j + 1)) (show X.2 + 1 + ((eRo (dW x ((dZ x i).1 j)) - 1) + 1 - (q + 1)) = X.2 + ((eRo (dW x ((dZ x i).1 j)) - 1) + 1 - q) by omega)) (fun k hk => by
            have hk : k < X.2 + 1 := hk
            by_cases e : k = X.2
            · subst e
              show mE _ _ (va_up X.1 ((dZ x 2).1 X.2) _ ((dZ x 2).1 X.2)) _
              rw [va_up_self, hKK]
              exact mE_q (mTk_a hrec (hwo j (by omega)) hn3 (by omega) (by omega)) (eTake_q (hX.2.2.2 _ (by omega)) (hwo j (by omega)) hn3 (by omega) (by omega))
            · show mE _ _ (va_up X.1 ((dZ x 2).1 X.2) _ ((dZ x 2).1 k)) _
              rw [va_up_ne _ _ (fun z => e (hinj k X.2 (by omega) (by omega) z))]
              exact mTk_o (hv9 k (by omega)) (hX.2.2.2 k (by omega)) hn3 (by omega))
    refine v_iload dX10_split_82 (by rfl) ?_
    refine v_aload_n dX10_split_84 rfl (by rfl) ?_
    refine v_getf hE dX10_split_85 fX10_60 mdS_M (by rfl) ?_
    refine v_iload_n dX10_split_88 rfl (by rfl) ?_
    refine m_iald hE (k := 16) dX10_split_89 (by decide) (by decide) rfl (show _ < 4 by omega) (by omega) ?_
    refine v_eqi (y := nI (dZ x i).2.2) hMv ?_
    refine v_icmp_geN (tgt := 308) dX10_split_90 (by decide) (by omega) (by omega) (fun c90 => ?_) (fun c90 => ?_)
    · refine v_aload_n dX10_split_308 rfl (by rfl) ?_
      refine v_getf hE dX10_split_309 fX10_60 mdS_M (by rfl) ?_
      refine v_iload_n dX10_split_312 rfl (by rfl) ?_
      refine v_iload_n dX10_split_313 rfl (by rfl) ?_
      refine m_iast hE (k := 16) dX10_split_314 (by decide) (by decide) rfl (show _ < 4 by omega) (by omega) ?_
      refine v_iconst (v := nI 0) dX10_split_315 (by decide) ?_
      refine v_istore dX10_split_316 (by decide) ?_
      have e9 : j = (dZ x i).2.2 := by omega
      subst e9
      rw [Nat.sub_self] at hr hall
      have hr : (sSplL (dZ x 2).1 (dZ x i).1 (nmAll 3 (0, (dZ x 2).2.1.2) (dZ x i).2.1).1 ((dZ x i).2.2 - 0) 0 (dW x, 0)) = X := hr
      have hall : X.2 = (shSp (dW x) (dZ x i)) := hall
      refine lpF i hi0 i2 h60 (by rw [hr]; exact hall) v _ _ _ _ _ _ hv (fun k hk => ?_) (shSp (dW x) (dZ x i)) 0 _ (by omega) (mFr_0 (aNw_i hv.2.2.1 rfl)) (fun j hj => absurd hj (Nat.not_lt_zero _))
      rw [hr]
      exact hv9 k (by omega)
    · have hrec : mE v (60 * i + j) (dW x ((dZ x i).1 j)) (dZ x i).2.1.1 := hv.2.2.2 _ _ _ (fun z => by have := z.1; have := z.2; omega) (hTb.2.2.2 j (by omega)) (hwo j (by omega)) hn3
      have hro := hrec.2.2.2.2.2.1
      have hro4 := (hwo j (by omega)).1
      have hle := shSpL_le2 (W := dW x) (u := (dZ x i).1) ((dZ x i).2.2 - (j + 1)) (j + 1) (X.2 + max 1 (eRo (dW x ((dZ x i).1 j)) - 1))
      have hst : shSpL (dW x) (dZ x i).1 ((dZ x i).2.2 - j) j X.2 = shSpL (dW x) (dZ x i).1 ((dZ x i).2.2 - (j + 1)) (j + 1) (X.2 + max 1 (eRo (dW x ((dZ x i).1 j)) - 1)) := by
        rw [show (dZ x i).2.2 - j = ((dZ x i).2.2 - (j + 1)) + 1 by omega]
        rfl
      have hss : sSplL (dZ x 2).1 (dZ x i).1 (nmAll 3 (0, (dZ x 2).2.1.2) (dZ x i).2.1).1 ((dZ x i).2.2 - j) j X = sSplL (dZ x 2).1 (dZ x i).1 (nmAll 3 (0, (dZ x 2).2.1.2) (dZ x i).2.1).1 ((dZ x i).2.2 - (j + 1)) (j + 1) (sTs (dZ x 2).1 ((dZ x i).1 j) (nmAll 3 (0, (dZ x 2).2.1.2) (dZ x i).2.1).1 X) := by
        rw [show (dZ x i).2.2 - j = ((dZ x i).2.2 - (j + 1)) + 1 by omega]
        rfl
      have hXj : X.1 ((dZ x i).1 j) = dW x ((dZ x i).1 j) := hX.2.1 _ (fun k hk => hue j k (by omega) hk)
      rw [hst] at hall
      refine v_bipush (v := nI 60) dX10_split_93 (by decide) ?_
      refine v_iload_n dX10_split_95 rfl (by rfl) ?_
      refine v_imulN dX10_split_96 ?_
      refine v_iload dX10_split_97 (by rfl) ?_
      refine v_iaddN dX10_split_99 ?_
      refine v_istore dX10_split_100 (by decide) ?_
      refine v_aload_n dX10_split_102 rfl (by rfl) ?_
      refine v_getf hE dX10_split_103 fX10_84 mdS_M (by rfl) ?_
      refine v_iload dX10_split_106 (by rfl) ?_
      refine m_iald hE (k := 24) dX10_split_108 (by decide) (by decide) rfl (show _ < 240 by omega) (by omega) ?_
      refine v_eqi (y := nI (eRo (dW x ((dZ x i).1 j)) - 1)) hrec.2.2.2.2.1 ?_
      refine v_iconst (v := nI 1) dX10_split_109 (by decide) ?_
      refine v_icmp_leN (tgt := 123) dX10_split_110 (by decide) (by omega) (by omega) (fun c110 => ?_) (fun c110 => ?_)
      · refine v_iconst (v := nI 1) dX10_split_123 (by decide) ?_
        refine v_istore dX10_split_124 (by decide) ?_
        refine v_iconst (v := nI 1) dX10_split_126 (by decide) ?_
        refine v_istore dX10_split_127 (by decide) ?_
        refine v_iload dX10_split_129 (by rfl) ?_
        refine v_iload dX10_split_131 (by rfl) ?_
        refine v_icmp_gtN (tgt := 302) dX10_split_133 (by decide) (by omega) (by omega) (fun c133 => ?_) (fun c133 => ?_)
        · exact absurd c133 (by omega)
        · refine v_aload_n dX10_split_136 rfl (by rfl) ?_
          refine v_iload_n dX10_split_137 rfl (by rfl) ?_
          refine v_iload dX10_split_138 (by rfl) ?_
          refine w_callV hE dX10_split_140 kX10_197 mdS_M (by rfl) (by rfl) (sX10_copy hE hv.2.2.1 (by omega) (by omega) (by omega)) rfl (by decide) (by decide) (by exact Nat.le_of_ble_eq_true rfl) (by omega) (by omega) (fun v9 g9 u9 h9 => ?_) (fun _ _ _ h => by cases h.1)
          obtain ⟨hv9, hu9, hg9⟩ := h9
          replace hu9 := hu9.symm
          subst hu9
          subst hg9
          cases hv9
          refine v_iload dX10_split_143 (by rfl) ?_
          refine v_iconst (v := nI 1) dX10_split_145 (by decide) ?_
          refine v_icmp_leN (tgt := 293) dX10_split_146 (by decide) (by omega) (by omega) (fun c146 => ?_) (fun c146 => ?_)
          · refine v_iincN (y := 1) dX10_split_293 (by rfl) (by decide) (by decide) ?_
            refine v_iincN (y := 1) dX10_split_296 (by rfl) (by decide) (by decide) ?_
            refine v_goto (tgt := 129) dX10_split_299 (by decide) ?_
            refine v_iload dX10_split_129 (by rfl) ?_
            refine v_iload dX10_split_131 (by rfl) ?_
            refine v_icmp_gtN (tgt := 302) dX10_split_133 (by decide) (by omega) (by omega) (fun c133 => ?_) (fun c133 => ?_)
            · refine v_iincN (y := 1) dX10_split_302 (by rfl) (by decide) (by decide) ?_
              refine v_goto (tgt := 82) dX10_split_305 (by decide) ?_
              have hX' : ∃ v9, sTs (dZ x 2).1 ((dZ x i).1 j) (nmAll 3 (0, (dZ x 2).2.1.2) (dZ x i).2.1).1 X = (va_up X.1 ((dZ x 2).1 X.2) v9, X.2 + 1) ∧ enOk v9 ∧ eEq (dW x ((dZ x i).1 j)) v9 (dZ x i).2.1.1 := by
                unfold sTs sTs0
                rw [hXj]
                by_cases e : eRo (dW x ((dZ x i).1 j)) = 1
                · rw [e, if_neg (by omega)]
                  exact ⟨_, rfl, eCopy_ok (hX.2.2.2 _ (by omega)) (hwo j (by omega)), eEq_m (eCopy_q (hwo j (by omega))) hn3⟩
                · have e2 : eRo (dW x ((dZ x i).1 j)) = 2 := by omega
                  rw [e2, if_pos (by omega)]
                  refine ⟨eTake (X.1 ((dZ x 2).1 X.2)) (dW x ((dZ x i).1 j)) 1 (nmAll 3 (0, (dZ x 2).2.1.2) (dZ x i).2.1).1, ?_, eTake_ok (hX.2.2.2 _ (by omega)) (hwo j (by omega)), ?_⟩
                  · show (if X.2 < 60 then (va_up X.1 ((dZ x 2).1 X.2) (eTake (X.1 ((dZ x 2).1 X.2)) (X.1 ((dZ x i).1 j)) 1 (nmAll 3 (0, (dZ x 2).2.1.2) (dZ x i).2.1).1), X.2 + 1) else X) = _
                    rw [if_pos (by omega), hXj]
                  · rw [hKK]
                    exact eEq_t (eEq_s (eTkW_1 (hwo j (by omega)) (hI.2.2.2.2.2.1 i j i2 (by omega)) e2)) (eTake_q (hX.2.2.2 _ (by omega)) (hwo j (by omega)) hn3 (by omega) (by omega))
              obtain ⟨v9, hX1, hX2, hX3⟩ := hX'
              rw [hX1] at hss
              exact ih (d - 1) (by omega) (j + 1) (va_up X.1 ((dZ x 2).1 X.2) v9, X.2 + 1) _ _ _ _ _ _ (by omega) (mFr_c hv ⟨by omega, by omega⟩) (hr.trans hss) (splI_s hX (by omega) trivial hX2 hinj) (by rw [← hall]; exact congrArg (shSpL (dW x) (dZ x i).1 ((dZ x i).2.2 - (j + 1)) (j + 1)) (show X.2 + 1 = X.2 + max 1 (eRo (dW x ((dZ x i).1 j)) - 1) by omega)) (fun k hk => by
                have hk : k < X.2 + 1 := hk
                by_cases e : k = X.2
                · subst e
                  show mE _ _ (va_up X.1 ((dZ x 2).1 X.2) v9 ((dZ x 2).1 X.2)) _
                  rw [va_up_self]
                  exact mE_q (mCopy_a hrec (hwo j (by omega)) hn3) hX3
                · show mE _ _ (va_up X.1 ((dZ x 2).1 X.2) v9 ((dZ x 2).1 k)) _
                  rw [va_up_ne _ _ (fun z => e (hinj k X.2 (by omega) (by omega) z))]
                  exact mCopy_o (hv9 k (by omega)) (hX.2.2.2 k (by omega)) hn3 (by omega))
            · exact absurd c133 (by omega)
          · exact absurd c146 (by omega)
      · refine v_aload_n dX10_split_113 rfl (by rfl) ?_
        refine v_getf hE dX10_split_114 fX10_84 mdS_M (by rfl) ?_
        refine v_iload dX10_split_117 (by rfl) ?_
        refine m_iald hE (k := 24) dX10_split_119 (by decide) (by decide) rfl (show _ < 240 by omega) (by omega) ?_
        refine v_eqi (y := nI (eRo (dW x ((dZ x i).1 j)) - 1)) hrec.2.2.2.2.1 ?_
        refine v_goto (tgt := 124) dX10_split_120 (by decide) ?_
        refine v_istore dX10_split_124 (by decide) ?_
        refine v_iconst (v := nI 1) dX10_split_126 (by decide) ?_
        refine v_istore dX10_split_127 (by decide) ?_
        exact lq (by omega) (by omega) (eRo (dW x ((dZ x i).1 j)) - 1) 1 X v _ _ (by omega) (by omega) hv (hr.trans (hss.trans (by
          unfold sTs sTs0
          rw [hXj, if_pos (by omega), show (eRo (dW x ((dZ x i).1 j)) - 1) + 1 - 1 = (eRo (dW x ((dZ x i).1 j)) - 1) by omega]))) hX (by rw [show X.2 + ((eRo (dW x ((dZ x i).1 j)) - 1) + 1 - 1) = X.2 + max 1 (eRo (dW x ((dZ x i).1 j)) - 1) by omega]; exact hall) hv9
  have lp1 : ∀ i : Nat, ix 2 (nI i) = some i → i < 2 → ∀ (d j c : Nat), j + d = (dZ x i).2.2 → c ≤ 3 * j → (shSp (dW x) (dZ x i)) = shSpL (dW x) (dZ x i).1 ((dZ x i).2.2 - j) j c → V E mX10_split 0 0 (fun o f' t' => o = .inl (some (.int ((pSpl x (nI i)).1.getD (nI 0)))) ∧ t' = t ∧ mAns M f (pSpl x (nI i)) f') 19 [some (.ref M), some (.int (nI i)), some (.int (nI c)), some (.int (nI j)), none, none, none, none, none, none] [] (mdS f M (y.1, va_up y.2 0 (bI (! true)))) t 0 0 := by
    intro i hi0 i2 d
    have hzo := hI.2.2.1 i (by omega)
    have hz8 := hzo.2
    have hn3 := hzo.1.1
    have hwo : ∀ j, j < 60 → enOk (dW x ((dZ x i).1 j)) := fun j hj => hI.2.2.2.1 _ (dre_X hI (show i < 3 by omega) j hj)
    have heo : ∀ j, j < 60 → enOk (dW x ((dZ x 2).1 j)) := fun j hj => hI.2.2.2.1 _ (dre_X hI (show 2 < 3 by omega) j hj)
    have hTb := hR.2.2.2.1 i i2
    have hinj : ∀ a b, a < 60 → b < 60 → (dZ x 2).1 a = (dZ x 2).1 b → a = b := fun a b h1 h2 e => Classical.byContradiction (fun q => dre_i hI (show 2 < 3 by omega) a b h1 h2 q e)
    have hue : ∀ a b, a < 60 → b < 60 → (dZ x i).1 a ≠ (dZ x 2).1 b := fun a b h1 h2 e => by
      have := (hI.2.2.2.2.1.2 i a 2 b (by omega) h1 (by omega) h2 e).1
      omega
    have hKK : (nmAll 3 (0, (dZ x 2).2.1.2) (dZ x i).2.1).1 = (dZ x i).2.1.1 := (nmAll_0 hzo.1).1
    induction d using Nat.strongRecOn with
    | _ d ih =>
    intro j c hd hc3 hc
    refine v_iload_n dX10_split_19 rfl (by rfl) ?_
    refine v_aload_n dX10_split_20 rfl (by rfl) ?_
    refine v_getf hE dX10_split_21 fX10_60 mdS_M (by rfl) ?_
    refine v_iload_n dX10_split_24 rfl (by rfl) ?_
    refine m_iald hE (k := 16) dX10_split_25 (by decide) (by decide) rfl (show _ < 4 by omega) (by omega) ?_
    refine v_eqi (y := nI (dZ x i).2.2) hTb.1 ?_
    refine v_icmp_geN (tgt := 68) dX10_split_26 (by decide) (by omega) (by omega) (fun c26 => ?_) (fun c26 => ?_)
    · have e9 : j = (dZ x i).2.2 := by omega
      have hcc : (shSp (dW x) (dZ x i)) = c := by
        rw [hc, e9, Nat.sub_self]
        rfl
      refine v_iload_n dX10_split_68 rfl (by rfl) ?_
      refine v_bipush (v := nI 60) dX10_split_69 (by decide) ?_
      refine v_icmp_leN (tgt := 76) dX10_split_71 (by decide) (by omega) (by omega) (fun c71 => ?_) (fun c71 => ?_)
      · refine v_bipush (v := nI 120) dX10_split_76 (by decide) ?_
        refine v_istore_n dX10_split_78 rfl (by decide) ?_
        refine v_iconst (v := nI 0) dX10_split_79 (by decide) ?_
        refine v_istore dX10_split_80 (by decide) ?_
        have h60 : (shSp (dW x) (dZ x i)) ≤ 60 := by omega
        subst hcc
        exact lpO i hi0 i2 h60 (dZ x i).2.2 0 (dW x, 0) _ _ _ _ _ _ (by omega) (mFr_0 hR.1) rfl ⟨by show 0 ≤ 60; omega, fun z _ => rfl, fun k hk => absurd hk (Nat.not_lt_zero _), heo⟩ rfl (fun k hk => absurd hk (Nat.not_lt_zero _))
      · refine v_iconst (v := (-1)) dX10_split_74 (by decide) ?_
        refine v_iret dX10_split_75 rfl (by first | rfl | exact nar_bI) ?_
        have hA : pSpl x (nI i) = (some (-1), x) := by
          unfold pSpl
          rw [hi0]
          exact if_neg (by omega)
        rw [hA]
        exact ⟨rfl, rfl, _, rfl, mRel_0 hR, rfl⟩
    · have hro4 := (hwo j (by omega)).1
      refine v_iload_n dX10_split_29 rfl (by rfl) ?_
      refine v_aload_n dX10_split_30 rfl (by rfl) ?_
      refine v_getf hE dX10_split_31 fX10_84 mdS_M (by rfl) ?_
      refine v_bipush (v := nI 60) dX10_split_34 (by decide) ?_
      refine v_iload_n dX10_split_36 rfl (by rfl) ?_
      refine v_imulN dX10_split_37 ?_
      refine v_iload_n dX10_split_38 rfl (by rfl) ?_
      refine v_iaddN dX10_split_39 ?_
      refine m_iald hE (k := 24) dX10_split_40 (by decide) (by decide) rfl (show _ < 240 by omega) (by omega) ?_
      refine v_eqi (y := nI (eRo (dW x ((dZ x i).1 j)) - 1)) (hTb.2.2.2 j (by omega)).2.2.2.2.1 ?_
      refine v_iconst (v := nI 1) dX10_split_41 (by decide) ?_
      refine v_icmp_leN (tgt := 59) dX10_split_42 (by decide) (by omega) (by omega) (fun c42 => ?_) (fun c42 => ?_)
      · refine v_iconst (v := nI 1) dX10_split_59 (by decide) ?_
        refine v_iaddN dX10_split_60 ?_
        refine v_istore_n dX10_split_61 rfl (by decide) ?_
        refine v_iincN (y := 1) dX10_split_62 (by rfl) (by decide) (by decide) ?_
        refine v_goto (tgt := 19) dX10_split_65 (by decide) ?_
        have hst : shSpL (dW x) (dZ x i).1 ((dZ x i).2.2 - j) j c = shSpL (dW x) (dZ x i).1 ((dZ x i).2.2 - (j + 1)) (j + 1) (c + max 1 (eRo (dW x ((dZ x i).1 j)) - 1)) := by
          rw [show (dZ x i).2.2 - j = ((dZ x i).2.2 - (j + 1)) + 1 by omega]
          rfl
        rw [hst] at hc
        rw [show max 1 (eRo (dW x ((dZ x i).1 j)) - 1) = 1 by omega] at hc
        exact ih (d - 1) (by omega) (j + 1) (c + 1) (by omega) (by omega) hc
      · refine v_aload_n dX10_split_45 rfl (by rfl) ?_
        refine v_getf hE dX10_split_46 fX10_84 mdS_M (by rfl) ?_
        refine v_bipush (v := nI 60) dX10_split_49 (by decide) ?_
        refine v_iload_n dX10_split_51 rfl (by rfl) ?_
        refine v_imulN dX10_split_52 ?_
        refine v_iload_n dX10_split_53 rfl (by rfl) ?_
        refine v_iaddN dX10_split_54 ?_
        refine m_iald hE (k := 24) dX10_split_55 (by decide) (by decide) rfl (show _ < 240 by omega) (by omega) ?_
        refine v_eqi (y := nI (eRo (dW x ((dZ x i).1 j)) - 1)) (hTb.2.2.2 j (by omega)).2.2.2.2.1 ?_
        refine v_goto (tgt := 60) dX10_split_56 (by decide) ?_
        refine v_iaddN dX10_split_60 ?_
        refine v_istore_n dX10_split_61 rfl (by decide) ?_
        refine v_iincN (y := 1) dX10_split_62 (by rfl) (by decide) (by decide) ?_
        refine v_goto (tgt := 19) dX10_split_65 (by decide) ?_
        have hst : shSpL (dW x) (dZ x i).1 ((dZ x i).2.2 - j) j c = shSpL (dW x) (dZ x i).1 ((dZ x i).2.2 - (j + 1)) (j + 1) (c + max 1 (eRo (dW x ((dZ x i).1 j)) - 1)) := by
          rw [show (dZ x i).2.2 - j = ((dZ x i).2.2 - (j + 1)) + 1 by omega]
          rfl
        rw [hst] at hc
        rw [show max 1 (eRo (dW x ((dZ x i).1 j)) - 1) = (eRo (dW x ((dZ x i).1 j)) - 1) by omega] at hc
        exact ih (d - 1) (by omega) (j + 1) (c + (eRo (dW x ((dZ x i).1 j)) - 1)) (by omega) (by omega) hc
  refine v_aload_n dX10_split_0 rfl (by rfl) ?_
  refine v_iload_n dX10_split_1 rfl (by rfl) ?_
  refine v_iconst (v := nI 0) dX10_split_2 (by decide) ?_
  refine v_iconst (v := nI 1) dX10_split_3 (by decide) ?_
  refine w_callS hE dX10_split_4 kX10_136 (by rfl) (sX10_in hE) rfl (by decide) (by decide) (by exact Nat.le_of_ble_eq_true rfl) (by omega) (by omega) (fun v9 g9 u9 h9 => ?_) (fun _ _ _ h => by cases h.1)
  obtain ⟨hv9, hu9, hg9⟩ := h9
  replace hu9 := hu9.symm
  replace hg9 := hg9.symm
  subst hu9
  subst hg9
  cases hv9
  rw [in_ix1 (n := 1) (by omega)]
  refine w_callV hE dX10_split_7 kX10_143 mdS_M (by rfl) (by rfl) (sX10_goes hE) rfl (by decide) (by decide) (by exact Nat.le_of_ble_eq_true rfl) (by omega) (by omega) (fun v9 g9 u9 h9 => ?_) (fun _ _ _ h => by cases h.1)
  obtain ⟨hv9, hu9, hg9⟩ := h9
  replace hu9 := hu9.symm
  subst hu9
  subst hg9
  cases hv9
  refine v_if_neB (tgt := 15) dX10_split_10 (by decide) (fun c10 => ?_) (fun c10 => ?_)
  · obtain ⟨i, hi0⟩ := Option.isSome_iff_exists.mp c10
    obtain ⟨i2, i3⟩ := ix_r hi0 (by omega)
    subst i3
    rw [c10]
    refine v_iconst (v := nI 0) dX10_split_15 (by decide) ?_
    refine v_istore_n dX10_split_16 rfl (by decide) ?_
    refine v_iconst (v := nI 0) dX10_split_17 (by decide) ?_
    refine v_istore_n dX10_split_18 rfl (by decide) ?_
    exact lp1 i hi0 i2 (dZ x i).2.2 0 0 (by omega) (by omega) rfl
  · refine v_iconst (v := nI 0) dX10_split_13 (by decide) ?_
    refine v_iret dX10_split_14 rfl (by first | rfl | exact nar_bI) ?_
    have hA : pSpl x q = (none, x) := by
      unfold pSpl
      split
      · rfl
      · rename_i i hi
        exfalso
        rw [show ix 2 q = some i from hi] at c10
        exact Bool.noConfusion c10
    rw [hA, c10]
    exact ⟨rfl, rfl, _, rfl, mRel_0 hR, rfl⟩
