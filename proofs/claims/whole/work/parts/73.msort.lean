theorem mCp_i2 {g : Nat → Int32} {sp dp n i k : Nat} (h : k < n) (hi : i = dp + k) : mCp g sp dp n i = g (sp + k) := by rw [hi]; exact mCp_i h
/-- a record copied to a is there -/
theorem mCopy_a {y : mV} {a b m : Nat} {w : eV} (h : mE y b w m) (hwo : enOk w) (hm : m ≤ 3) : mE (mCopy y a b) a w m := by
  obtain ⟨h1, h2, h3, h4, h5, h6, h7, h8, h9, h10⟩ := h
  have k1 := hwo.1
  have k2 := hwo.2.2.2
  refine ⟨?_, ?_, ?_, fun k hk => ?_, ?_, h6, fun q hq => ⟨?_, fun k hk => ?_⟩, ?_, ?_, fun s hs => ⟨?_, ?_, fun c hc => ?_⟩⟩
  · exact updS.trans h1
  · exact updS.trans h2
  · exact updS.trans h3
  · exact (mCp_i2 (n := 20) (by omega) rfl).trans (h4 k hk)
  · exact updS.trans h5
  · exact (mCp_i2 (n := 4) (by omega) rfl).trans (h7 q hq).1
  · have := hwo.2.1 q
    refine Eq.trans (mCp_i2 (n := 104) (k := 26 * q + k) (by omega) (by omega)) ?_
    rw [← (h7 q hq).2 k hk]
    exact congrArg _ (by omega)
  · exact updS.trans h8
  · exact updS.trans h9
  · exact (mCp_i2 (n := 3) (by omega) rfl).trans (h10 s hs).1
  · exact (mCp_i2 (n := 3) (by omega) rfl).trans (h10 s hs).2.1
  · have := hwo.2.2.1 s
    refine Eq.trans (mCp_i2 (n := 6) (k := 2 * s + c) (by omega) (by omega)) ?_
    rw [← (h10 s hs).2.2 c hc]
    exact congrArg _ (by omega)
/-- the others stay -/
theorem mCopy_o {y : mV} {a b r m : Nat} {w : eV} (h : mE y r w m) (hwo : enOk w) (hm : m ≤ 3) (hr : r ≠ a) : mE (mCopy y a b) r w m := by
  obtain ⟨h1, h2, h3, h4, h5, h6, h7, h8, h9, h10⟩ := h
  have k1 := hwo.1
  have k2 := hwo.2.2.2
  refine ⟨?_, ?_, ?_, fun k hk => ?_, ?_, h6, fun q hq => ⟨?_, fun k hk => ?_⟩, ?_, ?_, fun s hs => ⟨?_, ?_, fun c hc => ?_⟩⟩
  · exact (updN hr).trans h1
  · exact (updN hr).trans h2
  · exact (updN hr).trans h3
  · exact (mCp_o (n := 20) (by omega)).trans (h4 k hk)
  · exact (updN hr).trans h5
  · exact (mCp_o (n := 4) (by omega)).trans (h7 q hq).1
  · have := hwo.2.1 q
    exact (mCp_o (n := 104) (by omega)).trans ((h7 q hq).2 k hk)
  · exact (updN hr).trans h8
  · exact (updN hr).trans h9
  · exact (mCp_o (n := 3) (by omega)).trans (h10 s hs).1
  · exact (mCp_o (n := 3) (by omega)).trans (h10 s hs).2.1
  · have := hwo.2.2.1 s
    exact (mCp_o (n := 6) (by omega)).trans ((h10 s hs).2.2 c hc)
theorem mCopy_nw {y : mV} {a b : Nat} (hO : aNw y.1) : aNw (mCopy y a b).1 := aNw_cp hO (aNw_cp hO (aNw_cp hO (aNw_up hO (aNw_up hO (aNw_cp hO (aNw_cp hO (aNw_up hO (aNw_cp hO (aNw_up hO (aNw_up hO (aNw_up hO hO)))))))))))
/-- y' is y but for records of B -/
def mFr (B : Nat → Prop) (y y' : mV) : Prop := y'.2 = y.2 ∧ (∀ k, k < 20 ∨ 31 < k → y'.1 k = y.1 k) ∧ aNw y'.1 ∧ ∀ r w m, ¬ B r → mE y r w m → enOk w → m ≤ 3 → mE y' r w m
theorem mFr_0 {B : Nat → Prop} {y : mV} (h : aNw y.1) : mFr B y y := ⟨rfl, fun _ _ => rfl, h, fun _ _ _ _ h _ _ => h⟩
theorem mFr_c {B : Nat → Prop} {y z : mV} {a b : Nat} (h : mFr B y z) (ha : B a) : mFr B y (mCopy z a b) := by
  refine ⟨h.1, fun k hk => ?_, mCopy_nw h.2.2.1, fun r w m hB hr hw hm => mCopy_o (h.2.2.2 r w m hB hr hw hm) hw hm (fun e => hB (e ▸ ha))⟩
  rw [← h.2.1 k hk]
  unfold mCopy
  dsimp only
  repeat rw [va_up_ne _ _ (by omega)]
theorem mFr_t {B : Nat → Prop} {x y z : mV} (h : mFr B x y) (h2 : mFr B y z) : mFr B x z := ⟨h2.1.trans h.1, fun k hk => (h2.2.1 k hk).trans (h.2.1 k hk), h2.2.2.1, fun r w m hB hr hw hm => h2.2.2.2 r w m hB (h.2.2.2 r w m hB hr hw hm) hw hm⟩
/-- the place that rank gives -/
def rkP (w : Nat → eV) (i k : Nat) : Bool := eBeh (w i) (w k) || (! eBeh (w k) (w i) && decide (k < i))
def rk (w : Nat → eV) (n i : Nat) : Nat := cntN (rkP w i) (n - 0) 0 0
theorem cntN_le {p : Nat → Bool} : ∀ (d k c : Nat), c ≤ cntN p d k c ∧ cntN p d k c ≤ c + d := by
  intro d
  induction d with
  | zero => intro k c; exact ⟨Nat.le_refl _, Nat.le_refl _⟩
  | succ d ih =>
    intro k c
    unfold cntN
    split
    · have := ih (k + 1) (c + 1); omega
    · have := ih (k + 1) c; omega
set_option maxRecDepth 100000 in
set_option maxHeartbeats 600000 in
/-- model: rank -/
theorem sX10_rank {E : eN} (hE : eOk E) {f : aH} {t : Nat} {M : Nat} {y : mV} {i j n m : Nat} {w : Nat → eV} (hM : y.1 16 i = nI n) (hn : n ≤ 60) (hi : i < 4) (hw : ∀ k, k < n → mE y (60 * i + k) (w k) m) (hj : j < n) : mT E mX10_rank 0 0 [.ref M, .int (nI i), .int (nI j)] (mdS f M y) t (fun o f' t' => o = .inl (some (.int (nI (rk w n j)))) ∧ t' = t ∧ f' = mdS f M y) := by
  refine mT_of (n := 4) (lo := [some (.ref M), some (.int (nI i)), some (.int (nI j)), none, none, none, none]) (by decide) (by exact Nat.le_of_ble_eq_true rfl) rfl rfl ?_
  have lp : ∀ (d : Nat) (k c : Nat) (z6 : Option Value), k + d = n → c ≤ k → rk w n j = cntN (rkP w j) (n - k) k c → V E mX10_rank 0 0 (fun o f' t' => o = .inl (some (.int (nI (rk w n j)))) ∧ t' = t ∧ f' = mdS f M y) 13 [some (.ref M), some (.int (nI i)), some (.int (nI j)), some (.int (nI (60 * i + j))), some (.int (nI c)), some (.int (nI k)), z6] [] (mdS f M y) t 0 0 := by
    intro d
    induction d using Nat.strongRecOn with
    | _ d ih =>
    intro k c z6 hk hc he
    refine v_iload dX10_rank_13 (by rfl) ?_
    refine v_aload_n dX10_rank_15 rfl (by rfl) ?_
    refine v_getf hE dX10_rank_16 fX10_60 mdS_M (by rfl) ?_
    refine v_iload_n dX10_rank_19 rfl (by rfl) ?_
    refine m_iald hE (k := 16) dX10_rank_20 (by decide) (by decide) rfl (show _ < 4 by omega) (by omega) ?_
    refine v_eqi (y := nI n) hM ?_
    refine v_icmp_geN (tgt := 68) dX10_rank_21 (by decide) (by omega) (by omega) (fun c21 => ?_) (fun c21 => ?_)
    · refine v_iload dX10_rank_68 (by rfl) ?_
      refine v_iret dX10_rank_70 rfl (by first | rfl | exact nar_bI) ?_
      refine ⟨congrArg (fun x => (Sum.inl (some (Value.int x)) : aO)) ?_, rfl, rfl⟩
      rw [show rk w n j = c from he.trans (by rw [show n - k = 0 by omega]; rfl)]
    · refine v_bipush (v := nI 60) dX10_rank_24 (by decide) ?_
      refine v_iload_n dX10_rank_26 rfl (by rfl) ?_
      refine v_imulN dX10_rank_27 ?_
      refine v_iload dX10_rank_28 (by rfl) ?_
      refine v_iaddN dX10_rank_30 ?_
      refine v_istore dX10_rank_31 (by decide) ?_
      refine v_aload_n dX10_rank_33 rfl (by rfl) ?_
      refine v_iload dX10_rank_34 (by rfl) ?_
      refine v_iload_n dX10_rank_36 rfl (by rfl) ?_
      refine w_callV hE dX10_rank_37 kX10_344 mdS_M (by rfl) (by rfl) (sX10_isBefore hE (by omega) (by omega)) rfl (by decide) (by decide) (by exact Nat.le_of_ble_eq_true rfl) (by omega) (by omega) (fun v9 g9 u9 h9 => ?_) (fun _ _ _ h => by cases h.1)
      obtain ⟨hv9, hu9, hg9⟩ := h9
      replace hu9 := hu9.symm
      subst hu9
      subst hg9
      cases hv9
      rw [mBf_eq (hw k (by omega)) (hw j hj)]
      refine v_if_neB (tgt := 59) dX10_rank_40 (by decide) (fun c40 => ?_) (fun c40 => ?_)
      · refine v_iincN (y := 1) dX10_rank_59 (by rfl) (by decide) (by decide) ?_
        refine v_iincN (y := 1) dX10_rank_62 (by rfl) (by decide) (by decide) ?_
        refine v_goto (tgt := 13) dX10_rank_65 (by decide) ?_
        first
          | exact ih (d - 1) (by omega) (k + 1) (c + 1) _ (by omega) (by omega) (he.trans (by rw [show n - k = (n - (k + 1)) + 1 by omega, cntN, if_pos (show rkP w j k = true by unfold rkP; rw [c40]; rfl)]))
          | exact ih (d - 1) (by omega) (k + 1) (c + 1) _ (by omega) (by omega) (he.trans (by rw [show n - k = (n - (k + 1)) + 1 by omega, cntN, if_pos (show rkP w j k = true by unfold rkP; rw [c40, c50, decide_eq_true (show k < j by omega)]; rfl)]))
          | exact ih (d - 1) (by omega) (k + 1) c _ (by omega) (by omega) (he.trans (by rw [show n - k = (n - (k + 1)) + 1 by omega, cntN, if_neg (show ¬ rkP w j k = true by unfold rkP; rw [c40, c50]; exact Bool.false_ne_true)]))
          | exact ih (d - 1) (by omega) (k + 1) c _ (by omega) (by omega) (he.trans (by rw [show n - k = (n - (k + 1)) + 1 by omega, cntN, if_neg (show ¬ rkP w j k = true by unfold rkP; rw [c40, c50, decide_eq_false (show ¬ k < j by omega)]; exact Bool.false_ne_true)]))
      · refine v_aload_n dX10_rank_43 rfl (by rfl) ?_
        refine v_iload_n dX10_rank_44 rfl (by rfl) ?_
        refine v_iload dX10_rank_45 (by rfl) ?_
        refine w_callV hE dX10_rank_47 kX10_344 mdS_M (by rfl) (by rfl) (sX10_isBefore hE (by omega) (by omega)) rfl (by decide) (by decide) (by exact Nat.le_of_ble_eq_true rfl) (by omega) (by omega) (fun v9 g9 u9 h9 => ?_) (fun _ _ _ h => by cases h.1)
        obtain ⟨hv9, hu9, hg9⟩ := h9
        replace hu9 := hu9.symm
        subst hu9
        subst hg9
        cases hv9
        rw [mBf_eq (hw j hj) (hw k (by omega))]
        refine v_if_neB (tgt := 62) dX10_rank_50 (by decide) (fun c50 => ?_) (fun c50 => ?_)
        · refine v_iincN (y := 1) dX10_rank_62 (by rfl) (by decide) (by decide) ?_
          refine v_goto (tgt := 13) dX10_rank_65 (by decide) ?_
          first
            | exact ih (d - 1) (by omega) (k + 1) (c + 1) _ (by omega) (by omega) (he.trans (by rw [show n - k = (n - (k + 1)) + 1 by omega, cntN, if_pos (show rkP w j k = true by unfold rkP; rw [c40]; rfl)]))
            | exact ih (d - 1) (by omega) (k + 1) (c + 1) _ (by omega) (by omega) (he.trans (by rw [show n - k = (n - (k + 1)) + 1 by omega, cntN, if_pos (show rkP w j k = true by unfold rkP; rw [c40, c50, decide_eq_true (show k < j by omega)]; rfl)]))
            | exact ih (d - 1) (by omega) (k + 1) c _ (by omega) (by omega) (he.trans (by rw [show n - k = (n - (k + 1)) + 1 by omega, cntN, if_neg (show ¬ rkP w j k = true by unfold rkP; rw [c40, c50]; exact Bool.false_ne_true)]))
            | exact ih (d - 1) (by omega) (k + 1) c _ (by omega) (by omega) (he.trans (by rw [show n - k = (n - (k + 1)) + 1 by omega, cntN, if_neg (show ¬ rkP w j k = true by unfold rkP; rw [c40, c50, decide_eq_false (show ¬ k < j by omega)]; exact Bool.false_ne_true)]))
        · refine v_iload dX10_rank_53 (by rfl) ?_
          refine v_iload_n dX10_rank_55 rfl (by rfl) ?_
          refine v_icmp_geN (tgt := 62) dX10_rank_56 (by decide) (by omega) (by omega) (fun c56 => ?_) (fun c56 => ?_)
          · refine v_iincN (y := 1) dX10_rank_62 (by rfl) (by decide) (by decide) ?_
            refine v_goto (tgt := 13) dX10_rank_65 (by decide) ?_
            first
              | exact ih (d - 1) (by omega) (k + 1) (c + 1) _ (by omega) (by omega) (he.trans (by rw [show n - k = (n - (k + 1)) + 1 by omega, cntN, if_pos (show rkP w j k = true by unfold rkP; rw [c40]; rfl)]))
              | exact ih (d - 1) (by omega) (k + 1) (c + 1) _ (by omega) (by omega) (he.trans (by rw [show n - k = (n - (k + 1)) + 1 by omega, cntN, if_pos (show rkP w j k = true by unfold rkP; rw [c40, c50, decide_eq_true (show k < j by omega)]; rfl)]))
              | exact ih (d - 1) (by omega) (k + 1) c _ (by omega) (by omega) (he.trans (by rw [show n - k = (n - (k + 1)) + 1 by omega, cntN, if_neg (show ¬ rkP w j k = true by unfold rkP; rw [c40, c50]; exact Bool.false_ne_true)]))
              | exact ih (d - 1) (by omega) (k + 1) c _ (by omega) (by omega) (he.trans (by rw [show n - k = (n - (k + 1)) + 1 by omega, cntN, if_neg (show ¬ rkP w j k = true by unfold rkP; rw [c40, c50, decide_eq_false (show ¬ k < j by omega)]; exact Bool.false_ne_true)]))
          · refine v_iincN (y := 1) dX10_rank_59 (by rfl) (by decide) (by decide) ?_
            refine v_iincN (y := 1) dX10_rank_62 (by rfl) (by decide) (by decide) ?_
            refine v_goto (tgt := 13) dX10_rank_65 (by decide) ?_
            first
              | exact ih (d - 1) (by omega) (k + 1) (c + 1) _ (by omega) (by omega) (he.trans (by rw [show n - k = (n - (k + 1)) + 1 by omega, cntN, if_pos (show rkP w j k = true by unfold rkP; rw [c40]; rfl)]))
              | exact ih (d - 1) (by omega) (k + 1) (c + 1) _ (by omega) (by omega) (he.trans (by rw [show n - k = (n - (k + 1)) + 1 by omega, cntN, if_pos (show rkP w j k = true by unfold rkP; rw [c40, c50, decide_eq_true (show k < j by omega)]; rfl)]))
              | exact ih (d - 1) (by omega) (k + 1) c _ (by omega) (by omega) (he.trans (by rw [show n - k = (n - (k + 1)) + 1 by omega, cntN, if_neg (show ¬ rkP w j k = true by unfold rkP; rw [c40, c50]; exact Bool.false_ne_true)]))
              | exact ih (d - 1) (by omega) (k + 1) c _ (by omega) (by omega) (he.trans (by rw [show n - k = (n - (k + 1)) + 1 by omega, cntN, if_neg (show ¬ rkP w j k = true by unfold rkP; rw [c40, c50, decide_eq_false (show ¬ k < j by omega)]; exact Bool.false_ne_true)]))
  refine v_bipush (v := nI 60) dX10_rank_0 (by decide) ?_
  refine v_iload_n dX10_rank_2 rfl (by rfl) ?_
  refine v_imulN dX10_rank_3 ?_
  refine v_iload_n dX10_rank_4 rfl (by rfl) ?_
  refine v_iaddN dX10_rank_5 ?_
  refine v_istore_n dX10_rank_6 rfl (by decide) ?_
  refine v_iconst (v := nI 0) dX10_rank_7 (by decide) ?_
  refine v_istore dX10_rank_8 (by decide) ?_
  refine v_iconst (v := nI 0) dX10_rank_10 (by decide) ?_
  refine v_istore dX10_rank_11 (by decide) ?_
  exact lp n 0 0 none (by omega) (by omega) rfl

theorem cntN_mono {p q : Nat → Bool} (h : ∀ l, p l = true → q l = true) : ∀ (d k c c' : Nat), c ≤ c' → cntN p d k c ≤ cntN q d k c' := by
  intro d
  induction d with
  | zero => intro k c c' hc; exact hc
  | succ d ih =>
    intro k c c' hc
    unfold cntN
    by_cases hp : p k = true
    · rw [if_pos hp, if_pos (h k hp)]
      exact ih _ _ _ (by omega)
    · rw [if_neg hp]
      split
      · exact ih _ _ _ (by omega)
      · exact ih _ _ _ hc
theorem cntN_lt {p q : Nat → Bool} (h : ∀ l, p l = true → q l = true) {l : Nat} (hp : p l = false) (hq : q l = true) : ∀ (d k c c' : Nat), c ≤ c' → k ≤ l → l < k + d → cntN p d k c < cntN q d k c' := by
  intro d
  induction d with
  | zero => intro k c c' _ h1 h2; omega
  | succ d ih =>
    intro k c c' hc h1 h2
    unfold cntN
    by_cases e : k = l
    · subst e
      rw [if_neg (by rw [hp]; decide), if_pos hq]
      exact Nat.lt_of_lt_of_le (Nat.lt_succ_self _) (by
        have := cntN_mono h d (k + 1) c c' hc
        have h3 : cntN q d (k + 1) c' + 1 ≤ cntN q d (k + 1) (c' + 1) := by
          have hs : ∀ (d k c : Nat), cntN q d k (c + 1) = cntN q d k c + 1 := by
            intro d
            induction d with
            | zero => intro k c; rfl
            | succ d ih => intro k c; unfold cntN; split <;> exact ih _ _
          rw [hs]
          exact Nat.le_refl _
        omega)
    · by_cases hpk : p k = true
      · rw [if_pos hpk, if_pos (h k hpk)]
        exact ih _ _ _ (by omega) (by omega) (by omega)
      · rw [if_neg hpk]
        split
        · exact ih _ _ _ (by omega) (by omega) (by omega)
        · exact ih _ _ _ hc (by omega) (by omega)
theorem rkP_iff {w : Nat → eV} {i k : Nat} : rkP w i k = true ↔ ((eSq (w k)).toInt < (eSq (w i)).toInt ∨ ((eSq (w k)).toInt = (eSq (w i)).toInt ∧ ((ePl (w k)).toInt < (ePl (w i)).toInt ∨ ((ePl (w k)).toInt = (ePl (w i)).toInt ∧ k < i)))) := by
  unfold rkP eBeh
  simp only [Bool.or_eq_true, Bool.and_eq_true, Bool.not_eq_true', Bool.or_eq_false_iff, Bool.and_eq_false_iff, decide_eq_true_eq, decide_eq_false_iff_not, Int32.lt_iff_toInt_lt, ← Int32.toInt_inj]
  omega
theorem rk_ord {w : Nat → eV} {n i k : Nat} (hk : k < n) (h : rkP w i k = true) : rk w n k < rk w n i := by
  refine cntN_lt (l := k) (fun l hl => ?_) ?_ h _ _ _ _ (Nat.le_refl _) (Nat.zero_le _) (by omega)
  · rw [rkP_iff] at h hl ⊢
    omega
  · rw [Bool.eq_false_iff]
    intro z
    rw [rkP_iff] at z
    omega
theorem rk_inj {w : Nat → eV} {n i k : Nat} (hi : i < n) (hk : k < n) (h : rk w n i = rk w n k) : i = k := by
  apply Classical.byContradiction
  intro hn
  have hc : rkP w i k = true ∨ rkP w k i = true := by
    rw [rkP_iff, rkP_iff]
    omega
  rcases hc with hc | hc
  · have := rk_ord hk hc; omega
  · have := rk_ord hi hc; omega
theorem rk_lt {w : Nat → eV} {n i : Nat} (hi : i < n) : rk w n i < n := by
  have h1 := cntN_lt (p := rkP w i) (q := fun _ => true) (l := i) (fun _ _ => rfl) (by
    rw [Bool.eq_false_iff]
    intro z
    rw [rkP_iff] at z
    omega) rfl (n - 0) 0 0 0 (Nat.le_refl _) (Nat.zero_le _) (by omega)
  have h2 := (cntN_le (p := fun _ => true) (n - 0) 0 0).2
  unfold rk
  omega