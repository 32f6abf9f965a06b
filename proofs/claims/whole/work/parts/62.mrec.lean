theorem and255 (x : Int32) : ∃ n, n ≤ 255 ∧ x &&& nI 255 = nI n := by
  refine ⟨x.toBitVec.toNat &&& 255, Nat.and_le_right, ?_⟩
  apply Int32.toBitVec_inj.mp
  apply BitVec.eq_of_toNat_eq
  have h : (x.toBitVec.toNat &&& 255) ≤ 255 := Nat.and_le_right
  show ((x &&& nI 255).toBitVec).toNat = (BitVec.ofNat 32 (x.toBitVec.toNat &&& 255)).toNat
  rw [Int32.toBitVec_and, BitVec.toNat_and, BitVec.toNat_ofNat, Nat.mod_eq_of_lt (by omega)]
  rfl
theorem mTp_oct {y : mV} {u : tS} (h : mTp y u) {n : Nat} (hn : n < u.1) : ∃ c, c ≤ 255 ∧ mOct u n = nI c := by
  obtain ⟨c, h1, h2⟩ := and255 (y.1 1 n)
  exact ⟨c, h1, (mOct_in hn h.2.1).trans ((h.2.2 n hn).trans h2)⟩
theorem mTp_o {y : mV} {u : tS} (h : mTp y u) : ∀ n, n < 2 ^ 31 → (mOct u n = -1 ↔ u.1 ≤ n) := by
  intro n hn
  constructor
  · intro e
    apply Nat.le_of_not_lt
    intro hl
    obtain ⟨c, h1, h2⟩ := mTp_oct h hl
    exact nI_m1 (by omega) (h2.symm.trans e)
  · intro e
    exact mOct_out e hn
/-! numbers -/
def mNv (u : tS) : Nat → Nat → Nat → Option Nat
  | 0, _, v => some v
  | d + 1, k, v => if mIn (mOct u k) (nI 48) (nI 57) = true then mNv u d (k + 1) (10 * v + (mOct u k).toNatClampNeg - 48) else none
def mNr (L : Nat) (o : Option Nat) : Int32 := match o with
  | none => -1
  | some w => if w ≤ L then nI w else -1
def mNum (u : tS) (i j L : Nat) : Int32 := if j = i ∨ (mOct u i = nI 48 ∧ 1 < j - i) ∨ 9 < j - i then -1 else mNr L (mNv u (j - i) i 0)
theorem mNv_mul {u : tS} : ∀ (d k v w : Nat), mNv u d k v = some w → v * 10 ^ d ≤ w := by
  intro d
  induction d with
  | zero => intro k v w h; cases h; omega
  | succ d ih =>
    intro k v w h
    unfold mNv at h
    split at h
    · rename_i hc
      obtain ⟨e, h1, h2, h3⟩ := mIn_nat hc (by decide) (by decide)
      rw [h3, nI_clamp (by omega)] at h
      have := ih _ _ _ h
      have h4 : 10 * v * 10 ^ d ≤ (10 * v + e - 48) * 10 ^ d := Nat.mul_le_mul_right _ (by omega)
      rw [Nat.pow_succ]
      have h5 : v * (10 ^ d * 10) = 10 * v * 10 ^ d := by rw [Nat.mul_comm (10 ^ d) 10, ← Nat.mul_assoc, Nat.mul_comm v 10]
      omega
    · cases h
theorem mNv_ge {u : tS} {d k v w : Nat} (h : mNv u d k v = some w) : v ≤ w := by
  have h1 := mNv_mul _ _ _ _ h
  have h2 : 1 ≤ 10 ^ d := Nat.one_le_pow _ _ (by decide)
  have h3 : v * 1 ≤ v * 10 ^ d := Nat.mul_le_mul_left _ h2
  omega
theorem in48 {x : Int32} : mIn x (nI 48) (nI 57) = true ↔ ¬ (x < nI 48 ∨ nI 57 < x) := by
  unfold mIn
  rw [Bool.and_eq_true, decide_eq_true_eq, decide_eq_true_eq]
  constructor
  · rintro ⟨h1, h2⟩ (h | h)
    · exact absurd h1 (Int32.not_le.mpr h)
    · exact absurd h2 (Int32.not_le.mpr h)
  · intro h
    exact ⟨Int32.not_lt.mp (fun z => h (Or.inl z)), Int32.not_lt.mp (fun z => h (Or.inr z))⟩
theorem tNumL_m {u : tS} {L : Nat} : ∀ (d k v : Nat), v ≤ L → tNumL u L d k v = mNr L (mNv u d k v) := by
  intro d
  induction d with
  | zero => intro k v h; exact (if_pos h).symm
  | succ d ih =>
    intro k v h
    unfold tNumL mNv
    rw [show ocAt u.1 u.2.1 (nI k) = mOct u k from rfl]
    by_cases hc : mIn (mOct u k) (nI 48) (nI 57) = true
    · rw [if_neg (in48.mp hc), if_pos hc]
      obtain ⟨e, h1, h2, h3⟩ := mIn_nat hc (by decide) (by decide)
      rw [h3, nI_clamp (by omega), show v * 10 + e - 48 = 10 * v + e - 48 by omega]
      by_cases hl : L < 10 * v + e - 48
      · rw [if_pos hl]
        cases hw : mNv u d (k + 1) (10 * v + e - 48) with
        | none => rfl
        | some w => exact (if_neg (by have := mNv_ge hw; omega)).symm
      · rw [if_neg hl]
        exact ih _ _ (by omega)
    · rw [if_neg hc, if_pos (Classical.not_not.mp (fun z => hc (in48.mpr z)))]
      rfl
theorem mNum_eq {u : tS} {i j L : Nat} (hij : i ≤ j) (hL : L < 10000000) : mNum u i j L = tNum u i j L := by
  unfold mNum tNum
  by_cases h1 : j ≤ i ∨ (1 < j - i ∧ ocAt u.1 u.2.1 (nI i) = nI 48)
  · rw [if_pos h1, if_pos (by rcases h1 with h1 | h1; exact Or.inl (by omega); exact Or.inr (Or.inl ⟨h1.2, h1.1⟩))]
  · rw [if_neg h1, tNumL_m _ _ _ (Nat.zero_le _)]
    by_cases h2 : 9 < j - i
    · rw [if_pos (Or.inr (Or.inr h2))]
      cases hw : mNv u (j - i) i 0 with
      | none => rfl
      | some w =>
        refine (if_neg ?_).symm
        rw [show j - i = (j - i - 1) + 1 by omega] at hw
        unfold mNv at hw
        split at hw
        · rename_i hc
          obtain ⟨e, k1, k2, k3⟩ := mIn_nat hc (by decide) (by decide)
          rw [k3, nI_clamp (by omega)] at hw
          have ne : e ≠ 48 := fun z => h1 (Or.inr ⟨by omega, by rw [← z]; exact k3⟩)
          have h3 := mNv_mul _ _ _ _ hw
          have h4 : 10 ^ 9 ≤ 10 ^ (j - i - 1) := Nat.pow_le_pow_right (by decide) (by omega)
          have h5 : 1 * 10 ^ (j - i - 1) ≤ (10 * 0 + e - 48) * 10 ^ (j - i - 1) := Nat.mul_le_mul_right _ (by omega)
          have h6 : (10 : Nat) ^ 9 = 1000000000 := by decide
          omega
        · cases hw
    · rw [if_neg (fun z => by rcases z with z | z | z; exact h1 (Or.inl (by omega)); exact h1 (Or.inr ⟨z.2, z.1⟩); exact h2 z)]
set_option maxRecDepth 100000 in
set_option maxHeartbeats 4000000 in
/-- model: numberOf -/
theorem sX10_numberOf {E : eN} (hE : eOk E) {f : aH} {t : Nat} {M : Nat} {y : mV} {u : tS} {i j L : Nat} (hp : mTp y u) (hij : i ≤ j) (hj : j < 2 ^ 28) (hL : L < 10000000) : mT E mX10_numberOf 0 0 [.ref M, .int (nI i), .int (nI j), .int (nI L)] (mdS f M y) t (fun o f' t' => o = .inl (some (.int (tNum u i j L))) ∧ t' = t ∧ f' = mdS f M y) := by
  refine mT_of (n := 2) (lo := [some (.ref M), some (.int (nI i)), some (.int (nI j)), some (.int (nI L)), none, none]) (by decide) (by exact Nat.le_of_ble_eq_true rfl) rfl rfl ?_
  have lp : mNum u i j L = mNr L (mNv u (j - i) i 0) → i < j → j - i ≤ 9 → ∀ (d : Nat) (n v : Nat), n + d = j → i ≤ n → v < 10 ^ (n - i) → mNv u (j - i) i 0 = mNv u (j - n) n v → V E mX10_numberOf 0 0 (fun o f' t' => o = .inl (some (.int (tNum u i j L))) ∧ t' = t ∧ f' = mdS f M y) 38 [some (.ref M), some (.int (nI i)), some (.int (nI j)), some (.int (nI L)), some (.int (nI v)), some (.int (nI n))] [] (mdS f M y) t 0 0 := by
    intro hq hlt hle d
    induction d using Nat.strongRecOn with
    | _ d ih =>
    intro n v hn hin hv he
    have hp9 : 10 ^ (n - i) ≤ 10 ^ 9 := Nat.pow_le_pow_right (by decide) (by omega)
    have hp9b : (10 : Nat) ^ 9 = 1000000000 := by decide
    refine v_iload dX10_numberOf_38 (by rfl) ?_
    refine v_iload_n dX10_numberOf_40 rfl (by rfl) ?_
    refine v_icmp_geN (tgt := 85) dX10_numberOf_41 (by decide) (by omega) (by omega) (fun c41 => ?_) (fun c41 => ?_)
    · refine v_iload dX10_numberOf_85 (by rfl) ?_
      refine v_iload_n dX10_numberOf_87 rfl (by rfl) ?_
      refine v_icmp_gtN (tgt := 96) dX10_numberOf_88 (by decide) (by omega) (by omega) (fun c88 => ?_) (fun c88 => ?_)
      · refine v_iconst (v := (-1)) dX10_numberOf_96 (by decide) ?_
        refine v_iret dX10_numberOf_97 rfl (by first | rfl | exact nar_bI) ?_
        refine ⟨congrArg (fun x => (Sum.inl (some (Value.int x)) : aO)) ?_, rfl, rfl⟩
        rw [← mNum_eq hij hL, hq, he]
        first
          | (rw [show j - n = (j - (n + 1)) + 1 by omega, mNv, if_neg (by rw [c57]; decide)]; rfl)
          | (rw [show j - n = 0 by omega]; exact (if_pos (by omega)).symm)
          | (rw [show j - n = 0 by omega]; exact (if_neg (by omega)).symm)
      · refine v_iload dX10_numberOf_91 (by rfl) ?_
        refine v_goto (tgt := 97) dX10_numberOf_93 (by decide) ?_
        refine v_iret dX10_numberOf_97 rfl (by first | rfl | exact nar_bI) ?_
        refine ⟨congrArg (fun x => (Sum.inl (some (Value.int x)) : aO)) ?_, rfl, rfl⟩
        rw [← mNum_eq hij hL, hq, he]
        first
          | (rw [show j - n = (j - (n + 1)) + 1 by omega, mNv, if_neg (by rw [c57]; decide)]; rfl)
          | (rw [show j - n = 0 by omega]; exact (if_pos (by omega)).symm)
          | (rw [show j - n = 0 by omega]; exact (if_neg (by omega)).symm)
    · refine v_aload_n dX10_numberOf_44 rfl (by rfl) ?_
      refine v_iload dX10_numberOf_45 (by rfl) ?_
      refine w_callV hE dX10_numberOf_47 kX10_156 mdS_M (by rfl) (by rfl) (sX10_at hE hp (by omega)) rfl (by decide) (by decide) (by exact Nat.le_of_ble_eq_true rfl) (by omega) (by omega) (fun v9 g9 u9 h9 => ?_) (fun _ _ _ h => by cases h.1)
      obtain ⟨hv9, hu9, hg9⟩ := h9
      replace hu9 := hu9.symm
      subst hu9
      subst hg9
      cases hv9
      refine v_bipush (v := nI 48) dX10_numberOf_50 (by decide) ?_
      refine v_bipush (v := nI 57) dX10_numberOf_52 (by decide) ?_
      refine w_callS hE dX10_numberOf_54 kX10_136 (by rfl) (sX10_in hE) rfl (by decide) (by decide) (by exact Nat.le_of_ble_eq_true rfl) (by omega) (by omega) (fun v9 g9 u9 h9 => ?_) (fun _ _ _ h => by cases h.1)
      obtain ⟨hv9, hu9, hg9⟩ := h9
      replace hu9 := hu9.symm
      replace hg9 := hg9.symm
      subst hu9
      subst hg9
      cases hv9
      refine v_if_neB (tgt := 62) dX10_numberOf_57 (by decide) (fun c57 => ?_) (fun c57 => ?_)
      · obtain ⟨e, q1, q2, q3⟩ := mIn_nat c57 (by decide) (by decide)
        refine v_bipush (v := nI 10) dX10_numberOf_62 (by decide) ?_
        refine v_iload dX10_numberOf_64 (by rfl) ?_
        refine v_imulN dX10_numberOf_66 ?_
        refine v_aload_n dX10_numberOf_67 rfl (by rfl) ?_
        refine v_iload dX10_numberOf_68 (by rfl) ?_
        refine w_callV hE dX10_numberOf_70 kX10_156 mdS_M (by rfl) (by rfl) (sX10_at hE hp (by omega)) rfl (by decide) (by decide) (by exact Nat.le_of_ble_eq_true rfl) (by omega) (by omega) (fun v9 g9 u9 h9 => ?_) (fun _ _ _ h => by cases h.1)
        obtain ⟨hv9, hu9, hg9⟩ := h9
        replace hu9 := hu9.symm
        subst hu9
        subst hg9
        cases hv9
        refine v_eqi (y := nI e) q3 ?_
        refine v_iaddN dX10_numberOf_73 ?_
        refine v_bipush (v := nI 48) dX10_numberOf_74 (by decide) ?_
        refine v_isubN dX10_numberOf_76 (by omega) ?_
        refine v_istore dX10_numberOf_77 (by decide) ?_
        refine v_iincN (y := 1) dX10_numberOf_79 (by rfl) (by decide) (by decide) ?_
        refine v_goto (tgt := 38) dX10_numberOf_82 (by decide) ?_
        have hpw : 10 ^ (n - i + 1) = 10 ^ (n - i) * 10 := Nat.pow_succ _ _
        exact ih (d - 1) (by omega) (n + 1) (10 * v + e - 48) (by omega) (by omega) (by rw [show n + 1 - i = n - i + 1 by omega, hpw]; have h9 := Nat.mul_le_mul_right 10 (show v + 1 ≤ 10 ^ (n - i) from hv); generalize 10 ^ (n - i) * 10 = X at h9 ⊢; omega) (he.trans (by rw [show j - n = (j - (n + 1)) + 1 by omega, mNv, if_pos c57, q3, nI_clamp (by omega)]))
      · refine v_iconst (v := (-1)) dX10_numberOf_60 (by decide) ?_
        refine v_iret dX10_numberOf_61 rfl (by first | rfl | exact nar_bI) ?_
        refine ⟨congrArg (fun x => (Sum.inl (some (Value.int x)) : aO)) ?_, rfl, rfl⟩
        rw [← mNum_eq hij hL, hq, he]
        first
          | (rw [show j - n = (j - (n + 1)) + 1 by omega, mNv, if_neg (by rw [c57]; decide)]; rfl)
          | (rw [show j - n = 0 by omega]; exact (if_pos (by omega)).symm)
          | (rw [show j - n = 0 by omega]; exact (if_neg (by omega)).symm)
  refine v_iload_n dX10_numberOf_0 rfl (by rfl) ?_
  refine v_iload_n dX10_numberOf_1 rfl (by rfl) ?_
  refine v_icmp_eqN (tgt := 30) dX10_numberOf_2 (by decide) (by omega) (by omega) (fun c2 => ?_) (fun c2 => ?_)
  · refine v_iconst (v := (-1)) dX10_numberOf_30 (by decide) ?_
    refine v_iret dX10_numberOf_31 rfl (by first | rfl | exact nar_bI) ?_
    refine ⟨congrArg (fun x => (Sum.inl (some (Value.int x)) : aO)) ?_, rfl, rfl⟩
    rw [← mNum_eq hij hL]
    exact (if_pos (by first | exact Or.inl (by omega) | exact Or.inr (Or.inl ⟨c12, by omega⟩) | exact Or.inr (Or.inr (by omega)))).symm
  · refine v_aload_n dX10_numberOf_5 rfl (by rfl) ?_
    refine v_iload_n dX10_numberOf_6 rfl (by rfl) ?_
    refine w_callV hE dX10_numberOf_7 kX10_156 mdS_M (by rfl) (by rfl) (sX10_at hE hp (by omega)) rfl (by decide) (by decide) (by exact Nat.le_of_ble_eq_true rfl) (by omega) (by omega) (fun v9 g9 u9 h9 => ?_) (fun _ _ _ h => by cases h.1)
    obtain ⟨hv9, hu9, hg9⟩ := h9
    replace hu9 := hu9.symm
    subst hu9
    subst hg9
    cases hv9
    refine v_bipush (v := nI 48) dX10_numberOf_10 (by decide) ?_
    refine v_icmp_ne (tgt := 22) dX10_numberOf_12 (by decide) (fun c12 => ?_) (fun c12 => ?_)
    · refine v_iload_n dX10_numberOf_22 rfl (by rfl) ?_
      refine v_iload_n dX10_numberOf_23 rfl (by rfl) ?_
      refine v_isubN dX10_numberOf_24 (by omega) ?_
      refine v_bipush (v := nI 9) dX10_numberOf_25 (by decide) ?_
      refine v_icmp_leN (tgt := 32) dX10_numberOf_27 (by decide) (by omega) (by omega) (fun c27 => ?_) (fun c27 => ?_)
      · refine v_iconst (v := nI 0) dX10_numberOf_32 (by decide) ?_
        refine v_istore dX10_numberOf_33 (by decide) ?_
        refine v_iload_n dX10_numberOf_35 rfl (by rfl) ?_
        refine v_istore dX10_numberOf_36 (by decide) ?_
        first
          | exact lp (if_neg (fun z => by rcases z with z | z | z; omega; exact c12 z.1; omega)) (by omega) (by omega) (j - i) i 0 (by omega) (by omega) (Nat.one_le_pow _ _ (by decide)) rfl
          | exact lp (if_neg (fun z => by rcases z with z | z | z; omega; omega; omega)) (by omega) (by omega) (j - i) i 0 (by omega) (by omega) (Nat.one_le_pow _ _ (by decide)) rfl
      · refine v_iconst (v := (-1)) dX10_numberOf_30 (by decide) ?_
        refine v_iret dX10_numberOf_31 rfl (by first | rfl | exact nar_bI) ?_
        refine ⟨congrArg (fun x => (Sum.inl (some (Value.int x)) : aO)) ?_, rfl, rfl⟩
        rw [← mNum_eq hij hL]
        exact (if_pos (by first | exact Or.inl (by omega) | exact Or.inr (Or.inl ⟨c12, by omega⟩) | exact Or.inr (Or.inr (by omega)))).symm
    · refine v_iload_n dX10_numberOf_15 rfl (by rfl) ?_
      refine v_iload_n dX10_numberOf_16 rfl (by rfl) ?_
      refine v_isubN dX10_numberOf_17 (by omega) ?_
      refine v_iconst (v := nI 1) dX10_numberOf_18 (by decide) ?_
      refine v_icmp_gtN (tgt := 30) dX10_numberOf_19 (by decide) (by omega) (by omega) (fun c19 => ?_) (fun c19 => ?_)
      · refine v_iconst (v := (-1)) dX10_numberOf_30 (by decide) ?_
        refine v_iret dX10_numberOf_31 rfl (by first | rfl | exact nar_bI) ?_
        refine ⟨congrArg (fun x => (Sum.inl (some (Value.int x)) : aO)) ?_, rfl, rfl⟩
        rw [← mNum_eq hij hL]
        exact (if_pos (by first | exact Or.inl (by omega) | exact Or.inr (Or.inl ⟨c12, by omega⟩) | exact Or.inr (Or.inr (by omega)))).symm
      · refine v_iload_n dX10_numberOf_22 rfl (by rfl) ?_
        refine v_iload_n dX10_numberOf_23 rfl (by rfl) ?_
        refine v_isubN dX10_numberOf_24 (by omega) ?_
        refine v_bipush (v := nI 9) dX10_numberOf_25 (by decide) ?_
        refine v_icmp_leN (tgt := 32) dX10_numberOf_27 (by decide) (by omega) (by omega) (fun c27 => ?_) (fun c27 => ?_)
        · refine v_iconst (v := nI 0) dX10_numberOf_32 (by decide) ?_
          refine v_istore dX10_numberOf_33 (by decide) ?_
          refine v_iload_n dX10_numberOf_35 rfl (by rfl) ?_
          refine v_istore dX10_numberOf_36 (by decide) ?_
          first
            | exact lp (if_neg (fun z => by rcases z with z | z | z; omega; exact c12 z.1; omega)) (by omega) (by omega) (j - i) i 0 (by omega) (by omega) (Nat.one_le_pow _ _ (by decide)) rfl
            | exact lp (if_neg (fun z => by rcases z with z | z | z; omega; omega; omega)) (by omega) (by omega) (j - i) i 0 (by omega) (by omega) (Nat.one_le_pow _ _ (by decide)) rfl
        · refine v_iconst (v := (-1)) dX10_numberOf_30 (by decide) ?_
          refine v_iret dX10_numberOf_31 rfl (by first | rfl | exact nar_bI) ?_
          refine ⟨congrArg (fun x => (Sum.inl (some (Value.int x)) : aO)) ?_, rfl, rfl⟩
          rw [← mNum_eq hij hL]
          exact (if_pos (by first | exact Or.inl (by omega) | exact Or.inr (Or.inl ⟨c12, by omega⟩) | exact Or.inr (Or.inr (by omega)))).symm

def mNL (y : mV) (u : tS) (i : Nat) : mV := if mLE u (u.1 - i) i < u.1 then y else mBad y (nI 1) (nI u.1)
set_option maxRecDepth 100000 in
set_option maxHeartbeats 4000000 in
/-- model: needLine -/
theorem sX10_needLine {E : eN} (hE : eOk E) {f : aH} {t : Nat} {M : Nat} {y : mV} {u : tS} {i : Nat} (hp : mTp y u) (hi : i ≤ 8001) : mT E mX10_needLine 0 0 [.ref M, .int (nI i)] (mdS f M y) t (fun o f' t' => o = .inl (some (.int (nI (mLE u (u.1 - i) i)))) ∧ t' = t ∧ f' = mdS f M (mNL y u i)) := by
  refine mT_of (n := 1) (lo := [some (.ref M), some (.int (nI i)), none]) (by decide) (by exact Nat.le_of_ble_eq_true rfl) rfl rfl ?_
  have hl := mLE_le (u := u) (u.1 - i) i
  have hu := hp.2.1
  refine v_aload_n dX10_needLine_0 rfl (by rfl) ?_
  refine v_iload_n dX10_needLine_1 rfl (by rfl) ?_
  refine w_callV hE dX10_needLine_2 kX10_288 mdS_M (by rfl) (by rfl) (sX10_lineEnd hE hp (by omega) (mTp_o hp)) rfl (by decide) (by decide) (by exact Nat.le_of_ble_eq_true rfl) (by omega) (by omega) (fun v9 g9 u9 h9 => ?_) (fun _ _ _ h => by cases h.1)
  obtain ⟨hv9, hu9, hg9⟩ := h9
  replace hu9 := hu9.symm
  subst hu9
  subst hg9
  cases hv9
  refine v_istore_n dX10_needLine_5 rfl (by decide) ?_
  refine v_aload_n dX10_needLine_6 rfl (by rfl) ?_
  refine v_iload_n dX10_needLine_7 rfl (by rfl) ?_
  refine w_callV hE dX10_needLine_8 kX10_156 mdS_M (by rfl) (by rfl) (sX10_at hE hp (by omega)) rfl (by decide) (by decide) (by exact Nat.le_of_ble_eq_true rfl) (by omega) (by omega) (fun v9 g9 u9 h9 => ?_) (fun _ _ _ h => by cases h.1)
  obtain ⟨hv9, hu9, hg9⟩ := h9
  replace hu9 := hu9.symm
  subst hu9
  subst hg9
  cases hv9
  refine v_iconst (v := (-1)) dX10_needLine_11 (by decide) ?_
  refine v_icmp_ne (tgt := 24) dX10_needLine_12 (by decide) (fun c12 => ?_) (fun c12 => ?_)
  · refine v_iload_n dX10_needLine_24 rfl (by rfl) ?_
    refine v_iret dX10_needLine_25 rfl (by first | rfl | exact nar_bI) ?_
    unfold mNL
    first
      | (rw [if_neg (by have := (mTp_o hp _ (by omega)).mp c12; omega)]; exact ⟨rfl, rfl, rfl⟩)
      | (rw [if_pos (Nat.lt_of_not_le (fun z => c12 ((mTp_o hp _ (by omega)).mpr z)))]; exact ⟨rfl, rfl, rfl⟩)
  · refine v_aload_n dX10_needLine_15 rfl (by rfl) ?_
    refine v_iconst (v := nI 1) dX10_needLine_16 (by decide) ?_
    refine v_aload_n dX10_needLine_17 rfl (by rfl) ?_
    refine v_getf hE dX10_needLine_18 fX10_140 mdS_M (by rfl) ?_
    refine v_eqi (y := nI u.1) hp.1 ?_
    refine w_callV hE dX10_needLine_21 kX10_160 mdS_M (by rfl) (by rfl) (sX10_bad hE) rfl (by decide) (by decide) (by exact Nat.le_of_ble_eq_true rfl) (by omega) (by omega) (fun v9 g9 u9 h9 => ?_) (fun _ _ _ h => by cases h.1)
    obtain ⟨hv9, hu9, hg9⟩ := h9
    replace hu9 := hu9.symm
    replace hg9 := hg9.symm
    subst hu9
    subst hg9
    cases hv9
    refine v_iload_n dX10_needLine_24 rfl (by rfl) ?_
    refine v_iret dX10_needLine_25 rfl (by first | rfl | exact nar_bI) ?_
    unfold mNL
    first
      | (rw [if_neg (by have := (mTp_o hp _ (by omega)).mp c12; omega)]; exact ⟨rfl, rfl, rfl⟩)
      | (rw [if_pos (Nat.lt_of_not_le (fun z => c12 ((mTp_o hp _ (by omega)).mpr z)))]; exact ⟨rfl, rfl, rfl⟩)

def mSR (y : mV) (a b n : Nat) : Bool := decide (nI n = y.1 26 b) && allB (fun k => decide (y.1 25 (26 * a + k) = y.1 25 (26 * b + k))) (n - 0) 0
def mSN (y : mV) (a b n : Nat) : Bool := decide (nI n = y.1 19 b) && allB (fun k => decide (y.1 18 (20 * a + k) = y.1 18 (20 * b + k))) (n - 0) 0
set_option maxRecDepth 100000 in
set_option maxHeartbeats 4000000 in
/-- model: sameRow -/
theorem sX10_sameRow {E : eN} (hE : eOk E) {f : aH} {t : Nat} {M : Nat} {y : mV} {a r b q n : Nat} (hn : y.1 26 (4 * a + r) = nI n) (hn2 : n ≤ 26) (ha : a < 240) (hr : r < 4) (hb : b < 240) (hq : q < 4) : mT E mX10_sameRow 0 0 [.ref M, .int (nI a), .int (nI r), .int (nI b), .int (nI q)] (mdS f M y) t (fun o f' t' => o = .inl (some (.int (bI (mSR y (4 * a + r) (4 * b + q) n)))) ∧ t' = t ∧ f' = mdS f M y) := by
  refine mT_of (n := 2) (lo := [some (.ref M), some (.int (nI a)), some (.int (nI r)), some (.int (nI b)), some (.int (nI q)), none, none]) (by decide) (by exact Nat.le_of_ble_eq_true rfl) rfl rfl ?_
  have lp : ∀ (d : Nat) (k : Nat) (b9 : Bool), k + d = n → mSR y (4 * a + r) (4 * b + q) n = (b9 && allB (fun k => decide (y.1 25 (26 * (4 * a + r) + k) = y.1 25 (26 * (4 * b + q) + k))) (n - k) k) → V E mX10_sameRow 0 0 (fun o f' t' => o = .inl (some (.int (bI (mSR y (4 * a + r) (4 * b + q) n)))) ∧ t' = t ∧ f' = mdS f M y) 34 [some (.ref M), some (.int (nI a)), some (.int (nI r)), some (.int (nI b)), some (.int (nI q)), some (.int (bI b9)), some (.int (nI k))] [] (mdS f M y) t 0 0 := by
    intro d
    induction d using Nat.strongRecOn with
    | _ d ih =>
    intro k b9 hk he
    refine v_iload dX10_sameRow_34 (by rfl) ?_
    refine v_aload_n dX10_sameRow_36 rfl (by rfl) ?_
    refine v_getf hE dX10_sameRow_37 fX10_90 mdS_M (by rfl) ?_
    refine v_iconst (v := nI 4) dX10_sameRow_40 (by decide) ?_
    refine v_iload_n dX10_sameRow_41 rfl (by rfl) ?_
    refine v_imulN dX10_sameRow_42 ?_
    refine v_iload_n dX10_sameRow_43 rfl (by rfl) ?_
    refine v_iaddN dX10_sameRow_44 ?_
    refine m_iald hE (k := 26) dX10_sameRow_45 (by decide) (by decide) rfl (show _ < 960 by omega) (by omega) ?_
    refine v_eqi (y := nI n) hn ?_
    refine v_icmp_geN (tgt := 103) dX10_sameRow_46 (by decide) (by omega) (by omega) (fun c46 => ?_) (fun c46 => ?_)
    · refine v_iload dX10_sameRow_103 (by rfl) ?_
      refine v_iret dX10_sameRow_105 rfl (by first | rfl | exact nar_bI) ?_
      refine ⟨congrArg (fun x => (Sum.inl (some (Value.int x)) : aO)) (congrArg bI ?_), rfl, rfl⟩
      rw [he]
      first | (rw [c51]; rfl) | (rw [allB_0 (by omega), Bool.and_true])
    · refine v_iload dX10_sameRow_49 (by rfl) ?_
      refine v_if_eqB (tgt := 103) dX10_sameRow_51 (by decide) (fun c51 => ?_) (fun c51 => ?_)
      · refine v_iload dX10_sameRow_103 (by rfl) ?_
        refine v_iret dX10_sameRow_105 rfl (by first | rfl | exact nar_bI) ?_
        refine ⟨congrArg (fun x => (Sum.inl (some (Value.int x)) : aO)) (congrArg bI ?_), rfl, rfl⟩
        rw [he]
        first | (rw [c51]; rfl) | (rw [allB_0 (by omega), Bool.and_true])
      · refine v_aload_n dX10_sameRow_54 rfl (by rfl) ?_
        refine v_getf hE dX10_sameRow_55 fX10_87 mdS_M (by rfl) ?_
        refine v_bipush (v := nI 26) dX10_sameRow_58 (by decide) ?_
        refine v_iconst (v := nI 4) dX10_sameRow_60 (by decide) ?_
        refine v_iload_n dX10_sameRow_61 rfl (by rfl) ?_
        refine v_imulN dX10_sameRow_62 ?_
        refine v_iload_n dX10_sameRow_63 rfl (by rfl) ?_
        refine v_iaddN dX10_sameRow_64 ?_
        refine v_imulN dX10_sameRow_65 ?_
        refine v_iload dX10_sameRow_66 (by rfl) ?_
        refine v_iaddN dX10_sameRow_68 ?_
        refine m_bald hE (k := 25) dX10_sameRow_69 (by decide) (by decide) rfl (show _ < 24960 by omega) (by omega) ?_
        refine v_aload_n dX10_sameRow_70 rfl (by rfl) ?_
        refine v_getf hE dX10_sameRow_71 fX10_87 mdS_M (by rfl) ?_
        refine v_bipush (v := nI 26) dX10_sameRow_74 (by decide) ?_
        refine v_iconst (v := nI 4) dX10_sameRow_76 (by decide) ?_
        refine v_iload_n dX10_sameRow_77 rfl (by rfl) ?_
        refine v_imulN dX10_sameRow_78 ?_
        refine v_iload dX10_sameRow_79 (by rfl) ?_
        refine v_iaddN dX10_sameRow_81 ?_
        refine v_imulN dX10_sameRow_82 ?_
        refine v_iload dX10_sameRow_83 (by rfl) ?_
        refine v_iaddN dX10_sameRow_85 ?_
        refine m_bald hE (k := 25) dX10_sameRow_86 (by decide) (by decide) rfl (show _ < 24960 by omega) (by omega) ?_
        refine v_icmp_ne (tgt := 94) dX10_sameRow_87 (by decide) (fun c87 => ?_) (fun c87 => ?_)
        · refine v_iconst (v := nI 0) dX10_sameRow_94 (by decide) ?_
          refine v_istore dX10_sameRow_95 (by decide) ?_
          refine v_iincN (y := 1) dX10_sameRow_97 (by rfl) (by decide) (by decide) ?_
          refine v_goto (tgt := 34) dX10_sameRow_100 (by decide) ?_
          first
            | exact ih (d - 1) (by omega) (k + 1) false (by omega) (he.trans (by rw [c51, allB_f (by omega) (decide_eq_false c87)]; rfl))
            | exact ih (d - 1) (by omega) (k + 1) true (by omega) (he.trans (by rw [c51, allB_s (by omega) (decide_eq_true c87)]))
        · refine v_iconst (v := nI 1) dX10_sameRow_90 (by decide) ?_
          refine v_goto (tgt := 95) dX10_sameRow_91 (by decide) ?_
          refine v_istore dX10_sameRow_95 (by decide) ?_
          refine v_iincN (y := 1) dX10_sameRow_97 (by rfl) (by decide) (by decide) ?_
          refine v_goto (tgt := 34) dX10_sameRow_100 (by decide) ?_
          first
            | exact ih (d - 1) (by omega) (k + 1) false (by omega) (he.trans (by rw [c51, allB_f (by omega) (decide_eq_false c87)]; rfl))
            | exact ih (d - 1) (by omega) (k + 1) true (by omega) (he.trans (by rw [c51, allB_s (by omega) (decide_eq_true c87)]))
  refine v_aload_n dX10_sameRow_0 rfl (by rfl) ?_
  refine v_getf hE dX10_sameRow_1 fX10_90 mdS_M (by rfl) ?_
  refine v_iconst (v := nI 4) dX10_sameRow_4 (by decide) ?_
  refine v_iload_n dX10_sameRow_5 rfl (by rfl) ?_
  refine v_imulN dX10_sameRow_6 ?_
  refine v_iload_n dX10_sameRow_7 rfl (by rfl) ?_
  refine v_iaddN dX10_sameRow_8 ?_
  refine m_iald hE (k := 26) dX10_sameRow_9 (by decide) (by decide) rfl (show _ < 960 by omega) (by omega) ?_
  refine v_eqi (y := nI n) hn ?_
  refine v_aload_n dX10_sameRow_10 rfl (by rfl) ?_
  refine v_getf hE dX10_sameRow_11 fX10_90 mdS_M (by rfl) ?_
  refine v_iconst (v := nI 4) dX10_sameRow_14 (by decide) ?_
  refine v_iload_n dX10_sameRow_15 rfl (by rfl) ?_
  refine v_imulN dX10_sameRow_16 ?_
  refine v_iload dX10_sameRow_17 (by rfl) ?_
  refine v_iaddN dX10_sameRow_19 ?_
  refine m_iald hE (k := 26) dX10_sameRow_20 (by decide) (by decide) rfl (show _ < 960 by omega) (by omega) ?_
  refine v_icmp_ne (tgt := 28) dX10_sameRow_21 (by decide) (fun c21 => ?_) (fun c21 => ?_)
  · refine v_iconst (v := nI 0) dX10_sameRow_28 (by decide) ?_
    refine v_istore dX10_sameRow_29 (by decide) ?_
    refine v_iconst (v := nI 0) dX10_sameRow_31 (by decide) ?_
    refine v_istore dX10_sameRow_32 (by decide) ?_
    first
      | exact lp n 0 true (by omega) (by unfold mSR; rw [decide_eq_true c21])
      | exact lp n 0 false (by omega) (by unfold mSR; rw [decide_eq_false c21])
  · refine v_iconst (v := nI 1) dX10_sameRow_24 (by decide) ?_
    refine v_goto (tgt := 29) dX10_sameRow_25 (by decide) ?_
    refine v_istore dX10_sameRow_29 (by decide) ?_
    refine v_iconst (v := nI 0) dX10_sameRow_31 (by decide) ?_
    refine v_istore dX10_sameRow_32 (by decide) ?_
    first
      | exact lp n 0 true (by omega) (by unfold mSR; rw [decide_eq_true c21])
      | exact lp n 0 false (by omega) (by unfold mSR; rw [decide_eq_false c21])

set_option maxRecDepth 100000 in
set_option maxHeartbeats 4000000 in
/-- model: sameName -/
theorem sX10_sameName {E : eN} (hE : eOk E) {f : aH} {t : Nat} {M : Nat} {y : mV} {a r b q n : Nat} (hn : y.1 19 (3 * a + r) = nI n) (hn2 : n ≤ 20) (ha : a < 4) (hr : r < 3) (hb : b < 4) (hq : q < 3) : mT E mX10_sameName 0 0 [.ref M, .int (nI a), .int (nI r), .int (nI b), .int (nI q)] (mdS f M y) t (fun o f' t' => o = .inl (some (.int (bI (mSN y (3 * a + r) (3 * b + q) n)))) ∧ t' = t ∧ f' = mdS f M y) := by
  refine mT_of (n := 2) (lo := [some (.ref M), some (.int (nI a)), some (.int (nI r)), some (.int (nI b)), some (.int (nI q)), none, none]) (by decide) (by exact Nat.le_of_ble_eq_true rfl) rfl rfl ?_
  have lp : ∀ (d : Nat) (k : Nat) (b9 : Bool), k + d = n → mSN y (3 * a + r) (3 * b + q) n = (b9 && allB (fun k => decide (y.1 18 (20 * (3 * a + r) + k) = y.1 18 (20 * (3 * b + q) + k))) (n - k) k) → V E mX10_sameName 0 0 (fun o f' t' => o = .inl (some (.int (bI (mSN y (3 * a + r) (3 * b + q) n)))) ∧ t' = t ∧ f' = mdS f M y) 34 [some (.ref M), some (.int (nI a)), some (.int (nI r)), some (.int (nI b)), some (.int (nI q)), some (.int (bI b9)), some (.int (nI k))] [] (mdS f M y) t 0 0 := by
    intro d
    induction d using Nat.strongRecOn with
    | _ d ih =>
    intro k b9 hk he
    refine v_iload dX10_sameName_34 (by rfl) ?_
    refine v_aload_n dX10_sameName_36 rfl (by rfl) ?_
    refine v_getf hE dX10_sameName_37 fX10_69 mdS_M (by rfl) ?_
    refine v_iconst (v := nI 3) dX10_sameName_40 (by decide) ?_
    refine v_iload_n dX10_sameName_41 rfl (by rfl) ?_
    refine v_imulN dX10_sameName_42 ?_
    refine v_iload_n dX10_sameName_43 rfl (by rfl) ?_
    refine v_iaddN dX10_sameName_44 ?_
    refine m_iald hE (k := 19) dX10_sameName_45 (by decide) (by decide) rfl (show _ < 12 by omega) (by omega) ?_
    refine v_eqi (y := nI n) hn ?_
    refine v_icmp_geN (tgt := 103) dX10_sameName_46 (by decide) (by omega) (by omega) (fun c46 => ?_) (fun c46 => ?_)
    · refine v_iload dX10_sameName_103 (by rfl) ?_
      refine v_iret dX10_sameName_105 rfl (by first | rfl | exact nar_bI) ?_
      refine ⟨congrArg (fun x => (Sum.inl (some (Value.int x)) : aO)) (congrArg bI ?_), rfl, rfl⟩
      rw [he]
      first | (rw [c51]; rfl) | (rw [allB_0 (by omega), Bool.and_true])
    · refine v_iload dX10_sameName_49 (by rfl) ?_
      refine v_if_eqB (tgt := 103) dX10_sameName_51 (by decide) (fun c51 => ?_) (fun c51 => ?_)
      · refine v_iload dX10_sameName_103 (by rfl) ?_
        refine v_iret dX10_sameName_105 rfl (by first | rfl | exact nar_bI) ?_
        refine ⟨congrArg (fun x => (Sum.inl (some (Value.int x)) : aO)) (congrArg bI ?_), rfl, rfl⟩
        rw [he]
        first | (rw [c51]; rfl) | (rw [allB_0 (by omega), Bool.and_true])
      · refine v_aload_n dX10_sameName_54 rfl (by rfl) ?_
        refine v_getf hE dX10_sameName_55 fX10_66 mdS_M (by rfl) ?_
        refine v_bipush (v := nI 20) dX10_sameName_58 (by decide) ?_
        refine v_iconst (v := nI 3) dX10_sameName_60 (by decide) ?_
        refine v_iload_n dX10_sameName_61 rfl (by rfl) ?_
        refine v_imulN dX10_sameName_62 ?_
        refine v_iload_n dX10_sameName_63 rfl (by rfl) ?_
        refine v_iaddN dX10_sameName_64 ?_
        refine v_imulN dX10_sameName_65 ?_
        refine v_iload dX10_sameName_66 (by rfl) ?_
        refine v_iaddN dX10_sameName_68 ?_
        refine m_bald hE (k := 18) dX10_sameName_69 (by decide) (by decide) rfl (show _ < 240 by omega) (by omega) ?_
        refine v_aload_n dX10_sameName_70 rfl (by rfl) ?_
        refine v_getf hE dX10_sameName_71 fX10_66 mdS_M (by rfl) ?_
        refine v_bipush (v := nI 20) dX10_sameName_74 (by decide) ?_
        refine v_iconst (v := nI 3) dX10_sameName_76 (by decide) ?_
        refine v_iload_n dX10_sameName_77 rfl (by rfl) ?_
        refine v_imulN dX10_sameName_78 ?_
        refine v_iload dX10_sameName_79 (by rfl) ?_
        refine v_iaddN dX10_sameName_81 ?_
        refine v_imulN dX10_sameName_82 ?_
        refine v_iload dX10_sameName_83 (by rfl) ?_
        refine v_iaddN dX10_sameName_85 ?_
        refine m_bald hE (k := 18) dX10_sameName_86 (by decide) (by decide) rfl (show _ < 240 by omega) (by omega) ?_
        refine v_icmp_ne (tgt := 94) dX10_sameName_87 (by decide) (fun c87 => ?_) (fun c87 => ?_)
        · refine v_iconst (v := nI 0) dX10_sameName_94 (by decide) ?_
          refine v_istore dX10_sameName_95 (by decide) ?_
          refine v_iincN (y := 1) dX10_sameName_97 (by rfl) (by decide) (by decide) ?_
          refine v_goto (tgt := 34) dX10_sameName_100 (by decide) ?_
          first
            | exact ih (d - 1) (by omega) (k + 1) false (by omega) (he.trans (by rw [c51, allB_f (by omega) (decide_eq_false c87)]; rfl))
            | exact ih (d - 1) (by omega) (k + 1) true (by omega) (he.trans (by rw [c51, allB_s (by omega) (decide_eq_true c87)]))
        · refine v_iconst (v := nI 1) dX10_sameName_90 (by decide) ?_
          refine v_goto (tgt := 95) dX10_sameName_91 (by decide) ?_
          refine v_istore dX10_sameName_95 (by decide) ?_
          refine v_iincN (y := 1) dX10_sameName_97 (by rfl) (by decide) (by decide) ?_
          refine v_goto (tgt := 34) dX10_sameName_100 (by decide) ?_
          first
            | exact ih (d - 1) (by omega) (k + 1) false (by omega) (he.trans (by rw [c51, allB_f (by omega) (decide_eq_false c87)]; rfl))
            | exact ih (d - 1) (by omega) (k + 1) true (by omega) (he.trans (by rw [c51, allB_s (by omega) (decide_eq_true c87)]))
  refine v_aload_n dX10_sameName_0 rfl (by rfl) ?_
  refine v_getf hE dX10_sameName_1 fX10_69 mdS_M (by rfl) ?_
  refine v_iconst (v := nI 3) dX10_sameName_4 (by decide) ?_
  refine v_iload_n dX10_sameName_5 rfl (by rfl) ?_
  refine v_imulN dX10_sameName_6 ?_
  refine v_iload_n dX10_sameName_7 rfl (by rfl) ?_
  refine v_iaddN dX10_sameName_8 ?_
  refine m_iald hE (k := 19) dX10_sameName_9 (by decide) (by decide) rfl (show _ < 12 by omega) (by omega) ?_
  refine v_eqi (y := nI n) hn ?_
  refine v_aload_n dX10_sameName_10 rfl (by rfl) ?_
  refine v_getf hE dX10_sameName_11 fX10_69 mdS_M (by rfl) ?_
  refine v_iconst (v := nI 3) dX10_sameName_14 (by decide) ?_
  refine v_iload_n dX10_sameName_15 rfl (by rfl) ?_
  refine v_imulN dX10_sameName_16 ?_
  refine v_iload dX10_sameName_17 (by rfl) ?_
  refine v_iaddN dX10_sameName_19 ?_
  refine m_iald hE (k := 19) dX10_sameName_20 (by decide) (by decide) rfl (show _ < 12 by omega) (by omega) ?_
  refine v_icmp_ne (tgt := 28) dX10_sameName_21 (by decide) (fun c21 => ?_) (fun c21 => ?_)
  · refine v_iconst (v := nI 0) dX10_sameName_28 (by decide) ?_
    refine v_istore dX10_sameName_29 (by decide) ?_
    refine v_iconst (v := nI 0) dX10_sameName_31 (by decide) ?_
    refine v_istore dX10_sameName_32 (by decide) ?_
    first
      | exact lp n 0 true (by omega) (by unfold mSN; rw [decide_eq_true c21])
      | exact lp n 0 false (by omega) (by unfold mSN; rw [decide_eq_false c21])
  · refine v_iconst (v := nI 1) dX10_sameName_24 (by decide) ?_
    refine v_goto (tgt := 29) dX10_sameName_25 (by decide) ?_
    refine v_istore dX10_sameName_29 (by decide) ?_
    refine v_iconst (v := nI 0) dX10_sameName_31 (by decide) ?_
    refine v_istore dX10_sameName_32 (by decide) ?_
    first
      | exact lp n 0 true (by omega) (by unfold mSN; rw [decide_eq_true c21])
      | exact lp n 0 false (by omega) (by unfold mSN; rw [decide_eq_false c21])
