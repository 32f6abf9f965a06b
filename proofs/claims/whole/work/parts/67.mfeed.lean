theorem b255 (z : Int32) : z.toInt8.toInt32 &&& nI 255 = z &&& nI 255 := by
  apply Int32.toBitVec_inj.mp
  rw [Int32.toBitVec_and, Int32.toBitVec_and]
  apply BitVec.eq_of_getLsbD_eq
  intro i hi
  rw [BitVec.getLsbD_and, BitVec.getLsbD_and]
  by_cases h : i < 8
  · have e : (z.toInt8.toInt32).toBitVec.getLsbD i = z.toBitVec.getLsbD i := by
      show ((z.toBitVec.signExtend 8).signExtend 32).getLsbD i = _
      rw [BitVec.getLsbD_signExtend, BitVec.getLsbD_signExtend]
      simp [h, hi]
    rw [e]
  · have e : (nI 255).toBitVec.getLsbD i = false := by
      show (BitVec.ofNat 32 255).getLsbD i = false
      rw [BitVec.getLsbD_ofNat]
      have : Nat.testBit 255 i = false := Nat.testBit_lt_two_pow (Nat.lt_of_lt_of_le (by decide : 255 < 2 ^ 8) (Nat.pow_le_pow_right (by decide) (by omega)))
      rw [this, Bool.and_false]
    rw [e, Bool.and_false, Bool.and_false]
theorem i8_nar (z : Int32) : vp_nar .byte z.toInt8.toInt32 = z.toInt8.toInt32 := by
  show z.toInt8.toInt32.toInt8.toInt32 = z.toInt8.toInt32
  rw [Int8.toInt8_toInt32]
def mAns (M : Nat) (f : aH) (R : Option Int32 × dV) (f' : aH) : Prop := ∃ y', f' = mdS f M y' ∧ mRel R.2 y' ∧ y'.2 0 = bI R.1.isNone
/-- the tape alone has changed -/
theorem mRel_t {x : dV} {y : mV} {u : tS} {T : Nat → Int32} {v : Int32} (h : mRel x y) (hu : u.1 ≤ 8000) (h1 : ∀ k, k < u.1 → u.2.1 k = T k &&& nI 255) (h2 : ∀ i, vp_nar .byte (T i) = T i) : mRel (xT x (va_up (dT x) 0 u)) (va_up y.1 1 T, va_up (va_up y.2 0 v) 2 (nI u.1)) := by
  obtain ⟨a1, a2, a3, a4, a5, a6, a7⟩ := h
  exact ⟨aNw_1 a1 (fun _ => h2) (fun z => by cases z), ⟨rfl, hu, h1⟩, a3, a4, a5, a6, a7⟩
theorem mRel_0 {x : dV} {y : mV} {v : Int32} (h : mRel x y) : mRel x (y.1, va_up y.2 0 v) := h
set_option maxRecDepth 100000 in
set_option maxHeartbeats 4000000 in
/-- model: feed -/
theorem sX10_feed {E : eN} (hE : eOk E) {f : aH} {t : Nat} {M D : Nat} {y : mV} {x : dV} {q : Int32} {w : Int64} (hR : mRel x y) (hI : dOk D x) : mT E mX10_feed 0 0 [.ref M, .int q, .long w] (mdS f M y) t (fun o f' t' => o = .inl (some (.int ((pFeed x q w).1.getD (nI 0)))) ∧ t' = t ∧ mAns M f (pFeed x q w) f') := by
  refine mT_of (n := 1) (lo := [some (.ref M), some (.int q), some (.long w), none, none]) (by decide) (by exact Nat.le_of_ble_eq_true rfl) rfl rfl ?_
  have hu8 := hR.2.1.2.1
  have lp : ∀ m : Nat, m ≤ 8 → (dT x 0).1 + m ≤ 8000 → pFeed x (nI m) w = (some (nI (fdL w (m - 0) 0 (dT x 0)).1), xT x (va_up (dT x) 0 (fdL w (m - 0) 0 (dT x 0)))) → ∀ (d : Nat) (n : Nat) (T : Nat → Int32) (u : tS), n + d = m → u.1 = (dT x 0).1 + n → (∀ k, k < u.1 → u.2.1 k = T k &&& nI 255) → (∀ i, vp_nar .byte (T i) = T i) → fdL w (m - 0) 0 (dT x 0) = fdL w (m - n) n u → V E mX10_feed 0 0 (fun o f' t' => o = .inl (some (.int ((pFeed x (nI m) w).1.getD (nI 0)))) ∧ t' = t ∧ mAns M f (pFeed x (nI m) w) f') 39 [some (.ref M), some (.int (nI m)), some (.long w), none, some (.int (nI n))] [] (mdS f M (va_up y.1 1 T, va_up (va_up y.2 0 (bI (! true))) 2 (nI u.1))) t 0 0 := by
    intro m hm8 hms hp d
    induction d using Nat.strongRecOn with
    | _ d ih =>
    intro n T u hn hu hn1 hn2 he
    refine v_iload dX10_feed_39 (by rfl) ?_
    refine v_iload_n dX10_feed_41 rfl (by rfl) ?_
    refine v_icmp_geN (tgt := 79) dX10_feed_42 (by decide) (by omega) (by omega) (fun c42 => ?_) (fun c42 => ?_)
    · refine v_aload_n dX10_feed_79 rfl (by rfl) ?_
      refine v_getf hE dX10_feed_80 fX10_140 mdS_M (by rfl) ?_
      refine v_iret dX10_feed_83 rfl (by first | rfl | exact nar_bI) ?_
      refine ⟨?_, rfl, ?_⟩
      · rw [hp, he, show m - n = 0 by omega]
        rfl
      · rw [hp, he, show m - n = 0 by omega]
        exact ⟨_, rfl, mRel_t hR (by show u.1 ≤ 8000; omega) hn1 hn2, rfl⟩
    · refine v_aload_n dX10_feed_45 rfl (by rfl) ?_
      refine v_getf hE dX10_feed_46 fX10_7 mdS_M (by rfl) ?_
      refine v_aload_n dX10_feed_49 rfl (by rfl) ?_
      refine v_getf hE dX10_feed_50 fX10_140 mdS_M (by rfl) ?_
      refine v_eqi (y := nI u.1) rfl ?_
      refine v_lload_n dX10_feed_53 rfl (by rfl) ?_
      refine v_bipush (v := nI 8) dX10_feed_54 (by decide) ?_
      refine v_iload dX10_feed_56 (by rfl) ?_
      refine v_imulN dX10_feed_58 ?_
      refine v_lshr dX10_feed_59 rfl ?_
      refine v_l2i dX10_feed_60 rfl ?_
      refine v_i2b dX10_feed_61 rfl ?_
      refine m_bast hE (k := 1) dX10_feed_62 (by decide) (by decide) rfl (show _ < 8000 by omega) (by omega) ?_
      rw [i8_nar]
      refine v_aload_n dX10_feed_63 rfl (by rfl) ?_
      refine v_dup dX10_feed_64 rfl ?_
      refine v_getf hE dX10_feed_65 fX10_140 mdS_M (by rfl) ?_
      refine v_eqi (y := nI u.1) rfl ?_
      refine v_iconst (v := nI 1) dX10_feed_68 (by decide) ?_
      refine v_iaddN dX10_feed_69 ?_
      refine m_put hE (j := 2) dX10_feed_70 fX10_140 (by exact Nat.le_of_ble_eq_true rfl) (by rfl) (by rfl) (by rfl) (by rfl) ?_
      refine v_iincN (y := 1) dX10_feed_73 (by rfl) (by decide) (by decide) ?_
      refine v_goto (tgt := 39) dX10_feed_76 (by decide) ?_
      refine v_hp (show _ = mdS f M (va_up y.1 1 (upd T u.1 ((w >>> ((nI (8 * n)).toInt64 &&& 63)).toInt32.toInt8.toInt32)), va_up (va_up y.2 0 (bI (! true))) 2 (nI (tAdd u (fdO w n)).1)) from ?_) ?_
      · unfold tAdd
        rw [if_pos (by omega)]
        show mdS f M (va_up (va_up y.1 1 T) 1 (upd T u.1 ((w >>> ((nI (8 * n)).toInt64 &&& 63)).toInt32.toInt8.toInt32)), va_up (va_up (va_up y.2 0 (bI (! true))) 2 (nI u.1)) 2 (nI (u.1 + 1))) = _
        rw [va_up_up, va_up_up]
      · have ht : tAdd u (fdO w n) = (u.1 + 1, upd u.2.1 u.1 (fdO w n), u.2.2) := if_pos (by omega)
        refine ih (d - 1) (by omega) (n + 1) (upd T u.1 ((w >>> ((nI (8 * n)).toInt64 &&& 63)).toInt32.toInt8.toInt32)) (tAdd u (fdO w n)) (by omega) (by rw [ht]; show u.1 + 1 = _; omega) ?_ (upd_nar hn2 (i8_nar _)) (he.trans (by rw [show m - n = (m - (n + 1)) + 1 by omega]; rfl))
        rw [ht]
        intro k hk
        have hk : k < u.1 + 1 := hk
        show upd u.2.1 u.1 (fdO w n) k = upd T u.1 ((w >>> ((nI (8 * n)).toInt64 &&& 63)).toInt32.toInt8.toInt32) k &&& nI 255
        by_cases e : k = u.1
        · rw [e, updS, updS, b255]
          rfl
        · rw [updN e, updN e]
          exact hn1 k (by omega)
  refine v_aload_n dX10_feed_0 rfl (by rfl) ?_
  refine v_iload_n dX10_feed_1 rfl (by rfl) ?_
  refine v_iconst (v := nI 1) dX10_feed_2 (by decide) ?_
  refine v_bipush (v := nI 8) dX10_feed_3 (by decide) ?_
  refine w_callS hE dX10_feed_5 kX10_136 (by rfl) (sX10_in hE) rfl (by decide) (by decide) (by exact Nat.le_of_ble_eq_true rfl) (by omega) (by omega) (fun v9 g9 u9 h9 => ?_) (fun _ _ _ h => by cases h.1)
  obtain ⟨hv9, hu9, hg9⟩ := h9
  replace hu9 := hu9.symm
  replace hg9 := hg9.symm
  subst hu9
  subst hg9
  cases hv9
  refine v_if_eqB (tgt := 27) dX10_feed_8 (by decide) (fun c8 => ?_) (fun c8 => ?_)
  · refine v_iconst (v := bI false) dX10_feed_27 (by decide) ?_
    refine w_callV hE dX10_feed_28 kX10_143 mdS_M (by rfl) (by rfl) (sX10_goes hE) rfl (by decide) (by decide) (by exact Nat.le_of_ble_eq_true rfl) (by omega) (by omega) (fun v9 g9 u9 h9 => ?_) (fun _ _ _ h => by cases h.1)
    obtain ⟨hv9, hu9, hg9⟩ := h9
    replace hu9 := hu9.symm
    subst hu9
    subst hg9
    cases hv9
    refine v_if_neN (tgt := 36) dX10_feed_31 (by decide) (by omega) (fun c31 => ?_) (fun c31 => ?_)
    · exact absurd c31 (by decide)
    · refine v_iconst (v := nI 0) dX10_feed_34 (by decide) ?_
      refine v_iret dX10_feed_35 rfl (by first | rfl | exact nar_bI) ?_
      first
        | (have hA : pFeed x (nI m) w = (none, x) := by
             unfold pFeed
             rw [hix]
             exact if_pos (Or.inr (by omega))
           rw [hA]
           exact ⟨rfl, rfl, _, rfl, mRel_0 hR, rfl⟩)
        | (have hA : pFeed x q w = (none, x) := by
             refine fd_none ?_
             unfold mIn at c8
             by_cases h1 : q < nI 1
             · exact Or.inl h1
             · refine Or.inr (fun h2 => ?_)
               rw [decide_eq_true (Int32.not_lt.mp h1), decide_eq_true h2] at c8
               exact Bool.noConfusion c8
           rw [hA]
           exact ⟨rfl, rfl, _, rfl, mRel_0 hR, rfl⟩)
  · obtain ⟨m, m1, m2, m3⟩ := mIn_nat c8 (by decide) (by decide)
    subst m3
    have hix : ix 9 (nI m) = some m := ix_nI (by omega) (by decide)
    refine v_aload_n dX10_feed_11 rfl (by rfl) ?_
    refine v_getf hE dX10_feed_12 fX10_140 mdS_M (by rfl) ?_
    refine v_eqi (y := nI (dT x 0).1) hR.2.1.1 ?_
    refine v_iload_n dX10_feed_15 rfl (by rfl) ?_
    refine v_iaddN dX10_feed_16 ?_
    refine v_sipush (v := nI 8000) dX10_feed_17 (by decide) ?_
    refine v_icmp_gtN (tgt := 27) dX10_feed_20 (by decide) (by omega) (by omega) (fun c20 => ?_) (fun c20 => ?_)
    · refine v_iconst (v := bI false) dX10_feed_27 (by decide) ?_
      refine w_callV hE dX10_feed_28 kX10_143 mdS_M (by rfl) (by rfl) (sX10_goes hE) rfl (by decide) (by decide) (by exact Nat.le_of_ble_eq_true rfl) (by omega) (by omega) (fun v9 g9 u9 h9 => ?_) (fun _ _ _ h => by cases h.1)
      obtain ⟨hv9, hu9, hg9⟩ := h9
      replace hu9 := hu9.symm
      subst hu9
      subst hg9
      cases hv9
      refine v_if_neN (tgt := 36) dX10_feed_31 (by decide) (by omega) (fun c31 => ?_) (fun c31 => ?_)
      · exact absurd c31 (by decide)
      · refine v_iconst (v := nI 0) dX10_feed_34 (by decide) ?_
        refine v_iret dX10_feed_35 rfl (by first | rfl | exact nar_bI) ?_
        first
          | (have hA : pFeed x (nI m) w = (none, x) := by
               unfold pFeed
               rw [hix]
               exact if_pos (Or.inr (by omega))
             rw [hA]
             exact ⟨rfl, rfl, _, rfl, mRel_0 hR, rfl⟩)
          | (have hA : pFeed x q w = (none, x) := by
               refine fd_none ?_
               unfold mIn at c8
               by_cases h1 : q < nI 1
               · exact Or.inl h1
               · refine Or.inr (fun h2 => ?_)
                 rw [decide_eq_true (Int32.not_lt.mp h1), decide_eq_true h2] at c8
                 exact Bool.noConfusion c8
             rw [hA]
             exact ⟨rfl, rfl, _, rfl, mRel_0 hR, rfl⟩)
    · refine v_iconst (v := bI true) dX10_feed_23 (by decide) ?_
      refine v_goto (tgt := 28) dX10_feed_24 (by decide) ?_
      refine w_callV hE dX10_feed_28 kX10_143 mdS_M (by rfl) (by rfl) (sX10_goes hE) rfl (by decide) (by decide) (by exact Nat.le_of_ble_eq_true rfl) (by omega) (by omega) (fun v9 g9 u9 h9 => ?_) (fun _ _ _ h => by cases h.1)
      obtain ⟨hv9, hu9, hg9⟩ := h9
      replace hu9 := hu9.symm
      subst hu9
      subst hg9
      cases hv9
      refine v_if_neN (tgt := 36) dX10_feed_31 (by decide) (by omega) (fun c31 => ?_) (fun c31 => ?_)
      · refine v_iconst (v := nI 0) dX10_feed_36 (by decide) ?_
        refine v_istore dX10_feed_37 (by decide) ?_
        have hp : pFeed x (nI m) w = (some (nI (fdL w (m - 0) 0 (dT x 0)).1), xT x (va_up (dT x) 0 (fdL w (m - 0) 0 (dT x 0)))) := by
          unfold pFeed
          rw [hix]
          exact if_neg (by omega)
        refine v_hp (show _ = mdS f M (va_up y.1 1 (y.1 1), va_up (va_up y.2 0 (bI (! true))) 2 (nI (dT x 0).1)) from ?_) ?_
        · rw [← hR.2.1.1]
          exact congrArg (mdS f M) (Prod.ext (va_up_id rfl).symm (va_up_id rfl).symm)
        · exact lp m (by omega) (by omega) hp m 0 (y.1 1) (dT x 0) (by omega) (by omega) hR.2.1.2.2 (fun i => hR.1.1 1 i rfl) rfl
      · exact absurd c31 (by decide)

def mCq (g h : Nat → Int32) (n : Nat) : Nat → Int32 := fun i => if i < n then g i else h i
theorem mCq_s {g h : Nat → Int32} {n : Nat} : upd (mCq g h n) n (g n) = mCq g h (n + 1) := by
  funext i
  by_cases e : i = n
  · subst e
    rw [updS]
    exact (if_pos (by omega)).symm
  · rw [updN e]
    unfold mCq
    by_cases h : i < n
    · rw [if_pos h, if_pos (by omega)]
    · rw [if_neg h, if_neg (by omega)]
theorem mCq_0 {g h : Nat → Int32} : mCq g h 0 = h := funext fun i => if_neg (by omega)
set_option maxRecDepth 100000 in
set_option maxHeartbeats 4000000 in
/-- model: again -/
theorem sX10_again {E : eN} (hE : eOk E) {f : aH} {t : Nat} {M D : Nat} {y : mV} {x : dV} (hR : mRel x y) (hI : dOk D x) : mT E mX10_again 0 0 [.ref M] (mdS f M y) t (fun o f' t' => o = .inl (some (.int ((pAga x).1.getD (nI 0)))) ∧ t' = t ∧ mAns M f (pAga x) f') := by
  refine mT_of (n := 1) (lo := [some (.ref M), none]) (by decide) (by exact Nat.le_of_ble_eq_true rfl) rfl rfl ?_
  have hO := hR.2.2.2.2.1
  have hO8 := hO.2.1
  have lp : ∀ (d : Nat) (k : Nat), k + d = (dT x 1).1 → V E mX10_again 0 0 (fun o f' t' => o = .inl (some (.int ((pAga x).1.getD (nI 0)))) ∧ t' = t ∧ mAns M f (pAga x) f') 15 [some (.ref M), some (.int (nI k))] [] (mdS f M (va_up y.1 1 (mCq (y.1 32) (y.1 1) k), va_up (va_up y.2 0 (nI 0)) 2 (nI (dT x 1).1))) t 0 0 := by
    intro d
    induction d using Nat.strongRecOn with
    | _ d ih =>
    intro k hk
    refine v_iload_n dX10_again_15 rfl (by rfl) ?_
    refine v_aload_n dX10_again_16 rfl (by rfl) ?_
    refine v_getf hE dX10_again_17 fX10_382 mdS_M (by rfl) ?_
    refine v_eqi (y := nI (dT x 1).1) hO.1 ?_
    refine v_icmp_geN (tgt := 41) dX10_again_20 (by decide) (by omega) (by omega) (fun c20 => ?_) (fun c20 => ?_)
    · refine v_aload_n dX10_again_41 rfl (by rfl) ?_
      refine v_getf hE dX10_again_42 fX10_140 mdS_M (by rfl) ?_
      refine v_iret dX10_again_45 rfl (by first | rfl | exact nar_bI) ?_
      refine ⟨rfl, rfl, _, rfl, ?_, rfl⟩
      refine mRel_t hR (u := ((dT x 1).1, va_cpy (dT x 1).2.1 (dT x 0).2.1 0 0 (dT x 1).1, 0)) hO.2.1 (fun j hj => ?_) (fun i => ?_)
      · have hj : j < (dT x 1).1 := hj
        show va_cpy (dT x 1).2.1 (dT x 0).2.1 0 0 (dT x 1).1 j = mCq (y.1 32) (y.1 1) k j &&& nI 255
        have e1 : mCq (y.1 32) (y.1 1) k j = y.1 32 j := if_pos (by omega)
        rw [e1, ← hO.2.2 j hj]
        unfold va_cpy
        rw [if_pos (by omega)]
        exact congrArg _ (by omega)
      · unfold mCq
        split
        · exact hR.1.1 32 i rfl
        · exact hR.1.1 1 i rfl
    · refine v_aload_n dX10_again_23 rfl (by rfl) ?_
      refine v_getf hE dX10_again_24 fX10_7 mdS_M (by rfl) ?_
      refine v_iload_n dX10_again_27 rfl (by rfl) ?_
      refine v_aload_n dX10_again_28 rfl (by rfl) ?_
      refine v_getf hE dX10_again_29 fX10_109 mdS_M (by rfl) ?_
      refine v_iload_n dX10_again_32 rfl (by rfl) ?_
      refine m_bald hE (k := 32) dX10_again_33 (by decide) (by decide) rfl (show _ < 8200 by omega) (by omega) ?_
      refine v_eqi (y := y.1 32 k) rfl ?_
      refine m_bast hE (k := 1) dX10_again_34 (by decide) (by decide) rfl (show _ < 8000 by omega) (by omega) ?_
      rw [hR.1.1 32 _ rfl]
      refine v_iincN (y := 1) dX10_again_35 (by rfl) (by decide) (by decide) ?_
      refine v_goto (tgt := 15) dX10_again_38 (by decide) ?_
      refine v_hp (show _ = mdS f M (va_up y.1 1 (mCq (y.1 32) (y.1 1) (k + 1)), va_up (va_up y.2 0 (nI 0)) 2 (nI (dT x 1).1)) from by rw [← mCq_s]; exact congrArg (mdS f M) (Prod.ext va_up_up rfl)) ?_
      exact ih (d - 1) (by omega) (k + 1) (by omega)
  refine v_aload_n dX10_again_0 rfl (by rfl) ?_
  refine v_iconst (v := nI 0) dX10_again_1 (by decide) ?_
  refine m_put hE (j := 0) dX10_again_2 fX10_133 (by exact Nat.le_of_ble_eq_true rfl) (by rfl) (by rfl) (by rfl) (by rfl) ?_
  refine v_aload_n dX10_again_5 rfl (by rfl) ?_
  refine v_aload_n dX10_again_6 rfl (by rfl) ?_
  refine v_getf hE dX10_again_7 fX10_382 mdS_M (by rfl) ?_
  refine v_eqi (y := nI (dT x 1).1) hO.1 ?_
  refine m_put hE (j := 2) dX10_again_10 fX10_140 (by exact Nat.le_of_ble_eq_true rfl) (by rfl) (by rfl) (by rfl) (by rfl) ?_
  refine v_iconst (v := nI 0) dX10_again_13 (by decide) ?_
  refine v_istore_n dX10_again_14 rfl (by decide) ?_
  refine v_hp (show _ = mdS f M (va_up y.1 1 (mCq (y.1 32) (y.1 1) 0), va_up (va_up y.2 0 (nI 0)) 2 (nI (dT x 1).1)) from by rw [mCq_0]; exact congrArg (mdS f M) (Prod.ext (va_up_id rfl).symm rfl)) ?_
  exact lp (dT x 1).1 0 (by omega)
