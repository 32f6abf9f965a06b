/-! THE LAW: its loop and its run -/
theorem and31 (x : Int32) : ∃ n, n ≤ 31 ∧ x &&& nI 31 = nI n := by
  refine ⟨x.toBitVec.toNat &&& 31, Nat.and_le_right, ?_⟩
  apply Int32.toBitVec_inj.mp
  apply BitVec.eq_of_toNat_eq
  have h : (x.toBitVec.toNat &&& 31) ≤ 31 := Nat.and_le_right
  show ((x &&& nI 31).toBitVec).toNat = (BitVec.ofNat 32 (x.toBitVec.toNat &&& 31)).toNat
  rw [Int32.toBitVec_and, BitVec.toNat_and, BitVec.toNat_ofNat, Nat.mod_eq_of_lt (by omega)]
  rfl
theorem sub5 {L i : Nat} (hL : L ≤ 2560) (hi : i ≤ 2570) : (nI L - nI 5 < nI i) ↔ L < i + 5 := by
  by_cases c : 5 ≤ L
  · have e : nI L - nI 5 = nI (L - 5) := by
      have h2 := nI_add (L - 5) 5
      rw [show L - 5 + 5 = L by omega] at h2
      rw [← h2]
      exact Int32.add_sub_cancel _ _
    rw [e, Int32.lt_iff_toInt_lt, nI_toInt (by omega), nI_toInt (by omega)]
    omega
  · have e : nI L - nI 5 < 0 := by
      rcases (show L = 0 ∨ L = 1 ∨ L = 2 ∨ L = 3 ∨ L = 4 by omega) with h | h | h | h | h <;> (subst h; decide)
    exact ⟨fun _ => by omega, fun _ => Int32.lt_of_lt_of_le e (nI_pos' (by omega))⟩
set_option maxRecDepth 100000 in
set_option maxHeartbeats 4000000 in
theorem lw_loop {E : eN} (hE : eOk E) (hS : eSt E) (hT : eTh E) {D M O b L : Nat} {xs : Nat → Int32} (hX : va_X b L xs (S0 E) (S0 E).heap) (hL : L ≤ 2560) : ∀ (d i : Nat) (f : aH) (t bc bs : Nat) (x : dV) (y : mV), i + d = L + 5 → lwS f D M O t x y → 5 * (L - i) ≤ bc → 31 * (L - i) ≤ bs → V E mL_law 601024 7293034 lwQ 23 [some (.ref b), some (.ref D), some (.ref M), some (.ref O), some (.int (nI i)), none, none] [] f t bc bs := by
  intro d
  induction d using Nat.strongRecOn with
  | _ d ih =>
  intro i f t bc bs x y hd hs hbc hbs
  refine v_iload dL_law_23 (by rfl) ?_
  refine v_aload_n dL_law_25 rfl (by rfl) ?_
  refine v_slen hX dL_law_26 ?_
  refine v_iconst (v := nI 5) dL_law_27 (by decide) ?_
  refine v_isub dL_law_28 ?_
  refine v_icmp_gt (tgt := 1368) dL_law_29 (by decide) (fun c29 => ?_) (fun c29 => ?_)
  · refine v_iconst (v := 1) dL_law_1368 (by decide) ?_
    refine v_iret dL_law_1369 rfl rfl ?_
    exact rfl
  · have c5 : i + 5 ≤ L := by
      rw [sub5 hL (by omega)] at c29
      omega
    refine v_aload_n dL_law_32 rfl (by rfl) ?_
    refine v_iload dL_law_33 (by rfl) ?_
    refine v_sld hX dL_law_35 (by omega) (by omega) ?_
    refine v_bipush (v := nI 31) dL_law_36 (by decide) ?_
    refine v_iand dL_law_38 ?_
    have kont : ∀ (f' : aH) (t' : Nat) (x' : dV) (y' : mV) (bc' bs' : Nat), lwS f' D M O t' x' y' → bc ≤ bc' + 5 → bs ≤ bs' + 31 → V E mL_law 601024 7293034 lwQ 1362 [some (.ref b), some (.ref D), some (.ref M), some (.ref O), some (.int (nI i)), none, none] [] f' t' bc' bs' := by
      intro f' t' x' y' bc' bs' h1 h2 h3
      refine v_iincN (y := 5) dL_law_1362 (by rfl) (by decide) (by decide) ?_
      refine v_goto (tgt := 23) dL_law_1365 (by decide) ?_
      exact ih (d - 5) (by omega) (i + 5) f' t' bc' bs' x' y' (by omega) h1 (by omega) (by omega)
    obtain ⟨z, hz1, hz⟩ := and31 (xs i)
    rcases (show z = 0 ∨ z = 1 ∨ z = 2 ∨ z = 3 ∨ z = 4 ∨ z = 5 ∨ z = 6 ∨ z = 7 ∨ z = 8 ∨ z = 9 ∨ z = 10 ∨ z = 11 ∨ z = 12 ∨ z = 13 ∨ z = 14 ∨ z = 15 ∨ z = 16 ∨ z = 17 ∨ z = 18 ∨ z = 19 ∨ z = 20 ∨ z = 21 ∨ 22 ≤ z by omega) with e | e | e | e | e | e | e | e | e | e | e | e | e | e | e | e | e | e | e | e | e | e | e
    · refine v_eqi (y := nI 0) (hz.trans (congrArg nI e)) ?_
      refine v_tableIn (off := 101) (tgt := 140) dL_law_39 (by decide) (by decide) (by decide) (by decide) ?_
      exact lw_feed hE hS hT hX hL (by omega) hs (by omega) (by omega) kont
    · refine v_eqi (y := nI 1) (hz.trans (congrArg nI e)) ?_
      refine v_tableIn (off := 201) (tgt := 240) dL_law_39 (by decide) (by decide) (by decide) (by decide) ?_
      exact lw_reference hE hS hT hX hL (by omega) hs (by omega) (by omega) kont
    · refine v_eqi (y := nI 2) (hz.trans (congrArg nI e)) ?_
      refine v_tableIn (off := 214) (tgt := 253) dL_law_39 (by decide) (by decide) (by decide) (by decide) ?_
      exact lw_read hE hS hT hX hL (by omega) hs (by omega) (by omega) kont
    · refine v_eqi (y := nI 3) (hz.trans (congrArg nI e)) ?_
      refine v_tableIn (off := 270) (tgt := 309) dL_law_39 (by decide) (by decide) (by decide) (by decide) ?_
      exact lw_place hE hS hT hX hL (by omega) hs (by omega) (by omega) kont
    · refine v_eqi (y := nI 4) (hz.trans (congrArg nI e)) ?_
      refine v_tableIn (off := 283) (tgt := 322) dL_law_39 (by decide) (by decide) (by decide) (by decide) ?_
      exact lw_sequence hE hS hT hX hL (by omega) hs (by omega) (by omega) kont
    · refine v_eqi (y := nI 5) (hz.trans (congrArg nI e)) ?_
      refine v_tableIn (off := 351) (tgt := 390) dL_law_39 (by decide) (by decide) (by decide) (by decide) ?_
      exact lw_letter hE hS hT hX hL (by omega) hs (by omega) (by omega) kont
    · refine v_eqi (y := nI 6) (hz.trans (congrArg nI e)) ?_
      refine v_tableIn (off := 419) (tgt := 458) dL_law_39 (by decide) (by decide) (by decide) (by decide) ?_
      exact lw_table hE hS hT hX hL (by omega) hs (by omega) (by omega) kont
    · refine v_eqi (y := nI 7) (hz.trans (congrArg nI e)) ?_
      refine v_tableIn (off := 487) (tgt := 526) dL_law_39 (by decide) (by decide) (by decide) (by decide) ?_
      exact lw_record hE hS hT hX hL (by omega) hs (by omega) (by omega) kont
    · refine v_eqi (y := nI 8) (hz.trans (congrArg nI e)) ?_
      refine v_tableIn (off := 567) (tgt := 606) dL_law_39 (by decide) (by decide) (by decide) (by decide) ?_
      exact lw_row hE hS hT hX hL (by omega) hs (by omega) (by omega) kont
    · refine v_eqi (y := nI 9) (hz.trans (congrArg nI e)) ?_
      refine v_tableIn (off := 659) (tgt := 698) dL_law_39 (by decide) (by decide) (by decide) (by decide) ?_
      exact lw_call hE hS hT hX hL (by omega) hs (by omega) (by omega) kont
    · refine v_eqi (y := nI 10) (hz.trans (congrArg nI e)) ?_
      refine v_tableIn (off := 751) (tgt := 790) dL_law_39 (by decide) (by decide) (by decide) (by decide) ?_
      exact lw_normalise hE hS hT hX hL (by omega) hs (by omega) (by omega) kont
    · refine v_eqi (y := nI 11) (hz.trans (congrArg nI e)) ?_
      refine v_tableIn (off := 807) (tgt := 846) dL_law_39 (by decide) (by decide) (by decide) (by decide) ?_
      exact lw_split hE hS hT hX hL (by omega) hs (by omega) (by omega) kont
    · refine v_eqi (y := nI 12) (hz.trans (congrArg nI e)) ?_
      refine v_tableIn (off := 863) (tgt := 902) dL_law_39 (by decide) (by decide) (by decide) (by decide) ?_
      exact lw_join hE hS hT hX hL (by omega) hs (by omega) (by omega) kont
    · refine v_eqi (y := nI 13) (hz.trans (congrArg nI e)) ?_
      refine v_tableIn (off := 919) (tgt := 958) dL_law_39 (by decide) (by decide) (by decide) (by decide) ?_
      exact lw_sort hE hS hT hX hL (by omega) hs (by omega) (by omega) kont
    · refine v_eqi (y := nI 14) (hz.trans (congrArg nI e)) ?_
      refine v_tableIn (off := 975) (tgt := 1014) dL_law_39 (by decide) (by decide) (by decide) (by decide) ?_
      exact lw_merge hE hS hT hX hL (by omega) hs (by omega) (by omega) kont
    · refine v_eqi (y := nI 15) (hz.trans (congrArg nI e)) ?_
      refine v_tableIn (off := 988) (tgt := 1027) dL_law_39 (by decide) (by decide) (by decide) (by decide) ?_
      exact lw_apply hE hS hT hX hL (by omega) hs (by omega) (by omega) kont
    · refine v_eqi (y := nI 16) (hz.trans (congrArg nI e)) ?_
      refine v_tableIn (off := 1080) (tgt := 1119) dL_law_39 (by decide) (by decide) (by decide) (by decide) ?_
      exact lw_carried hE hS hT hX hL (by omega) hs (by omega) (by omega) kont
    · refine v_eqi (y := nI 17) (hz.trans (congrArg nI e)) ?_
      refine v_tableIn (off := 1105) (tgt := 1144) dL_law_39 (by decide) (by decide) (by decide) (by decide) ?_
      exact lw_back hE hS hT hX hL (by omega) hs (by omega) (by omega) kont
    · refine v_eqi (y := nI 18) (hz.trans (congrArg nI e)) ?_
      refine v_tableIn (off := 1130) (tgt := 1169) dL_law_39 (by decide) (by decide) (by decide) (by decide) ?_
      exact lw_same hE hS hT hX hL (by omega) hs (by omega) (by omega) kont
    · refine v_eqi (y := nI 19) (hz.trans (congrArg nI e)) ?_
      refine v_tableIn (off := 1229) (tgt := 1268) dL_law_39 (by decide) (by decide) (by decide) (by decide) ?_
      exact lw_write hE hS hT hX hL (by omega) hs (by omega) (by omega) kont
    · refine v_eqi (y := nI 20) (hz.trans (congrArg nI e)) ?_
      refine v_tableIn (off := 1285) (tgt := 1324) dL_law_39 (by decide) (by decide) (by decide) (by decide) ?_
      exact lw_out hE hS hT hX hL (by omega) hs (by omega) (by omega) kont
    · refine v_eqi (y := nI 21) (hz.trans (congrArg nI e)) ?_
      refine v_tableIn (off := 1310) (tgt := 1349) dL_law_39 (by decide) (by decide) (by decide) (by decide) ?_
      exact lw_again hE hS hT hX hL (by omega) hs (by omega) (by omega) kont
    · refine v_eqi (y := nI z) hz ?_
      refine v_tableOut (tgt := 1362) dL_law_39 (Or.inr (by rw [nI_toInt (by omega)]; omega)) (by decide) ?_
      exact kont f t x y bc bs hs (by omega) (by omega)
set_option maxRecDepth 100000 in
set_option maxHeartbeats 4000000 in
/-- from the entry -/
theorem lw_run {E : eN} (hE : eOk E) (hS : eSt E) (hT : eTh E) {b L : Nat} {xs : Nat → Int32} (hX : va_X b L xs (S0 E) (S0 E).heap) (hL : L ≤ 2560) {D : Nat} : V E mL_law 601024 7293034 lwQ 0 [some (.ref b), none, none, none, none, none, none] [] (fun _ => uk) D 601024 7293034 := by
  refine v_new hE (ci := 9) (N := 10) (fs := [.null, .null, .null, .null, .null, .null, .null, .null, .null, .int 0]) dL_law_0 nL_8 rfl (by decide) (by omega) (by omega) ?_
  refine v_dup dL_law_3 rfl ?_
  refine w_callI hE dL_law_4 kL_64 rfl (by rfl) (sX9_init hE (va_up_self _ _ _) rfl) rfl (fun _ _ _ h => by cases h.1) (by decide) (by decide) (by exact Nat.le_of_ble_eq_true rfl) (by omega) (by omega) (fun v9 g9 u9 h9 => ?_)
  obtain ⟨hv9, hu9, hd9, hf9⟩ := h9
  cases hv9
  subst hu9
  refine v_astore_n dL_law_7 rfl (by decide) ?_
  refine v_new hE (ci := 10) (N := 53) (fs := [.int 0, .null, .int 0, .int 0, .int 0, .null, .null, .null, .null, .null, .null, .null, .int 0, .null, .null, .null, .null, .null, .null, .null, .null, .null, .null, .null, .null, .null, .null, .null, .null, .null, .null, .null, .null, .null, .null, .null, .null, .int 0, .int 0, .int 0, .int 0, .null, .null, .int 0, .int 0, .int 0, .null, .null, .null, .null, .null, .int 0, .int 0]) dL_law_8 nL_65 rfl (by decide) (by omega) (by omega) ?_
  refine v_dup dL_law_11 rfl ?_
  refine w_callI hE dL_law_12 kL_67 rfl (by rfl) (sX10_init hE (va_up_self _ _ _) rfl) rfl (fun _ _ _ h => by cases h.1) (by decide) (by decide) (by exact Nat.le_of_ble_eq_true rfl) (by omega) (by omega) (fun v8 g8 u8 h8 => ?_)
  obtain ⟨hv8, hu8, hf8⟩ := h8
  cases hv8
  subst hu8
  subst hf8
  refine v_astore_n dL_law_15 rfl (by decide) ?_
  refine v_iconst (v := nI 1) dL_law_16 (by decide) ?_
  refine v_newJ hE dL_law_17 (by omega) (by omega) (by omega) ?_
  refine v_astore_n dL_law_19 rfl (by decide) ?_
  refine v_iconst (v := nI 0) dL_law_20 (by decide) ?_
  refine v_istore dL_law_21 (by decide) ?_
  refine lw_loop hE hS hT (D := D) (M := D + 1323) (O := D + 1323 + 40) hX hL (L + 5) 0 _ _ _ _ (dNew D) mNew (by omega) ?_ (by omega) (by omega)
  refine ⟨dOk_new, mRel_new, ?_, ?_, ⟨_, va_up_self _ _ _⟩, by omega, by omega, by omega⟩
  · exact dkP_c dOk_new.1 hd9 (fun q h1 h2 => (va_up_ne _ _ (by omega)).trans ((mdS_ne (by omega)).trans (va_up_ne _ _ (by omega))))
  · exact (lw_mk mdS_S (fun q h1 h2 => va_up_ne _ _ (by omega))).symm
