def mLt (x : Int32) : Int32 := if mLtr x = nI 65 ∨ mLtr x = nI 67 ∨ mLtr x = nI 71 ∨ mLtr x = nI 84 ∨ mLtr x = nI 78 then mLtr x else -1
theorem mIn_nat {x : Int32} {a b : Nat} (h : mIn x (nI a) (nI b) = true) (ha : a < 2 ^ 31) (hb : b < 2 ^ 31) : ∃ n, a ≤ n ∧ n ≤ b ∧ x = nI n := by
  unfold mIn at h
  rw [Bool.and_eq_true, decide_eq_true_eq, decide_eq_true_eq] at h
  have h1 := Int32.le_iff_toInt_le.mp h.1
  have h2 := Int32.le_iff_toInt_le.mp h.2
  rw [nI_toInt ha] at h1
  rw [nI_toInt hb] at h2
  refine ⟨x.toInt.toNat, by omega, by omega, ?_⟩
  apply Int32.toInt_inj.mp
  rw [nI_toInt (by omega)]
  omega
theorem mIn_of {n a b : Nat} (h1 : a ≤ n) (h2 : n ≤ b) (hb : b < 2 ^ 31) : mIn (nI n) (nI a) (nI b) = true := by
  unfold mIn
  rw [Bool.and_eq_true, decide_eq_true_eq, decide_eq_true_eq]
  constructor
  · apply Int32.le_iff_toInt_le.mpr
    rw [nI_toInt (by omega), nI_toInt (by omega)]
    omega
  · apply Int32.le_iff_toInt_le.mpr
    rw [nI_toInt (by omega), nI_toInt (by omega)]
    omega
theorem mLt_lo : ∀ n, n < 123 → 97 ≤ n → mLt (nI n) = ltr (nI n) := by decide +kernel
theorem mLt_eq {x : Int32} : mLt x = ltr x := by
  by_cases h : mIn x (nI 97) (nI 122) = true
  · obtain ⟨n, h1, h2, h3⟩ := mIn_nat h (by decide) (by decide)
    rw [h3]
    exact mLt_lo n (by omega) h1
  · have hx : mLtr x = x := if_neg h
    have k : ∀ n : Nat, 97 ≤ n → n ≤ 122 → x ≠ nI n := fun n h1 h2 e => h (by rw [e]; exact mIn_of h1 h2 (by decide))
    unfold mLt ltr
    rw [hx, if_neg (k 97 (by decide) (by decide)), if_neg (k 99 (by decide) (by decide)), if_neg (k 103 (by decide) (by decide)), if_neg (k 110 (by decide) (by decide)), if_neg (k 116 (by decide) (by decide))]
    by_cases e1 : x = nI 65
    · rw [if_pos e1, if_pos (Or.inl e1), e1]
    · by_cases e2 : x = nI 67
      · rw [if_neg e1, if_pos e2, if_pos (Or.inr (Or.inl e2)), e2]
      · by_cases e3 : x = nI 71
        · rw [if_neg e1, if_neg e2, if_pos e3, if_pos (Or.inr (Or.inr (Or.inl e3))), e3]
        · by_cases e4 : x = nI 78
          · rw [if_neg e1, if_neg e2, if_neg e3, if_pos e4, if_pos (Or.inr (Or.inr (Or.inr (Or.inr e4)))), e4]
          · by_cases e5 : x = nI 84
            · rw [if_neg e1, if_neg e2, if_neg e3, if_neg e4, if_pos e5, if_pos (Or.inr (Or.inr (Or.inr (Or.inl e5)))), e5]
            · rw [if_neg e1, if_neg e2, if_neg e3, if_neg e4, if_neg e5, if_neg (fun z => by rcases z with z | z | z | z | z; exact e1 z; exact e2 z; exact e3 z; exact e5 z; exact e4 z)]
set_option maxRecDepth 100000 in
set_option maxHeartbeats 4000000 in
/-- model: letterOf -/
theorem sX10_letterOf {E : eN} (hE : eOk E) {f : aH} {t : Nat} {x : Int32}  : mT E mX10_letterOf 0 0 [.int x] f t (fun o f' t' => o = .inl (some (.int (ltr x))) ∧ t' = t ∧ f' = f) := by
  refine mT_of (n := 1) (lo := [some (.int x), none]) (by decide) (by exact Nat.le_of_ble_eq_true rfl) rfl rfl ?_
  refine v_iload_n dX10_letterOf_0 rfl (by rfl) ?_
  refine v_bipush (v := nI 97) dX10_letterOf_1 (by decide) ?_
  refine v_bipush (v := nI 122) dX10_letterOf_3 (by decide) ?_
  refine w_callS hE dX10_letterOf_5 kX10_136 (by rfl) (sX10_in hE) rfl (by decide) (by decide) (by exact Nat.le_of_ble_eq_true rfl) (by omega) (by omega) (fun v9 g9 u9 h9 => ?_) (fun _ _ _ h => by cases h.1)
  obtain ⟨hv9, hu9, hg9⟩ := h9
  replace hu9 := hu9.symm
  replace hg9 := hg9.symm
  subst hu9
  subst hg9
  cases hv9
  refine v_if_eqB (tgt := 18) dX10_letterOf_8 (by decide) (fun c8 => ?_) (fun c8 => ?_)
  · refine v_iload_n dX10_letterOf_18 rfl (by rfl) ?_
    refine v_istore_n dX10_letterOf_19 rfl (by decide) ?_
    refine v_iload_n dX10_letterOf_20 rfl (by rfl) ?_
    refine v_bipush (v := nI 65) dX10_letterOf_21 (by decide) ?_
    refine v_icmp_eq (tgt := 50) dX10_letterOf_23 (by decide) (fun c23 => ?_) (fun c23 => ?_)
    · refine v_iload_n dX10_letterOf_50 rfl (by rfl) ?_
      refine v_goto (tgt := 55) dX10_letterOf_51 (by decide) ?_
      refine v_iret dX10_letterOf_55 rfl (by first | rfl | exact nar_bI) ?_
      refine ⟨congrArg (fun x => (Sum.inl (some (Value.int x)) : aO)) ?_, rfl, rfl⟩
      rw [← mLt_eq]
      unfold mLt mLtr
      first
        | (rw [if_pos c8]; first | (rw [if_pos (Or.inl c23)]; done) | (rw [if_pos (Or.inr (Or.inl c29))]; done) | (rw [if_pos (Or.inr (Or.inr (Or.inl c35)))]; done) | (rw [if_pos (Or.inr (Or.inr (Or.inr (Or.inl c41))))]; done) | (rw [if_pos (Or.inr (Or.inr (Or.inr (Or.inr c47))))]; done) | (rw [if_neg (fun z => by rcases z with z | z | z | z | z; exact c23 z; exact c29 z; exact c35 z; exact c41 z; exact c47 z)]))
        | (rw [if_neg (show ¬ mIn x (nI 97) (nI 122) = true by rw [c8]; decide)]; first | (rw [if_pos (Or.inl c23)]; done) | (rw [if_pos (Or.inr (Or.inl c29))]; done) | (rw [if_pos (Or.inr (Or.inr (Or.inl c35)))]; done) | (rw [if_pos (Or.inr (Or.inr (Or.inr (Or.inl c41))))]; done) | (rw [if_pos (Or.inr (Or.inr (Or.inr (Or.inr c47))))]; done) | (rw [if_neg (fun z => by rcases z with z | z | z | z | z; exact c23 z; exact c29 z; exact c35 z; exact c41 z; exact c47 z)]))
    · refine v_iload_n dX10_letterOf_26 rfl (by rfl) ?_
      refine v_bipush (v := nI 67) dX10_letterOf_27 (by decide) ?_
      refine v_icmp_eq (tgt := 50) dX10_letterOf_29 (by decide) (fun c29 => ?_) (fun c29 => ?_)
      · refine v_iload_n dX10_letterOf_50 rfl (by rfl) ?_
        refine v_goto (tgt := 55) dX10_letterOf_51 (by decide) ?_
        refine v_iret dX10_letterOf_55 rfl (by first | rfl | exact nar_bI) ?_
        refine ⟨congrArg (fun x => (Sum.inl (some (Value.int x)) : aO)) ?_, rfl, rfl⟩
        rw [← mLt_eq]
        unfold mLt mLtr
        first
          | (rw [if_pos c8]; first | (rw [if_pos (Or.inl c23)]; done) | (rw [if_pos (Or.inr (Or.inl c29))]; done) | (rw [if_pos (Or.inr (Or.inr (Or.inl c35)))]; done) | (rw [if_pos (Or.inr (Or.inr (Or.inr (Or.inl c41))))]; done) | (rw [if_pos (Or.inr (Or.inr (Or.inr (Or.inr c47))))]; done) | (rw [if_neg (fun z => by rcases z with z | z | z | z | z; exact c23 z; exact c29 z; exact c35 z; exact c41 z; exact c47 z)]))
          | (rw [if_neg (show ¬ mIn x (nI 97) (nI 122) = true by rw [c8]; decide)]; first | (rw [if_pos (Or.inl c23)]; done) | (rw [if_pos (Or.inr (Or.inl c29))]; done) | (rw [if_pos (Or.inr (Or.inr (Or.inl c35)))]; done) | (rw [if_pos (Or.inr (Or.inr (Or.inr (Or.inl c41))))]; done) | (rw [if_pos (Or.inr (Or.inr (Or.inr (Or.inr c47))))]; done) | (rw [if_neg (fun z => by rcases z with z | z | z | z | z; exact c23 z; exact c29 z; exact c35 z; exact c41 z; exact c47 z)]))
      · refine v_iload_n dX10_letterOf_32 rfl (by rfl) ?_
        refine v_bipush (v := nI 71) dX10_letterOf_33 (by decide) ?_
        refine v_icmp_eq (tgt := 50) dX10_letterOf_35 (by decide) (fun c35 => ?_) (fun c35 => ?_)
        · refine v_iload_n dX10_letterOf_50 rfl (by rfl) ?_
          refine v_goto (tgt := 55) dX10_letterOf_51 (by decide) ?_
          refine v_iret dX10_letterOf_55 rfl (by first | rfl | exact nar_bI) ?_
          refine ⟨congrArg (fun x => (Sum.inl (some (Value.int x)) : aO)) ?_, rfl, rfl⟩
          rw [← mLt_eq]
          unfold mLt mLtr
          first
            | (rw [if_pos c8]; first | (rw [if_pos (Or.inl c23)]; done) | (rw [if_pos (Or.inr (Or.inl c29))]; done) | (rw [if_pos (Or.inr (Or.inr (Or.inl c35)))]; done) | (rw [if_pos (Or.inr (Or.inr (Or.inr (Or.inl c41))))]; done) | (rw [if_pos (Or.inr (Or.inr (Or.inr (Or.inr c47))))]; done) | (rw [if_neg (fun z => by rcases z with z | z | z | z | z; exact c23 z; exact c29 z; exact c35 z; exact c41 z; exact c47 z)]))
            | (rw [if_neg (show ¬ mIn x (nI 97) (nI 122) = true by rw [c8]; decide)]; first | (rw [if_pos (Or.inl c23)]; done) | (rw [if_pos (Or.inr (Or.inl c29))]; done) | (rw [if_pos (Or.inr (Or.inr (Or.inl c35)))]; done) | (rw [if_pos (Or.inr (Or.inr (Or.inr (Or.inl c41))))]; done) | (rw [if_pos (Or.inr (Or.inr (Or.inr (Or.inr c47))))]; done) | (rw [if_neg (fun z => by rcases z with z | z | z | z | z; exact c23 z; exact c29 z; exact c35 z; exact c41 z; exact c47 z)]))
        · refine v_iload_n dX10_letterOf_38 rfl (by rfl) ?_
          refine v_bipush (v := nI 84) dX10_letterOf_39 (by decide) ?_
          refine v_icmp_eq (tgt := 50) dX10_letterOf_41 (by decide) (fun c41 => ?_) (fun c41 => ?_)
          · refine v_iload_n dX10_letterOf_50 rfl (by rfl) ?_
            refine v_goto (tgt := 55) dX10_letterOf_51 (by decide) ?_
            refine v_iret dX10_letterOf_55 rfl (by first | rfl | exact nar_bI) ?_
            refine ⟨congrArg (fun x => (Sum.inl (some (Value.int x)) : aO)) ?_, rfl, rfl⟩
            rw [← mLt_eq]
            unfold mLt mLtr
            first
              | (rw [if_pos c8]; first | (rw [if_pos (Or.inl c23)]; done) | (rw [if_pos (Or.inr (Or.inl c29))]; done) | (rw [if_pos (Or.inr (Or.inr (Or.inl c35)))]; done) | (rw [if_pos (Or.inr (Or.inr (Or.inr (Or.inl c41))))]; done) | (rw [if_pos (Or.inr (Or.inr (Or.inr (Or.inr c47))))]; done) | (rw [if_neg (fun z => by rcases z with z | z | z | z | z; exact c23 z; exact c29 z; exact c35 z; exact c41 z; exact c47 z)]))
              | (rw [if_neg (show ¬ mIn x (nI 97) (nI 122) = true by rw [c8]; decide)]; first | (rw [if_pos (Or.inl c23)]; done) | (rw [if_pos (Or.inr (Or.inl c29))]; done) | (rw [if_pos (Or.inr (Or.inr (Or.inl c35)))]; done) | (rw [if_pos (Or.inr (Or.inr (Or.inr (Or.inl c41))))]; done) | (rw [if_pos (Or.inr (Or.inr (Or.inr (Or.inr c47))))]; done) | (rw [if_neg (fun z => by rcases z with z | z | z | z | z; exact c23 z; exact c29 z; exact c35 z; exact c41 z; exact c47 z)]))
          · refine v_iload_n dX10_letterOf_44 rfl (by rfl) ?_
            refine v_bipush (v := nI 78) dX10_letterOf_45 (by decide) ?_
            refine v_icmp_ne (tgt := 54) dX10_letterOf_47 (by decide) (fun c47 => ?_) (fun c47 => ?_)
            · refine v_iconst (v := (-1)) dX10_letterOf_54 (by decide) ?_
              refine v_iret dX10_letterOf_55 rfl (by first | rfl | exact nar_bI) ?_
              refine ⟨congrArg (fun x => (Sum.inl (some (Value.int x)) : aO)) ?_, rfl, rfl⟩
              rw [← mLt_eq]
              unfold mLt mLtr
              first
                | (rw [if_pos c8]; first | (rw [if_pos (Or.inl c23)]; done) | (rw [if_pos (Or.inr (Or.inl c29))]; done) | (rw [if_pos (Or.inr (Or.inr (Or.inl c35)))]; done) | (rw [if_pos (Or.inr (Or.inr (Or.inr (Or.inl c41))))]; done) | (rw [if_pos (Or.inr (Or.inr (Or.inr (Or.inr c47))))]; done) | (rw [if_neg (fun z => by rcases z with z | z | z | z | z; exact c23 z; exact c29 z; exact c35 z; exact c41 z; exact c47 z)]))
                | (rw [if_neg (show ¬ mIn x (nI 97) (nI 122) = true by rw [c8]; decide)]; first | (rw [if_pos (Or.inl c23)]; done) | (rw [if_pos (Or.inr (Or.inl c29))]; done) | (rw [if_pos (Or.inr (Or.inr (Or.inl c35)))]; done) | (rw [if_pos (Or.inr (Or.inr (Or.inr (Or.inl c41))))]; done) | (rw [if_pos (Or.inr (Or.inr (Or.inr (Or.inr c47))))]; done) | (rw [if_neg (fun z => by rcases z with z | z | z | z | z; exact c23 z; exact c29 z; exact c35 z; exact c41 z; exact c47 z)]))
            · refine v_iload_n dX10_letterOf_50 rfl (by rfl) ?_
              refine v_goto (tgt := 55) dX10_letterOf_51 (by decide) ?_
              refine v_iret dX10_letterOf_55 rfl (by first | rfl | exact nar_bI) ?_
              refine ⟨congrArg (fun x => (Sum.inl (some (Value.int x)) : aO)) ?_, rfl, rfl⟩
              rw [← mLt_eq]
              unfold mLt mLtr
              first
                | (rw [if_pos c8]; first | (rw [if_pos (Or.inl c23)]; done) | (rw [if_pos (Or.inr (Or.inl c29))]; done) | (rw [if_pos (Or.inr (Or.inr (Or.inl c35)))]; done) | (rw [if_pos (Or.inr (Or.inr (Or.inr (Or.inl c41))))]; done) | (rw [if_pos (Or.inr (Or.inr (Or.inr (Or.inr c47))))]; done) | (rw [if_neg (fun z => by rcases z with z | z | z | z | z; exact c23 z; exact c29 z; exact c35 z; exact c41 z; exact c47 z)]))
                | (rw [if_neg (show ¬ mIn x (nI 97) (nI 122) = true by rw [c8]; decide)]; first | (rw [if_pos (Or.inl c23)]; done) | (rw [if_pos (Or.inr (Or.inl c29))]; done) | (rw [if_pos (Or.inr (Or.inr (Or.inl c35)))]; done) | (rw [if_pos (Or.inr (Or.inr (Or.inr (Or.inl c41))))]; done) | (rw [if_pos (Or.inr (Or.inr (Or.inr (Or.inr c47))))]; done) | (rw [if_neg (fun z => by rcases z with z | z | z | z | z; exact c23 z; exact c29 z; exact c35 z; exact c41 z; exact c47 z)]))
  · refine v_iload_n dX10_letterOf_11 rfl (by rfl) ?_
    refine v_bipush (v := nI 32) dX10_letterOf_12 (by decide) ?_
    refine v_isub dX10_letterOf_14 ?_
    refine v_goto (tgt := 19) dX10_letterOf_15 (by decide) ?_
    refine v_istore_n dX10_letterOf_19 rfl (by decide) ?_
    refine v_iload_n dX10_letterOf_20 rfl (by rfl) ?_
    refine v_bipush (v := nI 65) dX10_letterOf_21 (by decide) ?_
    refine v_icmp_eq (tgt := 50) dX10_letterOf_23 (by decide) (fun c23 => ?_) (fun c23 => ?_)
    · refine v_iload_n dX10_letterOf_50 rfl (by rfl) ?_
      refine v_goto (tgt := 55) dX10_letterOf_51 (by decide) ?_
      refine v_iret dX10_letterOf_55 rfl (by first | rfl | exact nar_bI) ?_
      refine ⟨congrArg (fun x => (Sum.inl (some (Value.int x)) : aO)) ?_, rfl, rfl⟩
      rw [← mLt_eq]
      unfold mLt mLtr
      first
        | (rw [if_pos c8]; first | (rw [if_pos (Or.inl c23)]; done) | (rw [if_pos (Or.inr (Or.inl c29))]; done) | (rw [if_pos (Or.inr (Or.inr (Or.inl c35)))]; done) | (rw [if_pos (Or.inr (Or.inr (Or.inr (Or.inl c41))))]; done) | (rw [if_pos (Or.inr (Or.inr (Or.inr (Or.inr c47))))]; done) | (rw [if_neg (fun z => by rcases z with z | z | z | z | z; exact c23 z; exact c29 z; exact c35 z; exact c41 z; exact c47 z)]))
        | (rw [if_neg (show ¬ mIn x (nI 97) (nI 122) = true by rw [c8]; decide)]; first | (rw [if_pos (Or.inl c23)]; done) | (rw [if_pos (Or.inr (Or.inl c29))]; done) | (rw [if_pos (Or.inr (Or.inr (Or.inl c35)))]; done) | (rw [if_pos (Or.inr (Or.inr (Or.inr (Or.inl c41))))]; done) | (rw [if_pos (Or.inr (Or.inr (Or.inr (Or.inr c47))))]; done) | (rw [if_neg (fun z => by rcases z with z | z | z | z | z; exact c23 z; exact c29 z; exact c35 z; exact c41 z; exact c47 z)]))
    · refine v_iload_n dX10_letterOf_26 rfl (by rfl) ?_
      refine v_bipush (v := nI 67) dX10_letterOf_27 (by decide) ?_
      refine v_icmp_eq (tgt := 50) dX10_letterOf_29 (by decide) (fun c29 => ?_) (fun c29 => ?_)
      · refine v_iload_n dX10_letterOf_50 rfl (by rfl) ?_
        refine v_goto (tgt := 55) dX10_letterOf_51 (by decide) ?_
        refine v_iret dX10_letterOf_55 rfl (by first | rfl | exact nar_bI) ?_
        refine ⟨congrArg (fun x => (Sum.inl (some (Value.int x)) : aO)) ?_, rfl, rfl⟩
        rw [← mLt_eq]
        unfold mLt mLtr
        first
          | (rw [if_pos c8]; first | (rw [if_pos (Or.inl c23)]; done) | (rw [if_pos (Or.inr (Or.inl c29))]; done) | (rw [if_pos (Or.inr (Or.inr (Or.inl c35)))]; done) | (rw [if_pos (Or.inr (Or.inr (Or.inr (Or.inl c41))))]; done) | (rw [if_pos (Or.inr (Or.inr (Or.inr (Or.inr c47))))]; done) | (rw [if_neg (fun z => by rcases z with z | z | z | z | z; exact c23 z; exact c29 z; exact c35 z; exact c41 z; exact c47 z)]))
          | (rw [if_neg (show ¬ mIn x (nI 97) (nI 122) = true by rw [c8]; decide)]; first | (rw [if_pos (Or.inl c23)]; done) | (rw [if_pos (Or.inr (Or.inl c29))]; done) | (rw [if_pos (Or.inr (Or.inr (Or.inl c35)))]; done) | (rw [if_pos (Or.inr (Or.inr (Or.inr (Or.inl c41))))]; done) | (rw [if_pos (Or.inr (Or.inr (Or.inr (Or.inr c47))))]; done) | (rw [if_neg (fun z => by rcases z with z | z | z | z | z; exact c23 z; exact c29 z; exact c35 z; exact c41 z; exact c47 z)]))
      · refine v_iload_n dX10_letterOf_32 rfl (by rfl) ?_
        refine v_bipush (v := nI 71) dX10_letterOf_33 (by decide) ?_
        refine v_icmp_eq (tgt := 50) dX10_letterOf_35 (by decide) (fun c35 => ?_) (fun c35 => ?_)
        · refine v_iload_n dX10_letterOf_50 rfl (by rfl) ?_
          refine v_goto (tgt := 55) dX10_letterOf_51 (by decide) ?_
          refine v_iret dX10_letterOf_55 rfl (by first | rfl | exact nar_bI) ?_
          refine ⟨congrArg (fun x => (Sum.inl (some (Value.int x)) : aO)) ?_, rfl, rfl⟩
          rw [← mLt_eq]
          unfold mLt mLtr
          first
            | (rw [if_pos c8]; first | (rw [if_pos (Or.inl c23)]; done) | (rw [if_pos (Or.inr (Or.inl c29))]; done) | (rw [if_pos (Or.inr (Or.inr (Or.inl c35)))]; done) | (rw [if_pos (Or.inr (Or.inr (Or.inr (Or.inl c41))))]; done) | (rw [if_pos (Or.inr (Or.inr (Or.inr (Or.inr c47))))]; done) | (rw [if_neg (fun z => by rcases z with z | z | z | z | z; exact c23 z; exact c29 z; exact c35 z; exact c41 z; exact c47 z)]))
            | (rw [if_neg (show ¬ mIn x (nI 97) (nI 122) = true by rw [c8]; decide)]; first | (rw [if_pos (Or.inl c23)]; done) | (rw [if_pos (Or.inr (Or.inl c29))]; done) | (rw [if_pos (Or.inr (Or.inr (Or.inl c35)))]; done) | (rw [if_pos (Or.inr (Or.inr (Or.inr (Or.inl c41))))]; done) | (rw [if_pos (Or.inr (Or.inr (Or.inr (Or.inr c47))))]; done) | (rw [if_neg (fun z => by rcases z with z | z | z | z | z; exact c23 z; exact c29 z; exact c35 z; exact c41 z; exact c47 z)]))
        · refine v_iload_n dX10_letterOf_38 rfl (by rfl) ?_
          refine v_bipush (v := nI 84) dX10_letterOf_39 (by decide) ?_
          refine v_icmp_eq (tgt := 50) dX10_letterOf_41 (by decide) (fun c41 => ?_) (fun c41 => ?_)
          · refine v_iload_n dX10_letterOf_50 rfl (by rfl) ?_
            refine v_goto (tgt := 55) dX10_letterOf_51 (by decide) ?_
            refine v_iret dX10_letterOf_55 rfl (by first | rfl | exact nar_bI) ?_
            refine ⟨congrArg (fun x => (Sum.inl (some (Value.int x)) : aO)) ?_, rfl, rfl⟩
            rw [← mLt_eq]
            unfold mLt mLtr
            first
              | (rw [if_pos c8]; first | (rw [if_pos (Or.inl c23)]; done) | (rw [if_pos (Or.inr (Or.inl c29))]; done) | (rw [if_pos (Or.inr (Or.inr (Or.inl c35)))]; done) | (rw [if_pos (Or.inr (Or.inr (Or.inr (Or.inl c41))))]; done) | (rw [if_pos (Or.inr (Or.inr (Or.inr (Or.inr c47))))]; done) | (rw [if_neg (fun z => by rcases z with z | z | z | z | z; exact c23 z; exact c29 z; exact c35 z; exact c41 z; exact c47 z)]))
              | (rw [if_neg (show ¬ mIn x (nI 97) (nI 122) = true by rw [c8]; decide)]; first | (rw [if_pos (Or.inl c23)]; done) | (rw [if_pos (Or.inr (Or.inl c29))]; done) | (rw [if_pos (Or.inr (Or.inr (Or.inl c35)))]; done) | (rw [if_pos (Or.inr (Or.inr (Or.inr (Or.inl c41))))]; done) | (rw [if_pos (Or.inr (Or.inr (Or.inr (Or.inr c47))))]; done) | (rw [if_neg (fun z => by rcases z with z | z | z | z | z; exact c23 z; exact c29 z; exact c35 z; exact c41 z; exact c47 z)]))
          · refine v_iload_n dX10_letterOf_44 rfl (by rfl) ?_
            refine v_bipush (v := nI 78) dX10_letterOf_45 (by decide) ?_
            refine v_icmp_ne (tgt := 54) dX10_letterOf_47 (by decide) (fun c47 => ?_) (fun c47 => ?_)
            · refine v_iconst (v := (-1)) dX10_letterOf_54 (by decide) ?_
              refine v_iret dX10_letterOf_55 rfl (by first | rfl | exact nar_bI) ?_
              refine ⟨congrArg (fun x => (Sum.inl (some (Value.int x)) : aO)) ?_, rfl, rfl⟩
              rw [← mLt_eq]
              unfold mLt mLtr
              first
                | (rw [if_pos c8]; first | (rw [if_pos (Or.inl c23)]; done) | (rw [if_pos (Or.inr (Or.inl c29))]; done) | (rw [if_pos (Or.inr (Or.inr (Or.inl c35)))]; done) | (rw [if_pos (Or.inr (Or.inr (Or.inr (Or.inl c41))))]; done) | (rw [if_pos (Or.inr (Or.inr (Or.inr (Or.inr c47))))]; done) | (rw [if_neg (fun z => by rcases z with z | z | z | z | z; exact c23 z; exact c29 z; exact c35 z; exact c41 z; exact c47 z)]))
                | (rw [if_neg (show ¬ mIn x (nI 97) (nI 122) = true by rw [c8]; decide)]; first | (rw [if_pos (Or.inl c23)]; done) | (rw [if_pos (Or.inr (Or.inl c29))]; done) | (rw [if_pos (Or.inr (Or.inr (Or.inl c35)))]; done) | (rw [if_pos (Or.inr (Or.inr (Or.inr (Or.inl c41))))]; done) | (rw [if_pos (Or.inr (Or.inr (Or.inr (Or.inr c47))))]; done) | (rw [if_neg (fun z => by rcases z with z | z | z | z | z; exact c23 z; exact c29 z; exact c35 z; exact c41 z; exact c47 z)]))
            · refine v_iload_n dX10_letterOf_50 rfl (by rfl) ?_
              refine v_goto (tgt := 55) dX10_letterOf_51 (by decide) ?_
              refine v_iret dX10_letterOf_55 rfl (by first | rfl | exact nar_bI) ?_
              refine ⟨congrArg (fun x => (Sum.inl (some (Value.int x)) : aO)) ?_, rfl, rfl⟩
              rw [← mLt_eq]
              unfold mLt mLtr
              first
                | (rw [if_pos c8]; first | (rw [if_pos (Or.inl c23)]; done) | (rw [if_pos (Or.inr (Or.inl c29))]; done) | (rw [if_pos (Or.inr (Or.inr (Or.inl c35)))]; done) | (rw [if_pos (Or.inr (Or.inr (Or.inr (Or.inl c41))))]; done) | (rw [if_pos (Or.inr (Or.inr (Or.inr (Or.inr c47))))]; done) | (rw [if_neg (fun z => by rcases z with z | z | z | z | z; exact c23 z; exact c29 z; exact c35 z; exact c41 z; exact c47 z)]))
                | (rw [if_neg (show ¬ mIn x (nI 97) (nI 122) = true by rw [c8]; decide)]; first | (rw [if_pos (Or.inl c23)]; done) | (rw [if_pos (Or.inr (Or.inl c29))]; done) | (rw [if_pos (Or.inr (Or.inr (Or.inl c35)))]; done) | (rw [if_pos (Or.inr (Or.inr (Or.inr (Or.inl c41))))]; done) | (rw [if_pos (Or.inr (Or.inr (Or.inr (Or.inr c47))))]; done) | (rw [if_neg (fun z => by rcases z with z | z | z | z | z; exact c23 z; exact c29 z; exact c35 z; exact c41 z; exact c47 z)]))

def mBgP (u : tS) (i k n : Nat) : Bool := decide (mOct u (i + n) = nI ((mTx k).getD n 0))
def mBeg (u : tS) (i j k : Nat) : Bool := decide (mSgn k ≤ j - i) && allB (mBgP u i k) (mSgn k - 0) 0
def mIsT (u : tS) (i j k : Nat) : Bool := decide (j - i = mSgn k) && mBeg u i j k
theorem mOct_in {u : tS} {n : Nat} (h : n < u.1) (hu : u.1 ≤ 8000) : mOct u n = u.2.1 n := ocAt_in h hu
theorem mOct_out {u : tS} {n : Nat} (h : u.1 ≤ n) (hn : n < 2 ^ 31) : mOct u n = -1 := ocAt_out h hn
theorem allB_iff {p : Nat → Bool} : ∀ (d i : Nat), allB p d i = true ↔ ∀ j, i ≤ j → j < i + d → p j = true := by
  intro d
  induction d with
  | zero => intro i; exact ⟨fun _ j h1 h2 => by omega, fun _ => rfl⟩
  | succ d ih =>
    intro i
    unfold allB
    rw [Bool.and_eq_true, ih (i + 1)]
    constructor
    · intro h j h1 h2
      by_cases e : j = i
      · rw [e]; exact h.1
      · exact h.2 j (by omega) (by omega)
    · intro h
      exact ⟨h i (by omega) (by omega), fun j h1 h2 => h j (by omega) (by omega)⟩
theorem bool_eq {a b : Bool} (h : a = true ↔ b = true) : a = b := by cases a <;> cases b <;> simp_all
theorem mSgn_1 : ∀ k, k < 6 → 1 ≤ mSgn k := by decide +kernel
theorem mIsT_eq {u : tS} {i j k : Nat} (hu : u.1 ≤ 8000) (hk : k < 6) (hij : i ≤ j) (hi : i < 2 ^ 30) : mIsT u i j k = tIs u i j (mTx k) := by
  obtain ⟨hl, h38⟩ := mTx_l k hk
  have h01 := mSgn_1 k hk
  unfold mIsT tIs mBeg tBeg
  rw [hl]
  by_cases h1 : j - i = mSgn k
  · rw [decide_eq_true h1, Bool.true_and, Bool.true_and, decide_eq_true (show mSgn k ≤ j - i by omega), Bool.true_and]
    by_cases h2 : i + mSgn k ≤ u.1
    · rw [decide_eq_true h2, Bool.true_and]
      apply bool_eq
      rw [allB_iff, allB_iff]
      constructor <;> intro h n h3 h4
      · have := h n h3 h4
        unfold mBgP at this
        rw [mOct_in (by omega) hu] at this
        exact this
      · have := h n h3 h4
        unfold mBgP
        rw [mOct_in (by omega) hu]
        exact this
    · rw [decide_eq_false h2, Bool.false_and]
      rw [Bool.eq_false_iff]
      intro h
      have h3 := (allB_iff _ _).mp h (mSgn k - 1) (by omega) (by omega)
      unfold mBgP at h3
      rw [mOct_out (by omega) (by omega)] at h3
      have h4 := of_decide_eq_true h3
      exact nI_m1 (by have : ∀ c ∈ mTx k, c < 128 := by (clear h h3 h4 h1 h2 hij hi hl h38 h01; revert k; decide +kernel)
                      by_cases e : mSgn k - 1 < (mTx k).length
                      · have := this _ (List.getElem_mem e)
                        rw [List.getD_eq_getElem?_getD, List.getElem?_eq_getElem e]
                        show (mTx k)[mSgn k - 1] < 2 ^ 31
                        omega
                      · rw [List.getD_eq_getElem?_getD, List.getElem?_eq_none (by omega)]; decide) h4.symm
  · rw [decide_eq_false h1, Bool.false_and, Bool.false_and]
set_option maxRecDepth 100000 in
set_option maxHeartbeats 4000000 in
/-- model: begins -/
theorem sX10_begins {E : eN} (hE : eOk E) {f : aH} {t : Nat} {M : Nat} {y : mV} {u : tS} {i j k : Nat} (hp : mTp y u) (hk : k < 6) (hij : i ≤ j) (hj : j < 2 ^ 28) : mT E mX10_begins 0 0 [.ref M, .int (nI i), .int (nI j), .int (nI k)] (mdS f M y) t (fun o f' t' => o = .inl (some (.int (bI (mBeg u i j k)))) ∧ t' = t ∧ f' = mdS f M y) := by
  refine mT_of (n := 2) (lo := [some (.ref M), some (.int (nI i)), some (.int (nI j)), some (.int (nI k)), none, none]) (by decide) (by exact Nat.le_of_ble_eq_true rfl) rfl rfl ?_
  have h38 := (mTx_l k hk).2
  have lp : ∀ (d : Nat) (n : Nat) (b : Bool), n + d = mSgn k → mBeg u i j k = (b && allB (mBgP u i k) (mSgn k - n) n) → V E mX10_begins 0 0 (fun o f' t' => o = .inl (some (.int (bI (mBeg u i j k)))) ∧ t' = t ∧ f' = mdS f M y) 20 [some (.ref M), some (.int (nI i)), some (.int (nI j)), some (.int (nI k)), some (.int (bI b)), some (.int (nI n))] [] (mdS f M y) t 0 0 := by
    intro d
    induction d using Nat.strongRecOn with
    | _ d ih =>
    intro n b hn he
    refine v_iload dX10_begins_20 (by rfl) ?_
    refine v_iload_n dX10_begins_22 rfl (by rfl) ?_
    refine w_callS hE dX10_begins_23 kX10_228 (by rfl) (sX10_sizeOf hE hk) rfl (by decide) (by decide) (by exact Nat.le_of_ble_eq_true rfl) (by omega) (by omega) (fun v9 g9 u9 h9 => ?_) (fun _ _ _ h => by cases h.1)
    obtain ⟨hv9, hu9, hg9⟩ := h9
    replace hu9 := hu9.symm
    replace hg9 := hg9.symm
    subst hu9
    subst hg9
    cases hv9
    refine v_icmp_geN (tgt := 64) dX10_begins_26 (by decide) (by omega) (by omega) (fun c26 => ?_) (fun c26 => ?_)
    · refine v_iload dX10_begins_64 (by rfl) ?_
      refine v_iret dX10_begins_66 rfl (by first | rfl | exact nar_bI) ?_
      refine ⟨congrArg (fun x => (Sum.inl (some (Value.int x)) : aO)) (congrArg bI ?_), rfl, rfl⟩
      rw [he]
      first | (rw [c31]; rfl) | (rw [allB_0 (by omega), Bool.and_true])
    · refine v_iload dX10_begins_29 (by rfl) ?_
      refine v_if_eqB (tgt := 64) dX10_begins_31 (by decide) (fun c31 => ?_) (fun c31 => ?_)
      · refine v_iload dX10_begins_64 (by rfl) ?_
        refine v_iret dX10_begins_66 rfl (by first | rfl | exact nar_bI) ?_
        refine ⟨congrArg (fun x => (Sum.inl (some (Value.int x)) : aO)) (congrArg bI ?_), rfl, rfl⟩
        rw [he]
        first | (rw [c31]; rfl) | (rw [allB_0 (by omega), Bool.and_true])
      · refine v_aload_n dX10_begins_34 rfl (by rfl) ?_
        refine v_iload_n dX10_begins_35 rfl (by rfl) ?_
        refine v_iload dX10_begins_36 (by rfl) ?_
        refine v_iaddN dX10_begins_38 ?_
        refine w_callV hE dX10_begins_39 kX10_156 mdS_M (by rfl) (by rfl) (sX10_at hE hp (by omega)) rfl (by decide) (by decide) (by exact Nat.le_of_ble_eq_true rfl) (by omega) (by omega) (fun v9 g9 u9 h9 => ?_) (fun _ _ _ h => by cases h.1)
        obtain ⟨hv9, hu9, hg9⟩ := h9
        replace hu9 := hu9.symm
        subst hu9
        subst hg9
        cases hv9
        refine v_iload_n dX10_begins_42 rfl (by rfl) ?_
        refine v_iload dX10_begins_43 (by rfl) ?_
        refine w_callS hE dX10_begins_45 kX10_231 (by rfl) (sX10_octetOf hE hk (by omega)) rfl (by decide) (by decide) (by exact Nat.le_of_ble_eq_true rfl) (by omega) (by omega) (fun v9 g9 u9 h9 => ?_) (fun _ _ _ h => by cases h.1)
        obtain ⟨hv9, hu9, hg9⟩ := h9
        replace hu9 := hu9.symm
        replace hg9 := hg9.symm
        subst hu9
        subst hg9
        cases hv9
        refine v_icmp_ne (tgt := 55) dX10_begins_48 (by decide) (fun c48 => ?_) (fun c48 => ?_)
        · refine v_iconst (v := nI 0) dX10_begins_55 (by decide) ?_
          refine v_istore dX10_begins_56 (by decide) ?_
          refine v_iincN (y := 1) dX10_begins_58 (by rfl) (by decide) (by decide) ?_
          refine v_goto (tgt := 20) dX10_begins_61 (by decide) ?_
          first
            | exact ih (d - 1) (by omega) (n + 1) false (by omega) (he.trans (by rw [c31, allB_f (by omega) (show mBgP u i k n = false from decide_eq_false c48)]; rfl))
            | exact ih (d - 1) (by omega) (n + 1) true (by omega) (he.trans (by rw [c31, allB_s (by omega) (show mBgP u i k n = true from decide_eq_true c48)]))
        · refine v_iconst (v := nI 1) dX10_begins_51 (by decide) ?_
          refine v_goto (tgt := 56) dX10_begins_52 (by decide) ?_
          refine v_istore dX10_begins_56 (by decide) ?_
          refine v_iincN (y := 1) dX10_begins_58 (by rfl) (by decide) (by decide) ?_
          refine v_goto (tgt := 20) dX10_begins_61 (by decide) ?_
          first
            | exact ih (d - 1) (by omega) (n + 1) false (by omega) (he.trans (by rw [c31, allB_f (by omega) (show mBgP u i k n = false from decide_eq_false c48)]; rfl))
            | exact ih (d - 1) (by omega) (n + 1) true (by omega) (he.trans (by rw [c31, allB_s (by omega) (show mBgP u i k n = true from decide_eq_true c48)]))
  refine v_iload_n dX10_begins_0 rfl (by rfl) ?_
  refine v_iload_n dX10_begins_1 rfl (by rfl) ?_
  refine v_isubN dX10_begins_2 (by omega) ?_
  refine v_iload_n dX10_begins_3 rfl (by rfl) ?_
  refine w_callS hE dX10_begins_4 kX10_228 (by rfl) (sX10_sizeOf hE hk) rfl (by decide) (by decide) (by exact Nat.le_of_ble_eq_true rfl) (by omega) (by omega) (fun v9 g9 u9 h9 => ?_) (fun _ _ _ h => by cases h.1)
  obtain ⟨hv9, hu9, hg9⟩ := h9
  replace hu9 := hu9.symm
  replace hg9 := hg9.symm
  subst hu9
  subst hg9
  cases hv9
  refine v_icmp_ltN (tgt := 14) dX10_begins_7 (by decide) (by omega) (by omega) (fun c7 => ?_) (fun c7 => ?_)
  · refine v_iconst (v := nI 0) dX10_begins_14 (by decide) ?_
    refine v_istore dX10_begins_15 (by decide) ?_
    refine v_iconst (v := nI 0) dX10_begins_17 (by decide) ?_
    refine v_istore dX10_begins_18 (by decide) ?_
    first
      | exact lp (mSgn k) 0 true (by omega) (by unfold mBeg; rw [decide_eq_true (by omega)])
      | exact lp (mSgn k) 0 false (by omega) (by unfold mBeg; rw [decide_eq_false (by omega)])
  · refine v_iconst (v := nI 1) dX10_begins_10 (by decide) ?_
    refine v_goto (tgt := 15) dX10_begins_11 (by decide) ?_
    refine v_istore dX10_begins_15 (by decide) ?_
    refine v_iconst (v := nI 0) dX10_begins_17 (by decide) ?_
    refine v_istore dX10_begins_18 (by decide) ?_
    first
      | exact lp (mSgn k) 0 true (by omega) (by unfold mBeg; rw [decide_eq_true (by omega)])
      | exact lp (mSgn k) 0 false (by omega) (by unfold mBeg; rw [decide_eq_false (by omega)])

set_option maxRecDepth 100000 in
set_option maxHeartbeats 4000000 in
/-- model: isText -/
theorem sX10_isText {E : eN} (hE : eOk E) {f : aH} {t : Nat} {M : Nat} {y : mV} {u : tS} {i j k : Nat} (hp : mTp y u) (hk : k < 6) (hij : i ≤ j) (hj : j < 2 ^ 28) : mT E mX10_isText 0 0 [.ref M, .int (nI i), .int (nI j), .int (nI k)] (mdS f M y) t (fun o f' t' => o = .inl (some (.int (bI (tIs u i j (mTx k))))) ∧ t' = t ∧ f' = mdS f M y) := by
  refine mT_of (n := 0) (lo := [some (.ref M), some (.int (nI i)), some (.int (nI j)), some (.int (nI k))]) (by decide) (by exact Nat.le_of_ble_eq_true rfl) rfl rfl ?_
  have h38 := (mTx_l k hk).2
  refine v_iload_n dX10_isText_0 rfl (by rfl) ?_
  refine v_iload_n dX10_isText_1 rfl (by rfl) ?_
  refine v_isubN dX10_isText_2 (by omega) ?_
  refine v_iload_n dX10_isText_3 rfl (by rfl) ?_
  refine w_callS hE dX10_isText_4 kX10_228 (by rfl) (sX10_sizeOf hE hk) rfl (by decide) (by decide) (by exact Nat.le_of_ble_eq_true rfl) (by omega) (by omega) (fun v9 g9 u9 h9 => ?_) (fun _ _ _ h => by cases h.1)
  obtain ⟨hv9, hu9, hg9⟩ := h9
  replace hu9 := hu9.symm
  replace hg9 := hg9.symm
  subst hu9
  subst hg9
  cases hv9
  refine v_icmp_neN (tgt := 24) dX10_isText_7 (by decide) (by omega) (by omega) (fun c7 => ?_) (fun c7 => ?_)
  · refine v_iconst (v := nI 0) dX10_isText_24 (by decide) ?_
    refine v_iret dX10_isText_25 rfl (by first | rfl | exact nar_bI) ?_
    refine ⟨congrArg (fun x => (Sum.inl (some (Value.int x)) : aO)) ?_, rfl, rfl⟩
    rw [← mIsT_eq hp.2.1 hk hij (by omega)]
    unfold mIsT
    first | (rw [decide_eq_true (by omega), c17]; rfl) | (rw [decide_eq_false (by omega)]; rfl)
  · refine v_aload_n dX10_isText_10 rfl (by rfl) ?_
    refine v_iload_n dX10_isText_11 rfl (by rfl) ?_
    refine v_iload_n dX10_isText_12 rfl (by rfl) ?_
    refine v_iload_n dX10_isText_13 rfl (by rfl) ?_
    refine w_callV hE dX10_isText_14 kX10_235 mdS_M (by rfl) (by rfl) (sX10_begins hE hp hk hij hj) rfl (by decide) (by decide) (by exact Nat.le_of_ble_eq_true rfl) (by omega) (by omega) (fun v9 g9 u9 h9 => ?_) (fun _ _ _ h => by cases h.1)
    obtain ⟨hv9, hu9, hg9⟩ := h9
    replace hu9 := hu9.symm
    subst hu9
    subst hg9
    cases hv9
    refine v_if_eqB (tgt := 24) dX10_isText_17 (by decide) (fun c17 => ?_) (fun c17 => ?_)
    · refine v_iconst (v := nI 0) dX10_isText_24 (by decide) ?_
      refine v_iret dX10_isText_25 rfl (by first | rfl | exact nar_bI) ?_
      refine ⟨congrArg (fun x => (Sum.inl (some (Value.int x)) : aO)) ?_, rfl, rfl⟩
      rw [← mIsT_eq hp.2.1 hk hij (by omega)]
      unfold mIsT
      first | (rw [decide_eq_true (by omega), c17]; rfl) | (rw [decide_eq_false (by omega)]; rfl)
    · refine v_iconst (v := nI 1) dX10_isText_20 (by decide) ?_
      refine v_goto (tgt := 25) dX10_isText_21 (by decide) ?_
      refine v_iret dX10_isText_25 rfl (by first | rfl | exact nar_bI) ?_
      refine ⟨congrArg (fun x => (Sum.inl (some (Value.int x)) : aO)) ?_, rfl, rfl⟩
      rw [← mIsT_eq hp.2.1 hk hij (by omega)]
      unfold mIsT
      first | (rw [decide_eq_true (by omega), c17]; rfl) | (rw [decide_eq_false (by omega)]; rfl)

def mCE (u : tS) : Nat → Nat → Nat
  | 0, i => i
  | d + 1, i => if mOct u i = nI 9 then i else mCE u d (i + 1)
theorem mCE_le {u : tS} : ∀ (d i : Nat), i ≤ mCE u d i ∧ mCE u d i ≤ i + d := by
  intro d
  induction d with
  | zero => intro i; exact ⟨Nat.le_refl _, Nat.le_refl _⟩
  | succ d ih =>
    intro i
    unfold mCE
    split
    · omega
    · have := ih (i + 1)
      omega
def mTab (u : tS) (k : Nat) : Bool := decide (mOct u k = nI 9)
set_option maxRecDepth 100000 in
set_option maxHeartbeats 4000000 in
/-- model: columnEnd -/
theorem sX10_columnEnd {E : eN} (hE : eOk E) {f : aH} {t : Nat} {M : Nat} {y : mV} {u : tS} {i j : Nat} (hp : mTp y u) (hij : i ≤ j) (hj : j < 2 ^ 28) : mT E mX10_columnEnd 0 0 [.ref M, .int (nI i), .int (nI j)] (mdS f M y) t (fun o f' t' => o = .inl (some (.int (nI (mCE u (j - i) i)))) ∧ t' = t ∧ f' = mdS f M y) := by
  refine mT_of (n := 1) (lo := [some (.ref M), some (.int (nI i)), some (.int (nI j)), none]) (by decide) (by exact Nat.le_of_ble_eq_true rfl) rfl rfl ?_
  have lp : ∀ (d : Nat) (n : Nat), n + d = j → mCE u (j - i) i = mCE u (j - n) n → V E mX10_columnEnd 0 0 (fun o f' t' => o = .inl (some (.int (nI (mCE u (j - i) i)))) ∧ t' = t ∧ f' = mdS f M y) 2 [some (.ref M), some (.int (nI i)), some (.int (nI j)), some (.int (nI n))] [] (mdS f M y) t 0 0 := by
    intro d
    induction d using Nat.strongRecOn with
    | _ d ih =>
    intro n hn he
    refine v_iload_n dX10_columnEnd_2 rfl (by rfl) ?_
    refine v_iload_n dX10_columnEnd_3 rfl (by rfl) ?_
    refine v_icmp_geN (tgt := 23) dX10_columnEnd_4 (by decide) (by omega) (by omega) (fun c4 => ?_) (fun c4 => ?_)
    · refine v_iload_n dX10_columnEnd_23 rfl (by rfl) ?_
      refine v_iret dX10_columnEnd_24 rfl (by first | rfl | exact nar_bI) ?_
      refine ⟨congrArg (fun x => (Sum.inl (some (Value.int x)) : aO)) ?_, rfl, rfl⟩
      rw [he]
      first | (rw [show j - n = 0 by omega]; rfl) | (rw [show j - n = (j - (n + 1)) + 1 by omega, mCE, if_pos c14])
    · refine v_aload_n dX10_columnEnd_7 rfl (by rfl) ?_
      refine v_iload_n dX10_columnEnd_8 rfl (by rfl) ?_
      refine w_callV hE dX10_columnEnd_9 kX10_156 mdS_M (by rfl) (by rfl) (sX10_at hE hp (by omega)) rfl (by decide) (by decide) (by exact Nat.le_of_ble_eq_true rfl) (by omega) (by omega) (fun v9 g9 u9 h9 => ?_) (fun _ _ _ h => by cases h.1)
      obtain ⟨hv9, hu9, hg9⟩ := h9
      replace hu9 := hu9.symm
      subst hu9
      subst hg9
      cases hv9
      refine v_bipush (v := nI 9) dX10_columnEnd_12 (by decide) ?_
      refine v_icmp_eq (tgt := 23) dX10_columnEnd_14 (by decide) (fun c14 => ?_) (fun c14 => ?_)
      · refine v_iload_n dX10_columnEnd_23 rfl (by rfl) ?_
        refine v_iret dX10_columnEnd_24 rfl (by first | rfl | exact nar_bI) ?_
        refine ⟨congrArg (fun x => (Sum.inl (some (Value.int x)) : aO)) ?_, rfl, rfl⟩
        rw [he]
        first | (rw [show j - n = 0 by omega]; rfl) | (rw [show j - n = (j - (n + 1)) + 1 by omega, mCE, if_pos c14])
      · refine v_iincN (y := 1) dX10_columnEnd_17 (by rfl) (by decide) (by decide) ?_
        refine v_goto (tgt := 2) dX10_columnEnd_20 (by decide) ?_
        exact ih (d - 1) (by omega) (n + 1) (by omega) (he.trans (by rw [show j - n = (j - (n + 1)) + 1 by omega, mCE, if_neg c14]))
  refine v_iload_n dX10_columnEnd_0 rfl (by rfl) ?_
  refine v_istore_n dX10_columnEnd_1 rfl (by decide) ?_
  exact lp (j - i) i (by omega) rfl

set_option maxRecDepth 100000 in
set_option maxHeartbeats 4000000 in
/-- model: columns -/
theorem sX10_columns {E : eN} (hE : eOk E) {f : aH} {t : Nat} {M : Nat} {y : mV} {u : tS} {i j : Nat} (hp : mTp y u) (hij : i ≤ j) (hj : j < 2 ^ 28) : mT E mX10_columns 0 0 [.ref M, .int (nI i), .int (nI j)] (mdS f M y) t (fun o f' t' => o = .inl (some (.int (nI (cntN (mTab u) (j - i) i 1)))) ∧ t' = t ∧ f' = mdS f M y) := by
  refine mT_of (n := 2) (lo := [some (.ref M), some (.int (nI i)), some (.int (nI j)), none, none]) (by decide) (by exact Nat.le_of_ble_eq_true rfl) rfl rfl ?_
  have lp : ∀ (d : Nat) (n c : Nat), n + d = j → c ≤ n + 1 → cntN (mTab u) (j - i) i 1 = cntN (mTab u) (j - n) n c → V E mX10_columns 0 0 (fun o f' t' => o = .inl (some (.int (nI (cntN (mTab u) (j - i) i 1)))) ∧ t' = t ∧ f' = mdS f M y) 5 [some (.ref M), some (.int (nI i)), some (.int (nI j)), some (.int (nI c)), some (.int (nI n))] [] (mdS f M y) t 0 0 := by
    intro d
    induction d using Nat.strongRecOn with
    | _ d ih =>
    intro n c hn hc he
    refine v_iload dX10_columns_5 (by rfl) ?_
    refine v_iload_n dX10_columns_7 rfl (by rfl) ?_
    refine v_icmp_geN (tgt := 36) dX10_columns_8 (by decide) (by omega) (by omega) (fun c8 => ?_) (fun c8 => ?_)
    · refine v_iload_n dX10_columns_36 rfl (by rfl) ?_
      refine v_iret dX10_columns_37 rfl (by first | rfl | exact nar_bI) ?_
      refine ⟨congrArg (fun x => (Sum.inl (some (Value.int x)) : aO)) ?_, rfl, rfl⟩
      rw [he, show j - n = 0 by omega]
      rfl
    · refine v_aload_n dX10_columns_11 rfl (by rfl) ?_
      refine v_iload dX10_columns_12 (by rfl) ?_
      refine w_callV hE dX10_columns_14 kX10_156 mdS_M (by rfl) (by rfl) (sX10_at hE hp (by omega)) rfl (by decide) (by decide) (by exact Nat.le_of_ble_eq_true rfl) (by omega) (by omega) (fun v9 g9 u9 h9 => ?_) (fun _ _ _ h => by cases h.1)
      obtain ⟨hv9, hu9, hg9⟩ := h9
      replace hu9 := hu9.symm
      subst hu9
      subst hg9
      cases hv9
      refine v_bipush (v := nI 9) dX10_columns_17 (by decide) ?_
      refine v_icmp_ne (tgt := 28) dX10_columns_19 (by decide) (fun c19 => ?_) (fun c19 => ?_)
      · refine v_iload_n dX10_columns_28 rfl (by rfl) ?_
        refine v_istore_n dX10_columns_29 rfl (by decide) ?_
        refine v_iincN (y := 1) dX10_columns_30 (by rfl) (by decide) (by decide) ?_
        refine v_goto (tgt := 5) dX10_columns_33 (by decide) ?_
        first
          | exact ih (d - 1) (by omega) (n + 1) (c + 1) (by omega) (by omega) (he.trans (by rw [show j - n = (j - (n + 1)) + 1 by omega, cntN, if_pos (show mTab u n = true from decide_eq_true c19)]))
          | exact ih (d - 1) (by omega) (n + 1) c (by omega) (by omega) (he.trans (by rw [show j - n = (j - (n + 1)) + 1 by omega, cntN, if_neg (show ¬ mTab u n = true by unfold mTab; rw [decide_eq_false c19]; decide)]))
      · refine v_iload_n dX10_columns_22 rfl (by rfl) ?_
        refine v_iconst (v := nI 1) dX10_columns_23 (by decide) ?_
        refine v_iaddN dX10_columns_24 ?_
        refine v_goto (tgt := 29) dX10_columns_25 (by decide) ?_
        refine v_istore_n dX10_columns_29 rfl (by decide) ?_
        refine v_iincN (y := 1) dX10_columns_30 (by rfl) (by decide) (by decide) ?_
        refine v_goto (tgt := 5) dX10_columns_33 (by decide) ?_
        first
          | exact ih (d - 1) (by omega) (n + 1) (c + 1) (by omega) (by omega) (he.trans (by rw [show j - n = (j - (n + 1)) + 1 by omega, cntN, if_pos (show mTab u n = true from decide_eq_true c19)]))
          | exact ih (d - 1) (by omega) (n + 1) c (by omega) (by omega) (he.trans (by rw [show j - n = (j - (n + 1)) + 1 by omega, cntN, if_neg (show ¬ mTab u n = true by unfold mTab; rw [decide_eq_false c19]; decide)]))
  refine v_iconst (v := nI 1) dX10_columns_0 (by decide) ?_
  refine v_istore_n dX10_columns_1 rfl (by decide) ?_
  refine v_iload_n dX10_columns_2 rfl (by rfl) ?_
  refine v_istore dX10_columns_3 (by decide) ?_
  exact lp (j - i) i 1 (by omega) (by omega) rfl

theorem in33 {x : Int32} : mIn x (nI 33) (nI 126) = (decide (nI 32 < x) && decide (x ≤ nI 126)) := by
  unfold mIn
  have : (nI 33 ≤ x) ↔ (nI 32 < x) := by
    rw [Int32.le_iff_toInt_le, Int32.lt_iff_toInt_lt, nI_toInt (by decide), nI_toInt (by decide)]
    omega
  simp only [this]
theorem in20 {i j : Nat} (hij : i ≤ j) (hj : j < 2 ^ 28) : mIn (nI (j - i)) (nI 1) (nI 20) = (decide (i < j) && decide (j - i ≤ 20)) := by
  by_cases h : 1 ≤ j - i ∧ j - i ≤ 20
  · rw [mIn_of h.1 h.2 (by decide), decide_eq_true (by omega), decide_eq_true (by omega)]; rfl
  · cases hb : mIn (nI (j - i)) (nI 1) (nI 20) with
    | true =>
      obtain ⟨n, h1, h2, h3⟩ := mIn_nat hb (by decide) (by decide)
      have := nI_inj h3 (by omega) (by omega)
      omega
    | false =>
      by_cases h2 : i < j
      · rw [decide_eq_false (show ¬ j - i ≤ 20 by omega), Bool.and_false]
      · rw [decide_eq_false h2]; rfl
theorem okO_eq {u : tS} {k : Nat} : okO u k = mIn (mOct u k) (nI 33) (nI 126) := in33.symm
set_option maxRecDepth 100000 in
set_option maxHeartbeats 4000000 in
/-- model: isShown -/
theorem sX10_isShown {E : eN} (hE : eOk E) {f : aH} {t : Nat} {M : Nat} {y : mV} {u : tS} {i j : Nat} (hp : mTp y u) (hij : i ≤ j) (hj : j < 2 ^ 28) : mT E mX10_isShown 0 0 [.ref M, .int (nI i), .int (nI j)] (mdS f M y) t (fun o f' t' => o = .inl (some (.int (bI (tWord u i j)))) ∧ t' = t ∧ f' = mdS f M y) := by
  refine mT_of (n := 2) (lo := [some (.ref M), some (.int (nI i)), some (.int (nI j)), none, none]) (by decide) (by exact Nat.le_of_ble_eq_true rfl) rfl rfl ?_
  have lp : ∀ (d : Nat) (n : Nat) (b : Bool), n + d = j → tWord u i j = (b && allB (okO u) (j - n) n) → V E mX10_isShown 0 0 (fun o f' t' => o = .inl (some (.int (bI (tWord u i j)))) ∧ t' = t ∧ f' = mdS f M y) 13 [some (.ref M), some (.int (nI i)), some (.int (nI j)), some (.int (bI b)), some (.int (nI n))] [] (mdS f M y) t 0 0 := by
    intro d
    induction d using Nat.strongRecOn with
    | _ d ih =>
    intro n b hn he
    refine v_iload dX10_isShown_13 (by rfl) ?_
    refine v_iload_n dX10_isShown_15 rfl (by rfl) ?_
    refine v_icmp_geN (tgt := 43) dX10_isShown_16 (by decide) (by omega) (by omega) (fun c16 => ?_) (fun c16 => ?_)
    · refine v_iload_n dX10_isShown_43 rfl (by rfl) ?_
      refine v_iret dX10_isShown_44 rfl (by first | rfl | exact nar_bI) ?_
      refine ⟨congrArg (fun x => (Sum.inl (some (Value.int x)) : aO)) (congrArg bI ?_), rfl, rfl⟩
      rw [he]
      first | (rw [c20]; rfl) | (rw [allB_0 (by omega), Bool.and_true])
    · refine v_iload_n dX10_isShown_19 rfl (by rfl) ?_
      refine v_if_eqB (tgt := 43) dX10_isShown_20 (by decide) (fun c20 => ?_) (fun c20 => ?_)
      · refine v_iload_n dX10_isShown_43 rfl (by rfl) ?_
        refine v_iret dX10_isShown_44 rfl (by first | rfl | exact nar_bI) ?_
        refine ⟨congrArg (fun x => (Sum.inl (some (Value.int x)) : aO)) (congrArg bI ?_), rfl, rfl⟩
        rw [he]
        first | (rw [c20]; rfl) | (rw [allB_0 (by omega), Bool.and_true])
      · refine v_aload_n dX10_isShown_23 rfl (by rfl) ?_
        refine v_iload dX10_isShown_24 (by rfl) ?_
        refine w_callV hE dX10_isShown_26 kX10_156 mdS_M (by rfl) (by rfl) (sX10_at hE hp (by omega)) rfl (by decide) (by decide) (by exact Nat.le_of_ble_eq_true rfl) (by omega) (by omega) (fun v9 g9 u9 h9 => ?_) (fun _ _ _ h => by cases h.1)
        obtain ⟨hv9, hu9, hg9⟩ := h9
        replace hu9 := hu9.symm
        subst hu9
        subst hg9
        cases hv9
        refine v_bipush (v := nI 33) dX10_isShown_29 (by decide) ?_
        refine v_bipush (v := nI 126) dX10_isShown_31 (by decide) ?_
        refine w_callS hE dX10_isShown_33 kX10_136 (by rfl) (sX10_in hE) rfl (by decide) (by decide) (by exact Nat.le_of_ble_eq_true rfl) (by omega) (by omega) (fun v9 g9 u9 h9 => ?_) (fun _ _ _ h => by cases h.1)
        obtain ⟨hv9, hu9, hg9⟩ := h9
        replace hu9 := hu9.symm
        replace hg9 := hg9.symm
        subst hu9
        subst hg9
        cases hv9
        refine v_istore_n dX10_isShown_36 rfl (by decide) ?_
        refine v_iincN (y := 1) dX10_isShown_37 (by rfl) (by decide) (by decide) ?_
        refine v_goto (tgt := 13) dX10_isShown_40 (by decide) ?_
        exact ih (d - 1) (by omega) (n + 1) _ (by omega) (he.trans (by rw [c20, Bool.true_and]; by_cases hh : okO u n = true; (· rw [allB_s (by omega) hh, ← okO_eq, hh, Bool.true_and]); (· rw [allB_f (by omega) (Bool.eq_false_iff.mpr hh), ← okO_eq, Bool.eq_false_iff.mpr hh]; rfl)))
  refine v_iload_n dX10_isShown_0 rfl (by rfl) ?_
  refine v_iload_n dX10_isShown_1 rfl (by rfl) ?_
  refine v_isubN dX10_isShown_2 (by omega) ?_
  refine v_iconst (v := nI 1) dX10_isShown_3 (by decide) ?_
  refine v_bipush (v := nI 20) dX10_isShown_4 (by decide) ?_
  refine w_callS hE dX10_isShown_6 kX10_136 (by rfl) (sX10_in hE) rfl (by decide) (by decide) (by exact Nat.le_of_ble_eq_true rfl) (by omega) (by omega) (fun v9 g9 u9 h9 => ?_) (fun _ _ _ h => by cases h.1)
  obtain ⟨hv9, hu9, hg9⟩ := h9
  replace hu9 := hu9.symm
  replace hg9 := hg9.symm
  subst hu9
  subst hg9
  cases hv9
  refine v_istore_n dX10_isShown_9 rfl (by decide) ?_
  refine v_iload_n dX10_isShown_10 rfl (by rfl) ?_
  refine v_istore dX10_isShown_11 (by decide) ?_
  exact lp (j - i) i _ (by omega) (by rw [in20 hij hj]; unfold tWord; rw [Bool.and_assoc])

def mLE (u : tS) : Nat → Nat → Nat
  | 0, i => i
  | d + 1, i => if mOct u i = nI 10 then i else mLE u d (i + 1)
theorem mLE_le {u : tS} : ∀ (d i : Nat), i ≤ mLE u d i ∧ mLE u d i ≤ i + d := by
  intro d
  induction d with
  | zero => intro i; exact ⟨Nat.le_refl _, Nat.le_refl _⟩
  | succ d ih =>
    intro i
    unfold mLE
    split
    · omega
    · have := ih (i + 1)
      omega
set_option maxRecDepth 100000 in
set_option maxHeartbeats 4000000 in
/-- model: lineEnd -/
theorem sX10_lineEnd {E : eN} (hE : eOk E) {f : aH} {t : Nat} {M : Nat} {y : mV} {u : tS} {i : Nat} (hp : mTp y u) (hi : i < 2 ^ 28) (hoct : ∀ n, n < 2 ^ 31 → (mOct u n = -1 ↔ u.1 ≤ n)) : mT E mX10_lineEnd 0 0 [.ref M, .int (nI i)] (mdS f M y) t (fun o f' t' => o = .inl (some (.int (nI (mLE u (u.1 - i) i)))) ∧ t' = t ∧ f' = mdS f M y) := by
  refine mT_of (n := 1) (lo := [some (.ref M), some (.int (nI i)), none]) (by decide) (by exact Nat.le_of_ble_eq_true rfl) rfl rfl ?_
  have hu8 := hp.2.1
  have lp : ∀ (d : Nat) (n : Nat), n + d = max n u.1 → n < 2 ^ 28 → mLE u (u.1 - i) i = mLE u (u.1 - n) n → V E mX10_lineEnd 0 0 (fun o f' t' => o = .inl (some (.int (nI (mLE u (u.1 - i) i)))) ∧ t' = t ∧ f' = mdS f M y) 2 [some (.ref M), some (.int (nI i)), some (.int (nI n))] [] (mdS f M y) t 0 0 := by
    intro d
    induction d using Nat.strongRecOn with
    | _ d ih =>
    intro n hn hn2 he
    refine v_aload_n dX10_lineEnd_2 rfl (by rfl) ?_
    refine v_iload_n dX10_lineEnd_3 rfl (by rfl) ?_
    refine w_callV hE dX10_lineEnd_4 kX10_156 mdS_M (by rfl) (by rfl) (sX10_at hE hp (by omega)) rfl (by decide) (by decide) (by exact Nat.le_of_ble_eq_true rfl) (by omega) (by omega) (fun v9 g9 u9 h9 => ?_) (fun _ _ _ h => by cases h.1)
    obtain ⟨hv9, hu9, hg9⟩ := h9
    replace hu9 := hu9.symm
    subst hu9
    subst hg9
    cases hv9
    refine v_iconst (v := (-1)) dX10_lineEnd_7 (by decide) ?_
    refine v_icmp_eq (tgt := 27) dX10_lineEnd_8 (by decide) (fun c8 => ?_) (fun c8 => ?_)
    · refine v_iload_n dX10_lineEnd_27 rfl (by rfl) ?_
      refine v_iret dX10_lineEnd_28 rfl (by first | rfl | exact nar_bI) ?_
      refine ⟨congrArg (fun x => (Sum.inl (some (Value.int x)) : aO)) ?_, rfl, rfl⟩
      rw [he]
      first
        | (have hge := (hoct n (by omega)).mp c8; rw [show u.1 - n = 0 by omega]; rfl)
        | (have hlt : n < u.1 := Nat.lt_of_not_le (fun z => c8 ((hoct n (by omega)).mpr z)); rw [show u.1 - n = (u.1 - (n + 1)) + 1 by omega, mLE, if_pos c18])
    · refine v_aload_n dX10_lineEnd_11 rfl (by rfl) ?_
      refine v_iload_n dX10_lineEnd_12 rfl (by rfl) ?_
      refine w_callV hE dX10_lineEnd_13 kX10_156 mdS_M (by rfl) (by rfl) (sX10_at hE hp (by omega)) rfl (by decide) (by decide) (by exact Nat.le_of_ble_eq_true rfl) (by omega) (by omega) (fun v9 g9 u9 h9 => ?_) (fun _ _ _ h => by cases h.1)
      obtain ⟨hv9, hu9, hg9⟩ := h9
      replace hu9 := hu9.symm
      subst hu9
      subst hg9
      cases hv9
      refine v_bipush (v := nI 10) dX10_lineEnd_16 (by decide) ?_
      refine v_icmp_eq (tgt := 27) dX10_lineEnd_18 (by decide) (fun c18 => ?_) (fun c18 => ?_)
      · refine v_iload_n dX10_lineEnd_27 rfl (by rfl) ?_
        refine v_iret dX10_lineEnd_28 rfl (by first | rfl | exact nar_bI) ?_
        refine ⟨congrArg (fun x => (Sum.inl (some (Value.int x)) : aO)) ?_, rfl, rfl⟩
        rw [he]
        first
          | (have hge := (hoct n (by omega)).mp c8; rw [show u.1 - n = 0 by omega]; rfl)
          | (have hlt : n < u.1 := Nat.lt_of_not_le (fun z => c8 ((hoct n (by omega)).mpr z)); rw [show u.1 - n = (u.1 - (n + 1)) + 1 by omega, mLE, if_pos c18])
      · refine v_iincN (y := 1) dX10_lineEnd_21 (by rfl) (by decide) (by decide) ?_
        refine v_goto (tgt := 2) dX10_lineEnd_24 (by decide) ?_
        have hlt : n < u.1 := Nat.lt_of_not_le (fun z => c8 ((hoct n (by omega)).mpr z))
        exact ih (d - 1) (by omega) (n + 1) (by omega) (by omega) (he.trans (by rw [show u.1 - n = (u.1 - (n + 1)) + 1 by omega, mLE, if_neg c18]))
  refine v_iload_n dX10_lineEnd_0 rfl (by rfl) ?_
  refine v_istore_n dX10_lineEnd_1 rfl (by decide) ?_
  exact lp (u.1 - i) i (by omega) hi rfl
