def adE (w : eV) (q p k : Nat) : Int32 × Int32 := (eLe w (q * 24 + k), if k < eRs w 0 then nI (p + k) else -1)
def adT (w : eV) (q p n : Nat) : List (Int32 × Int32) := (List.range n).map (adE w q p)
theorem adT_s {w : eV} {q p n : Nat} : adT w q p (n + 1) = adT w q p n ++ [adE w q p n] := by
  unfold adT
  rw [List.range_succ, List.map_append]
  rfl
theorem adT_l {w : eV} {q p n : Nat} : (adT w q p n).length = n := by
  unfold adT
  rw [List.length_map, List.length_range]
def kP (f : aH) (M : Nat) (y : mV) (l : List (Int32 × Int32)) (f' : aH) : Prop := ∃ T U, f' = mdS f M (kS y T U l.length) ∧ kTl T U l
set_option maxRecDepth 100000 in
set_option maxHeartbeats 600000 in
/-- model: addRow -/
theorem sX10_addRow {E : eN} (hE : eOk E) {f : aH} {t : Nat} {M : Nat} {y : mV} {T U : Nat → Int32} {l : List (Int32 × Int32)} {r q m p : Nat} {w : eV} (hT : kTl T U l) (hl : l.length ≤ 8100) (hw : mE y r w m) (hwo : enOk w) (hr : r < 240) (hq : q < eRo w) (hp : ePl w = nI p) (hp2 : p ≤ 3001) (hlet : ∀ k, k < eRs w q → ∃ c, c < 128 ∧ eLe w (q * 24 + k) = nI c) : mT E mX10_addRow 0 0 [.ref M, .int (nI r), .int (nI q)] (mdS f M (kS y T U l.length)) t (fun o f' t' => o = .inl (some (.int (nI (p + eRs w 0)))) ∧ t' = t ∧ kP f M y (l ++ adT w q p (eRs w q)) f') := by
  refine mT_of (n := 2) (lo := [some (.ref M), some (.int (nI r)), some (.int (nI q)), none, none]) (by decide) (by exact Nat.le_of_ble_eq_true rfl) rfl rfl ?_
  obtain ⟨b1, b2⟩ := hw.2.2.2.2.2.2.1 q hq
  have a1 := (hw.2.2.2.2.2.2.1 0 (by omega)).1
  have w2 := hw.2.1
  have hrs := hwo.2.1 q
  have hr0 := hwo.2.1 0
  have hro := hwo.1
  have lp : ∀ (d : Nat) (k : Nat) (A B : Nat → Int32), k + d = eRs w q → kTl A B (l ++ adT w q p k) → V E mX10_addRow 0 0 (fun o f' t' => o = .inl (some (.int (nI (p + eRs w 0)))) ∧ t' = t ∧ kP f M y (l ++ adT w q p (eRs w q)) f') 12 [some (.ref M), some (.int (nI r)), some (.int (nI q)), some (.int (nI (eRs w 0))), some (.int (nI k))] [] (mdS f M (kS y A B (l ++ adT w q p k).length)) t 0 0 := by
    intro d
    induction d using Nat.strongRecOn with
    | _ d ih =>
    intro k A B hk hA
    refine v_iload dX10_addRow_12 (by rfl) ?_
    refine v_aload_n dX10_addRow_14 rfl (by rfl) ?_
    refine v_getf hE dX10_addRow_15 fX10_90 mdS_M (by rfl) ?_
    refine v_iconst (v := nI 4) dX10_addRow_18 (by decide) ?_
    refine v_iload_n dX10_addRow_19 rfl (by rfl) ?_
    refine v_imulN dX10_addRow_20 ?_
    refine v_iload_n dX10_addRow_21 rfl (by rfl) ?_
    refine v_iaddN dX10_addRow_22 ?_
    refine m_iald hE (k := 26) dX10_addRow_23 (by decide) (by decide) rfl (show _ < 960 by omega) (by omega) ?_
    refine v_eqi (y := nI (eRs w q)) b1 ?_
    refine v_icmp_geN (tgt := 72) dX10_addRow_24 (by decide) (by omega) (by omega) (fun c24 => ?_) (fun c24 => ?_)
    · refine v_aload_n dX10_addRow_72 rfl (by rfl) ?_
      refine v_getf hE dX10_addRow_73 fX10_75 mdS_M (by rfl) ?_
      refine v_iload_n dX10_addRow_76 rfl (by rfl) ?_
      refine m_iald hE (k := 21) dX10_addRow_77 (by decide) (by decide) rfl (show _ < 240 by omega) (by omega) ?_
      refine v_eqi (y := nI p) (w2.trans hp) ?_
      refine v_iload_n dX10_addRow_78 rfl (by rfl) ?_
      refine v_iaddN dX10_addRow_79 ?_
      refine v_iret dX10_addRow_80 rfl (by first | rfl | exact nar_bI) ?_
      have e9 : k = eRs w q := by omega
      subst e9
      exact ⟨rfl, rfl, A, B, rfl, hA⟩
    · refine v_aload_n dX10_addRow_27 rfl (by rfl) ?_
      refine v_aload_n dX10_addRow_28 rfl (by rfl) ?_
      refine v_getf hE dX10_addRow_29 fX10_87 mdS_M (by rfl) ?_
      refine v_bipush (v := nI 26) dX10_addRow_32 (by decide) ?_
      refine v_iconst (v := nI 4) dX10_addRow_34 (by decide) ?_
      refine v_iload_n dX10_addRow_35 rfl (by rfl) ?_
      refine v_imulN dX10_addRow_36 ?_
      refine v_iload_n dX10_addRow_37 rfl (by rfl) ?_
      refine v_iaddN dX10_addRow_38 ?_
      refine v_imulN dX10_addRow_39 ?_
      refine v_iload dX10_addRow_40 (by rfl) ?_
      refine v_iaddN dX10_addRow_42 ?_
      refine m_bald hE (k := 25) dX10_addRow_43 (by decide) (by decide) rfl (show _ < 24960 by omega) (by omega) ?_
      obtain ⟨c, c1, c2⟩ := hlet k (by omega)
      refine v_eqi (y := nI c) ((b2 k (by omega)).trans c2) ?_
      refine v_iload dX10_addRow_44 (by rfl) ?_
      refine v_iload_n dX10_addRow_46 rfl (by rfl) ?_
      refine v_icmp_geN (tgt := 62) dX10_addRow_47 (by decide) (by omega) (by omega) (fun c47 => ?_) (fun c47 => ?_)
      · refine v_iconst (v := (-1)) dX10_addRow_62 (by decide) ?_
        refine w_callV hE dX10_addRow_63 kX10_362 mdS_M (by rfl) (by rfl) (sX10_add hE hA (by rw [List.length_append, adT_l]; omega) c1) rfl (by decide) (by decide) (by exact Nat.le_of_ble_eq_true rfl) (by omega) (by omega) (fun v9 g9 u9 h9 => ?_) (fun _ _ _ h => by cases h.1)
        obtain ⟨hv9, hu9, hg9⟩ := h9
        replace hu9 := hu9.symm
        subst hu9
        subst hg9
        cases hv9
        refine v_iincN (y := 1) dX10_addRow_66 (by rfl) (by decide) (by decide) ?_
        refine v_goto (tgt := 12) dX10_addRow_69 (by decide) ?_
        have hA9 := kTl_s (x := (-1)) hA c1
        have e9 : l ++ adT w q p k ++ [(nI c, (-1))] = l ++ adT w q p (k + 1) := by
          rw [adT_s, List.append_assoc]
          unfold adE
          rw [if_neg (by omega), c2]
        rw [e9] at hA9 ⊢
        exact ih (d - 1) (by omega) (k + 1) _ _ (by omega) hA9
      · refine v_aload_n dX10_addRow_50 rfl (by rfl) ?_
        refine v_getf hE dX10_addRow_51 fX10_75 mdS_M (by rfl) ?_
        refine v_iload_n dX10_addRow_54 rfl (by rfl) ?_
        refine m_iald hE (k := 21) dX10_addRow_55 (by decide) (by decide) rfl (show _ < 240 by omega) (by omega) ?_
        refine v_eqi (y := nI p) (w2.trans hp) ?_
        refine v_iload dX10_addRow_56 (by rfl) ?_
        refine v_iaddN dX10_addRow_58 ?_
        refine v_goto (tgt := 63) dX10_addRow_59 (by decide) ?_
        refine w_callV hE dX10_addRow_63 kX10_362 mdS_M (by rfl) (by rfl) (sX10_add hE hA (by rw [List.length_append, adT_l]; omega) c1) rfl (by decide) (by decide) (by exact Nat.le_of_ble_eq_true rfl) (by omega) (by omega) (fun v9 g9 u9 h9 => ?_) (fun _ _ _ h => by cases h.1)
        obtain ⟨hv9, hu9, hg9⟩ := h9
        replace hu9 := hu9.symm
        subst hu9
        subst hg9
        cases hv9
        refine v_iincN (y := 1) dX10_addRow_66 (by rfl) (by decide) (by decide) ?_
        refine v_goto (tgt := 12) dX10_addRow_69 (by decide) ?_
        have hA9 := kTl_s (x := nI (p + k)) hA c1
        have e9 : l ++ adT w q p k ++ [(nI c, nI (p + k))] = l ++ adT w q p (k + 1) := by
          rw [adT_s, List.append_assoc]
          unfold adE
          rw [if_pos (by omega), c2]
        rw [e9] at hA9 ⊢
        exact ih (d - 1) (by omega) (k + 1) _ _ (by omega) hA9
  refine v_aload_n dX10_addRow_0 rfl (by rfl) ?_
  refine v_getf hE dX10_addRow_1 fX10_90 mdS_M (by rfl) ?_
  refine v_iconst (v := nI 4) dX10_addRow_4 (by decide) ?_
  refine v_iload_n dX10_addRow_5 rfl (by rfl) ?_
  refine v_imulN dX10_addRow_6 ?_
  refine m_iald hE (k := 26) dX10_addRow_7 (by decide) (by decide) rfl (show _ < 960 by omega) (by omega) ?_
  refine v_eqi (y := nI (eRs w 0)) a1 ?_
  refine v_istore_n dX10_addRow_8 rfl (by decide) ?_
  refine v_iconst (v := nI 0) dX10_addRow_9 (by decide) ?_
  refine v_istore dX10_addRow_10 (by decide) ?_
  have e0 : l ++ adT w q p 0 = l := List.append_nil l
  have hV := lp (eRs w q) 0 T U (by omega) (by rw [e0]; exact hT)
  rw [e0] at hV
  exact hV
