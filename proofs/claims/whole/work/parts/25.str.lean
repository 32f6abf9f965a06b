/-! Strings: constants that stood in the heap at the start -/
abbrev aA (E : eN) : Nat → Prop := fun q => b0 E ≤ q
def tx0 : List Nat := [49, 32, 116, 111, 32, 56, 32, 111, 99, 116, 101, 116, 115, 32, 99, 97, 110, 32, 98, 101, 32, 102, 101, 100]
def tx1 : List Nat := [116, 104, 101, 32, 116, 97, 112, 101, 32, 119, 111, 117, 108, 100, 32, 98, 101, 32, 116, 111, 111, 32, 108, 111, 110, 103]
def tx2 : List Nat := [110, 111, 32, 115, 117, 99, 104, 32, 116, 97, 98, 108, 101]
def tx3 : List Nat := [35, 35, 102, 105, 108, 101, 102, 111, 114, 109, 97, 116, 61, 86, 67, 70, 118, 52, 46, 51]
def tx4 : List Nat := [35, 35]
def tx5 : List Nat := [35, 67, 72, 82, 79, 77, 9, 80, 79, 83, 9, 73, 68, 9, 82, 69, 70, 9, 65, 76, 84, 9, 81, 85, 65, 76, 9, 70, 73, 76, 84, 69, 82, 9, 73, 78, 70, 79]
def tx6 : List Nat := [70, 79, 82, 77, 65, 84]
def tx7 : List Nat := [46]
def tx8 : List Nat := [80, 65, 83, 83]
def tx9 : List Nat := [71, 84]
def tx10 : List Nat := [110, 111, 32, 115, 117, 99, 104, 32, 115, 101, 113, 117, 101, 110, 99, 101]
def tx11 : List Nat := [97, 32, 115, 101, 113, 117, 101, 110, 99, 101, 32, 104, 97, 115, 32, 110, 111, 32, 115, 117, 99, 104, 32, 110, 117, 109, 98, 101, 114]
def tx12 : List Nat := [110, 111, 32, 115, 117, 99, 104, 32, 112, 108, 97, 99, 101, 32, 111, 114, 32, 111, 99, 116, 101, 116]
def tx13 : List Nat := [97, 32, 116, 97, 98, 108, 101, 32, 104, 97, 115, 32, 110, 111, 32, 115, 117, 99, 104, 32, 110, 117, 109, 98, 101, 114]
def tx14 : List Nat := [110, 111, 32, 115, 117, 99, 104, 32, 114, 101, 99, 111, 114, 100]
def tx15 : List Nat := [97, 32, 114, 101, 99, 111, 114, 100, 32, 104, 97, 115, 32, 110, 111, 32, 115, 117, 99, 104, 32, 110, 117, 109, 98, 101, 114]
def tx16 : List Nat := [110, 111, 32, 115, 117, 99, 104, 32, 114, 111, 119]
def tx17 : List Nat := [110, 111, 32, 115, 117, 99, 104, 32, 115, 97, 109, 112, 108, 101]
def tx18 : List Nat := [97, 32, 115, 97, 109, 112, 108, 101, 32, 104, 97, 115, 32, 110, 111, 32, 115, 117, 99, 104, 32, 110, 117, 109, 98, 101, 114]
def tx19 : List Nat := [110, 111, 32, 115, 117, 99, 104, 32, 104, 97, 112, 108, 111, 116, 121, 112, 101]
def strTab : List (String × Nat × String × List Nat) := [(RX9, 63, "1 to 8 octets can be fed", tx0), (RX9, 71, "the tape would be too long", tx1), (RX9, 273, "no such table", tx2), (RX8, 89, "##fileformat=VCFv4.3", tx3), (RX8, 95, "##", tx4), (RX8, 108, "#CHROM\tPOS\tID\tREF\tALT\tQUAL\tFILTER\tINFO", tx5), (RX8, 110, "FORMAT", tx6), (RX8, 167, ".", tx7), (RX8, 227, "PASS", tx8), (RX8, 172, "GT", tx9), (RX9, 279, "no such sequence", tx10), (RX9, 138, "a sequence has no such number", tx11), (RX9, 148, "no such place or octet", tx12), (RX9, 150, "a table has no such number", tx13), (RX9, 275, "no such record", tx14), (RX9, 179, "a record has no such number", tx15), (RX9, 181, "no such row", tx16), (RX9, 277, "no such sample", tx17), (RX9, 201, "a sample has no such number", tx18), (RX9, 237, "no such haplotype", tx19), (RX7, 120, "##fileformat=VCFv4.3", tx3), (RX7, 131, "#CHROM\tPOS\tID\tREF\tALT\tQUAL\tFILTER\tINFO", tx5), (RX7, 133, "FORMAT", tx6), (RX0, 175, "PASS", tx8), (RX0, 177, ".", tx7), (RX0, 183, "GT", tx9)]
def strAt (E : eN) (cs : List Nat) (q : Nat) : Prop := ∃ v : Nat, va_O "java/lang/String" q (aA E) (S0 E) (S0 E).heap ∧ va_OF "java/lang/String" "coder" "B" (.int 0) q (aA E) (S0 E) (S0 E).heap ∧ va_OF "java/lang/String" "value" "[B" (.ref v) q (aA E) (S0 E) (S0 E).heap ∧ va_T .byte v cs.length (fun j => .int (nI (cs.getD j 0))) (aA E) (S0 E) (S0 E).heap
def eSt (E : eN) : Prop := va_Z "java/lang/String" "COMPACT_STRINGS" "Z" (.int 1) (aA E) (S0 E) (S0 E).heap ∧ va_Zq "jdk/internal/util/Preconditions" "SIOOBE_FORMATTER" "Ljava/util/function/BiFunction;" (aA E) (S0 E) (S0 E).heap ∧ ∀ r ∈ strTab, ∃ q : Nat, vk_R r.1 r.2.1 r.2.2.1 q (S0 E) ∧ strAt E r.2.2.2 q
theorem w_old {E : eN} {f : aH} {t : Nat} {H : Heap} (hw : wH E f t H) : ∀ a : Nat, a < (S0 E).heap.size → ¬ aA E a → H[a]? = (S0 E).heap[a]? := fun a ha _ => hw.2.2.1 a ha
section STR
variable {E : eN} {I : mR} {mc ms : Nat} {Q : aP} {pc : Nat} {lo : List (Option Value)} {st : List Value} {f : aH} {t bc bs : Nat}
theorem v_ldcS (hS : eSt E) {ix : Nat} {r : String × Nat × String × List Nat} (d : decode I.2.1 pc = .ok (.ldc ix, 2)) (hr : r ∈ strTab) (h1 : r.1 = I.1.cls) (h2 : r.2.1 = ix) (kk : ∀ q, strAt E r.2.2.2 q → V E I mc ms Q (pc + 2) lo (.ref q :: st) f t bc bs) : V E I mc ms Q pc lo st f t bc bs := by
  intro p e R s m args below meth c C H locs cells slots ls hw hz hc hs hl
  obtain ⟨q, hq, hq2⟩ := hS.2.2 r hr
  have hZ : vk_R I.1.cls ix r.2.2.1 q s := by
    have := vk_R.warm C.2.2.2.2.1 hq
    rwa [h1, h2] at this
  exact va_ldcS C.1 C.2.1 C.2.2.2.1 hZ d (kk q hq2 p e R s m args below meth c C H locs cells slots ls hw hz hc hs hl)
theorem v_gstat (hE : eOk E) {ix : Nat} {C0 n d0 : String} {v : Value} (hZ : va_Z C0 n d0 v (aA E) (S0 E) (S0 E).heap) (d : decode I.2.1 pc = .ok (.getstatic ix, 3)) (hL : Cond.fieldLink I.1.cls ix C0 n d0 ∈ lw_tbl) (kk : V E I mc ms Q (pc + 3) lo (v :: st) f t bc bs) : V E I mc ms Q pc lo st f t bc bs := by
  intro p e R s m args below meth c C H locs cells slots ls hw hz hc hs hl
  have hW := C.2.2.2.2.1
  obtain ⟨cf, kf, fi, fd, a, cell, h1, h2, h3, h4, h5, h6, h7, h8⟩ := (va_Z.moved hW.alike hZ).kept (w_old hw)
  exact W.gets C.1 C.2.1 C.2.2.2.1 (e_w hE hW hL rfl args) h1 h2 h3 h4 h5 (fun e => by rw [e] at h6; cases h6) h7 rfl d (kk p e R s m args below meth c C H locs cells slots ls hw hz hc hs hl)
theorem v_oget (hE : eOk E) {ix q : Nat} {C0 n d0 : String} {v : Value} (hF : va_OF C0 n d0 v q (aA E) (S0 E) (S0 E).heap) (d : decode I.2.1 pc = .ok (.getfield ix, 3)) (hL : Cond.fieldLink I.1.cls ix C0 n d0 ∈ lw_tbl) (kk : V E I mc ms Q (pc + 3) lo (v :: st) f t bc bs) : V E I mc ms Q pc lo (.ref q :: st) f t bc bs := by
  intro p e R s m args below meth c C H locs cells slots ls hw hz hc hs hl
  have hW := C.2.2.2.2.1
  obtain ⟨cf, k, fi, fd, cell, h1, h2, h3, h4, h5, h6⟩ := (va_OF.moved hW.alike hF).kept (w_old hw)
  exact W.getf C.1 C.2.1 C.2.2.2.1 (e_w hE hW hL rfl args) h1 h2 h3 h4 (v := v) h5 rfl rfl d (kk p e R s m args below meth c C H locs cells slots ls hw hz hc hs hl)
theorem v_obald {q N i : Nat} {F : Nat → Value} (hT : va_T .byte q N F (aA E) (S0 E) (S0 E).heap) (d : decode I.2.1 pc = .ok (.baload, 1)) (hi : i < N) (hn : i < 2 ^ 31) (kk : V E I mc ms Q (pc + 1) lo (F i :: st) f t bc bs) : V E I mc ms Q pc lo (.int (nI i) :: .ref q :: st) f t bc bs := by
  intro p e R s m args below meth c C H locs cells slots ls hw hz hc hs hl
  have hW := C.2.2.2.2.1
  obtain ⟨cell, h1, h2, h3, h4, h5, h6, h7⟩ := (va_T.moved hW.alike hT).kept (w_old hw)
  exact W.bald (v := F i) C.1 C.2.1 h1 h2 h3 (fun z => by rcases z with z | z; exact nI_pos hn z; rw [nI_clamp hn] at z; omega) (by rw [nI_clamp hn]; exact h6 _ hi) rfl rfl d (kk p e R s m args below meth c C H locs cells slots ls hw hz hc hs hl)
theorem v_oblen {q N : Nat} {F : Nat → Value} (hT : va_T .byte q N F (aA E) (S0 E) (S0 E).heap) (d : decode I.2.1 pc = .ok (.arraylength, 1)) (kk : V E I mc ms Q (pc + 1) lo (.int (nI N) :: st) f t bc bs) : V E I mc ms Q pc lo (.ref q :: st) f t bc bs := by
  intro p e R s m args below meth c C H locs cells slots ls hw hz hc hs hl
  have hW := C.2.2.2.2.1
  obtain ⟨cell, h1, h2, h3, h4, h5, h6, h7⟩ := (va_T.moved hW.alike hT).kept (w_old hw)
  exact W.alen (n := nI N) C.1 C.2.1 h1 h2 h5 rfl rfl d (kk p e R s m args below meth c C H locs cells slots ls hw hz hc hs hl)

theorem v_callO (hE : eOk E) {I2 : mR} {Q2 : aP} {st0 : List Value} {mc2 ms2 : Nat} {ix b n : Nat} {As : List Value} {cs2 : List Nat} (d : decode I.2.1 pc = .ok (.invokevirtual ix, 3)) (hL : mLb I.1.cls ix I2 n 0 false = true) (hb : strAt E cs2 b) (hci : I2.1.cls = "java/lang/String") (hst : st0 = As.reverse ++ .ref b :: st)
    (hM : mT E I2 mc2 ms2 (.ref b :: As) f t Q2) (hn : As.length = n) (hfr : I2.2.2.2.2.1 + 1 ≤ I.2.2.2.2.1) (hlo : 8 + (I2.2.2.1 + 11) + I2.2.2.2.2.2 ≤ I.2.2.2.2.2) (hcat : (st.map fun v => v.category).sum ≤ 8) (hbc : mc2 ≤ bc) (hbs : ms2 ≤ bs)
    (kk : ∀ (v : Option Value) (g : aH) (u : Nat), Q2 (.inl v) g u → V E I mc ms Q (pc + 3) lo (v.toList ++ st) g u (bc - mc2) (bs - ms2)) (kx : ∀ n g u, Q2 (.inr n) g u → Q (.inr n) g u) : V E I mc ms Q pc lo st0 f t bc bs := by
  subst hn
  intro p e R s m args below meth c C H locs cells slots ls hw hz hc hs hl
  have hW := C.2.2.2.2.1
  have hR := C.2.2.2.2.2.2.2.2.1
  obtain ⟨-, l1, l2, l3, l4, l5, l6, -, -⟩ := mLb_spec hL
  obtain ⟨l7, l8⟩ := l6 rfl
  obtain ⟨-, hO, -⟩ := hb
  obtain ⟨cell, q1, q3, hrc, -⟩ := (va_O.moved hW.alike hO).kept (w_old hw)
  rw [← hci] at hrc
  have hR1 : R.cells = mc := by rw [hR]
  have hR2 : R.slots = ms := by rw [hR]
  refine r_callX (vx_runV (Ts := []) (n := As.length) (C := I2.1.cls) (bytes := I2.2.1) (maxL := I2.2.2.1) (ret := I2.2.2.2.1) ⟨C.1, C.2.1, C.2.2.1, C.2.2.2.1, fun _ h => by cases h⟩ hM
    ⟨⟨rfl, rfl, by rw [hR]; exact hfr, by rw [hR]; exact hlo, fun w hw9 a' U hU => ?_, List.mem_singleton.mpr rfl, e_w hE hW l2 rfl args, e_w hE hW l3 rfl args, l4, l5, e_w hE hW (l1 rfl) rfl args⟩, e_w hE hW l7 rfl args, e_w hE hW l8 rfl args⟩
    ⟨e_blind, ⟨cell, q1, q3, hrc⟩, fun U hU hUW => ⟨rfl, State.WarmedH.trans hW hUW, by rw [hU]; exact hw⟩⟩ rfl rfl hl.1 hst (lv_room hcat) d ⟨by rw [hR1]; omega, by rw [hR2]; omega⟩) hz C.2.2.2.2.2.2.2.2.2 C.2.2.2.2.2.1 (by omega) (by omega) kx ?_
  · rw [List.mem_singleton.mp hw9]
    exact e_w hE (State.WarmedH.trans hW hU) l2 rfl a'
  · intro v g u H1 locs1 hq hw1 hz1
    exact kk v g u hq p e R s m args below meth c C H1 locs1 _ _ ls hw1 hz1 (by omega) (by omega) hl

end STR
theorem fits_S {cs : List Nat} (h : ∀ c ∈ cs, c < 128) (i : Nat) : cs.getD i 0 < 128 := by
  by_cases hi : i < cs.length
  · rw [List.getD_eq_getElem?_getD, List.getElem?_eq_getElem hi]; exact h _ (List.getElem_mem hi)
  · rw [List.getD_eq_getElem?_getD, List.getElem?_eq_none (by omega)]; decide
theorem tx_ok : ∀ r ∈ strTab, ∀ c ∈ r.2.2.2, c < 128 := by decide +kernel
set_option maxRecDepth 100000 in
set_option maxHeartbeats 4000000 in
/-- String.coder() -/
theorem sJ0_coder_7d493 {E : eN} (hE : eOk E) {f : aH} {t : Nat} {q : Nat} {cs : List Nat} (hS : eSt E) (h : strAt E cs q) : mT E mJ0_coder_7d493 0 0 [.ref q] f t (fun o f' t' => o = .inl (some (.int (nI 0))) ∧ t' = t ∧ f' = f) := by
  refine mT_of (n := 0) (lo := [some (.ref q)]) (by decide) (by exact Nat.le_of_ble_eq_true rfl) rfl rfl ?_
  obtain ⟨w, s0, s1, s2, s3⟩ := id h
  refine v_gstat hE hS.1 dJ0_coder_7d493_0 (mem_at (j := 874) (by decide +kernel)) ?_
  refine v_if_eq (tgt := 13) dJ0_coder_7d493_3 (by decide) (fun c3 => ?_) (fun c3 => ?_)
  · exact absurd c3 (by decide)
  · refine v_aload_n dJ0_coder_7d493_6 rfl (by rfl) ?_
    refine v_oget hE s1 dJ0_coder_7d493_7 (mem_at (j := 1927) (by decide +kernel)) ?_
    refine v_goto (tgt := 14) dJ0_coder_7d493_10 (by decide) ?_
    refine v_iret dJ0_coder_7d493_14 rfl (by rfl) ?_
    exact ⟨rfl, rfl, rfl⟩

set_option maxRecDepth 100000 in
set_option maxHeartbeats 4000000 in
/-- String.isLatin1() -/
theorem sJ0_isLatin1_aae02 {E : eN} (hE : eOk E) {f : aH} {t : Nat} {q : Nat} {cs : List Nat} (hS : eSt E) (h : strAt E cs q) : mT E mJ0_isLatin1_aae02 0 0 [.ref q] f t (fun o f' t' => o = .inl (some (.int (nI 1))) ∧ t' = t ∧ f' = f) := by
  refine mT_of (n := 0) (lo := [some (.ref q)]) (by decide) (by exact Nat.le_of_ble_eq_true rfl) rfl rfl ?_
  obtain ⟨w, s0, s1, s2, s3⟩ := id h
  refine v_gstat hE hS.1 dJ0_isLatin1_aae02_0 (mem_at (j := 874) (by decide +kernel)) ?_
  refine v_if_eq (tgt := 17) dJ0_isLatin1_aae02_3 (by decide) (fun c3 => ?_) (fun c3 => ?_)
  · exact absurd c3 (by decide)
  · refine v_aload_n dJ0_isLatin1_aae02_6 rfl (by rfl) ?_
    refine v_oget hE s1 dJ0_isLatin1_aae02_7 (mem_at (j := 1927) (by decide +kernel)) ?_
    refine v_if_ne (tgt := 17) dJ0_isLatin1_aae02_10 (by decide) (fun c10 => ?_) (fun c10 => ?_)
    · exact absurd rfl c10
    · refine v_iconst (v := nI 1) dJ0_isLatin1_aae02_13 (by decide) ?_
      refine v_goto (tgt := 18) dJ0_isLatin1_aae02_14 (by decide) ?_
      refine v_iret dJ0_isLatin1_aae02_18 rfl (by rfl) ?_
      exact ⟨rfl, rfl, rfl⟩

set_option maxRecDepth 100000 in
set_option maxHeartbeats 4000000 in
/-- String.length() -/
theorem sJ0_length_8abf5 {E : eN} (hE : eOk E) {f : aH} {t : Nat} {q : Nat} {cs : List Nat} (hS : eSt E) (h : strAt E cs q) : mT E mJ0_length_8abf5 0 0 [.ref q] f t (fun o f' t' => o = .inl (some (.int (nI cs.length))) ∧ t' = t ∧ f' = f) := by
  refine mT_of (n := 0) (lo := [some (.ref q)]) (by decide) (by exact Nat.le_of_ble_eq_true rfl) rfl rfl ?_
  obtain ⟨w, s0, s1, s2, s3⟩ := id h
  refine v_aload_n dJ0_length_8abf5_0 rfl (by rfl) ?_
  refine v_oget hE s2 dJ0_length_8abf5_1 (mem_at (j := 1926) (by decide +kernel)) ?_
  refine v_oblen s3 dJ0_length_8abf5_4 ?_
  refine v_aload_n dJ0_length_8abf5_5 rfl (by rfl) ?_
  refine v_callO hE dJ0_length_8abf5_6 kJ0_335 h rfl (by rfl) (sJ0_coder_7d493 hE hS h) rfl (by decide) (by decide) (by exact Nat.le_of_ble_eq_true rfl) (by omega) (by omega) (fun v9 g9 u9 h9 => ?_) (fun _ _ _ h => by cases h.1)
  obtain ⟨hv9, hu9, hg9⟩ := h9
  replace hu9 := hu9.symm
  replace hg9 := hg9.symm
  subst hu9
  subst hg9
  cases hv9
  refine v_ishr dJ0_length_8abf5_9 ?_
  refine v_eqi (y := nI cs.length) (sb_shr0 _) ?_
  refine v_iret dJ0_length_8abf5_10 rfl (by rfl) ?_
  exact ⟨rfl, rfl, rfl⟩

set_option maxRecDepth 100000 in
set_option maxHeartbeats 4000000 in
/-- Preconditions.checkIndex -/
theorem sJ3_checkIndex_N {E : eN} (hE : eOk E) {f : aH} {t : Nat} {i n : Nat} (hi : i < n) (hn : n < 2 ^ 30) : mT E mJ3_checkIndex_8e157 0 0 [.int (nI i), .int (nI n), .null] f t (fun o f' t' => o = .inl (some (.int (nI i))) ∧ t' = t ∧ f' = f) := by
  refine mT_of (n := 0) (lo := [some (.int (nI i)), some (.int (nI n)), some (.null)]) (by decide) (by exact Nat.le_of_ble_eq_true rfl) rfl rfl ?_
  refine v_iload_n dJ3_checkIndex_8e157_0 rfl (by rfl) ?_
  refine v_if_lt (tgt := 9) dJ3_checkIndex_8e157_1 (by decide) (fun c1 => ?_) (fun c1 => ?_)
  · exact absurd c1 (nI_pos (by omega))
  · refine v_iload_n dJ3_checkIndex_8e157_4 rfl (by rfl) ?_
    refine v_iload_n dJ3_checkIndex_8e157_5 rfl (by rfl) ?_
    refine v_icmp_ltN (tgt := 16) dJ3_checkIndex_8e157_6 (by decide) (by omega) (by omega) (fun c6 => ?_) (fun c6 => ?_)
    · refine v_iload_n dJ3_checkIndex_8e157_16 rfl (by rfl) ?_
      refine v_iret dJ3_checkIndex_8e157_17 rfl (by rfl) ?_
      exact ⟨rfl, rfl, rfl⟩
    · exact absurd c6 (by omega)

set_option maxRecDepth 100000 in
set_option maxHeartbeats 4000000 in
/-- Preconditions.checkIndex -/
theorem sJ3_checkIndex_R {E : eN} (hE : eOk E) {f : aH} {t : Nat} {i n z : Nat} (hi : i < n) (hn : n < 2 ^ 30) : mT E mJ3_checkIndex_8e157 0 0 [.int (nI i), .int (nI n), .ref z] f t (fun o f' t' => o = .inl (some (.int (nI i))) ∧ t' = t ∧ f' = f) := by
  refine mT_of (n := 0) (lo := [some (.int (nI i)), some (.int (nI n)), some (.ref z)]) (by decide) (by exact Nat.le_of_ble_eq_true rfl) rfl rfl ?_
  refine v_iload_n dJ3_checkIndex_8e157_0 rfl (by rfl) ?_
  refine v_if_lt (tgt := 9) dJ3_checkIndex_8e157_1 (by decide) (fun c1 => ?_) (fun c1 => ?_)
  · exact absurd c1 (nI_pos (by omega))
  · refine v_iload_n dJ3_checkIndex_8e157_4 rfl (by rfl) ?_
    refine v_iload_n dJ3_checkIndex_8e157_5 rfl (by rfl) ?_
    refine v_icmp_ltN (tgt := 16) dJ3_checkIndex_8e157_6 (by decide) (by omega) (by omega) (fun c6 => ?_) (fun c6 => ?_)
    · refine v_iload_n dJ3_checkIndex_8e157_16 rfl (by rfl) ?_
      refine v_iret dJ3_checkIndex_8e157_17 rfl (by rfl) ?_
      exact ⟨rfl, rfl, rfl⟩
    · exact absurd c6 (by omega)

set_option maxRecDepth 100000 in
set_option maxHeartbeats 4000000 in
/-- String.checkIndex -/
theorem sJ0_checkIndex_df160 {E : eN} (hE : eOk E) {f : aH} {t : Nat} {i n : Nat} (hS : eSt E) (hi : i < n) (hn : n < 2 ^ 30) : mT E mJ0_checkIndex_df160 0 0 [.int (nI i), .int (nI n)] f t (fun o f' t' => o = .inl none ∧ t' = t ∧ f' = f) := by
  refine mT_of (n := 0) (lo := [some (.int (nI i)), some (.int (nI n))]) (by decide) (by exact Nat.le_of_ble_eq_true rfl) rfl rfl ?_
  rcases hS.2.1 with hz | ⟨z, hz⟩
  · refine v_iload_n dJ0_checkIndex_df160_0 rfl (by rfl) ?_
    refine v_iload_n dJ0_checkIndex_df160_1 rfl (by rfl) ?_
    refine v_gstat hE hz dJ0_checkIndex_df160_2 (mem_at (j := 894) (by decide +kernel)) ?_
    refine w_callS hE dJ0_checkIndex_df160_5 kJ0_1059 (by rfl) (sJ3_checkIndex_N hE hi hn) rfl (by decide) (by decide) (by exact Nat.le_of_ble_eq_true rfl) (by omega) (by omega) (fun v9 g9 u9 h9 => ?_) (fun _ _ _ h => by cases h.1)
    obtain ⟨hv9, hu9, hg9⟩ := h9
    replace hu9 := hu9.symm
    replace hg9 := hg9.symm
    subst hu9
    subst hg9
    cases hv9
    refine v_pop dJ0_checkIndex_df160_8 rfl ?_
    refine v_ret dJ0_checkIndex_df160_9 rfl ?_
    exact ⟨rfl, rfl, rfl⟩
  · refine v_iload_n dJ0_checkIndex_df160_0 rfl (by rfl) ?_
    refine v_iload_n dJ0_checkIndex_df160_1 rfl (by rfl) ?_
    refine v_gstat hE hz dJ0_checkIndex_df160_2 (mem_at (j := 894) (by decide +kernel)) ?_
    refine w_callS hE dJ0_checkIndex_df160_5 kJ0_1059 (by rfl) (sJ3_checkIndex_R hE hi hn) rfl (by decide) (by decide) (by exact Nat.le_of_ble_eq_true rfl) (by omega) (by omega) (fun v9 g9 u9 h9 => ?_) (fun _ _ _ h => by cases h.1)
    obtain ⟨hv9, hu9, hg9⟩ := h9
    replace hu9 := hu9.symm
    replace hg9 := hg9.symm
    subst hu9
    subst hg9
    cases hv9
    refine v_pop dJ0_checkIndex_df160_8 rfl ?_
    refine v_ret dJ0_checkIndex_df160_9 rfl ?_
    exact ⟨rfl, rfl, rfl⟩

theorem ch_of {c : Nat} (h : c < 128) : ((nI c &&& nI 255).toUInt32 % 65536).toInt32 = nI c := by
  have h1 : nI c &&& nI 255 = nI (c % 2 ^ 8) := pk_andN (by omega) 8 (by decide)
  rw [h1, Nat.mod_eq_of_lt (by omega), pk_char, pk_tn (by omega), Nat.mod_eq_of_lt (by omega)]
theorem nar_ch {c : Nat} (h : c < 128) : narrow .char (.int (nI c)) = .int (nI c) := (pk_charN (by omega)).1

set_option maxRecDepth 100000 in
set_option maxHeartbeats 4000000 in
/-- StringLatin1.charAt -/
theorem sJ1_charAt_3b067 {E : eN} (hE : eOk E) {f : aH} {t : Nat} {w i : Nat} {cs : List Nat} (hS : eSt E) (hT : va_T .byte w cs.length (fun j => .int (nI (cs.getD j 0))) (aA E) (S0 E) (S0 E).heap) (hcs : ∀ c ∈ cs, c < 128) (hi : i < cs.length) (hn : cs.length < 2 ^ 30) : mT E mJ1_charAt_3b067 0 0 [.ref w, .int (nI i)] f t (fun o f' t' => o = .inl (some (.int (nI (cs.getD i 0)))) ∧ t' = t ∧ f' = f) := by
  refine mT_of (n := 0) (lo := [some (.ref w), some (.int (nI i))]) (by decide) (by exact Nat.le_of_ble_eq_true rfl) rfl rfl ?_
  have hc := fits_S hcs i
  refine v_iload_n dJ1_charAt_3b067_0 rfl (by rfl) ?_
  refine v_aload_n dJ1_charAt_3b067_1 rfl (by rfl) ?_
  refine v_oblen hT dJ1_charAt_3b067_2 ?_
  refine w_callS hE dJ1_charAt_3b067_3 kJ1_9 (by rfl) (sJ0_checkIndex_df160 hE hS hi hn) rfl (by decide) (by decide) (by exact Nat.le_of_ble_eq_true rfl) (by omega) (by omega) (fun v9 g9 u9 h9 => ?_) (fun _ _ _ h => by cases h.1)
  obtain ⟨hv9, hu9, hg9⟩ := h9
  replace hu9 := hu9.symm
  replace hg9 := hg9.symm
  subst hu9
  subst hg9
  cases hv9
  refine v_aload_n dJ1_charAt_3b067_6 rfl (by rfl) ?_
  refine v_iload_n dJ1_charAt_3b067_7 rfl (by rfl) ?_
  refine v_obald hT dJ1_charAt_3b067_8 hi (by omega) ?_
  refine v_sipush (v := nI 255) dJ1_charAt_3b067_9 (by decide) ?_
  refine v_iand dJ1_charAt_3b067_12 ?_
  refine v_i2c dJ1_charAt_3b067_13 (ch_of hc) ?_
  refine v_iret dJ1_charAt_3b067_14 rfl (nar_ch hc) ?_
  exact ⟨rfl, rfl, rfl⟩

set_option maxRecDepth 100000 in
set_option maxHeartbeats 4000000 in
/-- String.charAt -/
theorem sJ0_charAt_5068e {E : eN} (hE : eOk E) {f : aH} {t : Nat} {q i : Nat} {cs : List Nat} (hS : eSt E) (h : strAt E cs q) (hcs : ∀ c ∈ cs, c < 128) (hi : i < cs.length) (hn : cs.length < 2 ^ 30) : mT E mJ0_charAt_5068e 0 0 [.ref q, .int (nI i)] f t (fun o f' t' => o = .inl (some (.int (nI (cs.getD i 0)))) ∧ t' = t ∧ f' = f) := by
  refine mT_of (n := 0) (lo := [some (.ref q), some (.int (nI i))]) (by decide) (by exact Nat.le_of_ble_eq_true rfl) rfl rfl ?_
  obtain ⟨w, s0, s1, s2, s3⟩ := id h
  have hc := fits_S hcs i
  refine v_aload_n dJ0_charAt_5068e_0 rfl (by rfl) ?_
  refine v_callO hE dJ0_charAt_5068e_1 kJ0_492 h rfl (by rfl) (sJ0_isLatin1_aae02 hE hS h) rfl (by decide) (by decide) (by exact Nat.le_of_ble_eq_true rfl) (by omega) (by omega) (fun v9 g9 u9 h9 => ?_) (fun _ _ _ h => by cases h.1)
  obtain ⟨hv9, hu9, hg9⟩ := h9
  replace hu9 := hu9.symm
  replace hg9 := hg9.symm
  subst hu9
  subst hg9
  cases hv9
  refine v_if_eq (tgt := 16) dJ0_charAt_5068e_4 (by decide) (fun c4 => ?_) (fun c4 => ?_)
  · exact absurd c4 (by decide)
  · refine v_aload_n dJ0_charAt_5068e_7 rfl (by rfl) ?_
    refine v_oget hE s2 dJ0_charAt_5068e_8 (mem_at (j := 1926) (by decide +kernel)) ?_
    refine v_iload_n dJ0_charAt_5068e_11 rfl (by rfl) ?_
    refine w_callS hE dJ0_charAt_5068e_12 kJ0_495 (by rfl) (sJ1_charAt_3b067 hE hS s3 hcs hi hn) rfl (by decide) (by decide) (by exact Nat.le_of_ble_eq_true rfl) (by omega) (by omega) (fun v9 g9 u9 h9 => ?_) (fun _ _ _ h => by cases h.1)
    obtain ⟨hv9, hu9, hg9⟩ := h9
    replace hu9 := hu9.symm
    replace hg9 := hg9.symm
    subst hu9
    subst hg9
    cases hv9
    refine v_iret dJ0_charAt_5068e_15 rfl (nar_ch hc) ?_
    exact ⟨rfl, rfl, rfl⟩
