/-! THE LAW: its cases -/
abbrev mL_law : mR := (yL_law, cL_law, 7, some .boolean, 15, 590)
def lwQ : aP := fun o _ _ => o = .inl (some (.int 1))
/-- the desk, the model and the row for answers, between two calls -/
def lwS (f : aH) (D M O t : Nat) (x : dV) (y : mV) : Prop := dOk D x ∧ mRel x y ∧ dkP f D x ∧ mdS f M y = f ∧ (∃ g0 : Nat → Int64, f O = .inl (3, 1, .inr (.inl g0))) ∧ D + 1322 < M ∧ M + 39 < O ∧ O < t
theorem lw_mk {f g : aH} {M : Nat} {y : mV} (h : mdS f M y = f) (e : ∀ b, M ≤ b → b ≤ M + 39 → g b = f b) : g = mdS g M y := by
  funext b
  by_cases c : M ≤ b ∧ b ≤ M + 39
  · rw [e b c.1 c.2, ← congrFun h b]
    unfold mdS
    by_cases c1 : b = M
    · rw [if_pos c1, if_pos c1]
    · rw [if_neg c1, if_neg c1, if_pos (by omega), if_pos (by omega)]
  · exact (mdS_ne (by omega)).symm
theorem lw_new {f g : aH} {D M O t u : Nat} {x x2 : dV} {y y2 : mV} (h : lwS f D M O t x y) (hu : t ≤ u) (hd : dkP g D x2) (hO : ∃ g1 : Nat → Int64, g O = .inl (3, 1, .inr (.inl g1))) (hok : dOk D x2) (hr : mRel x2 y2) : lwS (mdS g M y2) D M O u x2 y2 := by
  obtain ⟨-, -, -, -, -, h1, h2, h3⟩ := h
  obtain ⟨g1, hg⟩ := hO
  exact ⟨hok, hr, dkP_c hok.1 hd (fun b q1 q2 => mdS_ne (by omega)), mdS_S, ⟨g1, (mdS_ne (by omega)).trans hg⟩, h1, h2, by omega⟩
theorem lw_few {E : eN} {I : mR} {mc ms : Nat} {Q : aP} {pc : Nat} {a b c d e p q : Option Value} {st : List Value} {f : aH} {t bc bs : Nat} (k : V E I mc ms Q pc [a, b, c, d, e, none, none] st f t bc bs) : V E I mc ms Q pc [a, b, c, d, e, p, q] st f t bc bs := by
  refine v_few (lo2 := [a, b, c, d, e, none, none]) rfl (fun k v h => ?_) k
  match k, h with
  | 0, h => exact h
  | 1, h => exact h
  | 2, h => exact h
  | 3, h => exact h
  | 4, h => exact h
  | 5, h => cases h
  | 6, h => cases h
  | k + 7, h => cases h
theorem lg_self {x : Int64} : lg_cmp x x = 0 := by
  unfold lg_cmp
  simp

set_option maxRecDepth 100000 in
theorem hL_feed : mHb RL 70 mL_feed [(0, 11, 14, 13)] 4 := ⟨(mem_at (j := 692) (by decide +kernel)), (mem_at (j := 694) (by rfl)), (mem_at (j := 121) (by decide +kernel)), (by decide +kernel), (by decide +kernel), (mem_at (j := 693) (by decide +kernel))⟩
set_option maxRecDepth 100000 in
theorem hL_read : mHb RL 84 mL_read [(0, 9, 12, 19)] 3 := ⟨(mem_at (j := 772) (by decide +kernel)), (mem_at (j := 774) (by rfl)), (mem_at (j := 121) (by decide +kernel)), (by decide +kernel), (by decide +kernel), (mem_at (j := 773) (by decide +kernel))⟩
set_option maxRecDepth 100000 in
theorem hL_sequence : mHb RL 92 mL_sequence [(0, 10, 13, 19)] 4 := ⟨(mem_at (j := 1050) (by decide +kernel)), (mem_at (j := 1052) (by rfl)), (mem_at (j := 121) (by decide +kernel)), (by decide +kernel), (by decide +kernel), (mem_at (j := 1051) (by decide +kernel))⟩
set_option maxRecDepth 100000 in
theorem hL_letter : mHb RL 96 mL_letter [(0, 10, 13, 19)] 4 := ⟨(mem_at (j := 1067) (by decide +kernel)), (mem_at (j := 1069) (by rfl)), (mem_at (j := 121) (by decide +kernel)), (by decide +kernel), (by decide +kernel), (mem_at (j := 1068) (by decide +kernel))⟩
set_option maxRecDepth 100000 in
theorem hL_table : mHb RL 99 mL_table [(0, 10, 13, 19)] 4 := ⟨(mem_at (j := 1081) (by decide +kernel)), (mem_at (j := 1083) (by rfl)), (mem_at (j := 121) (by decide +kernel)), (by decide +kernel), (by decide +kernel), (mem_at (j := 1082) (by decide +kernel))⟩
set_option maxRecDepth 100000 in
theorem hL_record : mHb RL 102 mL_record [(0, 12, 15, 19)] 5 := ⟨(mem_at (j := 1089) (by decide +kernel)), (mem_at (j := 1091) (by rfl)), (mem_at (j := 121) (by decide +kernel)), (by decide +kernel), (by decide +kernel), (mem_at (j := 1090) (by decide +kernel))⟩
set_option maxRecDepth 100000 in
theorem hL_row : mHb RL 106 mL_row [(0, 14, 17, 19)] 6 := ⟨(mem_at (j := 1102) (by decide +kernel)), (mem_at (j := 1104) (by rfl)), (mem_at (j := 121) (by decide +kernel)), (by decide +kernel), (by decide +kernel), (mem_at (j := 1103) (by decide +kernel))⟩
set_option maxRecDepth 100000 in
theorem hL_call : mHb RL 110 mL_call [(0, 14, 17, 19)] 6 := ⟨(mem_at (j := 1111) (by decide +kernel)), (mem_at (j := 1113) (by rfl)), (mem_at (j := 121) (by decide +kernel)), (by decide +kernel), (by decide +kernel), (mem_at (j := 1112) (by decide +kernel))⟩
set_option maxRecDepth 100000 in
theorem hL_normalise : mHb RL 113 mL_normalise [(0, 9, 12, 19)] 3 := ⟨(mem_at (j := 1128) (by decide +kernel)), (mem_at (j := 1130) (by rfl)), (mem_at (j := 121) (by decide +kernel)), (by decide +kernel), (by decide +kernel), (mem_at (j := 1129) (by decide +kernel))⟩
set_option maxRecDepth 100000 in
theorem hL_split : mHb RL 116 mL_split [(0, 9, 12, 19)] 3 := ⟨(mem_at (j := 1180) (by decide +kernel)), (mem_at (j := 1182) (by rfl)), (mem_at (j := 121) (by decide +kernel)), (by decide +kernel), (by decide +kernel), (mem_at (j := 1181) (by decide +kernel))⟩
set_option maxRecDepth 100000 in
theorem hL_join : mHb RL 119 mL_join [(0, 9, 12, 19)] 3 := ⟨(mem_at (j := 1222) (by decide +kernel)), (mem_at (j := 1224) (by rfl)), (mem_at (j := 121) (by decide +kernel)), (by decide +kernel), (by decide +kernel), (mem_at (j := 1223) (by decide +kernel))⟩
set_option maxRecDepth 100000 in
theorem hL_sort : mHb RL 122 mL_sort [(0, 9, 12, 19)] 3 := ⟨(mem_at (j := 1273) (by decide +kernel)), (mem_at (j := 1275) (by rfl)), (mem_at (j := 121) (by decide +kernel)), (by decide +kernel), (by decide +kernel), (mem_at (j := 1274) (by decide +kernel))⟩
set_option maxRecDepth 100000 in
theorem hL_apply : mHb RL 129 mL_apply [(0, 14, 17, 19)] 6 := ⟨(mem_at (j := 1280) (by decide +kernel)), (mem_at (j := 1282) (by rfl)), (mem_at (j := 121) (by decide +kernel)), (by decide +kernel), (by decide +kernel), (mem_at (j := 1281) (by decide +kernel))⟩
set_option maxRecDepth 100000 in
theorem hL_same : mHb RL 140 mL_same [(0, 21, 24, 19)] 6 := ⟨(mem_at (j := 1321) (by decide +kernel)), (mem_at (j := 1323) (by rfl)), (mem_at (j := 121) (by decide +kernel)), (by decide +kernel), (by decide +kernel), (mem_at (j := 1322) (by decide +kernel))⟩
set_option maxRecDepth 100000 in
theorem hL_write : mHb RL 143 mL_write [(0, 9, 12, 19)] 3 := ⟨(mem_at (j := 1341) (by decide +kernel)), (mem_at (j := 1343) (by rfl)), (mem_at (j := 121) (by decide +kernel)), (by decide +kernel), (by decide +kernel), (mem_at (j := 1342) (by decide +kernel))⟩
theorem so_reference {x : dV} : ∃ a, (pRef x).1 = some a := by
  unfold pRef
  split
  · exact ⟨_, rfl⟩
  · exact ⟨_, rfl⟩
theorem so_again {x : dV} : ∃ a, (pAga x).1 = some a := ⟨_, rfl⟩
theorem so_merge {x : dV} : ∃ a, (pMer x).1 = some a := by
  unfold pMer
  split
  · split
    · exact ⟨_, rfl⟩
    · exact ⟨_, rfl⟩
  · exact ⟨_, rfl⟩
set_option maxRecDepth 100000 in
set_option maxHeartbeats 4000000 in
theorem lw_feed {E : eN} (hE : eOk E) (hS : eSt E) (hT : eTh E) {f : aH} {t D M O b L i bc bs : Nat} {x : dV} {y : mV} {xs : Nat → Int32} (hX : va_X b L xs (S0 E) (S0 E).heap) (hL : L ≤ 2560) (hi : i + 4 < L) (hs : lwS f D M O t x y) (hbc : 5 ≤ bc) (hbs : 31 ≤ bs) (kk : ∀ (f' : aH) (t' : Nat) (x' : dV) (y' : mV) (bc' bs' : Nat), lwS f' D M O t' x' y' → bc ≤ bc' + 5 → bs ≤ bs' + 31 → V E mL_law 601024 7293034 lwQ 1362 [some (.ref b), some (.ref D), some (.ref M), some (.ref O), some (.int (nI i)), none, none] [] f' t' bc' bs') : V E mL_law 601024 7293034 lwQ 140 [some (.ref b), some (.ref D), some (.ref M), some (.ref O), some (.int (nI i)), none, none] [] f t bc bs := by
  obtain ⟨hI, hR, hk, hm, ⟨g0, hO⟩, hDM, hMO, hOt⟩ := id hs
  have ht : D + 1322 < t := by omega
  have hO1 : D + 1322 < O := by omega
  have hu8 := hR.2.1.2.1
  have hlv := hR.2.2.2.2.2.2.2
  refine v_aload_n dL_law_140 rfl (by rfl) ?_
  refine v_aload_n dL_law_141 rfl (by rfl) ?_
  refine v_iload dL_law_142 (by rfl) ?_
  refine v_iconst (v := nI 1) dL_law_144 (by decide) ?_
  refine v_iaddN dL_law_145 ?_
  refine v_sld hX dL_law_146 (by omega) (by omega) ?_
  refine v_aload_n dL_law_147 rfl (by rfl) ?_
  refine v_iload dL_law_148 (by rfl) ?_
  refine v_iconst (v := nI 2) dL_law_150 (by decide) ?_
  refine v_iaddN dL_law_151 ?_
  refine v_sld hX dL_law_152 (by omega) (by omega) ?_
  refine v_i2l dL_law_153 rfl ?_
  refine v_bipush (v := nI 32) dL_law_154 (by decide) ?_
  refine v_lshl dL_law_156 rfl ?_
  refine v_aload_n dL_law_157 rfl (by rfl) ?_
  refine v_iload dL_law_158 (by rfl) ?_
  refine v_iconst (v := nI 3) dL_law_160 (by decide) ?_
  refine v_iaddN dL_law_161 ?_
  refine v_sld hX dL_law_162 (by omega) (by omega) ?_
  refine v_i2l dL_law_163 rfl ?_
  refine v_ldc2 hE (v := 4294967295) dL_law_164 (mem_at (j := 1923) (by decide +kernel)) ?_
  refine v_land dL_law_167 ?_
  refine v_lor dL_law_168 ?_
  refine v_aload_n dL_law_169 rfl (by rfl) ?_
  refine v_callH hE dL_law_170 hL_feed (by rfl) (sL_feed hE hS hT hI hk ht hO hO1 hOt) rfl (fun n9 g9 u9 h9 => by cases h9.1) (by decide) (by decide) (by exact Nat.le_of_ble_eq_true rfl) (by omega) (by omega) (fun v9 g9 u9 h9 => ?_)
  obtain ⟨hv9, hu9, hd9, ⟨g1, hg1, hg2⟩, hf9⟩ := h9
  cases hv9
  refine v_istore dL_law_173 (by decide) ?_
  refine v_hp (lw_mk hm (fun b9 q1 q2 => hf9 b9 (by omega) (Or.inr (by omega)) (by omega))) ?_
  refine v_aload_n dL_law_175 rfl (by rfl) ?_
  refine v_aload_n dL_law_176 rfl (by rfl) ?_
  refine v_iload dL_law_177 (by rfl) ?_
  refine v_iconst (v := nI 1) dL_law_179 (by decide) ?_
  refine v_iaddN dL_law_180 ?_
  refine v_sld hX dL_law_181 (by omega) (by omega) ?_
  refine v_aload_n dL_law_182 rfl (by rfl) ?_
  refine v_iload dL_law_183 (by rfl) ?_
  refine v_iconst (v := nI 2) dL_law_185 (by decide) ?_
  refine v_iaddN dL_law_186 ?_
  refine v_sld hX dL_law_187 (by omega) (by omega) ?_
  refine v_i2l dL_law_188 rfl ?_
  refine v_bipush (v := nI 32) dL_law_189 (by decide) ?_
  refine v_lshl dL_law_191 rfl ?_
  refine v_aload_n dL_law_192 rfl (by rfl) ?_
  refine v_iload dL_law_193 (by rfl) ?_
  refine v_iconst (v := nI 3) dL_law_195 (by decide) ?_
  refine v_iaddN dL_law_196 ?_
  refine v_sld hX dL_law_197 (by omega) (by omega) ?_
  refine v_i2l dL_law_198 rfl ?_
  refine v_ldc2 hE (v := 4294967295) dL_law_199 (mem_at (j := 1923) (by decide +kernel)) ?_
  refine v_land dL_law_202 ?_
  refine v_lor dL_law_203 ?_
  refine w_callV hE dL_law_204 kL_75 mdS_M (by rfl) (by rfl) (sX10_feed hE hR hI) rfl (by decide) (by decide) (by exact Nat.le_of_ble_eq_true rfl) (by omega) (by omega) (fun v8 g8 u8 h8 => ?_) (fun _ _ _ h => by cases h.1)
  obtain ⟨hv8, hu8', y8, hg8, hr8, hy8⟩ := h8
  subst hu8'
  subst hg8
  cases hv8
  refine v_istore dL_law_207 (by decide) ?_
  refine v_aload_n dL_law_209 rfl (by rfl) ?_
  refine w_callV hE dL_law_210 kL_76 mdS_M (by rfl) (by rfl) (sX10_thrown hE) rfl (by decide) (by decide) (by exact Nat.le_of_ble_eq_true rfl) (by omega) (by omega) (fun v7 g7 u7 h7 => ?_) (fun _ _ _ h => by cases h.1)
  obtain ⟨hv7, hu7, hg7⟩ := h7
  subst hu7
  subst hg7
  cases hv7
  refine v_eqi (y := bI (pFeed x (xs (i + 1)) ((xs (i + 2)).toInt64 <<< ((nI 32).toInt64 &&& 63) ||| ((xs (i + 3)).toInt64 &&& 4294967295))).1.isNone) hy8 ?_
  refine v_iload dL_law_213 (by rfl) ?_
  refine v_icmp_eq (tgt := 220) dL_law_215 (by decide) (fun c215 => ?_) (fun c215 => ?_)
  · refine v_iload dL_law_220 (by rfl) ?_
    refine v_if_ne (tgt := 237) dL_law_222 (by decide) (fun c222 => ?_) (fun c222 => ?_)
    · refine v_goto (tgt := 1362) dL_law_237 (by decide) ?_
      exact lw_few (kk _ _ _ _ _ _ (lw_new hs hu9 hd9 ⟨g1, hg1⟩ (dOk_fee hI) hr8) (by omega) (by omega))
    · obtain ⟨a9, ha9⟩ : ∃ a9, (pFeed x (xs (i + 1)) ((xs (i + 2)).toInt64 <<< ((nI 32).toInt64 &&& 63) ||| ((xs (i + 3)).toInt64 &&& 4294967295))).1 = some a9 := by
        cases hc9 : (pFeed x (xs (i + 1)) ((xs (i + 2)).toInt64 <<< ((nI 32).toInt64 &&& 63) ||| ((xs (i + 3)).toInt64 &&& 4294967295))).1 with
        | none =>
          rw [hc9] at c222
          exact absurd c222 (by decide)
        | some a9 => exact ⟨a9, rfl⟩
      refine v_aload_n dL_law_225 rfl (by rfl) ?_
      refine v_iconst (v := nI 0) dL_law_226 (by decide) ?_
      refine v_lald hE dL_law_227 ((mdS_ne (by omega)).trans hg1) (i := 0) (by omega) (by omega) ?_
      refine v_eql (y := c64 a9) (hg2 a9 ha9) ?_
      refine v_iload dL_law_228 (by rfl) ?_
      refine v_eqi (y := a9) (by show ((pFeed x (xs (i + 1)) ((xs (i + 2)).toInt64 <<< ((nI 32).toInt64 &&& 63) ||| ((xs (i + 3)).toInt64 &&& 4294967295))).1.getD (nI 0)) = a9; rw [ha9]; rfl) ?_
      refine v_i2l (v := c64 a9) dL_law_230 rfl ?_
      refine v_lcmp dL_law_231 ?_
      refine v_eqi (y := 0) lg_self ?_
      refine v_if_eq (tgt := 237) dL_law_232 (by decide) (fun c232 => ?_) (fun c232 => ?_)
      · refine v_goto (tgt := 1362) dL_law_237 (by decide) ?_
        exact lw_few (kk _ _ _ _ _ _ (lw_new hs hu9 hd9 ⟨g1, hg1⟩ (dOk_fee hI) hr8) (by omega) (by omega))
      · exact absurd rfl c232
  · exact absurd rfl c215
set_option maxRecDepth 100000 in
set_option maxHeartbeats 4000000 in
theorem lw_reference {E : eN} (hE : eOk E) (hS : eSt E) (hT : eTh E) {f : aH} {t D M O b L i bc bs : Nat} {x : dV} {y : mV} {xs : Nat → Int32} (hX : va_X b L xs (S0 E) (S0 E).heap) (hL : L ≤ 2560) (hi : i + 4 < L) (hs : lwS f D M O t x y) (hbc : 5 ≤ bc) (hbs : 31 ≤ bs) (kk : ∀ (f' : aH) (t' : Nat) (x' : dV) (y' : mV) (bc' bs' : Nat), lwS f' D M O t' x' y' → bc ≤ bc' + 5 → bs ≤ bs' + 31 → V E mL_law 601024 7293034 lwQ 1362 [some (.ref b), some (.ref D), some (.ref M), some (.ref O), some (.int (nI i)), none, none] [] f' t' bc' bs') : V E mL_law 601024 7293034 lwQ 240 [some (.ref b), some (.ref D), some (.ref M), some (.ref O), some (.int (nI i)), none, none] [] f t bc bs := by
  obtain ⟨hI, hR, hk, hm, ⟨g0, hO⟩, hDM, hMO, hOt⟩ := id hs
  have ht : D + 1322 < t := by omega
  have hO1 : D + 1322 < O := by omega
  have hu8 := hR.2.1.2.1
  have hlv := hR.2.2.2.2.2.2.2
  refine v_aload_n dL_law_240 rfl (by rfl) ?_
  refine w_callV hE dL_law_241 kL_80 hk.1 (by rfl) (by rfl) (sX9_reference hE hS hT hI hk ht) rfl (by decide) (by decide) (by exact Nat.le_of_ble_eq_true rfl) (by omega) (by omega) (fun v9 g9 u9 h9 => ?_) (fun n9 g9 u9 h9 => by obtain ⟨a9, ha9⟩ := so_reference (x := x); rw [ha9] at h9; exact (aO_rl (show (Sum.inr n9 : aO) = Sum.inl (some (.int a9)) from h9.1)).elim)
  obtain ⟨hv9, hu9, hd9⟩ := h9
  obtain ⟨a9, ha9⟩ := so_reference (x := x)
  rw [ha9] at hv9
  have hv7 : v9 = some (.int a9) := Sum.inl.inj (show (Sum.inl v9 : aO) = Sum.inl (some (.int a9)) from hv9)
  subst hv7
  refine v_hp (lw_mk hm (fun b9 q1 q2 => hd9.2 b9 (by omega) (Or.inr (by omega)))) ?_
  refine v_aload_n dL_law_244 rfl (by rfl) ?_
  refine w_callV hE dL_law_245 kL_83 mdS_M (by rfl) (by rfl) (sX10_reference hE hR hI) rfl (by decide) (by decide) (by exact Nat.le_of_ble_eq_true rfl) (by omega) (by omega) (fun v8 g8 u8 h8 => ?_) (fun _ _ _ h => by cases h.1)
  obtain ⟨hv8, hu8', y8, hg8, hr8, hy8⟩ := h8
  subst hu8'
  subst hg8
  rw [ha9] at hv8
  cases hv8
  refine v_icmp_eq (tgt := 1362) dL_law_248 (by decide) (fun c248 => ?_) (fun c248 => ?_)
  · exact lw_few (kk _ _ _ _ _ _ (lw_new hs hu9 hd9.1 ⟨g0, (hd9.2 O hOt (Or.inr hO1)).trans hO⟩ (dOk_ref hI hu8) hr8) (by omega) (by omega))
  · exact absurd rfl c248
set_option maxRecDepth 100000 in
set_option maxHeartbeats 4000000 in
theorem lw_read {E : eN} (hE : eOk E) (hS : eSt E) (hT : eTh E) {f : aH} {t D M O b L i bc bs : Nat} {x : dV} {y : mV} {xs : Nat → Int32} (hX : va_X b L xs (S0 E) (S0 E).heap) (hL : L ≤ 2560) (hi : i + 4 < L) (hs : lwS f D M O t x y) (hbc : 5 ≤ bc) (hbs : 31 ≤ bs) (kk : ∀ (f' : aH) (t' : Nat) (x' : dV) (y' : mV) (bc' bs' : Nat), lwS f' D M O t' x' y' → bc ≤ bc' + 5 → bs ≤ bs' + 31 → V E mL_law 601024 7293034 lwQ 1362 [some (.ref b), some (.ref D), some (.ref M), some (.ref O), some (.int (nI i)), none, none] [] f' t' bc' bs') : V E mL_law 601024 7293034 lwQ 253 [some (.ref b), some (.ref D), some (.ref M), some (.ref O), some (.int (nI i)), none, none] [] f t bc bs := by
  obtain ⟨hI, hR, hk, hm, ⟨g0, hO⟩, hDM, hMO, hOt⟩ := id hs
  have ht : D + 1322 < t := by omega
  have hO1 : D + 1322 < O := by omega
  have hu8 := hR.2.1.2.1
  have hlv := hR.2.2.2.2.2.2.2
  refine v_aload_n dL_law_253 rfl (by rfl) ?_
  refine v_aload_n dL_law_254 rfl (by rfl) ?_
  refine v_iload dL_law_255 (by rfl) ?_
  refine v_iconst (v := nI 1) dL_law_257 (by decide) ?_
  refine v_iaddN dL_law_258 ?_
  refine v_sld hX dL_law_259 (by omega) (by omega) ?_
  refine v_aload_n dL_law_260 rfl (by rfl) ?_
  refine v_callH hE dL_law_261 hL_read (by rfl) (sL_read hE hS hT hI hu8 hk ht hO hO1 hOt) rfl (fun n9 g9 u9 h9 => by cases h9.1) (by decide) (by decide) (by exact Nat.le_of_ble_eq_true rfl) (by omega) (by omega) (fun v9 g9 u9 h9 => ?_)
  obtain ⟨hv9, hu9, hd9, ⟨g1, hg1, hg2⟩, hf9⟩ := h9
  cases hv9
  refine v_istore dL_law_264 (by decide) ?_
  refine v_hp (lw_mk hm (fun b9 q1 q2 => hf9 b9 (by omega) (Or.inr (by omega)) (by omega))) ?_
  refine v_aload_n dL_law_266 rfl (by rfl) ?_
  refine v_aload_n dL_law_267 rfl (by rfl) ?_
  refine v_iload dL_law_268 (by rfl) ?_
  refine v_iconst (v := nI 1) dL_law_270 (by decide) ?_
  refine v_iaddN dL_law_271 ?_
  refine v_sld hX dL_law_272 (by omega) (by omega) ?_
  refine w_callV hE dL_law_273 kL_87 mdS_M (by rfl) (by rfl) (sX10_read hE hR hI) rfl (by decide) (by decide) (by exact Nat.le_of_ble_eq_true rfl) (by omega) (by omega) (fun v8 g8 u8 h8 => ?_) (fun _ _ _ h => by cases h.1)
  obtain ⟨hv8, hu8', y8, hg8, hr8, hy8⟩ := h8
  subst hu8'
  subst hg8
  cases hv8
  refine v_istore dL_law_276 (by decide) ?_
  refine v_aload_n dL_law_278 rfl (by rfl) ?_
  refine w_callV hE dL_law_279 kL_76 mdS_M (by rfl) (by rfl) (sX10_thrown hE) rfl (by decide) (by decide) (by exact Nat.le_of_ble_eq_true rfl) (by omega) (by omega) (fun v7 g7 u7 h7 => ?_) (fun _ _ _ h => by cases h.1)
  obtain ⟨hv7, hu7, hg7⟩ := h7
  subst hu7
  subst hg7
  cases hv7
  refine v_eqi (y := bI (pRea x (xs (i + 1))).1.isNone) hy8 ?_
  refine v_iload dL_law_282 (by rfl) ?_
  refine v_icmp_eq (tgt := 289) dL_law_284 (by decide) (fun c284 => ?_) (fun c284 => ?_)
  · refine v_iload dL_law_289 (by rfl) ?_
    refine v_if_ne (tgt := 306) dL_law_291 (by decide) (fun c291 => ?_) (fun c291 => ?_)
    · refine v_goto (tgt := 1362) dL_law_306 (by decide) ?_
      exact lw_few (kk _ _ _ _ _ _ (lw_new hs hu9 hd9 ⟨g1, hg1⟩ (dOk_rea hI hu8) hr8) (by omega) (by omega))
    · obtain ⟨a9, ha9⟩ : ∃ a9, (pRea x (xs (i + 1))).1 = some a9 := by
        cases hc9 : (pRea x (xs (i + 1))).1 with
        | none =>
          rw [hc9] at c291
          exact absurd c291 (by decide)
        | some a9 => exact ⟨a9, rfl⟩
      refine v_aload_n dL_law_294 rfl (by rfl) ?_
      refine v_iconst (v := nI 0) dL_law_295 (by decide) ?_
      refine v_lald hE dL_law_296 ((mdS_ne (by omega)).trans hg1) (i := 0) (by omega) (by omega) ?_
      refine v_eql (y := c64 a9) (hg2 a9 ha9) ?_
      refine v_iload dL_law_297 (by rfl) ?_
      refine v_eqi (y := a9) (by show ((pRea x (xs (i + 1))).1.getD (nI 0)) = a9; rw [ha9]; rfl) ?_
      refine v_i2l (v := c64 a9) dL_law_299 rfl ?_
      refine v_lcmp dL_law_300 ?_
      refine v_eqi (y := 0) lg_self ?_
      refine v_if_eq (tgt := 306) dL_law_301 (by decide) (fun c301 => ?_) (fun c301 => ?_)
      · refine v_goto (tgt := 1362) dL_law_306 (by decide) ?_
        exact lw_few (kk _ _ _ _ _ _ (lw_new hs hu9 hd9 ⟨g1, hg1⟩ (dOk_rea hI hu8) hr8) (by omega) (by omega))
      · exact absurd rfl c301
  · exact absurd rfl c284
set_option maxRecDepth 100000 in
set_option maxHeartbeats 4000000 in
theorem lw_place {E : eN} (hE : eOk E) (hS : eSt E) (hT : eTh E) {f : aH} {t D M O b L i bc bs : Nat} {x : dV} {y : mV} {xs : Nat → Int32} (hX : va_X b L xs (S0 E) (S0 E).heap) (hL : L ≤ 2560) (hi : i + 4 < L) (hs : lwS f D M O t x y) (hbc : 5 ≤ bc) (hbs : 31 ≤ bs) (kk : ∀ (f' : aH) (t' : Nat) (x' : dV) (y' : mV) (bc' bs' : Nat), lwS f' D M O t' x' y' → bc ≤ bc' + 5 → bs ≤ bs' + 31 → V E mL_law 601024 7293034 lwQ 1362 [some (.ref b), some (.ref D), some (.ref M), some (.ref O), some (.int (nI i)), none, none] [] f' t' bc' bs') : V E mL_law 601024 7293034 lwQ 309 [some (.ref b), some (.ref D), some (.ref M), some (.ref O), some (.int (nI i)), none, none] [] f t bc bs := by
  obtain ⟨hI, hR, hk, hm, ⟨g0, hO⟩, hDM, hMO, hOt⟩ := id hs
  have ht : D + 1322 < t := by omega
  have hO1 : D + 1322 < O := by omega
  have hu8 := hR.2.1.2.1
  have hlv := hR.2.2.2.2.2.2.2
  refine v_aload_n dL_law_309 rfl (by rfl) ?_
  refine w_callV hE dL_law_310 kL_88 hk.1 (by rfl) (by rfl) (sX9_place hE hS hT hI hk ht) rfl (by decide) (by decide) (by exact Nat.le_of_ble_eq_true rfl) (by omega) (by omega) (fun v9 g9 u9 h9 => ?_) (fun n9 g9 u9 h9 => (aO_rl (show (Sum.inr n9 : aO) = Sum.inl (some (.int (dF x))) from h9.1)).elim)
  obtain ⟨hv9, hu9, hd9⟩ := h9
  have hv7 : v9 = some (.int (dF x)) := Sum.inl.inj (show (Sum.inl v9 : aO) = Sum.inl (some (.int (dF x))) from hv9)
  subst hv7
  refine v_hp (lw_mk hm (fun b9 q1 q2 => hd9.2 b9 (by omega) (Or.inr (by omega)))) ?_
  refine v_aload_n dL_law_313 rfl (by rfl) ?_
  refine w_callV hE dL_law_314 kL_91 mdS_M (by rfl) (by rfl) (sX10_place hE) rfl (by decide) (by decide) (by exact Nat.le_of_ble_eq_true rfl) (by omega) (by omega) (fun v8 g8 u8 h8 => ?_) (fun _ _ _ h => by cases h.1)
  obtain ⟨hv8, hu8', hg8⟩ := h8
  subst hu8'
  subst hg8
  cases hv8
  refine v_eqi (y := dF x) hR.2.2.2.2.2.2.1 ?_
  refine v_icmp_eq (tgt := 1362) dL_law_317 (by decide) (fun c317 => ?_) (fun c317 => ?_)
  · exact lw_few (kk _ _ _ _ _ _ (lw_new hs hu9 hd9.1 ⟨g0, (hd9.2 O hOt (Or.inr hO1)).trans hO⟩ hI (mRel_0 hR)) (by omega) (by omega))
  · exact absurd rfl c317
set_option maxRecDepth 100000 in
set_option maxHeartbeats 4000000 in
theorem lw_sequence {E : eN} (hE : eOk E) (hS : eSt E) (hT : eTh E) {f : aH} {t D M O b L i bc bs : Nat} {x : dV} {y : mV} {xs : Nat → Int32} (hX : va_X b L xs (S0 E) (S0 E).heap) (hL : L ≤ 2560) (hi : i + 4 < L) (hs : lwS f D M O t x y) (hbc : 5 ≤ bc) (hbs : 31 ≤ bs) (kk : ∀ (f' : aH) (t' : Nat) (x' : dV) (y' : mV) (bc' bs' : Nat), lwS f' D M O t' x' y' → bc ≤ bc' + 5 → bs ≤ bs' + 31 → V E mL_law 601024 7293034 lwQ 1362 [some (.ref b), some (.ref D), some (.ref M), some (.ref O), some (.int (nI i)), none, none] [] f' t' bc' bs') : V E mL_law 601024 7293034 lwQ 322 [some (.ref b), some (.ref D), some (.ref M), some (.ref O), some (.int (nI i)), none, none] [] f t bc bs := by
  obtain ⟨hI, hR, hk, hm, ⟨g0, hO⟩, hDM, hMO, hOt⟩ := id hs
  have ht : D + 1322 < t := by omega
  have hO1 : D + 1322 < O := by omega
  have hu8 := hR.2.1.2.1
  have hlv := hR.2.2.2.2.2.2.2
  refine v_aload_n dL_law_322 rfl (by rfl) ?_
  refine v_aload_n dL_law_323 rfl (by rfl) ?_
  refine v_iload dL_law_324 (by rfl) ?_
  refine v_iconst (v := nI 1) dL_law_326 (by decide) ?_
  refine v_iaddN dL_law_327 ?_
  refine v_sld hX dL_law_328 (by omega) (by omega) ?_
  refine v_aload_n dL_law_329 rfl (by rfl) ?_
  refine v_iload dL_law_330 (by rfl) ?_
  refine v_iconst (v := nI 2) dL_law_332 (by decide) ?_
  refine v_iaddN dL_law_333 ?_
  refine v_sld hX dL_law_334 (by omega) (by omega) ?_
  refine v_aload_n dL_law_335 rfl (by rfl) ?_
  refine v_callH hE dL_law_336 hL_sequence (by rfl) (sL_sequence hE hS hT hI hk ht hO hO1 hOt) rfl (fun n9 g9 u9 h9 => by cases h9.1) (by decide) (by decide) (by exact Nat.le_of_ble_eq_true rfl) (by omega) (by omega) (fun v9 g9 u9 h9 => ?_)
  obtain ⟨hv9, hu9, hd9, ⟨g1, hg1, hg2⟩, hf9⟩ := h9
  cases hv9
  refine v_istore dL_law_339 (by decide) ?_
  refine v_hp (lw_mk hm (fun b9 q1 q2 => hf9 b9 (by omega) (Or.inr (by omega)) (by omega))) ?_
  refine v_aload_n dL_law_341 rfl (by rfl) ?_
  refine v_aload_n dL_law_342 rfl (by rfl) ?_
  refine v_iload dL_law_343 (by rfl) ?_
  refine v_iconst (v := nI 1) dL_law_345 (by decide) ?_
  refine v_iaddN dL_law_346 ?_
  refine v_sld hX dL_law_347 (by omega) (by omega) ?_
  refine v_aload_n dL_law_348 rfl (by rfl) ?_
  refine v_iload dL_law_349 (by rfl) ?_
  refine v_iconst (v := nI 2) dL_law_351 (by decide) ?_
  refine v_iaddN dL_law_352 ?_
  refine v_sld hX dL_law_353 (by omega) (by omega) ?_
  refine w_callV hE dL_law_354 kL_95 mdS_M (by rfl) (by rfl) (sX10_sequence hE hR hI) rfl (by decide) (by decide) (by exact Nat.le_of_ble_eq_true rfl) (by omega) (by omega) (fun v8 g8 u8 h8 => ?_) (fun _ _ _ h => by cases h.1)
  obtain ⟨hv8, hu8', hg8⟩ := h8
  subst hu8'
  have hr8 : mRel x (y.1, va_up y.2 0 (bI (aSeq x (xs (i + 1)) (xs (i + 2)), x).1.isNone)) := mRel_0 hR
  have hy8 : (y.1, va_up y.2 0 (bI (aSeq x (xs (i + 1)) (xs (i + 2)), x).1.isNone)).2 0 = bI (aSeq x (xs (i + 1)) (xs (i + 2)), x).1.isNone := va_up_self y.2 0 (bI (aSeq x (xs (i + 1)) (xs (i + 2)), x).1.isNone)
  replace hg8 : g8 = mdS g9 M (y.1, va_up y.2 0 (bI (aSeq x (xs (i + 1)) (xs (i + 2)), x).1.isNone)) := hg8
  generalize (y.1, va_up y.2 0 (bI (aSeq x (xs (i + 1)) (xs (i + 2)), x).1.isNone)) = y8 at hr8 hy8 hg8
  subst hg8
  cases hv8
  refine v_istore dL_law_357 (by decide) ?_
  refine v_aload_n dL_law_359 rfl (by rfl) ?_
  refine w_callV hE dL_law_360 kL_76 mdS_M (by rfl) (by rfl) (sX10_thrown hE) rfl (by decide) (by decide) (by exact Nat.le_of_ble_eq_true rfl) (by omega) (by omega) (fun v7 g7 u7 h7 => ?_) (fun _ _ _ h => by cases h.1)
  obtain ⟨hv7, hu7, hg7⟩ := h7
  subst hu7
  subst hg7
  cases hv7
  refine v_eqi (y := bI (aSeq x (xs (i + 1)) (xs (i + 2)), x).1.isNone) hy8 ?_
  refine v_iload dL_law_363 (by rfl) ?_
  refine v_icmp_eq (tgt := 370) dL_law_365 (by decide) (fun c365 => ?_) (fun c365 => ?_)
  · refine v_iload dL_law_370 (by rfl) ?_
    refine v_if_ne (tgt := 387) dL_law_372 (by decide) (fun c372 => ?_) (fun c372 => ?_)
    · refine v_goto (tgt := 1362) dL_law_387 (by decide) ?_
      exact lw_few (kk _ _ _ _ _ _ (lw_new hs hu9 hd9 ⟨g1, hg1⟩ hI hr8) (by omega) (by omega))
    · obtain ⟨a9, ha9⟩ : ∃ a9, (aSeq x (xs (i + 1)) (xs (i + 2)), x).1 = some a9 := by
        cases hc9 : (aSeq x (xs (i + 1)) (xs (i + 2)), x).1 with
        | none =>
          rw [hc9] at c372
          exact absurd c372 (by decide)
        | some a9 => exact ⟨a9, rfl⟩
      refine v_aload_n dL_law_375 rfl (by rfl) ?_
      refine v_iconst (v := nI 0) dL_law_376 (by decide) ?_
      refine v_lald hE dL_law_377 ((mdS_ne (by omega)).trans hg1) (i := 0) (by omega) (by omega) ?_
      refine v_eql (y := c64 a9) (hg2 a9 ha9) ?_
      refine v_iload dL_law_378 (by rfl) ?_
      refine v_eqi (y := a9) (by show ((aSeq x (xs (i + 1)) (xs (i + 2)), x).1.getD (nI 0)) = a9; rw [ha9]; rfl) ?_
      refine v_i2l (v := c64 a9) dL_law_380 rfl ?_
      refine v_lcmp dL_law_381 ?_
      refine v_eqi (y := 0) lg_self ?_
      refine v_if_eq (tgt := 387) dL_law_382 (by decide) (fun c382 => ?_) (fun c382 => ?_)
      · refine v_goto (tgt := 1362) dL_law_387 (by decide) ?_
        exact lw_few (kk _ _ _ _ _ _ (lw_new hs hu9 hd9 ⟨g1, hg1⟩ hI hr8) (by omega) (by omega))
      · exact absurd rfl c382
  · exact absurd rfl c365
set_option maxRecDepth 100000 in
set_option maxHeartbeats 4000000 in
theorem lw_letter {E : eN} (hE : eOk E) (hS : eSt E) (hT : eTh E) {f : aH} {t D M O b L i bc bs : Nat} {x : dV} {y : mV} {xs : Nat → Int32} (hX : va_X b L xs (S0 E) (S0 E).heap) (hL : L ≤ 2560) (hi : i + 4 < L) (hs : lwS f D M O t x y) (hbc : 5 ≤ bc) (hbs : 31 ≤ bs) (kk : ∀ (f' : aH) (t' : Nat) (x' : dV) (y' : mV) (bc' bs' : Nat), lwS f' D M O t' x' y' → bc ≤ bc' + 5 → bs ≤ bs' + 31 → V E mL_law 601024 7293034 lwQ 1362 [some (.ref b), some (.ref D), some (.ref M), some (.ref O), some (.int (nI i)), none, none] [] f' t' bc' bs') : V E mL_law 601024 7293034 lwQ 390 [some (.ref b), some (.ref D), some (.ref M), some (.ref O), some (.int (nI i)), none, none] [] f t bc bs := by
  obtain ⟨hI, hR, hk, hm, ⟨g0, hO⟩, hDM, hMO, hOt⟩ := id hs
  have ht : D + 1322 < t := by omega
  have hO1 : D + 1322 < O := by omega
  have hu8 := hR.2.1.2.1
  have hlv := hR.2.2.2.2.2.2.2
  refine v_aload_n dL_law_390 rfl (by rfl) ?_
  refine v_aload_n dL_law_391 rfl (by rfl) ?_
  refine v_iload dL_law_392 (by rfl) ?_
  refine v_iconst (v := nI 1) dL_law_394 (by decide) ?_
  refine v_iaddN dL_law_395 ?_
  refine v_sld hX dL_law_396 (by omega) (by omega) ?_
  refine v_aload_n dL_law_397 rfl (by rfl) ?_
  refine v_iload dL_law_398 (by rfl) ?_
  refine v_iconst (v := nI 2) dL_law_400 (by decide) ?_
  refine v_iaddN dL_law_401 ?_
  refine v_sld hX dL_law_402 (by omega) (by omega) ?_
  refine v_aload_n dL_law_403 rfl (by rfl) ?_
  refine v_callH hE dL_law_404 hL_letter (by rfl) (sL_letter hE hS hT hI hk ht hO hO1 hOt) rfl (fun n9 g9 u9 h9 => by cases h9.1) (by decide) (by decide) (by exact Nat.le_of_ble_eq_true rfl) (by omega) (by omega) (fun v9 g9 u9 h9 => ?_)
  obtain ⟨hv9, hu9, hd9, ⟨g1, hg1, hg2⟩, hf9⟩ := h9
  cases hv9
  refine v_istore dL_law_407 (by decide) ?_
  refine v_hp (lw_mk hm (fun b9 q1 q2 => hf9 b9 (by omega) (Or.inr (by omega)) (by omega))) ?_
  refine v_aload_n dL_law_409 rfl (by rfl) ?_
  refine v_aload_n dL_law_410 rfl (by rfl) ?_
  refine v_iload dL_law_411 (by rfl) ?_
  refine v_iconst (v := nI 1) dL_law_413 (by decide) ?_
  refine v_iaddN dL_law_414 ?_
  refine v_sld hX dL_law_415 (by omega) (by omega) ?_
  refine v_aload_n dL_law_416 rfl (by rfl) ?_
  refine v_iload dL_law_417 (by rfl) ?_
  refine v_iconst (v := nI 2) dL_law_419 (by decide) ?_
  refine v_iaddN dL_law_420 ?_
  refine v_sld hX dL_law_421 (by omega) (by omega) ?_
  refine w_callV hE dL_law_422 kL_98 mdS_M (by rfl) (by rfl) (sX10_letter hE hR hI) rfl (by decide) (by decide) (by exact Nat.le_of_ble_eq_true rfl) (by omega) (by omega) (fun v8 g8 u8 h8 => ?_) (fun _ _ _ h => by cases h.1)
  obtain ⟨hv8, hu8', hg8⟩ := h8
  subst hu8'
  have hr8 : mRel x (y.1, va_up y.2 0 (bI (aLet x (xs (i + 1)) (xs (i + 2)), x).1.isNone)) := mRel_0 hR
  have hy8 : (y.1, va_up y.2 0 (bI (aLet x (xs (i + 1)) (xs (i + 2)), x).1.isNone)).2 0 = bI (aLet x (xs (i + 1)) (xs (i + 2)), x).1.isNone := va_up_self y.2 0 (bI (aLet x (xs (i + 1)) (xs (i + 2)), x).1.isNone)
  replace hg8 : g8 = mdS g9 M (y.1, va_up y.2 0 (bI (aLet x (xs (i + 1)) (xs (i + 2)), x).1.isNone)) := hg8
  generalize (y.1, va_up y.2 0 (bI (aLet x (xs (i + 1)) (xs (i + 2)), x).1.isNone)) = y8 at hr8 hy8 hg8
  subst hg8
  cases hv8
  refine v_istore dL_law_425 (by decide) ?_
  refine v_aload_n dL_law_427 rfl (by rfl) ?_
  refine w_callV hE dL_law_428 kL_76 mdS_M (by rfl) (by rfl) (sX10_thrown hE) rfl (by decide) (by decide) (by exact Nat.le_of_ble_eq_true rfl) (by omega) (by omega) (fun v7 g7 u7 h7 => ?_) (fun _ _ _ h => by cases h.1)
  obtain ⟨hv7, hu7, hg7⟩ := h7
  subst hu7
  subst hg7
  cases hv7
  refine v_eqi (y := bI (aLet x (xs (i + 1)) (xs (i + 2)), x).1.isNone) hy8 ?_
  refine v_iload dL_law_431 (by rfl) ?_
  refine v_icmp_eq (tgt := 438) dL_law_433 (by decide) (fun c433 => ?_) (fun c433 => ?_)
  · refine v_iload dL_law_438 (by rfl) ?_
    refine v_if_ne (tgt := 455) dL_law_440 (by decide) (fun c440 => ?_) (fun c440 => ?_)
    · refine v_goto (tgt := 1362) dL_law_455 (by decide) ?_
      exact lw_few (kk _ _ _ _ _ _ (lw_new hs hu9 hd9 ⟨g1, hg1⟩ hI hr8) (by omega) (by omega))
    · obtain ⟨a9, ha9⟩ : ∃ a9, (aLet x (xs (i + 1)) (xs (i + 2)), x).1 = some a9 := by
        cases hc9 : (aLet x (xs (i + 1)) (xs (i + 2)), x).1 with
        | none =>
          rw [hc9] at c440
          exact absurd c440 (by decide)
        | some a9 => exact ⟨a9, rfl⟩
      refine v_aload_n dL_law_443 rfl (by rfl) ?_
      refine v_iconst (v := nI 0) dL_law_444 (by decide) ?_
      refine v_lald hE dL_law_445 ((mdS_ne (by omega)).trans hg1) (i := 0) (by omega) (by omega) ?_
      refine v_eql (y := c64 a9) (hg2 a9 ha9) ?_
      refine v_iload dL_law_446 (by rfl) ?_
      refine v_eqi (y := a9) (by show ((aLet x (xs (i + 1)) (xs (i + 2)), x).1.getD (nI 0)) = a9; rw [ha9]; rfl) ?_
      refine v_i2l (v := c64 a9) dL_law_448 rfl ?_
      refine v_lcmp dL_law_449 ?_
      refine v_eqi (y := 0) lg_self ?_
      refine v_if_eq (tgt := 455) dL_law_450 (by decide) (fun c450 => ?_) (fun c450 => ?_)
      · refine v_goto (tgt := 1362) dL_law_455 (by decide) ?_
        exact lw_few (kk _ _ _ _ _ _ (lw_new hs hu9 hd9 ⟨g1, hg1⟩ hI hr8) (by omega) (by omega))
      · exact absurd rfl c450
  · exact absurd rfl c433
set_option maxRecDepth 100000 in
set_option maxHeartbeats 4000000 in
theorem lw_table {E : eN} (hE : eOk E) (hS : eSt E) (hT : eTh E) {f : aH} {t D M O b L i bc bs : Nat} {x : dV} {y : mV} {xs : Nat → Int32} (hX : va_X b L xs (S0 E) (S0 E).heap) (hL : L ≤ 2560) (hi : i + 4 < L) (hs : lwS f D M O t x y) (hbc : 5 ≤ bc) (hbs : 31 ≤ bs) (kk : ∀ (f' : aH) (t' : Nat) (x' : dV) (y' : mV) (bc' bs' : Nat), lwS f' D M O t' x' y' → bc ≤ bc' + 5 → bs ≤ bs' + 31 → V E mL_law 601024 7293034 lwQ 1362 [some (.ref b), some (.ref D), some (.ref M), some (.ref O), some (.int (nI i)), none, none] [] f' t' bc' bs') : V E mL_law 601024 7293034 lwQ 458 [some (.ref b), some (.ref D), some (.ref M), some (.ref O), some (.int (nI i)), none, none] [] f t bc bs := by
  obtain ⟨hI, hR, hk, hm, ⟨g0, hO⟩, hDM, hMO, hOt⟩ := id hs
  have ht : D + 1322 < t := by omega
  have hO1 : D + 1322 < O := by omega
  have hu8 := hR.2.1.2.1
  have hlv := hR.2.2.2.2.2.2.2
  refine v_aload_n dL_law_458 rfl (by rfl) ?_
  refine v_aload_n dL_law_459 rfl (by rfl) ?_
  refine v_iload dL_law_460 (by rfl) ?_
  refine v_iconst (v := nI 1) dL_law_462 (by decide) ?_
  refine v_iaddN dL_law_463 ?_
  refine v_sld hX dL_law_464 (by omega) (by omega) ?_
  refine v_aload_n dL_law_465 rfl (by rfl) ?_
  refine v_iload dL_law_466 (by rfl) ?_
  refine v_iconst (v := nI 2) dL_law_468 (by decide) ?_
  refine v_iaddN dL_law_469 ?_
  refine v_sld hX dL_law_470 (by omega) (by omega) ?_
  refine v_aload_n dL_law_471 rfl (by rfl) ?_
  refine v_callH hE dL_law_472 hL_table (by rfl) (sL_table hE hS hT hI hk ht hO hO1 hOt) rfl (fun n9 g9 u9 h9 => by cases h9.1) (by decide) (by decide) (by exact Nat.le_of_ble_eq_true rfl) (by omega) (by omega) (fun v9 g9 u9 h9 => ?_)
  obtain ⟨hv9, hu9, hd9, ⟨g1, hg1, hg2⟩, hf9⟩ := h9
  cases hv9
  refine v_istore dL_law_475 (by decide) ?_
  refine v_hp (lw_mk hm (fun b9 q1 q2 => hf9 b9 (by omega) (Or.inr (by omega)) (by omega))) ?_
  refine v_aload_n dL_law_477 rfl (by rfl) ?_
  refine v_aload_n dL_law_478 rfl (by rfl) ?_
  refine v_iload dL_law_479 (by rfl) ?_
  refine v_iconst (v := nI 1) dL_law_481 (by decide) ?_
  refine v_iaddN dL_law_482 ?_
  refine v_sld hX dL_law_483 (by omega) (by omega) ?_
  refine v_aload_n dL_law_484 rfl (by rfl) ?_
  refine v_iload dL_law_485 (by rfl) ?_
  refine v_iconst (v := nI 2) dL_law_487 (by decide) ?_
  refine v_iaddN dL_law_488 ?_
  refine v_sld hX dL_law_489 (by omega) (by omega) ?_
  refine w_callV hE dL_law_490 kL_101 mdS_M (by rfl) (by rfl) (sX10_table hE hR hI) rfl (by decide) (by decide) (by exact Nat.le_of_ble_eq_true rfl) (by omega) (by omega) (fun v8 g8 u8 h8 => ?_) (fun _ _ _ h => by cases h.1)
  obtain ⟨hv8, hu8', hg8⟩ := h8
  subst hu8'
  have hr8 : mRel x (y.1, va_up y.2 0 (bI (aTab x (xs (i + 1)) (xs (i + 2)), x).1.isNone)) := mRel_0 hR
  have hy8 : (y.1, va_up y.2 0 (bI (aTab x (xs (i + 1)) (xs (i + 2)), x).1.isNone)).2 0 = bI (aTab x (xs (i + 1)) (xs (i + 2)), x).1.isNone := va_up_self y.2 0 (bI (aTab x (xs (i + 1)) (xs (i + 2)), x).1.isNone)
  replace hg8 : g8 = mdS g9 M (y.1, va_up y.2 0 (bI (aTab x (xs (i + 1)) (xs (i + 2)), x).1.isNone)) := hg8
  generalize (y.1, va_up y.2 0 (bI (aTab x (xs (i + 1)) (xs (i + 2)), x).1.isNone)) = y8 at hr8 hy8 hg8
  subst hg8
  cases hv8
  refine v_istore dL_law_493 (by decide) ?_
  refine v_aload_n dL_law_495 rfl (by rfl) ?_
  refine w_callV hE dL_law_496 kL_76 mdS_M (by rfl) (by rfl) (sX10_thrown hE) rfl (by decide) (by decide) (by exact Nat.le_of_ble_eq_true rfl) (by omega) (by omega) (fun v7 g7 u7 h7 => ?_) (fun _ _ _ h => by cases h.1)
  obtain ⟨hv7, hu7, hg7⟩ := h7
  subst hu7
  subst hg7
  cases hv7
  refine v_eqi (y := bI (aTab x (xs (i + 1)) (xs (i + 2)), x).1.isNone) hy8 ?_
  refine v_iload dL_law_499 (by rfl) ?_
  refine v_icmp_eq (tgt := 506) dL_law_501 (by decide) (fun c501 => ?_) (fun c501 => ?_)
  · refine v_iload dL_law_506 (by rfl) ?_
    refine v_if_ne (tgt := 523) dL_law_508 (by decide) (fun c508 => ?_) (fun c508 => ?_)
    · refine v_goto (tgt := 1362) dL_law_523 (by decide) ?_
      exact lw_few (kk _ _ _ _ _ _ (lw_new hs hu9 hd9 ⟨g1, hg1⟩ hI hr8) (by omega) (by omega))
    · obtain ⟨a9, ha9⟩ : ∃ a9, (aTab x (xs (i + 1)) (xs (i + 2)), x).1 = some a9 := by
        cases hc9 : (aTab x (xs (i + 1)) (xs (i + 2)), x).1 with
        | none =>
          rw [hc9] at c508
          exact absurd c508 (by decide)
        | some a9 => exact ⟨a9, rfl⟩
      refine v_aload_n dL_law_511 rfl (by rfl) ?_
      refine v_iconst (v := nI 0) dL_law_512 (by decide) ?_
      refine v_lald hE dL_law_513 ((mdS_ne (by omega)).trans hg1) (i := 0) (by omega) (by omega) ?_
      refine v_eql (y := c64 a9) (hg2 a9 ha9) ?_
      refine v_iload dL_law_514 (by rfl) ?_
      refine v_eqi (y := a9) (by show ((aTab x (xs (i + 1)) (xs (i + 2)), x).1.getD (nI 0)) = a9; rw [ha9]; rfl) ?_
      refine v_i2l (v := c64 a9) dL_law_516 rfl ?_
      refine v_lcmp dL_law_517 ?_
      refine v_eqi (y := 0) lg_self ?_
      refine v_if_eq (tgt := 523) dL_law_518 (by decide) (fun c518 => ?_) (fun c518 => ?_)
      · refine v_goto (tgt := 1362) dL_law_523 (by decide) ?_
        exact lw_few (kk _ _ _ _ _ _ (lw_new hs hu9 hd9 ⟨g1, hg1⟩ hI hr8) (by omega) (by omega))
      · exact absurd rfl c518
  · exact absurd rfl c501
set_option maxRecDepth 100000 in
set_option maxHeartbeats 4000000 in
theorem lw_record {E : eN} (hE : eOk E) (hS : eSt E) (hT : eTh E) {f : aH} {t D M O b L i bc bs : Nat} {x : dV} {y : mV} {xs : Nat → Int32} (hX : va_X b L xs (S0 E) (S0 E).heap) (hL : L ≤ 2560) (hi : i + 4 < L) (hs : lwS f D M O t x y) (hbc : 5 ≤ bc) (hbs : 31 ≤ bs) (kk : ∀ (f' : aH) (t' : Nat) (x' : dV) (y' : mV) (bc' bs' : Nat), lwS f' D M O t' x' y' → bc ≤ bc' + 5 → bs ≤ bs' + 31 → V E mL_law 601024 7293034 lwQ 1362 [some (.ref b), some (.ref D), some (.ref M), some (.ref O), some (.int (nI i)), none, none] [] f' t' bc' bs') : V E mL_law 601024 7293034 lwQ 526 [some (.ref b), some (.ref D), some (.ref M), some (.ref O), some (.int (nI i)), none, none] [] f t bc bs := by
  obtain ⟨hI, hR, hk, hm, ⟨g0, hO⟩, hDM, hMO, hOt⟩ := id hs
  have ht : D + 1322 < t := by omega
  have hO1 : D + 1322 < O := by omega
  have hu8 := hR.2.1.2.1
  have hlv := hR.2.2.2.2.2.2.2
  refine v_aload_n dL_law_526 rfl (by rfl) ?_
  refine v_aload_n dL_law_527 rfl (by rfl) ?_
  refine v_iload dL_law_528 (by rfl) ?_
  refine v_iconst (v := nI 1) dL_law_530 (by decide) ?_
  refine v_iaddN dL_law_531 ?_
  refine v_sld hX dL_law_532 (by omega) (by omega) ?_
  refine v_aload_n dL_law_533 rfl (by rfl) ?_
  refine v_iload dL_law_534 (by rfl) ?_
  refine v_iconst (v := nI 2) dL_law_536 (by decide) ?_
  refine v_iaddN dL_law_537 ?_
  refine v_sld hX dL_law_538 (by omega) (by omega) ?_
  refine v_aload_n dL_law_539 rfl (by rfl) ?_
  refine v_iload dL_law_540 (by rfl) ?_
  refine v_iconst (v := nI 3) dL_law_542 (by decide) ?_
  refine v_iaddN dL_law_543 ?_
  refine v_sld hX dL_law_544 (by omega) (by omega) ?_
  refine v_aload_n dL_law_545 rfl (by rfl) ?_
  refine v_callH hE dL_law_546 hL_record (by rfl) (sL_record hE hS hT hI hk ht hO hO1 hOt) rfl (fun n9 g9 u9 h9 => by cases h9.1) (by decide) (by decide) (by exact Nat.le_of_ble_eq_true rfl) (by omega) (by omega) (fun v9 g9 u9 h9 => ?_)
  obtain ⟨hv9, hu9, hd9, ⟨g1, hg1, hg2⟩, hf9⟩ := h9
  cases hv9
  refine v_istore dL_law_549 (by decide) ?_
  refine v_hp (lw_mk hm (fun b9 q1 q2 => hf9 b9 (by omega) (Or.inr (by omega)) (by omega))) ?_
  refine v_aload_n dL_law_551 rfl (by rfl) ?_
  refine v_aload_n dL_law_552 rfl (by rfl) ?_
  refine v_iload dL_law_553 (by rfl) ?_
  refine v_iconst (v := nI 1) dL_law_555 (by decide) ?_
  refine v_iaddN dL_law_556 ?_
  refine v_sld hX dL_law_557 (by omega) (by omega) ?_
  refine v_aload_n dL_law_558 rfl (by rfl) ?_
  refine v_iload dL_law_559 (by rfl) ?_
  refine v_iconst (v := nI 2) dL_law_561 (by decide) ?_
  refine v_iaddN dL_law_562 ?_
  refine v_sld hX dL_law_563 (by omega) (by omega) ?_
  refine v_aload_n dL_law_564 rfl (by rfl) ?_
  refine v_iload dL_law_565 (by rfl) ?_
  refine v_iconst (v := nI 3) dL_law_567 (by decide) ?_
  refine v_iaddN dL_law_568 ?_
  refine v_sld hX dL_law_569 (by omega) (by omega) ?_
  refine w_callV hE dL_law_570 kL_105 mdS_M (by rfl) (by rfl) (sX10_record hE hR hI) rfl (by decide) (by decide) (by exact Nat.le_of_ble_eq_true rfl) (by omega) (by omega) (fun v8 g8 u8 h8 => ?_) (fun _ _ _ h => by cases h.1)
  obtain ⟨hv8, hu8', hg8⟩ := h8
  subst hu8'
  have hr8 : mRel x (y.1, va_up y.2 0 (bI (aRec x (xs (i + 1)) (xs (i + 2)) (xs (i + 3)), x).1.isNone)) := mRel_0 hR
  have hy8 : (y.1, va_up y.2 0 (bI (aRec x (xs (i + 1)) (xs (i + 2)) (xs (i + 3)), x).1.isNone)).2 0 = bI (aRec x (xs (i + 1)) (xs (i + 2)) (xs (i + 3)), x).1.isNone := va_up_self y.2 0 (bI (aRec x (xs (i + 1)) (xs (i + 2)) (xs (i + 3)), x).1.isNone)
  replace hg8 : g8 = mdS g9 M (y.1, va_up y.2 0 (bI (aRec x (xs (i + 1)) (xs (i + 2)) (xs (i + 3)), x).1.isNone)) := hg8
  generalize (y.1, va_up y.2 0 (bI (aRec x (xs (i + 1)) (xs (i + 2)) (xs (i + 3)), x).1.isNone)) = y8 at hr8 hy8 hg8
  subst hg8
  cases hv8
  refine v_istore dL_law_573 (by decide) ?_
  refine v_aload_n dL_law_575 rfl (by rfl) ?_
  refine w_callV hE dL_law_576 kL_76 mdS_M (by rfl) (by rfl) (sX10_thrown hE) rfl (by decide) (by decide) (by exact Nat.le_of_ble_eq_true rfl) (by omega) (by omega) (fun v7 g7 u7 h7 => ?_) (fun _ _ _ h => by cases h.1)
  obtain ⟨hv7, hu7, hg7⟩ := h7
  subst hu7
  subst hg7
  cases hv7
  refine v_eqi (y := bI (aRec x (xs (i + 1)) (xs (i + 2)) (xs (i + 3)), x).1.isNone) hy8 ?_
  refine v_iload dL_law_579 (by rfl) ?_
  refine v_icmp_eq (tgt := 586) dL_law_581 (by decide) (fun c581 => ?_) (fun c581 => ?_)
  · refine v_iload dL_law_586 (by rfl) ?_
    refine v_if_ne (tgt := 603) dL_law_588 (by decide) (fun c588 => ?_) (fun c588 => ?_)
    · refine v_goto (tgt := 1362) dL_law_603 (by decide) ?_
      exact lw_few (kk _ _ _ _ _ _ (lw_new hs hu9 hd9 ⟨g1, hg1⟩ hI hr8) (by omega) (by omega))
    · obtain ⟨a9, ha9⟩ : ∃ a9, (aRec x (xs (i + 1)) (xs (i + 2)) (xs (i + 3)), x).1 = some a9 := by
        cases hc9 : (aRec x (xs (i + 1)) (xs (i + 2)) (xs (i + 3)), x).1 with
        | none =>
          rw [hc9] at c588
          exact absurd c588 (by decide)
        | some a9 => exact ⟨a9, rfl⟩
      refine v_aload_n dL_law_591 rfl (by rfl) ?_
      refine v_iconst (v := nI 0) dL_law_592 (by decide) ?_
      refine v_lald hE dL_law_593 ((mdS_ne (by omega)).trans hg1) (i := 0) (by omega) (by omega) ?_
      refine v_eql (y := c64 a9) (hg2 a9 ha9) ?_
      refine v_iload dL_law_594 (by rfl) ?_
      refine v_eqi (y := a9) (by show ((aRec x (xs (i + 1)) (xs (i + 2)) (xs (i + 3)), x).1.getD (nI 0)) = a9; rw [ha9]; rfl) ?_
      refine v_i2l (v := c64 a9) dL_law_596 rfl ?_
      refine v_lcmp dL_law_597 ?_
      refine v_eqi (y := 0) lg_self ?_
      refine v_if_eq (tgt := 603) dL_law_598 (by decide) (fun c598 => ?_) (fun c598 => ?_)
      · refine v_goto (tgt := 1362) dL_law_603 (by decide) ?_
        exact lw_few (kk _ _ _ _ _ _ (lw_new hs hu9 hd9 ⟨g1, hg1⟩ hI hr8) (by omega) (by omega))
      · exact absurd rfl c598
  · exact absurd rfl c581
set_option maxRecDepth 100000 in
set_option maxHeartbeats 4000000 in
theorem lw_row {E : eN} (hE : eOk E) (hS : eSt E) (hT : eTh E) {f : aH} {t D M O b L i bc bs : Nat} {x : dV} {y : mV} {xs : Nat → Int32} (hX : va_X b L xs (S0 E) (S0 E).heap) (hL : L ≤ 2560) (hi : i + 4 < L) (hs : lwS f D M O t x y) (hbc : 5 ≤ bc) (hbs : 31 ≤ bs) (kk : ∀ (f' : aH) (t' : Nat) (x' : dV) (y' : mV) (bc' bs' : Nat), lwS f' D M O t' x' y' → bc ≤ bc' + 5 → bs ≤ bs' + 31 → V E mL_law 601024 7293034 lwQ 1362 [some (.ref b), some (.ref D), some (.ref M), some (.ref O), some (.int (nI i)), none, none] [] f' t' bc' bs') : V E mL_law 601024 7293034 lwQ 606 [some (.ref b), some (.ref D), some (.ref M), some (.ref O), some (.int (nI i)), none, none] [] f t bc bs := by
  obtain ⟨hI, hR, hk, hm, ⟨g0, hO⟩, hDM, hMO, hOt⟩ := id hs
  have ht : D + 1322 < t := by omega
  have hO1 : D + 1322 < O := by omega
  have hu8 := hR.2.1.2.1
  have hlv := hR.2.2.2.2.2.2.2
  refine v_aload_n dL_law_606 rfl (by rfl) ?_
  refine v_aload_n dL_law_607 rfl (by rfl) ?_
  refine v_iload dL_law_608 (by rfl) ?_
  refine v_iconst (v := nI 1) dL_law_610 (by decide) ?_
  refine v_iaddN dL_law_611 ?_
  refine v_sld hX dL_law_612 (by omega) (by omega) ?_
  refine v_aload_n dL_law_613 rfl (by rfl) ?_
  refine v_iload dL_law_614 (by rfl) ?_
  refine v_iconst (v := nI 2) dL_law_616 (by decide) ?_
  refine v_iaddN dL_law_617 ?_
  refine v_sld hX dL_law_618 (by omega) (by omega) ?_
  refine v_aload_n dL_law_619 rfl (by rfl) ?_
  refine v_iload dL_law_620 (by rfl) ?_
  refine v_iconst (v := nI 3) dL_law_622 (by decide) ?_
  refine v_iaddN dL_law_623 ?_
  refine v_sld hX dL_law_624 (by omega) (by omega) ?_
  refine v_aload_n dL_law_625 rfl (by rfl) ?_
  refine v_iload dL_law_626 (by rfl) ?_
  refine v_iconst (v := nI 4) dL_law_628 (by decide) ?_
  refine v_iaddN dL_law_629 ?_
  refine v_sld hX dL_law_630 (by omega) (by omega) ?_
  refine v_aload_n dL_law_631 rfl (by rfl) ?_
  refine v_callH hE dL_law_632 hL_row (by rfl) (sL_row hE hS hT hI hk ht hO hO1 hOt) rfl (fun n9 g9 u9 h9 => by cases h9.1) (by decide) (by decide) (by exact Nat.le_of_ble_eq_true rfl) (by omega) (by omega) (fun v9 g9 u9 h9 => ?_)
  obtain ⟨hv9, hu9, hd9, ⟨g1, hg1, hg2⟩, hf9⟩ := h9
  cases hv9
  refine v_istore dL_law_635 (by decide) ?_
  refine v_hp (lw_mk hm (fun b9 q1 q2 => hf9 b9 (by omega) (Or.inr (by omega)) (by omega))) ?_
  refine v_aload_n dL_law_637 rfl (by rfl) ?_
  refine v_aload_n dL_law_638 rfl (by rfl) ?_
  refine v_iload dL_law_639 (by rfl) ?_
  refine v_iconst (v := nI 1) dL_law_641 (by decide) ?_
  refine v_iaddN dL_law_642 ?_
  refine v_sld hX dL_law_643 (by omega) (by omega) ?_
  refine v_aload_n dL_law_644 rfl (by rfl) ?_
  refine v_iload dL_law_645 (by rfl) ?_
  refine v_iconst (v := nI 2) dL_law_647 (by decide) ?_
  refine v_iaddN dL_law_648 ?_
  refine v_sld hX dL_law_649 (by omega) (by omega) ?_
  refine v_aload_n dL_law_650 rfl (by rfl) ?_
  refine v_iload dL_law_651 (by rfl) ?_
  refine v_iconst (v := nI 3) dL_law_653 (by decide) ?_
  refine v_iaddN dL_law_654 ?_
  refine v_sld hX dL_law_655 (by omega) (by omega) ?_
  refine v_aload_n dL_law_656 rfl (by rfl) ?_
  refine v_iload dL_law_657 (by rfl) ?_
  refine v_iconst (v := nI 4) dL_law_659 (by decide) ?_
  refine v_iaddN dL_law_660 ?_
  refine v_sld hX dL_law_661 (by omega) (by omega) ?_
  refine w_callV hE dL_law_662 kL_109 mdS_M (by rfl) (by rfl) (sX10_row hE hR hI) rfl (by decide) (by decide) (by exact Nat.le_of_ble_eq_true rfl) (by omega) (by omega) (fun v8 g8 u8 h8 => ?_) (fun _ _ _ h => by cases h.1)
  obtain ⟨hv8, hu8', hg8⟩ := h8
  subst hu8'
  have hr8 : mRel x (y.1, va_up y.2 0 (bI (aRow x (xs (i + 1)) (xs (i + 2)) (xs (i + 3)) (xs (i + 4)), x).1.isNone)) := mRel_0 hR
  have hy8 : (y.1, va_up y.2 0 (bI (aRow x (xs (i + 1)) (xs (i + 2)) (xs (i + 3)) (xs (i + 4)), x).1.isNone)).2 0 = bI (aRow x (xs (i + 1)) (xs (i + 2)) (xs (i + 3)) (xs (i + 4)), x).1.isNone := va_up_self y.2 0 (bI (aRow x (xs (i + 1)) (xs (i + 2)) (xs (i + 3)) (xs (i + 4)), x).1.isNone)
  replace hg8 : g8 = mdS g9 M (y.1, va_up y.2 0 (bI (aRow x (xs (i + 1)) (xs (i + 2)) (xs (i + 3)) (xs (i + 4)), x).1.isNone)) := hg8
  generalize (y.1, va_up y.2 0 (bI (aRow x (xs (i + 1)) (xs (i + 2)) (xs (i + 3)) (xs (i + 4)), x).1.isNone)) = y8 at hr8 hy8 hg8
  subst hg8
  cases hv8
  refine v_istore dL_law_665 (by decide) ?_
  refine v_aload_n dL_law_667 rfl (by rfl) ?_
  refine w_callV hE dL_law_668 kL_76 mdS_M (by rfl) (by rfl) (sX10_thrown hE) rfl (by decide) (by decide) (by exact Nat.le_of_ble_eq_true rfl) (by omega) (by omega) (fun v7 g7 u7 h7 => ?_) (fun _ _ _ h => by cases h.1)
  obtain ⟨hv7, hu7, hg7⟩ := h7
  subst hu7
  subst hg7
  cases hv7
  refine v_eqi (y := bI (aRow x (xs (i + 1)) (xs (i + 2)) (xs (i + 3)) (xs (i + 4)), x).1.isNone) hy8 ?_
  refine v_iload dL_law_671 (by rfl) ?_
  refine v_icmp_eq (tgt := 678) dL_law_673 (by decide) (fun c673 => ?_) (fun c673 => ?_)
  · refine v_iload dL_law_678 (by rfl) ?_
    refine v_if_ne (tgt := 695) dL_law_680 (by decide) (fun c680 => ?_) (fun c680 => ?_)
    · refine v_goto (tgt := 1362) dL_law_695 (by decide) ?_
      exact lw_few (kk _ _ _ _ _ _ (lw_new hs hu9 hd9 ⟨g1, hg1⟩ hI hr8) (by omega) (by omega))
    · obtain ⟨a9, ha9⟩ : ∃ a9, (aRow x (xs (i + 1)) (xs (i + 2)) (xs (i + 3)) (xs (i + 4)), x).1 = some a9 := by
        cases hc9 : (aRow x (xs (i + 1)) (xs (i + 2)) (xs (i + 3)) (xs (i + 4)), x).1 with
        | none =>
          rw [hc9] at c680
          exact absurd c680 (by decide)
        | some a9 => exact ⟨a9, rfl⟩
      refine v_aload_n dL_law_683 rfl (by rfl) ?_
      refine v_iconst (v := nI 0) dL_law_684 (by decide) ?_
      refine v_lald hE dL_law_685 ((mdS_ne (by omega)).trans hg1) (i := 0) (by omega) (by omega) ?_
      refine v_eql (y := c64 a9) (hg2 a9 ha9) ?_
      refine v_iload dL_law_686 (by rfl) ?_
      refine v_eqi (y := a9) (by show ((aRow x (xs (i + 1)) (xs (i + 2)) (xs (i + 3)) (xs (i + 4)), x).1.getD (nI 0)) = a9; rw [ha9]; rfl) ?_
      refine v_i2l (v := c64 a9) dL_law_688 rfl ?_
      refine v_lcmp dL_law_689 ?_
      refine v_eqi (y := 0) lg_self ?_
      refine v_if_eq (tgt := 695) dL_law_690 (by decide) (fun c690 => ?_) (fun c690 => ?_)
      · refine v_goto (tgt := 1362) dL_law_695 (by decide) ?_
        exact lw_few (kk _ _ _ _ _ _ (lw_new hs hu9 hd9 ⟨g1, hg1⟩ hI hr8) (by omega) (by omega))
      · exact absurd rfl c690
  · exact absurd rfl c673
set_option maxRecDepth 100000 in
set_option maxHeartbeats 4000000 in
theorem lw_call {E : eN} (hE : eOk E) (hS : eSt E) (hT : eTh E) {f : aH} {t D M O b L i bc bs : Nat} {x : dV} {y : mV} {xs : Nat → Int32} (hX : va_X b L xs (S0 E) (S0 E).heap) (hL : L ≤ 2560) (hi : i + 4 < L) (hs : lwS f D M O t x y) (hbc : 5 ≤ bc) (hbs : 31 ≤ bs) (kk : ∀ (f' : aH) (t' : Nat) (x' : dV) (y' : mV) (bc' bs' : Nat), lwS f' D M O t' x' y' → bc ≤ bc' + 5 → bs ≤ bs' + 31 → V E mL_law 601024 7293034 lwQ 1362 [some (.ref b), some (.ref D), some (.ref M), some (.ref O), some (.int (nI i)), none, none] [] f' t' bc' bs') : V E mL_law 601024 7293034 lwQ 698 [some (.ref b), some (.ref D), some (.ref M), some (.ref O), some (.int (nI i)), none, none] [] f t bc bs := by
  obtain ⟨hI, hR, hk, hm, ⟨g0, hO⟩, hDM, hMO, hOt⟩ := id hs
  have ht : D + 1322 < t := by omega
  have hO1 : D + 1322 < O := by omega
  have hu8 := hR.2.1.2.1
  have hlv := hR.2.2.2.2.2.2.2
  refine v_aload_n dL_law_698 rfl (by rfl) ?_
  refine v_aload_n dL_law_699 rfl (by rfl) ?_
  refine v_iload dL_law_700 (by rfl) ?_
  refine v_iconst (v := nI 1) dL_law_702 (by decide) ?_
  refine v_iaddN dL_law_703 ?_
  refine v_sld hX dL_law_704 (by omega) (by omega) ?_
  refine v_aload_n dL_law_705 rfl (by rfl) ?_
  refine v_iload dL_law_706 (by rfl) ?_
  refine v_iconst (v := nI 2) dL_law_708 (by decide) ?_
  refine v_iaddN dL_law_709 ?_
  refine v_sld hX dL_law_710 (by omega) (by omega) ?_
  refine v_aload_n dL_law_711 rfl (by rfl) ?_
  refine v_iload dL_law_712 (by rfl) ?_
  refine v_iconst (v := nI 3) dL_law_714 (by decide) ?_
  refine v_iaddN dL_law_715 ?_
  refine v_sld hX dL_law_716 (by omega) (by omega) ?_
  refine v_aload_n dL_law_717 rfl (by rfl) ?_
  refine v_iload dL_law_718 (by rfl) ?_
  refine v_iconst (v := nI 4) dL_law_720 (by decide) ?_
  refine v_iaddN dL_law_721 ?_
  refine v_sld hX dL_law_722 (by omega) (by omega) ?_
  refine v_aload_n dL_law_723 rfl (by rfl) ?_
  refine v_callH hE dL_law_724 hL_call (by rfl) (sL_call hE hS hT hI hk ht hO hO1 hOt) rfl (fun n9 g9 u9 h9 => by cases h9.1) (by decide) (by decide) (by exact Nat.le_of_ble_eq_true rfl) (by omega) (by omega) (fun v9 g9 u9 h9 => ?_)
  obtain ⟨hv9, hu9, hd9, ⟨g1, hg1, hg2⟩, hf9⟩ := h9
  cases hv9
  refine v_istore dL_law_727 (by decide) ?_
  refine v_hp (lw_mk hm (fun b9 q1 q2 => hf9 b9 (by omega) (Or.inr (by omega)) (by omega))) ?_
  refine v_aload_n dL_law_729 rfl (by rfl) ?_
  refine v_aload_n dL_law_730 rfl (by rfl) ?_
  refine v_iload dL_law_731 (by rfl) ?_
  refine v_iconst (v := nI 1) dL_law_733 (by decide) ?_
  refine v_iaddN dL_law_734 ?_
  refine v_sld hX dL_law_735 (by omega) (by omega) ?_
  refine v_aload_n dL_law_736 rfl (by rfl) ?_
  refine v_iload dL_law_737 (by rfl) ?_
  refine v_iconst (v := nI 2) dL_law_739 (by decide) ?_
  refine v_iaddN dL_law_740 ?_
  refine v_sld hX dL_law_741 (by omega) (by omega) ?_
  refine v_aload_n dL_law_742 rfl (by rfl) ?_
  refine v_iload dL_law_743 (by rfl) ?_
  refine v_iconst (v := nI 3) dL_law_745 (by decide) ?_
  refine v_iaddN dL_law_746 ?_
  refine v_sld hX dL_law_747 (by omega) (by omega) ?_
  refine v_aload_n dL_law_748 rfl (by rfl) ?_
  refine v_iload dL_law_749 (by rfl) ?_
  refine v_iconst (v := nI 4) dL_law_751 (by decide) ?_
  refine v_iaddN dL_law_752 ?_
  refine v_sld hX dL_law_753 (by omega) (by omega) ?_
  refine w_callV hE dL_law_754 kL_112 mdS_M (by rfl) (by rfl) (sX10_call hE hR hI) rfl (by decide) (by decide) (by exact Nat.le_of_ble_eq_true rfl) (by omega) (by omega) (fun v8 g8 u8 h8 => ?_) (fun _ _ _ h => by cases h.1)
  obtain ⟨hv8, hu8', hg8⟩ := h8
  subst hu8'
  have hr8 : mRel x (y.1, va_up y.2 0 (bI (aCal x (xs (i + 1)) (xs (i + 2)) (xs (i + 3)) (xs (i + 4)), x).1.isNone)) := mRel_0 hR
  have hy8 : (y.1, va_up y.2 0 (bI (aCal x (xs (i + 1)) (xs (i + 2)) (xs (i + 3)) (xs (i + 4)), x).1.isNone)).2 0 = bI (aCal x (xs (i + 1)) (xs (i + 2)) (xs (i + 3)) (xs (i + 4)), x).1.isNone := va_up_self y.2 0 (bI (aCal x (xs (i + 1)) (xs (i + 2)) (xs (i + 3)) (xs (i + 4)), x).1.isNone)
  replace hg8 : g8 = mdS g9 M (y.1, va_up y.2 0 (bI (aCal x (xs (i + 1)) (xs (i + 2)) (xs (i + 3)) (xs (i + 4)), x).1.isNone)) := hg8
  generalize (y.1, va_up y.2 0 (bI (aCal x (xs (i + 1)) (xs (i + 2)) (xs (i + 3)) (xs (i + 4)), x).1.isNone)) = y8 at hr8 hy8 hg8
  subst hg8
  cases hv8
  refine v_istore dL_law_757 (by decide) ?_
  refine v_aload_n dL_law_759 rfl (by rfl) ?_
  refine w_callV hE dL_law_760 kL_76 mdS_M (by rfl) (by rfl) (sX10_thrown hE) rfl (by decide) (by decide) (by exact Nat.le_of_ble_eq_true rfl) (by omega) (by omega) (fun v7 g7 u7 h7 => ?_) (fun _ _ _ h => by cases h.1)
  obtain ⟨hv7, hu7, hg7⟩ := h7
  subst hu7
  subst hg7
  cases hv7
  refine v_eqi (y := bI (aCal x (xs (i + 1)) (xs (i + 2)) (xs (i + 3)) (xs (i + 4)), x).1.isNone) hy8 ?_
  refine v_iload dL_law_763 (by rfl) ?_
  refine v_icmp_eq (tgt := 770) dL_law_765 (by decide) (fun c765 => ?_) (fun c765 => ?_)
  · refine v_iload dL_law_770 (by rfl) ?_
    refine v_if_ne (tgt := 787) dL_law_772 (by decide) (fun c772 => ?_) (fun c772 => ?_)
    · refine v_goto (tgt := 1362) dL_law_787 (by decide) ?_
      exact lw_few (kk _ _ _ _ _ _ (lw_new hs hu9 hd9 ⟨g1, hg1⟩ hI hr8) (by omega) (by omega))
    · obtain ⟨a9, ha9⟩ : ∃ a9, (aCal x (xs (i + 1)) (xs (i + 2)) (xs (i + 3)) (xs (i + 4)), x).1 = some a9 := by
        cases hc9 : (aCal x (xs (i + 1)) (xs (i + 2)) (xs (i + 3)) (xs (i + 4)), x).1 with
        | none =>
          rw [hc9] at c772
          exact absurd c772 (by decide)
        | some a9 => exact ⟨a9, rfl⟩
      refine v_aload_n dL_law_775 rfl (by rfl) ?_
      refine v_iconst (v := nI 0) dL_law_776 (by decide) ?_
      refine v_lald hE dL_law_777 ((mdS_ne (by omega)).trans hg1) (i := 0) (by omega) (by omega) ?_
      refine v_eql (y := c64 a9) (hg2 a9 ha9) ?_
      refine v_iload dL_law_778 (by rfl) ?_
      refine v_eqi (y := a9) (by show ((aCal x (xs (i + 1)) (xs (i + 2)) (xs (i + 3)) (xs (i + 4)), x).1.getD (nI 0)) = a9; rw [ha9]; rfl) ?_
      refine v_i2l (v := c64 a9) dL_law_780 rfl ?_
      refine v_lcmp dL_law_781 ?_
      refine v_eqi (y := 0) lg_self ?_
      refine v_if_eq (tgt := 787) dL_law_782 (by decide) (fun c782 => ?_) (fun c782 => ?_)
      · refine v_goto (tgt := 1362) dL_law_787 (by decide) ?_
        exact lw_few (kk _ _ _ _ _ _ (lw_new hs hu9 hd9 ⟨g1, hg1⟩ hI hr8) (by omega) (by omega))
      · exact absurd rfl c782
  · exact absurd rfl c765
set_option maxRecDepth 100000 in
set_option maxHeartbeats 4000000 in
theorem lw_normalise {E : eN} (hE : eOk E) (hS : eSt E) (hT : eTh E) {f : aH} {t D M O b L i bc bs : Nat} {x : dV} {y : mV} {xs : Nat → Int32} (hX : va_X b L xs (S0 E) (S0 E).heap) (hL : L ≤ 2560) (hi : i + 4 < L) (hs : lwS f D M O t x y) (hbc : 5 ≤ bc) (hbs : 31 ≤ bs) (kk : ∀ (f' : aH) (t' : Nat) (x' : dV) (y' : mV) (bc' bs' : Nat), lwS f' D M O t' x' y' → bc ≤ bc' + 5 → bs ≤ bs' + 31 → V E mL_law 601024 7293034 lwQ 1362 [some (.ref b), some (.ref D), some (.ref M), some (.ref O), some (.int (nI i)), none, none] [] f' t' bc' bs') : V E mL_law 601024 7293034 lwQ 790 [some (.ref b), some (.ref D), some (.ref M), some (.ref O), some (.int (nI i)), none, none] [] f t bc bs := by
  obtain ⟨hI, hR, hk, hm, ⟨g0, hO⟩, hDM, hMO, hOt⟩ := id hs
  have ht : D + 1322 < t := by omega
  have hO1 : D + 1322 < O := by omega
  have hu8 := hR.2.1.2.1
  have hlv := hR.2.2.2.2.2.2.2
  refine v_aload_n dL_law_790 rfl (by rfl) ?_
  refine v_aload_n dL_law_791 rfl (by rfl) ?_
  refine v_iload dL_law_792 (by rfl) ?_
  refine v_iconst (v := nI 1) dL_law_794 (by decide) ?_
  refine v_iaddN dL_law_795 ?_
  refine v_sld hX dL_law_796 (by omega) (by omega) ?_
  refine v_aload_n dL_law_797 rfl (by rfl) ?_
  refine v_callH hE dL_law_798 hL_normalise (by rfl) (sL_normalise hE hS hT hI hlv hk ht hO hO1 hOt) rfl (fun n9 g9 u9 h9 => by cases h9.1) (by decide) (by decide) (by exact Nat.le_of_ble_eq_true rfl) (by omega) (by omega) (fun v9 g9 u9 h9 => ?_)
  obtain ⟨hv9, hu9, hd9, ⟨g1, hg1, hg2⟩, hf9⟩ := h9
  cases hv9
  refine v_istore dL_law_801 (by decide) ?_
  refine v_hp (lw_mk hm (fun b9 q1 q2 => hf9 b9 (by omega) (Or.inr (by omega)) (by omega))) ?_
  refine v_aload_n dL_law_803 rfl (by rfl) ?_
  refine v_aload_n dL_law_804 rfl (by rfl) ?_
  refine v_iload dL_law_805 (by rfl) ?_
  refine v_iconst (v := nI 1) dL_law_807 (by decide) ?_
  refine v_iaddN dL_law_808 ?_
  refine v_sld hX dL_law_809 (by omega) (by omega) ?_
  refine w_callV hE dL_law_810 kL_115 mdS_M (by rfl) (by rfl) (sX10_normalise hE hR hI) rfl (by decide) (by decide) (by exact Nat.le_of_ble_eq_true rfl) (by omega) (by omega) (fun v8 g8 u8 h8 => ?_) (fun _ _ _ h => by cases h.1)
  obtain ⟨hv8, hu8', y8, hg8, hr8, hy8⟩ := h8
  subst hu8'
  subst hg8
  cases hv8
  refine v_istore dL_law_813 (by decide) ?_
  refine v_aload_n dL_law_815 rfl (by rfl) ?_
  refine w_callV hE dL_law_816 kL_76 mdS_M (by rfl) (by rfl) (sX10_thrown hE) rfl (by decide) (by decide) (by exact Nat.le_of_ble_eq_true rfl) (by omega) (by omega) (fun v7 g7 u7 h7 => ?_) (fun _ _ _ h => by cases h.1)
  obtain ⟨hv7, hu7, hg7⟩ := h7
  subst hu7
  subst hg7
  cases hv7
  refine v_eqi (y := bI (pNor x (xs (i + 1))).1.isNone) hy8 ?_
  refine v_iload dL_law_819 (by rfl) ?_
  refine v_icmp_eq (tgt := 826) dL_law_821 (by decide) (fun c821 => ?_) (fun c821 => ?_)
  · refine v_iload dL_law_826 (by rfl) ?_
    refine v_if_ne (tgt := 843) dL_law_828 (by decide) (fun c828 => ?_) (fun c828 => ?_)
    · refine v_goto (tgt := 1362) dL_law_843 (by decide) ?_
      exact lw_few (kk _ _ _ _ _ _ (lw_new hs hu9 hd9 ⟨g1, hg1⟩ (dOk_nor hI hlv) hr8) (by omega) (by omega))
    · obtain ⟨a9, ha9⟩ : ∃ a9, (pNor x (xs (i + 1))).1 = some a9 := by
        cases hc9 : (pNor x (xs (i + 1))).1 with
        | none =>
          rw [hc9] at c828
          exact absurd c828 (by decide)
        | some a9 => exact ⟨a9, rfl⟩
      refine v_aload_n dL_law_831 rfl (by rfl) ?_
      refine v_iconst (v := nI 0) dL_law_832 (by decide) ?_
      refine v_lald hE dL_law_833 ((mdS_ne (by omega)).trans hg1) (i := 0) (by omega) (by omega) ?_
      refine v_eql (y := c64 a9) (hg2 a9 ha9) ?_
      refine v_iload dL_law_834 (by rfl) ?_
      refine v_eqi (y := a9) (by show ((pNor x (xs (i + 1))).1.getD (nI 0)) = a9; rw [ha9]; rfl) ?_
      refine v_i2l (v := c64 a9) dL_law_836 rfl ?_
      refine v_lcmp dL_law_837 ?_
      refine v_eqi (y := 0) lg_self ?_
      refine v_if_eq (tgt := 843) dL_law_838 (by decide) (fun c838 => ?_) (fun c838 => ?_)
      · refine v_goto (tgt := 1362) dL_law_843 (by decide) ?_
        exact lw_few (kk _ _ _ _ _ _ (lw_new hs hu9 hd9 ⟨g1, hg1⟩ (dOk_nor hI hlv) hr8) (by omega) (by omega))
      · exact absurd rfl c838
  · exact absurd rfl c821
set_option maxRecDepth 100000 in
set_option maxHeartbeats 4000000 in
theorem lw_split {E : eN} (hE : eOk E) (hS : eSt E) (hT : eTh E) {f : aH} {t D M O b L i bc bs : Nat} {x : dV} {y : mV} {xs : Nat → Int32} (hX : va_X b L xs (S0 E) (S0 E).heap) (hL : L ≤ 2560) (hi : i + 4 < L) (hs : lwS f D M O t x y) (hbc : 5 ≤ bc) (hbs : 31 ≤ bs) (kk : ∀ (f' : aH) (t' : Nat) (x' : dV) (y' : mV) (bc' bs' : Nat), lwS f' D M O t' x' y' → bc ≤ bc' + 5 → bs ≤ bs' + 31 → V E mL_law 601024 7293034 lwQ 1362 [some (.ref b), some (.ref D), some (.ref M), some (.ref O), some (.int (nI i)), none, none] [] f' t' bc' bs') : V E mL_law 601024 7293034 lwQ 846 [some (.ref b), some (.ref D), some (.ref M), some (.ref O), some (.int (nI i)), none, none] [] f t bc bs := by
  obtain ⟨hI, hR, hk, hm, ⟨g0, hO⟩, hDM, hMO, hOt⟩ := id hs
  have ht : D + 1322 < t := by omega
  have hO1 : D + 1322 < O := by omega
  have hu8 := hR.2.1.2.1
  have hlv := hR.2.2.2.2.2.2.2
  refine v_aload_n dL_law_846 rfl (by rfl) ?_
  refine v_aload_n dL_law_847 rfl (by rfl) ?_
  refine v_iload dL_law_848 (by rfl) ?_
  refine v_iconst (v := nI 1) dL_law_850 (by decide) ?_
  refine v_iaddN dL_law_851 ?_
  refine v_sld hX dL_law_852 (by omega) (by omega) ?_
  refine v_aload_n dL_law_853 rfl (by rfl) ?_
  refine v_callH hE dL_law_854 hL_split (by rfl) (sL_split hE hS hT hI hk ht hO hO1 hOt) rfl (fun n9 g9 u9 h9 => by cases h9.1) (by decide) (by decide) (by exact Nat.le_of_ble_eq_true rfl) (by omega) (by omega) (fun v9 g9 u9 h9 => ?_)
  obtain ⟨hv9, hu9, hd9, ⟨g1, hg1, hg2⟩, hf9⟩ := h9
  cases hv9
  refine v_istore dL_law_857 (by decide) ?_
  refine v_hp (lw_mk hm (fun b9 q1 q2 => hf9 b9 (by omega) (Or.inr (by omega)) (by omega))) ?_
  refine v_aload_n dL_law_859 rfl (by rfl) ?_
  refine v_aload_n dL_law_860 rfl (by rfl) ?_
  refine v_iload dL_law_861 (by rfl) ?_
  refine v_iconst (v := nI 1) dL_law_863 (by decide) ?_
  refine v_iaddN dL_law_864 ?_
  refine v_sld hX dL_law_865 (by omega) (by omega) ?_
  refine w_callV hE dL_law_866 kL_118 mdS_M (by rfl) (by rfl) (sX10_split hE hR hI) rfl (by decide) (by decide) (by exact Nat.le_of_ble_eq_true rfl) (by omega) (by omega) (fun v8 g8 u8 h8 => ?_) (fun _ _ _ h => by cases h.1)
  obtain ⟨hv8, hu8', y8, hg8, hr8, hy8⟩ := h8
  subst hu8'
  subst hg8
  cases hv8
  refine v_istore dL_law_869 (by decide) ?_
  refine v_aload_n dL_law_871 rfl (by rfl) ?_
  refine w_callV hE dL_law_872 kL_76 mdS_M (by rfl) (by rfl) (sX10_thrown hE) rfl (by decide) (by decide) (by exact Nat.le_of_ble_eq_true rfl) (by omega) (by omega) (fun v7 g7 u7 h7 => ?_) (fun _ _ _ h => by cases h.1)
  obtain ⟨hv7, hu7, hg7⟩ := h7
  subst hu7
  subst hg7
  cases hv7
  refine v_eqi (y := bI (pSpl x (xs (i + 1))).1.isNone) hy8 ?_
  refine v_iload dL_law_875 (by rfl) ?_
  refine v_icmp_eq (tgt := 882) dL_law_877 (by decide) (fun c877 => ?_) (fun c877 => ?_)
  · refine v_iload dL_law_882 (by rfl) ?_
    refine v_if_ne (tgt := 899) dL_law_884 (by decide) (fun c884 => ?_) (fun c884 => ?_)
    · refine v_goto (tgt := 1362) dL_law_899 (by decide) ?_
      exact lw_few (kk _ _ _ _ _ _ (lw_new hs hu9 hd9 ⟨g1, hg1⟩ (dOk_spl hI) hr8) (by omega) (by omega))
    · obtain ⟨a9, ha9⟩ : ∃ a9, (pSpl x (xs (i + 1))).1 = some a9 := by
        cases hc9 : (pSpl x (xs (i + 1))).1 with
        | none =>
          rw [hc9] at c884
          exact absurd c884 (by decide)
        | some a9 => exact ⟨a9, rfl⟩
      refine v_aload_n dL_law_887 rfl (by rfl) ?_
      refine v_iconst (v := nI 0) dL_law_888 (by decide) ?_
      refine v_lald hE dL_law_889 ((mdS_ne (by omega)).trans hg1) (i := 0) (by omega) (by omega) ?_
      refine v_eql (y := c64 a9) (hg2 a9 ha9) ?_
      refine v_iload dL_law_890 (by rfl) ?_
      refine v_eqi (y := a9) (by show ((pSpl x (xs (i + 1))).1.getD (nI 0)) = a9; rw [ha9]; rfl) ?_
      refine v_i2l (v := c64 a9) dL_law_892 rfl ?_
      refine v_lcmp dL_law_893 ?_
      refine v_eqi (y := 0) lg_self ?_
      refine v_if_eq (tgt := 899) dL_law_894 (by decide) (fun c894 => ?_) (fun c894 => ?_)
      · refine v_goto (tgt := 1362) dL_law_899 (by decide) ?_
        exact lw_few (kk _ _ _ _ _ _ (lw_new hs hu9 hd9 ⟨g1, hg1⟩ (dOk_spl hI) hr8) (by omega) (by omega))
      · exact absurd rfl c894
  · exact absurd rfl c877
set_option maxRecDepth 100000 in
set_option maxHeartbeats 4000000 in
theorem lw_join {E : eN} (hE : eOk E) (hS : eSt E) (hT : eTh E) {f : aH} {t D M O b L i bc bs : Nat} {x : dV} {y : mV} {xs : Nat → Int32} (hX : va_X b L xs (S0 E) (S0 E).heap) (hL : L ≤ 2560) (hi : i + 4 < L) (hs : lwS f D M O t x y) (hbc : 5 ≤ bc) (hbs : 31 ≤ bs) (kk : ∀ (f' : aH) (t' : Nat) (x' : dV) (y' : mV) (bc' bs' : Nat), lwS f' D M O t' x' y' → bc ≤ bc' + 5 → bs ≤ bs' + 31 → V E mL_law 601024 7293034 lwQ 1362 [some (.ref b), some (.ref D), some (.ref M), some (.ref O), some (.int (nI i)), none, none] [] f' t' bc' bs') : V E mL_law 601024 7293034 lwQ 902 [some (.ref b), some (.ref D), some (.ref M), some (.ref O), some (.int (nI i)), none, none] [] f t bc bs := by
  obtain ⟨hI, hR, hk, hm, ⟨g0, hO⟩, hDM, hMO, hOt⟩ := id hs
  have ht : D + 1322 < t := by omega
  have hO1 : D + 1322 < O := by omega
  have hu8 := hR.2.1.2.1
  have hlv := hR.2.2.2.2.2.2.2
  refine v_aload_n dL_law_902 rfl (by rfl) ?_
  refine v_aload_n dL_law_903 rfl (by rfl) ?_
  refine v_iload dL_law_904 (by rfl) ?_
  refine v_iconst (v := nI 1) dL_law_906 (by decide) ?_
  refine v_iaddN dL_law_907 ?_
  refine v_sld hX dL_law_908 (by omega) (by omega) ?_
  refine v_aload_n dL_law_909 rfl (by rfl) ?_
  refine v_callH hE dL_law_910 hL_join (by rfl) (sL_join hE hS hT hI hlv hk ht hO hO1 hOt) rfl (fun n9 g9 u9 h9 => by cases h9.1) (by decide) (by decide) (by exact Nat.le_of_ble_eq_true rfl) (by omega) (by omega) (fun v9 g9 u9 h9 => ?_)
  obtain ⟨hv9, hu9, hd9, ⟨g1, hg1, hg2⟩, hf9⟩ := h9
  cases hv9
  refine v_istore dL_law_913 (by decide) ?_
  refine v_hp (lw_mk hm (fun b9 q1 q2 => hf9 b9 (by omega) (Or.inr (by omega)) (by omega))) ?_
  refine v_aload_n dL_law_915 rfl (by rfl) ?_
  refine v_aload_n dL_law_916 rfl (by rfl) ?_
  refine v_iload dL_law_917 (by rfl) ?_
  refine v_iconst (v := nI 1) dL_law_919 (by decide) ?_
  refine v_iaddN dL_law_920 ?_
  refine v_sld hX dL_law_921 (by omega) (by omega) ?_
  refine w_callV hE dL_law_922 kL_121 mdS_M (by rfl) (by rfl) (sX10_join hE hR hI) rfl (by decide) (by decide) (by exact Nat.le_of_ble_eq_true rfl) (by omega) (by omega) (fun v8 g8 u8 h8 => ?_) (fun _ _ _ h => by cases h.1)
  obtain ⟨hv8, hu8', y8, hg8, hr8, hy8⟩ := h8
  subst hu8'
  subst hg8
  cases hv8
  refine v_istore dL_law_925 (by decide) ?_
  refine v_aload_n dL_law_927 rfl (by rfl) ?_
  refine w_callV hE dL_law_928 kL_76 mdS_M (by rfl) (by rfl) (sX10_thrown hE) rfl (by decide) (by decide) (by exact Nat.le_of_ble_eq_true rfl) (by omega) (by omega) (fun v7 g7 u7 h7 => ?_) (fun _ _ _ h => by cases h.1)
  obtain ⟨hv7, hu7, hg7⟩ := h7
  subst hu7
  subst hg7
  cases hv7
  refine v_eqi (y := bI (pJoi D x (xs (i + 1))).1.isNone) hy8 ?_
  refine v_iload dL_law_931 (by rfl) ?_
  refine v_icmp_eq (tgt := 938) dL_law_933 (by decide) (fun c933 => ?_) (fun c933 => ?_)
  · refine v_iload dL_law_938 (by rfl) ?_
    refine v_if_ne (tgt := 955) dL_law_940 (by decide) (fun c940 => ?_) (fun c940 => ?_)
    · refine v_goto (tgt := 1362) dL_law_955 (by decide) ?_
      exact lw_few (kk _ _ _ _ _ _ (lw_new hs hu9 hd9 ⟨g1, hg1⟩ (dOk_joi hI hlv) hr8) (by omega) (by omega))
    · obtain ⟨a9, ha9⟩ : ∃ a9, (pJoi D x (xs (i + 1))).1 = some a9 := by
        cases hc9 : (pJoi D x (xs (i + 1))).1 with
        | none =>
          rw [hc9] at c940
          exact absurd c940 (by decide)
        | some a9 => exact ⟨a9, rfl⟩
      refine v_aload_n dL_law_943 rfl (by rfl) ?_
      refine v_iconst (v := nI 0) dL_law_944 (by decide) ?_
      refine v_lald hE dL_law_945 ((mdS_ne (by omega)).trans hg1) (i := 0) (by omega) (by omega) ?_
      refine v_eql (y := c64 a9) (hg2 a9 ha9) ?_
      refine v_iload dL_law_946 (by rfl) ?_
      refine v_eqi (y := a9) (by show ((pJoi D x (xs (i + 1))).1.getD (nI 0)) = a9; rw [ha9]; rfl) ?_
      refine v_i2l (v := c64 a9) dL_law_948 rfl ?_
      refine v_lcmp dL_law_949 ?_
      refine v_eqi (y := 0) lg_self ?_
      refine v_if_eq (tgt := 955) dL_law_950 (by decide) (fun c950 => ?_) (fun c950 => ?_)
      · refine v_goto (tgt := 1362) dL_law_955 (by decide) ?_
        exact lw_few (kk _ _ _ _ _ _ (lw_new hs hu9 hd9 ⟨g1, hg1⟩ (dOk_joi hI hlv) hr8) (by omega) (by omega))
      · exact absurd rfl c950
  · exact absurd rfl c933
set_option maxRecDepth 100000 in
set_option maxHeartbeats 4000000 in
theorem lw_sort {E : eN} (hE : eOk E) (hS : eSt E) (hT : eTh E) {f : aH} {t D M O b L i bc bs : Nat} {x : dV} {y : mV} {xs : Nat → Int32} (hX : va_X b L xs (S0 E) (S0 E).heap) (hL : L ≤ 2560) (hi : i + 4 < L) (hs : lwS f D M O t x y) (hbc : 5 ≤ bc) (hbs : 31 ≤ bs) (kk : ∀ (f' : aH) (t' : Nat) (x' : dV) (y' : mV) (bc' bs' : Nat), lwS f' D M O t' x' y' → bc ≤ bc' + 5 → bs ≤ bs' + 31 → V E mL_law 601024 7293034 lwQ 1362 [some (.ref b), some (.ref D), some (.ref M), some (.ref O), some (.int (nI i)), none, none] [] f' t' bc' bs') : V E mL_law 601024 7293034 lwQ 958 [some (.ref b), some (.ref D), some (.ref M), some (.ref O), some (.int (nI i)), none, none] [] f t bc bs := by
  obtain ⟨hI, hR, hk, hm, ⟨g0, hO⟩, hDM, hMO, hOt⟩ := id hs
  have ht : D + 1322 < t := by omega
  have hO1 : D + 1322 < O := by omega
  have hu8 := hR.2.1.2.1
  have hlv := hR.2.2.2.2.2.2.2
  refine v_aload_n dL_law_958 rfl (by rfl) ?_
  refine v_aload_n dL_law_959 rfl (by rfl) ?_
  refine v_iload dL_law_960 (by rfl) ?_
  refine v_iconst (v := nI 1) dL_law_962 (by decide) ?_
  refine v_iaddN dL_law_963 ?_
  refine v_sld hX dL_law_964 (by omega) (by omega) ?_
  refine v_aload_n dL_law_965 rfl (by rfl) ?_
  refine v_callH hE dL_law_966 hL_sort (by rfl) (sL_sort hE hS hT hI hk ht hO hO1 hOt) rfl (fun n9 g9 u9 h9 => by cases h9.1) (by decide) (by decide) (by exact Nat.le_of_ble_eq_true rfl) (by omega) (by omega) (fun v9 g9 u9 h9 => ?_)
  obtain ⟨hv9, hu9, hd9, ⟨g1, hg1, hg2⟩, hf9⟩ := h9
  cases hv9
  refine v_istore dL_law_969 (by decide) ?_
  refine v_hp (lw_mk hm (fun b9 q1 q2 => hf9 b9 (by omega) (Or.inr (by omega)) (by omega))) ?_
  refine v_aload_n dL_law_971 rfl (by rfl) ?_
  refine v_aload_n dL_law_972 rfl (by rfl) ?_
  refine v_iload dL_law_973 (by rfl) ?_
  refine v_iconst (v := nI 1) dL_law_975 (by decide) ?_
  refine v_iaddN dL_law_976 ?_
  refine v_sld hX dL_law_977 (by omega) (by omega) ?_
  refine w_callV hE dL_law_978 kL_124 mdS_M (by rfl) (by rfl) (sX10_sort hE hR hI) rfl (by decide) (by decide) (by exact Nat.le_of_ble_eq_true rfl) (by omega) (by omega) (fun v8 g8 u8 h8 => ?_) (fun _ _ _ h => by cases h.1)
  obtain ⟨hv8, hu8', y8, hg8, hr8, hy8⟩ := h8
  subst hu8'
  subst hg8
  cases hv8
  refine v_istore dL_law_981 (by decide) ?_
  refine v_aload_n dL_law_983 rfl (by rfl) ?_
  refine w_callV hE dL_law_984 kL_76 mdS_M (by rfl) (by rfl) (sX10_thrown hE) rfl (by decide) (by decide) (by exact Nat.le_of_ble_eq_true rfl) (by omega) (by omega) (fun v7 g7 u7 h7 => ?_) (fun _ _ _ h => by cases h.1)
  obtain ⟨hv7, hu7, hg7⟩ := h7
  subst hu7
  subst hg7
  cases hv7
  refine v_eqi (y := bI (pSor x (xs (i + 1))).1.isNone) hy8 ?_
  refine v_iload dL_law_987 (by rfl) ?_
  refine v_icmp_eq (tgt := 994) dL_law_989 (by decide) (fun c989 => ?_) (fun c989 => ?_)
  · refine v_iload dL_law_994 (by rfl) ?_
    refine v_if_ne (tgt := 1011) dL_law_996 (by decide) (fun c996 => ?_) (fun c996 => ?_)
    · refine v_goto (tgt := 1362) dL_law_1011 (by decide) ?_
      exact lw_few (kk _ _ _ _ _ _ (lw_new hs hu9 hd9 ⟨g1, hg1⟩ (dOk_sor hI) hr8) (by omega) (by omega))
    · obtain ⟨a9, ha9⟩ : ∃ a9, (pSor x (xs (i + 1))).1 = some a9 := by
        cases hc9 : (pSor x (xs (i + 1))).1 with
        | none =>
          rw [hc9] at c996
          exact absurd c996 (by decide)
        | some a9 => exact ⟨a9, rfl⟩
      refine v_aload_n dL_law_999 rfl (by rfl) ?_
      refine v_iconst (v := nI 0) dL_law_1000 (by decide) ?_
      refine v_lald hE dL_law_1001 ((mdS_ne (by omega)).trans hg1) (i := 0) (by omega) (by omega) ?_
      refine v_eql (y := c64 a9) (hg2 a9 ha9) ?_
      refine v_iload dL_law_1002 (by rfl) ?_
      refine v_eqi (y := a9) (by show ((pSor x (xs (i + 1))).1.getD (nI 0)) = a9; rw [ha9]; rfl) ?_
      refine v_i2l (v := c64 a9) dL_law_1004 rfl ?_
      refine v_lcmp dL_law_1005 ?_
      refine v_eqi (y := 0) lg_self ?_
      refine v_if_eq (tgt := 1011) dL_law_1006 (by decide) (fun c1006 => ?_) (fun c1006 => ?_)
      · refine v_goto (tgt := 1362) dL_law_1011 (by decide) ?_
        exact lw_few (kk _ _ _ _ _ _ (lw_new hs hu9 hd9 ⟨g1, hg1⟩ (dOk_sor hI) hr8) (by omega) (by omega))
      · exact absurd rfl c1006
  · exact absurd rfl c989
set_option maxRecDepth 100000 in
set_option maxHeartbeats 4000000 in
theorem lw_merge {E : eN} (hE : eOk E) (hS : eSt E) (hT : eTh E) {f : aH} {t D M O b L i bc bs : Nat} {x : dV} {y : mV} {xs : Nat → Int32} (hX : va_X b L xs (S0 E) (S0 E).heap) (hL : L ≤ 2560) (hi : i + 4 < L) (hs : lwS f D M O t x y) (hbc : 5 ≤ bc) (hbs : 31 ≤ bs) (kk : ∀ (f' : aH) (t' : Nat) (x' : dV) (y' : mV) (bc' bs' : Nat), lwS f' D M O t' x' y' → bc ≤ bc' + 5 → bs ≤ bs' + 31 → V E mL_law 601024 7293034 lwQ 1362 [some (.ref b), some (.ref D), some (.ref M), some (.ref O), some (.int (nI i)), none, none] [] f' t' bc' bs') : V E mL_law 601024 7293034 lwQ 1014 [some (.ref b), some (.ref D), some (.ref M), some (.ref O), some (.int (nI i)), none, none] [] f t bc bs := by
  obtain ⟨hI, hR, hk, hm, ⟨g0, hO⟩, hDM, hMO, hOt⟩ := id hs
  have ht : D + 1322 < t := by omega
  have hO1 : D + 1322 < O := by omega
  have hu8 := hR.2.1.2.1
  have hlv := hR.2.2.2.2.2.2.2
  refine v_aload_n dL_law_1014 rfl (by rfl) ?_
  refine w_callV hE dL_law_1015 kL_125 hk.1 (by rfl) (by rfl) (sX9_merge hE hS hT hI hk ht) rfl (by decide) (by decide) (by exact Nat.le_of_ble_eq_true rfl) (by omega) (by omega) (fun v9 g9 u9 h9 => ?_) (fun n9 g9 u9 h9 => by obtain ⟨a9, ha9⟩ := so_merge (x := x); rw [ha9] at h9; exact (aO_rl (show (Sum.inr n9 : aO) = Sum.inl (some (.int a9)) from h9.1)).elim)
  obtain ⟨hv9, hu9, hd9⟩ := h9
  obtain ⟨a9, ha9⟩ := so_merge (x := x)
  rw [ha9] at hv9
  have hv7 : v9 = some (.int a9) := Sum.inl.inj (show (Sum.inl v9 : aO) = Sum.inl (some (.int a9)) from hv9)
  subst hv7
  refine v_hp (lw_mk hm (fun b9 q1 q2 => hd9.2 b9 (by omega) (Or.inr (by omega)))) ?_
  refine v_aload_n dL_law_1018 rfl (by rfl) ?_
  refine w_callV hE dL_law_1019 kL_128 mdS_M (by rfl) (by rfl) (sX10_merge hE hR hI) rfl (by decide) (by decide) (by exact Nat.le_of_ble_eq_true rfl) (by omega) (by omega) (fun v8 g8 u8 h8 => ?_) (fun _ _ _ h => by cases h.1)
  obtain ⟨hv8, hu8', y8, hg8, hr8, hy8⟩ := h8
  subst hu8'
  subst hg8
  rw [ha9] at hv8
  cases hv8
  refine v_icmp_eq (tgt := 1362) dL_law_1022 (by decide) (fun c1022 => ?_) (fun c1022 => ?_)
  · exact lw_few (kk _ _ _ _ _ _ (lw_new hs hu9 hd9.1 ⟨g0, (hd9.2 O hOt (Or.inr hO1)).trans hO⟩ (dOk_mer hI) hr8) (by omega) (by omega))
  · exact absurd rfl c1022
set_option maxRecDepth 100000 in
set_option maxHeartbeats 4000000 in
theorem lw_apply {E : eN} (hE : eOk E) (hS : eSt E) (hT : eTh E) {f : aH} {t D M O b L i bc bs : Nat} {x : dV} {y : mV} {xs : Nat → Int32} (hX : va_X b L xs (S0 E) (S0 E).heap) (hL : L ≤ 2560) (hi : i + 4 < L) (hs : lwS f D M O t x y) (hbc : 5 ≤ bc) (hbs : 31 ≤ bs) (kk : ∀ (f' : aH) (t' : Nat) (x' : dV) (y' : mV) (bc' bs' : Nat), lwS f' D M O t' x' y' → bc ≤ bc' + 5 → bs ≤ bs' + 31 → V E mL_law 601024 7293034 lwQ 1362 [some (.ref b), some (.ref D), some (.ref M), some (.ref O), some (.int (nI i)), none, none] [] f' t' bc' bs') : V E mL_law 601024 7293034 lwQ 1027 [some (.ref b), some (.ref D), some (.ref M), some (.ref O), some (.int (nI i)), none, none] [] f t bc bs := by
  obtain ⟨hI, hR, hk, hm, ⟨g0, hO⟩, hDM, hMO, hOt⟩ := id hs
  have ht : D + 1322 < t := by omega
  have hO1 : D + 1322 < O := by omega
  have hu8 := hR.2.1.2.1
  have hlv := hR.2.2.2.2.2.2.2
  refine v_aload_n dL_law_1027 rfl (by rfl) ?_
  refine v_aload_n dL_law_1028 rfl (by rfl) ?_
  refine v_iload dL_law_1029 (by rfl) ?_
  refine v_iconst (v := nI 1) dL_law_1031 (by decide) ?_
  refine v_iaddN dL_law_1032 ?_
  refine v_sld hX dL_law_1033 (by omega) (by omega) ?_
  refine v_aload_n dL_law_1034 rfl (by rfl) ?_
  refine v_iload dL_law_1035 (by rfl) ?_
  refine v_iconst (v := nI 2) dL_law_1037 (by decide) ?_
  refine v_iaddN dL_law_1038 ?_
  refine v_sld hX dL_law_1039 (by omega) (by omega) ?_
  refine v_aload_n dL_law_1040 rfl (by rfl) ?_
  refine v_iload dL_law_1041 (by rfl) ?_
  refine v_iconst (v := nI 3) dL_law_1043 (by decide) ?_
  refine v_iaddN dL_law_1044 ?_
  refine v_sld hX dL_law_1045 (by omega) (by omega) ?_
  refine v_aload_n dL_law_1046 rfl (by rfl) ?_
  refine v_iload dL_law_1047 (by rfl) ?_
  refine v_iconst (v := nI 4) dL_law_1049 (by decide) ?_
  refine v_iaddN dL_law_1050 ?_
  refine v_sld hX dL_law_1051 (by omega) (by omega) ?_
  refine v_aload_n dL_law_1052 rfl (by rfl) ?_
  refine v_callH hE dL_law_1053 hL_apply (by rfl) (sL_apply hE hS hT hI hk ht hO hO1 hOt) rfl (fun n9 g9 u9 h9 => by cases h9.1) (by decide) (by decide) (by exact Nat.le_of_ble_eq_true rfl) (by omega) (by omega) (fun v9 g9 u9 h9 => ?_)
  obtain ⟨hv9, hu9, hd9, ⟨g1, hg1, hg2⟩, hf9⟩ := h9
  cases hv9
  refine v_istore dL_law_1056 (by decide) ?_
  refine v_hp (lw_mk hm (fun b9 q1 q2 => hf9 b9 (by omega) (Or.inr (by omega)) (by omega))) ?_
  refine v_aload_n dL_law_1058 rfl (by rfl) ?_
  refine v_aload_n dL_law_1059 rfl (by rfl) ?_
  refine v_iload dL_law_1060 (by rfl) ?_
  refine v_iconst (v := nI 1) dL_law_1062 (by decide) ?_
  refine v_iaddN dL_law_1063 ?_
  refine v_sld hX dL_law_1064 (by omega) (by omega) ?_
  refine v_aload_n dL_law_1065 rfl (by rfl) ?_
  refine v_iload dL_law_1066 (by rfl) ?_
  refine v_iconst (v := nI 2) dL_law_1068 (by decide) ?_
  refine v_iaddN dL_law_1069 ?_
  refine v_sld hX dL_law_1070 (by omega) (by omega) ?_
  refine v_aload_n dL_law_1071 rfl (by rfl) ?_
  refine v_iload dL_law_1072 (by rfl) ?_
  refine v_iconst (v := nI 3) dL_law_1074 (by decide) ?_
  refine v_iaddN dL_law_1075 ?_
  refine v_sld hX dL_law_1076 (by omega) (by omega) ?_
  refine v_aload_n dL_law_1077 rfl (by rfl) ?_
  refine v_iload dL_law_1078 (by rfl) ?_
  refine v_iconst (v := nI 4) dL_law_1080 (by decide) ?_
  refine v_iaddN dL_law_1081 ?_
  refine v_sld hX dL_law_1082 (by omega) (by omega) ?_
  refine w_callV hE dL_law_1083 kL_131 mdS_M (by rfl) (by rfl) (sX10_apply hE hR hI) rfl (by decide) (by decide) (by exact Nat.le_of_ble_eq_true rfl) (by omega) (by omega) (fun v8 g8 u8 h8 => ?_) (fun _ _ _ h => by cases h.1)
  obtain ⟨hv8, hu8', y8, hg8, hr8, hy8⟩ := h8
  subst hu8'
  subst hg8
  cases hv8
  refine v_istore dL_law_1086 (by decide) ?_
  refine v_aload_n dL_law_1088 rfl (by rfl) ?_
  refine w_callV hE dL_law_1089 kL_76 mdS_M (by rfl) (by rfl) (sX10_thrown hE) rfl (by decide) (by decide) (by exact Nat.le_of_ble_eq_true rfl) (by omega) (by omega) (fun v7 g7 u7 h7 => ?_) (fun _ _ _ h => by cases h.1)
  obtain ⟨hv7, hu7, hg7⟩ := h7
  subst hu7
  subst hg7
  cases hv7
  refine v_eqi (y := bI (pApp x (xs (i + 1)) (xs (i + 2)) (xs (i + 3)) (xs (i + 4))).1.isNone) hy8 ?_
  refine v_iload dL_law_1092 (by rfl) ?_
  refine v_icmp_eq (tgt := 1099) dL_law_1094 (by decide) (fun c1094 => ?_) (fun c1094 => ?_)
  · refine v_iload dL_law_1099 (by rfl) ?_
    refine v_if_ne (tgt := 1116) dL_law_1101 (by decide) (fun c1101 => ?_) (fun c1101 => ?_)
    · refine v_goto (tgt := 1362) dL_law_1116 (by decide) ?_
      exact lw_few (kk _ _ _ _ _ _ (lw_new hs hu9 hd9 ⟨g1, hg1⟩ (dOk_app hI) hr8) (by omega) (by omega))
    · obtain ⟨a9, ha9⟩ : ∃ a9, (pApp x (xs (i + 1)) (xs (i + 2)) (xs (i + 3)) (xs (i + 4))).1 = some a9 := by
        cases hc9 : (pApp x (xs (i + 1)) (xs (i + 2)) (xs (i + 3)) (xs (i + 4))).1 with
        | none =>
          rw [hc9] at c1101
          exact absurd c1101 (by decide)
        | some a9 => exact ⟨a9, rfl⟩
      refine v_aload_n dL_law_1104 rfl (by rfl) ?_
      refine v_iconst (v := nI 0) dL_law_1105 (by decide) ?_
      refine v_lald hE dL_law_1106 ((mdS_ne (by omega)).trans hg1) (i := 0) (by omega) (by omega) ?_
      refine v_eql (y := c64 a9) (hg2 a9 ha9) ?_
      refine v_iload dL_law_1107 (by rfl) ?_
      refine v_eqi (y := a9) (by show ((pApp x (xs (i + 1)) (xs (i + 2)) (xs (i + 3)) (xs (i + 4))).1.getD (nI 0)) = a9; rw [ha9]; rfl) ?_
      refine v_i2l (v := c64 a9) dL_law_1109 rfl ?_
      refine v_lcmp dL_law_1110 ?_
      refine v_eqi (y := 0) lg_self ?_
      refine v_if_eq (tgt := 1116) dL_law_1111 (by decide) (fun c1111 => ?_) (fun c1111 => ?_)
      · refine v_goto (tgt := 1362) dL_law_1116 (by decide) ?_
        exact lw_few (kk _ _ _ _ _ _ (lw_new hs hu9 hd9 ⟨g1, hg1⟩ (dOk_app hI) hr8) (by omega) (by omega))
      · exact absurd rfl c1111
  · exact absurd rfl c1094
set_option maxRecDepth 100000 in
set_option maxHeartbeats 4000000 in
theorem lw_carried {E : eN} (hE : eOk E) (hS : eSt E) (hT : eTh E) {f : aH} {t D M O b L i bc bs : Nat} {x : dV} {y : mV} {xs : Nat → Int32} (hX : va_X b L xs (S0 E) (S0 E).heap) (hL : L ≤ 2560) (hi : i + 4 < L) (hs : lwS f D M O t x y) (hbc : 5 ≤ bc) (hbs : 31 ≤ bs) (kk : ∀ (f' : aH) (t' : Nat) (x' : dV) (y' : mV) (bc' bs' : Nat), lwS f' D M O t' x' y' → bc ≤ bc' + 5 → bs ≤ bs' + 31 → V E mL_law 601024 7293034 lwQ 1362 [some (.ref b), some (.ref D), some (.ref M), some (.ref O), some (.int (nI i)), none, none] [] f' t' bc' bs') : V E mL_law 601024 7293034 lwQ 1119 [some (.ref b), some (.ref D), some (.ref M), some (.ref O), some (.int (nI i)), none, none] [] f t bc bs := by
  obtain ⟨hI, hR, hk, hm, ⟨g0, hO⟩, hDM, hMO, hOt⟩ := id hs
  have ht : D + 1322 < t := by omega
  have hO1 : D + 1322 < O := by omega
  have hu8 := hR.2.1.2.1
  have hlv := hR.2.2.2.2.2.2.2
  refine v_aload_n dL_law_1119 rfl (by rfl) ?_
  refine v_aload_n dL_law_1120 rfl (by rfl) ?_
  refine v_iload dL_law_1121 (by rfl) ?_
  refine v_iconst (v := nI 1) dL_law_1123 (by decide) ?_
  refine v_iaddN dL_law_1124 ?_
  refine v_sld hX dL_law_1125 (by omega) (by omega) ?_
  refine w_callV hE dL_law_1126 kL_132 hk.1 (by rfl) (by rfl) (sX9_carried hE hS hT hI hk ht) rfl (by decide) (by decide) (by exact Nat.le_of_ble_eq_true rfl) (by omega) (by omega) (fun v9 g9 u9 h9 => ?_) (fun n9 g9 u9 h9 => (aO_rl (show (Sum.inr n9 : aO) = Sum.inl (some (.int (hCar (dH x) (xs (i + 1))))) from h9.1)).elim)
  obtain ⟨hv9, hu9, hd9⟩ := h9
  have hv7 : v9 = some (.int (hCar (dH x) (xs (i + 1)))) := Sum.inl.inj (show (Sum.inl v9 : aO) = Sum.inl (some (.int (hCar (dH x) (xs (i + 1))))) from hv9)
  subst hv7
  refine v_hp (lw_mk hm (fun b9 q1 q2 => hd9.2 b9 (by omega) (Or.inr (by omega)))) ?_
  refine v_aload_n dL_law_1129 rfl (by rfl) ?_
  refine v_aload_n dL_law_1130 rfl (by rfl) ?_
  refine v_iload dL_law_1131 (by rfl) ?_
  refine v_iconst (v := nI 1) dL_law_1133 (by decide) ?_
  refine v_iaddN dL_law_1134 ?_
  refine v_sld hX dL_law_1135 (by omega) (by omega) ?_
  refine w_callV hE dL_law_1136 kL_135 mdS_M (by rfl) (by rfl) (sX10_carried hE hR hI) rfl (by decide) (by decide) (by exact Nat.le_of_ble_eq_true rfl) (by omega) (by omega) (fun v8 g8 u8 h8 => ?_) (fun _ _ _ h => by cases h.1)
  obtain ⟨hv8, hu8', hg8⟩ := h8
  subst hu8'
  subst hg8
  cases hv8
  refine v_icmp_eq (tgt := 1362) dL_law_1139 (by decide) (fun c1139 => ?_) (fun c1139 => ?_)
  · exact lw_few (kk _ _ _ _ _ _ (lw_new hs hu9 hd9.1 ⟨g0, (hd9.2 O hOt (Or.inr hO1)).trans hO⟩ hI (mRel_0 hR)) (by omega) (by omega))
  · exact absurd rfl c1139
set_option maxRecDepth 100000 in
set_option maxHeartbeats 4000000 in
theorem lw_back {E : eN} (hE : eOk E) (hS : eSt E) (hT : eTh E) {f : aH} {t D M O b L i bc bs : Nat} {x : dV} {y : mV} {xs : Nat → Int32} (hX : va_X b L xs (S0 E) (S0 E).heap) (hL : L ≤ 2560) (hi : i + 4 < L) (hs : lwS f D M O t x y) (hbc : 5 ≤ bc) (hbs : 31 ≤ bs) (kk : ∀ (f' : aH) (t' : Nat) (x' : dV) (y' : mV) (bc' bs' : Nat), lwS f' D M O t' x' y' → bc ≤ bc' + 5 → bs ≤ bs' + 31 → V E mL_law 601024 7293034 lwQ 1362 [some (.ref b), some (.ref D), some (.ref M), some (.ref O), some (.int (nI i)), none, none] [] f' t' bc' bs') : V E mL_law 601024 7293034 lwQ 1144 [some (.ref b), some (.ref D), some (.ref M), some (.ref O), some (.int (nI i)), none, none] [] f t bc bs := by
  obtain ⟨hI, hR, hk, hm, ⟨g0, hO⟩, hDM, hMO, hOt⟩ := id hs
  have ht : D + 1322 < t := by omega
  have hO1 : D + 1322 < O := by omega
  have hu8 := hR.2.1.2.1
  have hlv := hR.2.2.2.2.2.2.2
  refine v_aload_n dL_law_1144 rfl (by rfl) ?_
  refine v_aload_n dL_law_1145 rfl (by rfl) ?_
  refine v_iload dL_law_1146 (by rfl) ?_
  refine v_iconst (v := nI 1) dL_law_1148 (by decide) ?_
  refine v_iaddN dL_law_1149 ?_
  refine v_sld hX dL_law_1150 (by omega) (by omega) ?_
  refine w_callV hE dL_law_1151 kL_136 hk.1 (by rfl) (by rfl) (sX9_back hE hS hT hI hk ht) rfl (by decide) (by decide) (by exact Nat.le_of_ble_eq_true rfl) (by omega) (by omega) (fun v9 g9 u9 h9 => ?_) (fun n9 g9 u9 h9 => (aO_rl (show (Sum.inr n9 : aO) = Sum.inl (some (.int (hBac (dH x) (xs (i + 1))))) from h9.1)).elim)
  obtain ⟨hv9, hu9, hd9⟩ := h9
  have hv7 : v9 = some (.int (hBac (dH x) (xs (i + 1)))) := Sum.inl.inj (show (Sum.inl v9 : aO) = Sum.inl (some (.int (hBac (dH x) (xs (i + 1))))) from hv9)
  subst hv7
  refine v_hp (lw_mk hm (fun b9 q1 q2 => hd9.2 b9 (by omega) (Or.inr (by omega)))) ?_
  refine v_aload_n dL_law_1154 rfl (by rfl) ?_
  refine v_aload_n dL_law_1155 rfl (by rfl) ?_
  refine v_iload dL_law_1156 (by rfl) ?_
  refine v_iconst (v := nI 1) dL_law_1158 (by decide) ?_
  refine v_iaddN dL_law_1159 ?_
  refine v_sld hX dL_law_1160 (by omega) (by omega) ?_
  refine w_callV hE dL_law_1161 kL_139 mdS_M (by rfl) (by rfl) (sX10_back hE hR hI) rfl (by decide) (by decide) (by exact Nat.le_of_ble_eq_true rfl) (by omega) (by omega) (fun v8 g8 u8 h8 => ?_) (fun _ _ _ h => by cases h.1)
  obtain ⟨hv8, hu8', hg8⟩ := h8
  subst hu8'
  subst hg8
  cases hv8
  refine v_icmp_eq (tgt := 1362) dL_law_1164 (by decide) (fun c1164 => ?_) (fun c1164 => ?_)
  · exact lw_few (kk _ _ _ _ _ _ (lw_new hs hu9 hd9.1 ⟨g0, (hd9.2 O hOt (Or.inr hO1)).trans hO⟩ hI (mRel_0 hR)) (by omega) (by omega))
  · exact absurd rfl c1164
set_option maxRecDepth 100000 in
set_option maxHeartbeats 4000000 in
theorem lw_same {E : eN} (hE : eOk E) (hS : eSt E) (hT : eTh E) {f : aH} {t D M O b L i bc bs : Nat} {x : dV} {y : mV} {xs : Nat → Int32} (hX : va_X b L xs (S0 E) (S0 E).heap) (hL : L ≤ 2560) (hi : i + 4 < L) (hs : lwS f D M O t x y) (hbc : 5 ≤ bc) (hbs : 31 ≤ bs) (kk : ∀ (f' : aH) (t' : Nat) (x' : dV) (y' : mV) (bc' bs' : Nat), lwS f' D M O t' x' y' → bc ≤ bc' + 5 → bs ≤ bs' + 31 → V E mL_law 601024 7293034 lwQ 1362 [some (.ref b), some (.ref D), some (.ref M), some (.ref O), some (.int (nI i)), none, none] [] f' t' bc' bs') : V E mL_law 601024 7293034 lwQ 1169 [some (.ref b), some (.ref D), some (.ref M), some (.ref O), some (.int (nI i)), none, none] [] f t bc bs := by
  obtain ⟨hI, hR, hk, hm, ⟨g0, hO⟩, hDM, hMO, hOt⟩ := id hs
  have ht : D + 1322 < t := by omega
  have hO1 : D + 1322 < O := by omega
  have hu8 := hR.2.1.2.1
  have hlv := hR.2.2.2.2.2.2.2
  refine v_aload_n dL_law_1169 rfl (by rfl) ?_
  refine v_aload_n dL_law_1170 rfl (by rfl) ?_
  refine v_iload dL_law_1171 (by rfl) ?_
  refine v_iconst (v := nI 1) dL_law_1173 (by decide) ?_
  refine v_iaddN dL_law_1174 ?_
  refine v_sld hX dL_law_1175 (by omega) (by omega) ?_
  refine v_aload_n dL_law_1176 rfl (by rfl) ?_
  refine v_iload dL_law_1177 (by rfl) ?_
  refine v_iconst (v := nI 2) dL_law_1179 (by decide) ?_
  refine v_iaddN dL_law_1180 ?_
  refine v_sld hX dL_law_1181 (by omega) (by omega) ?_
  refine v_aload_n dL_law_1182 rfl (by rfl) ?_
  refine v_iload dL_law_1183 (by rfl) ?_
  refine v_iconst (v := nI 3) dL_law_1185 (by decide) ?_
  refine v_iaddN dL_law_1186 ?_
  refine v_sld hX dL_law_1187 (by omega) (by omega) ?_
  refine v_aload_n dL_law_1188 rfl (by rfl) ?_
  refine v_iload dL_law_1189 (by rfl) ?_
  refine v_iconst (v := nI 4) dL_law_1191 (by decide) ?_
  refine v_iaddN dL_law_1192 ?_
  refine v_sld hX dL_law_1193 (by omega) (by omega) ?_
  refine v_aload_n dL_law_1194 rfl (by rfl) ?_
  refine v_callH hE dL_law_1195 hL_same (by rfl) (sL_same hE hS hT hI hk ht hO hO1 hOt) rfl (fun n9 g9 u9 h9 => by cases h9.1) (by decide) (by decide) (by exact Nat.le_of_ble_eq_true rfl) (by omega) (by omega) (fun v9 g9 u9 h9 => ?_)
  obtain ⟨hv9, hu9, hd9, ⟨g1, hg1, hg2⟩, hf9⟩ := h9
  cases hv9
  refine v_istore dL_law_1198 (by decide) ?_
  refine v_hp (lw_mk hm (fun b9 q1 q2 => hf9 b9 (by omega) (Or.inr (by omega)) (by omega))) ?_
  refine v_aload_n dL_law_1200 rfl (by rfl) ?_
  refine v_aload_n dL_law_1201 rfl (by rfl) ?_
  refine v_iload dL_law_1202 (by rfl) ?_
  refine v_iconst (v := nI 1) dL_law_1204 (by decide) ?_
  refine v_iaddN dL_law_1205 ?_
  refine v_sld hX dL_law_1206 (by omega) (by omega) ?_
  refine v_aload_n dL_law_1207 rfl (by rfl) ?_
  refine v_iload dL_law_1208 (by rfl) ?_
  refine v_iconst (v := nI 2) dL_law_1210 (by decide) ?_
  refine v_iaddN dL_law_1211 ?_
  refine v_sld hX dL_law_1212 (by omega) (by omega) ?_
  refine v_aload_n dL_law_1213 rfl (by rfl) ?_
  refine v_iload dL_law_1214 (by rfl) ?_
  refine v_iconst (v := nI 3) dL_law_1216 (by decide) ?_
  refine v_iaddN dL_law_1217 ?_
  refine v_sld hX dL_law_1218 (by omega) (by omega) ?_
  refine v_aload_n dL_law_1219 rfl (by rfl) ?_
  refine v_iload dL_law_1220 (by rfl) ?_
  refine v_iconst (v := nI 4) dL_law_1222 (by decide) ?_
  refine v_iaddN dL_law_1223 ?_
  refine v_sld hX dL_law_1224 (by omega) (by omega) ?_
  refine w_callV hE dL_law_1225 kL_142 mdS_M (by rfl) (by rfl) (sX10_same hE hR hI) rfl (by decide) (by decide) (by exact Nat.le_of_ble_eq_true rfl) (by omega) (by omega) (fun v8 g8 u8 h8 => ?_) (fun _ _ _ h => by cases h.1)
  obtain ⟨hv8, hu8', hg8⟩ := h8
  subst hu8'
  have hr8 : mRel x (y.1, va_up y.2 0 (bI (aSam x (xs (i + 1)) (xs (i + 2)) (xs (i + 3)) (xs (i + 4)), x).1.isNone)) := mRel_0 hR
  have hy8 : (y.1, va_up y.2 0 (bI (aSam x (xs (i + 1)) (xs (i + 2)) (xs (i + 3)) (xs (i + 4)), x).1.isNone)).2 0 = bI (aSam x (xs (i + 1)) (xs (i + 2)) (xs (i + 3)) (xs (i + 4)), x).1.isNone := va_up_self y.2 0 (bI (aSam x (xs (i + 1)) (xs (i + 2)) (xs (i + 3)) (xs (i + 4)), x).1.isNone)
  replace hg8 : g8 = mdS g9 M (y.1, va_up y.2 0 (bI (aSam x (xs (i + 1)) (xs (i + 2)) (xs (i + 3)) (xs (i + 4)), x).1.isNone)) := hg8
  generalize (y.1, va_up y.2 0 (bI (aSam x (xs (i + 1)) (xs (i + 2)) (xs (i + 3)) (xs (i + 4)), x).1.isNone)) = y8 at hr8 hy8 hg8
  subst hg8
  cases hv8
  refine v_istore dL_law_1228 (by decide) ?_
  refine v_aload_n dL_law_1230 rfl (by rfl) ?_
  refine w_callV hE dL_law_1231 kL_76 mdS_M (by rfl) (by rfl) (sX10_thrown hE) rfl (by decide) (by decide) (by exact Nat.le_of_ble_eq_true rfl) (by omega) (by omega) (fun v7 g7 u7 h7 => ?_) (fun _ _ _ h => by cases h.1)
  obtain ⟨hv7, hu7, hg7⟩ := h7
  subst hu7
  subst hg7
  cases hv7
  refine v_eqi (y := bI (aSam x (xs (i + 1)) (xs (i + 2)) (xs (i + 3)) (xs (i + 4)), x).1.isNone) hy8 ?_
  refine v_iload dL_law_1234 (by rfl) ?_
  refine v_icmp_eq (tgt := 1241) dL_law_1236 (by decide) (fun c1236 => ?_) (fun c1236 => ?_)
  · refine v_iload dL_law_1241 (by rfl) ?_
    refine v_if_ne (tgt := 1265) dL_law_1243 (by decide) (fun c1243 => ?_) (fun c1243 => ?_)
    · refine v_goto (tgt := 1362) dL_law_1265 (by decide) ?_
      exact lw_few (kk _ _ _ _ _ _ (lw_new hs hu9 hd9 ⟨g1, hg1⟩ hI hr8) (by omega) (by omega))
    · obtain ⟨a9, ha9⟩ : ∃ a9, (aSam x (xs (i + 1)) (xs (i + 2)) (xs (i + 3)) (xs (i + 4)), x).1 = some a9 := by
        cases hc9 : (aSam x (xs (i + 1)) (xs (i + 2)) (xs (i + 3)) (xs (i + 4)), x).1 with
        | none =>
          rw [hc9] at c1243
          exact absurd c1243 (by decide)
        | some a9 => exact ⟨a9, rfl⟩
      refine v_aload_n dL_law_1246 rfl (by rfl) ?_
      refine v_iconst (v := nI 0) dL_law_1247 (by decide) ?_
      refine v_lald hE dL_law_1248 ((mdS_ne (by omega)).trans hg1) (i := 0) (by omega) (by omega) ?_
      refine v_eql (y := cFl a9) (hg2 a9 ha9) ?_
      refine v_iload dL_law_1249 (by rfl) ?_
      refine v_eqi (y := a9) (by show ((aSam x (xs (i + 1)) (xs (i + 2)) (xs (i + 3)) (xs (i + 4)), x).1.getD (nI 0)) = a9; rw [ha9]; rfl) ?_
      refine v_if_eq (tgt := 1258) dL_law_1251 (by decide) (fun c1251 => ?_) (fun c1251 => ?_)
      · refine v_lconst (v := 0) dL_law_1258 (by decide) ?_
        refine v_lcmp dL_law_1259 ?_
        refine v_eqi (y := 0) (by unfold cFl; rw [if_pos c1251]; exact lg_self) ?_
        refine v_if_eq (tgt := 1265) dL_law_1260 (by decide) (fun c1260 => ?_) (fun c1260 => ?_)
        · refine v_goto (tgt := 1362) dL_law_1265 (by decide) ?_
          exact lw_few (kk _ _ _ _ _ _ (lw_new hs hu9 hd9 ⟨g1, hg1⟩ hI hr8) (by omega) (by omega))
        · exact absurd rfl c1260
      · refine v_lconst (v := 1) dL_law_1254 (by decide) ?_
        refine v_goto (tgt := 1259) dL_law_1255 (by decide) ?_
        refine v_lcmp dL_law_1259 ?_
        refine v_eqi (y := 0) (by unfold cFl; rw [if_neg c1251]; exact lg_self) ?_
        refine v_if_eq (tgt := 1265) dL_law_1260 (by decide) (fun c1260 => ?_) (fun c1260 => ?_)
        · refine v_goto (tgt := 1362) dL_law_1265 (by decide) ?_
          exact lw_few (kk _ _ _ _ _ _ (lw_new hs hu9 hd9 ⟨g1, hg1⟩ hI hr8) (by omega) (by omega))
        · exact absurd rfl c1260
  · exact absurd rfl c1236
set_option maxRecDepth 100000 in
set_option maxHeartbeats 4000000 in
theorem lw_write {E : eN} (hE : eOk E) (hS : eSt E) (hT : eTh E) {f : aH} {t D M O b L i bc bs : Nat} {x : dV} {y : mV} {xs : Nat → Int32} (hX : va_X b L xs (S0 E) (S0 E).heap) (hL : L ≤ 2560) (hi : i + 4 < L) (hs : lwS f D M O t x y) (hbc : 5 ≤ bc) (hbs : 31 ≤ bs) (kk : ∀ (f' : aH) (t' : Nat) (x' : dV) (y' : mV) (bc' bs' : Nat), lwS f' D M O t' x' y' → bc ≤ bc' + 5 → bs ≤ bs' + 31 → V E mL_law 601024 7293034 lwQ 1362 [some (.ref b), some (.ref D), some (.ref M), some (.ref O), some (.int (nI i)), none, none] [] f' t' bc' bs') : V E mL_law 601024 7293034 lwQ 1268 [some (.ref b), some (.ref D), some (.ref M), some (.ref O), some (.int (nI i)), none, none] [] f t bc bs := by
  obtain ⟨hI, hR, hk, hm, ⟨g0, hO⟩, hDM, hMO, hOt⟩ := id hs
  have ht : D + 1322 < t := by omega
  have hO1 : D + 1322 < O := by omega
  have hu8 := hR.2.1.2.1
  have hlv := hR.2.2.2.2.2.2.2
  refine v_aload_n dL_law_1268 rfl (by rfl) ?_
  refine v_aload_n dL_law_1269 rfl (by rfl) ?_
  refine v_iload dL_law_1270 (by rfl) ?_
  refine v_iconst (v := nI 1) dL_law_1272 (by decide) ?_
  refine v_iaddN dL_law_1273 ?_
  refine v_sld hX dL_law_1274 (by omega) (by omega) ?_
  refine v_aload_n dL_law_1275 rfl (by rfl) ?_
  refine v_callH hE dL_law_1276 hL_write (by rfl) (sL_write hE hS hT hI hk ht hO hO1 hOt) rfl (fun n9 g9 u9 h9 => by cases h9.1) (by decide) (by decide) (by exact Nat.le_of_ble_eq_true rfl) (by omega) (by omega) (fun v9 g9 u9 h9 => ?_)
  obtain ⟨hv9, hu9, hd9, ⟨g1, hg1, hg2⟩, hf9⟩ := h9
  cases hv9
  refine v_istore dL_law_1279 (by decide) ?_
  refine v_hp (lw_mk hm (fun b9 q1 q2 => hf9 b9 (by omega) (Or.inr (by omega)) (by omega))) ?_
  refine v_aload_n dL_law_1281 rfl (by rfl) ?_
  refine v_aload_n dL_law_1282 rfl (by rfl) ?_
  refine v_iload dL_law_1283 (by rfl) ?_
  refine v_iconst (v := nI 1) dL_law_1285 (by decide) ?_
  refine v_iaddN dL_law_1286 ?_
  refine v_sld hX dL_law_1287 (by omega) (by omega) ?_
  refine w_callV hE dL_law_1288 kL_145 mdS_M (by rfl) (by rfl) (sX10_write hE hR hI) rfl (by decide) (by decide) (by exact Nat.le_of_ble_eq_true rfl) (by omega) (by omega) (fun v8 g8 u8 h8 => ?_) (fun _ _ _ h => by cases h.1)
  obtain ⟨hv8, hu8', y8, hg8, hr8, hy8⟩ := h8
  subst hu8'
  subst hg8
  cases hv8
  refine v_istore dL_law_1291 (by decide) ?_
  refine v_aload_n dL_law_1293 rfl (by rfl) ?_
  refine w_callV hE dL_law_1294 kL_76 mdS_M (by rfl) (by rfl) (sX10_thrown hE) rfl (by decide) (by decide) (by exact Nat.le_of_ble_eq_true rfl) (by omega) (by omega) (fun v7 g7 u7 h7 => ?_) (fun _ _ _ h => by cases h.1)
  obtain ⟨hv7, hu7, hg7⟩ := h7
  subst hu7
  subst hg7
  cases hv7
  refine v_eqi (y := bI (pWri x (xs (i + 1))).1.isNone) hy8 ?_
  refine v_iload dL_law_1297 (by rfl) ?_
  refine v_icmp_eq (tgt := 1304) dL_law_1299 (by decide) (fun c1299 => ?_) (fun c1299 => ?_)
  · refine v_iload dL_law_1304 (by rfl) ?_
    refine v_if_ne (tgt := 1321) dL_law_1306 (by decide) (fun c1306 => ?_) (fun c1306 => ?_)
    · refine v_goto (tgt := 1362) dL_law_1321 (by decide) ?_
      exact lw_few (kk _ _ _ _ _ _ (lw_new hs hu9 hd9 ⟨g1, hg1⟩ (dOk_wri hI) hr8) (by omega) (by omega))
    · obtain ⟨a9, ha9⟩ : ∃ a9, (pWri x (xs (i + 1))).1 = some a9 := by
        cases hc9 : (pWri x (xs (i + 1))).1 with
        | none =>
          rw [hc9] at c1306
          exact absurd c1306 (by decide)
        | some a9 => exact ⟨a9, rfl⟩
      refine v_aload_n dL_law_1309 rfl (by rfl) ?_
      refine v_iconst (v := nI 0) dL_law_1310 (by decide) ?_
      refine v_lald hE dL_law_1311 ((mdS_ne (by omega)).trans hg1) (i := 0) (by omega) (by omega) ?_
      refine v_eql (y := c64 a9) (hg2 a9 ha9) ?_
      refine v_iload dL_law_1312 (by rfl) ?_
      refine v_eqi (y := a9) (by show ((pWri x (xs (i + 1))).1.getD (nI 0)) = a9; rw [ha9]; rfl) ?_
      refine v_i2l (v := c64 a9) dL_law_1314 rfl ?_
      refine v_lcmp dL_law_1315 ?_
      refine v_eqi (y := 0) lg_self ?_
      refine v_if_eq (tgt := 1321) dL_law_1316 (by decide) (fun c1316 => ?_) (fun c1316 => ?_)
      · refine v_goto (tgt := 1362) dL_law_1321 (by decide) ?_
        exact lw_few (kk _ _ _ _ _ _ (lw_new hs hu9 hd9 ⟨g1, hg1⟩ (dOk_wri hI) hr8) (by omega) (by omega))
      · exact absurd rfl c1316
  · exact absurd rfl c1299
set_option maxRecDepth 100000 in
set_option maxHeartbeats 4000000 in
theorem lw_out {E : eN} (hE : eOk E) (hS : eSt E) (hT : eTh E) {f : aH} {t D M O b L i bc bs : Nat} {x : dV} {y : mV} {xs : Nat → Int32} (hX : va_X b L xs (S0 E) (S0 E).heap) (hL : L ≤ 2560) (hi : i + 4 < L) (hs : lwS f D M O t x y) (hbc : 5 ≤ bc) (hbs : 31 ≤ bs) (kk : ∀ (f' : aH) (t' : Nat) (x' : dV) (y' : mV) (bc' bs' : Nat), lwS f' D M O t' x' y' → bc ≤ bc' + 5 → bs ≤ bs' + 31 → V E mL_law 601024 7293034 lwQ 1362 [some (.ref b), some (.ref D), some (.ref M), some (.ref O), some (.int (nI i)), none, none] [] f' t' bc' bs') : V E mL_law 601024 7293034 lwQ 1324 [some (.ref b), some (.ref D), some (.ref M), some (.ref O), some (.int (nI i)), none, none] [] f t bc bs := by
  obtain ⟨hI, hR, hk, hm, ⟨g0, hO⟩, hDM, hMO, hOt⟩ := id hs
  have ht : D + 1322 < t := by omega
  have hO1 : D + 1322 < O := by omega
  have hu8 := hR.2.1.2.1
  have hlv := hR.2.2.2.2.2.2.2
  refine v_aload_n dL_law_1324 rfl (by rfl) ?_
  refine v_aload_n dL_law_1325 rfl (by rfl) ?_
  refine v_iload dL_law_1326 (by rfl) ?_
  refine v_iconst (v := nI 1) dL_law_1328 (by decide) ?_
  refine v_iaddN dL_law_1329 ?_
  refine v_sld hX dL_law_1330 (by omega) (by omega) ?_
  refine w_callV hE dL_law_1331 kL_146 hk.1 (by rfl) (by rfl) (sX9_out hE hS hT hI hk ht) rfl (by decide) (by decide) (by exact Nat.le_of_ble_eq_true rfl) (by omega) (by omega) (fun v9 g9 u9 h9 => ?_) (fun n9 g9 u9 h9 => (aO_rl (show (Sum.inr n9 : aO) = Sum.inl (some (.int (ocAt (dT x 1).1 (dT x 1).2.1 (xs (i + 1))))) from h9.1)).elim)
  obtain ⟨hv9, hu9, hd9⟩ := h9
  have hv7 : v9 = some (.int (ocAt (dT x 1).1 (dT x 1).2.1 (xs (i + 1)))) := Sum.inl.inj (show (Sum.inl v9 : aO) = Sum.inl (some (.int (ocAt (dT x 1).1 (dT x 1).2.1 (xs (i + 1))))) from hv9)
  subst hv7
  refine v_hp (lw_mk hm (fun b9 q1 q2 => hd9.2 b9 (by omega) (Or.inr (by omega)))) ?_
  refine v_aload_n dL_law_1334 rfl (by rfl) ?_
  refine v_aload_n dL_law_1335 rfl (by rfl) ?_
  refine v_iload dL_law_1336 (by rfl) ?_
  refine v_iconst (v := nI 1) dL_law_1338 (by decide) ?_
  refine v_iaddN dL_law_1339 ?_
  refine v_sld hX dL_law_1340 (by omega) (by omega) ?_
  refine w_callV hE dL_law_1341 kL_149 mdS_M (by rfl) (by rfl) (sX10_out hE hR hI) rfl (by decide) (by decide) (by exact Nat.le_of_ble_eq_true rfl) (by omega) (by omega) (fun v8 g8 u8 h8 => ?_) (fun _ _ _ h => by cases h.1)
  obtain ⟨hv8, hu8', hg8⟩ := h8
  subst hu8'
  subst hg8
  cases hv8
  refine v_icmp_eq (tgt := 1362) dL_law_1344 (by decide) (fun c1344 => ?_) (fun c1344 => ?_)
  · exact lw_few (kk _ _ _ _ _ _ (lw_new hs hu9 hd9.1 ⟨g0, (hd9.2 O hOt (Or.inr hO1)).trans hO⟩ hI (mRel_0 hR)) (by omega) (by omega))
  · exact absurd rfl c1344
set_option maxRecDepth 100000 in
set_option maxHeartbeats 4000000 in
theorem lw_again {E : eN} (hE : eOk E) (hS : eSt E) (hT : eTh E) {f : aH} {t D M O b L i bc bs : Nat} {x : dV} {y : mV} {xs : Nat → Int32} (hX : va_X b L xs (S0 E) (S0 E).heap) (hL : L ≤ 2560) (hi : i + 4 < L) (hs : lwS f D M O t x y) (hbc : 5 ≤ bc) (hbs : 31 ≤ bs) (kk : ∀ (f' : aH) (t' : Nat) (x' : dV) (y' : mV) (bc' bs' : Nat), lwS f' D M O t' x' y' → bc ≤ bc' + 5 → bs ≤ bs' + 31 → V E mL_law 601024 7293034 lwQ 1362 [some (.ref b), some (.ref D), some (.ref M), some (.ref O), some (.int (nI i)), none, none] [] f' t' bc' bs') : V E mL_law 601024 7293034 lwQ 1349 [some (.ref b), some (.ref D), some (.ref M), some (.ref O), some (.int (nI i)), none, none] [] f t bc bs := by
  obtain ⟨hI, hR, hk, hm, ⟨g0, hO⟩, hDM, hMO, hOt⟩ := id hs
  have ht : D + 1322 < t := by omega
  have hO1 : D + 1322 < O := by omega
  have hu8 := hR.2.1.2.1
  have hlv := hR.2.2.2.2.2.2.2
  refine v_aload_n dL_law_1349 rfl (by rfl) ?_
  refine w_callV hE dL_law_1350 kL_150 hk.1 (by rfl) (by rfl) (sX9_again hE hS hT hI hk ht) rfl (by decide) (by decide) (by exact Nat.le_of_ble_eq_true rfl) (by omega) (by omega) (fun v9 g9 u9 h9 => ?_) (fun n9 g9 u9 h9 => by obtain ⟨a9, ha9⟩ := so_again (x := x); rw [ha9] at h9; exact (aO_rl (show (Sum.inr n9 : aO) = Sum.inl (some (.int a9)) from h9.1)).elim)
  obtain ⟨hv9, hu9, hd9⟩ := h9
  obtain ⟨a9, ha9⟩ := so_again (x := x)
  rw [ha9] at hv9
  have hv7 : v9 = some (.int a9) := Sum.inl.inj (show (Sum.inl v9 : aO) = Sum.inl (some (.int a9)) from hv9)
  subst hv7
  refine v_hp (lw_mk hm (fun b9 q1 q2 => hd9.2 b9 (by omega) (Or.inr (by omega)))) ?_
  refine v_aload_n dL_law_1353 rfl (by rfl) ?_
  refine w_callV hE dL_law_1354 kL_153 mdS_M (by rfl) (by rfl) (sX10_again hE hR hI) rfl (by decide) (by decide) (by exact Nat.le_of_ble_eq_true rfl) (by omega) (by omega) (fun v8 g8 u8 h8 => ?_) (fun _ _ _ h => by cases h.1)
  obtain ⟨hv8, hu8', y8, hg8, hr8, hy8⟩ := h8
  subst hu8'
  subst hg8
  rw [ha9] at hv8
  cases hv8
  refine v_icmp_eq (tgt := 1362) dL_law_1357 (by decide) (fun c1357 => ?_) (fun c1357 => ?_)
  · exact lw_few (kk _ _ _ _ _ _ (lw_new hs hu9 hd9.1 ⟨g0, (hd9.2 O hOt (Or.inr hO1)).trans hO⟩ (dOk_aga hI) hr8) (by omega) (by omega))
  · exact absurd rfl c1357
