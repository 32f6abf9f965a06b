/-! merge: names and partners -/
theorem mg_few2 {E : eN} {I : mR} {mc ms : Nat} {Q : aP} {pc : Nat} {a b c d e g : Option Value} {st : List Value} {f : aH} {t bc bs : Nat} (k : V E I mc ms Q pc [a, b, none, d, e, g] st f t bc bs) : V E I mc ms Q pc [a, b, c, d, e, g] st f t bc bs := by
  refine v_few (lo2 := [a, b, none, d, e, g]) rfl (fun k v h => ?_) k
  match k, h with
  | 0, h => exact h
  | 1, h => exact h
  | 2, h => cases h
  | 3, h => exact h
  | 4, h => exact h
  | 5, h => exact h
  | k + 6, h => cases h
theorem mg_few3 {E : eN} {I : mR} {mc ms : Nat} {Q : aP} {pc : Nat} {a b c d e g : Option Value} {st : List Value} {f : aH} {t bc bs : Nat} (k : V E I mc ms Q pc [a, b, c, none, e, g] st f t bc bs) : V E I mc ms Q pc [a, b, c, d, e, g] st f t bc bs := by
  refine v_few (lo2 := [a, b, c, none, e, g]) rfl (fun k v h => ?_) k
  match k, h with
  | 0, h => exact h
  | 1, h => exact h
  | 2, h => exact h
  | 3, h => cases h
  | 4, h => exact h
  | 5, h => exact h
  | k + 6, h => cases h
theorem mg_few5 {E : eN} {I : mR} {mc ms : Nat} {Q : aP} {pc : Nat} {a b c d e g : Option Value} {st : List Value} {f : aH} {t bc bs : Nat} (k : V E I mc ms Q pc [a, b, c, d, e, none] st f t bc bs) : V E I mc ms Q pc [a, b, c, d, e, g] st f t bc bs := by
  refine v_few (lo2 := [a, b, c, d, e, none]) rfl (fun k v h => ?_) k
  match k, h with
  | 0, h => exact h
  | 1, h => exact h
  | 2, h => exact h
  | 3, h => exact h
  | 4, h => exact h
  | 5, h => cases h
  | k + 6, h => cases h
theorem mg_sn {y : mV} {v w : sV} {W : Nat → eV} (h0 : mTb y 0 v W) (h1 : mTb y 1 w W) (hv : shOk v) (hw : shOk w) {i j : Nat} (hi : i < v.2.1.1) (hj : j < w.2.1.1) : mSN y (3 * 0 + i) (3 * 1 + j) (v.2.1.2.2 i) = nmSame v.2.1 i w.2.1 j := by
  obtain ⟨a1, a2⟩ := h0.2.2.1 i hi
  obtain ⟨b1, b2⟩ := h1.2.2.1 j hj
  have c1 := hv.1.2.2 i
  have c2 := hw.1.2.2 j
  unfold mSN nmSame
  rw [b1]
  by_cases e : v.2.1.2.2 i = w.2.1.2.2 j
  · rw [decide_eq_true e, decide_eq_true (congrArg nI e), Bool.true_and, Bool.true_and]
    refine allB_c (fun k _ hk => ?_)
    rw [a2 k (by omega), b2 k (by omega)]
  · rw [decide_eq_false e, decide_eq_false (fun z => e (nI_inj z (by omega) (by omega))), Bool.false_and, Bool.false_and]
theorem sc_t {v w : sV} (h3 : v.2.1.1 + w.2.1.1 ≤ 3) (h : ∀ i j, i < v.2.1.1 → j < w.2.1.1 → nmSame v.2.1 i w.2.1 j = false) : shCan v w = true := by
  unfold shCan
  rw [decide_eq_true h3, Bool.true_and, allB_iff]
  intro j _ hj
  refine decide_eq_true ?_
  unfold nmIdx
  refine Classical.byContradiction (fun z => ?_)
  obtain ⟨q, q1, q2, -, q4, -⟩ := fndB_f _ _ z
  have h9 := h q j (by omega) (by omega)
  rw [show nmSame v.2.1 q w.2.1 j = true from q4] at h9
  exact Bool.noConfusion h9
theorem sc_f {v w : sV} (h3 : v.2.1.1 ≤ 3) {i j : Nat} (hi : i < v.2.1.1) (hj : j < w.2.1.1) (h : nmSame v.2.1 i w.2.1 j = true) : shCan v w = false := by
  refine Bool.eq_false_iff.mpr (fun z => ?_)
  unfold shCan at z
  rw [Bool.and_eq_true, allB_iff] at z
  have h1 := of_decide_eq_true (z.2 j (by omega) (by omega))
  unfold nmIdx at h1
  have h2 := fndB_n _ _ (by omega) h1 i (by omega) (by omega)
  rw [show nmSame v.2.1 i w.2.1 j = true from h] at h2
  exact Bool.noConfusion h2
theorem sc_3 {v w : sV} (h : ¬ v.2.1.1 + w.2.1.1 ≤ 3) : shCan v w = false := by
  unfold shCan
  rw [decide_eq_false h, Bool.false_and]
set_option maxRecDepth 100000 in
set_option maxHeartbeats 4000000 in
/-- the names of the samples -/
theorem mg_N {E : eN} (hE : eOk E) {f : aH} {t M : Nat} {Q : aP} {y : mV} {v w : sV} {W : Nat → eV} (h0 : mTb y 0 v W) (h1 : mTb y 1 w W) (hv : shOk v) (hw : shOk w) : ∀ (d a : Nat), a + d = v.2.1.1 → (∀ i j, i < a → j < w.2.1.1 → nmSame v.2.1 i w.2.1 j = false) → ((∃ i j, i < v.2.1.1 ∧ j < w.2.1.1 ∧ nmSame v.2.1 i w.2.1 j = true) → Q (.inl (some (.int (-1)))) (mdS f M y) t) → ((∀ i j, i < v.2.1.1 → j < w.2.1.1 → nmSame v.2.1 i w.2.1 j = false) → V E mX10_merge 0 0 Q 73 [some (.ref M), some (.int (nI v.2.1.1)), none, none, none, none] [] (mdS f M y) t 0 0) → V E mX10_merge 0 0 Q 26 [some (.ref M), some (.int (nI a)), none, none, none, none] [] (mdS f M y) t 0 0 := by
  have hv3 := hv.1.1
  have hw3 := hw.1.1
  intro d
  induction d using Nat.strongRecOn with
  | _ d ih =>
  intro a hd ha hq kt
  refine v_iload_n dX10_merge_26 rfl (by rfl) ?_
  refine v_aload_n dX10_merge_27 rfl (by rfl) ?_
  refine v_getf hE dX10_merge_28 fX10_63 mdS_M (by rfl) ?_
  refine v_iconst (v := nI 0) dX10_merge_31 (by decide) ?_
  refine m_iald hE (k := 17) dX10_merge_32 (by decide) (by decide) rfl (show _ < 4 by omega) (by omega) ?_
  refine v_eqi (y := nI v.2.1.1) h0.2.1 ?_
  refine v_icmp_geN (tgt := 73) dX10_merge_33 (by decide) (by omega) (by omega) (fun c33 => ?_) (fun c33 => ?_)
  · have e9 : a = v.2.1.1 := by omega
    subst e9
    exact kt ha
  · refine v_iconst (v := nI 0) dX10_merge_36 (by decide) ?_
    refine v_istore_n dX10_merge_37 rfl (by decide) ?_
    have inn : ∀ (e b : Nat), b + e = w.2.1.1 → (∀ j, j < b → nmSame v.2.1 a w.2.1 j = false) → V E mX10_merge 0 0 Q 38 [some (.ref M), some (.int (nI a)), some (.int (nI b)), none, none, none] [] (mdS f M y) t 0 0 := by
      intro e
      induction e using Nat.strongRecOn with
      | _ e ihe =>
      intro b hbe hb
      refine v_iload_n dX10_merge_38 rfl (by rfl) ?_
      refine v_aload_n dX10_merge_39 rfl (by rfl) ?_
      refine v_getf hE dX10_merge_40 fX10_63 mdS_M (by rfl) ?_
      refine v_iconst (v := nI 1) dX10_merge_43 (by decide) ?_
      refine m_iald hE (k := 17) dX10_merge_44 (by decide) (by decide) rfl (show _ < 4 by omega) (by omega) ?_
      refine v_eqi (y := nI w.2.1.1) h1.2.1 ?_
      refine v_icmp_geN (tgt := 67) dX10_merge_45 (by decide) (by omega) (by omega) (fun c45 => ?_) (fun c45 => ?_)
      · refine v_iincN (y := 1) dX10_merge_67 (by rfl) (by decide) (by decide) ?_
        refine v_goto (tgt := 26) dX10_merge_70 (by decide) ?_
        refine mg_few2 (ih (d - 1) (by omega) (a + 1) (by omega) (fun i j hi hj => ?_) hq kt)
        by_cases c : i = a
        · rw [c]; exact hb j (by omega)
        · exact ha i j (by omega) hj
      · refine v_aload_n dX10_merge_48 rfl (by rfl) ?_
        refine v_iconst (v := nI 0) dX10_merge_49 (by decide) ?_
        refine v_iload_n dX10_merge_50 rfl (by rfl) ?_
        refine v_iconst (v := nI 1) dX10_merge_51 (by decide) ?_
        refine v_iload_n dX10_merge_52 rfl (by rfl) ?_
        refine w_callV hE dX10_merge_53 kX10_248 mdS_M (by rfl) (by rfl) (sX10_sameName hE (a := 0) (r := a) (b := 1) (q := b) (n := v.2.1.2.2 a) (h0.2.2.1 a (by omega)).1 (hv.1.2.2 a) (by omega) (by omega) (by omega) (by omega)) rfl (by decide) (by decide) (by exact Nat.le_of_ble_eq_true rfl) (by omega) (by omega) (fun v9 g9 u9 h9 => ?_) (fun _ _ _ h => by cases h.1)
        obtain ⟨hv9, hu9, hg9⟩ := h9
        replace hu9 := hu9.symm
        subst hu9
        subst hg9
        cases hv9
        rw [mg_sn h0 h1 hv hw (show a < v.2.1.1 by omega) (show b < w.2.1.1 by omega)]
        refine v_if_eqB (tgt := 61) dX10_merge_56 (by decide) (fun c56 => ?_) (fun c56 => ?_)
        · refine v_iincN (y := 1) dX10_merge_61 (by rfl) (by decide) (by decide) ?_
          refine v_goto (tgt := 38) dX10_merge_64 (by decide) ?_
          exact ihe (e - 1) (by omega) (b + 1) (by omega) (fun j hj => by
            by_cases c : j = b
            · rw [c]; exact c56
            · exact hb j (by omega))
        · refine v_iconst (v := -1) dX10_merge_59 (by decide) ?_
          refine v_iret dX10_merge_60 rfl (by first | rfl | exact nar_bI) ?_
          exact hq ⟨a, b, by omega, by omega, c56⟩
    exact inn w.2.1.1 0 (by omega) (fun j hj => absurd hj (Nat.not_lt_zero _))

set_option maxRecDepth 100000 in
set_option maxHeartbeats 4000000 in
/-- a partner for record j -/
theorem mg_I {E : eN} (hE : eOk E) {f : aH} {t M : Nat} {Q : aP} {Y : mV} {n m k0 k1 c j : Nat} {u v : Nat → eV} {A B : Nat → Int32} (h162 : Y.1 16 2 = nI n) (h163 : Y.1 16 3 = nI m) (hn : n ≤ 60) (hm : m ≤ 60) (hu : ∀ a, a < n → mE Y (120 + a) (u a) k0) (huo : ∀ a, a < n → enOk (u a)) (hv : ∀ b, b < m → mE Y (180 + b) (v b) k1) (hvo : ∀ b, b < m → enOk (v b)) (hj : j < m) (hB : B j = -1) : ∀ (d i : Nat), i + d = n → (∀ i2, i2 < i → lkR (u i2) (v j) = true → ¬ A i2 = -1) → ((∀ i2, i2 < n → lkR (u i2) (v j) = true → ¬ A i2 = -1) → V E mX10_merge 0 0 Q 204 [some (.ref M), some (.int (nI c)), some (.int (nI j)), none, none, none] [] (mdS f M (va_up (va_up Y.1 36 A) 37 B, Y.2)) t 0 0) → (∀ i0, i0 < n → lkR (u i0) (v j) = true → A i0 = -1 → (∀ i2, i2 < i0 → lkR (u i2) (v j) = true → ¬ A i2 = -1) → V E mX10_merge 0 0 Q 204 [some (.ref M), some (.int (nI (c + 1))), some (.int (nI j)), none, none, none] [] (mdS f M (va_up (va_up Y.1 36 (upd A i0 (nI j))) 37 (upd B j (nI i0)), Y.2)) t 0 0) → V E mX10_merge 0 0 Q 135 [some (.ref M), some (.int (nI c)), some (.int (nI j)), some (.int (nI i)), none, none] [] (mdS f M (va_up (va_up Y.1 36 A) 37 B, Y.2)) t 0 0 := by
  intro d
  induction d using Nat.strongRecOn with
  | _ d ih =>
  intro i hd hb kf kt
  refine v_iload_n dX10_merge_135 rfl (by rfl) ?_
  refine v_aload_n dX10_merge_136 rfl (by rfl) ?_
  refine v_getf hE dX10_merge_137 fX10_60 mdS_M (by rfl) ?_
  refine v_iconst (v := nI 2) dX10_merge_140 (by decide) ?_
  refine m_iald hE (k := 16) dX10_merge_141 (by decide) (by decide) rfl (show _ < 4 by omega) (by omega) ?_
  refine v_eqi (y := nI n) h162 ?_
  refine v_icmp_geN (tgt := 204) dX10_merge_142 (by decide) (by omega) (by omega) (fun c142 => ?_) (fun c142 => ?_)
  · exact mg_few3 (kf (fun i2 h2 hL z => hb i2 (by omega) hL z))
  · refine v_aload_n dX10_merge_145 rfl (by rfl) ?_
    refine v_getf hE dX10_merge_146 fX10_124 mdS_M (by rfl) ?_
    refine v_iload_n dX10_merge_149 rfl (by rfl) ?_
    refine m_iald hE (k := 37) dX10_merge_150 (by decide) (by decide) rfl (show _ < 60 by omega) (by omega) ?_
    refine v_iconst (v := (-1)) dX10_merge_151 (by decide) ?_
    refine v_icmp_ne (tgt := 204) dX10_merge_152 (by decide) (fun c152 => ?_) (fun c152 => ?_)
    · exact absurd hB c152
    · refine v_aload_n dX10_merge_155 rfl (by rfl) ?_
      refine v_getf hE dX10_merge_156 fX10_121 mdS_M (by rfl) ?_
      refine v_iload_n dX10_merge_159 rfl (by rfl) ?_
      refine m_iald hE (k := 36) dX10_merge_160 (by decide) (by decide) rfl (show _ < 60 by omega) (by omega) ?_
      refine v_iconst (v := (-1)) dX10_merge_161 (by decide) ?_
      refine v_icmp_ne (tgt := 198) dX10_merge_162 (by decide) (fun c162 => ?_) (fun c162 => ?_)
      · refine v_iincN (y := 1) dX10_merge_198 (by rfl) (by decide) (by decide) ?_
        refine v_goto (tgt := 135) dX10_merge_201 (by decide) ?_
        exact ih (d - 1) (by omega) (i + 1) (by omega) (fun i2 h2 hL z => by
          by_cases c : i2 = i
          · rw [c] at z
            exact absurd z c162
          · exact hb i2 (by omega) hL z) kf kt
      · refine v_aload_n dX10_merge_165 rfl (by rfl) ?_
        refine v_bipush (v := nI 120) dX10_merge_166 (by decide) ?_
        refine v_iload_n dX10_merge_168 rfl (by rfl) ?_
        refine v_iaddN dX10_merge_169 ?_
        refine v_sipush (v := nI 180) dX10_merge_170 (by decide) ?_
        refine v_iload_n dX10_merge_173 rfl (by rfl) ?_
        refine v_iaddN dX10_merge_174 ?_
        refine w_callV hE dX10_merge_175 kX10_353 mdS_M (by rfl) (by rfl) (sX10_sameRecord hE (n := k0) (m := k1) (w := u i) (v := v j) (hu i (by omega)) (hv j hj) (huo i (by omega)) (hvo j hj) (by omega) (by omega)) rfl (by decide) (by decide) (by exact Nat.le_of_ble_eq_true rfl) (by omega) (by omega) (fun v9 g9 u9 h9 => ?_) (fun _ _ _ h => by cases h.1)
        obtain ⟨hv9, hu9, hg9⟩ := h9
        replace hu9 := hu9.symm
        subst hu9
        subst hg9
        cases hv9
        refine v_if_eqB (tgt := 198) dX10_merge_178 (by decide) (fun c178 => ?_) (fun c178 => ?_)
        · refine v_iincN (y := 1) dX10_merge_198 (by rfl) (by decide) (by decide) ?_
          refine v_goto (tgt := 135) dX10_merge_201 (by decide) ?_
          exact ih (d - 1) (by omega) (i + 1) (by omega) (fun i2 h2 hL z => by
            by_cases c : i2 = i
            · rw [c] at hL
              replace hL : (eWith (u i) (v j) && eAllR (u i) (v j)) = true := hL
              rw [c178] at hL
              exact Bool.noConfusion hL
            · exact hb i2 (by omega) hL z) kf kt
        · refine v_aload_n dX10_merge_181 rfl (by rfl) ?_
          refine v_getf hE dX10_merge_182 fX10_121 mdS_M (by rfl) ?_
          refine v_iload_n dX10_merge_185 rfl (by rfl) ?_
          refine v_iload_n dX10_merge_186 rfl (by rfl) ?_
          refine m_iast hE (k := 36) dX10_merge_187 (by decide) (by decide) rfl (show _ < 60 by omega) (by omega) ?_
          refine v_aload_n dX10_merge_188 rfl (by rfl) ?_
          refine v_getf hE dX10_merge_189 fX10_124 mdS_M (by rfl) ?_
          refine v_iload_n dX10_merge_192 rfl (by rfl) ?_
          refine v_iload_n dX10_merge_193 rfl (by rfl) ?_
          refine m_iast hE (k := 37) dX10_merge_194 (by decide) (by decide) rfl (show _ < 60 by omega) (by omega) ?_
          refine v_iincN (y := 1) dX10_merge_195 (by rfl) (by decide) (by decide) ?_
          refine v_iincN (y := 1) dX10_merge_198 (by rfl) (by decide) (by decide) ?_
          refine v_goto (tgt := 135) dX10_merge_201 (by decide) ?_
          refine v_hp (show _ = (mdS f M (va_up (va_up Y.1 36 (upd A i (nI j))) 37 (upd B j (nI i)), Y.2)) from md_c va2) ?_
          refine v_iload_n dX10_merge_135 rfl (by rfl) ?_
          refine v_aload_n dX10_merge_136 rfl (by rfl) ?_
          refine v_getf hE dX10_merge_137 fX10_60 mdS_M (by rfl) ?_
          refine v_iconst (v := nI 2) dX10_merge_140 (by decide) ?_
          refine m_iald hE (k := 16) dX10_merge_141 (by decide) (by decide) rfl (show _ < 4 by omega) (by omega) ?_
          refine v_eqi (y := nI n) h162 ?_
          refine v_icmp_geN (tgt := 204) dX10_merge_142 (by decide) (by omega) (by omega) (fun c142 => ?_) (fun c142 => ?_)
          · exact mg_few3 (kt i (by omega) c178 c162 hb)
          · refine v_aload_n dX10_merge_145 rfl (by rfl) ?_
            refine v_getf hE dX10_merge_146 fX10_124 mdS_M (by rfl) ?_
            refine v_iload_n dX10_merge_149 rfl (by rfl) ?_
            refine m_iald hE (k := 37) dX10_merge_150 (by decide) (by decide) rfl (show _ < 60 by omega) (by omega) ?_
            refine v_eqi (y := nI i) updS ?_
            refine v_iconst (v := (-1)) dX10_merge_151 (by decide) ?_
            refine v_icmp_ne (tgt := 204) dX10_merge_152 (by decide) (fun c152 => ?_) (fun c152 => ?_)
            · exact mg_few3 (kt i (by omega) c178 c162 hb)
            · exact absurd c152 (nI_m1 (by omega))

theorem mg_uu {B : Nat → Int32} {j : Nat} {p q : Int32} : upd (upd B j p) j q = upd B j q := by
  funext k
  by_cases e : k = j
  · rw [e, updS, updS]
  · rw [updN e, updN e, updN e]
set_option maxRecDepth 100000 in
set_option maxHeartbeats 4000000 in
/-- the partners -/
theorem mg_O {E : eN} (hE : eOk E) {f : aH} {t M : Nat} {Q : aP} {Y : mV} {n m k0 k1 : Nat} {u v : Nat → eV} (h162 : Y.1 16 2 = nI n) (h163 : Y.1 16 3 = nI m) (hn : n ≤ 60) (hm : m ≤ 60) (hu : ∀ a, a < n → mE Y (120 + a) (u a) k0) (huo : ∀ a, a < n → enOk (u a)) (hv : ∀ b, b < m → mE Y (180 + b) (v b) k1) (hvo : ∀ b, b < m → enOk (v b)) : ∀ (d j c : Nat) (A B : Nat → Int32) (P : Nat → Nat → Prop), j + d = m → gS n j (fun i j => lkR (u i) (v j) = true) P A B → c = cntN (fun b => decide (¬ B b = -1)) j 0 0 → (∀ (c : Nat) (A B : Nat → Int32) (P : Nat → Nat → Prop), gS n m (fun i j => lkR (u i) (v j) = true) P A B → c = cntN (fun b => decide (¬ B b = -1)) m 0 0 → V E mX10_merge 0 0 Q 210 [some (.ref M), some (.int (nI c)), some (.int (nI m)), none, none, none] [] (mdS f M (va_up (va_up Y.1 36 A) 37 B, Y.2)) t 0 0) → V E mX10_merge 0 0 Q 116 [some (.ref M), some (.int (nI c)), some (.int (nI j)), none, none, none] [] (mdS f M (va_up (va_up Y.1 36 A) 37 B, Y.2)) t 0 0 := by
  intro d
  induction d using Nat.strongRecOn with
  | _ d ih =>
  intro j c A B P hd hG hc hk
  refine v_iload_n dX10_merge_116 rfl (by rfl) ?_
  refine v_aload_n dX10_merge_117 rfl (by rfl) ?_
  refine v_getf hE dX10_merge_118 fX10_60 mdS_M (by rfl) ?_
  refine v_iconst (v := nI 3) dX10_merge_121 (by decide) ?_
  refine m_iald hE (k := 16) dX10_merge_122 (by decide) (by decide) rfl (show _ < 4 by omega) (by omega) ?_
  refine v_eqi (y := nI m) h163 ?_
  refine v_icmp_geN (tgt := 210) dX10_merge_123 (by decide) (by omega) (by omega) (fun c123 => ?_) (fun c123 => ?_)
  · have e9 : j = m := by omega
    subst e9
    exact hk c A B P hG hc
  · refine v_aload_n dX10_merge_126 rfl (by rfl) ?_
    refine v_getf hE dX10_merge_127 fX10_124 mdS_M (by rfl) ?_
    refine v_iload_n dX10_merge_130 rfl (by rfl) ?_
    refine v_iconst (v := (-1)) dX10_merge_131 (by decide) ?_
    refine m_iast hE (k := 37) dX10_merge_132 (by decide) (by decide) rfl (show _ < 60 by omega) (by omega) ?_
    refine v_iconst (v := nI 0) dX10_merge_133 (by decide) ?_
    refine v_istore_n dX10_merge_134 rfl (by decide) ?_
    refine v_hp (show _ = (mdS f M (va_up (va_up Y.1 36 A) 37 (upd B j (-1)), Y.2)) from md_c va_up_up) ?_
    refine mg_I hE h162 h163 hn hm hu huo hv hvo (show j < m by omega) updS n 0 (by omega) (fun i2 h2 => absurd h2 (Nat.not_lt_zero _)) (fun hno => ?_) (fun i0 h0 hL hA hb => ?_)
    · refine v_iincN (y := 1) dX10_merge_204 (by rfl) (by decide) (by decide) ?_
      refine v_goto (tgt := 116) dX10_merge_207 (by decide) ?_
      refine ih (d - 1) (by omega) (j + 1) c A (upd B j (-1)) P (by omega) (gS_f hG hno) ?_ hk
      rw [cnt_s, if_neg (by rw [updS]; exact fun z => of_decide_eq_true z rfl)]
      exact hc.trans (cnt_c (fun k hk => by rw [updN (by omega)]))
    · refine v_iincN (y := 1) dX10_merge_204 (by rfl) (by decide) (by decide) ?_
      refine v_goto (tgt := 116) dX10_merge_207 (by decide) ?_
      refine v_hp (show _ = (mdS f M (va_up (va_up Y.1 36 (upd A i0 (nI j))) 37 (upd B j (nI i0)), Y.2)) from by rw [mg_uu]) ?_
      refine ih (d - 1) (by omega) (j + 1) (c + 1) _ _ _ (by omega) (gS_t hG (by omega) h0 hL hA hb) ?_ hk
      rw [cnt_s, if_pos (by rw [updS]; exact decide_eq_true (nI_m1 (by omega)))]
      exact congrArg (· + 1) (hc.trans (cnt_c (fun k hk => by rw [updN (by omega)])))
