theorem tAdds_ok : ∀ (L : List Int32) (s : tS), s.1 + L.length ≤ 8000 → (tAdds s L).1 = s.1 + L.length ∧ (tAdds s L).2.2 = s.2.2 ∧ (∀ k, k < s.1 → (tAdds s L).2.1 k = s.2.1 k) ∧ ∀ k, k < L.length → (tAdds s L).2.1 (s.1 + k) = L.getD k 0 := by
  intro L
  induction L with
  | nil => intro s h; exact ⟨rfl, rfl, fun _ _ => rfl, fun k hk => absurd hk (Nat.not_lt_zero _)⟩
  | cons a L ih =>
    intro s h
    have h : s.1 + (L.length + 1) ≤ 8000 := h
    have e : tAdd s a = (s.1 + 1, upd s.2.1 s.1 a, s.2.2) := if_pos (by omega)
    have e2 : tAdds s (a :: L) = tAdds (tAdd s a) L := rfl
    obtain ⟨q1, q2, q3, q4⟩ := ih (tAdd s a) (by rw [e]; show s.1 + 1 + L.length ≤ 8000; omega)
    rw [e] at q1 q2 q3 q4
    rw [e2, e]
    refine ⟨by rw [q1]; show s.1 + 1 + L.length = s.1 + (L.length + 1); omega, q2, fun k hk => ?_, fun k hk => ?_⟩
    · rw [q3 k (show k < s.1 + 1 by omega)]
      exact updN (by omega)
    · cases k with
      | zero => rw [q3 (s.1 + 0) (show s.1 + 0 < s.1 + 1 by omega)]; exact updS
      | succ k =>
        have := q4 k (by have hk : k + 1 < L.length + 1 := hk; omega)
        rw [show s.1 + (k + 1) = s.1 + 1 + k by omega]
        exact this
theorem tAdds_fl : ∀ (L : List Int32) (s : tS), s.1 = 8000 → s.2.2 = 1 → (tAdds s L).2.2 = 1 := by
  intro L
  induction L with
  | nil => intro s _ h; exact h
  | cons a L ih =>
    intro s h1 h2
    have e : tAdd s a = (s.1, s.2.1, 1) := if_neg (by omega)
    show (tAdds (tAdd s a) L).2.2 = 1
    rw [e]
    exact ih _ h1 rfl
theorem tAdds_no : ∀ (L : List Int32) (s : tS), s.1 ≤ 8000 → 8000 < s.1 + L.length → (tAdds s L).2.2 = 1 := by
  intro L
  induction L with
  | nil => intro s h1 h2; have h2 : 8000 < s.1 + 0 := h2; omega
  | cons a L ih =>
    intro s h1 h2
    have h2 : 8000 < s.1 + (L.length + 1) := h2
    show (tAdds (tAdd s a) L).2.2 = 1
    by_cases h : s.1 < 8000
    · have e : tAdd s a = (s.1 + 1, upd s.2.1 s.1 a, s.2.2) := if_pos h
      rw [e]
      exact ih _ (show s.1 + 1 ≤ 8000 by omega) (show 8000 < s.1 + 1 + L.length by omega)
    · have e : tAdd s a = (s.1, s.2.1, 1) := if_neg h
      rw [e]
      exact tAdds_fl L _ (show s.1 = 8000 by omega) rfl
theorem a255 : ∀ c, c < 128 → nI c &&& nI 255 = nI c := by decide +kernel
theorem mRel_w {x : dV} {y : mV} {T O : Nat → Int32} {v a b : Int32} (h : mRel x y) (hT : ∀ i, vp_nar .byte (T i) = T i) (hO : ∀ i, vp_nar .byte (O i) = O i) {u : tS} (hu : u.1 ≤ 8000) (ha : a = nI u.1) (h1 : ∀ k, k < u.1 → u.2.1 k = O k &&& nI 255) : mRel (dSwT (xT x (va_up (dT x) 2 u))) (va_up (va_up y.1 38 T) 32 O, va_up (va_up (va_up y.2 0 v) 52 b) 37 a) := by
  obtain ⟨a1, a2, a3, a4, a5, a6, a7⟩ := h
  exact ⟨aNw_1 (aNw_1 a1 (fun _ => hT) (fun z => by cases z)) (fun _ => hO) (fun z => by cases z), a2, a3, a4, ⟨ha, hu, h1⟩, a6, a7⟩
theorem mRel_w0 {x : dV} {y : mV} {T : Nat → Int32} {v b : Int32} {u : tS} (h : mRel x y) (hT : ∀ i, vp_nar .byte (T i) = T i) : mRel (xT x (va_up (dT x) 2 u)) (va_up y.1 38 T, va_up (va_up y.2 0 v) 52 b) := by
  obtain ⟨a1, a2, a3, a4, a5, a6, a7⟩ := h
  exact ⟨aNw_1 a1 (fun _ => hT) (fun z => by cases z), a2, a3, a4, a5, a6, a7⟩
def wW1 (z : sV) (d j : Nat) (R : List Int32) : List Int32 := shNmT z.2.1 d j ++ ([nI 10] ++ R)
theorem eWr_len {w : eV} {n s p : Nat} {g : gV} (hwo : enOk w) (hn : n ≤ 3) (hg : g.1.2.2 s ≤ 20) : (eWr w n g s p).length ≤ 400 := by
  have h1 := hwo.2.1 0
  have h2 := hwo.2.2.2
  have hro := hwo.1
  have hal : ∀ (d r : Nat), (eAltT w d r).length ≤ 25 * d := by
    intro d
    induction d with
    | zero => intro r; exact Nat.le_refl _
    | succ d ih =>
      intro r
      have q1 := ih (r + 1)
      have q2 := hwo.2.1 r
      unfold eAltT
      rw [List.length_append, List.length_append, prt_len]
      split
      · show 1 + _ + _ ≤ _; omega
      · show 0 + _ + _ ≤ _; omega
  have hca : ∀ (i d c : Nat), (eCalT w i d c).length ≤ 7 * d := by
    intro i d
    induction d with
    | zero => intro c; exact Nat.le_refl _
    | succ d ih =>
      intro c
      have q1 := ih (c + 1)
      have q2 := tNumP_len (x := eCall w i c)
      unfold eCalT
      rw [List.length_append, List.length_append]
      split
      · show 1 + _ + _ ≤ _; omega
      · show 0 + _ + _ ≤ _; omega
  have hsm : ∀ (d i : Nat), (eSmpT w d i).length ≤ 15 * d := by
    intro d
    induction d with
    | zero => intro i; exact Nat.le_refl _
    | succ d ih =>
      intro i
      have q1 := ih (i + 1)
      have q2 := hca i (eCn w i - 0) 0
      have q3 := hwo.2.2.1 i
      unfold eSmpT
      rw [List.length_append, List.length_append]
      show 1 + _ + _ ≤ _
      omega
  have a1 := hal (eRo w - 1) 1
  have a2 := hsm (n - 0) 0
  have a3 := tNumber_len (v := p)
  have a4 := tNumP_len (x := eQu w)
  have c8 : (wR8 w (n - 0) 0).length ≤ 46 := by
    unfold wR8 wR9
    rw [List.length_append]
    show _ + 1 ≤ 46
    omega
  have c7 : (wR7 w n).length ≤ 49 := by
    unfold wR7
    rw [List.length_append]
    split
    · show 0 + _ ≤ 49; omega
    · show 3 + _ ≤ 49; omega
  have c6 : (wR6 w n).length ≤ 55 := by
    unfold wR6
    rw [List.length_append, List.length_append, List.length_append, txI_len]
    split
    · show 4 + (1 + (1 + _)) ≤ 55; omega
    · show 1 + (1 + (1 + _)) ≤ 55; omega
  have c5 : (wR5 w n).length ≤ 62 := by
    unfold wR5
    rw [List.length_append, List.length_append]
    show _ + (1 + _) ≤ 62
    omega
  have c4b : (wR4b w n (eRo w - 1) 1).length ≤ 138 := by
    unfold wR4b
    rw [List.length_append, List.length_append]
    show _ + (1 + _) ≤ 138
    omega
  have c4 : (wR4 w n).length ≤ 139 := by
    unfold wR4
    rw [List.length_append]
    split
    · show 0 + _ ≤ 139; omega
    · show 1 + _ ≤ 139; omega
  have c3 : (wR3 w n).length ≤ 166 := by
    unfold wR3
    rw [List.length_append, List.length_append, List.length_append, List.length_append, prt_len]
    split
    · show 1 + (1 + (_ + (1 + _))) ≤ 166; omega
    · show 0 + (1 + (_ + (1 + _))) ≤ 166; omega
  rw [← wR_eq, List.length_append, prt_len]
  unfold wR1
  rw [List.length_append, List.length_append, List.length_append, List.length_append, prt_len]
  show _ + (1 + (_ + (1 + (_ + _)))) ≤ 400
  omega
theorem gD_mem {l : List Int32} {k : Nat} (h : k < l.length) : l.getD k 0 ∈ l := by
  rw [List.getD_eq_getElem?_getD, List.getElem?_eq_getElem h]
  exact List.getElem_mem h
set_option maxRecDepth 100000 in
set_option maxHeartbeats 600000 in
/-- model: write -/
theorem sX10_write {E : eN} (hE : eOk E) {f : aH} {t : Nat} {M D : Nat} {y : mV} {x : dV} {q : Int32} (hR : mRel x y) (hI : dOk D x) : mT E mX10_write 0 0 [.ref M, .int q] (mdS f M y) t (fun o f' t' => o = .inl (some (.int ((pWri x q).1.getD (nI 0)))) ∧ t' = t ∧ mAns M f (pWri x q) f') := by
  refine mT_of (n := 2) (lo := [some (.ref M), some (.int q), none, none]) (by decide) (by exact Nat.le_of_ble_eq_true rfl) rfl rfl ?_
  have hgo := hI.2.1 0 (by omega)
  have hLv := hR.2.2.2.2.2.2.2
  have l5 : ∀ (z3 : Option Value) (i : Nat), ix 2 (nI i) = some i → i < 2 → (shWr (dW x) (dZ x i) (dG x 0)).length ≤ 8000 → ∀ (T : Nat → Int32), mTl T (shWr (dW x) (dZ x i) (dG x 0)) → ∀ (d k : Nat), k + d = (shWr (dW x) (dZ x i) (dG x 0)).length → V E mX10_write 0 0 (fun o f' t' => o = .inl (some (.int ((pWri x (nI i)).1.getD (nI 0)))) ∧ t' = t ∧ mAns M f (pWri x (nI i)) f') 178 [some (.ref M), some (.int (nI i)), some (.int (nI k)), z3] [] (mdS f M (va_up (va_up y.1 38 T) 32 (mCq T (y.1 32) k), va_up (va_up (va_up y.2 0 (bI (! true))) 52 (nI (shWr (dW x) (dZ x i) (dG x 0)).length)) 37 (nI (shWr (dW x) (dZ x i) (dG x 0)).length))) t 0 0 := by
    intro z3 i hi0 i2 h8 T hT d
    induction d using Nat.strongRecOn with
    | _ d ih =>
    intro k hd
    refine v_iload_n dX10_write_178 rfl (by rfl) ?_
    refine v_aload_n dX10_write_179 rfl (by rfl) ?_
    refine v_getf hE dX10_write_180 fX10_391 mdS_M (by rfl) ?_
    refine v_eqi (y := nI (shWr (dW x) (dZ x i) (dG x 0)).length) rfl ?_
    refine v_icmp_geN (tgt := 204) dX10_write_183 (by decide) (by omega) (by omega) (fun c183 => ?_) (fun c183 => ?_)
    · refine v_aload_n dX10_write_204 rfl (by rfl) ?_
      refine v_getf hE dX10_write_205 fX10_391 mdS_M (by rfl) ?_
      refine v_eqi (y := nI (shWr (dW x) (dZ x i) (dG x 0)).length) rfl ?_
      refine v_iret dX10_write_208 rfl (by first | rfl | exact nar_bI) ?_
      obtain ⟨u1, u2, u3, u4⟩ := tAdds_ok (shWr (dW x) (dZ x i) (dG x 0)) ((0, (dT x 2).2.1, 0) : tS) (by show 0 + _ ≤ 8000; omega)
      have hu1 : (pWrT x i).1 = (shWr (dW x) (dZ x i) (dG x 0)).length := u1.trans (Nat.zero_add _)
      have hR2 : pWri x (nI i) = (some (nI (pWrT x i).1), dSwT (xT x (va_up (dT x) 2 (pWrT x i)))) := by
        unfold pWri
        rw [hi0]
        exact if_pos u2
      rw [hR2, hu1]
      refine ⟨rfl, rfl, _, rfl, ?_, rfl⟩
      refine mRel_w hR hT.2.1 (fun j => ?_) (by omega) (congrArg nI hu1.symm) (fun j hj => ?_)
      · unfold mCq
        split
        · exact hT.2.1 j
        · exact hR.1.1 32 j rfl
      · have e1 : mCq T (y.1 32) k j = T j := if_pos (by omega)
        have e2 := u4 j (by omega)
        obtain ⟨c, c1, c2⟩ := hT.2.2 ((shWr (dW x) (dZ x i) (dG x 0)).getD j 0) (gD_mem (by omega))
        rw [e1, hT.1 j (by omega) (by omega), c2, a255 c c1, ← c2]
        rw [← e2]
        exact congrArg _ (Nat.zero_add j).symm
    · refine v_aload_n dX10_write_186 rfl (by rfl) ?_
      refine v_getf hE dX10_write_187 fX10_109 mdS_M (by rfl) ?_
      refine v_iload_n dX10_write_190 rfl (by rfl) ?_
      refine v_aload_n dX10_write_191 rfl (by rfl) ?_
      refine v_getf hE dX10_write_192 fX10_127 mdS_M (by rfl) ?_
      refine v_iload_n dX10_write_195 rfl (by rfl) ?_
      refine m_bald hE (k := 38) dX10_write_196 (by decide) (by decide) rfl (show _ < 8200 by omega) (by omega) ?_
      refine v_eqi (y := T k) rfl ?_
      refine m_bast hE (k := 32) dX10_write_197 (by decide) (by decide) rfl (show _ < 8200 by omega) (by omega) ?_
      rw [hT.2.1 k]
      refine v_iincN (y := 1) dX10_write_198 (by rfl) (by decide) (by decide) ?_
      refine v_goto (tgt := 178) dX10_write_201 (by decide) ?_
      refine v_hp (show _ = mdS f M (va_up (va_up y.1 38 T) 32 (mCq T (y.1 32) (k + 1)), va_up (va_up (va_up y.2 0 (bI (! true))) 52 (nI (shWr (dW x) (dZ x i) (dG x 0)).length)) 37 (nI (shWr (dW x) (dZ x i) (dG x 0)).length)) from by rw [← mCq_s]; exact congrArg (mdS f M) (Prod.ext va_up_up rfl)) ?_
      exact ih (d - 1) (by omega) (k + 1) (by omega)
  have l4 : ∀ (z2 z3 : Option Value) (i : Nat), ix 2 (nI i) = some i → i < 2 → (shWr (dW x) (dZ x i) (dG x 0)).length ≤ 50000 → ∀ (T : Nat → Int32), mTl T (shWr (dW x) (dZ x i) (dG x 0)) → V E mX10_write 0 0 (fun o f' t' => o = .inl (some (.int ((pWri x (nI i)).1.getD (nI 0)))) ∧ t' = t ∧ mAns M f (pWri x (nI i)) f') 156 [some (.ref M), some (.int (nI i)), z2, z3] [] (mdS f M (wS (y.1, va_up y.2 0 (bI (! true))) T (shWr (dW x) (dZ x i) (dG x 0)).length)) t 0 0 := by
    intro z2 z3 i hi0 i2 h8 T hT
    refine v_aload_n dX10_write_156 rfl (by rfl) ?_
    refine v_getf hE dX10_write_157 fX10_391 mdS_M (by rfl) ?_
    refine v_eqi (y := nI (shWr (dW x) (dZ x i) (dG x 0)).length) rfl ?_
    refine v_sipush (v := nI 8000) dX10_write_160 (by decide) ?_
    refine v_icmp_leN (tgt := 168) dX10_write_163 (by decide) (by omega) (by omega) (fun c163 => ?_) (fun c163 => ?_)
    · refine v_aload_n dX10_write_168 rfl (by rfl) ?_
      refine v_aload_n dX10_write_169 rfl (by rfl) ?_
      refine v_getf hE dX10_write_170 fX10_391 mdS_M (by rfl) ?_
      refine v_eqi (y := nI (shWr (dW x) (dZ x i) (dG x 0)).length) rfl ?_
      refine m_put hE (j := 37) dX10_write_173 fX10_382 (by exact Nat.le_of_ble_eq_true rfl) (by rfl) (by rfl) (by rfl) (by rfl) ?_
      refine v_iconst (v := nI 0) dX10_write_176 (by decide) ?_
      refine v_istore_n dX10_write_177 rfl (by decide) ?_
      refine v_hp (show _ = mdS f M (va_up (va_up y.1 38 T) 32 (mCq T (y.1 32) 0), va_up (va_up (va_up y.2 0 (bI (! true))) 52 (nI (shWr (dW x) (dZ x i) (dG x 0)).length)) 37 (nI (shWr (dW x) (dZ x i) (dG x 0)).length)) from by rw [mCq_0]; exact congrArg (mdS f M) (Prod.ext (va_up_id rfl).symm rfl)) ?_
      exact l5 z3 i hi0 i2 (by omega) T hT (shWr (dW x) (dZ x i) (dG x 0)).length 0 (by omega)
    · refine v_iconst (v := (-1)) dX10_write_166 (by decide) ?_
      refine v_iret dX10_write_167 rfl (by first | rfl | exact nar_bI) ?_
      have u2 := tAdds_no (shWr (dW x) (dZ x i) (dG x 0)) ((0, (dT x 2).2.1, 0) : tS) (Nat.zero_le _) (by show 8000 < 0 + _; omega)
      have hR2 : pWri x (nI i) = (some (-1), xT x (va_up (dT x) 2 (pWrT x i))) := by
        unfold pWri
        rw [hi0]
        exact if_neg (by rw [show (pWrT x i).2.2 = 1 from u2]; decide)
      rw [hR2]
      exact ⟨rfl, rfl, _, rfl, mRel_w0 (x := x) (y := y) (v := bI (! true)) hR hT.2.1, rfl⟩
  have l3 : ∀ (z3 : Option Value) (i : Nat), ix 2 (nI i) = some i → i < 2 → ∀ (d k : Nat) (l : List Int32) (T : Nat → Int32), mTl T l → k + d = (dZ x i).2.2 → l.length ≤ 300 + 400 * k → (shWr (dW x) (dZ x i) (dG x 0)) = l ++ shEnT (dW x) (dZ x i).1 (dZ x i).2.1.1 (dG x 0) ((dZ x i).2.2 - k) k → V E mX10_write 0 0 (fun o f' t' => o = .inl (some (.int ((pWri x (nI i)).1.getD (nI 0)))) ∧ t' = t ∧ mAns M f (pWri x (nI i)) f') 129 [some (.ref M), some (.int (nI i)), some (.int (nI k)), z3] [] (mdS f M (wS (y.1, va_up y.2 0 (bI (! true))) T l.length)) t 0 0 := by
    intro z3 i hi0 i2 d
    induction d using Nat.strongRecOn with
    | _ d ih =>
    intro k l T hT hd hl hL
    have hTb := hR.2.2.2.1 i i2
    have hzo := hI.2.2.1 i (by omega)
    have hz8 := hzo.2
    have hn3 := hzo.1.1
    refine v_iload_n dX10_write_129 rfl (by rfl) ?_
    refine v_aload_n dX10_write_130 rfl (by rfl) ?_
    refine v_getf hE dX10_write_131 fX10_60 mdS_M (by rfl) ?_
    refine v_iload_n dX10_write_134 rfl (by rfl) ?_
    refine m_iald hE (k := 16) dX10_write_135 (by decide) (by decide) rfl (show _ < 4 by omega) (by omega) ?_
    refine v_eqi (y := nI (dZ x i).2.2) hTb.1 ?_
    refine v_icmp_geN (tgt := 156) dX10_write_136 (by decide) (by omega) (by omega) (fun c136 => ?_) (fun c136 => ?_)
    · have e9 : l = (shWr (dW x) (dZ x i) (dG x 0)) := by rw [hL, show (dZ x i).2.2 - k = 0 by omega]; exact (List.append_nil _).symm
      rw [e9] at hT ⊢
      exact l4 _ _ i hi0 i2 (by rw [← e9]; omega) T hT
    · have hwo := hI.2.2.2.1 _ (dre_X hI (show i < 3 by omega) k (by omega))
      have hgg := hI.2.2.2.2.2.1 i k i2 (by omega)
      obtain ⟨⟨s9, p9, q1, q2, q3, q4, q5⟩, -⟩ := id hgg
      have hel := eWr_len (w := (dW x ((dZ x i).1 k))) (n := (dZ x i).2.1.1) (s := (eSq (dW x ((dZ x i).1 k))).toNatClampNeg) (p := (ePl (dW x ((dZ x i).1 k))).toNatClampNeg) (g := dG x 0) hwo hn3 (hgo.1.2.2 _)
      refine v_aload_n dX10_write_139 rfl (by rfl) ?_
      refine v_iload_n dX10_write_140 rfl (by rfl) ?_
      refine v_bipush (v := nI 60) dX10_write_141 (by decide) ?_
      refine v_iload_n dX10_write_143 rfl (by rfl) ?_
      refine v_imulN dX10_write_144 ?_
      refine v_iload_n dX10_write_145 rfl (by rfl) ?_
      refine v_iaddN dX10_write_146 ?_
      refine w_callV hE dX10_write_147 kX10_409 mdS_M (by rfl) (by rfl) (sX10_putRecord hE (y := (y.1, va_up y.2 0 (bI (! true)))) hT (by omega) (hTb.2.2.2 k (by omega)) hwo hgg ((hLv.2 i i2).2 k (by omega)) hR.2.2.1 hgo hLv.1 (by omega) (by omega) hTb.2.1 hn3) rfl (by decide) (by decide) (by exact Nat.le_of_ble_eq_true rfl) (by omega) (by omega) (fun v9 g9 u9 h9 => ?_) (fun _ _ _ h => by cases h.1)
      obtain ⟨hv9, hu9, T9, hg9, hT9⟩ := h9
      replace hu9 := hu9.symm
      subst hu9
      subst hg9
      cases hv9
      refine v_iincN (y := 1) dX10_write_150 (by rfl) (by decide) (by decide) ?_
      refine v_goto (tgt := 129) dX10_write_153 (by decide) ?_
      refine ih (d - 1) (by omega) (k + 1) _ T9 hT9 (by omega) (by rw [List.length_append]; omega) ?_
      rw [hL, show (dZ x i).2.2 - k = ((dZ x i).2.2 - (k + 1)) + 1 by omega, shEnT, List.append_assoc]
  have l2 : ∀ (i : Nat), ix 2 (nI i) = some i → i < 2 → ∀ (d j : Nat) (l : List Int32) (T : Nat → Int32) (z3 : Option Value), mTl T l → j + d = (dZ x i).2.1.1 → l.length ≤ 100 + 30 * j → (shWr (dW x) (dZ x i) (dG x 0)) = l ++ wW1 (dZ x i) ((dZ x i).2.1.1 - j) j (shEnT (dW x) (dZ x i).1 (dZ x i).2.1.1 (dG x 0) ((dZ x i).2.2 - 0) 0) → V E mX10_write 0 0 (fun o f' t' => o = .inl (some (.int ((pWri x (nI i)).1.getD (nI 0)))) ∧ t' = t ∧ mAns M f (pWri x (nI i)) f') 58 [some (.ref M), some (.int (nI i)), some (.int (nI j)), z3] [] (mdS f M (wS (y.1, va_up y.2 0 (bI (! true))) T l.length)) t 0 0 := by
    intro i hi0 i2 d
    induction d using Nat.strongRecOn with
    | _ d ih =>
    intro j l T z3 hT hd hl hL
    have hTb := hR.2.2.2.1 i i2
    have hzo := hI.2.2.1 i (by omega)
    have hz8 := hzo.2
    have hn3 := hzo.1.1
    have li : j < (dZ x i).2.1.1 → ∀ (d2 k : Nat) (A : Nat → Int32), k + d2 = (dZ x i).2.1.2.2 j → mTl A (l ++ [nI 9] ++ prt (dZ x i).2.1.2.1 k (j * 20)) → V E mX10_write 0 0 (fun o f' t' => o = .inl (some (.int ((pWri x (nI i)).1.getD (nI 0)))) ∧ t' = t ∧ mAns M f (pWri x (nI i)) f') 76 [some (.ref M), some (.int (nI i)), some (.int (nI j)), some (.int (nI k))] [] (mdS f M (wS (y.1, va_up y.2 0 (bI (! true))) A (l ++ [nI 9] ++ prt (dZ x i).2.1.2.1 k (j * 20)).length)) t 0 0 := by
      intro hj d2
      obtain ⟨b1, b2⟩ := hTb.2.2.1 j hj
      have b20 := hzo.1.2.2 j
      induction d2 using Nat.strongRecOn with
      | _ d2 ih2 =>
      intro k A hk hA
      refine v_iload_n dX10_write_76 rfl (by rfl) ?_
      refine v_aload_n dX10_write_77 rfl (by rfl) ?_
      refine v_getf hE dX10_write_78 fX10_69 mdS_M (by rfl) ?_
      refine v_iconst (v := nI 3) dX10_write_81 (by decide) ?_
      refine v_iload_n dX10_write_82 rfl (by rfl) ?_
      refine v_imulN dX10_write_83 ?_
      refine v_iload_n dX10_write_84 rfl (by rfl) ?_
      refine v_iaddN dX10_write_85 ?_
      refine m_iald hE (k := 19) dX10_write_86 (by decide) (by decide) rfl (show _ < 12 by omega) (by omega) ?_
      refine v_eqi (y := nI ((dZ x i).2.1.2.2 j)) b1 ?_
      refine v_icmp_geN (tgt := 115) dX10_write_87 (by decide) (by omega) (by omega) (fun c87 => ?_) (fun c87 => ?_)
      · refine v_iincN (y := 1) dX10_write_115 (by rfl) (by decide) (by decide) ?_
        refine v_goto (tgt := 58) dX10_write_118 (by decide) ?_
        have e9 : k = (dZ x i).2.1.2.2 j := by omega
        subst e9
        refine ih (d - 1) (by omega) (j + 1) _ A _ hA (by omega) (by first | omega | (simp only [List.length_append, List.length_cons, List.length_nil, prt_len, txI_len]; omega)) ?_
        rw [hL]
        unfold wW1
        rw [show (dZ x i).2.1.1 - j = ((dZ x i).2.1.1 - (j + 1)) + 1 by omega, shNmT]
        simp only [List.append_assoc]
      · refine v_aload_n dX10_write_90 rfl (by rfl) ?_
        refine v_aload_n dX10_write_91 rfl (by rfl) ?_
        refine v_getf hE dX10_write_92 fX10_66 mdS_M (by rfl) ?_
        refine v_bipush (v := nI 20) dX10_write_95 (by decide) ?_
        refine v_iconst (v := nI 3) dX10_write_97 (by decide) ?_
        refine v_iload_n dX10_write_98 rfl (by rfl) ?_
        refine v_imulN dX10_write_99 ?_
        refine v_iload_n dX10_write_100 rfl (by rfl) ?_
        refine v_iaddN dX10_write_101 ?_
        refine v_imulN dX10_write_102 ?_
        refine v_iload_n dX10_write_103 rfl (by rfl) ?_
        refine v_iaddN dX10_write_104 ?_
        refine m_bald hE (k := 18) dX10_write_105 (by decide) (by decide) rfl (show _ < 240 by omega) (by omega) ?_
        obtain ⟨c, c1, c2⟩ := (hLv.2 i i2).1 j k (by omega) (by omega)
        refine v_eqi (y := nI c) ((b2 k (by omega)).trans c2) ?_
        refine w_callV hE dX10_write_106 kX10_394 mdS_M (by rfl) (by rfl) (sX10_put hE (by assumption) (by first | omega | (simp only [List.length_append, List.length_cons, List.length_nil, prt_len, txI_len]; omega)) c1) rfl (by decide) (by decide) (by exact Nat.le_of_ble_eq_true rfl) (by omega) (by omega) (fun v9 g9 u9 h9 => ?_) (fun _ _ _ h => by cases h.1)
        obtain ⟨hv9, hu9, T9, hg9, hT9⟩ := h9
        replace hu9 := hu9.symm
        subst hu9
        subst hg9
        cases hv9
        refine v_iincN (y := 1) dX10_write_109 (by rfl) (by decide) (by decide) ?_
        refine v_goto (tgt := 76) dX10_write_112 (by decide) ?_
        have e9 : l ++ [nI 9] ++ prt (dZ x i).2.1.2.1 k (j * 20) ++ [nI c] = l ++ [nI 9] ++ prt (dZ x i).2.1.2.1 (k + 1) (j * 20) := by rw [prt_s, c2, List.append_assoc (l ++ [nI 9])]
        rw [e9] at hT9 ⊢
        exact ih2 (d2 - 1) (by omega) (k + 1) T9 (by omega) hT9
    refine v_iload_n dX10_write_58 rfl (by rfl) ?_
    refine v_aload_n dX10_write_59 rfl (by rfl) ?_
    refine v_getf hE dX10_write_60 fX10_63 mdS_M (by rfl) ?_
    refine v_iload_n dX10_write_63 rfl (by rfl) ?_
    refine m_iald hE (k := 17) dX10_write_64 (by decide) (by decide) rfl (show _ < 4 by omega) (by omega) ?_
    refine v_eqi (y := nI (dZ x i).2.1.1) hTb.2.1 ?_
    refine v_icmp_geN (tgt := 121) dX10_write_65 (by decide) (by omega) (by omega) (fun c65 => ?_) (fun c65 => ?_)
    · refine v_aload_n dX10_write_121 rfl (by rfl) ?_
      refine v_bipush (v := nI 10) dX10_write_122 (by decide) ?_
      refine w_callV hE dX10_write_124 kX10_394 mdS_M (by rfl) (by rfl) (sX10_put hE (by assumption) (by first | omega | (simp only [List.length_append, List.length_cons, List.length_nil, prt_len, txI_len]; omega)) (by decide)) rfl (by decide) (by decide) (by exact Nat.le_of_ble_eq_true rfl) (by omega) (by omega) (fun v9 g9 u9 h9 => ?_) (fun _ _ _ h => by cases h.1)
      obtain ⟨hv9, hu9, T9, hg9, hT9⟩ := h9
      replace hu9 := hu9.symm
      subst hu9
      subst hg9
      cases hv9
      refine v_iconst (v := nI 0) dX10_write_127 (by decide) ?_
      refine v_istore_n dX10_write_128 rfl (by decide) ?_
      refine l3 _ i hi0 i2 (dZ x i).2.2 0 _ T9 hT9 (by omega) (by first | omega | (simp only [List.length_append, List.length_cons, List.length_nil, prt_len, txI_len]; omega)) ?_
      rw [hL]
      unfold wW1
      rw [show (dZ x i).2.1.1 - j = 0 by omega]
      show l ++ ([] ++ ([nI 10] ++ _)) = _
      simp only [List.append_assoc, List.nil_append]
    · refine v_aload_n dX10_write_68 rfl (by rfl) ?_
      refine v_bipush (v := nI 9) dX10_write_69 (by decide) ?_
      refine w_callV hE dX10_write_71 kX10_394 mdS_M (by rfl) (by rfl) (sX10_put hE (by assumption) (by first | omega | (simp only [List.length_append, List.length_cons, List.length_nil, prt_len, txI_len]; omega)) (by decide)) rfl (by decide) (by decide) (by exact Nat.le_of_ble_eq_true rfl) (by omega) (by omega) (fun v9 g9 u9 h9 => ?_) (fun _ _ _ h => by cases h.1)
      obtain ⟨hv9, hu9, T9, hg9, hT9⟩ := h9
      replace hu9 := hu9.symm
      subst hu9
      subst hg9
      cases hv9
      refine v_iconst (v := nI 0) dX10_write_74 (by decide) ?_
      refine v_istore_n dX10_write_75 rfl (by decide) ?_
      have e0 : l ++ [nI 9] ++ prt (dZ x i).2.1.2.1 0 (j * 20) = l ++ [nI 9] := List.append_nil _
      have hV := li (by omega) ((dZ x i).2.1.2.2 j) 0 T9 (by omega) (by rw [e0]; exact hT9)
      rw [e0] at hV
      exact hV
  refine v_aload_n dX10_write_0 rfl (by rfl) ?_
  refine v_iload_n dX10_write_1 rfl (by rfl) ?_
  refine v_iconst (v := nI 0) dX10_write_2 (by decide) ?_
  refine v_iconst (v := nI 1) dX10_write_3 (by decide) ?_
  refine w_callS hE dX10_write_4 kX10_136 (by rfl) (sX10_in hE) rfl (by decide) (by decide) (by exact Nat.le_of_ble_eq_true rfl) (by omega) (by omega) (fun v9 g9 u9 h9 => ?_) (fun _ _ _ h => by cases h.1)
  obtain ⟨hv9, hu9, hg9⟩ := h9
  replace hu9 := hu9.symm
  replace hg9 := hg9.symm
  subst hu9
  subst hg9
  cases hv9
  rw [in_ix1 (n := 1) (by omega)]
  refine w_callV hE dX10_write_7 kX10_143 mdS_M (by rfl) (by rfl) (sX10_goes hE) rfl (by decide) (by decide) (by exact Nat.le_of_ble_eq_true rfl) (by omega) (by omega) (fun v9 g9 u9 h9 => ?_) (fun _ _ _ h => by cases h.1)
  obtain ⟨hv9, hu9, hg9⟩ := h9
  replace hu9 := hu9.symm
  subst hu9
  subst hg9
  cases hv9
  refine v_if_neB (tgt := 15) dX10_write_10 (by decide) (fun c10 => ?_) (fun c10 => ?_)
  · obtain ⟨i, hi0⟩ := Option.isSome_iff_exists.mp c10
    obtain ⟨i2, i3⟩ := ix_r hi0 (by omega)
    subst i3
    have hTb := hR.2.2.2.1 i i2
    have hzo := hI.2.2.1 i (by omega)
    have hn3 := hzo.1.1
    rw [c10]
    refine v_aload_n dX10_write_15 rfl (by rfl) ?_
    refine v_iconst (v := nI 0) dX10_write_16 (by decide) ?_
    refine m_put hE (j := 52) dX10_write_17 fX10_391 (by exact Nat.le_of_ble_eq_true rfl) (by rfl) (by rfl) (by rfl) (by rfl) ?_
    refine v_hp (show _ = mdS f M (wS (y.1, va_up y.2 0 (bI (! true))) (y.1 38) ([] : List Int32).length) from congrArg (mdS f M) (Prod.ext (va_up_id rfl).symm rfl)) ?_
    have hT0 : mTl (y.1 38) [] := ⟨fun k hk => absurd hk (Nat.not_lt_zero _), fun k => hR.1.1 38 k rfl, fun z hz => by cases hz⟩
    have t0 : (mTx 0).length = 20 := by decide
    have t1 : (mTx 1).length = 38 := by decide
    have t2 : (mTx 2).length = 6 := by decide
    refine v_aload_n dX10_write_20 rfl (by rfl) ?_
    refine v_iconst (v := nI 0) dX10_write_21 (by decide) ?_
    refine w_callV hE dX10_write_22 kX10_403 mdS_M (by rfl) (by rfl) (sX10_putText hE (by assumption) (by first | omega | (simp only [List.length_append, List.length_cons, List.length_nil, prt_len, txI_len]; omega)) (by decide)) rfl (by decide) (by decide) (by exact Nat.le_of_ble_eq_true rfl) (by omega) (by omega) (fun v9 g9 u9 h9 => ?_) (fun _ _ _ h => by cases h.1)
    obtain ⟨hv9, hu9, T9, hg9, hT9⟩ := h9
    replace hu9 := hu9.symm
    subst hu9
    subst hg9
    cases hv9
    refine v_aload_n dX10_write_25 rfl (by rfl) ?_
    refine v_bipush (v := nI 10) dX10_write_26 (by decide) ?_
    refine w_callV hE dX10_write_28 kX10_394 mdS_M (by rfl) (by rfl) (sX10_put hE (by assumption) (by first | omega | (simp only [List.length_append, List.length_cons, List.length_nil, prt_len, txI_len]; omega)) (by decide)) rfl (by decide) (by decide) (by exact Nat.le_of_ble_eq_true rfl) (by omega) (by omega) (fun v9 g9 u9 h9 => ?_) (fun _ _ _ h => by cases h.1)
    obtain ⟨hv9, hu9, T9, hg9, hT9⟩ := h9
    replace hu9 := hu9.symm
    subst hu9
    subst hg9
    cases hv9
    refine v_aload_n dX10_write_31 rfl (by rfl) ?_
    refine v_iconst (v := nI 1) dX10_write_32 (by decide) ?_
    refine w_callV hE dX10_write_33 kX10_403 mdS_M (by rfl) (by rfl) (sX10_putText hE (by assumption) (by first | omega | (simp only [List.length_append, List.length_cons, List.length_nil, prt_len, txI_len]; omega)) (by decide)) rfl (by decide) (by decide) (by exact Nat.le_of_ble_eq_true rfl) (by omega) (by omega) (fun v9 g9 u9 h9 => ?_) (fun _ _ _ h => by cases h.1)
    obtain ⟨hv9, hu9, T9, hg9, hT9⟩ := h9
    replace hu9 := hu9.symm
    subst hu9
    subst hg9
    cases hv9
    refine v_aload_n dX10_write_36 rfl (by rfl) ?_
    refine v_getf hE dX10_write_37 fX10_63 mdS_M (by rfl) ?_
    refine v_iload_n dX10_write_40 rfl (by rfl) ?_
    refine m_iald hE (k := 17) dX10_write_41 (by decide) (by decide) rfl (show _ < 4 by omega) (by omega) ?_
    refine v_eqi (y := nI (dZ x i).2.1.1) hTb.2.1 ?_
    refine v_if_leN (tgt := 56) dX10_write_42 (by decide) (by omega) (fun c42 => ?_) (fun c42 => ?_)
    · refine v_iconst (v := nI 0) dX10_write_56 (by decide) ?_
      refine v_istore_n dX10_write_57 rfl (by decide) ?_
      refine l2 i hi0 i2 (dZ x i).2.1.1 0 _ T9 _ hT9 (by omega) (by first | omega | (simp only [List.length_append, List.length_cons, List.length_nil, prt_len, txI_len]; omega)) ?_
      unfold shWr shWrH wW1
      first
        | (rw [if_pos (show (dZ x i).2.1.1 = 0 by omega)]; simp only [List.append_assoc, List.nil_append]; rfl)
        | (rw [if_neg (show ¬ (dZ x i).2.1.1 = 0 by omega)]; simp only [List.append_assoc, List.nil_append]; rfl)
    · refine v_aload_n dX10_write_45 rfl (by rfl) ?_
      refine v_bipush (v := nI 9) dX10_write_46 (by decide) ?_
      refine w_callV hE dX10_write_48 kX10_394 mdS_M (by rfl) (by rfl) (sX10_put hE (by assumption) (by first | omega | (simp only [List.length_append, List.length_cons, List.length_nil, prt_len, txI_len]; omega)) (by decide)) rfl (by decide) (by decide) (by exact Nat.le_of_ble_eq_true rfl) (by omega) (by omega) (fun v9 g9 u9 h9 => ?_) (fun _ _ _ h => by cases h.1)
      obtain ⟨hv9, hu9, T9, hg9, hT9⟩ := h9
      replace hu9 := hu9.symm
      subst hu9
      subst hg9
      cases hv9
      refine v_aload_n dX10_write_51 rfl (by rfl) ?_
      refine v_iconst (v := nI 2) dX10_write_52 (by decide) ?_
      refine w_callV hE dX10_write_53 kX10_403 mdS_M (by rfl) (by rfl) (sX10_putText hE (by assumption) (by first | omega | (simp only [List.length_append, List.length_cons, List.length_nil, prt_len, txI_len]; omega)) (by decide)) rfl (by decide) (by decide) (by exact Nat.le_of_ble_eq_true rfl) (by omega) (by omega) (fun v9 g9 u9 h9 => ?_) (fun _ _ _ h => by cases h.1)
      obtain ⟨hv9, hu9, T9, hg9, hT9⟩ := h9
      replace hu9 := hu9.symm
      subst hu9
      subst hg9
      cases hv9
      refine v_iconst (v := nI 0) dX10_write_56 (by decide) ?_
      refine v_istore_n dX10_write_57 rfl (by decide) ?_
      refine l2 i hi0 i2 (dZ x i).2.1.1 0 _ T9 _ hT9 (by omega) (by first | omega | (simp only [List.length_append, List.length_cons, List.length_nil, prt_len, txI_len]; omega)) ?_
      unfold shWr shWrH wW1
      first
        | (rw [if_pos (show (dZ x i).2.1.1 = 0 by omega)]; simp only [List.append_assoc, List.nil_append]; rfl)
        | (rw [if_neg (show ¬ (dZ x i).2.1.1 = 0 by omega)]; simp only [List.append_assoc, List.nil_append]; rfl)
  · refine v_iconst (v := nI 0) dX10_write_13 (by decide) ?_
    refine v_iret dX10_write_14 rfl (by first | rfl | exact nar_bI) ?_
    have hA : pWri x q = (none, x) := by
      unfold pWri
      split
      · rfl
      · rename_i i hi
        exfalso
        rw [show ix 2 q = some i from hi] at c10
        exact Bool.noConfusion c10
    rw [hA, c10]
    exact ⟨rfl, rfl, _, rfl, mRel_0 hR, rfl⟩
