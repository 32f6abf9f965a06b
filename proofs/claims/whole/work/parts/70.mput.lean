/-! what the model has written: the list l -/
abbrev wS (y : mV) (T : Nat → Int32) (n : Nat) : mV := (va_up y.1 38 T, va_up y.2 52 (nI n))
def mTl (T : Nat → Int32) (l : List Int32) : Prop := (∀ k, k < l.length → k < 8000 → T k = l.getD k 0) ∧ (∀ i, vp_nar .byte (T i) = T i) ∧ ∀ x ∈ l, ∃ c, c < 128 ∧ x = nI c
theorem sm_app {l : List Int32} {c : Nat} (h : ∀ x ∈ l, ∃ c, c < 128 ∧ x = nI c) (hc : c < 128) : ∀ x ∈ l ++ [nI c], ∃ c, c < 128 ∧ x = nI c := fun x hx => by
  rcases List.mem_append.mp hx with h1 | h1
  · exact h x h1
  · exact ⟨c, hc, List.mem_singleton.mp h1⟩
def wP (f : aH) (M : Nat) (y : mV) (l : List Int32) (f' : aH) : Prop := ∃ T, f' = mdS f M (wS y T l.length) ∧ mTl T l
theorem gD_l {l m : List Int32} {k : Nat} (h : k < l.length) : (l ++ m).getD k 0 = l.getD k 0 := by
  rw [List.getD_eq_getElem?_getD, List.getD_eq_getElem?_getD, List.getElem?_append_left h]
theorem gD_r {l : List Int32} {c : Int32} : (l ++ [c]).getD l.length 0 = c := by
  rw [List.getD_eq_getElem?_getD, List.getElem?_append_right (Nat.le_refl _), Nat.sub_self]
  rfl
theorem byt : ∀ c, c < 128 → (nI c).toInt8.toInt32 = nI c := by decide +kernel
theorem mTl_s {T : Nat → Int32} {l : List Int32} {c : Nat} (h : mTl T l) (hc : c < 128) : mTl (upd T l.length (nI c)) (l ++ [nI c]) := by
  refine ⟨fun k h1 h2 => ?_, upd_nar h.2.1 (by have := i8_nar (nI c); rwa [byt c hc] at this), sm_app h.2.2 hc⟩
  rw [List.length_append] at h1
  have h1 : k < l.length + 1 := h1
  by_cases e : k = l.length
  · rw [e, updS, gD_r]
  · rw [updN e, gD_l (by omega)]
    exact h.1 k (by omega) h2
theorem mTl_n {T : Nat → Int32} {l : List Int32} {c : Nat} (h : mTl T l) (hc : c < 128) (hl : 8000 ≤ l.length) : mTl T (l ++ [nI c]) := by
  refine ⟨fun k h1 h2 => ?_, h.2.1, sm_app h.2.2 hc⟩
  rw [gD_l (by omega)]
  exact h.1 k (by omega) h2
set_option maxRecDepth 100000 in
set_option maxHeartbeats 600000 in
/-- model: put -/
theorem sX10_put {E : eN} (hE : eOk E) {f : aH} {t : Nat} {M : Nat} {y : mV} {T : Nat → Int32} {l : List Int32} {c : Nat} (hT : mTl T l) (hl : l.length ≤ 60000) (hc : c < 128) : mT E mX10_put 0 0 [.ref M, .int (nI c)] (mdS f M (wS y T l.length)) t (fun o f' t' => o = .inl none ∧ t' = t ∧ wP f M y (l ++ [nI c]) f') := by
  refine mT_of (n := 0) (lo := [some (.ref M), some (.int (nI c))]) (by decide) (by exact Nat.le_of_ble_eq_true rfl) rfl rfl ?_
  refine v_aload_n dX10_put_0 rfl (by rfl) ?_
  refine v_getf hE dX10_put_1 fX10_391 mdS_M (by rfl) ?_
  refine v_eqi (y := nI l.length) rfl ?_
  refine v_sipush (v := nI 8000) dX10_put_4 (by decide) ?_
  refine v_icmp_geN (tgt := 21) dX10_put_7 (by decide) (by omega) (by omega) (fun c7 => ?_) (fun c7 => ?_)
  · refine v_aload_n dX10_put_21 rfl (by rfl) ?_
    refine v_dup dX10_put_22 rfl ?_
    refine v_getf hE dX10_put_23 fX10_391 mdS_M (by rfl) ?_
    refine v_eqi (y := nI l.length) rfl ?_
    refine v_iconst (v := nI 1) dX10_put_26 (by decide) ?_
    refine v_iaddN dX10_put_27 ?_
    refine m_put hE (j := 52) dX10_put_28 fX10_391 (by exact Nat.le_of_ble_eq_true rfl) (by rfl) (by rfl) (by rfl) (by rfl) ?_
    refine v_ret dX10_put_31 rfl ?_
    first
      | exact ⟨rfl, rfl, _, by rw [List.length_append]; exact congrArg (mdS f M) (Prod.ext va_up_up va_up_up), mTl_s hT hc⟩
      | exact ⟨rfl, rfl, _, by rw [List.length_append]; exact congrArg (mdS f M) (Prod.ext rfl va_up_up), mTl_n hT hc (by omega)⟩
  · refine v_aload_n dX10_put_10 rfl (by rfl) ?_
    refine v_getf hE dX10_put_11 fX10_127 mdS_M (by rfl) ?_
    refine v_aload_n dX10_put_14 rfl (by rfl) ?_
    refine v_getf hE dX10_put_15 fX10_391 mdS_M (by rfl) ?_
    refine v_eqi (y := nI l.length) rfl ?_
    refine v_iload_n dX10_put_18 rfl (by rfl) ?_
    refine v_i2b dX10_put_19 rfl ?_
    refine m_bast hE (k := 38) dX10_put_20 (by decide) (by decide) rfl (show _ < 8200 by omega) (by omega) ?_
    rw [i8_nar, byt c hc]
    refine v_aload_n dX10_put_21 rfl (by rfl) ?_
    refine v_dup dX10_put_22 rfl ?_
    refine v_getf hE dX10_put_23 fX10_391 mdS_M (by rfl) ?_
    refine v_eqi (y := nI l.length) rfl ?_
    refine v_iconst (v := nI 1) dX10_put_26 (by decide) ?_
    refine v_iaddN dX10_put_27 ?_
    refine m_put hE (j := 52) dX10_put_28 fX10_391 (by exact Nat.le_of_ble_eq_true rfl) (by rfl) (by rfl) (by rfl) (by rfl) ?_
    refine v_ret dX10_put_31 rfl ?_
    first
      | exact ⟨rfl, rfl, _, by rw [List.length_append]; exact congrArg (mdS f M) (Prod.ext va_up_up va_up_up), mTl_s hT hc⟩
      | exact ⟨rfl, rfl, _, by rw [List.length_append]; exact congrArg (mdS f M) (Prod.ext rfl va_up_up), mTl_n hT hc (by omega)⟩

theorem txT : ∀ k, k < 6 → ∀ c ∈ mTx k, c < 128 := by decide +kernel
theorem gDlt {cs : List Nat} {k : Nat} (h : ∀ c ∈ cs, c < 128) : cs.getD k 0 < 128 := by
  rw [List.getD_eq_getElem?_getD]
  by_cases e : k < cs.length
  · rw [List.getElem?_eq_getElem e]
    exact h _ (List.getElem_mem e)
  · rw [List.getElem?_eq_none (by omega)]
    decide
theorem take_s {cs : List Nat} {k : Nat} (h : k < cs.length) : cs.take (k + 1) = cs.take k ++ [cs.getD k 0] := by
  rw [List.take_add_one, List.getD_eq_getElem?_getD, List.getElem?_eq_getElem h]
  rfl
set_option maxRecDepth 100000 in
set_option maxHeartbeats 600000 in
/-- model: putText -/
theorem sX10_putText {E : eN} (hE : eOk E) {f : aH} {t : Nat} {M : Nat} {y : mV} {T : Nat → Int32} {l : List Int32} {k : Nat} (hT : mTl T l) (hl : l.length ≤ 50000) (hk : k < 6) : mT E mX10_putText 0 0 [.ref M, .int (nI k)] (mdS f M (wS y T l.length)) t (fun o f' t' => o = .inl none ∧ t' = t ∧ wP f M y (l ++ txI (mTx k)) f') := by
  refine mT_of (n := 1) (lo := [some (.ref M), some (.int (nI k)), none]) (by decide) (by exact Nat.le_of_ble_eq_true rfl) rfl rfl ?_
  obtain ⟨hln, h38⟩ := mTx_l k hk
  have lp : ∀ (d : Nat) (n : Nat) (A : Nat → Int32), n + d = mSgn k → mTl A (l ++ txI ((mTx k).take n)) → V E mX10_putText 0 0 (fun o f' t' => o = .inl none ∧ t' = t ∧ wP f M y (l ++ txI (mTx k)) f') 2 [some (.ref M), some (.int (nI k)), some (.int (nI n))] [] (mdS f M (wS y A (l ++ txI ((mTx k).take n)).length)) t 0 0 := by
    intro d
    induction d using Nat.strongRecOn with
    | _ d ih =>
    intro n A hn hA
    refine v_iload_n dX10_putText_2 rfl (by rfl) ?_
    refine v_iload_n dX10_putText_3 rfl (by rfl) ?_
    refine w_callS hE dX10_putText_4 kX10_228 (by rfl) (sX10_sizeOf hE hk) rfl (by decide) (by decide) (by exact Nat.le_of_ble_eq_true rfl) (by omega) (by omega) (fun v9 g9 u9 h9 => ?_) (fun _ _ _ h => by cases h.1)
    obtain ⟨hv9, hu9, hg9⟩ := h9
    replace hu9 := hu9.symm
    replace hg9 := hg9.symm
    subst hu9
    subst hg9
    cases hv9
    refine v_icmp_geN (tgt := 25) dX10_putText_7 (by decide) (by omega) (by omega) (fun c7 => ?_) (fun c7 => ?_)
    · refine v_ret dX10_putText_25 rfl ?_
      have e9 : (mTx k).take n = mTx k := List.take_of_length_le (by omega)
      rw [e9] at hA ⊢
      exact ⟨rfl, rfl, A, rfl, hA⟩
    · refine v_aload_n dX10_putText_10 rfl (by rfl) ?_
      refine v_iload_n dX10_putText_11 rfl (by rfl) ?_
      refine v_iload_n dX10_putText_12 rfl (by rfl) ?_
      refine w_callS hE dX10_putText_13 kX10_231 (by rfl) (sX10_octetOf hE hk (by omega)) rfl (by decide) (by decide) (by exact Nat.le_of_ble_eq_true rfl) (by omega) (by omega) (fun v9 g9 u9 h9 => ?_) (fun _ _ _ h => by cases h.1)
      obtain ⟨hv9, hu9, hg9⟩ := h9
      replace hu9 := hu9.symm
      replace hg9 := hg9.symm
      subst hu9
      subst hg9
      cases hv9
      refine w_callV hE dX10_putText_16 kX10_394 mdS_M (by rfl) (by rfl) (sX10_put hE hA (by rw [List.length_append, txI, List.length_map]; have := List.length_take_le n (mTx k); omega) (gDlt (txT k hk))) rfl (by decide) (by decide) (by exact Nat.le_of_ble_eq_true rfl) (by omega) (by omega) (fun v9 g9 u9 h9 => ?_) (fun _ _ _ h => by cases h.1)
      obtain ⟨hv9, hu9, T9, hg9, hT9⟩ := h9
      replace hu9 := hu9.symm
      subst hu9
      subst hg9
      cases hv9
      refine v_iincN (y := 1) dX10_putText_19 (by rfl) (by decide) (by decide) ?_
      refine v_goto (tgt := 2) dX10_putText_22 (by decide) ?_
      have e9 : l ++ txI ((mTx k).take n) ++ [nI ((mTx k).getD n 0)] = l ++ txI ((mTx k).take (n + 1)) := by
        rw [take_s (by omega), List.append_assoc]
        unfold txI
        rw [List.map_append]
        rfl
      rw [e9] at hT9 ⊢
      exact ih (d - 1) (by omega) (n + 1) T9 (by omega) hT9
  refine v_iconst (v := nI 0) dX10_putText_0 (by decide) ?_
  refine v_istore_n dX10_putText_1 rfl (by decide) ?_
  have e0 : l ++ txI ((mTx k).take 0) = l := List.append_nil l
  have hV := lp (mSgn k) 0 T (by omega) (by rw [e0]; exact hT)
  rw [e0] at hV
  exact hV

theorem prt_s {g : Nat → Int32} : ∀ (n i : Nat), prt g (n + 1) i = prt g n i ++ [g (i + n)] := by
  intro n
  induction n with
  | zero => intro i; rfl
  | succ n ih =>
    intro i
    show g i :: prt g (n + 1) (i + 1) = (g i :: prt g n (i + 1)) ++ [g (i + (n + 1))]
    rw [ih (i + 1), show i + 1 + n = i + (n + 1) by omega]
    rfl
theorem prt_len {g : Nat → Int32} : ∀ (n i : Nat), (prt g n i).length = n := by
  intro n
  induction n with
  | zero => intro i; rfl
  | succ n ih => intro i; show (prt g n (i + 1)).length + 1 = n + 1; rw [ih]
set_option maxRecDepth 100000 in
set_option maxHeartbeats 600000 in
/-- model: putRow -/
theorem sX10_putRow {E : eN} (hE : eOk E) {f : aH} {t : Nat} {M : Nat} {y : mV} {T : Nat → Int32} {l : List Int32} {r q m : Nat} {w : eV} (hT : mTl T l) (hl : l.length ≤ 50000) (hw : mE y r w m) (hwo : enOk w) (hr : r < 240) (hq : q < eRo w) (hlet : ∀ k, k < eRs w q → ∃ c, c < 128 ∧ eLe w (q * 24 + k) = nI c) : mT E mX10_putRow 0 0 [.ref M, .int (nI r), .int (nI q)] (mdS f M (wS y T l.length)) t (fun o f' t' => o = .inl none ∧ t' = t ∧ wP f M y (l ++ prt (eLe w) (eRs w q) (q * 24)) f') := by
  refine mT_of (n := 1) (lo := [some (.ref M), some (.int (nI r)), some (.int (nI q)), none]) (by decide) (by exact Nat.le_of_ble_eq_true rfl) rfl rfl ?_
  obtain ⟨a1, a2⟩ := hw.2.2.2.2.2.2.1 q hq
  have hrs := hwo.2.1 q
  have hro := hwo.1
  have lp : ∀ (d : Nat) (n : Nat) (A : Nat → Int32), n + d = eRs w q → mTl A (l ++ prt (eLe w) n (q * 24)) → V E mX10_putRow 0 0 (fun o f' t' => o = .inl none ∧ t' = t ∧ wP f M y (l ++ prt (eLe w) (eRs w q) (q * 24)) f') 2 [some (.ref M), some (.int (nI r)), some (.int (nI q)), some (.int (nI n))] [] (mdS f M (wS y A (l ++ prt (eLe w) n (q * 24)).length)) t 0 0 := by
    intro d
    induction d using Nat.strongRecOn with
    | _ d ih =>
    intro n A hn hA
    refine v_iload_n dX10_putRow_2 rfl (by rfl) ?_
    refine v_aload_n dX10_putRow_3 rfl (by rfl) ?_
    refine v_getf hE dX10_putRow_4 fX10_90 mdS_M (by rfl) ?_
    refine v_iconst (v := nI 4) dX10_putRow_7 (by decide) ?_
    refine v_iload_n dX10_putRow_8 rfl (by rfl) ?_
    refine v_imulN dX10_putRow_9 ?_
    refine v_iload_n dX10_putRow_10 rfl (by rfl) ?_
    refine v_iaddN dX10_putRow_11 ?_
    refine m_iald hE (k := 26) dX10_putRow_12 (by decide) (by decide) rfl (show _ < 960 by omega) (by omega) ?_
    refine v_eqi (y := nI (eRs w q)) a1 ?_
    refine v_icmp_geN (tgt := 41) dX10_putRow_13 (by decide) (by omega) (by omega) (fun c13 => ?_) (fun c13 => ?_)
    · refine v_ret dX10_putRow_41 rfl ?_
      have e9 : n = eRs w q := by omega
      subst e9
      exact ⟨rfl, rfl, A, rfl, hA⟩
    · refine v_aload_n dX10_putRow_16 rfl (by rfl) ?_
      refine v_aload_n dX10_putRow_17 rfl (by rfl) ?_
      refine v_getf hE dX10_putRow_18 fX10_87 mdS_M (by rfl) ?_
      refine v_bipush (v := nI 26) dX10_putRow_21 (by decide) ?_
      refine v_iconst (v := nI 4) dX10_putRow_23 (by decide) ?_
      refine v_iload_n dX10_putRow_24 rfl (by rfl) ?_
      refine v_imulN dX10_putRow_25 ?_
      refine v_iload_n dX10_putRow_26 rfl (by rfl) ?_
      refine v_iaddN dX10_putRow_27 ?_
      refine v_imulN dX10_putRow_28 ?_
      refine v_iload_n dX10_putRow_29 rfl (by rfl) ?_
      refine v_iaddN dX10_putRow_30 ?_
      refine m_bald hE (k := 25) dX10_putRow_31 (by decide) (by decide) rfl (show _ < 24960 by omega) (by omega) ?_
      obtain ⟨c, c1, c2⟩ := hlet n (by omega)
      refine v_eqi (y := nI c) ((a2 n (by omega)).trans c2) ?_
      refine w_callV hE dX10_putRow_32 kX10_394 mdS_M (by rfl) (by rfl) (sX10_put hE hA (by rw [List.length_append, prt_len]; omega) c1) rfl (by decide) (by decide) (by exact Nat.le_of_ble_eq_true rfl) (by omega) (by omega) (fun v9 g9 u9 h9 => ?_) (fun _ _ _ h => by cases h.1)
      obtain ⟨hv9, hu9, T9, hg9, hT9⟩ := h9
      replace hu9 := hu9.symm
      subst hu9
      subst hg9
      cases hv9
      refine v_iincN (y := 1) dX10_putRow_35 (by rfl) (by decide) (by decide) ?_
      refine v_goto (tgt := 2) dX10_putRow_38 (by decide) ?_
      have e9 : l ++ prt (eLe w) n (q * 24) ++ [nI c] = l ++ prt (eLe w) (n + 1) (q * 24) := by rw [prt_s, c2, List.append_assoc]
      rw [e9] at hT9 ⊢
      exact ih (d - 1) (by omega) (n + 1) T9 (by omega) hT9
  refine v_iconst (v := nI 0) dX10_putRow_0 (by decide) ?_
  refine v_istore_n dX10_putRow_1 rfl (by decide) ?_
  have e0 : l ++ prt (eLe w) 0 (q * 24) = l := List.append_nil l
  have hV := lp (eRs w q) 0 T (by omega) (by rw [e0]; exact hT)
  rw [e0] at hV
  exact hV

/-- how a call is written -/
def mCl (x : Int32) : List Int32 := [if x = -1 then nI 46 else nI (48 + x.toNatClampNeg)]
theorem mCl_eq {x : Int32} (h : x = -1 ∨ ∃ n : Nat, n < 4 ∧ x = nI n) : mCl x = tNumP x := by
  rcases h with h | ⟨n, h1, h2⟩
  · subst h; decide
  · subst h2
    have : ∀ n, n < 4 → mCl (nI n) = tNumP (nI n) := by decide +kernel
    exact this n h1
set_option maxRecDepth 100000 in
set_option maxHeartbeats 600000 in
/-- model: putCall -/
theorem sX10_putCall {E : eN} (hE : eOk E) {f : aH} {t : Nat} {M : Nat} {y : mV} {T : Nat → Int32} {l : List Int32} {x : Int32} (hT : mTl T l) (hl : l.length ≤ 50000) (hx : x = -1 ∨ ∃ n : Nat, n < 4 ∧ x = nI n) : mT E mX10_putCall 0 0 [.ref M, .int x] (mdS f M (wS y T l.length)) t (fun o f' t' => o = .inl none ∧ t' = t ∧ wP f M y (l ++ tNumP x) f') := by
  refine mT_of (n := 0) (lo := [some (.ref M), some (.int x)]) (by decide) (by exact Nat.le_of_ble_eq_true rfl) rfl rfl ?_
  refine v_aload_n dX10_putCall_0 rfl (by rfl) ?_
  refine v_iload_n dX10_putCall_1 rfl (by rfl) ?_
  refine v_iconst (v := (-1)) dX10_putCall_2 (by decide) ?_
  refine v_icmp_ne (tgt := 11) dX10_putCall_3 (by decide) (fun c3 => ?_) (fun c3 => ?_)
  · obtain ⟨n, n1, n2⟩ := hx.resolve_left c3
    subst n2
    refine v_bipush (v := nI 48) dX10_putCall_11 (by decide) ?_
    refine v_iload_n dX10_putCall_13 rfl (by rfl) ?_
    refine v_iaddN dX10_putCall_14 ?_
    refine w_callV hE dX10_putCall_15 kX10_394 mdS_M (by rfl) (by rfl) (sX10_put hE hT (by omega) (by omega)) rfl (by decide) (by decide) (by exact Nat.le_of_ble_eq_true rfl) (by omega) (by omega) (fun v9 g9 u9 h9 => ?_) (fun _ _ _ h => by cases h.1)
    obtain ⟨hv9, hu9, T9, hg9, hT9⟩ := h9
    replace hu9 := hu9.symm
    subst hu9
    subst hg9
    cases hv9
    refine v_ret dX10_putCall_18 rfl ?_
    have e9 : [nI (48 + n)] = tNumP (nI n) := by rw [← mCl_eq (Or.inr ⟨n, n1, rfl⟩)]; unfold mCl; rw [if_neg c3, nI_clamp (by omega)]
    rw [e9] at hT9 ⊢
    exact ⟨rfl, rfl, T9, rfl, hT9⟩
  · refine v_bipush (v := nI 46) dX10_putCall_6 (by decide) ?_
    refine v_goto (tgt := 15) dX10_putCall_8 (by decide) ?_
    refine w_callV hE dX10_putCall_15 kX10_394 mdS_M (by rfl) (by rfl) (sX10_put hE hT (by omega) (by decide)) rfl (by decide) (by decide) (by exact Nat.le_of_ble_eq_true rfl) (by omega) (by omega) (fun v9 g9 u9 h9 => ?_) (fun _ _ _ h => by cases h.1)
    obtain ⟨hv9, hu9, T9, hg9, hT9⟩ := h9
    replace hu9 := hu9.symm
    subst hu9
    subst hg9
    cases hv9
    refine v_ret dX10_putCall_18 rfl ?_
    have e9 : [nI 46] = tNumP x := by rw [← mCl_eq hx]; unfold mCl; rw [if_pos c3]
    rw [e9] at hT9 ⊢
    exact ⟨rfl, rfl, T9, rfl, hT9⟩

theorem dgs_t {v d p q : Nat} (hp : p ≠ 0) (h : p ≤ v ∨ p = 1) (hq : p / 10 = q) : dgs v (d + 1) p = [nI (48 + v / p % 10)] ++ dgs v d q := by
  show (if p = 0 then [] else (if p ≤ v ∨ p = 1 then [nI (48 + v / p % 10)] else []) ++ dgs v d (p / 10)) = _
  rw [if_neg hp, if_pos h, hq]
theorem dgs_f {v d p q : Nat} (hp : p ≠ 0) (h : ¬ (p ≤ v ∨ p = 1)) (hq : p / 10 = q) : dgs v (d + 1) p = dgs v d q := by
  show (if p = 0 then [] else (if p ≤ v ∨ p = 1 then [nI (48 + v / p % 10)] else []) ++ dgs v d (p / 10)) = _
  rw [if_neg hp, if_neg h, hq]
  rfl
theorem p10_d (j : Nat) : 10 ^ (j + 1) / 10 = 10 ^ j := by rw [Nat.pow_succ]; exact Nat.mul_div_cancel _ (by decide)
theorem p10_1 (j : Nat) : 1 ≤ 10 ^ j := Nat.one_le_pow _ _ (by decide)
theorem dgs_top {v : Nat} : ∀ (i j : Nat), v < 10 ^ (j + 1) → dgs v (j + i + 1) (10 ^ (j + i)) = dgs v (j + 1) (10 ^ j) := by
  intro i
  induction i with
  | zero => intro j _; rfl
  | succ i ih =>
    intro j h
    have h1 : 10 ^ (j + 1) ≤ 10 ^ (j + i + 1) := Nat.pow_le_pow_right (by decide) (by omega)
    have h2 := p10_1 (j + i)
    rw [show j + (i + 1) + 1 = (j + i + 1) + 1 by omega, show j + (i + 1) = j + i + 1 by omega, dgs_f (q := 10 ^ (j + i)) (by have := p10_1 (j + i + 1); omega) (fun z => by
      rcases z with z | z
      · omega
      · rw [Nat.pow_succ] at z; omega) (p10_d _)]
    exact ih j h
theorem tNum_top {v j : Nat} (hj : j ≤ 5) (h : v < 10 ^ (j + 1)) : tNumber v = dgs v (j + 1) (10 ^ j) := by
  have := dgs_top (v := v) (5 - j) j h
  rw [show j + (5 - j) = 5 by omega] at this
  exact this
theorem dgs_len {v : Nat} : ∀ (d p : Nat), (dgs v d p).length ≤ d := by
  intro d
  induction d with
  | zero => intro p; exact Nat.le_refl _
  | succ d ih =>
    intro p
    unfold dgs
    split
    · exact Nat.zero_le _
    · rw [List.length_append]
      have := ih (p / 10)
      split
      · show 1 + _ ≤ _; omega
      · show 0 + _ ≤ _; omega
set_option maxRecDepth 100000 in
set_option maxHeartbeats 600000 in
/-- model: putNumber -/
theorem sX10_putNumber {E : eN} (hE : eOk E) {f : aH} {t : Nat} {M : Nat} {y : mV} {T : Nat → Int32} {l : List Int32} {v : Nat} (hT : mTl T l) (hl : l.length ≤ 50000) (hv : v < 1000000) : mT E mX10_putNumber 0 0 [.ref M, .int (nI v)] (mdS f M (wS y T l.length)) t (fun o f' t' => o = .inl none ∧ t' = t ∧ wP f M y (l ++ tNumber v) f') := by
  refine mT_of (n := 1) (lo := [some (.ref M), some (.int (nI v)), none]) (by decide) (by exact Nat.le_of_ble_eq_true rfl) rfl rfl ?_
  have lz : ∀ (tail : List Int32), tail = l ++ tNumber v → ∀ (A : Nat → Int32), mTl A tail → V E mX10_putNumber 0 0 (fun o f' t' => o = .inl none ∧ t' = t ∧ wP f M y (l ++ tNumber v) f') 18 [some (.ref M), some (.int (nI v)), some (.int (nI (10 ^ 0 / 10)))] [] (mdS f M (wS y A tail.length)) t 0 0 := by
    intro tail htl A hA
    subst htl
    refine v_iload_n dX10_putNumber_18 rfl (by rfl) ?_
    refine v_if_leN (tgt := 43) dX10_putNumber_19 (by decide) (by omega) (fun c19 => ?_) (fun c19 => ?_)
    · refine v_ret dX10_putNumber_43 rfl ?_
      exact ⟨rfl, rfl, A, rfl, hA⟩
    · exact absurd c19 (by decide)
  have l2 : ∀ tail : List Int32, tail = l ++ tNumber v → ∀ (d : Nat) (i : Nat) (a : List Int32) (A : Nat → Int32), i + 1 = d → i ≤ 5 → (10 ^ i ≤ v ∨ i = 0) → tail = a ++ dgs v (i + 1) (10 ^ i) → a.length + (i + 1) ≤ 50010 → mTl A a → V E mX10_putNumber 0 0 (fun o f' t' => o = .inl none ∧ t' = t ∧ wP f M y (l ++ tNumber v) f') 18 [some (.ref M), some (.int (nI v)), some (.int (nI (10 ^ i)))] [] (mdS f M (wS y A a.length)) t 0 0 := by
    intro tail htt d
    induction d using Nat.strongRecOn with
    | _ d ih =>
    intro i a A hd hi hlead htl hal hA
    have hp5 : 10 ^ i ≤ 10 ^ 5 := Nat.pow_le_pow_right (by decide) hi
    have hp1 := p10_1 i
    have hdv := Nat.div_le_self v (10 ^ i)
    have h5 : (10 : Nat) ^ 5 = 100000 := by decide
    have lz := lz tail htt
    have hlead1 : 10 ^ i ≤ v ∨ 10 ^ i = 1 := by
      rcases hlead with h | h
      · exact Or.inl h
      · exact Or.inr (by rw [h])
    refine v_iload_n dX10_putNumber_18 rfl (by rfl) ?_
    refine v_if_leN (tgt := 43) dX10_putNumber_19 (by decide) (by omega) (fun c19 => ?_) (fun c19 => ?_)
    · refine v_ret dX10_putNumber_43 rfl ?_
      exact absurd c19 (by have := p10_1 i; omega)
    · have hp1 := p10_1 i
      refine v_aload_n dX10_putNumber_22 rfl (by rfl) ?_
      refine v_bipush (v := nI 48) dX10_putNumber_23 (by decide) ?_
      refine v_iload_n dX10_putNumber_25 rfl (by rfl) ?_
      refine v_iload_n dX10_putNumber_26 rfl (by rfl) ?_
      refine v_idivN dX10_putNumber_27 (by omega) (by omega) (by omega) ?_
      refine v_bipush (v := nI 10) dX10_putNumber_28 (by decide) ?_
      refine v_iremN dX10_putNumber_30 (by omega) (by omega) (by omega) ?_
      refine v_iaddN dX10_putNumber_31 ?_
      refine w_callV hE dX10_putNumber_32 kX10_394 mdS_M (by rfl) (by rfl) (sX10_put hE hA (by omega) (by omega)) rfl (by decide) (by decide) (by exact Nat.le_of_ble_eq_true rfl) (by omega) (by omega) (fun v9 g9 u9 h9 => ?_) (fun _ _ _ h => by cases h.1)
      obtain ⟨hv9, hu9, T9, hg9, hT9⟩ := h9
      replace hu9 := hu9.symm
      subst hu9
      subst hg9
      cases hv9
      refine v_iload_n dX10_putNumber_35 rfl (by rfl) ?_
      refine v_bipush (v := nI 10) dX10_putNumber_36 (by decide) ?_
      refine v_idivN dX10_putNumber_38 (by omega) (by omega) (by omega) ?_
      refine v_istore_n dX10_putNumber_39 rfl (by decide) ?_
      refine v_goto (tgt := 18) dX10_putNumber_40 (by decide) ?_
      have hst : dgs v (i + 1) (10 ^ i) = [nI (48 + v / 10 ^ i % 10)] ++ dgs v i (10 ^ i / 10) := dgs_t (by omega) hlead1 rfl
      have e9 : tail = a ++ [nI (48 + v / 10 ^ i % 10)] ++ dgs v i (10 ^ i / 10) := by rw [htl, hst, List.append_assoc]
      match i, hst, e9, hT9, hi, hlead with
      | 0, hst, e9, hT9, hi, hlead =>
        have e8 : tail = a ++ [nI (48 + v / 10 ^ 0 % 10)] := e9.trans (List.append_nil _)
        rw [← e8] at hT9 ⊢
        exact lz T9 hT9
      | i + 1, hst, e9, hT9, hi, hlead =>
        rw [p10_d i] at e9 ⊢
        refine ih (d - 1) (by omega) i _ T9 (by omega) (by omega) ?_ e9 ?_ hT9
        · have := Nat.pow_le_pow_right (n := 10) (by decide) (show i ≤ i + 1 by omega)
          omega
        · rw [List.length_append]
          show a.length + 1 + _ ≤ _
          omega
  have l1 : ∀ (d : Nat) (j : Nat), j + d = 5 → j ≤ 5 → (10 ^ j ≤ v ∨ j = 0) → V E mX10_putNumber 0 0 (fun o f' t' => o = .inl none ∧ t' = t ∧ wP f M y (l ++ tNumber v) f') 2 [some (.ref M), some (.int (nI v)), some (.int (nI (10 ^ j)))] [] (mdS f M (wS y T l.length)) t 0 0 := by
    intro d
    induction d using Nat.strongRecOn with
    | _ d ih =>
    intro j hd hj hv1
    have hp5 : 10 ^ j ≤ 10 ^ 5 := Nat.pow_le_pow_right (by decide) hj
    have hp1 := p10_1 j
    have hdv := Nat.div_le_self v (10 ^ j)
    have h5 : (10 : Nat) ^ 5 = 100000 := by decide
    refine v_iload_n dX10_putNumber_2 rfl (by rfl) ?_
    refine v_iload_n dX10_putNumber_3 rfl (by rfl) ?_
    refine v_idivN dX10_putNumber_4 (by omega) (by omega) (by omega) ?_
    refine v_bipush (v := nI 10) dX10_putNumber_5 (by decide) ?_
    refine v_icmp_ltN (tgt := 18) dX10_putNumber_7 (by decide) (by omega) (by omega) (fun c7 => ?_) (fun c7 => ?_)
    · have hlt : v < 10 ^ (j + 1) := by
        rw [Nat.pow_succ]
        exact (Nat.div_lt_iff_lt_mul (p10_1 j)).mp (by omega) |> fun z => by rwa [Nat.mul_comm] at z
      exact l2 (l ++ tNumber v) rfl (j + 1) j l T (by omega) hj hv1 (by rw [tNum_top hj hlt]) (by omega) hT
    · refine v_iload_n dX10_putNumber_10 rfl (by rfl) ?_
      refine v_bipush (v := nI 10) dX10_putNumber_11 (by decide) ?_
      refine v_imulN dX10_putNumber_13 ?_
      refine v_istore_n dX10_putNumber_14 rfl (by decide) ?_
      refine v_goto (tgt := 2) dX10_putNumber_15 (by decide) ?_
      have hge : 10 ^ (j + 1) ≤ v := by
        rw [Nat.pow_succ]
        have := Nat.div_add_mod v (10 ^ j)
        have h9 : 10 ^ j * 10 ≤ 10 ^ j * (v / 10 ^ j) := Nat.mul_le_mul_left _ (by omega)
        omega
      rw [show 10 ^ j * 10 = 10 ^ (j + 1) from (Nat.pow_succ _ _).symm]
      have hj5 : j + 1 ≤ 5 := by
        apply Nat.le_of_not_lt
        intro h6
        have h7 : 10 ^ 6 ≤ 10 ^ (j + 1) := Nat.pow_le_pow_right (by decide) (by omega)
        have h8 : (10 : Nat) ^ 6 = 1000000 := by decide
        omega
      exact ih (d - 1) (by omega) (j + 1) (by omega) hj5 (Or.inl hge)
  refine v_iconst (v := nI 1) dX10_putNumber_0 (by decide) ?_
  refine v_istore_n dX10_putNumber_1 rfl (by decide) ?_
  exact l1 5 0 (by omega) (by omega) (Or.inr rfl)
