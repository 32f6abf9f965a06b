/-- row q of a: row p of b, and behind it what the first row of w has beyond that of b -/
def mLg (y : mV) (a q b p w n k0 kw : Nat) : mV := (va_up (va_up y.1 25 (mCp (mCp (y.1 25) (26 * (4 * b + p)) (26 * (4 * a + q)) n) (104 * w + k0) (26 * (4 * a + q) + n) (min (kw - k0) (26 - n)))) 26 (upd (y.1 26) (4 * a + q) (nI (n + min (kw - k0) (26 - n)))), y.2)
set_option maxRecDepth 100000 in
set_option maxHeartbeats 1500000 in
/-- model: longer -/
theorem sX10_longer {E : eN} (hE : eOk E) {f : aH} {t : Nat} {M : Nat} {y : mV} {a q b p w n k0 kw : Nat} (hO : aNw y.1) (hn : y.1 26 (4 * b + p) = nI n) (hn6 : n ≤ 26) (hk0 : y.1 26 (4 * b) = nI k0) (hk6 : k0 ≤ 26) (hkw : y.1 26 (4 * w) = nI kw) (hkw6 : kw ≤ 26) (ha : a < 240) (hq : q < 4) (hb : b < 240) (hp : p < 4) (hw : w < 240) (hab : a ≠ b) (haw : a ≠ w) : mT E mX10_longer 0 0 [.ref M, .int (nI a), .int (nI q), .int (nI b), .int (nI p), .int (nI w)] (mdS f M y) t (fun o f' t' => o = .inl none ∧ t' = t ∧ f' = mdS f M (mLg y a q b p w n k0 kw)) := by
  refine mT_of (n := 3) (lo := [some (.ref M), some (.int (nI a)), some (.int (nI q)), some (.int (nI b)), some (.int (nI p)), some (.int (nI w)), none, none, none]) (by decide) (by exact Nat.le_of_ble_eq_true rfl) rfl rfl ?_
  have lp2 : ∀ (d j : Nat), j + d = min (kw - k0) (26 - n) → V E mX10_longer 0 0 (fun o f' t' => o = .inl none ∧ t' = t ∧ f' = mdS f M (mLg y a q b p w n k0 kw)) 76 [some (.ref M), some (.int (nI a)), some (.int (nI q)), some (.int (nI b)), some (.int (nI p)), some (.int (nI w)), some (.int (nI (26 * (4 * a + q)))), some (.int (nI (n + j))), some (.int (nI (k0 + j)))] [] (mdS f M (va_up y.1 25 (mCp (mCp (y.1 25) (26 * (4 * b + p)) (26 * (4 * a + q)) n) (104 * w + k0) (26 * (4 * a + q) + n) j), y.2)) t 0 0 := by
    intro d
    induction d using Nat.strongRecOn with
    | _ d ih =>
    intro j hj
    refine v_iload dX10_longer_76 (by rfl) ?_
    refine v_aload_n dX10_longer_78 rfl (by rfl) ?_
    refine v_getf hE dX10_longer_79 fX10_90 mdS_M (by rfl) ?_
    refine v_iconst (v := nI 4) dX10_longer_82 (by decide) ?_
    refine v_iload dX10_longer_83 (by rfl) ?_
    refine v_imulN dX10_longer_85 ?_
    refine m_iald hE (k := 26) dX10_longer_86 (by decide) (by decide) rfl (show _ < 960 by omega) (by omega) ?_
    refine v_eqi (y := nI kw) hkw ?_
    refine v_icmp_geN (tgt := 129) dX10_longer_87 (by decide) (by omega) (by omega) (fun c87 => ?_) (fun c87 => ?_)
    · refine v_aload_n dX10_longer_129 rfl (by rfl) ?_
      refine v_getf hE dX10_longer_130 fX10_90 mdS_M (by rfl) ?_
      refine v_iconst (v := nI 4) dX10_longer_133 (by decide) ?_
      refine v_iload_n dX10_longer_134 rfl (by rfl) ?_
      refine v_imulN dX10_longer_135 ?_
      refine v_iload_n dX10_longer_136 rfl (by rfl) ?_
      refine v_iaddN dX10_longer_137 ?_
      refine v_iload dX10_longer_138 (by rfl) ?_
      refine m_iast hE (k := 26) dX10_longer_140 (by decide) (by decide) rfl (show _ < 960 by omega) (by omega) ?_
      refine v_ret dX10_longer_141 rfl ?_
      have e9 : j = min (kw - k0) (26 - n) := by omega
      subst e9
      exact ⟨rfl, rfl, rfl⟩
    · refine v_iload dX10_longer_90 (by rfl) ?_
      refine v_bipush (v := nI 26) dX10_longer_92 (by decide) ?_
      refine v_icmp_geN (tgt := 129) dX10_longer_94 (by decide) (by omega) (by omega) (fun c94 => ?_) (fun c94 => ?_)
      · refine v_aload_n dX10_longer_129 rfl (by rfl) ?_
        refine v_getf hE dX10_longer_130 fX10_90 mdS_M (by rfl) ?_
        refine v_iconst (v := nI 4) dX10_longer_133 (by decide) ?_
        refine v_iload_n dX10_longer_134 rfl (by rfl) ?_
        refine v_imulN dX10_longer_135 ?_
        refine v_iload_n dX10_longer_136 rfl (by rfl) ?_
        refine v_iaddN dX10_longer_137 ?_
        refine v_iload dX10_longer_138 (by rfl) ?_
        refine m_iast hE (k := 26) dX10_longer_140 (by decide) (by decide) rfl (show _ < 960 by omega) (by omega) ?_
        refine v_ret dX10_longer_141 rfl ?_
        have e9 : j = min (kw - k0) (26 - n) := by omega
        subst e9
        exact ⟨rfl, rfl, rfl⟩
      · have hnw1 : vp_nar .byte ((mCp (y.1 25) (26 * (4 * b + p)) (26 * (4 * a + q)) n) (104 * w + k0 + j)) = (mCp (y.1 25) (26 * (4 * b + p)) (26 * (4 * a + q)) n) (104 * w + k0 + j) := mCp_nar (fun i => hO.1 25 i rfl) _
        refine v_aload_n dX10_longer_97 rfl (by rfl) ?_
        refine v_getf hE dX10_longer_98 fX10_87 mdS_M (by rfl) ?_
        refine v_iload dX10_longer_101 (by rfl) ?_
        refine v_iload dX10_longer_103 (by rfl) ?_
        refine v_iaddN dX10_longer_105 ?_
        refine v_aload_n dX10_longer_106 rfl (by rfl) ?_
        refine v_getf hE dX10_longer_107 fX10_87 mdS_M (by rfl) ?_
        refine v_bipush (v := nI 104) dX10_longer_110 (by decide) ?_
        refine v_iload dX10_longer_112 (by rfl) ?_
        refine v_imulN dX10_longer_114 ?_
        refine v_iload dX10_longer_115 (by rfl) ?_
        refine v_iaddN dX10_longer_117 ?_
        refine m_bald hE (k := 25) dX10_longer_118 (by decide) (by decide) rfl (show _ < 24960 by omega) (by omega) ?_
        refine v_eqi (y := (mCp (y.1 25) (26 * (4 * b + p)) (26 * (4 * a + q)) n) (104 * w + k0 + j)) (by show (mCp (mCp (y.1 25) (26 * (4 * b + p)) (26 * (4 * a + q)) n) (104 * w + k0) (26 * (4 * a + q) + n) j) (104 * w + (k0 + j)) = _; rw [show 104 * w + (k0 + j) = 104 * w + k0 + j by omega]; exact mCp_o (by omega)) ?_
        refine m_bast hE (k := 25) dX10_longer_119 (by decide) (by decide) rfl (show _ < 24960 by omega) (by omega) ?_
        rw [hnw1]
        refine v_iincN (y := 1) dX10_longer_120 (by rfl) (by decide) (by decide) ?_
        refine v_iincN (y := 1) dX10_longer_123 (by rfl) (by decide) (by decide) ?_
        refine v_goto (tgt := 76) dX10_longer_126 (by decide) ?_
        refine v_hp (show _ = mdS f M (va_up y.1 25 (mCp (mCp (y.1 25) (26 * (4 * b + p)) (26 * (4 * a + q)) n) (104 * w + k0) (26 * (4 * a + q) + n) (j + 1)), y.2) from by
          dsimp only
          rw [va_up_self, va_up_up, show 26 * (4 * a + q) + (n + j) = 26 * (4 * a + q) + n + j by omega, mCp_s]) ?_
        exact ih (d - 1) (by omega) (j + 1) (by omega)
  have lp1 : ∀ (d k : Nat), k + d = n → V E mX10_longer 0 0 (fun o f' t' => o = .inl none ∧ t' = t ∧ f' = mdS f M (mLg y a q b p w n k0 kw)) 26 [some (.ref M), some (.int (nI a)), some (.int (nI q)), some (.int (nI b)), some (.int (nI p)), some (.int (nI w)), some (.int (nI (26 * (4 * a + q)))), some (.int (nI n)), some (.int (nI k))] [] (mdS f M (va_up y.1 25 (mCp (y.1 25) (26 * (4 * b + p)) (26 * (4 * a + q)) k), y.2)) t 0 0 := by
    intro d
    induction d using Nat.strongRecOn with
    | _ d ih =>
    intro k hk
    refine v_iload dX10_longer_26 (by rfl) ?_
    refine v_iload dX10_longer_28 (by rfl) ?_
    refine v_icmp_geN (tgt := 66) dX10_longer_30 (by decide) (by omega) (by omega) (fun c30 => ?_) (fun c30 => ?_)
    · refine v_aload_n dX10_longer_66 rfl (by rfl) ?_
      refine v_getf hE dX10_longer_67 fX10_90 mdS_M (by rfl) ?_
      refine v_iconst (v := nI 4) dX10_longer_70 (by decide) ?_
      refine v_iload_n dX10_longer_71 rfl (by rfl) ?_
      refine v_imulN dX10_longer_72 ?_
      refine m_iald hE (k := 26) dX10_longer_73 (by decide) (by decide) rfl (show _ < 960 by omega) (by omega) ?_
      refine v_eqi (y := nI k0) hk0 ?_
      refine v_istore dX10_longer_74 (by decide) ?_
      have e9 : k = n := by omega
      subst e9
      refine v_hp (show _ = mdS f M (va_up y.1 25 (mCp (mCp (y.1 25) (26 * (4 * b + p)) (26 * (4 * a + q)) k) (104 * w + k0) (26 * (4 * a + q) + k) 0), y.2) from by rw [mCp_0]) ?_
      exact lp2 _ 0 (Nat.zero_add _)
    · refine v_aload_n dX10_longer_33 rfl (by rfl) ?_
      refine v_getf hE dX10_longer_34 fX10_87 mdS_M (by rfl) ?_
      refine v_iload dX10_longer_37 (by rfl) ?_
      refine v_iload dX10_longer_39 (by rfl) ?_
      refine v_iaddN dX10_longer_41 ?_
      refine v_aload_n dX10_longer_42 rfl (by rfl) ?_
      refine v_getf hE dX10_longer_43 fX10_87 mdS_M (by rfl) ?_
      refine v_bipush (v := nI 26) dX10_longer_46 (by decide) ?_
      refine v_iconst (v := nI 4) dX10_longer_48 (by decide) ?_
      refine v_iload_n dX10_longer_49 rfl (by rfl) ?_
      refine v_imulN dX10_longer_50 ?_
      refine v_iload dX10_longer_51 (by rfl) ?_
      refine v_iaddN dX10_longer_53 ?_
      refine v_imulN dX10_longer_54 ?_
      refine v_iload dX10_longer_55 (by rfl) ?_
      refine v_iaddN dX10_longer_57 ?_
      refine m_bald hE (k := 25) dX10_longer_58 (by decide) (by decide) rfl (show _ < 24960 by omega) (by omega) ?_
      refine v_eqi (y := y.1 25 (26 * (4 * b + p) + k)) (mCp_o (by omega)) ?_
      refine m_bast hE (k := 25) dX10_longer_59 (by decide) (by decide) rfl (show _ < 24960 by omega) (by omega) ?_
      rw [hO.1 25 _ rfl]
      refine v_iincN (y := 1) dX10_longer_60 (by rfl) (by decide) (by decide) ?_
      refine v_goto (tgt := 26) dX10_longer_63 (by decide) ?_
      refine v_hp (show _ = mdS f M (va_up y.1 25 (mCp (y.1 25) (26 * (4 * b + p)) (26 * (4 * a + q)) (k + 1)), y.2) from by
        dsimp only
        rw [va_up_self, va_up_up, mCp_s]) ?_
      exact ih (d - 1) (by omega) (k + 1) (by omega)
  refine v_bipush (v := nI 26) dX10_longer_0 (by decide) ?_
  refine v_iconst (v := nI 4) dX10_longer_2 (by decide) ?_
  refine v_iload_n dX10_longer_3 rfl (by rfl) ?_
  refine v_imulN dX10_longer_4 ?_
  refine v_iload_n dX10_longer_5 rfl (by rfl) ?_
  refine v_iaddN dX10_longer_6 ?_
  refine v_imulN dX10_longer_7 ?_
  refine v_istore dX10_longer_8 (by decide) ?_
  refine v_aload_n dX10_longer_10 rfl (by rfl) ?_
  refine v_getf hE dX10_longer_11 fX10_90 mdS_M (by rfl) ?_
  refine v_iconst (v := nI 4) dX10_longer_14 (by decide) ?_
  refine v_iload_n dX10_longer_15 rfl (by rfl) ?_
  refine v_imulN dX10_longer_16 ?_
  refine v_iload dX10_longer_17 (by rfl) ?_
  refine v_iaddN dX10_longer_19 ?_
  refine m_iald hE (k := 26) dX10_longer_20 (by decide) (by decide) rfl (show _ < 960 by omega) (by omega) ?_
  refine v_eqi (y := nI n) hn ?_
  refine v_istore dX10_longer_21 (by decide) ?_
  refine v_iconst (v := nI 0) dX10_longer_23 (by decide) ?_
  refine v_istore dX10_longer_24 (by decide) ?_
  refine v_hp (show _ = mdS f M (va_up y.1 25 (mCp (y.1 25) (26 * (4 * b + p)) (26 * (4 * a + q)) 0), y.2) from by rw [mCp_0, va_up_id rfl]) ?_
  exact lp1 n 0 (by omega)

def mCA (y : mV) (r s k : Nat) : Int32 := if y.1 30 (3 * r + s) ≤ nI k then -1 else y.1 29 (6 * r + 2 * s + k)
set_option maxRecDepth 100000 in
set_option maxHeartbeats 1500000 in
/-- model: callAt -/
theorem sX10_callAt0 {E : eN} (hE : eOk E) {f : aH} {t : Nat} {M : Nat} {y : mV} {r s c : Nat} (hr : r < 240) (hs : s < 3) (hc : c < 2) : mT E mX10_callAt 0 0 [.ref M, .int (nI r), .int (nI s), .int (nI c)] (mdS f M y) t (fun o f' t' => o = .inl (some (.int (mCA y r s c))) ∧ t' = t ∧ f' = mdS f M y) := by
  refine mT_of (n := 0) (lo := [some (.ref M), some (.int (nI r)), some (.int (nI s)), some (.int (nI c))]) (by decide) (by exact Nat.le_of_ble_eq_true rfl) rfl rfl ?_
  refine v_iload_n dX10_callAt_0 rfl (by rfl) ?_
  refine v_aload_n dX10_callAt_1 rfl (by rfl) ?_
  refine v_getf hE dX10_callAt_2 fX10_103 mdS_M (by rfl) ?_
  refine v_iconst (v := nI 3) dX10_callAt_5 (by decide) ?_
  refine v_iload_n dX10_callAt_6 rfl (by rfl) ?_
  refine v_imulN dX10_callAt_7 ?_
  refine v_iload_n dX10_callAt_8 rfl (by rfl) ?_
  refine v_iaddN dX10_callAt_9 ?_
  refine m_iald hE (k := 30) dX10_callAt_10 (by decide) (by decide) rfl (show _ < 720 by omega) (by omega) ?_
  refine v_icmp_ge (tgt := 32) dX10_callAt_11 (by decide) (fun c11 => ?_) (fun c11 => ?_)
  · refine v_iconst (v := (-1)) dX10_callAt_32 (by decide) ?_
    refine v_iret dX10_callAt_33 rfl (by first | rfl | exact nar_bI) ?_
    refine ⟨congrArg (fun x => (Sum.inl (some (Value.int x)) : aO)) ?_, rfl, rfl⟩
    unfold mCA
    first | (rw [if_neg c11]) | (rw [if_pos c11])
  · refine v_aload_n dX10_callAt_14 rfl (by rfl) ?_
    refine v_getf hE dX10_callAt_15 fX10_100 mdS_M (by rfl) ?_
    refine v_bipush (v := nI 6) dX10_callAt_18 (by decide) ?_
    refine v_iload_n dX10_callAt_20 rfl (by rfl) ?_
    refine v_imulN dX10_callAt_21 ?_
    refine v_iconst (v := nI 2) dX10_callAt_22 (by decide) ?_
    refine v_iload_n dX10_callAt_23 rfl (by rfl) ?_
    refine v_imulN dX10_callAt_24 ?_
    refine v_iaddN dX10_callAt_25 ?_
    refine v_iload_n dX10_callAt_26 rfl (by rfl) ?_
    refine v_iaddN dX10_callAt_27 ?_
    refine m_iald hE (k := 29) dX10_callAt_28 (by decide) (by decide) rfl (show _ < 1440 by omega) (by omega) ?_
    refine v_goto (tgt := 33) dX10_callAt_29 (by decide) ?_
    refine v_iret dX10_callAt_33 rfl (by first | rfl | exact nar_bI) ?_
    refine ⟨congrArg (fun x => (Sum.inl (some (Value.int x)) : aO)) ?_, rfl, rfl⟩
    unfold mCA
    first | (rw [if_neg c11]) | (rw [if_pos c11])

def jMx (x y : Int32) : Int32 := if x ≤ y then y else x
def jPb (n m : Int32) (p o : Bool) : Bool := if n = nI 1 then o else if m = nI 1 then p else p && o
def jcV (N : Nat → Int32) (x y : Int32) : Int32 := if x ≤ 0 then (if y ≤ 0 then (if x = 0 ∨ y = 0 then nI 0 else -1) else N y.toNatClampNeg) else x
theorem nar_bb {b : Bool} : vp_nar .boolean (bI b) = bI b := by cases b <;> decide
theorem and1 (x : Int32) : ∃ n, n ≤ 1 ∧ x &&& 1 = nI n := by
  refine ⟨x.toBitVec.toNat &&& 1, Nat.and_le_right, ?_⟩
  apply Int32.toBitVec_inj.mp
  apply BitVec.eq_of_toNat_eq
  have h : (x.toBitVec.toNat &&& 1) ≤ 1 := Nat.and_le_right
  show ((x &&& 1).toBitVec).toNat = (BitVec.ofNat 32 (x.toBitVec.toNat &&& 1)).toNat
  rw [Int32.toBitVec_and, BitVec.toNat_and, BitVec.toNat_ofNat, Nat.mod_eq_of_lt (by omega)]
  rfl
theorem nar_b {x : Int32} (h : vp_nar .boolean x = x) : ∃ b, x = bI b := by
  have h' : x &&& 1 = x := h
  obtain ⟨n, n1, n2⟩ := and1 x
  rw [h'] at n2
  rcases (show n = 0 ∨ n = 1 by omega) with e | e <;> subst e
  · exact ⟨false, n2⟩
  · exact ⟨true, n2⟩
theorem pos3 {x : Int32} (h0 : ¬ x ≤ 0) (h3 : x ≤ nI 3) : ∃ n, n < 4 ∧ 0 < n ∧ x = nI n := by
  have h1 : nI 1 ≤ x := by
    have : (0 : Int32) < x := Int32.not_le.mp h0
    rw [Int32.lt_iff_toInt_lt] at this
    rw [Int32.le_iff_toInt_le]
    exact this
  obtain ⟨n, a, b, c⟩ := mIn_nat (x := x) (a := 1) (b := 3) (by unfold mIn; rw [decide_eq_true h1, decide_eq_true h3]; rfl) (by decide) (by decide)
  exact ⟨n, by omega, by omega, c⟩
def jCl (y : mV) (j s a b : Nat) : Nat → Nat → Int32
  | 0 => y.1 29
  | k + 1 => upd (jCl y j s a b k) (6 * j + 2 * s + k) (jcV (y.1 35) (mCA y a s k) (mCA y b s k))
theorem jCl_o {y : mV} {j s a b i : Nat} : ∀ {k : Nat}, (i < 6 * j + 2 * s ∨ 6 * j + 2 * s + k ≤ i) → jCl y j s a b k i = y.1 29 i := by
  intro k
  induction k with
  | zero => intro _; rfl
  | succ k ih =>
    intro h
    show upd (jCl y j s a b k) (6 * j + 2 * s + k) _ i = _
    rw [updN (by omega)]
    exact ih (by omega)
def mJC (y : mV) (j s a b : Nat) (pa pb : Bool) : mV := (va_up (va_up (va_up y.1 30 (upd (y.1 30) (3 * j + s) (jMx (y.1 30 (3 * a + s)) (y.1 30 (3 * b + s))))) 31 (upd (y.1 31) (3 * j + s) (bI (jPb (y.1 30 (3 * a + s)) (y.1 30 (3 * b + s)) pa pb)))) 29 (jCl y j s a b 2), y.2)
theorem mCA_3 {y : mV} {r s k : Nat} (h : aNw y.1) : mCA y r s k ≤ nI 3 := by
  unfold mCA
  split
  · decide
  · exact h.2.2 29 _ (Or.inl rfl)
theorem ite_c {x y z a b : Int32} (h1 : x = y) (h2 : a = b) : (if x ≤ z then -1 else a) = if y ≤ z then -1 else b := by rw [h1, h2]
set_option maxRecDepth 100000 in
set_option maxHeartbeats 1500000 in
/-- model: joinCalls -/
theorem sX10_joinCalls {E : eN} (hE : eOk E) {f : aH} {t : Nat} {M : Nat} {y : mV} {j s a b : Nat} (hO : aNw y.1) (hj : j < 240) (hs : s < 3) (ha : a < 240) (hb : b < 240) (hja : j ≠ a) (hjb : j ≠ b) : mT E mX10_joinCalls 0 0 [.ref M, .int (nI j), .int (nI s), .int (nI a), .int (nI b)] (mdS f M y) t (fun o f' t' => o = .inl none ∧ t' = t ∧ ∃ pa pb, y.1 31 (3 * a + s) = bI pa ∧ y.1 31 (3 * b + s) = bI pb ∧ f' = mdS f M (mJC y j s a b pa pb)) := by
  refine mT_of (n := 7) (lo := [some (.ref M), some (.int (nI j)), some (.int (nI s)), some (.int (nI a)), some (.int (nI b)), none, none, none, none, none, none, none]) (by decide) (by exact Nat.le_of_ble_eq_true rfl) rfl rfl ?_
  obtain ⟨pa, ha2⟩ := nar_b (hO.2.1 31 (3 * a + s) rfl)
  obtain ⟨pb, hb2⟩ := nar_b (hO.2.1 31 (3 * b + s) rfl)
  have lp : ∀ (d k : Nat) (z10 z11 : Option Value), k + d = 2 → V E mX10_joinCalls 0 0 (fun o f' t' => o = .inl none ∧ t' = t ∧ ∃ pa pb, y.1 31 (3 * a + s) = bI pa ∧ y.1 31 (3 * b + s) = bI pb ∧ f' = mdS f M (mJC y j s a b pa pb)) 124 [some (.ref M), some (.int (nI j)), some (.int (nI s)), some (.int (nI a)), some (.int (nI b)), some (.int (y.1 30 (3 * a + s))), some (.int (y.1 30 (3 * b + s))), some (.int (bI pa)), some (.int (bI pb)), some (.int (nI k)), z10, z11] [] (mdS f M (va_up (va_up (va_up y.1 30 (upd (y.1 30) (3 * j + s) (jMx (y.1 30 (3 * a + s)) (y.1 30 (3 * b + s))))) 31 (upd (y.1 31) (3 * j + s) (bI (jPb (y.1 30 (3 * a + s)) (y.1 30 (3 * b + s)) pa pb)))) 29 (jCl y j s a b k), y.2)) t 0 0 := by
    intro d
    induction d using Nat.strongRecOn with
    | _ d ih =>
    intro k z10 z11 hk
    have st206 : k < 2 → V E mX10_joinCalls 0 0 (fun o f' t' => o = .inl none ∧ t' = t ∧ ∃ pa pb, y.1 31 (3 * a + s) = bI pa ∧ y.1 31 (3 * b + s) = bI pb ∧ f' = mdS f M (mJC y j s a b pa pb)) 206 [some (.ref M), some (.int (nI j)), some (.int (nI s)), some (.int (nI a)), some (.int (nI b)), some (.int (y.1 30 (3 * a + s))), some (.int (y.1 30 (3 * b + s))), some (.int (bI pa)), some (.int (bI pb)), some (.int (nI k)), some (.int (mCA y a s k)), some (.int (mCA y b s k))] [.int (jcV (y.1 35) (mCA y a s k) (mCA y b s k)), .int (nI (6 * j + 2 * s + k)), .ref (M + 29)] (mdS f M (va_up (va_up (va_up y.1 30 (upd (y.1 30) (3 * j + s) (jMx (y.1 30 (3 * a + s)) (y.1 30 (3 * b + s))))) 31 (upd (y.1 31) (3 * j + s) (bI (jPb (y.1 30 (3 * a + s)) (y.1 30 (3 * b + s)) pa pb)))) 29 (jCl y j s a b k), y.2)) t 0 0 := by
      intro hk2
      refine m_iast hE (k := 29) dX10_joinCalls_206 (by decide) (by decide) rfl (show _ < 1440 by omega) (by omega) ?_
      refine v_iincN (y := 1) dX10_joinCalls_207 (by rfl) (by decide) (by decide) ?_
      refine v_goto (tgt := 124) dX10_joinCalls_210 (by decide) ?_
      refine v_hp (show _ = mdS f M (va_up (va_up (va_up y.1 30 (upd (y.1 30) (3 * j + s) (jMx (y.1 30 (3 * a + s)) (y.1 30 (3 * b + s))))) 31 (upd (y.1 31) (3 * j + s) (bI (jPb (y.1 30 (3 * a + s)) (y.1 30 (3 * b + s)) pa pb)))) 29 (jCl y j s a b (k + 1)), y.2) from by
        dsimp only
        rw [va_up_self, va_up_up]
        rfl) ?_
      exact ih (d - 1) (by omega) (k + 1) _ _ (by omega)
    refine v_iload dX10_joinCalls_124 (by rfl) ?_
    refine v_iconst (v := nI 2) dX10_joinCalls_126 (by decide) ?_
    refine v_icmp_geN (tgt := 213) dX10_joinCalls_127 (by decide) (by omega) (by omega) (fun c127 => ?_) (fun c127 => ?_)
    · refine v_ret dX10_joinCalls_213 rfl ?_
      have e9 : k = 2 := by omega
      subst e9
      exact ⟨rfl, rfl, pa, pb, ha2, hb2, rfl⟩
    · refine v_aload_n dX10_joinCalls_130 rfl (by rfl) ?_
      refine v_iload_n dX10_joinCalls_131 rfl (by rfl) ?_
      refine v_iload_n dX10_joinCalls_132 rfl (by rfl) ?_
      refine v_iload dX10_joinCalls_133 (by rfl) ?_
      refine w_callV hE dX10_joinCalls_135 kX10_338 mdS_M (by rfl) (by rfl) (sX10_callAt0 hE (by omega) (by omega) (by omega)) rfl (by decide) (by decide) (by exact Nat.le_of_ble_eq_true rfl) (by omega) (by omega) (fun v9 g9 u9 h9 => ?_) (fun _ _ _ h => by cases h.1)
      obtain ⟨hv9, hu9, hg9⟩ := h9
      replace hu9 := hu9.symm
      subst hu9
      subst hg9
      cases hv9
      refine v_eqi (y := (mCA y a s k)) (by unfold mCA; exact ite_c (updN (by omega)) (jCl_o (by omega))) ?_
      refine v_istore dX10_joinCalls_138 (by decide) ?_
      refine v_aload_n dX10_joinCalls_140 rfl (by rfl) ?_
      refine v_iload dX10_joinCalls_141 (by rfl) ?_
      refine v_iload_n dX10_joinCalls_143 rfl (by rfl) ?_
      refine v_iload dX10_joinCalls_144 (by rfl) ?_
      refine w_callV hE dX10_joinCalls_146 kX10_338 mdS_M (by rfl) (by rfl) (sX10_callAt0 hE (by omega) (by omega) (by omega)) rfl (by decide) (by decide) (by exact Nat.le_of_ble_eq_true rfl) (by omega) (by omega) (fun v9 g9 u9 h9 => ?_) (fun _ _ _ h => by cases h.1)
      obtain ⟨hv9, hu9, hg9⟩ := h9
      replace hu9 := hu9.symm
      subst hu9
      subst hg9
      cases hv9
      refine v_eqi (y := (mCA y b s k)) (by unfold mCA; exact ite_c (updN (by omega)) (jCl_o (by omega))) ?_
      refine v_istore dX10_joinCalls_149 (by decide) ?_
      refine v_aload_n dX10_joinCalls_151 rfl (by rfl) ?_
      refine v_getf hE dX10_joinCalls_152 fX10_100 mdS_M (by rfl) ?_
      refine v_bipush (v := nI 6) dX10_joinCalls_155 (by decide) ?_
      refine v_iload_n dX10_joinCalls_157 rfl (by rfl) ?_
      refine v_imulN dX10_joinCalls_158 ?_
      refine v_iconst (v := nI 2) dX10_joinCalls_159 (by decide) ?_
      refine v_iload_n dX10_joinCalls_160 rfl (by rfl) ?_
      refine v_imulN dX10_joinCalls_161 ?_
      refine v_iaddN dX10_joinCalls_162 ?_
      refine v_iload dX10_joinCalls_163 (by rfl) ?_
      refine v_iaddN dX10_joinCalls_165 ?_
      refine v_iload dX10_joinCalls_166 (by rfl) ?_
      refine v_if_le (tgt := 176) dX10_joinCalls_168 (by decide) (fun c168 => ?_) (fun c168 => ?_)
      · refine v_iload dX10_joinCalls_176 (by rfl) ?_
        refine v_if_le (tgt := 191) dX10_joinCalls_178 (by decide) (fun c178 => ?_) (fun c178 => ?_)
        · refine v_iload dX10_joinCalls_191 (by rfl) ?_
          refine v_if_eq (tgt := 201) dX10_joinCalls_193 (by decide) (fun c193 => ?_) (fun c193 => ?_)
          · refine v_iconst (v := nI 0) dX10_joinCalls_201 (by decide) ?_
            refine v_eqi (y := (jcV (y.1 35) (mCA y a s k) (mCA y b s k))) (by unfold jcV; rw [if_pos c168, if_pos c178]; first | (rw [if_pos (Or.inl c193)]) | (rw [if_pos (Or.inr c198)])) ?_
            refine v_goto (tgt := 206) dX10_joinCalls_202 (by decide) ?_
            exact st206 (by omega)
          · refine v_iload dX10_joinCalls_196 (by rfl) ?_
            refine v_if_ne (tgt := 205) dX10_joinCalls_198 (by decide) (fun c198 => ?_) (fun c198 => ?_)
            · refine v_iconst (v := (-1)) dX10_joinCalls_205 (by decide) ?_
              refine v_eqi (y := (jcV (y.1 35) (mCA y a s k) (mCA y b s k))) (by unfold jcV; rw [if_pos c168, if_pos c178, if_neg (fun q => q.elim c193 c198)]) ?_
              exact st206 (by omega)
            · refine v_iconst (v := nI 0) dX10_joinCalls_201 (by decide) ?_
              refine v_eqi (y := (jcV (y.1 35) (mCA y a s k) (mCA y b s k))) (by unfold jcV; rw [if_pos c168, if_pos c178]; first | (rw [if_pos (Or.inl c193)]) | (rw [if_pos (Or.inr c198)])) ?_
              refine v_goto (tgt := 206) dX10_joinCalls_202 (by decide) ?_
              exact st206 (by omega)
        · refine v_aload_n dX10_joinCalls_181 rfl (by rfl) ?_
          refine v_getf hE dX10_joinCalls_182 fX10_118 mdS_M (by rfl) ?_
          refine v_iload dX10_joinCalls_185 (by rfl) ?_
          obtain ⟨n9, n1, n2, n3⟩ := pos3 c178 (mCA_3 hO)
          refine v_eqi (y := nI n9) n3 ?_
          refine m_iald hE (k := 35) dX10_joinCalls_187 (by decide) (by decide) rfl (show _ < 4 by omega) (by omega) ?_
          refine v_eqi (y := (jcV (y.1 35) (mCA y a s k) (mCA y b s k))) (by unfold jcV; rw [if_pos c168, if_neg c178, n3, nI_clamp (n := n9) (by omega)]; rfl) ?_
          refine v_goto (tgt := 206) dX10_joinCalls_188 (by decide) ?_
          exact st206 (by omega)
      · refine v_iload dX10_joinCalls_171 (by rfl) ?_
        refine v_eqi (y := (jcV (y.1 35) (mCA y a s k) (mCA y b s k))) (by unfold jcV; rw [if_neg c168]) ?_
        refine v_goto (tgt := 206) dX10_joinCalls_173 (by decide) ?_
        exact st206 (by omega)
  have st3 : V E mX10_joinCalls 0 0 (fun o f' t' => o = .inl none ∧ t' = t ∧ ∃ pa pb, y.1 31 (3 * a + s) = bI pa ∧ y.1 31 (3 * b + s) = bI pb ∧ f' = mdS f M (mJC y j s a b pa pb)) 124 [some (.ref M), some (.int (nI j)), some (.int (nI s)), some (.int (nI a)), some (.int (nI b)), some (.int (y.1 30 (3 * a + s))), some (.int (y.1 30 (3 * b + s))), some (.int (bI pa)), some (.int (bI pb)), some (.int (nI 0)), none, none] [] (mdS f M ((va_up (va_up y.1 30 (upd (y.1 30) (3 * j + s) (jMx (y.1 30 (3 * a + s)) (y.1 30 (3 * b + s))))) 31 (upd (y.1 31) (3 * j + s) (bI (jPb (y.1 30 (3 * a + s)) (y.1 30 (3 * b + s)) pa pb)))), y.2)) t 0 0 := by
    refine v_hp (show _ = mdS f M (va_up (va_up (va_up y.1 30 (upd (y.1 30) (3 * j + s) (jMx (y.1 30 (3 * a + s)) (y.1 30 (3 * b + s))))) 31 (upd (y.1 31) (3 * j + s) (bI (jPb (y.1 30 (3 * a + s)) (y.1 30 (3 * b + s)) pa pb)))) 29 (jCl y j s a b 0), y.2) from congrArg (mdS f M) (Prod.ext (va_up_id rfl).symm rfl)) ?_
    exact lp 2 0 none none rfl
  have st2 : V E mX10_joinCalls 0 0 (fun o f' t' => o = .inl none ∧ t' = t ∧ ∃ pa pb, y.1 31 (3 * a + s) = bI pa ∧ y.1 31 (3 * b + s) = bI pb ∧ f' = mdS f M (mJC y j s a b pa pb)) 74 [some (.ref M), some (.int (nI j)), some (.int (nI s)), some (.int (nI a)), some (.int (nI b)), some (.int (y.1 30 (3 * a + s))), some (.int (y.1 30 (3 * b + s))), some (.int (bI pa)), some (.int (bI pb)), none, none, none] [] (mdS f M (va_up y.1 30 (upd (y.1 30) (3 * j + s) (jMx (y.1 30 (3 * a + s)) (y.1 30 (3 * b + s)))), y.2)) t 0 0 := by
    refine v_aload_n dX10_joinCalls_74 rfl (by rfl) ?_
    refine v_getf hE dX10_joinCalls_75 fX10_106 mdS_M (by rfl) ?_
    refine v_iconst (v := nI 3) dX10_joinCalls_78 (by decide) ?_
    refine v_iload_n dX10_joinCalls_79 rfl (by rfl) ?_
    refine v_imulN dX10_joinCalls_80 ?_
    refine v_iload_n dX10_joinCalls_81 rfl (by rfl) ?_
    refine v_iaddN dX10_joinCalls_82 ?_
    refine v_iload dX10_joinCalls_83 (by rfl) ?_
    refine v_iconst (v := nI 1) dX10_joinCalls_85 (by decide) ?_
    refine v_icmp_ne (tgt := 94) dX10_joinCalls_86 (by decide) (fun c86 => ?_) (fun c86 => ?_)
    · refine v_iload dX10_joinCalls_94 (by rfl) ?_
      refine v_iconst (v := nI 1) dX10_joinCalls_96 (by decide) ?_
      refine v_icmp_ne (tgt := 105) dX10_joinCalls_97 (by decide) (fun c97 => ?_) (fun c97 => ?_)
      · refine v_iload dX10_joinCalls_105 (by rfl) ?_
        refine v_if_eqB (tgt := 119) dX10_joinCalls_107 (by decide) (fun c107 => ?_) (fun c107 => ?_)
        · refine v_iconst (v := nI 0) dX10_joinCalls_119 (by decide) ?_
          refine v_eqi (y := (bI (jPb (y.1 30 (3 * a + s)) (y.1 30 (3 * b + s)) pa pb))) (by unfold jPb; rw [if_neg c86, if_neg c97]; first | (rw [c107, c112]; rfl) | (rw [c107]; rfl)) ?_
          refine m_zast hE (k := 31) dX10_joinCalls_120 (by decide) (by decide) rfl (show _ < 720 by omega) (by omega) ?_
          rw [nar_bb]
          refine v_iconst (v := nI 0) dX10_joinCalls_121 (by decide) ?_
          refine v_istore dX10_joinCalls_122 (by decide) ?_
          exact st3
        · refine v_iload dX10_joinCalls_110 (by rfl) ?_
          refine v_if_eqB (tgt := 119) dX10_joinCalls_112 (by decide) (fun c112 => ?_) (fun c112 => ?_)
          · refine v_iconst (v := nI 0) dX10_joinCalls_119 (by decide) ?_
            refine v_eqi (y := (bI (jPb (y.1 30 (3 * a + s)) (y.1 30 (3 * b + s)) pa pb))) (by unfold jPb; rw [if_neg c86, if_neg c97]; first | (rw [c107, c112]; rfl) | (rw [c107]; rfl)) ?_
            refine m_zast hE (k := 31) dX10_joinCalls_120 (by decide) (by decide) rfl (show _ < 720 by omega) (by omega) ?_
            rw [nar_bb]
            refine v_iconst (v := nI 0) dX10_joinCalls_121 (by decide) ?_
            refine v_istore dX10_joinCalls_122 (by decide) ?_
            exact st3
          · refine v_iconst (v := nI 1) dX10_joinCalls_115 (by decide) ?_
            refine v_eqi (y := (bI (jPb (y.1 30 (3 * a + s)) (y.1 30 (3 * b + s)) pa pb))) (by unfold jPb; rw [if_neg c86, if_neg c97, c107, c112]; rfl) ?_
            refine v_goto (tgt := 120) dX10_joinCalls_116 (by decide) ?_
            refine m_zast hE (k := 31) dX10_joinCalls_120 (by decide) (by decide) rfl (show _ < 720 by omega) (by omega) ?_
            rw [nar_bb]
            refine v_iconst (v := nI 0) dX10_joinCalls_121 (by decide) ?_
            refine v_istore dX10_joinCalls_122 (by decide) ?_
            exact st3
      · refine v_iload dX10_joinCalls_100 (by rfl) ?_
        refine v_eqi (y := (bI (jPb (y.1 30 (3 * a + s)) (y.1 30 (3 * b + s)) pa pb))) (by unfold jPb; rw [if_neg c86, if_pos c97]) ?_
        refine v_goto (tgt := 120) dX10_joinCalls_102 (by decide) ?_
        refine m_zast hE (k := 31) dX10_joinCalls_120 (by decide) (by decide) rfl (show _ < 720 by omega) (by omega) ?_
        rw [nar_bb]
        refine v_iconst (v := nI 0) dX10_joinCalls_121 (by decide) ?_
        refine v_istore dX10_joinCalls_122 (by decide) ?_
        exact st3
    · refine v_iload dX10_joinCalls_89 (by rfl) ?_
      refine v_eqi (y := (bI (jPb (y.1 30 (3 * a + s)) (y.1 30 (3 * b + s)) pa pb))) (by unfold jPb; rw [if_pos c86]) ?_
      refine v_goto (tgt := 120) dX10_joinCalls_91 (by decide) ?_
      refine m_zast hE (k := 31) dX10_joinCalls_120 (by decide) (by decide) rfl (show _ < 720 by omega) (by omega) ?_
      rw [nar_bb]
      refine v_iconst (v := nI 0) dX10_joinCalls_121 (by decide) ?_
      refine v_istore dX10_joinCalls_122 (by decide) ?_
      exact st3
  refine v_aload_n dX10_joinCalls_0 rfl (by rfl) ?_
  refine v_getf hE dX10_joinCalls_1 fX10_103 mdS_M (by rfl) ?_
  refine v_iconst (v := nI 3) dX10_joinCalls_4 (by decide) ?_
  refine v_iload_n dX10_joinCalls_5 rfl (by rfl) ?_
  refine v_imulN dX10_joinCalls_6 ?_
  refine v_iload_n dX10_joinCalls_7 rfl (by rfl) ?_
  refine v_iaddN dX10_joinCalls_8 ?_
  refine m_iald hE (k := 30) dX10_joinCalls_9 (by decide) (by decide) rfl (show _ < 720 by omega) (by omega) ?_
  refine v_istore dX10_joinCalls_10 (by decide) ?_
  refine v_aload_n dX10_joinCalls_12 rfl (by rfl) ?_
  refine v_getf hE dX10_joinCalls_13 fX10_103 mdS_M (by rfl) ?_
  refine v_iconst (v := nI 3) dX10_joinCalls_16 (by decide) ?_
  refine v_iload dX10_joinCalls_17 (by rfl) ?_
  refine v_imulN dX10_joinCalls_19 ?_
  refine v_iload_n dX10_joinCalls_20 rfl (by rfl) ?_
  refine v_iaddN dX10_joinCalls_21 ?_
  refine m_iald hE (k := 30) dX10_joinCalls_22 (by decide) (by decide) rfl (show _ < 720 by omega) (by omega) ?_
  refine v_istore dX10_joinCalls_23 (by decide) ?_
  refine v_aload_n dX10_joinCalls_25 rfl (by rfl) ?_
  refine v_getf hE dX10_joinCalls_26 fX10_106 mdS_M (by rfl) ?_
  refine v_iconst (v := nI 3) dX10_joinCalls_29 (by decide) ?_
  refine v_iload_n dX10_joinCalls_30 rfl (by rfl) ?_
  refine v_imulN dX10_joinCalls_31 ?_
  refine v_iload_n dX10_joinCalls_32 rfl (by rfl) ?_
  refine v_iaddN dX10_joinCalls_33 ?_
  refine m_zald hE (k := 31) dX10_joinCalls_34 (by decide) (by decide) rfl (show _ < 720 by omega) (by omega) ?_
  refine v_eqi (y := bI pa) ha2 ?_
  refine v_istore dX10_joinCalls_35 (by decide) ?_
  refine v_aload_n dX10_joinCalls_37 rfl (by rfl) ?_
  refine v_getf hE dX10_joinCalls_38 fX10_106 mdS_M (by rfl) ?_
  refine v_iconst (v := nI 3) dX10_joinCalls_41 (by decide) ?_
  refine v_iload dX10_joinCalls_42 (by rfl) ?_
  refine v_imulN dX10_joinCalls_44 ?_
  refine v_iload_n dX10_joinCalls_45 rfl (by rfl) ?_
  refine v_iaddN dX10_joinCalls_46 ?_
  refine m_zald hE (k := 31) dX10_joinCalls_47 (by decide) (by decide) rfl (show _ < 720 by omega) (by omega) ?_
  refine v_eqi (y := bI pb) hb2 ?_
  refine v_istore dX10_joinCalls_48 (by decide) ?_
  refine v_aload_n dX10_joinCalls_50 rfl (by rfl) ?_
  refine v_getf hE dX10_joinCalls_51 fX10_103 mdS_M (by rfl) ?_
  refine v_iconst (v := nI 3) dX10_joinCalls_54 (by decide) ?_
  refine v_iload_n dX10_joinCalls_55 rfl (by rfl) ?_
  refine v_imulN dX10_joinCalls_56 ?_
  refine v_iload_n dX10_joinCalls_57 rfl (by rfl) ?_
  refine v_iaddN dX10_joinCalls_58 ?_
  refine v_iload dX10_joinCalls_59 (by rfl) ?_
  refine v_iload dX10_joinCalls_61 (by rfl) ?_
  refine v_icmp_le (tgt := 71) dX10_joinCalls_63 (by decide) (fun c63 => ?_) (fun c63 => ?_)
  · refine v_iload dX10_joinCalls_71 (by rfl) ?_
    refine v_eqi (y := (jMx (y.1 30 (3 * a + s)) (y.1 30 (3 * b + s)))) (by unfold jMx; rw [if_pos c63]) ?_
    refine m_iast hE (k := 30) dX10_joinCalls_73 (by decide) (by decide) rfl (show _ < 720 by omega) (by omega) ?_
    exact st2
  · refine v_iload dX10_joinCalls_66 (by rfl) ?_
    refine v_eqi (y := (jMx (y.1 30 (3 * a + s)) (y.1 30 (3 * b + s)))) (by unfold jMx; rw [if_neg c63]) ?_
    refine v_goto (tgt := 73) dX10_joinCalls_68 (by decide) ?_
    refine m_iast hE (k := 30) dX10_joinCalls_73 (by decide) (by decide) rfl (show _ < 720 by omega) (by omega) ?_
    exact st2
