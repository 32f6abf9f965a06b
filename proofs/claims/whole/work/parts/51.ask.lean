theorem ix_le {n : Nat} {q : Int32} (h1 : ¬ q < 0) (h2 : q ≤ nI n) (hn : n + 1 < 2 ^ 31) : ∃ k, k ≤ n ∧ q = nI k ∧ ix (n + 1) q = some k := by
  obtain ⟨k, h3, h4, h5⟩ := ix_some (n := n + 1) h1 (Int32.lt_of_le_of_lt h2 (nI_lt (by omega) (by omega))) hn
  exact ⟨k, by omega, h4, h5⟩
theorem pos_nI {q : Int32} (h : ¬ q ≤ 0) : ∃ p, 1 ≤ p ∧ p < 2 ^ 31 ∧ q = nI p := by
  have h0 : 0 < q := Int32.not_le.mp h
  have e0 : 0 < q.toInt := by have := Int32.lt_iff_toInt_lt.mp h0; simpa using this
  have e1 := Int32.toInt_lt q
  refine ⟨q.toInt.toNat, by omega, by omega, ?_⟩
  apply Int32.toInt_inj.mp
  rw [nI_toInt (by omega)]
  omega
theorem sw_out {q : Int32} {n : Nat} (hn : n < 2 ^ 31) (h : ∀ j, j ≤ n → q ≠ nI j) : q.toInt < 0 ∨ (n : Int) < q.toInt := by
  by_cases h1 : q.toInt < 0
  · exact Or.inl h1
  · by_cases h2 : (n : Int) < q.toInt
    · exact Or.inr h2
    · exfalso
      refine h q.toInt.toNat (by omega) ?_
      apply Int32.toInt_inj.mp
      rw [nI_toInt (by omega)]
      omega
def aSeq (x : dV) (q w : Int32) : Option Int32 := match ix (gCt (dG x 0)) q with
  | none => none
  | some k => if w = nI 0 then some (nI (gSz (dG x 0) k)) else if w = nI 1 then some (gTp (dG x 0) k) else if w = nI 2 then some (nI (gWi (dG x 0) k)) else if w = nI 3 then some (nmSz (dG x 0).1 k) else none
def aLet (x : dV) (q w : Int32) : Option Int32 := match ix (gCt (dG x 0)) q with
  | none => none
  | some k => if (if w ≤ 0 then nmOct (dG x 0).1 k (-w) else gnLet (dG x 0) k w.toNatClampNeg) = -1 then none else some (if w ≤ 0 then nmOct (dG x 0).1 k (-w) else gnLet (dG x 0) k w.toNatClampNeg)
def aTab (x : dV) (q w : Int32) : Option Int32 := match ix 2 q with
  | none => none
  | some i => match ix 5 w with
    | none => none
    | some m => if m = 0 then some (nI (dZ x i).2.2) else if m = 1 then some (nI (dZ x i).2.1.1) else some (nmSz (dZ x i).2.1 (m - 2))
/-- the record that two numbers name -/
def dEn (x : dV) (q r : Int32) : Option (Nat × eV) := match ix 2 q with
  | none => none
  | some i => match ix (dZ x i).2.2 r with
    | none => none
    | some k => some (i, dW x ((dZ x i).1 k))
theorem dEn_some {x : dV} {q r : Int32} {i k : Nat} (h1 : ix 2 q = some i) (h2 : ix (dZ x i).2.2 r = some k) : dEn x q r = some (i, dW x ((dZ x i).1 k)) := by
  unfold dEn
  rw [h1]
  show (match ix (dZ x i).2.2 r with | none => none | some k => some (i, dW x ((dZ x i).1 k))) = _
  rw [h2]
theorem dEn_none {x : dV} {q r : Int32} (h : ∀ i k, ix 2 q = some i → ix (dZ x i).2.2 r = some k → False) : dEn x q r = none := by
  unfold dEn
  split
  · rfl
  · rename_i i hi
    split
    · rfl
    · rename_i k hk
      exact (h i k hi hk).elim
def aRec (x : dV) (q r w : Int32) : Option Int32 := match dEn x q r with
  | none => none
  | some e => if w = nI 0 then some (eSq e.2) else if w = nI 1 then some (ePl e.2) else if w = nI 2 then some (nI (eRo e.2 - 1)) else if w = nI 3 then some (eQu e.2) else if w = nI 4 then some (bI (ePa e.2)) else if w = nI 5 then some (nI (eIz e.2)) else none
def aRow (x : dV) (q r m k : Int32) : Option Int32 := match dEn x q r with
  | none => none
  | some e => match ix (eRo e.2) m with
    | none => none
    | some n => if k = -1 then some (nI (eRs e.2 n)) else some (eLet e.2 n k)
def aCal (x : dV) (q r m w : Int32) : Option Int32 := match dEn x q r with
  | none => none
  | some e => match ix (dZ x e.1).2.1.1 m with
    | none => none
    | some n => if w = nI 0 then some (eCall e.2 n 0) else if w = nI 1 then some (eCall e.2 n 1) else if w = nI 2 then some (nI (eCn e.2 n)) else if w = nI 3 then some (bI (ePh e.2 n)) else none
def aSam (x : dV) (q r m k : Int32) : Option Int32 := match dEn x q r with
  | none => none
  | some e => match dEn x m k with
    | none => none
    | some d => some (bI (eMean e.2 d.2 (dG x 0) (eSq e.2).toNatClampNeg (ePl e.2).toNatClampNeg (ePl d.2).toNatClampNeg))

set_option maxRecDepth 100000 in
set_option maxHeartbeats 4000000 in
/-- place -/
theorem sX9_place {E : eN} (hE : eOk E) {f : aH} {t : Nat} {D : Nat} {x : dV} (hS : eSt E) (hT : eTh E) (hI : dOk D x) (hk : dkP f D x) (ht : D + 1322 < t) : mT E mX9_place 0 0 [.ref D] f t (fun o f' t' => o = dOut nIO (some (dF x)) ∧ t ≤ t' ∧ dkF D t f f' x) := by
  refine mT_of (n := 0) (lo := [some (.ref D)]) (by decide) (by exact Nat.le_of_ble_eq_true rfl) rfl rfl ?_
  obtain ⟨k0, k1, hkT, hkG, hkZ, hkW, k6, k7, k8⟩ := id hk
  have hA := hI.1
  refine v_aload_n dX9_place_0 rfl (by rfl) ?_
  refine v_getf hE dX9_place_1 fX9_57 (by repeat (first | assumption | exact va_up_self _ _ _ | refine (va_up_ne _ _ (by omega)).trans ?_)) (by rfl) ?_
  refine v_iret dX9_place_4 rfl (by first | rfl | exact nar_bI) ?_
  exact ⟨rfl, Nat.le_refl _, dkF_0 hk⟩

set_option maxRecDepth 100000 in
set_option maxHeartbeats 4000000 in
/-- carried -/
theorem sX9_carried {E : eN} (hE : eOk E) {f : aH} {t : Nat} {D : Nat} {x : dV} {q : Int32} (hS : eSt E) (hT : eTh E) (hI : dOk D x) (hk : dkP f D x) (ht : D + 1322 < t) : mT E mX9_carried 0 0 [.ref D, .int q] f t (fun o f' t' => o = dOut nIO (some (hCar (dH x) q)) ∧ t ≤ t' ∧ dkF D t f f' x) := by
  refine mT_of (n := 0) (lo := [some (.ref D), some (.int q)]) (by decide) (by exact Nat.le_of_ble_eq_true rfl) rfl rfl ?_
  obtain ⟨k0, k1, hkT, hkG, hkZ, hkW, k6, k7, k8⟩ := id hk
  have hA := hI.1
  obtain ⟨y0, y1, y2, y3, y4, y5⟩ := id k8
  have hbd := hI.2.2.2.2.2.2.1
  refine v_aload_n dX9_carried_0 rfl (by rfl) ?_
  refine v_getf hE dX9_carried_1 fX9_53 (by repeat (first | assumption | exact va_up_self _ _ _ | refine (va_up_ne _ _ (by omega)).trans ?_)) (by rfl) ?_
  refine v_iload_n dX9_carried_4 rfl (by rfl) ?_
  refine w_callV hE dX9_carried_5 kX9_250 (by repeat (first | assumption | exact va_up_self _ _ _ | refine (va_up_ne _ _ (by omega)).trans ?_)) (by rfl) (by rfl) (sX3_carriedTo hE k8 hbd) rfl (by decide) (by decide) (by exact Nat.le_of_ble_eq_true rfl) (by omega) (by omega) (fun v9 g9 u9 h9 => ?_) (fun _ _ _ h => by cases h.1)
  obtain ⟨hv9, hu9, hg9⟩ := h9
  replace hu9 := hu9.symm
  replace hg9 := hg9.symm
  subst hu9
  subst hg9
  cases hv9
  refine v_iret dX9_carried_8 rfl (by first | rfl | exact nar_bI) ?_
  exact ⟨rfl, Nat.le_refl _, dkF_0 hk⟩

set_option maxRecDepth 100000 in
set_option maxHeartbeats 4000000 in
/-- back -/
theorem sX9_back {E : eN} (hE : eOk E) {f : aH} {t : Nat} {D : Nat} {x : dV} {q : Int32} (hS : eSt E) (hT : eTh E) (hI : dOk D x) (hk : dkP f D x) (ht : D + 1322 < t) : mT E mX9_back 0 0 [.ref D, .int q] f t (fun o f' t' => o = dOut nIO (some (hBac (dH x) q)) ∧ t ≤ t' ∧ dkF D t f f' x) := by
  refine mT_of (n := 0) (lo := [some (.ref D), some (.int q)]) (by decide) (by exact Nat.le_of_ble_eq_true rfl) rfl rfl ?_
  obtain ⟨k0, k1, hkT, hkG, hkZ, hkW, k6, k7, k8⟩ := id hk
  have hA := hI.1
  obtain ⟨y0, y1, y2, y3, y4, y5⟩ := id k8
  have hbd := hI.2.2.2.2.2.2.1
  refine v_aload_n dX9_back_0 rfl (by rfl) ?_
  refine v_getf hE dX9_back_1 fX9_53 (by repeat (first | assumption | exact va_up_self _ _ _ | refine (va_up_ne _ _ (by omega)).trans ?_)) (by rfl) ?_
  refine v_iload_n dX9_back_4 rfl (by rfl) ?_
  refine w_callV hE dX9_back_5 kX9_253 (by repeat (first | assumption | exact va_up_self _ _ _ | refine (va_up_ne _ _ (by omega)).trans ?_)) (by rfl) (by rfl) (sX3_backTo hE k8 hbd) rfl (by decide) (by decide) (by exact Nat.le_of_ble_eq_true rfl) (by omega) (by omega) (fun v9 g9 u9 h9 => ?_) (fun _ _ _ h => by cases h.1)
  obtain ⟨hv9, hu9, hg9⟩ := h9
  replace hu9 := hu9.symm
  replace hg9 := hg9.symm
  subst hu9
  subst hg9
  cases hv9
  refine v_iret dX9_back_8 rfl (by first | rfl | exact nar_bI) ?_
  exact ⟨rfl, Nat.le_refl _, dkF_0 hk⟩

set_option maxRecDepth 100000 in
set_option maxHeartbeats 4000000 in
/-- out -/
theorem sX9_out {E : eN} (hE : eOk E) {f : aH} {t : Nat} {D : Nat} {x : dV} {q : Int32} (hS : eSt E) (hT : eTh E) (hI : dOk D x) (hk : dkP f D x) (ht : D + 1322 < t) : mT E mX9_out 0 0 [.ref D, .int q] f t (fun o f' t' => o = dOut nIO (some (ocAt (dT x 1).1 (dT x 1).2.1 q)) ∧ t ≤ t' ∧ dkF D t f f' x) := by
  refine mT_of (n := 0) (lo := [some (.ref D), some (.int q)]) (by decide) (by exact Nat.le_of_ble_eq_true rfl) rfl rfl ?_
  obtain ⟨k0, k1, hkT, hkG, hkZ, hkW, k6, k7, k8⟩ := id hk
  have hA := hI.1
  have ho := hkT 1 (by omega)
  obtain ⟨⟨o0, o1⟩, o2⟩ := id ho
  refine v_aload_n dX9_out_0 rfl (by rfl) ?_
  refine v_getf hE dX9_out_1 fX9_16 (by repeat (first | assumption | exact va_up_self _ _ _ | refine (va_up_ne _ _ (by omega)).trans ?_)) (by rfl) ?_
  refine v_iload_n dX9_out_4 rfl (by rfl) ?_
  refine w_callV hE dX9_out_5 kX9_266 (by repeat (first | assumption | exact va_up_self _ _ _ | refine (va_up_ne _ _ (by omega)).trans ?_)) (by rfl) (by rfl) (sX6_at hE ho.1 ho.2) rfl (by decide) (by decide) (by exact Nat.le_of_ble_eq_true rfl) (by omega) (by omega) (fun v9 g9 u9 h9 => ?_) (fun _ _ _ h => by cases h.1)
  obtain ⟨hv9, hu9, hg9⟩ := h9
  replace hu9 := hu9.symm
  replace hg9 := hg9.symm
  subst hu9
  subst hg9
  cases hv9
  refine v_iret dX9_out_8 rfl (by first | rfl | exact nar_bI) ?_
  exact ⟨rfl, Nat.le_refl _, dkF_0 hk⟩

set_option maxRecDepth 100000 in
set_option maxHeartbeats 4000000 in
/-- sequence -/
theorem sX9_sequence {E : eN} (hE : eOk E) {f : aH} {t : Nat} {D : Nat} {x : dV} {q w : Int32} (hS : eSt E) (hT : eTh E) (hI : dOk D x) (hk : dkP f D x) (ht : D + 1322 < t) : mT E mX9_sequence 2 12 [.ref D, .int q, .int w] f t (fun o f' t' => o = dOut nIO (aSeq x q w) ∧ t ≤ t' ∧ dkF D t f f' x) := by
  refine mT_of (n := 0) (lo := [some (.ref D), some (.int q), some (.int w)]) (by decide) (by exact Nat.le_of_ble_eq_true rfl) rfl rfl ?_
  obtain ⟨k0, k1, hkT, hkG, hkZ, hkW, k6, k7, k8⟩ := id hk
  have hA := hI.1
  obtain ⟨g0, g1, g2, g3, g4, g5, g6, g7, g8⟩ := hkG 0 (by omega)
  have hgo := hI.2.1 0 (by omega)
  have hgc := hgo.1.1
  have hg1 := hgo.2.1
  have hgt := hgo.2.2.1
  refine v_aload_n dX9_sequence_0 rfl (by rfl) ?_
  refine v_iload_n dX9_sequence_1 rfl (by rfl) ?_
  refine w_callV hE dX9_sequence_2 kX9_114 (by repeat (first | assumption | exact va_up_self _ _ _ | refine (va_up_ne _ _ (by omega)).trans ?_)) (by rfl) (by rfl) (sX9_checkSequence hE hS hT hI hk ht) rfl (by decide) (by decide) (by exact Nat.le_of_ble_eq_true rfl) (by omega) (by omega) (fun v9 g9 u9 h9 => ?_) (fun c9 g9 u9 h9 => h9.elim (fun z => by obtain ⟨z1, z2, z3, z4⟩ := z; cases z2; subst z3; refine ⟨?_, z4, dkF_0 hk⟩; rw [show aSeq x q w = none from by unfold aSeq; rw [z1]]; rfl) (fun z => by obtain ⟨_, _, _, _, z, _⟩ := z; cases z))
  obtain ⟨k, hq0, hk1, hqi, hv9, hu9, hg9⟩ := h9.resolve_left (fun z => by cases z.2.1)
  replace hu9 := hu9.symm
  replace hg9 := hg9.symm
  subst hu9
  subst hg9
  cases hv9
  subst hqi
  refine v_iload_n dX9_sequence_5 rfl (by rfl) ?_
  by_cases w0 : w = nI 0
  · subst w0
    refine v_tableIn (off := 30) (tgt := 36) dX9_sequence_6 (by decide) (by decide) (by decide) (by decide) ?_
    refine v_aload_n dX9_sequence_36 rfl (by rfl) ?_
    refine v_getf hE dX9_sequence_37 fX9_25 (by repeat (first | assumption | exact va_up_self _ _ _ | refine (va_up_ne _ _ (by omega)).trans ?_)) (by rfl) ?_
    refine v_getf hE dX9_sequence_40 fX9_117 (by repeat (first | assumption | exact va_up_self _ _ _ | refine (va_up_ne _ _ (by omega)).trans ?_)) (by rfl) ?_
    refine v_iload_n dX9_sequence_43 rfl (by rfl) ?_
    refine v_iald hE dX9_sequence_44 (by repeat (first | assumption | exact va_up_self _ _ _ | refine (va_up_ne _ _ (by omega)).trans ?_)) (by omega) (by omega) ?_
    refine v_iret dX9_sequence_45 rfl (by first | rfl | exact nar_bI) ?_
    refine ⟨?_, Nat.le_refl _, dkF_0 hk⟩
    rw [show aSeq x (nI k) (nI 0) = some (nI (gSz (dG x 0) k)) from by unfold aSeq; rw [hq0]; show (if _ then _ else if _ then _ else if _ then _ else if _ then _ else none) = _; rw [if_pos rfl]]
    rfl
  by_cases w1 : w = nI 1
  · subst w1
    refine v_tableIn (off := 40) (tgt := 46) dX9_sequence_6 (by decide) (by decide) (by decide) (by decide) ?_
    refine v_aload_n dX9_sequence_46 rfl (by rfl) ?_
    refine v_getf hE dX9_sequence_47 fX9_25 (by repeat (first | assumption | exact va_up_self _ _ _ | refine (va_up_ne _ _ (by omega)).trans ?_)) (by rfl) ?_
    refine v_getf hE dX9_sequence_50 fX9_120 (by repeat (first | assumption | exact va_up_self _ _ _ | refine (va_up_ne _ _ (by omega)).trans ?_)) (by rfl) ?_
    refine v_iload_n dX9_sequence_53 rfl (by rfl) ?_
    refine v_iald hE dX9_sequence_54 (by repeat (first | assumption | exact va_up_self _ _ _ | refine (va_up_ne _ _ (by omega)).trans ?_)) (by omega) (by omega) ?_
    refine v_iret dX9_sequence_55 rfl (by first | rfl | exact nar_bI) ?_
    refine ⟨?_, Nat.le_refl _, dkF_0 hk⟩
    rw [show aSeq x (nI k) (nI 1) = some (gTp (dG x 0) k) from by unfold aSeq; rw [hq0]; show (if _ then _ else if _ then _ else if _ then _ else if _ then _ else none) = _; rw [if_neg w0]; rw [if_pos rfl]]
    rfl
  by_cases w2 : w = nI 2
  · subst w2
    refine v_tableIn (off := 50) (tgt := 56) dX9_sequence_6 (by decide) (by decide) (by decide) (by decide) ?_
    refine v_aload_n dX9_sequence_56 rfl (by rfl) ?_
    refine v_getf hE dX9_sequence_57 fX9_25 (by repeat (first | assumption | exact va_up_self _ _ _ | refine (va_up_ne _ _ (by omega)).trans ?_)) (by rfl) ?_
    refine v_getf hE dX9_sequence_60 fX9_123 (by repeat (first | assumption | exact va_up_self _ _ _ | refine (va_up_ne _ _ (by omega)).trans ?_)) (by rfl) ?_
    refine v_iload_n dX9_sequence_63 rfl (by rfl) ?_
    refine v_iald hE dX9_sequence_64 (by repeat (first | assumption | exact va_up_self _ _ _ | refine (va_up_ne _ _ (by omega)).trans ?_)) (by omega) (by omega) ?_
    refine v_iret dX9_sequence_65 rfl (by first | rfl | exact nar_bI) ?_
    refine ⟨?_, Nat.le_refl _, dkF_0 hk⟩
    rw [show aSeq x (nI k) (nI 2) = some (nI (gWi (dG x 0) k)) from by unfold aSeq; rw [hq0]; show (if _ then _ else if _ then _ else if _ then _ else if _ then _ else none) = _; rw [if_neg w0]; rw [if_neg w1]; rw [if_pos rfl]]
    rfl
  by_cases w3 : w = nI 3
  · subst w3
    refine v_tableIn (off := 60) (tgt := 66) dX9_sequence_6 (by decide) (by decide) (by decide) (by decide) ?_
    refine v_aload_n dX9_sequence_66 rfl (by rfl) ?_
    refine v_getf hE dX9_sequence_67 fX9_25 (by repeat (first | assumption | exact va_up_self _ _ _ | refine (va_up_ne _ _ (by omega)).trans ?_)) (by rfl) ?_
    refine v_getf hE dX9_sequence_70 fX9_126 (by repeat (first | assumption | exact va_up_self _ _ _ | refine (va_up_ne _ _ (by omega)).trans ?_)) (by rfl) ?_
    refine v_iload_n dX9_sequence_73 rfl (by rfl) ?_
    refine w_callV hE dX9_sequence_74 kX9_130 (by repeat (first | assumption | exact va_up_self _ _ _ | refine (va_up_ne _ _ (by omega)).trans ?_)) (by rfl) (by rfl) (sX5_sizeOf hE (gn_nm (hkG 0 (by omega))) hgo.1 (by omega)) rfl (by decide) (by decide) (by exact Nat.le_of_ble_eq_true rfl) (by omega) (by omega) (fun v9 g9 u9 h9 => ?_) (fun _ _ _ h => by cases h.1)
    obtain ⟨hv9, hu9, hg9⟩ := h9
    replace hu9 := hu9.symm
    replace hg9 := hg9.symm
    subst hu9
    subst hg9
    cases hv9
    refine v_iret dX9_sequence_77 rfl (by first | rfl | exact nar_bI) ?_
    refine ⟨?_, Nat.le_refl _, dkF_0 hk⟩
    rw [show aSeq x (nI k) (nI 3) = some (nmSz (dG x 0).1 k) from by unfold aSeq; rw [hq0]; show (if _ then _ else if _ then _ else if _ then _ else if _ then _ else none) = _; rw [if_neg w0]; rw [if_neg w1]; rw [if_neg w2]; rw [if_pos rfl]]
    rfl
  refine v_tableOut (tgt := 78) dX9_sequence_6 (sw_out (n := 3) (by decide) (fun j hj => by rcases (show j = 0 ∨ j = 1 ∨ j = 2 ∨ j = 3 by omega) with e | e | e | e <;> subst e <;> assumption)) (by decide) ?_
  refine v_throw hE hS hT (cls := nIO) (r := (RX9, 138, "a sequence has no such number", tx11)) thIO rfl (by unfold strTab; repeat (first | exact List.Mem.head _ | apply List.Mem.tail)) rfl rfl dX9_sequence_78 dX9_sequence_81 dX9_sequence_82 dX9_sequence_84 dX9_sequence_87 (by decide) (by decide) (by omega) (by omega) (fun u9 hu9 => ?_)
  refine ⟨?_, hu9, dkF_0 hk⟩
  rw [show aSeq x (nI k) w = none from by unfold aSeq; rw [hq0]; show (if _ then _ else if _ then _ else if _ then _ else if _ then _ else none) = _; rw [if_neg w0, if_neg w1, if_neg w2, if_neg w3]]
  rfl

set_option maxRecDepth 100000 in
set_option maxHeartbeats 4000000 in
/-- letter -/
theorem sX9_letter {E : eN} (hE : eOk E) {f : aH} {t : Nat} {D : Nat} {x : dV} {q w : Int32} (hS : eSt E) (hT : eTh E) (hI : dOk D x) (hk : dkP f D x) (ht : D + 1322 < t) : mT E mX9_letter 2 12 [.ref D, .int q, .int w] f t (fun o f' t' => o = dOut nIO (aLet x q w) ∧ t ≤ t' ∧ dkF D t f f' x) := by
  refine mT_of (n := 1) (lo := [some (.ref D), some (.int q), some (.int w), none]) (by decide) (by exact Nat.le_of_ble_eq_true rfl) rfl rfl ?_
  obtain ⟨k0, k1, hkT, hkG, hkZ, hkW, k6, k7, k8⟩ := id hk
  have hA := hI.1
  obtain ⟨g0, g1, g2, g3, g4, g5, g6, g7, g8⟩ := hkG 0 (by omega)
  have hgo := hI.2.1 0 (by omega)
  have hgc := hgo.1.1
  have hg1 := hgo.2.1
  have hgt := hgo.2.2.1
  refine v_aload_n dX9_letter_0 rfl (by rfl) ?_
  refine v_iload_n dX9_letter_1 rfl (by rfl) ?_
  refine w_callV hE dX9_letter_2 kX9_114 (by repeat (first | assumption | exact va_up_self _ _ _ | refine (va_up_ne _ _ (by omega)).trans ?_)) (by rfl) (by rfl) (sX9_checkSequence hE hS hT hI hk ht) rfl (by decide) (by decide) (by exact Nat.le_of_ble_eq_true rfl) (by omega) (by omega) (fun v9 g9 u9 h9 => ?_) (fun c9 g9 u9 h9 => h9.elim (fun z => by obtain ⟨z1, z2, z3, z4⟩ := z; cases z2; subst z3; refine ⟨?_, z4, dkF_0 hk⟩; rw [show aLet x q w = none from by unfold aLet; rw [z1]]; rfl) (fun z => by obtain ⟨_, _, _, _, z, _⟩ := z; cases z))
  obtain ⟨k, hq0, hk1, hqi, hv9, hu9, hg9⟩ := h9.resolve_left (fun z => by cases z.2.1)
  replace hu9 := hu9.symm
  replace hg9 := hg9.symm
  subst hu9
  subst hg9
  cases hv9
  subst hqi
  refine v_iload_n dX9_letter_5 rfl (by rfl) ?_
  refine v_if_le (tgt := 21) dX9_letter_6 (by decide) (fun c6 => ?_) (fun c6 => ?_)
  · have hpe : (if w ≤ 0 then nmOct (dG x 0).1 k (-w) else gnLet (dG x 0) k w.toNatClampNeg) = nmOct (dG x 0).1 k (-w) := if_pos c6
    refine v_aload_n dX9_letter_21 rfl (by rfl) ?_
    refine v_getf hE dX9_letter_22 fX9_25 (by repeat (first | assumption | exact va_up_self _ _ _ | refine (va_up_ne _ _ (by omega)).trans ?_)) (by rfl) ?_
    refine v_getf hE dX9_letter_25 fX9_126 (by repeat (first | assumption | exact va_up_self _ _ _ | refine (va_up_ne _ _ (by omega)).trans ?_)) (by rfl) ?_
    refine v_iload_n dX9_letter_28 rfl (by rfl) ?_
    refine v_iload_n dX9_letter_29 rfl (by rfl) ?_
    refine v_ineg dX9_letter_30 ?_
    refine w_callV hE dX9_letter_31 kX9_145 (by repeat (first | assumption | exact va_up_self _ _ _ | refine (va_up_ne _ _ (by omega)).trans ?_)) (by rfl) (by rfl) (sX5_octetAt hE (gn_nm (hkG 0 (by omega))) hgo.1 (by omega)) rfl (by decide) (by decide) (by exact Nat.le_of_ble_eq_true rfl) (by omega) (by omega) (fun v9 g9 u9 h9 => ?_) (fun _ _ _ h => by cases h.1)
    obtain ⟨hv9, hu9, hg9⟩ := h9
    replace hu9 := hu9.symm
    replace hg9 := hg9.symm
    subst hu9
    subst hg9
    cases hv9
    refine v_istore_n dX9_letter_34 rfl (by decide) ?_
    refine v_iload_n dX9_letter_35 rfl (by rfl) ?_
    refine v_iconst (v := (-1)) dX9_letter_36 (by decide) ?_
    refine v_icmp_ne (tgt := 50) dX9_letter_37 (by decide) (fun c37 => ?_) (fun c37 => ?_)
    · refine v_iload_n dX9_letter_50 rfl (by rfl) ?_
      refine v_iret dX9_letter_51 rfl (by first | rfl | exact nar_bI) ?_
      refine ⟨?_, Nat.le_refl _, dkF_0 hk⟩
      unfold aLet
      rw [hq0]
      show _ = dOut nIO (if _ then none else some _)
      rw [hpe, if_neg c37]
      rfl
    · refine v_throw hE hS hT (cls := nIO) (r := (RX9, 148, "no such place or octet", tx12)) thIO rfl (by unfold strTab; repeat (first | exact List.Mem.head _ | apply List.Mem.tail)) rfl rfl dX9_letter_40 dX9_letter_43 dX9_letter_44 dX9_letter_46 dX9_letter_49 (by decide) (by decide) (by omega) (by omega) (fun u9 hu9 => ?_)
      refine ⟨?_, hu9, dkF_0 hk⟩
      unfold aLet
      rw [hq0]
      show _ = dOut nIO (if _ then none else some _)
      rw [hpe, if_pos c37]
      rfl
  · obtain ⟨p, hp1, hp2, hp3⟩ := pos_nI c6
    subst hp3
    have hpe : (if nI p ≤ 0 then nmOct (dG x 0).1 k (-nI p) else gnLet (dG x 0) k (nI p).toNatClampNeg) = gnLet (dG x 0) k p := by rw [if_neg c6, nI_clamp hp2]
    refine v_aload_n dX9_letter_9 rfl (by rfl) ?_
    refine v_getf hE dX9_letter_10 fX9_25 (by repeat (first | assumption | exact va_up_self _ _ _ | refine (va_up_ne _ _ (by omega)).trans ?_)) (by rfl) ?_
    refine v_iload_n dX9_letter_13 rfl (by rfl) ?_
    refine v_iload_n dX9_letter_14 rfl (by rfl) ?_
    refine w_callV hE dX9_letter_15 kX9_141 (by repeat (first | assumption | exact va_up_self _ _ _ | refine (va_up_ne _ _ (by omega)).trans ?_)) (by rfl) (by rfl) (sX1_letterAt hE (hkG 0 (by omega)) hgo (by omega) hp2) rfl (by decide) (by decide) (by exact Nat.le_of_ble_eq_true rfl) (by omega) (by omega) (fun v9 g9 u9 h9 => ?_) (fun _ _ _ h => by cases h.1)
    obtain ⟨hv9, hu9, hg9⟩ := h9
    replace hu9 := hu9.symm
    replace hg9 := hg9.symm
    subst hu9
    subst hg9
    cases hv9
    refine v_goto (tgt := 34) dX9_letter_18 (by decide) ?_
    refine v_istore_n dX9_letter_34 rfl (by decide) ?_
    refine v_iload_n dX9_letter_35 rfl (by rfl) ?_
    refine v_iconst (v := (-1)) dX9_letter_36 (by decide) ?_
    refine v_icmp_ne (tgt := 50) dX9_letter_37 (by decide) (fun c37 => ?_) (fun c37 => ?_)
    · refine v_iload_n dX9_letter_50 rfl (by rfl) ?_
      refine v_iret dX9_letter_51 rfl (by first | rfl | exact nar_bI) ?_
      refine ⟨?_, Nat.le_refl _, dkF_0 hk⟩
      unfold aLet
      rw [hq0]
      show _ = dOut nIO (if _ then none else some _)
      rw [hpe, if_neg c37]
      rfl
    · refine v_throw hE hS hT (cls := nIO) (r := (RX9, 148, "no such place or octet", tx12)) thIO rfl (by unfold strTab; repeat (first | exact List.Mem.head _ | apply List.Mem.tail)) rfl rfl dX9_letter_40 dX9_letter_43 dX9_letter_44 dX9_letter_46 dX9_letter_49 (by decide) (by decide) (by omega) (by omega) (fun u9 hu9 => ?_)
      refine ⟨?_, hu9, dkF_0 hk⟩
      unfold aLet
      rw [hq0]
      show _ = dOut nIO (if _ then none else some _)
      rw [hpe, if_pos c37]
      rfl

theorem le4 {q : Int32} (h : q < nI 5) : q ≤ nI 4 := by
  have h1 := Int32.lt_iff_toInt_lt.mp h
  rw [nI_toInt (by decide)] at h1
  apply Int32.le_iff_toInt_le.mpr
  rw [nI_toInt (by decide)]
  omega
set_option maxRecDepth 100000 in
set_option maxHeartbeats 4000000 in
/-- table -/
theorem sX9_table {E : eN} (hE : eOk E) {f : aH} {t : Nat} {D : Nat} {x : dV} {q w : Int32} (hS : eSt E) (hT : eTh E) (hI : dOk D x) (hk : dkP f D x) (ht : D + 1322 < t) : mT E mX9_table 2 12 [.ref D, .int q, .int w] f t (fun o f' t' => o = dOut nIO (aTab x q w) ∧ t ≤ t' ∧ dkF D t f f' x) := by
  refine mT_of (n := 1) (lo := [some (.ref D), some (.int q), some (.int w), none]) (by decide) (by exact Nat.le_of_ble_eq_true rfl) rfl rfl ?_
  obtain ⟨k0, k1, hkT, hkG, hkZ, hkW, k6, k7, k8⟩ := id hk
  have hA := hI.1
  refine v_aload_n dX9_table_0 rfl (by rfl) ?_
  refine v_iload_n dX9_table_1 rfl (by rfl) ?_
  refine w_callV hE dX9_table_2 kX9_98 (by repeat (first | assumption | exact va_up_self _ _ _ | refine (va_up_ne _ _ (by omega)).trans ?_)) (by rfl) (by rfl) (sX9_sheetAt hE hS hT hI hk ht) rfl (by decide) (by decide) (by exact Nat.le_of_ble_eq_true rfl) (by omega) (by omega) (fun v9 g9 u9 h9 => ?_) (fun c9 g9 u9 h9 => h9.elim (fun z => by obtain ⟨z1, z2, z3, z4⟩ := z; cases z2; subst z3; refine ⟨?_, z4, dkF_0 hk⟩; rw [show aTab x q w = none from by unfold aTab; rw [z1]]; rfl) (fun z => by obtain ⟨_, _, _, _, z, _⟩ := z; cases z))
  obtain ⟨i, hi0, hi, hqi, hv9, hu9, hg9⟩ := h9.resolve_left (fun z => by cases z.2.1)
  replace hu9 := hu9.symm
  replace hg9 := hg9.symm
  subst hu9
  subst hg9
  cases hv9
  obtain ⟨z0, z1, z2, z3, z4⟩ := hkZ i (by omega)
  have hzo := hI.2.2.1 i (by omega)
  have hz8 := hzo.2
  have hn3 := hzo.1.1
  refine v_astore_n dX9_table_5 rfl (by decide) ?_
  refine v_iload_n dX9_table_6 rfl (by rfl) ?_
  refine v_if_lt (tgt := 15) dX9_table_7 (by decide) (fun c7 => ?_) (fun c7 => ?_)
  · refine v_throw hE hS hT (cls := nIO) (r := (RX9, 150, "a table has no such number", tx13)) thIO rfl (by unfold strTab; repeat (first | exact List.Mem.head _ | apply List.Mem.tail)) rfl rfl dX9_table_15 dX9_table_18 dX9_table_19 dX9_table_21 dX9_table_24 (by decide) (by decide) (by omega) (by omega) (fun u9 hu9 => ?_)
    refine ⟨?_, hu9, dkF_0 hk⟩
    rw [show aTab x q w = none from by unfold aTab; rw [hi0]; show (match ix 5 _ with | none => none | some m => _) = _; rw [ix_none (by first | exact Or.inl c7 | exact Or.inr (fun z => c12 (le4 z)))]]
    rfl
  · refine v_iload_n dX9_table_10 rfl (by rfl) ?_
    refine v_iconst (v := nI 4) dX9_table_11 (by decide) ?_
    refine v_icmp_le (tgt := 25) dX9_table_12 (by decide) (fun c12 => ?_) (fun c12 => ?_)
    · obtain ⟨m, hm, e, hwx⟩ := ix_le (n := 4) c7 c12 (by decide)
      subst e
      refine v_iload_n dX9_table_25 rfl (by rfl) ?_
      refine v_if_neN (tgt := 34) dX9_table_26 (by decide) (by omega) (fun c26 => ?_) (fun c26 => ?_)
      · refine v_iload_n dX9_table_34 rfl (by rfl) ?_
        refine v_iconst (v := nI 1) dX9_table_35 (by decide) ?_
        refine v_icmp_neN (tgt := 47) dX9_table_36 (by decide) (by omega) (by omega) (fun c36 => ?_) (fun c36 => ?_)
        · refine v_aload_n dX9_table_47 rfl (by rfl) ?_
          refine v_getf hE dX9_table_48 fX9_152 (by repeat (first | assumption | exact va_up_self _ _ _ | refine (va_up_ne _ _ (by omega)).trans ?_)) (by rfl) ?_
          refine v_iload_n dX9_table_51 rfl (by rfl) ?_
          refine v_iconst (v := nI 2) dX9_table_52 (by decide) ?_
          refine v_isubN dX9_table_53 (by omega) ?_
          refine w_callV hE dX9_table_54 kX9_130 (by repeat (first | assumption | exact va_up_self _ _ _ | refine (va_up_ne _ _ (by omega)).trans ?_)) (by rfl) (by rfl) (sX5_sizeOf hE (sh_nm (hkZ i (by omega))) hzo.1 (by omega)) rfl (by decide) (by decide) (by exact Nat.le_of_ble_eq_true rfl) (by omega) (by omega) (fun v9 g9 u9 h9 => ?_) (fun _ _ _ h => by cases h.1)
          obtain ⟨hv9, hu9, hg9⟩ := h9
          replace hu9 := hu9.symm
          replace hg9 := hg9.symm
          subst hu9
          subst hg9
          cases hv9
          refine v_iret dX9_table_57 rfl (by first | rfl | exact nar_bI) ?_
          refine ⟨?_, Nat.le_refl _, dkF_0 hk⟩
          first
            | (rw [show aTab x q (nI m) = some (nI (dZ x i).2.2) from by unfold aTab; rw [hi0]; show (match ix 5 _ with | none => none | some m => _) = _; rw [hwx]; show (if _ then _ else if _ then _ else _) = _; rw [if_pos (by omega)]]; rfl)
            | (rw [show aTab x q (nI m) = some (nI (dZ x i).2.1.1) from by unfold aTab; rw [hi0]; show (match ix 5 _ with | none => none | some m => _) = _; rw [hwx]; show (if _ then _ else if _ then _ else _) = _; rw [if_neg (by omega), if_pos (by omega)]]; rfl)
            | (rw [show aTab x q (nI m) = some (nmSz (dZ x i).2.1 (m - 2)) from by unfold aTab; rw [hi0]; show (match ix 5 _ with | none => none | some m => _) = _; rw [hwx]; show (if _ then _ else if _ then _ else _) = _; rw [if_neg (by omega), if_neg (by omega)]]; rfl)
        · refine v_aload_n dX9_table_39 rfl (by rfl) ?_
          refine v_getf hE dX9_table_40 fX9_152 (by repeat (first | assumption | exact va_up_self _ _ _ | refine (va_up_ne _ _ (by omega)).trans ?_)) (by rfl) ?_
          refine v_getf hE dX9_table_43 fX9_153 (by repeat (first | assumption | exact va_up_self _ _ _ | refine (va_up_ne _ _ (by omega)).trans ?_)) (by rfl) ?_
          refine v_iret dX9_table_46 rfl (by first | rfl | exact nar_bI) ?_
          refine ⟨?_, Nat.le_refl _, dkF_0 hk⟩
          first
            | (rw [show aTab x q (nI m) = some (nI (dZ x i).2.2) from by unfold aTab; rw [hi0]; show (match ix 5 _ with | none => none | some m => _) = _; rw [hwx]; show (if _ then _ else if _ then _ else _) = _; rw [if_pos (by omega)]]; rfl)
            | (rw [show aTab x q (nI m) = some (nI (dZ x i).2.1.1) from by unfold aTab; rw [hi0]; show (match ix 5 _ with | none => none | some m => _) = _; rw [hwx]; show (if _ then _ else if _ then _ else _) = _; rw [if_neg (by omega), if_pos (by omega)]]; rfl)
            | (rw [show aTab x q (nI m) = some (nmSz (dZ x i).2.1 (m - 2)) from by unfold aTab; rw [hi0]; show (match ix 5 _ with | none => none | some m => _) = _; rw [hwx]; show (if _ then _ else if _ then _ else _) = _; rw [if_neg (by omega), if_neg (by omega)]]; rfl)
      · refine v_aload_n dX9_table_29 rfl (by rfl) ?_
        refine v_getf hE dX9_table_30 fX9_113 (by repeat (first | assumption | exact va_up_self _ _ _ | refine (va_up_ne _ _ (by omega)).trans ?_)) (by rfl) ?_
        refine v_iret dX9_table_33 rfl (by first | rfl | exact nar_bI) ?_
        refine ⟨?_, Nat.le_refl _, dkF_0 hk⟩
        first
          | (rw [show aTab x q (nI m) = some (nI (dZ x i).2.2) from by unfold aTab; rw [hi0]; show (match ix 5 _ with | none => none | some m => _) = _; rw [hwx]; show (if _ then _ else if _ then _ else _) = _; rw [if_pos (by omega)]]; rfl)
          | (rw [show aTab x q (nI m) = some (nI (dZ x i).2.1.1) from by unfold aTab; rw [hi0]; show (match ix 5 _ with | none => none | some m => _) = _; rw [hwx]; show (if _ then _ else if _ then _ else _) = _; rw [if_neg (by omega), if_pos (by omega)]]; rfl)
          | (rw [show aTab x q (nI m) = some (nmSz (dZ x i).2.1 (m - 2)) from by unfold aTab; rw [hi0]; show (match ix 5 _ with | none => none | some m => _) = _; rw [hwx]; show (if _ then _ else if _ then _ else _) = _; rw [if_neg (by omega), if_neg (by omega)]]; rfl)
    · refine v_throw hE hS hT (cls := nIO) (r := (RX9, 150, "a table has no such number", tx13)) thIO rfl (by unfold strTab; repeat (first | exact List.Mem.head _ | apply List.Mem.tail)) rfl rfl dX9_table_15 dX9_table_18 dX9_table_19 dX9_table_21 dX9_table_24 (by decide) (by decide) (by omega) (by omega) (fun u9 hu9 => ?_)
      refine ⟨?_, hu9, dkF_0 hk⟩
      rw [show aTab x q w = none from by unfold aTab; rw [hi0]; show (match ix 5 _ with | none => none | some m => _) = _; rw [ix_none (by first | exact Or.inl c7 | exact Or.inr (fun z => c12 (le4 z)))]]
      rfl

set_option maxRecDepth 100000 in
set_option maxHeartbeats 4000000 in
/-- record -/
theorem sX9_record {E : eN} (hE : eOk E) {f : aH} {t : Nat} {D : Nat} {x : dV} {q r w : Int32} (hS : eSt E) (hT : eTh E) (hI : dOk D x) (hk : dkP f D x) (ht : D + 1322 < t) : mT E mX9_record 3 18 [.ref D, .int q, .int r, .int w] f t (fun o f' t' => o = dOut nIO (aRec x q r w) ∧ t ≤ t' ∧ dkF D t f f' x) := by
  refine mT_of (n := 1) (lo := [some (.ref D), some (.int q), some (.int r), some (.int w), none]) (by decide) (by exact Nat.le_of_ble_eq_true rfl) rfl rfl ?_
  obtain ⟨k0, k1, hkT, hkG, hkZ, hkW, k6, k7, k8⟩ := id hk
  have hA := hI.1
  refine v_aload_n dX9_record_0 rfl (by rfl) ?_
  refine v_iload_n dX9_record_1 rfl (by rfl) ?_
  refine v_iload_n dX9_record_2 rfl (by rfl) ?_
  refine w_callV hE dX9_record_3 kX9_154 (by repeat (first | assumption | exact va_up_self _ _ _ | refine (va_up_ne _ _ (by omega)).trans ?_)) (by rfl) (by rfl) (sX9_entryAt hE hS hT hI hk ht) rfl (by decide) (by decide) (by exact Nat.le_of_ble_eq_true rfl) (by omega) (by omega) (fun v9 g9 u9 h9 => ?_) (fun c9 g9 u9 h9 => h9.elim (fun z => by obtain ⟨z1, z2, z3, z4⟩ := z; cases z2; subst z3; refine ⟨?_, z4, dkF_0 hk⟩; rw [show aRec x q r w = none from by unfold aRec; rw [dEn_none z1]]; rfl) (fun z => by obtain ⟨_, _, _, _, _, _, _, _, z, _⟩ := z; cases z))
  obtain ⟨i, k, hi0, hi, hqi, hr0, hk1, hrk, hv9, hu9, hg9⟩ := h9.resolve_left (fun z => by cases z.2.1)
  replace hu9 := hu9.symm
  replace hg9 := hg9.symm
  subst hu9
  subst hg9
  cases hv9
  have hzo := hI.2.2.1 i (by omega)
  have hz8 := hzo.2
  have hX := dXs_X (hI.2.2.2.2.1.1 i k (by omega) (by omega))
  have hen := hkW _ hX
  have hok := hI.2.2.2.1 _ hX
  obtain ⟨e0, e1, e2, e3, e4, e5, e6⟩ := id hen
  have ho1 := hok.1
  have hde := dEn_some hi0 hr0
  have hg1 := (hI.2.2.2.2.2.1 i k hi hk1).2.1
  refine v_astore dX9_record_6 (by decide) ?_
  refine v_iload_n dX9_record_8 rfl (by rfl) ?_
  by_cases w0 : w = nI 0
  · subst w0
    refine v_tableIn (off := 39) (tgt := 48) dX9_record_9 (by decide) (by decide) (by decide) (by decide) ?_
    refine v_aload dX9_record_48 (by rfl) ?_
    refine v_getf hE dX9_record_50 fX9_158 (by repeat (first | assumption | exact va_up_self _ _ _ | refine (va_up_ne _ _ (by omega)).trans ?_)) (by rfl) ?_
    refine v_iret dX9_record_53 rfl (by first | rfl | exact nar_bI) ?_
    refine ⟨?_, Nat.le_refl _, dkF_0 hk⟩
    rw [show aRec x q r (nI 0) = some (eSq (dW x ((dZ x i).1 k))) from by unfold aRec; rw [hde]; show (if _ then _ else if _ then _ else if _ then _ else if _ then _ else if _ then _ else if _ then _ else none) = _; rw [if_pos rfl]]
    rfl
  by_cases w1 : w = nI 1
  · subst w1
    refine v_tableIn (off := 45) (tgt := 54) dX9_record_9 (by decide) (by decide) (by decide) (by decide) ?_
    refine v_aload dX9_record_54 (by rfl) ?_
    refine v_getf hE dX9_record_56 fX9_163 (by repeat (first | assumption | exact va_up_self _ _ _ | refine (va_up_ne _ _ (by omega)).trans ?_)) (by rfl) ?_
    refine v_iret dX9_record_59 rfl (by first | rfl | exact nar_bI) ?_
    refine ⟨?_, Nat.le_refl _, dkF_0 hk⟩
    rw [show aRec x q r (nI 1) = some (ePl (dW x ((dZ x i).1 k))) from by unfold aRec; rw [hde]; show (if _ then _ else if _ then _ else if _ then _ else if _ then _ else if _ then _ else if _ then _ else none) = _; rw [if_neg w0]; rw [if_pos rfl]]
    rfl
  by_cases w2 : w = nI 2
  · subst w2
    refine v_tableIn (off := 51) (tgt := 60) dX9_record_9 (by decide) (by decide) (by decide) (by decide) ?_
    refine v_aload dX9_record_60 (by rfl) ?_
    refine v_getf hE dX9_record_62 fX9_166 (by repeat (first | assumption | exact va_up_self _ _ _ | refine (va_up_ne _ _ (by omega)).trans ?_)) (by rfl) ?_
    refine v_iconst (v := nI 1) dX9_record_65 (by decide) ?_
    refine v_isubN dX9_record_66 (by omega) ?_
    refine v_iret dX9_record_67 rfl (by first | rfl | exact nar_bI) ?_
    refine ⟨?_, Nat.le_refl _, dkF_0 hk⟩
    rw [show aRec x q r (nI 2) = some (nI (eRo (dW x ((dZ x i).1 k)) - 1)) from by unfold aRec; rw [hde]; show (if _ then _ else if _ then _ else if _ then _ else if _ then _ else if _ then _ else if _ then _ else none) = _; rw [if_neg w0]; rw [if_neg w1]; rw [if_pos rfl]]
    rfl
  by_cases w3 : w = nI 3
  · subst w3
    refine v_tableIn (off := 59) (tgt := 68) dX9_record_9 (by decide) (by decide) (by decide) (by decide) ?_
    refine v_aload dX9_record_68 (by rfl) ?_
    refine v_getf hE dX9_record_70 fX9_169 (by repeat (first | assumption | exact va_up_self _ _ _ | refine (va_up_ne _ _ (by omega)).trans ?_)) (by rfl) ?_
    refine v_iret dX9_record_73 rfl (by first | rfl | exact nar_bI) ?_
    refine ⟨?_, Nat.le_refl _, dkF_0 hk⟩
    rw [show aRec x q r (nI 3) = some (eQu (dW x ((dZ x i).1 k))) from by unfold aRec; rw [hde]; show (if _ then _ else if _ then _ else if _ then _ else if _ then _ else if _ then _ else if _ then _ else none) = _; rw [if_neg w0]; rw [if_neg w1]; rw [if_neg w2]; rw [if_pos rfl]]
    rfl
  by_cases w4 : w = nI 4
  · subst w4
    refine v_tableIn (off := 65) (tgt := 74) dX9_record_9 (by decide) (by decide) (by decide) (by decide) ?_
    refine v_aload dX9_record_74 (by rfl) ?_
    refine v_getf hE dX9_record_76 fX9_172 (by repeat (first | assumption | exact va_up_self _ _ _ | refine (va_up_ne _ _ (by omega)).trans ?_)) (by rfl) ?_
    refine v_if_eqB (tgt := 86) dX9_record_79 (by decide) (fun c79 => ?_) (fun c79 => ?_)
    · refine v_iconst (v := nI 0) dX9_record_86 (by decide) ?_
      refine v_iret dX9_record_87 rfl (by first | rfl | exact nar_bI) ?_
      refine ⟨?_, Nat.le_refl _, dkF_0 hk⟩
      rw [show aRec x q r (nI 4) = some (bI (ePa (dW x ((dZ x i).1 k)))) from by unfold aRec; rw [hde]; show (if _ then _ else if _ then _ else if _ then _ else if _ then _ else if _ then _ else if _ then _ else none) = _; rw [if_neg w0]; rw [if_neg w1]; rw [if_neg w2]; rw [if_neg w3]; rw [if_pos rfl]]
      first | (rw [c79]; rfl)
    · refine v_iconst (v := nI 1) dX9_record_82 (by decide) ?_
      refine v_goto (tgt := 87) dX9_record_83 (by decide) ?_
      refine v_iret dX9_record_87 rfl (by first | rfl | exact nar_bI) ?_
      refine ⟨?_, Nat.le_refl _, dkF_0 hk⟩
      rw [show aRec x q r (nI 4) = some (bI (ePa (dW x ((dZ x i).1 k)))) from by unfold aRec; rw [hde]; show (if _ then _ else if _ then _ else if _ then _ else if _ then _ else if _ then _ else if _ then _ else none) = _; rw [if_neg w0]; rw [if_neg w1]; rw [if_neg w2]; rw [if_neg w3]; rw [if_pos rfl]]
      first | (rw [c79]; rfl)
  by_cases w5 : w = nI 5
  · subst w5
    refine v_tableIn (off := 79) (tgt := 88) dX9_record_9 (by decide) (by decide) (by decide) (by decide) ?_
    refine v_aload dX9_record_88 (by rfl) ?_
    refine v_getf hE dX9_record_90 fX9_176 (by repeat (first | assumption | exact va_up_self _ _ _ | refine (va_up_ne _ _ (by omega)).trans ?_)) (by rfl) ?_
    refine v_iret dX9_record_93 rfl (by first | rfl | exact nar_bI) ?_
    refine ⟨?_, Nat.le_refl _, dkF_0 hk⟩
    rw [show aRec x q r (nI 5) = some (nI (eIz (dW x ((dZ x i).1 k)))) from by unfold aRec; rw [hde]; show (if _ then _ else if _ then _ else if _ then _ else if _ then _ else if _ then _ else if _ then _ else none) = _; rw [if_neg w0]; rw [if_neg w1]; rw [if_neg w2]; rw [if_neg w3]; rw [if_neg w4]; rw [if_pos rfl]]
    rfl
  refine v_tableOut (tgt := 94) dX9_record_9 (sw_out (n := 5) (by decide) (fun j hj => by rcases (show j = 0 ∨ j = 1 ∨ j = 2 ∨ j = 3 ∨ j = 4 ∨ j = 5 by omega) with e | e | e | e | e | e <;> subst e <;> assumption)) (by decide) ?_
  refine v_throw hE hS hT (cls := nIO) (r := (RX9, 179, "a record has no such number", tx15)) thIO rfl (by unfold strTab; repeat (first | exact List.Mem.head _ | apply List.Mem.tail)) rfl rfl dX9_record_94 dX9_record_97 dX9_record_98 dX9_record_100 dX9_record_103 (by decide) (by decide) (by omega) (by omega) (fun u9 hu9 => ?_)
  refine ⟨?_, hu9, dkF_0 hk⟩
  rw [show aRec x q r w = none from by unfold aRec; rw [hde]; show (if _ then _ else if _ then _ else if _ then _ else if _ then _ else if _ then _ else if _ then _ else none) = _; rw [if_neg w0, if_neg w1, if_neg w2, if_neg w3, if_neg w4, if_neg w5]]
  rfl

set_option maxRecDepth 100000 in
set_option maxHeartbeats 4000000 in
/-- row -/
theorem sX9_row {E : eN} (hE : eOk E) {f : aH} {t : Nat} {D : Nat} {x : dV} {q r m p : Int32} (hS : eSt E) (hT : eTh E) (hI : dOk D x) (hk : dkP f D x) (ht : D + 1322 < t) : mT E mX9_row 3 18 [.ref D, .int q, .int r, .int m, .int p] f t (fun o f' t' => o = dOut nIO (aRow x q r m p) ∧ t ≤ t' ∧ dkF D t f f' x) := by
  refine mT_of (n := 1) (lo := [some (.ref D), some (.int q), some (.int r), some (.int m), some (.int p), none]) (by decide) (by exact Nat.le_of_ble_eq_true rfl) rfl rfl ?_
  obtain ⟨k0, k1, hkT, hkG, hkZ, hkW, k6, k7, k8⟩ := id hk
  have hA := hI.1
  refine v_aload_n dX9_row_0 rfl (by rfl) ?_
  refine v_iload_n dX9_row_1 rfl (by rfl) ?_
  refine v_iload_n dX9_row_2 rfl (by rfl) ?_
  refine w_callV hE dX9_row_3 kX9_154 (by repeat (first | assumption | exact va_up_self _ _ _ | refine (va_up_ne _ _ (by omega)).trans ?_)) (by rfl) (by rfl) (sX9_entryAt hE hS hT hI hk ht) rfl (by decide) (by decide) (by exact Nat.le_of_ble_eq_true rfl) (by omega) (by omega) (fun v9 g9 u9 h9 => ?_) (fun c9 g9 u9 h9 => h9.elim (fun z => by obtain ⟨z1, z2, z3, z4⟩ := z; cases z2; subst z3; refine ⟨?_, z4, dkF_0 hk⟩; rw [show aRow x q r m p = none from by unfold aRow; rw [dEn_none z1]]; rfl) (fun z => by obtain ⟨_, _, _, _, _, _, _, _, z, _⟩ := z; cases z))
  obtain ⟨i, k, hi0, hi, hqi, hr0, hk1, hrk, hv9, hu9, hg9⟩ := h9.resolve_left (fun z => by cases z.2.1)
  replace hu9 := hu9.symm
  replace hg9 := hg9.symm
  subst hu9
  subst hg9
  cases hv9
  have hzo := hI.2.2.1 i (by omega)
  have hz8 := hzo.2
  have hX := dXs_X (hI.2.2.2.2.1.1 i k (by omega) (by omega))
  have hen := hkW _ hX
  have hok := hI.2.2.2.1 _ hX
  obtain ⟨e0, e1, e2, e3, e4, e5, e6⟩ := id hen
  have ho1 := hok.1
  have hde := dEn_some hi0 hr0
  refine v_astore dX9_row_6 (by decide) ?_
  refine v_iload_n dX9_row_8 rfl (by rfl) ?_
  refine v_if_lt (tgt := 21) dX9_row_9 (by decide) (fun c9 => ?_) (fun c9 => ?_)
  · refine v_throw hE hS hT (cls := nIO) (r := (RX9, 181, "no such row", tx16)) thIO rfl (by unfold strTab; repeat (first | exact List.Mem.head _ | apply List.Mem.tail)) rfl rfl dX9_row_21 dX9_row_24 dX9_row_25 dX9_row_27 dX9_row_30 (by decide) (by decide) (by omega) (by omega) (fun u9 hu9 => ?_)
    refine ⟨?_, hu9, dkF_0 hk⟩
    rw [show aRow x q r m p = none from by unfold aRow; rw [hde]; show (match ix _ _ with | none => none | some n => _) = _; rw [ix_none (by first | exact Or.inl c9 | exact Or.inr c18)]]
    rfl
  · refine v_iload_n dX9_row_12 rfl (by rfl) ?_
    refine v_aload dX9_row_13 (by rfl) ?_
    refine v_getf hE dX9_row_15 fX9_166 (by repeat (first | assumption | exact va_up_self _ _ _ | refine (va_up_ne _ _ (by omega)).trans ?_)) (by rfl) ?_
    refine v_icmp_lt (tgt := 31) dX9_row_18 (by decide) (fun c18 => ?_) (fun c18 => ?_)
    · obtain ⟨n, hn1, e, hwx⟩ := ix_some (n := eRo (dW x ((dZ x i).1 k))) c9 c18 (by omega)
      subst e
      have hrs := hok.2.1 n
      refine v_iload dX9_row_31 (by rfl) ?_
      refine v_iconst (v := (-1)) dX9_row_33 (by decide) ?_
      refine v_icmp_ne (tgt := 47) dX9_row_34 (by decide) (fun c34 => ?_) (fun c34 => ?_)
      · refine v_aload dX9_row_47 (by rfl) ?_
        refine v_iload_n dX9_row_49 rfl (by rfl) ?_
        refine v_iload dX9_row_50 (by rfl) ?_
        refine w_callV hE dX9_row_52 kX9_186 (by repeat (first | assumption | exact va_up_self _ _ _ | refine (va_up_ne _ _ (by omega)).trans ?_)) (by rfl) (by rfl) (sX0_letterAt hE hen hok (by omega)) rfl (by decide) (by decide) (by exact Nat.le_of_ble_eq_true rfl) (by omega) (by omega) (fun v9 g9 u9 h9 => ?_) (fun _ _ _ h => by cases h.1)
        obtain ⟨hv9, hu9, hg9⟩ := h9
        replace hu9 := hu9.symm
        replace hg9 := hg9.symm
        subst hu9
        subst hg9
        cases hv9
        refine v_iret dX9_row_55 rfl (by first | rfl | exact nar_bI) ?_
        refine ⟨?_, Nat.le_refl _, dkF_0 hk⟩
        first
          | (rw [show aRow x q r (nI n) p = some (nI (eRs (dW x ((dZ x i).1 k)) n)) from by unfold aRow; rw [hde]; show (match ix _ _ with | none => none | some n => _) = _; rw [hwx]; show (if _ then _ else _) = _; rw [if_pos c34]]; rfl)
          | (rw [show aRow x q r (nI n) p = some (eLet (dW x ((dZ x i).1 k)) n p) from by unfold aRow; rw [hde]; show (match ix _ _ with | none => none | some n => _) = _; rw [hwx]; show (if _ then _ else _) = _; rw [if_neg c34]]; rfl)
      · refine v_aload dX9_row_37 (by rfl) ?_
        refine v_getf hE dX9_row_39 fX9_183 (by repeat (first | assumption | exact va_up_self _ _ _ | refine (va_up_ne _ _ (by omega)).trans ?_)) (by rfl) ?_
        refine v_iload_n dX9_row_42 rfl (by rfl) ?_
        refine v_iald hE dX9_row_43 (by repeat (first | assumption | exact va_up_self _ _ _ | refine (va_up_ne _ _ (by omega)).trans ?_)) (by omega) (by omega) ?_
        refine v_goto (tgt := 55) dX9_row_44 (by decide) ?_
        refine v_iret dX9_row_55 rfl (by first | rfl | exact nar_bI) ?_
        refine ⟨?_, Nat.le_refl _, dkF_0 hk⟩
        first
          | (rw [show aRow x q r (nI n) p = some (nI (eRs (dW x ((dZ x i).1 k)) n)) from by unfold aRow; rw [hde]; show (match ix _ _ with | none => none | some n => _) = _; rw [hwx]; show (if _ then _ else _) = _; rw [if_pos c34]]; rfl)
          | (rw [show aRow x q r (nI n) p = some (eLet (dW x ((dZ x i).1 k)) n p) from by unfold aRow; rw [hde]; show (match ix _ _ with | none => none | some n => _) = _; rw [hwx]; show (if _ then _ else _) = _; rw [if_neg c34]]; rfl)
    · refine v_throw hE hS hT (cls := nIO) (r := (RX9, 181, "no such row", tx16)) thIO rfl (by unfold strTab; repeat (first | exact List.Mem.head _ | apply List.Mem.tail)) rfl rfl dX9_row_21 dX9_row_24 dX9_row_25 dX9_row_27 dX9_row_30 (by decide) (by decide) (by omega) (by omega) (fun u9 hu9 => ?_)
      refine ⟨?_, hu9, dkF_0 hk⟩
      rw [show aRow x q r m p = none from by unfold aRow; rw [hde]; show (match ix _ _ with | none => none | some n => _) = _; rw [ix_none (by first | exact Or.inl c9 | exact Or.inr c18)]]
      rfl

set_option maxRecDepth 100000 in
set_option maxHeartbeats 4000000 in
/-- call -/
theorem sX9_call {E : eN} (hE : eOk E) {f : aH} {t : Nat} {D : Nat} {x : dV} {q r m w : Int32} (hS : eSt E) (hT : eTh E) (hI : dOk D x) (hk : dkP f D x) (ht : D + 1322 < t) : mT E mX9_call 5 30 [.ref D, .int q, .int r, .int m, .int w] f t (fun o f' t' => o = dOut nIO (aCal x q r m w) ∧ t ≤ t' ∧ dkF D t f f' x) := by
  refine mT_of (n := 1) (lo := [some (.ref D), some (.int q), some (.int r), some (.int m), some (.int w), none]) (by decide) (by exact Nat.le_of_ble_eq_true rfl) rfl rfl ?_
  obtain ⟨k0, k1, hkT, hkG, hkZ, hkW, k6, k7, k8⟩ := id hk
  have hA := hI.1
  refine v_aload_n dX9_call_0 rfl (by rfl) ?_
  refine v_iload_n dX9_call_1 rfl (by rfl) ?_
  refine v_iload_n dX9_call_2 rfl (by rfl) ?_
  refine w_callV hE dX9_call_3 kX9_154 (by repeat (first | assumption | exact va_up_self _ _ _ | refine (va_up_ne _ _ (by omega)).trans ?_)) (by rfl) (by rfl) (sX9_entryAt hE hS hT hI hk ht) rfl (by decide) (by decide) (by exact Nat.le_of_ble_eq_true rfl) (by omega) (by omega) (fun v9 g9 u9 h9 => ?_) (fun c9 g9 u9 h9 => h9.elim (fun z => by obtain ⟨z1, z2, z3, z4⟩ := z; cases z2; subst z3; refine ⟨?_, z4, dkF_0 hk⟩; rw [show aCal x q r m w = none from by unfold aCal; rw [dEn_none z1]]; rfl) (fun z => by obtain ⟨_, _, _, _, _, _, _, _, z, _⟩ := z; cases z))
  obtain ⟨i, k, hi0, hi, hqi, hr0, hk1, hrk, hv9, hu9, hg9⟩ := h9.resolve_left (fun z => by cases z.2.1)
  replace hu9 := hu9.symm
  replace hg9 := hg9.symm
  subst hu9
  subst hg9
  cases hv9
  have hzo := hI.2.2.1 i (by omega)
  have hz8 := hzo.2
  have hX := dXs_X (hI.2.2.2.2.1.1 i k (by omega) (by omega))
  have hen := hkW _ hX
  have hok := hI.2.2.2.1 _ hX
  obtain ⟨e0, e1, e2, e3, e4, e5, e6⟩ := id hen
  have ho1 := hok.1
  have hde := dEn_some hi0 hr0
  refine v_astore dX9_call_6 (by decide) ?_
  refine v_aload_n dX9_call_8 rfl (by rfl) ?_
  refine v_iload_n dX9_call_9 rfl (by rfl) ?_
  refine v_iload_n dX9_call_10 rfl (by rfl) ?_
  refine w_callV hE dX9_call_11 kX9_187 (by repeat (first | assumption | exact va_up_self _ _ _ | refine (va_up_ne _ _ (by omega)).trans ?_)) (by rfl) (by rfl) (sX9_checkSample hE hS hT hI hk ht) rfl (by decide) (by decide) (by exact Nat.le_of_ble_eq_true rfl) (by omega) (by omega) (fun v9 g9 u9 h9 => ?_) (fun c9 g9 u9 h9 => h9.elim (fun z => by obtain ⟨z1, z2, z3, z4⟩ := z; cases z2; subst z3; refine ⟨?_, z4, dkF_0 hk⟩; rw [show aCal x q r m w = none from by unfold aCal; rw [hde]; show (match ix _ _ with | none => none | some n => _) = _; cases hcc : ix (dZ x i).2.1.1 m with | none => rfl | some n => exact (z1 i n hi0 hcc).elim]; rfl) (fun z => by obtain ⟨_, _, _, _, _, _, _, _, z, _⟩ := z; cases z))
  obtain ⟨i2, n, hj0, hj, hqj, hn0, hn1, hmn, hv9, hu9, hg9⟩ := h9.resolve_left (fun z => by cases z.2.1)
  replace hu9 := hu9.symm
  replace hg9 := hg9.symm
  subst hu9
  subst hg9
  cases hv9
  rw [hi0] at hj0
  cases hj0
  subst hmn
  have hn3 := hzo.1.1
  refine v_iload dX9_call_14 (by rfl) ?_
  by_cases w0 : w = nI 0
  · subst w0
    refine v_tableIn (off := 32) (tgt := 48) dX9_call_16 (by decide) (by decide) (by decide) (by decide) ?_
    refine v_aload dX9_call_48 (by rfl) ?_
    refine v_iload_n dX9_call_50 rfl (by rfl) ?_
    refine v_iload dX9_call_51 (by rfl) ?_
    refine w_callV hE dX9_call_53 kX9_191 (by repeat (first | assumption | exact va_up_self _ _ _ | refine (va_up_ne _ _ (by omega)).trans ?_)) (by rfl) (by rfl) (sX0_callAt hE hen hok (c := 0) (by omega) (by omega)) rfl (by decide) (by decide) (by exact Nat.le_of_ble_eq_true rfl) (by omega) (by omega) (fun v9 g9 u9 h9 => ?_) (fun _ _ _ h => by cases h.1)
    obtain ⟨hv9, hu9, hg9⟩ := h9
    replace hu9 := hu9.symm
    replace hg9 := hg9.symm
    subst hu9
    subst hg9
    cases hv9
    refine v_iret dX9_call_56 rfl (by first | rfl | exact nar_bI) ?_
    refine ⟨?_, Nat.le_refl _, dkF_0 hk⟩
    rw [show aCal x q r (nI n) (nI 0) = some (eCall (dW x ((dZ x i).1 k)) n 0) from by unfold aCal; rw [hde]; show (match ix _ _ with | none => none | some n => _) = _; rw [hn0]; show (if _ then _ else if _ then _ else if _ then _ else if _ then _ else none) = _; rw [if_pos rfl]]
    rfl
  by_cases w1 : w = nI 1
  · subst w1
    refine v_tableIn (off := 32) (tgt := 48) dX9_call_16 (by decide) (by decide) (by decide) (by decide) ?_
    refine v_aload dX9_call_48 (by rfl) ?_
    refine v_iload_n dX9_call_50 rfl (by rfl) ?_
    refine v_iload dX9_call_51 (by rfl) ?_
    refine w_callV hE dX9_call_53 kX9_191 (by repeat (first | assumption | exact va_up_self _ _ _ | refine (va_up_ne _ _ (by omega)).trans ?_)) (by rfl) (by rfl) (sX0_callAt hE hen hok (c := 1) (by omega) (by omega)) rfl (by decide) (by decide) (by exact Nat.le_of_ble_eq_true rfl) (by omega) (by omega) (fun v9 g9 u9 h9 => ?_) (fun _ _ _ h => by cases h.1)
    obtain ⟨hv9, hu9, hg9⟩ := h9
    replace hu9 := hu9.symm
    replace hg9 := hg9.symm
    subst hu9
    subst hg9
    cases hv9
    refine v_iret dX9_call_56 rfl (by first | rfl | exact nar_bI) ?_
    refine ⟨?_, Nat.le_refl _, dkF_0 hk⟩
    rw [show aCal x q r (nI n) (nI 1) = some (eCall (dW x ((dZ x i).1 k)) n 1) from by unfold aCal; rw [hde]; show (match ix _ _ with | none => none | some n => _) = _; rw [hn0]; show (if _ then _ else if _ then _ else if _ then _ else if _ then _ else none) = _; rw [if_neg w0]; rw [if_pos rfl]]
    rfl
  by_cases w2 : w = nI 2
  · subst w2
    refine v_tableIn (off := 41) (tgt := 57) dX9_call_16 (by decide) (by decide) (by decide) (by decide) ?_
    refine v_aload dX9_call_57 (by rfl) ?_
    refine v_getf hE dX9_call_59 fX9_194 (by repeat (first | assumption | exact va_up_self _ _ _ | refine (va_up_ne _ _ (by omega)).trans ?_)) (by rfl) ?_
    refine v_iload_n dX9_call_62 rfl (by rfl) ?_
    refine v_iald hE dX9_call_63 (by repeat (first | assumption | exact va_up_self _ _ _ | refine (va_up_ne _ _ (by omega)).trans ?_)) (by omega) (by omega) ?_
    refine v_iret dX9_call_64 rfl (by first | rfl | exact nar_bI) ?_
    refine ⟨?_, Nat.le_refl _, dkF_0 hk⟩
    rw [show aCal x q r (nI n) (nI 2) = some (nI (eCn (dW x ((dZ x i).1 k)) n)) from by unfold aCal; rw [hde]; show (match ix _ _ with | none => none | some n => _) = _; rw [hn0]; show (if _ then _ else if _ then _ else if _ then _ else if _ then _ else none) = _; rw [if_neg w0]; rw [if_neg w1]; rw [if_pos rfl]]
    rfl
  by_cases w3 : w = nI 3
  · subst w3
    refine v_tableIn (off := 49) (tgt := 65) dX9_call_16 (by decide) (by decide) (by decide) (by decide) ?_
    refine v_aload dX9_call_65 (by rfl) ?_
    refine v_getf hE dX9_call_67 fX9_197 (by repeat (first | assumption | exact va_up_self _ _ _ | refine (va_up_ne _ _ (by omega)).trans ?_)) (by rfl) ?_
    refine v_iload_n dX9_call_70 rfl (by rfl) ?_
    refine v_zald hE dX9_call_71 (by repeat (first | assumption | exact va_up_self _ _ _ | refine (va_up_ne _ _ (by omega)).trans ?_)) (by omega) (by omega) ?_
    refine v_if_eqB (tgt := 79) dX9_call_72 (by decide) (fun c72 => ?_) (fun c72 => ?_)
    · refine v_iconst (v := nI 0) dX9_call_79 (by decide) ?_
      refine v_iret dX9_call_80 rfl (by first | rfl | exact nar_bI) ?_
      refine ⟨?_, Nat.le_refl _, dkF_0 hk⟩
      rw [show aCal x q r (nI n) (nI 3) = some (bI (ePh (dW x ((dZ x i).1 k)) n)) from by unfold aCal; rw [hde]; show (match ix _ _ with | none => none | some n => _) = _; rw [hn0]; show (if _ then _ else if _ then _ else if _ then _ else if _ then _ else none) = _; rw [if_neg w0]; rw [if_neg w1]; rw [if_neg w2]; rw [if_pos rfl]]
      first | (rw [c72]; rfl)
    · refine v_iconst (v := nI 1) dX9_call_75 (by decide) ?_
      refine v_goto (tgt := 80) dX9_call_76 (by decide) ?_
      refine v_iret dX9_call_80 rfl (by first | rfl | exact nar_bI) ?_
      refine ⟨?_, Nat.le_refl _, dkF_0 hk⟩
      rw [show aCal x q r (nI n) (nI 3) = some (bI (ePh (dW x ((dZ x i).1 k)) n)) from by unfold aCal; rw [hde]; show (match ix _ _ with | none => none | some n => _) = _; rw [hn0]; show (if _ then _ else if _ then _ else if _ then _ else if _ then _ else none) = _; rw [if_neg w0]; rw [if_neg w1]; rw [if_neg w2]; rw [if_pos rfl]]
      first | (rw [c72]; rfl)
  refine v_tableOut (tgt := 81) dX9_call_16 (sw_out (n := 3) (by decide) (fun j hj => by rcases (show j = 0 ∨ j = 1 ∨ j = 2 ∨ j = 3 by omega) with e | e | e | e <;> subst e <;> assumption)) (by decide) ?_
  refine v_throw hE hS hT (cls := nIO) (r := (RX9, 201, "a sample has no such number", tx18)) thIO rfl (by unfold strTab; repeat (first | exact List.Mem.head _ | apply List.Mem.tail)) rfl rfl dX9_call_81 dX9_call_84 dX9_call_85 dX9_call_87 dX9_call_90 (by decide) (by decide) (by omega) (by omega) (fun u9 hu9 => ?_)
  refine ⟨?_, hu9, dkF_0 hk⟩
  rw [show aCal x q r (nI n) w = none from by unfold aCal; rw [hde]; show (match ix _ _ with | none => none | some n => _) = _; rw [hn0]; show (if _ then _ else if _ then _ else if _ then _ else if _ then _ else none) = _; rw [if_neg w0, if_neg w1, if_neg w2, if_neg w3]]
  rfl
