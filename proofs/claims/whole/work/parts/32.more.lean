def nmAllK (w : nV) (n : Nat) : Nat → Nat → nV → nV
  | 0, _, v => v
  | d + 1, k, v => nmAllK w n d (k + 1) (nmAdd v (w.2.1 (n * 20 + k)))
def nmAllN (L : Nat) (w : nV) : Nat → Nat → nV → nV
  | 0, _, v => v
  | d + 1, n, v => nmAllN L w d (n + 1) (nmAllK w n (w.2.2 n - 0) 0 (nmNew L v))
def nmAll (L : Nat) (v w : nV) : nV := nmAllN L w (w.1 - 0) 0 v
theorem nmNew_1 {L : Nat} {v : nV} (h : 0 < L) (hv : nOk L v) : 0 < (nmNew L v).1 := by
  unfold nmNew
  split
  · exact Nat.succ_pos _
  · have := hv.1; omega
theorem nm_nmS {L M : Nat} {f : aH} {a b : Nat} {v w : nV} (h : nmP M f b w) (hd : b + 2 < a ∨ a + 2 < b) : nmP M (nmS L f a v) b w := ⟨(nmS_ne (by omega)).trans h.1, (nmS_ne (by omega)).trans h.2.1, (nmS_ne (by omega)).trans h.2.2⟩

set_option maxRecDepth 100000 in
set_option maxHeartbeats 4000000 in
/-- Names.addAll -/
theorem sX5_addAll {E : eN} (hE : eOk E) {f : aH} {t : Nat} {a b L M : Nat} {v w : nV} (h : nmP L f a v) (hv : nOk L v) (hb : nmP M f b w) (hw : nOk M w) (hd : b + 2 < a ∨ a + 2 < b) (hL : 0 < L) : mT E mX5_addAll 0 0 [.ref a, .ref b] f t (fun o f' t' => o = .inl none ∧ t' = t ∧ f' = nmS L f a (nmAll L v w)) := by
  refine mT_of (n := 2) (lo := [some (.ref a), some (.ref b), none, none]) (by decide) (by exact Nat.le_of_ble_eq_true rfl) rfl rfl ?_
  obtain ⟨q1, q2, q3⟩ := id hw
  have lp : ∀ (dn : Nat) (n : Nat) (y : nV) (z3 : Option Value), n + dn = w.1 → nOk L y → nmAll L v w = nmAllN L w (w.1 - n) n y → V E mX5_addAll 0 0 (fun o f' t' => o = .inl none ∧ t' = t ∧ f' = nmS L f a (nmAll L v w)) 2 [some (.ref a), some (.ref b), some (.int (nI n)), z3] [] (nmS L f a y) t 0 0 := by
    intro dn
    induction dn using Nat.strongRecOn with
    | _ dn ihn =>
    intro n y z3 hn hy he
    obtain ⟨e0, e1, e2⟩ := nmP_S L f a y
    obtain ⟨g0, g1, g2⟩ := nm_nmS (L := L) (v := y) hb hd
    have lq : n < w.1 → ∀ (d : Nat) (k : Nat) (x : nV), k + d = w.2.2 n → nOk L x → 0 < x.1 → nmAll L v w = nmAllN L w (w.1 - (n + 1)) (n + 1) (nmAllK w n (w.2.2 n - k) k x) → V E mX5_addAll 0 0 (fun o f' t' => o = .inl none ∧ t' = t ∧ f' = nmS L f a (nmAll L v w)) 16 [some (.ref a), some (.ref b), some (.int (nI n)), some (.int (nI k))] [] (nmS L f a x) t 0 0 := by
      intro hn2 d
      induction d using Nat.strongRecOn with
      | _ d ih =>
      intro k x hk hx hx0 hxe
      obtain ⟨e0, e1, e2⟩ := nmP_S L f a x
      obtain ⟨x1, x2, x3⟩ := id hx
      obtain ⟨g0, g1, g2⟩ := nm_nmS (L := L) (v := x) hb hd
      have q4 := q3 n
      refine v_iload_n dX5_addAll_16 rfl (by rfl) ?_
      refine v_aload_n dX5_addAll_17 rfl (by rfl) ?_
      refine v_getf hE dX5_addAll_18 fX5_25 (by repeat (first | assumption | exact va_up_self _ _ _ | refine (va_up_ne _ _ (by omega)).trans ?_)) (by rfl) ?_
      refine v_iload_n dX5_addAll_21 rfl (by rfl) ?_
      refine v_iald hE dX5_addAll_22 (by repeat (first | assumption | exact va_up_self _ _ _ | refine (va_up_ne _ _ (by omega)).trans ?_)) (by omega) (by omega) ?_
      refine v_icmp_geN (tgt := 47) dX5_addAll_23 (by decide) (by omega) (by omega) (fun c23 => ?_) (fun c23 => ?_)
      · refine v_iincN (y := 1) dX5_addAll_47 (by rfl) (by decide) (by decide) ?_
        refine v_goto (tgt := 2) dX5_addAll_50 (by decide) ?_
        exact ihn (dn - 1) (by omega) (n + 1) x (some (.int (nI k))) (by omega) hx (hxe.trans (by rw [show w.2.2 n - k = 0 by omega]; rfl))
      · refine v_aload_n dX5_addAll_26 rfl (by rfl) ?_
        refine v_aload_n dX5_addAll_27 rfl (by rfl) ?_
        refine v_getf hE dX5_addAll_28 fX5_21 (by repeat (first | assumption | exact va_up_self _ _ _ | refine (va_up_ne _ _ (by omega)).trans ?_)) (by rfl) ?_
        refine v_iload_n dX5_addAll_31 rfl (by rfl) ?_
        refine v_bipush (v := nI 20) dX5_addAll_32 (by decide) ?_
        refine v_imulN dX5_addAll_34 ?_
        refine v_iload_n dX5_addAll_35 rfl (by rfl) ?_
        refine v_iaddN dX5_addAll_36 ?_
        refine v_iald hE dX5_addAll_37 (by repeat (first | assumption | exact va_up_self _ _ _ | refine (va_up_ne _ _ (by omega)).trans ?_)) (by omega) (by omega) ?_
        refine w_callV hE dX5_addAll_38 kX5_34 (by repeat (first | assumption | exact va_up_self _ _ _ | refine (va_up_ne _ _ (by omega)).trans ?_)) (by rfl) (by rfl) (sX5_add hE (nmP_S L f a x) hx hx0) rfl (by decide) (by decide) (by exact Nat.le_of_ble_eq_true rfl) (by omega) (by omega) (fun v9 g9 u9 h9 => ?_) (fun _ _ _ h => by cases h.1)
        obtain ⟨hv9, hu9, hg9⟩ := h9
        replace hu9 := hu9.symm
        replace hg9 := hg9.symm
        subst hu9
        subst hg9
        cases hv9
        refine v_hp nmS_S ?_
        refine v_iincN (y := 1) dX5_addAll_41 (by rfl) (by decide) (by decide) ?_
        refine v_goto (tgt := 16) dX5_addAll_44 (by decide) ?_
        exact ih (d - 1) (by omega) (k + 1) _ (by omega) (nmAdd_ok hx) (by rw [nmAdd_1]; exact hx0) (hxe.trans (by rw [show w.2.2 n - k = (w.2.2 n - (k + 1)) + 1 by omega]; rfl))
    refine v_iload_n dX5_addAll_2 rfl (by rfl) ?_
    refine v_aload_n dX5_addAll_3 rfl (by rfl) ?_
    refine v_getf hE dX5_addAll_4 fX5_28 (by repeat (first | assumption | exact va_up_self _ _ _ | refine (va_up_ne _ _ (by omega)).trans ?_)) (by rfl) ?_
    refine v_icmp_geN (tgt := 53) dX5_addAll_7 (by decide) (by omega) (by omega) (fun c7 => ?_) (fun c7 => ?_)
    · refine v_ret dX5_addAll_53 rfl ?_
      refine ⟨rfl, rfl, ?_⟩
      rw [he, show w.1 - n = 0 by omega]
      rfl
    · refine v_aload_n dX5_addAll_10 rfl (by rfl) ?_
      refine w_callV hE dX5_addAll_11 kX5_31 (by repeat (first | assumption | exact va_up_self _ _ _ | refine (va_up_ne _ _ (by omega)).trans ?_)) (by rfl) (by rfl) (sX5_open hE (nmP_S L f a y) hy) rfl (by decide) (by decide) (by exact Nat.le_of_ble_eq_true rfl) (by omega) (by omega) (fun v9 g9 u9 h9 => ?_) (fun _ _ _ h => by cases h.1)
      obtain ⟨hv9, hu9, hg9⟩ := h9
      replace hu9 := hu9.symm
      replace hg9 := hg9.symm
      subst hu9
      subst hg9
      cases hv9
      refine v_hp nmS_S ?_
      refine v_iconst (v := nI 0) dX5_addAll_14 (by decide) ?_
      refine v_istore_n dX5_addAll_15 rfl (by decide) ?_
      exact lq (by omega) (w.2.2 n) 0 _ (by omega) (nmNew_ok hy) (nmNew_1 hL hy) (he.trans (by rw [show w.1 - n = (w.1 - (n + 1)) + 1 by omega]; rfl))
  refine v_iconst (v := nI 0) dX5_addAll_0 (by decide) ?_
  refine v_istore_n dX5_addAll_1 rfl (by decide) ?_
  refine v_hp (nmS_id h).symm ?_
  exact lp w.1 0 v none (by omega) hv rfl

theorem tAdds_one {s : tS} {l : List Int32} {x : Int32} : tAdd (tAdds s l) x = tAdds s (l ++ [x]) := tAdds_app (m := [x])
def eSmpT (v : eV) : Nat → Nat → List Int32
  | 0, _ => []
  | d + 1, i => ([nI 9] ++ eCalT v i (eCn v i - 0) 0) ++ eSmpT v d (i + 1)
def eWrH (v : eV) (g : gV) (s p : Nat) : List Int32 := (((prt g.1.2.1 (g.1.2.2 s) (s * 20) ++ [nI 9]) ++ tNumber p) ++ [nI 9]) ++ (if eIz v = 0 then [nI 46] else [])
def eWrR (v : eV) : List Int32 := ((((((prt (eId v) (eIz v) 0 ++ [nI 9]) ++ prt (eLe v) (eRs v 0) 0) ++ [nI 9]) ++ eAltsT v) ++ [nI 9]) ++ tNumP (eQu v)) ++ [nI 9]
def eWrP (v : eV) (n : Nat) : List Int32 := ((txI (if ePa v = true then tx8 else tx7) ++ [nI 9]) ++ [nI 46]) ++ (if n = 0 then [] else [nI 9] ++ txI tx9)
def eWr (v : eV) (n : Nat) (g : gV) (s p : Nat) : List Int32 := ((((eWrH v g s p ++ eWrR v) ++ eWrP v n) ++ eSmpT v (n - 0) 0) ++ [nI 10])
theorem gn_oS {f : aH} {a b : Nat} {v : gV} {s : tS} (h : gnP f a v) (hd : b + 1 < a ∨ a + 8 < b) : gnP (oS f b s) a v := by
  obtain ⟨h0, h1, h2, h3, h4, h5, h6, h7, h8⟩ := h
  exact ⟨(oS_ne (by omega) (by omega)).trans h0, (oS_ne (by omega) (by omega)).trans h1, (oS_ne (by omega) (by omega)).trans h2, (oS_ne (by omega) (by omega)).trans h3, (oS_ne (by omega) (by omega)).trans h4, (oS_ne (by omega) (by omega)).trans h5, (oS_ne (by omega) (by omega)).trans h6, (oS_ne (by omega) (by omega)).trans h7, (oS_ne (by omega) (by omega)).trans h8⟩

set_option maxRecDepth 100000 in
set_option maxHeartbeats 4000000 in
/-- Entry.writeTo -/
theorem sX0_writeTo {E : eN} (hE : eOk E) {f : aH} {t : Nat} {a b c s p n : Nat} {v : eV} {u : tS} {g : gV} (hS : eSt E) (h : enP f a v) (hv : enOk v) (hb : oP f b u) (hg : gnP f c g) (hgo : gOk g) (hd : b + 1 < a ∨ a + 6 < b) (hdg : b + 1 < c ∨ c + 8 < b) (hs : eSq v = nI s) (hp : ePl v = nI p) (hs2 : s < g.1.1) (bp : p < 2 ^ 28) (hn : n ≤ 3) (hqu : eQu v = -1 ∨ ∃ x : Nat, x < 2 ^ 29 ∧ eQu v = nI x) (hca : ∀ i, i < n → eCaOk v i) : mT E mX0_writeTo 0 0 [.ref a, .ref b, .int (nI n), .ref c] f t (fun o f' t' => o = .inl none ∧ t' = t ∧ f' = oS f b (tAdds u (eWr v n g s p))) := by
  refine mT_of (n := 1) (lo := [some (.ref a), some (.ref b), some (.int (nI n)), some (.ref c), none]) (by decide) (by exact Nat.le_of_ble_eq_true rfl) rfl rfl ?_
  obtain ⟨h0, h1, h2, h3, h4, h5, h6⟩ := id h
  obtain ⟨g0, g1, g2, g3, g4, g5, g6, g7, g8⟩ := id hg
  obtain ⟨k0, k1, k2, k3⟩ := id hv
  obtain ⟨r0, r1, r2⟩ := id hgo
  rw [hs, hp] at h0
  have hu : u.1 ≤ 8000 := hb.2
  have lp : ∀ (d : Nat) (i : Nat) (l : List Int32), i + d = n → eWr v n g s p = (l ++ eSmpT v (n - i) i) ++ [nI 10] → V E mX0_writeTo 0 0 (fun o f' t' => o = .inl none ∧ t' = t ∧ f' = oS f b (tAdds u (eWr v n g s p))) 150 [some (.ref a), some (.ref b), some (.int (nI n)), some (.ref c), some (.int (nI i))] [] (oS f b (tAdds u l)) t 0 0 := by
    intro d
    induction d using Nat.strongRecOn with
    | _ d ih =>
    intro i l hi he
    refine v_iload dX0_writeTo_150 (by rfl) ?_
    refine v_iload_n dX0_writeTo_152 rfl (by rfl) ?_
    refine v_icmp_geN (tgt := 175) dX0_writeTo_153 (by decide) (by omega) (by omega) (fun c153 => ?_) (fun c153 => ?_)
    · refine v_aload_n dX0_writeTo_175 rfl (by rfl) ?_
      refine v_bipush (v := nI 10) dX0_writeTo_176 (by decide) ?_
      refine w_callV hE dX0_writeTo_178 kX0_152 (by first | assumption | exact (oP_S (tAdds_le hu)).1.1 | exact (oS_ne (by omega) (by omega)).trans (by assumption)) (by rfl) (by rfl) (uX6_add hE (oP_S (tAdds_le hu))) rfl (by decide) (by decide) (by exact Nat.le_of_ble_eq_true rfl) (by omega) (by omega) (fun v9 g9 u9 h9 => ?_) (fun _ _ _ h => by cases h.1)
      obtain ⟨hv9, hu9, hg9⟩ := h9
      replace hu9 := hu9.symm
      replace hg9 := hg9.symm
      subst hu9
      subst hg9
      cases hv9
      refine v_hp (oS_S.trans (congrArg (oS f b) tAdds_one)) ?_
      refine v_ret dX0_writeTo_181 rfl ?_
      refine ⟨rfl, rfl, ?_⟩
      rw [he, show n - i = 0 by omega]
      show _ = oS f b (tAdds u ((l ++ []) ++ _))
      rw [List.append_nil]
    · refine v_aload_n dX0_writeTo_156 rfl (by rfl) ?_
      refine v_bipush (v := nI 9) dX0_writeTo_157 (by decide) ?_
      refine w_callV hE dX0_writeTo_159 kX0_152 (by first | assumption | exact (oP_S (tAdds_le hu)).1.1 | exact (oS_ne (by omega) (by omega)).trans (by assumption)) (by rfl) (by rfl) (uX6_add hE (oP_S (tAdds_le hu))) rfl (by decide) (by decide) (by exact Nat.le_of_ble_eq_true rfl) (by omega) (by omega) (fun v9 g9 u9 h9 => ?_) (fun _ _ _ h => by cases h.1)
      obtain ⟨hv9, hu9, hg9⟩ := h9
      replace hu9 := hu9.symm
      replace hg9 := hg9.symm
      subst hu9
      subst hg9
      cases hv9
      refine v_hp (oS_S.trans (congrArg (oS f b) tAdds_one)) ?_
      refine v_aload_n dX0_writeTo_162 rfl (by rfl) ?_
      refine v_iload dX0_writeTo_163 (by rfl) ?_
      refine v_aload_n dX0_writeTo_165 rfl (by rfl) ?_
      refine w_callV hE dX0_writeTo_166 kX0_185 (by first | assumption | exact (oP_S (tAdds_le hu)).1.1 | exact (oS_ne (by omega) (by omega)).trans (by assumption)) (by rfl) (by rfl) (sX0_writeCalls hE (en_oS h hd) hv (oP_S (tAdds_le hu)) hd (by omega) (hca _ (by omega))) rfl (by decide) (by decide) (by exact Nat.le_of_ble_eq_true rfl) (by omega) (by omega) (fun v9 g9 u9 h9 => ?_) (fun _ _ _ h => by cases h.1)
      obtain ⟨hv9, hu9, hg9⟩ := h9
      replace hu9 := hu9.symm
      replace hg9 := hg9.symm
      subst hu9
      subst hg9
      cases hv9
      refine v_hp (oS_S.trans (congrArg (oS f b) tAdds_app)) ?_
      refine v_iincN (y := 1) dX0_writeTo_169 (by rfl) (by decide) (by decide) ?_
      refine v_goto (tgt := 150) dX0_writeTo_172 (by decide) ?_
      exact ih (d - 1) (by omega) (i + 1) _ (by omega) (he.trans (by rw [show n - i = (n - (i + 1)) + 1 by omega]; show (l ++ ((_ ++ _) ++ _)) ++ _ = _; simp only [List.append_assoc]))
  refine v_hp (show f = oS f b (tAdds u []) from (oS_id hb).symm) ?_
  refine v_aload_n dX0_writeTo_0 rfl (by rfl) ?_
  refine v_getf hE dX0_writeTo_1 fX0_142 (by first | assumption | exact (oP_S (tAdds_le hu)).1.1 | exact (oS_ne (by omega) (by omega)).trans (by assumption)) (by rfl) ?_
  refine v_aload_n dX0_writeTo_4 rfl (by rfl) ?_
  refine v_getf hE dX0_writeTo_5 fX0_49 (by first | assumption | exact (oP_S (tAdds_le hu)).1.1 | exact (oS_ne (by omega) (by omega)).trans (by assumption)) (by rfl) ?_
  refine v_aload_n dX0_writeTo_8 rfl (by rfl) ?_
  refine w_callV hE dX0_writeTo_9 kX0_146 (by first | assumption | exact (oP_S (tAdds_le hu)).1.1 | exact (oS_ne (by omega) (by omega)).trans (by assumption)) (by rfl) (by rfl) (sX5_writeName hE (gn_nm (gn_oS hg hdg)) hgo.1 (oP_S (tAdds_le hu)) hs2 (by omega)) rfl (by decide) (by decide) (by exact Nat.le_of_ble_eq_true rfl) (by omega) (by omega) (fun v9 g9 u9 h9 => ?_) (fun _ _ _ h => by cases h.1)
  obtain ⟨hv9, hu9, hg9⟩ := h9
  replace hu9 := hu9.symm
  replace hg9 := hg9.symm
  subst hu9
  subst hg9
  cases hv9
  refine v_hp (oS_S.trans (congrArg (oS f b) tAdds_app)) ?_
  refine v_aload_n dX0_writeTo_12 rfl (by rfl) ?_
  refine v_bipush (v := nI 9) dX0_writeTo_13 (by decide) ?_
  refine w_callV hE dX0_writeTo_15 kX0_152 (by first | assumption | exact (oP_S (tAdds_le hu)).1.1 | exact (oS_ne (by omega) (by omega)).trans (by assumption)) (by rfl) (by rfl) (uX6_add hE (oP_S (tAdds_le hu))) rfl (by decide) (by decide) (by exact Nat.le_of_ble_eq_true rfl) (by omega) (by omega) (fun v9 g9 u9 h9 => ?_) (fun _ _ _ h => by cases h.1)
  obtain ⟨hv9, hu9, hg9⟩ := h9
  replace hu9 := hu9.symm
  replace hg9 := hg9.symm
  subst hu9
  subst hg9
  cases hv9
  refine v_hp (oS_S.trans (congrArg (oS f b) tAdds_one)) ?_
  refine v_aload_n dX0_writeTo_18 rfl (by rfl) ?_
  refine v_aload_n dX0_writeTo_19 rfl (by rfl) ?_
  refine v_getf hE dX0_writeTo_20 fX0_52 (by first | assumption | exact (oP_S (tAdds_le hu)).1.1 | exact (oS_ne (by omega) (by omega)).trans (by assumption)) (by rfl) ?_
  refine w_callV hE dX0_writeTo_23 kX0_158 (by first | assumption | exact (oP_S (tAdds_le hu)).1.1 | exact (oS_ne (by omega) (by omega)).trans (by assumption)) (by rfl) (by rfl) (sX6_addNumber hE (oP_S (tAdds_le hu)) (by omega)) rfl (by decide) (by decide) (by exact Nat.le_of_ble_eq_true rfl) (by omega) (by omega) (fun v9 g9 u9 h9 => ?_) (fun _ _ _ h => by cases h.1)
  obtain ⟨hv9, hu9, hg9⟩ := h9
  replace hu9 := hu9.symm
  replace hg9 := hg9.symm
  subst hu9
  subst hg9
  cases hv9
  refine v_hp (oS_S.trans (congrArg (oS f b) tAdds_app)) ?_
  refine v_aload_n dX0_writeTo_26 rfl (by rfl) ?_
  refine v_bipush (v := nI 9) dX0_writeTo_27 (by decide) ?_
  refine w_callV hE dX0_writeTo_29 kX0_152 (by first | assumption | exact (oP_S (tAdds_le hu)).1.1 | exact (oS_ne (by omega) (by omega)).trans (by assumption)) (by rfl) (by rfl) (uX6_add hE (oP_S (tAdds_le hu))) rfl (by decide) (by decide) (by exact Nat.le_of_ble_eq_true rfl) (by omega) (by omega) (fun v9 g9 u9 h9 => ?_) (fun _ _ _ h => by cases h.1)
  obtain ⟨hv9, hu9, hg9⟩ := h9
  replace hu9 := hu9.symm
  replace hg9 := hg9.symm
  subst hu9
  subst hg9
  cases hv9
  refine v_hp (oS_S.trans (congrArg (oS f b) tAdds_one)) ?_
  refine v_aload_n dX0_writeTo_32 rfl (by rfl) ?_
  refine v_getf hE dX0_writeTo_33 fX0_62 (by first | assumption | exact (oP_S (tAdds_le hu)).1.1 | exact (oS_ne (by omega) (by omega)).trans (by assumption)) (by rfl) ?_
  refine v_if_neN (tgt := 45) dX0_writeTo_36 (by decide) (by omega) (fun c36 => ?_) (fun c36 => ?_)
  · refine v_aload_n dX0_writeTo_45 rfl (by rfl) ?_
    refine v_aload_n dX0_writeTo_46 rfl (by rfl) ?_
    refine v_getf hE dX0_writeTo_47 fX0_9 (by first | assumption | exact (oP_S (tAdds_le hu)).1.1 | exact (oS_ne (by omega) (by omega)).trans (by assumption)) (by rfl) ?_
    refine v_iconst (v := nI 0) dX0_writeTo_50 (by decide) ?_
    refine v_aload_n dX0_writeTo_51 rfl (by rfl) ?_
    refine v_getf hE dX0_writeTo_52 fX0_62 (by first | assumption | exact (oP_S (tAdds_le hu)).1.1 | exact (oS_ne (by omega) (by omega)).trans (by assumption)) (by rfl) ?_
    refine w_callV hE dX0_writeTo_55 kX0_161 (by first | assumption | exact (oP_S (tAdds_le hu)).1.1 | exact (oS_ne (by omega) (by omega)).trans (by assumption)) (by rfl) (by rfl) (sX6_addPart hE (oP_S (tAdds_le hu)) ((oS_ne (by omega) (by omega)).trans h1) (by omega) (by omega) (by omega) (by omega) (by omega)) rfl (by decide) (by decide) (by exact Nat.le_of_ble_eq_true rfl) (by omega) (by omega) (fun v9 g9 u9 h9 => ?_) (fun _ _ _ h => by cases h.1)
    obtain ⟨hv9, hu9, hg9⟩ := h9
    replace hu9 := hu9.symm
    replace hg9 := hg9.symm
    subst hu9
    subst hg9
    cases hv9
    refine v_hp (oS_S.trans (congrArg (oS f b) ((congrArg (fun l => tAdds _ (prt (eId v) l 0)) (show min (0 + eIz v) 20 - 0 = eIz v by omega)).trans tAdds_app))) ?_
    refine v_aload_n dX0_writeTo_58 rfl (by rfl) ?_
    refine v_bipush (v := nI 9) dX0_writeTo_59 (by decide) ?_
    refine w_callV hE dX0_writeTo_61 kX0_152 (by first | assumption | exact (oP_S (tAdds_le hu)).1.1 | exact (oS_ne (by omega) (by omega)).trans (by assumption)) (by rfl) (by rfl) (uX6_add hE (oP_S (tAdds_le hu))) rfl (by decide) (by decide) (by exact Nat.le_of_ble_eq_true rfl) (by omega) (by omega) (fun v9 g9 u9 h9 => ?_) (fun _ _ _ h => by cases h.1)
    obtain ⟨hv9, hu9, hg9⟩ := h9
    replace hu9 := hu9.symm
    replace hg9 := hg9.symm
    subst hu9
    subst hg9
    cases hv9
    refine v_hp (oS_S.trans (congrArg (oS f b) tAdds_one)) ?_
    refine v_aload_n dX0_writeTo_64 rfl (by rfl) ?_
    refine v_iconst (v := nI 0) dX0_writeTo_65 (by decide) ?_
    refine v_aload_n dX0_writeTo_66 rfl (by rfl) ?_
    refine w_callV hE dX0_writeTo_67 kX0_165 (by first | assumption | exact (oP_S (tAdds_le hu)).1.1 | exact (oS_ne (by omega) (by omega)).trans (by assumption)) (by rfl) (by rfl) (sX0_writeRow hE (en_oS h hd) hv (oP_S (tAdds_le hu)) hd (by omega)) rfl (by decide) (by decide) (by exact Nat.le_of_ble_eq_true rfl) (by omega) (by omega) (fun v9 g9 u9 h9 => ?_) (fun _ _ _ h => by cases h.1)
    obtain ⟨hv9, hu9, hg9⟩ := h9
    replace hu9 := hu9.symm
    replace hg9 := hg9.symm
    subst hu9
    subst hg9
    cases hv9
    refine v_hp (oS_S.trans (congrArg (oS f b) tAdds_app)) ?_
    refine v_aload_n dX0_writeTo_70 rfl (by rfl) ?_
    refine v_bipush (v := nI 9) dX0_writeTo_71 (by decide) ?_
    refine w_callV hE dX0_writeTo_73 kX0_152 (by first | assumption | exact (oP_S (tAdds_le hu)).1.1 | exact (oS_ne (by omega) (by omega)).trans (by assumption)) (by rfl) (by rfl) (uX6_add hE (oP_S (tAdds_le hu))) rfl (by decide) (by decide) (by exact Nat.le_of_ble_eq_true rfl) (by omega) (by omega) (fun v9 g9 u9 h9 => ?_) (fun _ _ _ h => by cases h.1)
    obtain ⟨hv9, hu9, hg9⟩ := h9
    replace hu9 := hu9.symm
    replace hg9 := hg9.symm
    subst hu9
    subst hg9
    cases hv9
    refine v_hp (oS_S.trans (congrArg (oS f b) tAdds_one)) ?_
    refine v_aload_n dX0_writeTo_76 rfl (by rfl) ?_
    refine v_aload_n dX0_writeTo_77 rfl (by rfl) ?_
    refine w_callV hE dX0_writeTo_78 kX0_168 (by first | assumption | exact (oP_S (tAdds_le hu)).1.1 | exact (oS_ne (by omega) (by omega)).trans (by assumption)) (by rfl) (by rfl) (sX0_writeAlts hE (en_oS h hd) hv (oP_S (tAdds_le hu)) hd) rfl (by decide) (by decide) (by exact Nat.le_of_ble_eq_true rfl) (by omega) (by omega) (fun v9 g9 u9 h9 => ?_) (fun _ _ _ h => by cases h.1)
    obtain ⟨hv9, hu9, hg9⟩ := h9
    replace hu9 := hu9.symm
    replace hg9 := hg9.symm
    subst hu9
    subst hg9
    cases hv9
    refine v_hp (oS_S.trans (congrArg (oS f b) tAdds_app)) ?_
    refine v_aload_n dX0_writeTo_81 rfl (by rfl) ?_
    refine v_bipush (v := nI 9) dX0_writeTo_82 (by decide) ?_
    refine w_callV hE dX0_writeTo_84 kX0_152 (by first | assumption | exact (oP_S (tAdds_le hu)).1.1 | exact (oS_ne (by omega) (by omega)).trans (by assumption)) (by rfl) (by rfl) (uX6_add hE (oP_S (tAdds_le hu))) rfl (by decide) (by decide) (by exact Nat.le_of_ble_eq_true rfl) (by omega) (by omega) (fun v9 g9 u9 h9 => ?_) (fun _ _ _ h => by cases h.1)
    obtain ⟨hv9, hu9, hg9⟩ := h9
    replace hu9 := hu9.symm
    replace hg9 := hg9.symm
    subst hu9
    subst hg9
    cases hv9
    refine v_hp (oS_S.trans (congrArg (oS f b) tAdds_one)) ?_
    refine v_aload_n dX0_writeTo_87 rfl (by rfl) ?_
    refine v_aload_n dX0_writeTo_88 rfl (by rfl) ?_
    refine v_getf hE dX0_writeTo_89 fX0_55 (by first | assumption | exact (oP_S (tAdds_le hu)).1.1 | exact (oS_ne (by omega) (by omega)).trans (by assumption)) (by rfl) ?_
    refine w_callV hE dX0_writeTo_92 kX0_172 (by first | assumption | exact (oP_S (tAdds_le hu)).1.1 | exact (oS_ne (by omega) (by omega)).trans (by assumption)) (by rfl) (by rfl) (sX6_addNumberOrPoint hE (oP_S (tAdds_le hu)) hqu) rfl (by decide) (by decide) (by exact Nat.le_of_ble_eq_true rfl) (by omega) (by omega) (fun v9 g9 u9 h9 => ?_) (fun _ _ _ h => by cases h.1)
    obtain ⟨hv9, hu9, hg9⟩ := h9
    replace hu9 := hu9.symm
    replace hg9 := hg9.symm
    subst hu9
    subst hg9
    cases hv9
    refine v_hp (oS_S.trans (congrArg (oS f b) tAdds_app)) ?_
    refine v_aload_n dX0_writeTo_95 rfl (by rfl) ?_
    refine v_bipush (v := nI 9) dX0_writeTo_96 (by decide) ?_
    refine w_callV hE dX0_writeTo_98 kX0_152 (by first | assumption | exact (oP_S (tAdds_le hu)).1.1 | exact (oS_ne (by omega) (by omega)).trans (by assumption)) (by rfl) (by rfl) (uX6_add hE (oP_S (tAdds_le hu))) rfl (by decide) (by decide) (by exact Nat.le_of_ble_eq_true rfl) (by omega) (by omega) (fun v9 g9 u9 h9 => ?_) (fun _ _ _ h => by cases h.1)
    obtain ⟨hv9, hu9, hg9⟩ := h9
    replace hu9 := hu9.symm
    replace hg9 := hg9.symm
    subst hu9
    subst hg9
    cases hv9
    refine v_hp (oS_S.trans (congrArg (oS f b) tAdds_one)) ?_
    refine v_aload_n dX0_writeTo_101 rfl (by rfl) ?_
    refine v_aload_n dX0_writeTo_102 rfl (by rfl) ?_
    refine v_getf hE dX0_writeTo_103 fX0_58 (by first | assumption | exact (oP_S (tAdds_le hu)).1.1 | exact (oS_ne (by omega) (by omega)).trans (by assumption)) (by rfl) ?_
    refine v_if_eqB (tgt := 114) dX0_writeTo_106 (by decide) (fun c106 => ?_) (fun c106 => ?_)
    · refine v_ldcS hS (r := (RX0, 177, ".", tx7)) dX0_writeTo_114 (by unfold strTab; repeat (first | exact List.Mem.head _ | apply List.Mem.tail)) rfl rfl (fun q114 hq114 => ?_)
      refine w_callV hE dX0_writeTo_116 kX0_179 (by first | assumption | exact (oP_S (tAdds_le hu)).1.1 | exact (oS_ne (by omega) (by omega)).trans (by assumption)) (by rfl) (by rfl) (sX6_addText hE (oP_S (tAdds_le hu)) hS (by assumption) (by decide) (by decide)) rfl (by decide) (by decide) (by exact Nat.le_of_ble_eq_true rfl) (by omega) (by omega) (fun v9 g9 u9 h9 => ?_) (fun _ _ _ h => by cases h.1)
      obtain ⟨hv9, hu9, hg9⟩ := h9
      replace hu9 := hu9.symm
      replace hg9 := hg9.symm
      subst hu9
      subst hg9
      cases hv9
      refine v_hp (oS_S.trans (congrArg (oS f b) tAdds_app)) ?_
      refine v_aload_n dX0_writeTo_119 rfl (by rfl) ?_
      refine v_bipush (v := nI 9) dX0_writeTo_120 (by decide) ?_
      refine w_callV hE dX0_writeTo_122 kX0_152 (by first | assumption | exact (oP_S (tAdds_le hu)).1.1 | exact (oS_ne (by omega) (by omega)).trans (by assumption)) (by rfl) (by rfl) (uX6_add hE (oP_S (tAdds_le hu))) rfl (by decide) (by decide) (by exact Nat.le_of_ble_eq_true rfl) (by omega) (by omega) (fun v9 g9 u9 h9 => ?_) (fun _ _ _ h => by cases h.1)
      obtain ⟨hv9, hu9, hg9⟩ := h9
      replace hu9 := hu9.symm
      replace hg9 := hg9.symm
      subst hu9
      subst hg9
      cases hv9
      refine v_hp (oS_S.trans (congrArg (oS f b) tAdds_one)) ?_
      refine v_aload_n dX0_writeTo_125 rfl (by rfl) ?_
      refine v_bipush (v := nI 46) dX0_writeTo_126 (by decide) ?_
      refine w_callV hE dX0_writeTo_128 kX0_152 (by first | assumption | exact (oP_S (tAdds_le hu)).1.1 | exact (oS_ne (by omega) (by omega)).trans (by assumption)) (by rfl) (by rfl) (uX6_add hE (oP_S (tAdds_le hu))) rfl (by decide) (by decide) (by exact Nat.le_of_ble_eq_true rfl) (by omega) (by omega) (fun v9 g9 u9 h9 => ?_) (fun _ _ _ h => by cases h.1)
      obtain ⟨hv9, hu9, hg9⟩ := h9
      replace hu9 := hu9.symm
      replace hg9 := hg9.symm
      subst hu9
      subst hg9
      cases hv9
      refine v_hp (oS_S.trans (congrArg (oS f b) tAdds_one)) ?_
      refine v_iload_n dX0_writeTo_131 rfl (by rfl) ?_
      refine v_if_leN (tgt := 147) dX0_writeTo_132 (by decide) (by omega) (fun c132 => ?_) (fun c132 => ?_)
      · refine v_iconst (v := nI 0) dX0_writeTo_147 (by decide) ?_
        refine v_istore dX0_writeTo_148 (by decide) ?_
        refine lp n 0 _ (by omega) ?_
        unfold eWr eWrH eWrR eWrP
        (first | rw [if_pos (by omega : eIz v = 0)] | rw [if_neg (by omega : ¬ eIz v = 0)])
        (first | rw [if_pos c106] | rw [if_neg (by rw [c106]; decide)])
        (first | rw [if_pos (by omega : n = 0)] | rw [if_neg (by omega : ¬ n = 0)])
        simp only [List.append_assoc, List.nil_append, List.append_nil]
      · refine v_aload_n dX0_writeTo_135 rfl (by rfl) ?_
        refine v_bipush (v := nI 9) dX0_writeTo_136 (by decide) ?_
        refine w_callV hE dX0_writeTo_138 kX0_152 (by first | assumption | exact (oP_S (tAdds_le hu)).1.1 | exact (oS_ne (by omega) (by omega)).trans (by assumption)) (by rfl) (by rfl) (uX6_add hE (oP_S (tAdds_le hu))) rfl (by decide) (by decide) (by exact Nat.le_of_ble_eq_true rfl) (by omega) (by omega) (fun v9 g9 u9 h9 => ?_) (fun _ _ _ h => by cases h.1)
        obtain ⟨hv9, hu9, hg9⟩ := h9
        replace hu9 := hu9.symm
        replace hg9 := hg9.symm
        subst hu9
        subst hg9
        cases hv9
        refine v_hp (oS_S.trans (congrArg (oS f b) tAdds_one)) ?_
        refine v_aload_n dX0_writeTo_141 rfl (by rfl) ?_
        refine v_ldcS hS (r := (RX0, 183, "GT", tx9)) dX0_writeTo_142 (by unfold strTab; repeat (first | exact List.Mem.head _ | apply List.Mem.tail)) rfl rfl (fun q142 hq142 => ?_)
        refine w_callV hE dX0_writeTo_144 kX0_179 (by first | assumption | exact (oP_S (tAdds_le hu)).1.1 | exact (oS_ne (by omega) (by omega)).trans (by assumption)) (by rfl) (by rfl) (sX6_addText hE (oP_S (tAdds_le hu)) hS (by assumption) (by decide) (by decide)) rfl (by decide) (by decide) (by exact Nat.le_of_ble_eq_true rfl) (by omega) (by omega) (fun v9 g9 u9 h9 => ?_) (fun _ _ _ h => by cases h.1)
        obtain ⟨hv9, hu9, hg9⟩ := h9
        replace hu9 := hu9.symm
        replace hg9 := hg9.symm
        subst hu9
        subst hg9
        cases hv9
        refine v_hp (oS_S.trans (congrArg (oS f b) tAdds_app)) ?_
        refine v_iconst (v := nI 0) dX0_writeTo_147 (by decide) ?_
        refine v_istore dX0_writeTo_148 (by decide) ?_
        refine lp n 0 _ (by omega) ?_
        unfold eWr eWrH eWrR eWrP
        (first | rw [if_pos (by omega : eIz v = 0)] | rw [if_neg (by omega : ¬ eIz v = 0)])
        (first | rw [if_pos c106] | rw [if_neg (by rw [c106]; decide)])
        (first | rw [if_pos (by omega : n = 0)] | rw [if_neg (by omega : ¬ n = 0)])
        simp only [List.append_assoc, List.nil_append, List.append_nil]
    · refine v_ldcS hS (r := (RX0, 175, "PASS", tx8)) dX0_writeTo_109 (by unfold strTab; repeat (first | exact List.Mem.head _ | apply List.Mem.tail)) rfl rfl (fun q109 hq109 => ?_)
      refine v_goto (tgt := 116) dX0_writeTo_111 (by decide) ?_
      refine w_callV hE dX0_writeTo_116 kX0_179 (by first | assumption | exact (oP_S (tAdds_le hu)).1.1 | exact (oS_ne (by omega) (by omega)).trans (by assumption)) (by rfl) (by rfl) (sX6_addText hE (oP_S (tAdds_le hu)) hS (by assumption) (by decide) (by decide)) rfl (by decide) (by decide) (by exact Nat.le_of_ble_eq_true rfl) (by omega) (by omega) (fun v9 g9 u9 h9 => ?_) (fun _ _ _ h => by cases h.1)
      obtain ⟨hv9, hu9, hg9⟩ := h9
      replace hu9 := hu9.symm
      replace hg9 := hg9.symm
      subst hu9
      subst hg9
      cases hv9
      refine v_hp (oS_S.trans (congrArg (oS f b) tAdds_app)) ?_
      refine v_aload_n dX0_writeTo_119 rfl (by rfl) ?_
      refine v_bipush (v := nI 9) dX0_writeTo_120 (by decide) ?_
      refine w_callV hE dX0_writeTo_122 kX0_152 (by first | assumption | exact (oP_S (tAdds_le hu)).1.1 | exact (oS_ne (by omega) (by omega)).trans (by assumption)) (by rfl) (by rfl) (uX6_add hE (oP_S (tAdds_le hu))) rfl (by decide) (by decide) (by exact Nat.le_of_ble_eq_true rfl) (by omega) (by omega) (fun v9 g9 u9 h9 => ?_) (fun _ _ _ h => by cases h.1)
      obtain ⟨hv9, hu9, hg9⟩ := h9
      replace hu9 := hu9.symm
      replace hg9 := hg9.symm
      subst hu9
      subst hg9
      cases hv9
      refine v_hp (oS_S.trans (congrArg (oS f b) tAdds_one)) ?_
      refine v_aload_n dX0_writeTo_125 rfl (by rfl) ?_
      refine v_bipush (v := nI 46) dX0_writeTo_126 (by decide) ?_
      refine w_callV hE dX0_writeTo_128 kX0_152 (by first | assumption | exact (oP_S (tAdds_le hu)).1.1 | exact (oS_ne (by omega) (by omega)).trans (by assumption)) (by rfl) (by rfl) (uX6_add hE (oP_S (tAdds_le hu))) rfl (by decide) (by decide) (by exact Nat.le_of_ble_eq_true rfl) (by omega) (by omega) (fun v9 g9 u9 h9 => ?_) (fun _ _ _ h => by cases h.1)
      obtain ⟨hv9, hu9, hg9⟩ := h9
      replace hu9 := hu9.symm
      replace hg9 := hg9.symm
      subst hu9
      subst hg9
      cases hv9
      refine v_hp (oS_S.trans (congrArg (oS f b) tAdds_one)) ?_
      refine v_iload_n dX0_writeTo_131 rfl (by rfl) ?_
      refine v_if_leN (tgt := 147) dX0_writeTo_132 (by decide) (by omega) (fun c132 => ?_) (fun c132 => ?_)
      · refine v_iconst (v := nI 0) dX0_writeTo_147 (by decide) ?_
        refine v_istore dX0_writeTo_148 (by decide) ?_
        refine lp n 0 _ (by omega) ?_
        unfold eWr eWrH eWrR eWrP
        (first | rw [if_pos (by omega : eIz v = 0)] | rw [if_neg (by omega : ¬ eIz v = 0)])
        (first | rw [if_pos c106] | rw [if_neg (by rw [c106]; decide)])
        (first | rw [if_pos (by omega : n = 0)] | rw [if_neg (by omega : ¬ n = 0)])
        simp only [List.append_assoc, List.nil_append, List.append_nil]
      · refine v_aload_n dX0_writeTo_135 rfl (by rfl) ?_
        refine v_bipush (v := nI 9) dX0_writeTo_136 (by decide) ?_
        refine w_callV hE dX0_writeTo_138 kX0_152 (by first | assumption | exact (oP_S (tAdds_le hu)).1.1 | exact (oS_ne (by omega) (by omega)).trans (by assumption)) (by rfl) (by rfl) (uX6_add hE (oP_S (tAdds_le hu))) rfl (by decide) (by decide) (by exact Nat.le_of_ble_eq_true rfl) (by omega) (by omega) (fun v9 g9 u9 h9 => ?_) (fun _ _ _ h => by cases h.1)
        obtain ⟨hv9, hu9, hg9⟩ := h9
        replace hu9 := hu9.symm
        replace hg9 := hg9.symm
        subst hu9
        subst hg9
        cases hv9
        refine v_hp (oS_S.trans (congrArg (oS f b) tAdds_one)) ?_
        refine v_aload_n dX0_writeTo_141 rfl (by rfl) ?_
        refine v_ldcS hS (r := (RX0, 183, "GT", tx9)) dX0_writeTo_142 (by unfold strTab; repeat (first | exact List.Mem.head _ | apply List.Mem.tail)) rfl rfl (fun q142 hq142 => ?_)
        refine w_callV hE dX0_writeTo_144 kX0_179 (by first | assumption | exact (oP_S (tAdds_le hu)).1.1 | exact (oS_ne (by omega) (by omega)).trans (by assumption)) (by rfl) (by rfl) (sX6_addText hE (oP_S (tAdds_le hu)) hS (by assumption) (by decide) (by decide)) rfl (by decide) (by decide) (by exact Nat.le_of_ble_eq_true rfl) (by omega) (by omega) (fun v9 g9 u9 h9 => ?_) (fun _ _ _ h => by cases h.1)
        obtain ⟨hv9, hu9, hg9⟩ := h9
        replace hu9 := hu9.symm
        replace hg9 := hg9.symm
        subst hu9
        subst hg9
        cases hv9
        refine v_hp (oS_S.trans (congrArg (oS f b) tAdds_app)) ?_
        refine v_iconst (v := nI 0) dX0_writeTo_147 (by decide) ?_
        refine v_istore dX0_writeTo_148 (by decide) ?_
        refine lp n 0 _ (by omega) ?_
        unfold eWr eWrH eWrR eWrP
        (first | rw [if_pos (by omega : eIz v = 0)] | rw [if_neg (by omega : ¬ eIz v = 0)])
        (first | rw [if_pos c106] | rw [if_neg (by rw [c106]; decide)])
        (first | rw [if_pos (by omega : n = 0)] | rw [if_neg (by omega : ¬ n = 0)])
        simp only [List.append_assoc, List.nil_append, List.append_nil]
  · refine v_aload_n dX0_writeTo_39 rfl (by rfl) ?_
    refine v_bipush (v := nI 46) dX0_writeTo_40 (by decide) ?_
    refine w_callV hE dX0_writeTo_42 kX0_152 (by first | assumption | exact (oP_S (tAdds_le hu)).1.1 | exact (oS_ne (by omega) (by omega)).trans (by assumption)) (by rfl) (by rfl) (uX6_add hE (oP_S (tAdds_le hu))) rfl (by decide) (by decide) (by exact Nat.le_of_ble_eq_true rfl) (by omega) (by omega) (fun v9 g9 u9 h9 => ?_) (fun _ _ _ h => by cases h.1)
    obtain ⟨hv9, hu9, hg9⟩ := h9
    replace hu9 := hu9.symm
    replace hg9 := hg9.symm
    subst hu9
    subst hg9
    cases hv9
    refine v_hp (oS_S.trans (congrArg (oS f b) tAdds_one)) ?_
    refine v_aload_n dX0_writeTo_45 rfl (by rfl) ?_
    refine v_aload_n dX0_writeTo_46 rfl (by rfl) ?_
    refine v_getf hE dX0_writeTo_47 fX0_9 (by first | assumption | exact (oP_S (tAdds_le hu)).1.1 | exact (oS_ne (by omega) (by omega)).trans (by assumption)) (by rfl) ?_
    refine v_iconst (v := nI 0) dX0_writeTo_50 (by decide) ?_
    refine v_aload_n dX0_writeTo_51 rfl (by rfl) ?_
    refine v_getf hE dX0_writeTo_52 fX0_62 (by first | assumption | exact (oP_S (tAdds_le hu)).1.1 | exact (oS_ne (by omega) (by omega)).trans (by assumption)) (by rfl) ?_
    refine w_callV hE dX0_writeTo_55 kX0_161 (by first | assumption | exact (oP_S (tAdds_le hu)).1.1 | exact (oS_ne (by omega) (by omega)).trans (by assumption)) (by rfl) (by rfl) (sX6_addPart hE (oP_S (tAdds_le hu)) ((oS_ne (by omega) (by omega)).trans h1) (by omega) (by omega) (by omega) (by omega) (by omega)) rfl (by decide) (by decide) (by exact Nat.le_of_ble_eq_true rfl) (by omega) (by omega) (fun v9 g9 u9 h9 => ?_) (fun _ _ _ h => by cases h.1)
    obtain ⟨hv9, hu9, hg9⟩ := h9
    replace hu9 := hu9.symm
    replace hg9 := hg9.symm
    subst hu9
    subst hg9
    cases hv9
    refine v_hp (oS_S.trans (congrArg (oS f b) ((congrArg (fun l => tAdds _ (prt (eId v) l 0)) (show min (0 + eIz v) 20 - 0 = eIz v by omega)).trans tAdds_app))) ?_
    refine v_aload_n dX0_writeTo_58 rfl (by rfl) ?_
    refine v_bipush (v := nI 9) dX0_writeTo_59 (by decide) ?_
    refine w_callV hE dX0_writeTo_61 kX0_152 (by first | assumption | exact (oP_S (tAdds_le hu)).1.1 | exact (oS_ne (by omega) (by omega)).trans (by assumption)) (by rfl) (by rfl) (uX6_add hE (oP_S (tAdds_le hu))) rfl (by decide) (by decide) (by exact Nat.le_of_ble_eq_true rfl) (by omega) (by omega) (fun v9 g9 u9 h9 => ?_) (fun _ _ _ h => by cases h.1)
    obtain ⟨hv9, hu9, hg9⟩ := h9
    replace hu9 := hu9.symm
    replace hg9 := hg9.symm
    subst hu9
    subst hg9
    cases hv9
    refine v_hp (oS_S.trans (congrArg (oS f b) tAdds_one)) ?_
    refine v_aload_n dX0_writeTo_64 rfl (by rfl) ?_
    refine v_iconst (v := nI 0) dX0_writeTo_65 (by decide) ?_
    refine v_aload_n dX0_writeTo_66 rfl (by rfl) ?_
    refine w_callV hE dX0_writeTo_67 kX0_165 (by first | assumption | exact (oP_S (tAdds_le hu)).1.1 | exact (oS_ne (by omega) (by omega)).trans (by assumption)) (by rfl) (by rfl) (sX0_writeRow hE (en_oS h hd) hv (oP_S (tAdds_le hu)) hd (by omega)) rfl (by decide) (by decide) (by exact Nat.le_of_ble_eq_true rfl) (by omega) (by omega) (fun v9 g9 u9 h9 => ?_) (fun _ _ _ h => by cases h.1)
    obtain ⟨hv9, hu9, hg9⟩ := h9
    replace hu9 := hu9.symm
    replace hg9 := hg9.symm
    subst hu9
    subst hg9
    cases hv9
    refine v_hp (oS_S.trans (congrArg (oS f b) tAdds_app)) ?_
    refine v_aload_n dX0_writeTo_70 rfl (by rfl) ?_
    refine v_bipush (v := nI 9) dX0_writeTo_71 (by decide) ?_
    refine w_callV hE dX0_writeTo_73 kX0_152 (by first | assumption | exact (oP_S (tAdds_le hu)).1.1 | exact (oS_ne (by omega) (by omega)).trans (by assumption)) (by rfl) (by rfl) (uX6_add hE (oP_S (tAdds_le hu))) rfl (by decide) (by decide) (by exact Nat.le_of_ble_eq_true rfl) (by omega) (by omega) (fun v9 g9 u9 h9 => ?_) (fun _ _ _ h => by cases h.1)
    obtain ⟨hv9, hu9, hg9⟩ := h9
    replace hu9 := hu9.symm
    replace hg9 := hg9.symm
    subst hu9
    subst hg9
    cases hv9
    refine v_hp (oS_S.trans (congrArg (oS f b) tAdds_one)) ?_
    refine v_aload_n dX0_writeTo_76 rfl (by rfl) ?_
    refine v_aload_n dX0_writeTo_77 rfl (by rfl) ?_
    refine w_callV hE dX0_writeTo_78 kX0_168 (by first | assumption | exact (oP_S (tAdds_le hu)).1.1 | exact (oS_ne (by omega) (by omega)).trans (by assumption)) (by rfl) (by rfl) (sX0_writeAlts hE (en_oS h hd) hv (oP_S (tAdds_le hu)) hd) rfl (by decide) (by decide) (by exact Nat.le_of_ble_eq_true rfl) (by omega) (by omega) (fun v9 g9 u9 h9 => ?_) (fun _ _ _ h => by cases h.1)
    obtain ⟨hv9, hu9, hg9⟩ := h9
    replace hu9 := hu9.symm
    replace hg9 := hg9.symm
    subst hu9
    subst hg9
    cases hv9
    refine v_hp (oS_S.trans (congrArg (oS f b) tAdds_app)) ?_
    refine v_aload_n dX0_writeTo_81 rfl (by rfl) ?_
    refine v_bipush (v := nI 9) dX0_writeTo_82 (by decide) ?_
    refine w_callV hE dX0_writeTo_84 kX0_152 (by first | assumption | exact (oP_S (tAdds_le hu)).1.1 | exact (oS_ne (by omega) (by omega)).trans (by assumption)) (by rfl) (by rfl) (uX6_add hE (oP_S (tAdds_le hu))) rfl (by decide) (by decide) (by exact Nat.le_of_ble_eq_true rfl) (by omega) (by omega) (fun v9 g9 u9 h9 => ?_) (fun _ _ _ h => by cases h.1)
    obtain ⟨hv9, hu9, hg9⟩ := h9
    replace hu9 := hu9.symm
    replace hg9 := hg9.symm
    subst hu9
    subst hg9
    cases hv9
    refine v_hp (oS_S.trans (congrArg (oS f b) tAdds_one)) ?_
    refine v_aload_n dX0_writeTo_87 rfl (by rfl) ?_
    refine v_aload_n dX0_writeTo_88 rfl (by rfl) ?_
    refine v_getf hE dX0_writeTo_89 fX0_55 (by first | assumption | exact (oP_S (tAdds_le hu)).1.1 | exact (oS_ne (by omega) (by omega)).trans (by assumption)) (by rfl) ?_
    refine w_callV hE dX0_writeTo_92 kX0_172 (by first | assumption | exact (oP_S (tAdds_le hu)).1.1 | exact (oS_ne (by omega) (by omega)).trans (by assumption)) (by rfl) (by rfl) (sX6_addNumberOrPoint hE (oP_S (tAdds_le hu)) hqu) rfl (by decide) (by decide) (by exact Nat.le_of_ble_eq_true rfl) (by omega) (by omega) (fun v9 g9 u9 h9 => ?_) (fun _ _ _ h => by cases h.1)
    obtain ⟨hv9, hu9, hg9⟩ := h9
    replace hu9 := hu9.symm
    replace hg9 := hg9.symm
    subst hu9
    subst hg9
    cases hv9
    refine v_hp (oS_S.trans (congrArg (oS f b) tAdds_app)) ?_
    refine v_aload_n dX0_writeTo_95 rfl (by rfl) ?_
    refine v_bipush (v := nI 9) dX0_writeTo_96 (by decide) ?_
    refine w_callV hE dX0_writeTo_98 kX0_152 (by first | assumption | exact (oP_S (tAdds_le hu)).1.1 | exact (oS_ne (by omega) (by omega)).trans (by assumption)) (by rfl) (by rfl) (uX6_add hE (oP_S (tAdds_le hu))) rfl (by decide) (by decide) (by exact Nat.le_of_ble_eq_true rfl) (by omega) (by omega) (fun v9 g9 u9 h9 => ?_) (fun _ _ _ h => by cases h.1)
    obtain ⟨hv9, hu9, hg9⟩ := h9
    replace hu9 := hu9.symm
    replace hg9 := hg9.symm
    subst hu9
    subst hg9
    cases hv9
    refine v_hp (oS_S.trans (congrArg (oS f b) tAdds_one)) ?_
    refine v_aload_n dX0_writeTo_101 rfl (by rfl) ?_
    refine v_aload_n dX0_writeTo_102 rfl (by rfl) ?_
    refine v_getf hE dX0_writeTo_103 fX0_58 (by first | assumption | exact (oP_S (tAdds_le hu)).1.1 | exact (oS_ne (by omega) (by omega)).trans (by assumption)) (by rfl) ?_
    refine v_if_eqB (tgt := 114) dX0_writeTo_106 (by decide) (fun c106 => ?_) (fun c106 => ?_)
    · refine v_ldcS hS (r := (RX0, 177, ".", tx7)) dX0_writeTo_114 (by unfold strTab; repeat (first | exact List.Mem.head _ | apply List.Mem.tail)) rfl rfl (fun q114 hq114 => ?_)
      refine w_callV hE dX0_writeTo_116 kX0_179 (by first | assumption | exact (oP_S (tAdds_le hu)).1.1 | exact (oS_ne (by omega) (by omega)).trans (by assumption)) (by rfl) (by rfl) (sX6_addText hE (oP_S (tAdds_le hu)) hS (by assumption) (by decide) (by decide)) rfl (by decide) (by decide) (by exact Nat.le_of_ble_eq_true rfl) (by omega) (by omega) (fun v9 g9 u9 h9 => ?_) (fun _ _ _ h => by cases h.1)
      obtain ⟨hv9, hu9, hg9⟩ := h9
      replace hu9 := hu9.symm
      replace hg9 := hg9.symm
      subst hu9
      subst hg9
      cases hv9
      refine v_hp (oS_S.trans (congrArg (oS f b) tAdds_app)) ?_
      refine v_aload_n dX0_writeTo_119 rfl (by rfl) ?_
      refine v_bipush (v := nI 9) dX0_writeTo_120 (by decide) ?_
      refine w_callV hE dX0_writeTo_122 kX0_152 (by first | assumption | exact (oP_S (tAdds_le hu)).1.1 | exact (oS_ne (by omega) (by omega)).trans (by assumption)) (by rfl) (by rfl) (uX6_add hE (oP_S (tAdds_le hu))) rfl (by decide) (by decide) (by exact Nat.le_of_ble_eq_true rfl) (by omega) (by omega) (fun v9 g9 u9 h9 => ?_) (fun _ _ _ h => by cases h.1)
      obtain ⟨hv9, hu9, hg9⟩ := h9
      replace hu9 := hu9.symm
      replace hg9 := hg9.symm
      subst hu9
      subst hg9
      cases hv9
      refine v_hp (oS_S.trans (congrArg (oS f b) tAdds_one)) ?_
      refine v_aload_n dX0_writeTo_125 rfl (by rfl) ?_
      refine v_bipush (v := nI 46) dX0_writeTo_126 (by decide) ?_
      refine w_callV hE dX0_writeTo_128 kX0_152 (by first | assumption | exact (oP_S (tAdds_le hu)).1.1 | exact (oS_ne (by omega) (by omega)).trans (by assumption)) (by rfl) (by rfl) (uX6_add hE (oP_S (tAdds_le hu))) rfl (by decide) (by decide) (by exact Nat.le_of_ble_eq_true rfl) (by omega) (by omega) (fun v9 g9 u9 h9 => ?_) (fun _ _ _ h => by cases h.1)
      obtain ⟨hv9, hu9, hg9⟩ := h9
      replace hu9 := hu9.symm
      replace hg9 := hg9.symm
      subst hu9
      subst hg9
      cases hv9
      refine v_hp (oS_S.trans (congrArg (oS f b) tAdds_one)) ?_
      refine v_iload_n dX0_writeTo_131 rfl (by rfl) ?_
      refine v_if_leN (tgt := 147) dX0_writeTo_132 (by decide) (by omega) (fun c132 => ?_) (fun c132 => ?_)
      · refine v_iconst (v := nI 0) dX0_writeTo_147 (by decide) ?_
        refine v_istore dX0_writeTo_148 (by decide) ?_
        refine lp n 0 _ (by omega) ?_
        unfold eWr eWrH eWrR eWrP
        (first | rw [if_pos (by omega : eIz v = 0)] | rw [if_neg (by omega : ¬ eIz v = 0)])
        (first | rw [if_pos c106] | rw [if_neg (by rw [c106]; decide)])
        (first | rw [if_pos (by omega : n = 0)] | rw [if_neg (by omega : ¬ n = 0)])
        simp only [List.append_assoc, List.nil_append, List.append_nil]
      · refine v_aload_n dX0_writeTo_135 rfl (by rfl) ?_
        refine v_bipush (v := nI 9) dX0_writeTo_136 (by decide) ?_
        refine w_callV hE dX0_writeTo_138 kX0_152 (by first | assumption | exact (oP_S (tAdds_le hu)).1.1 | exact (oS_ne (by omega) (by omega)).trans (by assumption)) (by rfl) (by rfl) (uX6_add hE (oP_S (tAdds_le hu))) rfl (by decide) (by decide) (by exact Nat.le_of_ble_eq_true rfl) (by omega) (by omega) (fun v9 g9 u9 h9 => ?_) (fun _ _ _ h => by cases h.1)
        obtain ⟨hv9, hu9, hg9⟩ := h9
        replace hu9 := hu9.symm
        replace hg9 := hg9.symm
        subst hu9
        subst hg9
        cases hv9
        refine v_hp (oS_S.trans (congrArg (oS f b) tAdds_one)) ?_
        refine v_aload_n dX0_writeTo_141 rfl (by rfl) ?_
        refine v_ldcS hS (r := (RX0, 183, "GT", tx9)) dX0_writeTo_142 (by unfold strTab; repeat (first | exact List.Mem.head _ | apply List.Mem.tail)) rfl rfl (fun q142 hq142 => ?_)
        refine w_callV hE dX0_writeTo_144 kX0_179 (by first | assumption | exact (oP_S (tAdds_le hu)).1.1 | exact (oS_ne (by omega) (by omega)).trans (by assumption)) (by rfl) (by rfl) (sX6_addText hE (oP_S (tAdds_le hu)) hS (by assumption) (by decide) (by decide)) rfl (by decide) (by decide) (by exact Nat.le_of_ble_eq_true rfl) (by omega) (by omega) (fun v9 g9 u9 h9 => ?_) (fun _ _ _ h => by cases h.1)
        obtain ⟨hv9, hu9, hg9⟩ := h9
        replace hu9 := hu9.symm
        replace hg9 := hg9.symm
        subst hu9
        subst hg9
        cases hv9
        refine v_hp (oS_S.trans (congrArg (oS f b) tAdds_app)) ?_
        refine v_iconst (v := nI 0) dX0_writeTo_147 (by decide) ?_
        refine v_istore dX0_writeTo_148 (by decide) ?_
        refine lp n 0 _ (by omega) ?_
        unfold eWr eWrH eWrR eWrP
        (first | rw [if_pos (by omega : eIz v = 0)] | rw [if_neg (by omega : ¬ eIz v = 0)])
        (first | rw [if_pos c106] | rw [if_neg (by rw [c106]; decide)])
        (first | rw [if_pos (by omega : n = 0)] | rw [if_neg (by omega : ¬ n = 0)])
        simp only [List.append_assoc, List.nil_append, List.append_nil]
    · refine v_ldcS hS (r := (RX0, 175, "PASS", tx8)) dX0_writeTo_109 (by unfold strTab; repeat (first | exact List.Mem.head _ | apply List.Mem.tail)) rfl rfl (fun q109 hq109 => ?_)
      refine v_goto (tgt := 116) dX0_writeTo_111 (by decide) ?_
      refine w_callV hE dX0_writeTo_116 kX0_179 (by first | assumption | exact (oP_S (tAdds_le hu)).1.1 | exact (oS_ne (by omega) (by omega)).trans (by assumption)) (by rfl) (by rfl) (sX6_addText hE (oP_S (tAdds_le hu)) hS (by assumption) (by decide) (by decide)) rfl (by decide) (by decide) (by exact Nat.le_of_ble_eq_true rfl) (by omega) (by omega) (fun v9 g9 u9 h9 => ?_) (fun _ _ _ h => by cases h.1)
      obtain ⟨hv9, hu9, hg9⟩ := h9
      replace hu9 := hu9.symm
      replace hg9 := hg9.symm
      subst hu9
      subst hg9
      cases hv9
      refine v_hp (oS_S.trans (congrArg (oS f b) tAdds_app)) ?_
      refine v_aload_n dX0_writeTo_119 rfl (by rfl) ?_
      refine v_bipush (v := nI 9) dX0_writeTo_120 (by decide) ?_
      refine w_callV hE dX0_writeTo_122 kX0_152 (by first | assumption | exact (oP_S (tAdds_le hu)).1.1 | exact (oS_ne (by omega) (by omega)).trans (by assumption)) (by rfl) (by rfl) (uX6_add hE (oP_S (tAdds_le hu))) rfl (by decide) (by decide) (by exact Nat.le_of_ble_eq_true rfl) (by omega) (by omega) (fun v9 g9 u9 h9 => ?_) (fun _ _ _ h => by cases h.1)
      obtain ⟨hv9, hu9, hg9⟩ := h9
      replace hu9 := hu9.symm
      replace hg9 := hg9.symm
      subst hu9
      subst hg9
      cases hv9
      refine v_hp (oS_S.trans (congrArg (oS f b) tAdds_one)) ?_
      refine v_aload_n dX0_writeTo_125 rfl (by rfl) ?_
      refine v_bipush (v := nI 46) dX0_writeTo_126 (by decide) ?_
      refine w_callV hE dX0_writeTo_128 kX0_152 (by first | assumption | exact (oP_S (tAdds_le hu)).1.1 | exact (oS_ne (by omega) (by omega)).trans (by assumption)) (by rfl) (by rfl) (uX6_add hE (oP_S (tAdds_le hu))) rfl (by decide) (by decide) (by exact Nat.le_of_ble_eq_true rfl) (by omega) (by omega) (fun v9 g9 u9 h9 => ?_) (fun _ _ _ h => by cases h.1)
      obtain ⟨hv9, hu9, hg9⟩ := h9
      replace hu9 := hu9.symm
      replace hg9 := hg9.symm
      subst hu9
      subst hg9
      cases hv9
      refine v_hp (oS_S.trans (congrArg (oS f b) tAdds_one)) ?_
      refine v_iload_n dX0_writeTo_131 rfl (by rfl) ?_
      refine v_if_leN (tgt := 147) dX0_writeTo_132 (by decide) (by omega) (fun c132 => ?_) (fun c132 => ?_)
      · refine v_iconst (v := nI 0) dX0_writeTo_147 (by decide) ?_
        refine v_istore dX0_writeTo_148 (by decide) ?_
        refine lp n 0 _ (by omega) ?_
        unfold eWr eWrH eWrR eWrP
        (first | rw [if_pos (by omega : eIz v = 0)] | rw [if_neg (by omega : ¬ eIz v = 0)])
        (first | rw [if_pos c106] | rw [if_neg (by rw [c106]; decide)])
        (first | rw [if_pos (by omega : n = 0)] | rw [if_neg (by omega : ¬ n = 0)])
        simp only [List.append_assoc, List.nil_append, List.append_nil]
      · refine v_aload_n dX0_writeTo_135 rfl (by rfl) ?_
        refine v_bipush (v := nI 9) dX0_writeTo_136 (by decide) ?_
        refine w_callV hE dX0_writeTo_138 kX0_152 (by first | assumption | exact (oP_S (tAdds_le hu)).1.1 | exact (oS_ne (by omega) (by omega)).trans (by assumption)) (by rfl) (by rfl) (uX6_add hE (oP_S (tAdds_le hu))) rfl (by decide) (by decide) (by exact Nat.le_of_ble_eq_true rfl) (by omega) (by omega) (fun v9 g9 u9 h9 => ?_) (fun _ _ _ h => by cases h.1)
        obtain ⟨hv9, hu9, hg9⟩ := h9
        replace hu9 := hu9.symm
        replace hg9 := hg9.symm
        subst hu9
        subst hg9
        cases hv9
        refine v_hp (oS_S.trans (congrArg (oS f b) tAdds_one)) ?_
        refine v_aload_n dX0_writeTo_141 rfl (by rfl) ?_
        refine v_ldcS hS (r := (RX0, 183, "GT", tx9)) dX0_writeTo_142 (by unfold strTab; repeat (first | exact List.Mem.head _ | apply List.Mem.tail)) rfl rfl (fun q142 hq142 => ?_)
        refine w_callV hE dX0_writeTo_144 kX0_179 (by first | assumption | exact (oP_S (tAdds_le hu)).1.1 | exact (oS_ne (by omega) (by omega)).trans (by assumption)) (by rfl) (by rfl) (sX6_addText hE (oP_S (tAdds_le hu)) hS (by assumption) (by decide) (by decide)) rfl (by decide) (by decide) (by exact Nat.le_of_ble_eq_true rfl) (by omega) (by omega) (fun v9 g9 u9 h9 => ?_) (fun _ _ _ h => by cases h.1)
        obtain ⟨hv9, hu9, hg9⟩ := h9
        replace hu9 := hu9.symm
        replace hg9 := hg9.symm
        subst hu9
        subst hg9
        cases hv9
        refine v_hp (oS_S.trans (congrArg (oS f b) tAdds_app)) ?_
        refine v_iconst (v := nI 0) dX0_writeTo_147 (by decide) ?_
        refine v_istore dX0_writeTo_148 (by decide) ?_
        refine lp n 0 _ (by omega) ?_
        unfold eWr eWrH eWrR eWrP
        (first | rw [if_pos (by omega : eIz v = 0)] | rw [if_neg (by omega : ¬ eIz v = 0)])
        (first | rw [if_pos c106] | rw [if_neg (by rw [c106]; decide)])
        (first | rw [if_pos (by omega : n = 0)] | rw [if_neg (by omega : ¬ n = 0)])
        simp only [List.append_assoc, List.nil_append, List.append_nil]
