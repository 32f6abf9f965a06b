/-! one column of a record -/
/-- the cells of record r are the same -/
def smR (y z : mV) (r : Nat) : Prop := z.1 20 r = y.1 20 r ∧ z.1 21 r = y.1 21 r ∧ z.1 23 r = y.1 23 r ∧ z.1 24 r = y.1 24 r ∧ z.1 27 r = y.1 27 r ∧ z.1 28 r = y.1 28 r ∧ (∀ k, k < 20 → z.1 22 (20 * r + k) = y.1 22 (20 * r + k)) ∧ (∀ q, q < 4 → z.1 26 (4 * r + q) = y.1 26 (4 * r + q)) ∧ (∀ q k, q < 4 → k < 26 → z.1 25 (26 * (4 * r + q) + k) = y.1 25 (26 * (4 * r + q) + k)) ∧ ∀ s, s < 3 → z.1 30 (3 * r + s) = y.1 30 (3 * r + s) ∧ z.1 31 (3 * r + s) = y.1 31 (3 * r + s) ∧ ∀ c, c < 2 → z.1 29 (6 * r + 2 * s + c) = y.1 29 (6 * r + 2 * s + c)
theorem smR_E {y z : mV} {r m : Nat} {w : eV} (h : smR y z r) (hw : mE y r w m) (ho : enOk w) (hm : m ≤ 3) : mE z r w m := by
  obtain ⟨a1, a2, a3, a4, a5, a6, a7, a8, a9, a10⟩ := h
  obtain ⟨e1, e2, e3, e4, e5, e6, e7, e8, e9, e10⟩ := hw
  have k1 := ho.1
  have k2 := ho.2.2.2
  refine ⟨a1.trans e1, a2.trans e2, a3.trans e3, fun k hk => (a7 k (by omega)).trans (e4 k hk), a4.trans e5, e6, fun q hq => ⟨(a8 q (by omega)).trans (e7 q hq).1, fun k hk => ?_⟩, a5.trans e8, a6.trans e9, fun s hs => ?_⟩
  · have := ho.2.1 q
    exact (a9 q k (by omega) (by omega)).trans ((e7 q hq).2 k hk)
  · obtain ⟨b1, b2, b3⟩ := a10 s (by omega)
    obtain ⟨c1, c2, c3⟩ := e10 s hs
    have := ho.2.2.1 s
    exact ⟨b1.trans c1, b2.trans c2, fun c hc => (b3 c (by omega)).trans (c3 c hc)⟩
theorem smR_r {y : mV} {r : Nat} {s : Nat → Int32} : smR y (y.1, s) r := ⟨rfl, rfl, rfl, rfl, rfl, rfl, fun _ _ => rfl, fun _ _ => rfl, fun _ _ _ _ => rfl, fun _ _ => ⟨rfl, rfl, fun _ _ => rfl⟩⟩
theorem smR_t {y z w : mV} {r : Nat} (h : smR y z r) (h2 : smR z w r) : smR y w r := by
  obtain ⟨a1, a2, a3, a4, a5, a6, a7, a8, a9, a10⟩ := h
  obtain ⟨b1, b2, b3, b4, b5, b6, b7, b8, b9, b10⟩ := h2
  exact ⟨b1.trans a1, b2.trans a2, b3.trans a3, b4.trans a4, b5.trans a5, b6.trans a6, fun k hk => (b7 k hk).trans (a7 k hk), fun q hq => (b8 q hq).trans (a8 q hq), fun q k hq hk => (b9 q k hq hk).trans (a9 q k hq hk), fun s hs => ⟨(b10 s hs).1.trans (a10 s hs).1, (b10 s hs).2.1.trans (a10 s hs).2.1, fun c hc => ((b10 s hs).2.2 c hc).trans ((a10 s hs).2.2 c hc)⟩⟩
/-- only record r has changed -/
def rFr (r : Nat) (y z : mV) : Prop := (∀ k, k < 20 ∨ 31 < k → z.1 k = y.1 k) ∧ aNw z.1 ∧ ∀ r', r' ≠ r → smR y z r'
theorem rFr_r {r : Nat} {y : mV} {s : Nat → Int32} (h : aNw y.1) : rFr r y (y.1, s) := ⟨fun _ _ => rfl, h, fun _ _ => smR_r⟩
/-- one cell of record r -/
theorem rFr_u {r k : Nat} {y v : mV} {x : Int32} {s : Nat → Int32} (h : rFr r y v) (hk : k = 20 ∨ k = 21 ∨ k = 23 ∨ k = 27) : rFr r y (va_up v.1 k (upd (v.1 k) r x), s) := by
  refine ⟨fun j hj => (va_up_ne _ _ (by omega)).trans (h.1 j hj), aNw_i h.2.1 (by rcases hk with e | e | e | e <;> subst e <;> rfl) (by omega), fun r' hr' => smR_t (h.2.2 r' hr') ?_⟩
  rcases hk with e | e | e | e <;> subst e <;> refine ⟨?_, ?_, ?_, ?_, ?_, ?_, fun _ _ => rfl, fun _ _ => rfl, fun _ _ _ _ => rfl, fun _ _ => ⟨rfl, rfl, fun _ _ => rfl⟩⟩ <;> first | rfl | exact updN hr'
theorem rFr_28 {r : Nat} {y v : mV} {b : Bool} {s : Nat → Int32} (h : rFr r y v) : rFr r y (va_up v.1 28 (upd (v.1 28) r (bI b)), s) := ⟨fun j hj => (va_up_ne _ _ (by omega)).trans (h.1 j hj), aNw_1 h.2.1 (fun z => by cases z) (fun _ => upd_nar (fun i => h.2.1.2.1 28 i rfl) nar_bb), fun r' hr' => smR_t (h.2.2 r' hr') ⟨rfl, rfl, rfl, rfl, rfl, updN hr', fun _ _ => rfl, fun _ _ => rfl, fun _ _ _ _ => rfl, fun _ _ => ⟨rfl, rfl, fun _ _ => rfl⟩⟩⟩
theorem rFr_22 {r i : Nat} {y v : mV} {x : Int32} {s : Nat → Int32} (h : rFr r y v) (hi : 20 * r ≤ i ∧ i < 20 * r + 20) (hx : vp_nar .byte x = x) : rFr r y (va_up v.1 22 (upd (v.1 22) i x), s) := ⟨fun j hj => (va_up_ne _ _ (by omega)).trans (h.1 j hj), aNw_1 h.2.1 (fun _ => upd_nar (fun i => h.2.1.1 22 i rfl) hx) (fun z => by cases z), fun r' hr' => smR_t (h.2.2 r' hr') ⟨rfl, rfl, rfl, rfl, rfl, rfl, fun k hk => updN (by omega), fun _ _ => rfl, fun _ _ _ _ => rfl, fun _ _ => ⟨rfl, rfl, fun _ _ => rfl⟩⟩⟩
theorem rFr_Al {r : Nat} {y z : mV} (h : rAl r y z) : rFr r y z := by
  obtain ⟨h1, h2, h3, h4, h5⟩ := h
  refine ⟨fun k hk => h1 k (by omega) (by omega) (by omega), h5, fun r' hr' => ⟨congrFun (h1 20 (by decide) (by decide) (by decide)) _, congrFun (h1 21 (by decide) (by decide) (by decide)) _, congrFun (h1 23 (by decide) (by decide) (by decide)) _, h2 r' hr', congrFun (h1 27 (by decide) (by decide) (by decide)) _, congrFun (h1 28 (by decide) (by decide) (by decide)) _, fun k hk => congrFun (h1 22 (by decide) (by decide) (by decide)) _, fun q hq => h3 _ (by omega), fun q k hq hk => h4 _ (by omega), fun s hs => ⟨congrFun (h1 30 (by decide) (by decide) (by decide)) _, congrFun (h1 31 (by decide) (by decide) (by decide)) _, fun c hc => congrFun (h1 29 (by decide) (by decide) (by decide)) _⟩⟩⟩
theorem rFr_Rw {r q : Nat} {y z : mV} {s : Nat → Int32} (h : rRw r q (y.1, s) z) (hq : q < 4) : rFr r y z := rFr_Al ⟨fun k _ b c => h.2.1 k b c, fun i _ => congrFun (h.2.1 24 (by decide) (by decide)) i, fun i hi => h.2.2.1 i (by omega), fun i hi => h.2.2.2.1 i (by omega), h.2.2.2.2⟩
theorem rFr_Cl {r s : Nat} {y z : mV} (h : rCl r s y z) (hs : s < 3) : rFr r y z := by
  obtain ⟨h1, h2, h3, h4⟩ := h
  refine ⟨fun k hk => h1 k (by omega) (by omega) (by omega), h4, fun r' hr' => ⟨congrFun (h1 20 (by decide) (by decide) (by decide)) _, congrFun (h1 21 (by decide) (by decide) (by decide)) _, congrFun (h1 23 (by decide) (by decide) (by decide)) _, congrFun (h1 24 (by decide) (by decide) (by decide)) _, congrFun (h1 27 (by decide) (by decide) (by decide)) _, congrFun (h1 28 (by decide) (by decide) (by decide)) _, fun k hk => congrFun (h1 22 (by decide) (by decide) (by decide)) _, fun q hq => congrFun (h1 26 (by decide) (by decide) (by decide)) _, fun q k hq hk => congrFun (h1 25 (by decide) (by decide) (by decide)) _, fun t ht => ⟨(h2 _ (by omega)).1, (h2 _ (by omega)).2, fun c hc => h3 _ (by omega)⟩⟩⟩
/-- the first c columns of record r are those of w -/
def mP (v : mV) (r : Nat) (w : eV) (c : Nat) : Prop := (0 < c → v.1 20 r = eSq w) ∧ (1 < c → v.1 21 r = ePl w) ∧ (2 < c → v.1 23 r = nI (eIz w) ∧ ∀ k, k < eIz w → v.1 22 (20 * r + k) = eId w k) ∧ (c = 4 → eRo w = 1 ∧ rwA v r 0 (eRs w 0) (fun k => eLe w (0 * 24 + k))) ∧ (4 < c → rwW v r w) ∧ (5 < c → v.1 27 r = eQu w) ∧ (6 < c → v.1 28 r = bI (ePa w)) ∧ ∀ s, 9 + s < c → v.1 30 (3 * r + s) = nI (eCn w s) ∧ v.1 31 (3 * r + s) = bI (ePh w s) ∧ ∀ k, k < eCn w s → v.1 29 (6 * r + 2 * s + k) = eCa w (s * 2 + k)
theorem mP_E {v : mV} {r c n : Nat} {w : eV} (h : mP v r w c) (hc : 7 < c) (hn : n ≤ c - 9) (h1 : 1 ≤ eRo w) : mE v r w n := by
  obtain ⟨a1, a2, a3, a4, a5, a6, a7, a8⟩ := h
  have q := a5 (by omega)
  exact ⟨a1 (by omega), a2 (by omega), (a3 (by omega)).1, (a3 (by omega)).2, q.1, h1, fun k hk => q.2 k hk, a6 (by omega), a7 (by omega), fun s hs => a8 s (by omega)⟩
theorem qIdL_f {u : tS} : ∀ (d k : Nat) (w : eV), eIz w + d ≤ 20 → ∃ I : Nat → Int32, qIdL u d k w = wIz (wId w I) (eIz w + d) ∧ ∀ j, I j = if eIz w ≤ j ∧ j < eIz w + d then mOct u (k + (j - eIz w)) else eId w j := by
  intro d
  induction d with
  | zero => intro k w h; exact ⟨eId w, rfl, fun j => (if_neg (by omega)).symm⟩
  | succ d ih =>
    intro k w h
    have e0 : eAddI w (mOct u k) = wIz (wId w (upd (eId w) (eIz w) (mOct u k))) (eIz w + 1) := if_pos (by omega)
    have e : qIdL u (d + 1) k w = qIdL u d (k + 1) (eAddI w (mOct u k)) := rfl
    rw [e, e0]
    obtain ⟨I, a1, a2⟩ := ih (k + 1) (wIz (wId w (upd (eId w) (eIz w) (mOct u k))) (eIz w + 1)) (by show eIz w + 1 + d ≤ 20; omega)
    refine ⟨I, ?_, fun j => ?_⟩
    · rw [a1]
      show wIz (wId w I) (eIz w + 1 + d) = _
      rw [show eIz w + 1 + d = eIz w + (d + 1) by omega]
    · rw [a2 j]
      show (if eIz w + 1 ≤ j ∧ j < eIz w + 1 + d then mOct u (k + 1 + (j - (eIz w + 1))) else upd (eId w) (eIz w) (mOct u k) j) = _
      by_cases c1 : j = eIz w
      · subst c1
        rw [if_neg (by omega), updS, if_pos (by omega), Nat.sub_self, Nat.add_zero]
      · by_cases c2 : eIz w + 1 ≤ j ∧ j < eIz w + 1 + d
        · rw [if_pos c2, if_pos (by omega), show k + 1 + (j - (eIz w + 1)) = k + (j - eIz w) by omega]
        · rw [if_neg c2, if_neg (by omega), updN c1]
set_option maxRecDepth 100000 in
set_option maxHeartbeats 1500000 in
/-- model: readColumn -/
theorem sX10_readColumn0 {E : eN} (hE : eOk E) {f : aH} {t : Nat} {M : Nat} {y : mV} {u : tS} {r i j : Nat} {w : eV} {g : gV} (hp : mTp y u) (hO : aNw y.1) (hF : y.2 43 = nI 0) (hr : r < 240) (hij : i ≤ j) (hj : j ≤ u.1) (hmP : mP y r w 0) (hg : mGn y g) (hgo : gOk g) : mT E mX10_readColumn 0 0 [.ref M, .int (nI r), .int (nI 0), .int (nI i), .int (nI j)] (mdS f M y) t (fun o f' t' => o = .inl none ∧ t' = t ∧ ∃ y', f' = mdS f M y' ∧ rFr r y y' ∧ fO y.2 y'.2 (if (nmIn 8 g.1 u i j) = -1 then 4 else 0) i ∧ ((if (nmIn 8 g.1 u i j) = -1 then 4 else 0) = 0 → mP y' r (wSq w (nmIn 8 g.1 u i j)) 1)) := by
  refine mT_of (n := 1) (lo := [some (.ref M), some (.int (nI r)), some (.int (nI 0)), some (.int (nI i)), some (.int (nI j)), none]) (by decide) (by exact Nat.le_of_ble_eq_true rfl) rfl rfl ?_
  have hu8 := hp.2.1
  obtain ⟨a0, a1, a2, a3, a4, a5, a6, a7⟩ := id hmP
  refine v_iload_n dX10_readColumn_0 rfl (by rfl) ?_
  refine v_tableIn (off := 51) (tgt := 52) dX10_readColumn_1 (by decide) (by decide) (by decide) (by decide) ?_
  refine v_aload_n dX10_readColumn_52 rfl (by rfl) ?_
  refine v_getf hE dX10_readColumn_53 fX10_72 mdS_M (by rfl) ?_
  refine v_iload_n dX10_readColumn_56 rfl (by rfl) ?_
  refine v_aload_n dX10_readColumn_57 rfl (by rfl) ?_
  refine v_iload_n dX10_readColumn_58 rfl (by rfl) ?_
  refine v_iload dX10_readColumn_59 (by rfl) ?_
  refine w_callV hE dX10_readColumn_61 kX10_264 mdS_M (by rfl) (by rfl) (sX10_sequenceNamed hE hp hg hgo hij hj) rfl (by decide) (by decide) (by exact Nat.le_of_ble_eq_true rfl) (by omega) (by omega) (fun v9 g9 u9 h9 => ?_) (fun _ _ _ h => by cases h.1)
  obtain ⟨hv9, hu9, hg9⟩ := h9
  replace hu9 := hu9.symm
  subst hu9
  subst hg9
  cases hv9
  refine m_iast hE (k := 20) dX10_readColumn_64 (by decide) (by decide) rfl (show _ < 240 by omega) (by omega) ?_
  refine v_aload_n dX10_readColumn_65 rfl (by rfl) ?_
  refine v_getf hE dX10_readColumn_66 fX10_72 mdS_M (by rfl) ?_
  refine v_iload_n dX10_readColumn_69 rfl (by rfl) ?_
  refine m_iald hE (k := 20) dX10_readColumn_70 (by decide) (by decide) rfl (show _ < 240 by omega) (by omega) ?_
  refine v_eqi (y := (nmIn 8 g.1 u i j)) updS ?_
  refine v_iconst (v := (-1)) dX10_readColumn_71 (by decide) ?_
  refine v_icmp_ne (tgt := 378) dX10_readColumn_72 (by decide) (fun c72 => ?_) (fun c72 => ?_)
  · refine v_ret dX10_readColumn_378 rfl ?_
    have hz : (if (nmIn 8 g.1 u i j) = -1 then 4 else 0) = 0 := if_neg c72
    refine ⟨rfl, rfl, _, rfl, rFr_u (rFr_r (s := y.2) hO) (by decide), (by rw [hz]; exact Or.inl ⟨rfl, rfl⟩), fun _ => ⟨fun _ => updS, fun h => absurd h (by decide), fun h => absurd h (by decide), fun h => absurd h (by decide), fun h => absurd h (by decide), fun h => absurd h (by decide), fun h => absurd h (by decide), fun s h => absurd h (by omega)⟩⟩
  · refine v_aload_n dX10_readColumn_75 rfl (by rfl) ?_
    refine v_iconst (v := nI 4) dX10_readColumn_76 (by decide) ?_
    refine v_iload_n dX10_readColumn_77 rfl (by rfl) ?_
    refine w_callV hE dX10_readColumn_78 kX10_160 mdS_M (by rfl) (by rfl) (sX10_bad hE) rfl (by decide) (by decide) (by exact Nat.le_of_ble_eq_true rfl) (by omega) (by omega) (fun v9 g9 u9 h9 => ?_) (fun _ _ _ h => by cases h.1)
    obtain ⟨hv9, hu9, hg9⟩ := h9
    replace hu9 := hu9.symm
    subst hu9
    subst hg9
    cases hv9
    rw [mBad_0 (y := (va_up y.1 20 (upd (y.1 20) r (nmIn 8 g.1 u i j)), y.2)) hF]
    refine v_goto (tgt := 378) dX10_readColumn_81 (by decide) ?_
    refine v_ret dX10_readColumn_378 rfl ?_
    have hz : (if (nmIn 8 g.1 u i j) = -1 then 4 else 0) = 4 := if_pos c72
    refine ⟨rfl, rfl, _, rfl, rFr_u (rFr_r (s := y.2) hO) (by decide), (by rw [hz]; exact fO_b (by decide)), fun z => absurd (hz.symm.trans z) (by decide)⟩

theorem le0 {x : Int32} (h : x < nI 1) : x ≤ 0 := by
  rw [Int32.lt_iff_toInt_lt] at h
  rw [Int32.le_iff_toInt_le]
  have e1 : (nI 1).toInt = 1 := by decide
  have e0 : (0 : Int32).toInt = 0 := by decide
  omega
set_option maxRecDepth 100000 in
set_option maxHeartbeats 1500000 in
/-- model: readColumn -/
theorem sX10_readColumn1 {E : eN} (hE : eOk E) {f : aH} {t : Nat} {M : Nat} {y : mV} {u : tS} {r i j : Nat} {w : eV} {g : gV} {s : Nat} (hp : mTp y u) (hO : aNw y.1) (hF : y.2 43 = nI 0) (hr : r < 240) (hij : i ≤ j) (hj : j ≤ u.1) (hmP : mP y r w 1) (hg : mGn y g) (hgo : gOk g) (hs : eSq w = nI s) (hs2 : s < gCt g) : mT E mX10_readColumn 0 0 [.ref M, .int (nI r), .int (nI 1), .int (nI i), .int (nI j)] (mdS f M y) t (fun o f' t' => o = .inl none ∧ t' = t ∧ ∃ y', f' = mdS f M y' ∧ rFr r y y' ∧ fO y.2 y'.2 (if (tNum u i j (gSz g s)) ≤ 0 then 4 else 0) i ∧ ((if (tNum u i j (gSz g s)) ≤ 0 then 4 else 0) = 0 → mP y' r (wPl w (tNum u i j (gSz g s))) 2)) := by
  refine mT_of (n := 1) (lo := [some (.ref M), some (.int (nI r)), some (.int (nI 1)), some (.int (nI i)), some (.int (nI j)), none]) (by decide) (by exact Nat.le_of_ble_eq_true rfl) rfl rfl ?_
  have hu8 := hp.2.1
  obtain ⟨a0, a1, a2, a3, a4, a5, a6, a7⟩ := id hmP
  refine v_iload_n dX10_readColumn_0 rfl (by rfl) ?_
  refine v_tableIn (off := 83) (tgt := 84) dX10_readColumn_1 (by decide) (by decide) (by decide) (by decide) ?_
  have hb1 := hgo.2.2.2 s hs2
  have hb2 := hgo.2.2.1
  have hb3 := hgo.1.1
  have hb4 := hgo.2.1
  refine v_aload_n dX10_readColumn_84 rfl (by rfl) ?_
  refine v_getf hE dX10_readColumn_85 fX10_75 mdS_M (by rfl) ?_
  refine v_iload_n dX10_readColumn_88 rfl (by rfl) ?_
  refine v_aload_n dX10_readColumn_89 rfl (by rfl) ?_
  refine v_iload_n dX10_readColumn_90 rfl (by rfl) ?_
  refine v_iload dX10_readColumn_91 (by rfl) ?_
  refine v_aload_n dX10_readColumn_93 rfl (by rfl) ?_
  refine v_getf hE dX10_readColumn_94 fX10_30 mdS_M (by rfl) ?_
  refine v_aload_n dX10_readColumn_97 rfl (by rfl) ?_
  refine v_getf hE dX10_readColumn_98 fX10_72 mdS_M (by rfl) ?_
  refine v_iload_n dX10_readColumn_101 rfl (by rfl) ?_
  refine m_iald hE (k := 20) dX10_readColumn_102 (by decide) (by decide) rfl (show _ < 240 by omega) (by omega) ?_
  refine v_eqi (y := nI s) ((a0 (by decide)).trans hs) ?_
  refine m_iald hE (k := 6) dX10_readColumn_103 (by decide) (by decide) rfl (show _ < 9 by omega) (by omega) ?_
  refine v_eqi (y := nI (gSz g s)) (hg.2.1 s hs2).2.2.2.1 ?_
  refine w_callV hE dX10_readColumn_104 kX10_267 mdS_M (by rfl) (by rfl) (sX10_numberOf hE hp hij (by omega) (by omega)) rfl (by decide) (by decide) (by exact Nat.le_of_ble_eq_true rfl) (by omega) (by omega) (fun v9 g9 u9 h9 => ?_) (fun _ _ _ h => by cases h.1)
  obtain ⟨hv9, hu9, hg9⟩ := h9
  replace hu9 := hu9.symm
  subst hu9
  subst hg9
  cases hv9
  refine m_iast hE (k := 21) dX10_readColumn_107 (by decide) (by decide) rfl (show _ < 240 by omega) (by omega) ?_
  refine v_aload_n dX10_readColumn_108 rfl (by rfl) ?_
  refine v_getf hE dX10_readColumn_109 fX10_75 mdS_M (by rfl) ?_
  refine v_iload_n dX10_readColumn_112 rfl (by rfl) ?_
  refine m_iald hE (k := 21) dX10_readColumn_113 (by decide) (by decide) rfl (show _ < 240 by omega) (by omega) ?_
  refine v_eqi (y := (tNum u i j (gSz g s))) updS ?_
  refine v_iconst (v := nI 1) dX10_readColumn_114 (by decide) ?_
  refine v_icmp_ge (tgt := 378) dX10_readColumn_115 (by decide) (fun c115 => ?_) (fun c115 => ?_)
  · refine v_ret dX10_readColumn_378 rfl ?_
    have hz : (if (tNum u i j (gSz g s)) ≤ 0 then 4 else 0) = 0 := if_neg (fun z => absurd (Int32.le_trans c115 z) (by decide))
    refine ⟨rfl, rfl, _, rfl, rFr_u (rFr_r (s := y.2) hO) (by decide), (by rw [hz]; exact Or.inl ⟨rfl, rfl⟩), fun _ => ⟨fun _ => a0 (by decide), fun _ => updS, fun h => absurd h (by decide), fun h => absurd h (by decide), fun h => absurd h (by decide), fun h => absurd h (by decide), fun h => absurd h (by decide), fun s h => absurd h (by omega)⟩⟩
  · refine v_aload_n dX10_readColumn_118 rfl (by rfl) ?_
    refine v_iconst (v := nI 4) dX10_readColumn_119 (by decide) ?_
    refine v_iload_n dX10_readColumn_120 rfl (by rfl) ?_
    refine w_callV hE dX10_readColumn_121 kX10_160 mdS_M (by rfl) (by rfl) (sX10_bad hE) rfl (by decide) (by decide) (by exact Nat.le_of_ble_eq_true rfl) (by omega) (by omega) (fun v9 g9 u9 h9 => ?_) (fun _ _ _ h => by cases h.1)
    obtain ⟨hv9, hu9, hg9⟩ := h9
    replace hu9 := hu9.symm
    subst hu9
    subst hg9
    cases hv9
    rw [mBad_0 (y := (va_up y.1 21 (upd (y.1 21) r (tNum u i j (gSz g s))), y.2)) hF]
    refine v_goto (tgt := 378) dX10_readColumn_124 (by decide) ?_
    refine v_ret dX10_readColumn_378 rfl ?_
    have hz : (if (tNum u i j (gSz g s)) ≤ 0 then 4 else 0) = 4 := if_pos (le0 (Int32.not_le.mp c115))
    refine ⟨rfl, rfl, _, rfl, rFr_u (rFr_r (s := y.2) hO) (by decide), (by rw [hz]; exact fO_b (by decide)), fun z => absurd (hz.symm.trans z) (by decide)⟩

set_option maxRecDepth 100000 in
set_option maxHeartbeats 1500000 in
/-- model: readColumn -/
theorem sX10_readColumn5 {E : eN} (hE : eOk E) {f : aH} {t : Nat} {M : Nat} {y : mV} {u : tS} {r i j : Nat} {w : eV}  (hp : mTp y u) (hO : aNw y.1) (hF : y.2 43 = nI 0) (hr : r < 240) (hij : i ≤ j) (hj : j ≤ u.1) (hmP : mP y r w 5)  : mT E mX10_readColumn 0 0 [.ref M, .int (nI r), .int (nI 5), .int (nI i), .int (nI j)] (mdS f M y) t (fun o f' t' => o = .inl none ∧ t' = t ∧ ∃ y', f' = mdS f M y' ∧ rFr r y y' ∧ fO y.2 y'.2 (if (tNum u i j 999999) = -1 ∧ ¬ tIs u i j tx7 = true then 4 else 0) i ∧ ((if (tNum u i j 999999) = -1 ∧ ¬ tIs u i j tx7 = true then 4 else 0) = 0 → mP y' r (wQu w (tNum u i j 999999)) 6)) := by
  refine mT_of (n := 1) (lo := [some (.ref M), some (.int (nI r)), some (.int (nI 5)), some (.int (nI i)), some (.int (nI j)), none]) (by decide) (by exact Nat.le_of_ble_eq_true rfl) rfl rfl ?_
  have hu8 := hp.2.1
  obtain ⟨a0, a1, a2, a3, a4, a5, a6, a7⟩ := id hmP
  refine v_iload_n dX10_readColumn_0 rfl (by rfl) ?_
  refine v_tableIn (off := 236) (tgt := 237) dX10_readColumn_1 (by decide) (by decide) (by decide) (by decide) ?_
  refine v_aload_n dX10_readColumn_237 rfl (by rfl) ?_
  refine v_getf hE dX10_readColumn_238 fX10_93 mdS_M (by rfl) ?_
  refine v_iload_n dX10_readColumn_241 rfl (by rfl) ?_
  refine v_aload_n dX10_readColumn_242 rfl (by rfl) ?_
  refine v_iload_n dX10_readColumn_243 rfl (by rfl) ?_
  refine v_iload dX10_readColumn_244 (by rfl) ?_
  refine v_ldcw hE (v := nI 999999) dX10_readColumn_246 (mem_at (j := 1706) (by decide +kernel)) ?_
  refine w_callV hE dX10_readColumn_249 kX10_267 mdS_M (by rfl) (by rfl) (sX10_numberOf hE hp hij (by omega) (by decide)) rfl (by decide) (by decide) (by exact Nat.le_of_ble_eq_true rfl) (by omega) (by omega) (fun v9 g9 u9 h9 => ?_) (fun _ _ _ h => by cases h.1)
  obtain ⟨hv9, hu9, hg9⟩ := h9
  replace hu9 := hu9.symm
  subst hu9
  subst hg9
  cases hv9
  refine m_iast hE (k := 27) dX10_readColumn_252 (by decide) (by decide) rfl (show _ < 240 by omega) (by omega) ?_
  refine v_aload_n dX10_readColumn_253 rfl (by rfl) ?_
  refine v_getf hE dX10_readColumn_254 fX10_93 mdS_M (by rfl) ?_
  refine v_iload_n dX10_readColumn_257 rfl (by rfl) ?_
  refine m_iald hE (k := 27) dX10_readColumn_258 (by decide) (by decide) rfl (show _ < 240 by omega) (by omega) ?_
  refine v_eqi (y := (tNum u i j 999999)) updS ?_
  refine v_iconst (v := (-1)) dX10_readColumn_259 (by decide) ?_
  refine v_icmp_ne (tgt := 378) dX10_readColumn_260 (by decide) (fun c260 => ?_) (fun c260 => ?_)
  · refine v_ret dX10_readColumn_378 rfl ?_
    have hz : (if (tNum u i j 999999) = -1 ∧ ¬ tIs u i j tx7 = true then 4 else 0) = 0 := if_neg (fun z => by first | exact c260 z.1 | exact z.2 c271)
    refine ⟨rfl, rfl, _, rfl, rFr_u (rFr_r (s := y.2) hO) (by decide), (by rw [hz]; exact Or.inl ⟨rfl, rfl⟩), fun _ => ⟨fun _ => a0 (by decide), fun _ => a1 (by decide), fun _ => a2 (by decide), fun h => absurd h (by decide), fun _ => a4 (by decide), fun _ => updS, fun h => absurd h (by decide), fun s h => absurd h (by omega)⟩⟩
  · refine v_aload_n dX10_readColumn_263 rfl (by rfl) ?_
    refine v_iload_n dX10_readColumn_264 rfl (by rfl) ?_
    refine v_iload dX10_readColumn_265 (by rfl) ?_
    refine v_iconst (v := nI 5) dX10_readColumn_267 (by decide) ?_
    refine w_callV hE dX10_readColumn_268 kX10_241 mdS_M (by rfl) (by rfl) (sX10_isText hE (y := (va_up y.1 27 (upd (y.1 27) r (tNum u i j 999999)), y.2)) (u := u) hp (by decide) hij (by omega)) rfl (by decide) (by decide) (by exact Nat.le_of_ble_eq_true rfl) (by omega) (by omega) (fun v9 g9 u9 h9 => ?_) (fun _ _ _ h => by cases h.1)
    obtain ⟨hv9, hu9, hg9⟩ := h9
    replace hu9 := hu9.symm
    subst hu9
    subst hg9
    cases hv9
    refine v_if_neB (tgt := 378) dX10_readColumn_271 (by decide) (fun c271 => ?_) (fun c271 => ?_)
    · refine v_ret dX10_readColumn_378 rfl ?_
      have hz : (if (tNum u i j 999999) = -1 ∧ ¬ tIs u i j tx7 = true then 4 else 0) = 0 := if_neg (fun z => by first | exact c260 z.1 | exact z.2 c271)
      refine ⟨rfl, rfl, _, rfl, rFr_u (rFr_r (s := y.2) hO) (by decide), (by rw [hz]; exact Or.inl ⟨rfl, rfl⟩), fun _ => ⟨fun _ => a0 (by decide), fun _ => a1 (by decide), fun _ => a2 (by decide), fun h => absurd h (by decide), fun _ => a4 (by decide), fun _ => updS, fun h => absurd h (by decide), fun s h => absurd h (by omega)⟩⟩
    · refine v_aload_n dX10_readColumn_274 rfl (by rfl) ?_
      refine v_iconst (v := nI 4) dX10_readColumn_275 (by decide) ?_
      refine v_iload_n dX10_readColumn_276 rfl (by rfl) ?_
      refine w_callV hE dX10_readColumn_277 kX10_160 mdS_M (by rfl) (by rfl) (sX10_bad hE) rfl (by decide) (by decide) (by exact Nat.le_of_ble_eq_true rfl) (by omega) (by omega) (fun v9 g9 u9 h9 => ?_) (fun _ _ _ h => by cases h.1)
      obtain ⟨hv9, hu9, hg9⟩ := h9
      replace hu9 := hu9.symm
      subst hu9
      subst hg9
      cases hv9
      rw [mBad_0 (y := (va_up y.1 27 (upd (y.1 27) r (tNum u i j 999999)), y.2)) hF]
      refine v_goto (tgt := 378) dX10_readColumn_280 (by decide) ?_
      refine v_ret dX10_readColumn_378 rfl ?_
      have hz : (if (tNum u i j 999999) = -1 ∧ ¬ tIs u i j tx7 = true then 4 else 0) = 4 := if_pos ⟨c260, by rw [show tIs u i j tx7 = tIs u i j (mTx 5) from rfl, c271]; decide⟩
      refine ⟨rfl, rfl, _, rfl, rFr_u (rFr_r (s := y.2) hO) (by decide), (by rw [hz]; exact fO_b (by decide)), fun z => absurd (hz.symm.trans z) (by decide)⟩

set_option maxRecDepth 100000 in
set_option maxHeartbeats 1500000 in
/-- model: readColumn -/
theorem sX10_readColumn6 {E : eN} (hE : eOk E) {f : aH} {t : Nat} {M : Nat} {y : mV} {u : tS} {r i j : Nat} {w : eV}  (hp : mTp y u) (hO : aNw y.1) (hF : y.2 43 = nI 0) (hr : r < 240) (hij : i ≤ j) (hj : j ≤ u.1) (hmP : mP y r w 6)  : mT E mX10_readColumn 0 0 [.ref M, .int (nI r), .int (nI 6), .int (nI i), .int (nI j)] (mdS f M y) t (fun o f' t' => o = .inl none ∧ t' = t ∧ ∃ y', f' = mdS f M y' ∧ rFr r y y' ∧ fO y.2 y'.2 (if tIs u i j tx8 = true ∨ tIs u i j tx7 = true then 0 else 4) i ∧ ((if tIs u i j tx8 = true ∨ tIs u i j tx7 = true then 0 else 4) = 0 → mP y' r (wPa w (tIs u i j tx8)) 7)) := by
  refine mT_of (n := 1) (lo := [some (.ref M), some (.int (nI r)), some (.int (nI 6)), some (.int (nI i)), some (.int (nI j)), none]) (by decide) (by exact Nat.le_of_ble_eq_true rfl) rfl rfl ?_
  have hu8 := hp.2.1
  obtain ⟨a0, a1, a2, a3, a4, a5, a6, a7⟩ := id hmP
  refine v_iload_n dX10_readColumn_0 rfl (by rfl) ?_
  refine v_tableIn (off := 282) (tgt := 283) dX10_readColumn_1 (by decide) (by decide) (by decide) (by decide) ?_
  refine v_aload_n dX10_readColumn_283 rfl (by rfl) ?_
  refine v_getf hE dX10_readColumn_284 fX10_96 mdS_M (by rfl) ?_
  refine v_iload_n dX10_readColumn_287 rfl (by rfl) ?_
  refine v_aload_n dX10_readColumn_288 rfl (by rfl) ?_
  refine v_iload_n dX10_readColumn_289 rfl (by rfl) ?_
  refine v_iload dX10_readColumn_290 (by rfl) ?_
  refine v_iconst (v := nI 3) dX10_readColumn_292 (by decide) ?_
  refine w_callV hE dX10_readColumn_293 kX10_241 mdS_M (by rfl) (by rfl) (sX10_isText hE (u := u) hp (by decide) hij (by omega)) rfl (by decide) (by decide) (by exact Nat.le_of_ble_eq_true rfl) (by omega) (by omega) (fun v9 g9 u9 h9 => ?_) (fun _ _ _ h => by cases h.1)
  obtain ⟨hv9, hu9, hg9⟩ := h9
  replace hu9 := hu9.symm
  subst hu9
  subst hg9
  cases hv9
  refine m_zast hE (k := 28) dX10_readColumn_296 (by decide) (by decide) rfl (show _ < 240 by omega) (by omega) ?_
  rw [nar_bb]
  refine v_aload_n dX10_readColumn_297 rfl (by rfl) ?_
  refine v_getf hE dX10_readColumn_298 fX10_96 mdS_M (by rfl) ?_
  refine v_iload_n dX10_readColumn_301 rfl (by rfl) ?_
  refine m_zald hE (k := 28) dX10_readColumn_302 (by decide) (by decide) rfl (show _ < 240 by omega) (by omega) ?_
  refine v_eqi (y := bI (tIs u i j (mTx 3))) updS ?_
  refine v_if_neB (tgt := 378) dX10_readColumn_303 (by decide) (fun c303 => ?_) (fun c303 => ?_)
  · refine v_ret dX10_readColumn_378 rfl ?_
    have hz : (if tIs u i j tx8 = true ∨ tIs u i j tx7 = true then 0 else 4) = 0 := if_pos (by first | exact Or.inl c303 | exact Or.inr c314)
    refine ⟨rfl, rfl, _, rfl, rFr_28 (rFr_r (s := y.2) hO), (by rw [hz]; exact Or.inl ⟨rfl, rfl⟩), fun _ => ⟨fun _ => a0 (by decide), fun _ => a1 (by decide), fun _ => a2 (by decide), fun h => absurd h (by decide), fun _ => a4 (by decide), fun _ => a5 (by decide), fun _ => updS, fun s h => absurd h (by omega)⟩⟩
  · refine v_aload_n dX10_readColumn_306 rfl (by rfl) ?_
    refine v_iload_n dX10_readColumn_307 rfl (by rfl) ?_
    refine v_iload dX10_readColumn_308 (by rfl) ?_
    refine v_iconst (v := nI 5) dX10_readColumn_310 (by decide) ?_
    refine w_callV hE dX10_readColumn_311 kX10_241 mdS_M (by rfl) (by rfl) (sX10_isText hE (y := (va_up y.1 28 (upd (y.1 28) r (bI (tIs u i j (mTx 3)))), y.2)) (u := u) hp (by decide) hij (by omega)) rfl (by decide) (by decide) (by exact Nat.le_of_ble_eq_true rfl) (by omega) (by omega) (fun v9 g9 u9 h9 => ?_) (fun _ _ _ h => by cases h.1)
    obtain ⟨hv9, hu9, hg9⟩ := h9
    replace hu9 := hu9.symm
    subst hu9
    subst hg9
    cases hv9
    refine v_if_neB (tgt := 378) dX10_readColumn_314 (by decide) (fun c314 => ?_) (fun c314 => ?_)
    · refine v_ret dX10_readColumn_378 rfl ?_
      have hz : (if tIs u i j tx8 = true ∨ tIs u i j tx7 = true then 0 else 4) = 0 := if_pos (by first | exact Or.inl c303 | exact Or.inr c314)
      refine ⟨rfl, rfl, _, rfl, rFr_28 (rFr_r (s := y.2) hO), (by rw [hz]; exact Or.inl ⟨rfl, rfl⟩), fun _ => ⟨fun _ => a0 (by decide), fun _ => a1 (by decide), fun _ => a2 (by decide), fun h => absurd h (by decide), fun _ => a4 (by decide), fun _ => a5 (by decide), fun _ => updS, fun s h => absurd h (by omega)⟩⟩
    · refine v_aload_n dX10_readColumn_317 rfl (by rfl) ?_
      refine v_iconst (v := nI 4) dX10_readColumn_318 (by decide) ?_
      refine v_iload_n dX10_readColumn_319 rfl (by rfl) ?_
      refine w_callV hE dX10_readColumn_320 kX10_160 mdS_M (by rfl) (by rfl) (sX10_bad hE) rfl (by decide) (by decide) (by exact Nat.le_of_ble_eq_true rfl) (by omega) (by omega) (fun v9 g9 u9 h9 => ?_) (fun _ _ _ h => by cases h.1)
      obtain ⟨hv9, hu9, hg9⟩ := h9
      replace hu9 := hu9.symm
      subst hu9
      subst hg9
      cases hv9
      rw [mBad_0 (y := (va_up y.1 28 (upd (y.1 28) r (bI (tIs u i j (mTx 3)))), y.2)) hF]
      refine v_goto (tgt := 378) dX10_readColumn_323 (by decide) ?_
      refine v_ret dX10_readColumn_378 rfl ?_
      have hz : (if tIs u i j tx8 = true ∨ tIs u i j tx7 = true then 0 else 4) = 4 := if_neg (fun z => z.elim (fun z => by rw [show tIs u i j tx8 = tIs u i j (mTx 3) from rfl, c303] at z; exact Bool.noConfusion z) (fun z => by rw [show tIs u i j tx7 = tIs u i j (mTx 5) from rfl, c314] at z; exact Bool.noConfusion z))
      refine ⟨rfl, rfl, _, rfl, rFr_28 (rFr_r (s := y.2) hO), (by rw [hz]; exact fO_b (by decide)), fun z => absurd (hz.symm.trans z) (by decide)⟩

set_option maxRecDepth 100000 in
set_option maxHeartbeats 1500000 in
/-- model: readColumn -/
theorem sX10_readColumn7 {E : eN} (hE : eOk E) {f : aH} {t : Nat} {M : Nat} {y : mV} {u : tS} {r i j : Nat} {w : eV}  (hp : mTp y u) (hO : aNw y.1) (hF : y.2 43 = nI 0) (hr : r < 240) (hij : i ≤ j) (hj : j ≤ u.1) (hmP : mP y r w 7)  : mT E mX10_readColumn 0 0 [.ref M, .int (nI r), .int (nI 7), .int (nI i), .int (nI j)] (mdS f M y) t (fun o f' t' => o = .inl none ∧ t' = t ∧ ∃ y', f' = mdS f M y' ∧ rFr r y y' ∧ fO y.2 y'.2 (if tIs u i j tx7 = true then 0 else 4) i ∧ ((if tIs u i j tx7 = true then 0 else 4) = 0 → mP y' r (w) 8)) := by
  refine mT_of (n := 1) (lo := [some (.ref M), some (.int (nI r)), some (.int (nI 7)), some (.int (nI i)), some (.int (nI j)), none]) (by decide) (by exact Nat.le_of_ble_eq_true rfl) rfl rfl ?_
  have hu8 := hp.2.1
  obtain ⟨a0, a1, a2, a3, a4, a5, a6, a7⟩ := id hmP
  refine v_iload_n dX10_readColumn_0 rfl (by rfl) ?_
  refine v_tableIn (off := 325) (tgt := 326) dX10_readColumn_1 (by decide) (by decide) (by decide) (by decide) ?_
  refine v_aload_n dX10_readColumn_326 rfl (by rfl) ?_
  refine v_iload_n dX10_readColumn_327 rfl (by rfl) ?_
  refine v_iload dX10_readColumn_328 (by rfl) ?_
  refine v_iconst (v := nI 5) dX10_readColumn_330 (by decide) ?_
  refine w_callV hE dX10_readColumn_331 kX10_241 mdS_M (by rfl) (by rfl) (sX10_isText hE (u := u) hp (by decide) hij (by omega)) rfl (by decide) (by decide) (by exact Nat.le_of_ble_eq_true rfl) (by omega) (by omega) (fun v9 g9 u9 h9 => ?_) (fun _ _ _ h => by cases h.1)
  obtain ⟨hv9, hu9, hg9⟩ := h9
  replace hu9 := hu9.symm
  subst hu9
  subst hg9
  cases hv9
  refine v_if_neB (tgt := 378) dX10_readColumn_334 (by decide) (fun c334 => ?_) (fun c334 => ?_)
  · refine v_ret dX10_readColumn_378 rfl ?_
    have hz : (if tIs u i j tx7 = true then 0 else 4) = 0 := if_pos c334
    refine ⟨rfl, rfl, _, rfl, rFr_r hO, (by rw [hz]; exact Or.inl ⟨rfl, rfl⟩), fun _ => ⟨fun _ => a0 (by decide), fun _ => a1 (by decide), fun _ => a2 (by decide), fun h => absurd h (by decide), fun _ => a4 (by decide), fun _ => a5 (by decide), fun _ => a6 (by decide), fun s h => absurd h (by omega)⟩⟩
  · refine v_aload_n dX10_readColumn_337 rfl (by rfl) ?_
    refine v_iconst (v := nI 4) dX10_readColumn_338 (by decide) ?_
    refine v_iload_n dX10_readColumn_339 rfl (by rfl) ?_
    refine w_callV hE dX10_readColumn_340 kX10_160 mdS_M (by rfl) (by rfl) (sX10_bad hE) rfl (by decide) (by decide) (by exact Nat.le_of_ble_eq_true rfl) (by omega) (by omega) (fun v9 g9 u9 h9 => ?_) (fun _ _ _ h => by cases h.1)
    obtain ⟨hv9, hu9, hg9⟩ := h9
    replace hu9 := hu9.symm
    subst hu9
    subst hg9
    cases hv9
    rw [mBad_0 hF]
    refine v_goto (tgt := 378) dX10_readColumn_343 (by decide) ?_
    refine v_ret dX10_readColumn_378 rfl ?_
    have hz : (if tIs u i j tx7 = true then 0 else 4) = 4 := if_neg (fun z => by rw [show tIs u i j tx7 = tIs u i j (mTx 5) from rfl, c334] at z; exact Bool.noConfusion z)
    refine ⟨rfl, rfl, _, rfl, rFr_r hO, (by rw [hz]; exact fO_b (by decide)), fun z => absurd (hz.symm.trans z) (by decide)⟩

set_option maxRecDepth 100000 in
set_option maxHeartbeats 1500000 in
/-- model: readColumn -/
theorem sX10_readColumn8 {E : eN} (hE : eOk E) {f : aH} {t : Nat} {M : Nat} {y : mV} {u : tS} {r i j : Nat} {w : eV}  (hp : mTp y u) (hO : aNw y.1) (hF : y.2 43 = nI 0) (hr : r < 240) (hij : i ≤ j) (hj : j ≤ u.1) (hmP : mP y r w 8)  : mT E mX10_readColumn 0 0 [.ref M, .int (nI r), .int (nI 8), .int (nI i), .int (nI j)] (mdS f M y) t (fun o f' t' => o = .inl none ∧ t' = t ∧ ∃ y', f' = mdS f M y' ∧ rFr r y y' ∧ fO y.2 y'.2 (if tIs u i j tx9 = true then 0 else 4) i ∧ ((if tIs u i j tx9 = true then 0 else 4) = 0 → mP y' r (w) 9)) := by
  refine mT_of (n := 1) (lo := [some (.ref M), some (.int (nI r)), some (.int (nI 8)), some (.int (nI i)), some (.int (nI j)), none]) (by decide) (by exact Nat.le_of_ble_eq_true rfl) rfl rfl ?_
  have hu8 := hp.2.1
  obtain ⟨a0, a1, a2, a3, a4, a5, a6, a7⟩ := id hmP
  refine v_iload_n dX10_readColumn_0 rfl (by rfl) ?_
  refine v_tableIn (off := 345) (tgt := 346) dX10_readColumn_1 (by decide) (by decide) (by decide) (by decide) ?_
  refine v_aload_n dX10_readColumn_346 rfl (by rfl) ?_
  refine v_iload_n dX10_readColumn_347 rfl (by rfl) ?_
  refine v_iload dX10_readColumn_348 (by rfl) ?_
  refine v_iconst (v := nI 4) dX10_readColumn_350 (by decide) ?_
  refine w_callV hE dX10_readColumn_351 kX10_241 mdS_M (by rfl) (by rfl) (sX10_isText hE (u := u) hp (by decide) hij (by omega)) rfl (by decide) (by decide) (by exact Nat.le_of_ble_eq_true rfl) (by omega) (by omega) (fun v9 g9 u9 h9 => ?_) (fun _ _ _ h => by cases h.1)
  obtain ⟨hv9, hu9, hg9⟩ := h9
  replace hu9 := hu9.symm
  subst hu9
  subst hg9
  cases hv9
  refine v_if_neB (tgt := 378) dX10_readColumn_354 (by decide) (fun c354 => ?_) (fun c354 => ?_)
  · refine v_ret dX10_readColumn_378 rfl ?_
    have hz : (if tIs u i j tx9 = true then 0 else 4) = 0 := if_pos c354
    refine ⟨rfl, rfl, _, rfl, rFr_r hO, (by rw [hz]; exact Or.inl ⟨rfl, rfl⟩), fun _ => ⟨fun _ => a0 (by decide), fun _ => a1 (by decide), fun _ => a2 (by decide), fun h => absurd h (by decide), fun _ => a4 (by decide), fun _ => a5 (by decide), fun _ => a6 (by decide), fun s h => absurd h (by omega)⟩⟩
  · refine v_aload_n dX10_readColumn_357 rfl (by rfl) ?_
    refine v_iconst (v := nI 4) dX10_readColumn_358 (by decide) ?_
    refine v_iload_n dX10_readColumn_359 rfl (by rfl) ?_
    refine w_callV hE dX10_readColumn_360 kX10_160 mdS_M (by rfl) (by rfl) (sX10_bad hE) rfl (by decide) (by decide) (by exact Nat.le_of_ble_eq_true rfl) (by omega) (by omega) (fun v9 g9 u9 h9 => ?_) (fun _ _ _ h => by cases h.1)
    obtain ⟨hv9, hu9, hg9⟩ := h9
    replace hu9 := hu9.symm
    subst hu9
    subst hg9
    cases hv9
    rw [mBad_0 hF]
    refine v_goto (tgt := 378) dX10_readColumn_363 (by decide) ?_
    refine v_ret dX10_readColumn_378 rfl ?_
    have hz : (if tIs u i j tx9 = true then 0 else 4) = 4 := if_neg (fun z => by rw [show tIs u i j tx9 = tIs u i j (mTx 4) from rfl, c354] at z; exact Bool.noConfusion z)
    refine ⟨rfl, rfl, _, rfl, rFr_r hO, (by rw [hz]; exact fO_b (by decide)), fun z => absurd (hz.symm.trans z) (by decide)⟩
