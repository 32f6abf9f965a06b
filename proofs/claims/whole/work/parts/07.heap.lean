def tyF (ci : Nat) : Nat → FieldType := match ci with
  | 0 => tyX0
  | 1 => tyX1
  | 2 => tyX2
  | 3 => tyX3
  | 4 => tyX4
  | 5 => tyX5
  | 6 => tyX6
  | 7 => tyX7
  | 8 => tyX8
  | 9 => tyX9
  | _ => tyX10
theorem gdX0 : ∀ w ∈ u_ws RX0 TX0 14, w ∈ lw_tbl ∧ goodWord w = true := by decide +kernel
theorem owX0 : ∀ k, k < 14 → (TX0 k).1 = RX0 := by decide +kernel
theorem gdX1 : ∀ w ∈ u_ws RX1 TX1 8, w ∈ lw_tbl ∧ goodWord w = true := by decide +kernel
theorem owX1 : ∀ k, k < 8 → (TX1 k).1 = RX1 := by decide +kernel
theorem gdX2 : ∀ w ∈ u_ws RX2 TX2 11, w ∈ lw_tbl ∧ goodWord w = true := by decide +kernel
theorem owX2 : ∀ k, k < 11 → (TX2 k).1 = RX2 := by decide +kernel
theorem gdX3 : ∀ w ∈ u_ws RX3 TX3 9, w ∈ lw_tbl ∧ goodWord w = true := by decide +kernel
theorem owX3 : ∀ k, k < 9 → (TX3 k).1 = RX3 := by decide +kernel
theorem gdX4 : ∀ w ∈ u_ws RX4 TX4 3, w ∈ lw_tbl ∧ goodWord w = true := by decide +kernel
theorem owX4 : ∀ k, k < 3 → (TX4 k).1 = RX4 := by decide +kernel
theorem gdX5 : ∀ w ∈ u_ws RX5 TX5 4, w ∈ lw_tbl ∧ goodWord w = true := by decide +kernel
theorem owX5 : ∀ k, k < 4 → (TX5 k).1 = RX5 := by decide +kernel
theorem gdX6 : ∀ w ∈ u_ws RX6 TX6 3, w ∈ lw_tbl ∧ goodWord w = true := by decide +kernel
theorem owX6 : ∀ k, k < 3 → (TX6 k).1 = RX6 := by decide +kernel
theorem gdX7 : ∀ w ∈ u_ws RX7 TX7 3, w ∈ lw_tbl ∧ goodWord w = true := by decide +kernel
theorem owX7 : ∀ k, k < 3 → (TX7 k).1 = RX7 := by decide +kernel
theorem gdX8 : ∀ w ∈ u_ws RX8 TX8 10, w ∈ lw_tbl ∧ goodWord w = true := by decide +kernel
theorem owX8 : ∀ k, k < 10 → (TX8 k).1 = RX8 := by decide +kernel
theorem gdX9 : ∀ w ∈ u_ws RX9 TX9 10, w ∈ lw_tbl ∧ goodWord w = true := by decide +kernel
theorem owX9 : ∀ k, k < 10 → (TX9 k).1 = RX9 := by decide +kernel
theorem gdX10 : ∀ w ∈ u_ws RX10 TX10 53, w ∈ lw_tbl ∧ goodWord w = true := by decide +kernel
theorem owX10 : ∀ k, k < 53 → (TX10 k).1 = RX10 := by decide +kernel
theorem clOk : ∀ (ci : Nat) (q : vw_C), vwCl[ci]? = some q → (∀ w ∈ u_ws q.1 q.2.1 q.2.2, w ∈ lw_tbl ∧ goodWord w = true) ∧ (∀ k, k < q.2.2 → parseFieldDescriptor (q.2.1 k).2.2.1 = some (tyF ci k)) ∧ (∀ a, a < q.2.2 → ∀ b, b < q.2.2 → a ≠ b → (q.2.1 a).2.1 ≠ (q.2.1 b).2.1) ∧ ∀ k, k < q.2.2 → (q.2.1 k).1 = q.1 := by
  intro ci q h
  match ci, h with
  | 0, h => cases h; exact ⟨gdX0, tyX0_ok, nmX0, owX0⟩
  | 1, h => cases h; exact ⟨gdX1, tyX1_ok, nmX1, owX1⟩
  | 2, h => cases h; exact ⟨gdX2, tyX2_ok, nmX2, owX2⟩
  | 3, h => cases h; exact ⟨gdX3, tyX3_ok, nmX3, owX3⟩
  | 4, h => cases h; exact ⟨gdX4, tyX4_ok, nmX4, owX4⟩
  | 5, h => cases h; exact ⟨gdX5, tyX5_ok, nmX5, owX5⟩
  | 6, h => cases h; exact ⟨gdX6, tyX6_ok, nmX6, owX6⟩
  | 7, h => cases h; exact ⟨gdX7, tyX7_ok, nmX7, owX7⟩
  | 8, h => cases h; exact ⟨gdX8, tyX8_ok, nmX8, owX8⟩
  | 9, h => cases h; exact ⟨gdX9, tyX9_ok, nmX9, owX9⟩
  | 10, h => cases h; exact ⟨gdX10, tyX10_ok, nmX10, owX10⟩
  | n + 11, h => cases h
/-- entry ix of the pool of that owner is slot k of kind ci; n: as a mate's -/
def fLb (own : String) (ix ci k : Nat) (n : Bool) : Bool := match vwCl[ci]? with
  | some q => decide (k < q.2.2) && (if n then decide (Cond.fieldLinkNest own ix q.1 (q.2.1 k).2.1 (q.2.1 k).2.2.1 RX9 ∈ lw_tbl) else decide (Cond.fieldLink own ix q.1 (q.2.1 k).2.1 (q.2.1 k).2.2.1 ∈ lw_tbl))
  | none => false
theorem fLb_spec {own : String} {ix ci k : Nat} {n : Bool} (h : fLb own ix ci k n = true) : ∃ q : vw_C, vwCl[ci]? = some q ∧ k < q.2.2 ∧ (n = true → Cond.fieldLinkNest own ix q.1 (q.2.1 k).2.1 (q.2.1 k).2.2.1 RX9 ∈ lw_tbl) ∧ (n = false → Cond.fieldLink own ix q.1 (q.2.1 k).2.1 (q.2.1 k).2.2.1 ∈ lw_tbl) := by
  unfold fLb at h
  split at h
  · rename_i q hq
    simp only [Bool.and_eq_true, decide_eq_true_eq] at h
    refine ⟨q, hq, h.1, fun hn => ?_, fun hn => ?_⟩
    · have := h.2
      rw [hn] at this
      simpa using this
    · have := h.2
      rw [hn] at this
      simpa using this
  · cases h
theorem e_nw {E : eN} (hE : eOk E) {s : State} (hW : (S0 E).WarmedH s.vm) {o b n d h : String} {i : Nat} (hm : Cond.fieldLinkNest o i b n d h ∈ lw_tbl) (a : Array Value) : (Cond.fieldLinkNest o i b n d h).before a s = true := by
  obtain ⟨-, a0, hh⟩ := hE
  exact va_Nw.use rfl (va_Nw.warmF hW (va_Nw.of rfl (hh _ hm)))
theorem e_nm {E : eN} (hE : eOk E) {s : State} (hW : (S0 E).WarmedH s.vm) {o h : String} {x : MethodName} {i : Nat} (hm : Cond.methodLinkNest o i x h ∈ lw_tbl) : va_Nw (.methodLinkNest o i x h) s := by
  obtain ⟨-, a0, hh⟩ := hE
  exact va_Nw.warmM hW (va_Nw.of rfl (hh _ hm))
theorem uk_o {o : Nat × List Value} : (Sum.inr o : aC) ≠ uk := fun h => by cases h
theorem uk_a {k : Nat} {x : vp_A} (h : k < 6) : (Sum.inl (k, x) : aC) ≠ uk := fun q => by
  have h1 : (k, x) = ((6, 0, .inl (fun _ => 0)) : Nat × vp_A) := Sum.inl.inj q
  have h2 : k = 6 := congrArg Prod.fst h1
  omega
theorem ty_at (E : eN) {k : Nat} (h : k < 6) : (tyE E)[k]? = some (E.2.1 k, aK k) := by
  rcases (show k = 0 ∨ k = 1 ∨ k = 2 ∨ k = 3 ∨ k = 4 ∨ k = 5 by omega) with rfl | rfl | rfl | rfl | rfl | rfl <;> rfl
section HEAP
variable {E : eN} {I : mR} {mc ms : Nat} {Q : aP} {pc : Nat} {lo : List (Option Value)} {st : List Value} {f : aH} {t bc bs : Nat}
theorem v_getf (hE : eOk E) {ix ci k a : Nat} {n : Bool} {fs : List Value} {v : Value} (d : decode I.2.1 pc = .ok (.getfield ix, 3)) (hL : fLb I.1.cls ix ci k n = true) (hf : f a = .inr (ci, fs)) (hv : fs[k]? = some v) (kk : V E I mc ms Q (pc + 3) lo (v :: st) f t bc bs) : V E I mc ms Q pc lo (.ref a :: st) f t bc bs := by
  intro p e R s m args below meth c C H locs cells slots ls hw hz hc hs hl
  have hW := C.2.2.2.2.1
  obtain ⟨q, hq, hk, h1, h2⟩ := fLb_spec hL
  obtain ⟨g1, g2, g3, g4⟩ := clOk ci q hq
  obtain ⟨r1, r2, r3⟩ := w_one hw hf uk_o
  have hts : ∀ w ∈ u_ws q.1 q.2.1 q.2.2, w.before args s = true := fun w h => e_w hE hW (g1 w h).1 (g1 w h).2 args
  cases n with
  | false => exact va_get (D := E.1) (ci := ci) (v := v) (C := q.1) (T := q.2.1) (N := q.2.2) C.1 C.2.1 hts (fun _ h => h) C.2.2.2.1 (e_k hE hW) (w_p1 r3) 0 rfl hq k hk (e_w hE hW (h2 rfl) rfl args) (fun x h => by rw [← g4 k hk]; exact h) hv d (kk p e R s m args below meth c C H locs cells slots ls hw hz hc hs hl)
  | true => exact va_getN (D := E.1) (ci := ci) (v := v) (C := q.1) (T := q.2.1) (N := q.2.2) C.1 C.2.1 hts (fun _ h => h) C.2.2.2.1 (e_k hE hW) (w_p1 r3) 0 rfl hq k hk (e_nw hE hW (h1 rfl) args) (fun x h => by rw [← g4 k hk]; exact h) hv d (kk p e R s m args below meth c C H locs cells slots ls hw hz hc hs hl)
theorem v_putf (hE : eOk E) {ix ci k a : Nat} {n : Bool} {fs : List Value} {v : Value} (d : decode I.2.1 pc = .ok (.putfield ix, 3)) (hL : fLb I.1.cls ix ci k n = true) (hf : f a = .inr (ci, fs)) (hl9 : k < fs.length) (hfin : (match vwCl[ci]? with | some q => (q.2.1 k).2.2.2 | none => true) = false) (hn : narrow (tyF ci k) v = v) (hfit : fits (tyF ci k) v = true)
    (kk : V E I mc ms Q (pc + 3) lo st (va_up f a (.inr (ci, fs.set k v))) t bc bs) : V E I mc ms Q pc lo (v :: .ref a :: st) f t bc bs := by
  intro p e R s m args below meth c C H locs cells slots ls hw hz hc hs hl
  have hW := C.2.2.2.2.1
  obtain ⟨q, hq, hk, h1, h2⟩ := fLb_spec hL
  rw [hq] at hfin
  dsimp only at hfin
  obtain ⟨g1, g2, g3, g4⟩ := clOk ci q hq
  obtain ⟨r1, r2, r, e1, cell, q1, q2, q3, q4⟩ := w_one hw hf uk_o
  have hts : ∀ w ∈ u_ws q.1 q.2.1 q.2.2, w.before args s = true := fun w h => e_w hE hW (g1 w h).1 (g1 w h).2 args
  have hK := e_k hE hW
  have hap := va_apart (own := q.1) hts (fun _ h => h) (tyF ci) g2 g3 hK hq
  have hr : r = q := Option.some.inj (e1.symm.trans hq)
  subst hr
  obtain ⟨hS, hfc, kC, hkC, hkind⟩ := hK.1 ci _ hq
  obtain ⟨cf, kf, fi, fd, hi, hsl⟩ := hS k hk
  have hlay := hts _ (u_in_lay hk)
  unfold u_lay at hlay
  rw [if_neg (by rw [hfin]; decide)] at hlay
  have hst := (u_facts hfc hkC (u_lays hts (fun _ h => h) hk) hi).1
  have h6 := u_store hfc hkC hkind hlay hi (g2 k hk) hn hfit
  have hi2 : s.fieldFound? r.1 (r.2.1 k).2.1 (r.2.1 k).2.2.1 = some (cf, kf, fi, fd) := by rw [← g4 k hk]; exact hi
  have fin : ∀ H1 : Heap, H1[a]? = some (cell.setSlot fd.slot v) → H1.size = H.size → (∀ q, q ≠ a → H1[q]? = H[q]?) → W p E.2.2.2 e R s m args below meth c H1 (locs ++ [⟨a, fd.slot⟩]) cells slots (vx_MQ below (aQ E Q) (aX E Q) args s mc ms (fun q => b0 E ≤ q)) (F0 m (pc + 3) ls st) := by
    intro H1 x1 x2 x3
    rw [hsl] at x1 ⊢
    refine kk p e R s m args below meth c C H1 _ cells slots ls (w_set hw (by rw [hf]; exact uk_o) x2 x3 ?_) (fun z hz9 => ?_) hc hs hl
    · exact ⟨_, hq, t_OB.to (V := updV (vp_V fs) k v) ⟨_, x1, q2, q3, t_set q4 hap hk v⟩ (fun j _ => vp_updV_set hl9 v j)⟩
    · rcases List.mem_append.mp hz9 with h | h
      · exact hz z h
      · rw [List.mem_singleton.mp h]; exact r1
  cases n with
  | false => exact W.putK C.1 C.2.1 (f := fd) ⟨C.2.2.2.1, e_w hE hW (h2 rfl) rfl args, ⟨_, _, _, hi2⟩, hst⟩ (by rw [q2]; exact h6) q1 q3 (by rw [hsl]; exact k2_hasslot (q4 k hk)) rfl rfl d fin
  | true => exact va_WputK C.1 C.2.1 (f := fd) C.2.2.2.1 (e_nw hE hW (h1 rfl) args) hi2 hst (by rw [q2]; exact h6) q1 q3 (by rw [hsl]; exact k2_hasslot (q4 k hk)) rfl rfl d fin
/-- a final slot, in the making -/
theorem v_putF (hE : eOk E) {ix ci k a : Nat} {fs : List Value} {v : Value} (d : decode I.2.1 pc = .ok (.putfield ix, 3)) (hL : fLb I.1.cls ix ci k false = true) (hown : (match vwCl[ci]? with | some q => q.1 | none => "") = I.1.cls) (hini : I.1.name = "<init>") (hf : f a = .inr (ci, fs)) (hl9 : k < fs.length) (hfin : (match vwCl[ci]? with | some q => (q.2.1 k).2.2.2 | none => false) = true) (hn : narrow (tyF ci k) v = v) (hfit : fits (tyF ci k) v = true)
    (kk : V E I mc ms Q (pc + 3) lo st (va_up f a (.inr (ci, fs.set k v))) t bc bs) : V E I mc ms Q pc lo (v :: .ref a :: st) f t bc bs := by
  intro p e R s m args below meth c C H locs cells slots ls hw hz hc hs hl
  have hW := C.2.2.2.2.1
  obtain ⟨q, hq, hk, h1, h2⟩ := fLb_spec hL
  rw [hq] at hfin hown
  dsimp only at hfin hown
  obtain ⟨g1, g2, g3, g4⟩ := clOk ci q hq
  obtain ⟨r1, r2, r, e1, cell, q1, q2, q3, q4⟩ := w_one hw hf uk_o
  have hts : ∀ w ∈ u_ws q.1 q.2.1 q.2.2, w.before args s = true := fun w h => e_w hE hW (g1 w h).1 (g1 w h).2 args
  have hK := e_k hE hW
  have hap := va_apart (own := q.1) hts (fun _ h => h) (tyF ci) g2 g3 hK hq
  have hr : r = q := Option.some.inj (e1.symm.trans hq)
  subst hr
  obtain ⟨hS, hfc, kC, hkC, hkind⟩ := hK.1 ci _ hq
  obtain ⟨cf, kf, fi, fd, hi, hsl⟩ := hS k hk
  have hlay := hts _ (u_in_lay hk)
  unfold u_lay at hlay
  rw [if_pos hfin] at hlay
  have hst := (u_facts hfc hkC (u_lays hts (fun _ h => h) hk) hi).1
  have hcf : m.cls = cf := by
    obtain ⟨_, _, c', _, _, _, -, -, hf', -, -, -, hown2, -⟩ := Cond.laysFinal_spec hlay
    have x1 : c' = cf := by have := hi.symm.trans hf'; simp at this; exact this.1.symm
    rw [g4 k hk, hown] at hown2
    rw [← x1]; exact Option.some.inj (C.2.2.2.1.symm.trans hown2)
  have h6 := u_fits hfc hkC hkind (Or.inr hlay) hi (g2 k hk) hn hfit
  have hi2 : s.fieldFound? r.1 (r.2.1 k).2.1 (r.2.1 k).2.2.1 = some (cf, kf, fi, fd) := by rw [← g4 k hk]; exact hi
  refine W.putFinK C.1 C.2.1 C.2.2.2.1 (e_w hE hW (h2 rfl) rfl args) hi2 hst hcf (C.2.2.2.2.2.2.2.1.trans hini) (by rw [q2]; exact h6) q1 q3 (by rw [hsl]; exact k2_hasslot (q4 k hk)) rfl rfl d fun H1 x1 x2 x3 => ?_
  rw [hsl] at x1 ⊢
  refine kk p e R s m args below meth c C H1 _ cells slots ls (w_set hw (by rw [hf]; exact uk_o) x2 x3 ?_) (fun z hz9 => ?_) hc hs hl
  · exact ⟨_, hq, t_OB.to (V := updV (vp_V fs) k v) ⟨_, x1, q2, q3, t_set q4 hap hk v⟩ (fun j _ => vp_updV_set hl9 v j)⟩
  · rcases List.mem_append.mp hz9 with h | h
    · exact hz z h
    · rw [List.mem_singleton.mp h]; exact r1
theorem v_iald (hE : eOk E) {a n i : Nat} {g : Nat → Int32} (d : decode I.2.1 pc = .ok (.iaload, 1)) (hf : f a = .inl (0, n, .inl g)) (hi : i < n) (hn : i < 2 ^ 31) (kk : V E I mc ms Q (pc + 1) lo (.int (g i) :: st) f t bc bs) : V E I mc ms Q pc lo (.int (nI i) :: .ref a :: st) f t bc bs := by
  intro p e R s m args below meth c C H locs cells slots ls hw hz hc hs hl
  obtain ⟨r1, r2, r3⟩ := w_one hw hf (uk_a (by decide))
  have hin : vp_in (nI i) n := fun h => by
    rcases h with h | h
    · exact nI_pos hn h
    · rw [nI_clamp hn] at h; omega
  refine va_iald C.1 C.2.1 (e_k hE C.2.2.2.2.1) (w_p1 r3) 0 0 rfl (ty_at E (by decide)) hin d ?_
  rw [nI_clamp hn]
  exact kk p e R s m args below meth c C H locs cells slots ls hw hz hc hs hl
theorem v_zald (hE : eOk E) {a n i : Nat} {g : Nat → Int32} (d : decode I.2.1 pc = .ok (.baload, 1)) (hf : f a = .inl (1, n, .inl g)) (hi : i < n) (hn : i < 2 ^ 31) (kk : V E I mc ms Q (pc + 1) lo (.int (g i) :: st) f t bc bs) : V E I mc ms Q pc lo (.int (nI i) :: .ref a :: st) f t bc bs := by
  intro p e R s m args below meth c C H locs cells slots ls hw hz hc hs hl
  obtain ⟨r1, r2, r3⟩ := w_one hw hf (uk_a (by decide))
  have hin : vp_in (nI i) n := fun h => by
    rcases h with h | h
    · exact nI_pos hn h
    · rw [nI_clamp hn] at h; omega
  refine va_zald C.1 C.2.1 (e_k hE C.2.2.2.2.1) (w_p1 r3) 0 1 rfl (ty_at E (by decide)) hin d ?_
  rw [nI_clamp hn]
  exact kk p e R s m args below meth c C H locs cells slots ls hw hz hc hs hl
theorem v_bald (hE : eOk E) {a n i : Nat} {g : Nat → Int32} (d : decode I.2.1 pc = .ok (.baload, 1)) (hf : f a = .inl (2, n, .inl g)) (hi : i < n) (hn : i < 2 ^ 31) (kk : V E I mc ms Q (pc + 1) lo (.int (g i) :: st) f t bc bs) : V E I mc ms Q pc lo (.int (nI i) :: .ref a :: st) f t bc bs := by
  intro p e R s m args below meth c C H locs cells slots ls hw hz hc hs hl
  obtain ⟨r1, r2, r3⟩ := w_one hw hf (uk_a (by decide))
  have hin : vp_in (nI i) n := fun h => by
    rcases h with h | h
    · exact nI_pos hn h
    · rw [nI_clamp hn] at h; omega
  refine va_bald C.1 C.2.1 (e_k hE C.2.2.2.2.1) (w_p1 r3) 0 2 rfl (ty_at E (by decide)) hin d ?_
  rw [nI_clamp hn]
  exact kk p e R s m args below meth c C H locs cells slots ls hw hz hc hs hl
theorem v_lald (hE : eOk E) {a n i : Nat} {g : Nat → Int64} (d : decode I.2.1 pc = .ok (.laload, 1)) (hf : f a = .inl (3, n, .inr (.inl g))) (hi : i < n) (hn : i < 2 ^ 31) (kk : V E I mc ms Q (pc + 1) lo (.long (g i) :: st) f t bc bs) : V E I mc ms Q pc lo (.int (nI i) :: .ref a :: st) f t bc bs := by
  intro p e R s m args below meth c C H locs cells slots ls hw hz hc hs hl
  obtain ⟨r1, r2, r3⟩ := w_one hw hf (uk_a (by decide))
  have hin : vp_in (nI i) n := fun h => by
    rcases h with h | h
    · exact nI_pos hn h
    · rw [nI_clamp hn] at h; omega
  refine va_lald C.1 C.2.1 (e_k hE C.2.2.2.2.1) (w_p1 r3) 0 3 rfl (ty_at E (by decide)) hin d ?_
  rw [nI_clamp hn]
  exact kk p e R s m args below meth c C H locs cells slots ls hw hz hc hs hl
theorem v_aaldE (hE : eOk E) {a n i : Nat} {g : Nat → Option Nat} (d : decode I.2.1 pc = .ok (.aaload, 1)) (hf : f a = .inl (4, n, .inr (.inr (.inr (.inr g))))) (hi : i < n) (hn : i < 2 ^ 31) (kk : V E I mc ms Q (pc + 1) lo (va_rf (g i) :: st) f t bc bs) : V E I mc ms Q pc lo (.int (nI i) :: .ref a :: st) f t bc bs := by
  intro p e R s m args below meth c C H locs cells slots ls hw hz hc hs hl
  obtain ⟨r1, r2, r3⟩ := w_one hw hf (uk_a (by decide))
  have hin : vp_in (nI i) n := fun h => by
    rcases h with h | h
    · exact nI_pos hn h
    · rw [nI_clamp hn] at h; omega
  refine va_aldq (C := RX0) C.1 C.2.1 (e_k hE C.2.2.2.2.1) (w_p1 r3) 0 4 rfl (ty_at E (by decide)) hin d ?_
  rw [nI_clamp hn]
  exact kk p e R s m args below meth c C H locs cells slots ls hw hz hc hs hl
theorem v_aaldS (hE : eOk E) {a n i : Nat} {g : Nat → Option Nat} (d : decode I.2.1 pc = .ok (.aaload, 1)) (hf : f a = .inl (5, n, .inr (.inr (.inr (.inr g))))) (hi : i < n) (hn : i < 2 ^ 31) (kk : V E I mc ms Q (pc + 1) lo (va_rf (g i) :: st) f t bc bs) : V E I mc ms Q pc lo (.int (nI i) :: .ref a :: st) f t bc bs := by
  intro p e R s m args below meth c C H locs cells slots ls hw hz hc hs hl
  obtain ⟨r1, r2, r3⟩ := w_one hw hf (uk_a (by decide))
  have hin : vp_in (nI i) n := fun h => by
    rcases h with h | h
    · exact nI_pos hn h
    · rw [nI_clamp hn] at h; omega
  refine va_aldq (C := RX7) C.1 C.2.1 (e_k hE C.2.2.2.2.1) (w_p1 r3) 0 5 rfl (ty_at E (by decide)) hin d ?_
  rw [nI_clamp hn]
  exact kk p e R s m args below meth c C H locs cells slots ls hw hz hc hs hl
theorem v_iast (hE : eOk E) {a n i : Nat} {g : Nat → Int32} {x : Int32} (d : decode I.2.1 pc = .ok (.iastore, 1)) (hf : f a = .inl (0, n, .inl g)) (hi : i < n) (hn : i < 2 ^ 31) (kk : V E I mc ms Q (pc + 1) lo st (va_up f a (.inl (0, n, .inl (upd g i x)))) t bc bs) : V E I mc ms Q pc lo (.int x :: .int (nI i) :: .ref a :: st) f t bc bs := by
  intro p e R s m args below meth c C H locs cells slots ls hw hz hc hs hl
  obtain ⟨r1, r2, r3⟩ := w_one hw hf (uk_a (by decide))
  have hin : vp_in (nI i) n := fun h => by
    rcases h with h | h
    · exact nI_pos hn h
    · rw [nI_clamp hn] at h; omega
  refine W.iast C.1 C.2.1 r3 (((e_k hE C.2.2.2.2.1).2 0 _ (ty_at E (by decide))).1 n (fun j => .int (g j))) (fun q => by cases q) (by show ¬ (nI i < 0 ∨ (arrV _ _ _).slots.size ≤ _); rw [arrV_size]; exact hin) rfl rfl d fun H1 x1 x2 x3 => ?_
  refine kk p e R s m args below meth c C H1 _ cells slots ls (w_set hw (by rw [hf]; exact uk_a (by decide)) x2 x3 ?_) (fun z hz9 => ?_) hc hs hl
  · show H1[a]? = some (vp_cell _ _)
    rw [x1]
    show some ((vp_cell _ _).setSlot _ _) = _
    rw [vp_cell_i, vp_cell_i, arrV_store, nI_clamp hn]
    congr 2
    funext q
    by_cases hq : q = i
    · subst hq
      simp [updV, upd]
    · simp [updV, upd, hq]
  · rcases List.mem_append.mp hz9 with h | h
    · exact hz z h
    · rw [List.mem_singleton.mp h]; exact r1
theorem v_zast (hE : eOk E) {a n i : Nat} {g : Nat → Int32} {x : Int32} (d : decode I.2.1 pc = .ok (.bastore, 1)) (hf : f a = .inl (1, n, .inl g)) (hi : i < n) (hn : i < 2 ^ 31) (kk : V E I mc ms Q (pc + 1) lo st (va_up f a (.inl (1, n, .inl (upd g i (vp_nar .boolean x))))) t bc bs) : V E I mc ms Q pc lo (.int x :: .int (nI i) :: .ref a :: st) f t bc bs := by
  intro p e R s m args below meth c C H locs cells slots ls hw hz hc hs hl
  obtain ⟨r1, r2, r3⟩ := w_one hw hf (uk_a (by decide))
  have hin : vp_in (nI i) n := fun h => by
    rcases h with h | h
    · exact nI_pos hn h
    · rw [nI_clamp hn] at h; omega
  refine W.zast C.1 C.2.1 r3 (((e_k hE C.2.2.2.2.1).2 1 _ (ty_at E (by decide))).1 n (fun j => .int (g j))) (fun q => by cases q) (by show ¬ (nI i < 0 ∨ (arrV _ _ _).slots.size ≤ _); rw [arrV_size]; exact hin) rfl rfl d fun H1 x1 x2 x3 => ?_
  refine kk p e R s m args below meth c C H1 _ cells slots ls (w_set hw (by rw [hf]; exact uk_a (by decide)) x2 x3 ?_) (fun z hz9 => ?_) hc hs hl
  · show H1[a]? = some (vp_cell _ _)
    rw [x1]
    show some ((vp_cell _ _).setSlot _ _) = _
    rw [vp_cell_i, vp_cell_i, arrV_store, nI_clamp hn]
    congr 2
    funext q
    by_cases hq : q = i
    · subst hq
      simp [updV, upd, vp_nar]
      try rfl
    · simp [updV, upd, hq]
  · rcases List.mem_append.mp hz9 with h | h
    · exact hz z h
    · rw [List.mem_singleton.mp h]; exact r1
theorem v_bast (hE : eOk E) {a n i : Nat} {g : Nat → Int32} {x : Int32} (d : decode I.2.1 pc = .ok (.bastore, 1)) (hf : f a = .inl (2, n, .inl g)) (hi : i < n) (hn : i < 2 ^ 31) (kk : V E I mc ms Q (pc + 1) lo st (va_up f a (.inl (2, n, .inl (upd g i (vp_nar .byte x))))) t bc bs) : V E I mc ms Q pc lo (.int x :: .int (nI i) :: .ref a :: st) f t bc bs := by
  intro p e R s m args below meth c C H locs cells slots ls hw hz hc hs hl
  obtain ⟨r1, r2, r3⟩ := w_one hw hf (uk_a (by decide))
  have hin : vp_in (nI i) n := fun h => by
    rcases h with h | h
    · exact nI_pos hn h
    · rw [nI_clamp hn] at h; omega
  refine W.bast C.1 C.2.1 r3 (((e_k hE C.2.2.2.2.1).2 2 _ (ty_at E (by decide))).1 n (fun j => .int (g j))) (fun q => by cases q) (by show ¬ (nI i < 0 ∨ (arrV _ _ _).slots.size ≤ _); rw [arrV_size]; exact hin) rfl rfl d fun H1 x1 x2 x3 => ?_
  refine kk p e R s m args below meth c C H1 _ cells slots ls (w_set hw (by rw [hf]; exact uk_a (by decide)) x2 x3 ?_) (fun z hz9 => ?_) hc hs hl
  · show H1[a]? = some (vp_cell _ _)
    rw [x1]
    show some ((vp_cell _ _).setSlot _ _) = _
    rw [vp_cell_i, vp_cell_i, arrV_store, nI_clamp hn]
    congr 2
    funext q
    by_cases hq : q = i
    · subst hq
      simp [updV, upd, vp_nar]
      try rfl
    · simp [updV, upd, hq]
  · rcases List.mem_append.mp hz9 with h | h
    · exact hz z h
    · rw [List.mem_singleton.mp h]; exact r1
end HEAP
