/-- entry ix of the pool of that owner is the method I2, of n arguments (kd 0: by its receiver, 1: without one, 2: a making); w: as a mate's -/
def mLb (own : String) (ix : Nat) (I2 : mR) (n kd : Nat) (w : Bool) : Bool :=
  (if w then decide (Cond.methodLinkNest own ix I2.1 RX9 ∈ lw_tbl) else decide (Cond.methodLink own ix I2.1 ∈ lw_tbl)) && (decide (Cond.code I2.1 I2.2.1 I2.2.2.1 I2.2.2.2.1 ∈ lw_tbl) && (decide (Cond.initialized I2.1.cls ∈ lw_tbl) && (decide (I2.1.cls ≠ "java/lang/invoke/MethodHandle" ∧ I2.1.cls ≠ "java/lang/invoke/VarHandle") && (decide ((parseMethodDescriptor I2.1.desc).map (fun d => d.parameters.length) = some n) &&
  (match kd with
  | 0 => decide (Cond.instanceMethod I2.1 ∈ lw_tbl) && decide (Cond.selects I2.1.cls I2.1 I2.1 ∈ lw_tbl)
  | 1 => decide (Cond.static I2.1 ∈ lw_tbl)
  | _ => decide (I2.1.name = "<init>") && decide (Cond.instanceMethod I2.1 ∈ lw_tbl))))))
theorem mLb_spec {own : String} {ix : Nat} {I2 : mR} {n kd : Nat} {w : Bool} (h : mLb own ix I2 n kd w = true) :
    (w = true → Cond.methodLinkNest own ix I2.1 RX9 ∈ lw_tbl) ∧ (w = false → Cond.methodLink own ix I2.1 ∈ lw_tbl) ∧ Cond.code I2.1 I2.2.1 I2.2.2.1 I2.2.2.2.1 ∈ lw_tbl ∧ Cond.initialized I2.1.cls ∈ lw_tbl ∧ (I2.1.cls ≠ "java/lang/invoke/MethodHandle" ∧ I2.1.cls ≠ "java/lang/invoke/VarHandle") ∧ (∀ sig, parseMethodDescriptor I2.1.desc = some sig → n = sig.parameters.length) ∧
    (kd = 0 → Cond.instanceMethod I2.1 ∈ lw_tbl ∧ Cond.selects I2.1.cls I2.1 I2.1 ∈ lw_tbl) ∧ (kd = 1 → Cond.static I2.1 ∈ lw_tbl) ∧ (kd = 2 → I2.1.name = "<init>" ∧ Cond.instanceMethod I2.1 ∈ lw_tbl) := by
  unfold mLb at h
  simp only [Bool.and_eq_true] at h
  obtain ⟨h1, h2, h3, h4, h5, h6⟩ := h
  refine ⟨fun e => ?_, fun e => ?_, of_decide_eq_true h2, of_decide_eq_true h3, of_decide_eq_true h4, fun sig hs => ?_, fun e => ?_, fun e => ?_, fun e => ?_⟩
  · rw [e] at h1; exact of_decide_eq_true h1
  · rw [e] at h1; exact of_decide_eq_true h1
  · have h7 := of_decide_eq_true h5
    rw [hs] at h7
    exact (Option.some.inj h7).symm
  · rw [e] at h6
    simp only [Bool.and_eq_true, decide_eq_true_eq] at h6
    exact h6
  · rw [e] at h6
    exact of_decide_eq_true h6
  · rw [e] at h6
    simp only [Bool.and_eq_true, decide_eq_true_eq] at h6
    exact h6
theorem mT_met {E : eN} {I : mR} {mc ms t : Nat} {As : List Value} {f : aH} {Q : aP} (h : mT E I mc ms As f t Q) (hx : ∀ n g u, ¬ Q (.inr n) g u) :
    Met E.2.2.2 I.1 [Cond.code I.1 I.2.1 I.2.2.1 I.2.2.2.1] ({ frames := I.2.2.2.2.1, cells := mc, slots := ms, locals := I.2.2.2.2.2 } : Room) (fun v U => v = As.toArray ∧ (S0 E).WarmedH U.vm ∧ wH E f t U.heap) (aQ E Q) mc ms (fun q => b0 E ≤ q) := by
  intro p e h1 h2 h3 s m args below h4 h5 h6 h7
  obtain ⟨n, o, a1, a2, a3, a4⟩ := h p e h1 h2 h3 s m args below h4 h5 h6 h7
  refine ⟨n, o, a1, a2, a3, ?_⟩
  rcases a4 with a4 | ⟨q, -, x, ce, L, ⟨g, u, hq, -⟩, -⟩
  · exact a4
  · exact absurd hq (hx x g u)
theorem mT_post {E : eN} {I : mR} {mc ms t : Nat} {As : List Value} {f : aH} {Q Q2 : aP} (h : mT E I mc ms As f t Q2) (hq : ∀ o g u, Q2 o g u → Q o g u) : mT E I mc ms As f t Q := by
  intro p e h1 h2 h3 s m args below h4 h5 h6 h7
  obtain ⟨n, o, a1, a2, a3, a4⟩ := h p e h1 h2 h3 s m args below h4 h5 h6 h7
  refine ⟨n, o, a1, a2, a3, ?_⟩
  rcases a4 with ⟨⟨v, g, u, x1, x2, x3⟩, x4⟩ | ⟨q, x1, x, ce, L, ⟨g, u, x2, x3⟩, x4⟩
  · exact Or.inl ⟨⟨v, g, u, x1, hq _ _ _ x2, x3⟩, x4⟩
  · exact Or.inr ⟨q, x1, x, ce, L, ⟨g, u, hq _ _ _ x2, x3⟩, x4⟩
section CALLS
variable {E : eN} {I I2 : mR} {mc ms : Nat} {Q Q2 : aP} {pc : Nat} {lo : List (Option Value)} {st st0 : List Value} {f : aH} {t bc bs mc2 ms2 : Nat}
theorem r_call {p : Program} {e : Env} {R : Room} {s : State} {m : MethodId} {args : Array Value} {below : List Frame} {meth : Method} {c : Code} {H : Heap} {locs : List Loc} {cells slots : Nat} {Z : State → Prop} {ls : Array Slot} {a : Array Value} (hr : va_Run p E.2.2.2 e R s m args below meth c H locs cells slots mc2 ms2 (F0 m pc ls st0) st (aQ E Q2 a) (fun q => b0 E ≤ q)) (hz : ∀ z ∈ locs, b0 E ≤ z.base)
    (kk : ∀ (v : Option Value) (g : aH) (u : Nat) (H1 : Heap) (locs1 : List Loc), Q2 (.inl v) g u → wH E g u H1 → (∀ z ∈ locs1, b0 E ≤ z.base) → W p E.2.2.2 e R s m args below meth c H1 locs1 (cells + mc2) (slots + ms2) Z (F0 m (pc + 3) ls (v.toList ++ st))) : W p E.2.2.2 e R s m args below meth c H locs cells slots Z (F0 m pc ls st0) := by
  intro T hT X
  obtain ⟨v, st₀, u, T', L, h0, X', hL, e1, e2, ⟨v', g, k, hv, hq, hw⟩, sg⟩ := hr T hT X
  cases hv
  obtain ⟨t2, a1, b1⟩ := kk v g k T'.heap (locs ++ L) hq (by rw [e1]; exact hw) (fun z h => (List.mem_append.mp h).elim (hz z) (hL z)) T' rfl X'
  exact ⟨t2, sg t2 a1, b1⟩
theorem r_callX {p : Program} {e : Env} {R : Room} {s : State} {m : MethodId} {args : Array Value} {below : List Frame} {meth : Method} {c : Code} {H : Heap} {locs : List Loc} {cells slots : Nat} {ls : Array Slot} {a : Array Value} (hr : vx_Run p E.2.2.2 e R s m args below meth c H locs cells slots mc2 ms2 (F0 m pc ls st0) st (aQ E Q2 a) (aX E Q2) (fun q => b0 E ≤ q)) (hz : ∀ z ∈ locs, b0 E ≤ z.base)
    (hnt : ∀ x ∈ c.exceptionTable.toList, False) (hlk : meth.locks = false) (h1 : cells + mc2 ≤ mc) (h2 : slots + ms2 ≤ ms) (kx : ∀ n g u, Q2 (.inr n) g u → Q (.inr n) g u)
    (kk : ∀ (v : Option Value) (g : aH) (u : Nat) (H1 : Heap) (locs1 : List Loc), Q2 (.inl v) g u → wH E g u H1 → (∀ z ∈ locs1, b0 E ≤ z.base) → W p E.2.2.2 e R s m args below meth c H1 locs1 (cells + mc2) (slots + ms2) (vx_MQ below (aQ E Q) (aX E Q) args s mc ms (fun q => b0 E ≤ q)) (F0 m (pc + 3) ls (v.toList ++ st))) : W p E.2.2.2 e R s m args below meth c H locs cells slots (vx_MQ below (aQ E Q) (aX E Q) args s mc ms (fun q => b0 E ≤ q)) (F0 m pc ls st0) := by
  intro T hT X
  rcases hr T hT X with ⟨v, st₀, u, T', L, h0, X', hL, e1, e2, ⟨v', g, k, hv, hq, hw⟩, sg⟩ | ⟨q, st₀, u, T', L, n, ce, h0, X', hL, e1, e2, ⟨g, k, hq, hw⟩, hce, hcv, hcl, sg⟩
  · cases hv
    obtain ⟨t2, a1, b1⟩ := kk v g k T'.heap (locs ++ L) hq (by rw [e1]; exact hw) (fun z h => (List.mem_append.mp h).elim (hz z) (hL z)) T' rfl X'
    exact ⟨t2, sg t2 a1, b1⟩
  · obtain ⟨t2, a1, b1⟩ := vx_out (Qc := aQ E Q) (XC := aX E Q) (free := fun q => b0 E ≤ q) (mc := mc) (ms := ms) (pc := pc) (ls := ls) (rest := st) (H := T'.heap) (q := q) (fun x hx => (hnt x hx).elim) hlk (by rw [e1]; exact hce) hcv hcl (fun y hy _ => ⟨g, k, kx n g k hq, by rw [hy, e1]; exact hw⟩) (fun z h => (List.mem_append.mp h).elim (hz z) (hL z)) h1 h2 T' rfl X'
    exact ⟨t2, sg.trans a1, b1⟩
theorem e_blind : FrameBlind (fun (v : Array Value) (U : State) => v = st.toArray ∧ (S0 E).WarmedH U.vm ∧ wH E f t U.heap) := fun _ _ _ _ h => h
theorem v_callV (hE : eOk E) {ix b ci : Nat} {fs As : List Value} (d : decode I.2.1 pc = .ok (.invokevirtual ix, 3)) (hL : mLb I.1.cls ix I2 As.length 0 false = true) (hb : f b = .inr (ci, fs)) (hci : (match vwCl[ci]? with | some q => q.1 | none => "") = I2.1.cls) (hst : st0 = As.reverse ++ .ref b :: st)
    (hM : mT E I2 mc2 ms2 (.ref b :: As) f t Q2) (hfr : I2.2.2.2.2.1 + 1 ≤ I.2.2.2.2.1) (hlo : 8 + (I2.2.2.1 + 11) + I2.2.2.2.2.2 ≤ I.2.2.2.2.2) (hcat : (st.map fun v => v.category).sum ≤ 8) (hbc : mc2 ≤ bc) (hbs : ms2 ≤ bs)
    (kk : ∀ (v : Option Value) (g : aH) (u : Nat), Q2 (.inl v) g u → V E I mc ms Q (pc + 3) lo (v.toList ++ st) g u (bc - mc2) (bs - ms2)) (kx : ∀ n g u, Q2 (.inr n) g u → Q (.inr n) g u) : V E I mc ms Q pc lo st0 f t bc bs := by
  intro p e R s m args below meth c C H locs cells slots ls hw hz hc hs hl
  have hW := C.2.2.2.2.1
  have hR := C.2.2.2.2.2.2.2.2.1
  obtain ⟨-, l1, l2, l3, l4, l5, l6, -, -⟩ := mLb_spec hL
  obtain ⟨l7, l8⟩ := l6 rfl
  obtain ⟨-, -, r, e1, cell, q1, q2, q3, -⟩ := w_one hw hb uk_o
  have hrc : s.vm.findClass I2.1.cls = some cell.cls := by
    rw [e1] at hci
    rw [q2, ← hci]
    exact ((e_k hE hW).1 ci r e1).2.1
  have hR1 : R.cells = mc := by rw [hR]
  have hR2 : R.slots = ms := by rw [hR]
  refine r_callX (vx_runV (Ts := []) (n := As.length) (C := I2.1.cls) (bytes := I2.2.1) (maxL := I2.2.2.1) (ret := I2.2.2.2.1) ⟨C.1, C.2.1, C.2.2.1, C.2.2.2.1, fun _ h => by cases h⟩ hM
    ⟨⟨rfl, rfl, by rw [hR]; exact hfr, by rw [hR]; exact hlo, fun w hw9 a' U hU => ?_, List.mem_singleton.mpr rfl, e_w hE hW l2 rfl args, e_w hE hW l3 rfl args, l4, l5, e_w hE hW (l1 rfl) rfl args⟩, e_w hE hW l7 rfl args, e_w hE hW l8 rfl args⟩
    ⟨e_blind, ⟨cell, q1, by rw [q3]; rfl, hrc⟩, fun U hU hUW => ⟨rfl, State.WarmedH.trans hW hUW, by rw [hU]; exact hw⟩⟩ rfl rfl hl.1 hst (lv_room hcat) d ⟨by rw [hR1]; omega, by rw [hR2]; omega⟩) hz C.2.2.2.2.2.2.2.2.2 C.2.2.2.2.2.1 (by omega) (by omega) kx ?_
  · rw [List.mem_singleton.mp hw9]
    exact e_w hE (State.WarmedH.trans hW hU) l2 rfl a'
  · intro v g u H1 locs1 hq hw1 hz1
    exact kk v g u hq p e R s m args below meth c C H1 locs1 _ _ ls hw1 hz1 (by omega) (by omega) hl
theorem v_callS (hE : eOk E) {ix : Nat} {As : List Value} (d : decode I.2.1 pc = .ok (.invokestatic ix, 3)) (hL : mLb I.1.cls ix I2 As.length 1 false = true) (hst : st0 = As.reverse ++ st)
    (hM : mT E I2 mc2 ms2 As f t Q2) (hfr : I2.2.2.2.2.1 + 1 ≤ I.2.2.2.2.1) (hlo : 8 + (I2.2.2.1 + 11) + I2.2.2.2.2.2 ≤ I.2.2.2.2.2) (hcat : (st.map fun v => v.category).sum ≤ 8) (hbc : mc2 ≤ bc) (hbs : ms2 ≤ bs)
    (kk : ∀ (v : Option Value) (g : aH) (u : Nat), Q2 (.inl v) g u → V E I mc ms Q (pc + 3) lo (v.toList ++ st) g u (bc - mc2) (bs - ms2)) (kx : ∀ n g u, Q2 (.inr n) g u → Q (.inr n) g u) : V E I mc ms Q pc lo st0 f t bc bs := by
  intro p e R s m args below meth c C H locs cells slots ls hw hz hc hs hl
  have hW := C.2.2.2.2.1
  have hR := C.2.2.2.2.2.2.2.2.1
  obtain ⟨-, l1, l2, l3, l4, l5, -, l6, -⟩ := mLb_spec hL
  have hR1 : R.cells = mc := by rw [hR]
  have hR2 : R.slots = ms := by rw [hR]
  refine r_callX (vx_runS (Ts := []) (n := As.length) (bytes := I2.2.1) (maxL := I2.2.2.1) (ret := I2.2.2.2.1) ⟨C.1, C.2.1, C.2.2.1, C.2.2.2.1, fun _ h => by cases h⟩ hM
    ⟨⟨rfl, rfl, by rw [hR]; exact hfr, by rw [hR]; exact hlo, fun w hw9 a' U hU => ?_, List.mem_singleton.mpr rfl, e_w hE hW l2 rfl args, e_w hE hW l3 rfl args, l4, l5, e_w hE hW (l1 rfl) rfl args⟩, e_w hE hW (l6 rfl) rfl args⟩
    ⟨e_blind, fun U hU hUW => ⟨rfl, State.WarmedH.trans hW hUW, by rw [hU]; exact hw⟩⟩ rfl rfl hl.1 hst (lv_room hcat) d ⟨by rw [hR1]; omega, by rw [hR2]; omega⟩) hz C.2.2.2.2.2.2.2.2.2 C.2.2.2.2.2.1 (by omega) (by omega) kx ?_
  · rw [List.mem_singleton.mp hw9]
    exact e_w hE (State.WarmedH.trans hW hU) l2 rfl a'
  · intro v g u H1 locs1 hq hw1 hz1
    exact kk v g u hq p e R s m args below meth c C H1 locs1 _ _ ls hw1 hz1 (by omega) (by omega) hl
theorem v_callSN (hE : eOk E) {ix : Nat} {As : List Value} (d : decode I.2.1 pc = .ok (.invokestatic ix, 3)) (hL : mLb I.1.cls ix I2 As.length 1 true = true) (hst : st0 = As.reverse ++ st)
    (hM : mT E I2 mc2 ms2 As f t Q2) (hx : ∀ n g u, ¬ Q2 (.inr n) g u) (hfr : I2.2.2.2.2.1 + 1 ≤ I.2.2.2.2.1) (hlo : 8 + (I2.2.2.1 + 11) + I2.2.2.2.2.2 ≤ I.2.2.2.2.2) (hcat : (st.map fun v => v.category).sum ≤ 8) (hbc : mc2 ≤ bc) (hbs : ms2 ≤ bs)
    (kk : ∀ (v : Option Value) (g : aH) (u : Nat), Q2 (.inl v) g u → V E I mc ms Q (pc + 3) lo (v.toList ++ st) g u (bc - mc2) (bs - ms2)) : V E I mc ms Q pc lo st0 f t bc bs := by
  intro p e R s m args below meth c C H locs cells slots ls hw hz hc hs hl
  have hW := C.2.2.2.2.1
  have hR := C.2.2.2.2.2.2.2.2.1
  obtain ⟨l0, -, l2, l3, l4, l5, -, l6, -⟩ := mLb_spec hL
  have hR1 : R.cells = mc := by rw [hR]
  have hR2 : R.slots = ms := by rw [hR]
  refine r_call (va_runSN (Ts := []) (n := As.length) (bytes := I2.2.1) (maxL := I2.2.2.1) (ret := I2.2.2.2.1) (host := RX9) ⟨C.1, C.2.1, C.2.2.1, C.2.2.2.1, fun _ h => by cases h⟩ (mT_met hM hx)
    ⟨⟨⟨rfl, rfl, by rw [hR]; exact hfr, by rw [hR]; exact hlo, fun w hw9 a' U hU => ?_, List.mem_singleton.mpr rfl⟩, e_w hE hW l2 rfl args, e_w hE hW l3 rfl args, l4, l5, va_Nw.use rfl (e_nm hE hW (l0 rfl))⟩, e_w hE hW (l6 rfl) rfl args, trivial⟩
    ⟨e_blind, fun U hU hUW => ⟨rfl, State.WarmedH.trans hW hUW, by rw [hU]; exact hw⟩⟩ rfl rfl hl.1 hst (lv_room hcat) d ⟨by rw [hR1]; omega, by rw [hR2]; omega⟩) hz ?_
  · rw [List.mem_singleton.mp hw9]
    exact e_w hE (State.WarmedH.trans hW hU) l2 rfl a'
  · intro v g u H1 locs1 hq hw1 hz1
    exact kk v g u hq p e R s m args below meth c C H1 locs1 _ _ ls hw1 hz1 (by omega) (by omega) hl
theorem v_callI (hE : eOk E) {ix b : Nat} {As : List Value} {w : Bool} (d : decode I.2.1 pc = .ok (.invokespecial ix, 3)) (hL : mLb I.1.cls ix I2 As.length 2 w = true) (hret : I2.2.2.2.1 = none) (hst : st0 = As.reverse ++ .ref b :: st)
    (hM : mT E I2 mc2 ms2 (.ref b :: As) f t Q2) (hx : ∀ n g u, ¬ Q2 (.inr n) g u) (hfr : I2.2.2.2.2.1 + 1 ≤ I.2.2.2.2.1) (hlo : 8 + (I2.2.2.1 + 11) + I2.2.2.2.2.2 ≤ I.2.2.2.2.2) (hcat : (st.map fun v => v.category).sum ≤ 8) (hbc : mc2 ≤ bc) (hbs : ms2 ≤ bs)
    (kk : ∀ (v : Option Value) (g : aH) (u : Nat), Q2 (.inl v) g u → V E I mc ms Q (pc + 3) lo (v.toList ++ st) g u (bc - mc2) (bs - ms2)) : V E I mc ms Q pc lo st0 f t bc bs := by
  intro p e R s m args below meth c C H locs cells slots ls hw hz hc hs hl
  have hW := C.2.2.2.2.1
  have hR := C.2.2.2.2.2.2.2.2.1
  obtain ⟨l0, l1, l2, l3, l4, l5, -, -, l6⟩ := mLb_spec hL
  obtain ⟨l7, l8⟩ := l6 rfl
  have hR1 : R.cells = mc := by rw [hR]
  have hR2 : R.slots = ms := by rw [hR]
  have hws : ∀ w ∈ [Cond.code I2.1 I2.2.1 I2.2.2.1 I2.2.2.2.1], ∀ (a' : Array Value) (U : State), s.WarmedH U.vm → w.before a' U = true := fun w hw9 a' U hU => by
    rw [List.mem_singleton.mp hw9]
    exact e_w hE (State.WarmedH.trans hW hU) l2 rfl a'
  have fin : ∀ (v : Option Value) (g : aH) (u : Nat) (H1 : Heap) (locs1 : List Loc), Q2 (.inl v) g u → wH E g u H1 → (∀ z ∈ locs1, b0 E ≤ z.base) → W p E.2.2.2 e R s m args below meth c H1 locs1 (cells + mc2) (slots + ms2) (vx_MQ below (aQ E Q) (aX E Q) args s mc ms (fun q => b0 E ≤ q)) (F0 m (pc + 3) ls (v.toList ++ st)) := fun v g u H1 locs1 hq hw1 hz1 =>
    kk v g u hq p e R s m args below meth c C H1 locs1 _ _ ls hw1 hz1 (by omega) (by omega) hl
  have l2' : (Cond.code I2.1 I2.2.1 I2.2.2.1 none).before args s = true := by
    have := e_w hE hW l2 rfl args
    rwa [hret] at this
  have hmem : Cond.code I2.1 I2.2.1 I2.2.2.1 none ∈ [Cond.code I2.1 I2.2.1 I2.2.2.1 I2.2.2.2.1] := by rw [hret]; exact List.mem_singleton.mpr rfl
  cases w with
  | false =>
    exact r_call (va_runI (Ts := []) (n := As.length) (bytes := I2.2.1) (maxL := I2.2.2.1) ⟨C.1, C.2.1, C.2.2.1, C.2.2.2.1, fun _ h => by cases h⟩ (mT_met hM hx)
      ⟨⟨rfl, rfl, by rw [hR]; exact hfr, by rw [hR]; exact hlo, hws, hmem, l2', e_w hE hW l3 rfl args, l4, l5, e_w hE hW (l1 rfl) rfl args⟩, l7, e_w hE hW l8 rfl args⟩
      ⟨e_blind, fun U hU hUW => ⟨rfl, State.WarmedH.trans hW hUW, by rw [hU]; exact hw⟩⟩ rfl rfl hl.1 hst (lv_room hcat) d ⟨by rw [hR1]; omega, by rw [hR2]; omega⟩) hz fin
  | true =>
    exact r_call (va_runIN (Ts := []) (n := As.length) (bytes := I2.2.1) (maxL := I2.2.2.1) (host := RX9) ⟨C.1, C.2.1, C.2.2.1, C.2.2.2.1, fun _ h => by cases h⟩ (mT_met hM hx)
      ⟨⟨⟨rfl, rfl, by rw [hR]; exact hfr, by rw [hR]; exact hlo, hws, hmem⟩, l2', e_w hE hW l3 rfl args, l4, l5, va_Nw.use rfl (e_nm hE hW (l0 rfl))⟩, l7, e_w hE hW l8 rfl args⟩
      ⟨e_blind, fun U hU hUW => ⟨rfl, State.WarmedH.trans hW hUW, by rw [hU]; exact hw⟩⟩ rfl rfl hl.1 hst (lv_room hcat) d ⟨by rw [hR1]; omega, by rw [hR2]; omega⟩) hz fin
end CALLS
