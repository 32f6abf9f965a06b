theorem acX : ∀ k, k < 4 → Cond.arrayClass (aK k) ∈ lw_tbl := by decide +kernel
/-- entry ix of the pool of that owner is kind ci, which can be made -/
def nLb (own : String) (ix ci : Nat) : Bool := match vwCl[ci]? with
  | some q => decide (Cond.classLink own ix q.1 ∈ lw_tbl) && (decide (Cond.instantiable q.1 q.2.2 ∈ lw_tbl) && decide (Cond.initialized q.1 ∈ lw_tbl))
  | none => false
section MAKE
variable {E : eN} {I : mR} {mc ms : Nat} {Q : aP} {pc : Nat} {lo : List (Option Value)} {st : List Value} {f : aH} {t bc bs : Nat}
theorem v_newI (hE : eOk E) {n : Nat} (d : decode I.2.1 pc = .ok (.newarray .int, 2)) (hn : n < 67108864) (hbc : 1 ≤ bc) (hbs : n ≤ bs) (kk : V E I mc ms Q (pc + 2) lo (.ref t :: st) (va_up f t (.inl (0, n, .inl (fun _ => 0)))) (t + 1) (bc - 1) (bs - n)) : V E I mc ms Q pc lo (.int (nI n) :: st) f t bc bs := by
  intro p e R s m args below meth c C H locs cells slots ls hw hz hc hs hl
  have hW := C.2.2.2.2.1
  have hK := e_k hE hW
  have hR := C.2.2.2.2.2.2.2.2.1
  refine va_newaK C.1 C.2.1 (atype := .int) (e_w hE hW (acX 0 (by decide)) rfl args) rfl d rfl (nI_pos (by omega)) (nI_clamp (by omega)) (by show n * 4 ≤ _; omega) (by rw [hR]; show cells + 1 ≤ mc; omega) (by rw [hR]; show slots + n ≤ ms; omega) hw.1 fun H1 cA x1 x2 x3 x4 x5 => ?_
  have hcA : E.2.1 0 = cA := by
    have h1 : s.vm.findClass ("[" ++ (newarray.typeOf .int).toString) = some (E.2.1 0) := (hK.2 0 _ (ty_at E (by decide))).2
    exact Option.some.inj (h1.symm.trans x5)
  refine kk p e R s m args below meth c C H1 locs (cells + 1) (slots + n) ls (w_push hw x2 x3 ?_) hz (by omega) (by omega) hl
  show H1[t]? = some (vp_cell _ _)
  rw [x1, ← hcA]
  rfl
theorem v_newZ (hE : eOk E) {n : Nat} (d : decode I.2.1 pc = .ok (.newarray .boolean, 2)) (hn : n < 67108864) (hbc : 1 ≤ bc) (hbs : n ≤ bs) (kk : V E I mc ms Q (pc + 2) lo (.ref t :: st) (va_up f t (.inl (1, n, .inl (fun _ => 0)))) (t + 1) (bc - 1) (bs - n)) : V E I mc ms Q pc lo (.int (nI n) :: st) f t bc bs := by
  intro p e R s m args below meth c C H locs cells slots ls hw hz hc hs hl
  have hW := C.2.2.2.2.1
  have hK := e_k hE hW
  have hR := C.2.2.2.2.2.2.2.2.1
  refine va_newaK C.1 C.2.1 (atype := .boolean) (e_w hE hW (acX 1 (by decide)) rfl args) rfl d rfl (nI_pos (by omega)) (nI_clamp (by omega)) (by show n * 1 ≤ _; omega) (by rw [hR]; show cells + 1 ≤ mc; omega) (by rw [hR]; show slots + n ≤ ms; omega) hw.1 fun H1 cA x1 x2 x3 x4 x5 => ?_
  have hcA : E.2.1 1 = cA := by
    have h1 : s.vm.findClass ("[" ++ (newarray.typeOf .boolean).toString) = some (E.2.1 1) := (hK.2 1 _ (ty_at E (by decide))).2
    exact Option.some.inj (h1.symm.trans x5)
  refine kk p e R s m args below meth c C H1 locs (cells + 1) (slots + n) ls (w_push hw x2 x3 ?_) hz (by omega) (by omega) hl
  show H1[t]? = some (vp_cell _ _)
  rw [x1, ← hcA]
  rfl
theorem v_newB (hE : eOk E) {n : Nat} (d : decode I.2.1 pc = .ok (.newarray .byte, 2)) (hn : n < 67108864) (hbc : 1 ≤ bc) (hbs : n ≤ bs) (kk : V E I mc ms Q (pc + 2) lo (.ref t :: st) (va_up f t (.inl (2, n, .inl (fun _ => 0)))) (t + 1) (bc - 1) (bs - n)) : V E I mc ms Q pc lo (.int (nI n) :: st) f t bc bs := by
  intro p e R s m args below meth c C H locs cells slots ls hw hz hc hs hl
  have hW := C.2.2.2.2.1
  have hK := e_k hE hW
  have hR := C.2.2.2.2.2.2.2.2.1
  refine va_newaK C.1 C.2.1 (atype := .byte) (e_w hE hW (acX 2 (by decide)) rfl args) rfl d rfl (nI_pos (by omega)) (nI_clamp (by omega)) (by show n * 1 ≤ _; omega) (by rw [hR]; show cells + 1 ≤ mc; omega) (by rw [hR]; show slots + n ≤ ms; omega) hw.1 fun H1 cA x1 x2 x3 x4 x5 => ?_
  have hcA : E.2.1 2 = cA := by
    have h1 : s.vm.findClass ("[" ++ (newarray.typeOf .byte).toString) = some (E.2.1 2) := (hK.2 2 _ (ty_at E (by decide))).2
    exact Option.some.inj (h1.symm.trans x5)
  refine kk p e R s m args below meth c C H1 locs (cells + 1) (slots + n) ls (w_push hw x2 x3 ?_) hz (by omega) (by omega) hl
  show H1[t]? = some (vp_cell _ _)
  rw [x1, ← hcA]
  rfl
theorem v_newJ (hE : eOk E) {n : Nat} (d : decode I.2.1 pc = .ok (.newarray .long, 2)) (hn : n < 67108864) (hbc : 1 ≤ bc) (hbs : n ≤ bs) (kk : V E I mc ms Q (pc + 2) lo (.ref t :: st) (va_up f t (.inl (3, n, .inr (.inl (fun _ => 0))))) (t + 1) (bc - 1) (bs - n)) : V E I mc ms Q pc lo (.int (nI n) :: st) f t bc bs := by
  intro p e R s m args below meth c C H locs cells slots ls hw hz hc hs hl
  have hW := C.2.2.2.2.1
  have hK := e_k hE hW
  have hR := C.2.2.2.2.2.2.2.2.1
  refine va_newaK C.1 C.2.1 (atype := .long) (e_w hE hW (acX 3 (by decide)) rfl args) rfl d rfl (nI_pos (by omega)) (nI_clamp (by omega)) (by show n * 8 ≤ _; omega) (by rw [hR]; show cells + 1 ≤ mc; omega) (by rw [hR]; show slots + n ≤ ms; omega) hw.1 fun H1 cA x1 x2 x3 x4 x5 => ?_
  have hcA : E.2.1 3 = cA := by
    have h1 : s.vm.findClass ("[" ++ (newarray.typeOf .long).toString) = some (E.2.1 3) := (hK.2 3 _ (ty_at E (by decide))).2
    exact Option.some.inj (h1.symm.trans x5)
  refine kk p e R s m args below meth c C H1 locs (cells + 1) (slots + n) ls (w_push hw x2 x3 ?_) hz (by omega) (by omega) hl
  show H1[t]? = some (vp_cell _ _)
  rw [x1, ← hcA]
  rfl
theorem v_new (hE : eOk E) {ix ci N : Nat} {fs : List Value} (d : decode I.2.1 pc = .ok (.new ix, 3)) (hL : nLb I.1.cls ix ci = true) (hN : (match vwCl[ci]? with | some q => q.2.2 | none => 0) = N) (hfs : ∀ j, j < N → defaultValue (tyF ci j) = vp_V fs j) (hbc : 1 ≤ bc) (hbs : N ≤ bs) (kk : V E I mc ms Q (pc + 3) lo (.ref t :: st) (va_up f t (.inr (ci, fs))) (t + 1) (bc - 1) (bs - N)) : V E I mc ms Q pc lo st f t bc bs := by
  intro p e R s m args below meth c C H locs cells slots ls hw hz hc hs hl
  have hW := C.2.2.2.2.1
  have hK := e_k hE hW
  have hR := C.2.2.2.2.2.2.2.2.1
  unfold nLb at hL
  split at hL
  · rename_i q hq
    simp only [Bool.and_eq_true, decide_eq_true_eq] at hL
    rw [hq] at hN
    dsimp only at hN
    subst hN
    obtain ⟨g1, g2, g3, g4⟩ := clOk ci q hq
    have hts : ∀ w ∈ u_ws q.1 q.2.1 q.2.2, w.before args s = true := fun w h => e_w hE hW (g1 w h).1 (g1 w h).2 args
    have hKn := hK.1 ci _ hq
    refine W.newcK C.1 C.2.1 C.2.2.2.1 (e_w hE hW hL.1 rfl args) (e_w hE hW hL.2.1 rfl args) (e_w hE hW hL.2.2 rfl args) rfl d (by rw [hR]; show cells + 1 ≤ mc; omega) (by rw [hR]; show slots + q.2.2 ≤ ms; omega) hKn.2.1 hw.1 fun H1 kC hkC x1 x2 x3 => ?_
    refine kk p e R s m args below meth c C H1 locs (cells + 1) (slots + q.2.2) ls (w_push hw x2 x3 ?_) hz (by omega) (by omega) hl
    exact ⟨_, hq, (u_born (tyF ci) hts (fun _ h => h) hKn hkC x1 g2).to hfs⟩
  · cases hL
theorem aoXE : Cond.arrayOver (.object RX0) ∈ lw_tbl := by decide +kernel
theorem v_anewE (hE : eOk E) {ix n : Nat} (d : decode I.2.1 pc = .ok (.anewarray ix, 3)) (hL : Cond.classLink I.1.cls ix RX0 ∈ lw_tbl) (hn : n < 67108864) (hbc : 1 ≤ bc) (hbs : n ≤ bs) (kk : V E I mc ms Q (pc + 3) lo (.ref t :: st) (va_up f t (.inl (4, n, .inr (.inr (.inr (.inr (fun _ => none))))))) (t + 1) (bc - 1) (bs - n)) : V E I mc ms Q pc lo (.int (nI n) :: st) f t bc bs := by
  intro p e R s m args below meth c C H locs cells slots ls hw hz hc hs hl
  have hW := C.2.2.2.2.1
  have hK := e_k hE hW
  have hR := C.2.2.2.2.2.2.2.2.1
  have hao : va_AO RX0 s := by
    obtain ⟨-, a0, hh⟩ := id hE
    exact va_AO.moved hW.alike (va_AO.of (hh _ aoXE))
  have hc31 : n < 2 ^ 31 := by omega
  refine W.anew C.1 C.2.1 C.2.2.2.1 (e_w hE hW hL rfl args) (va_AO.use hao) rfl d rfl (nI_pos hc31) (by rw [nI_clamp hc31]; omega) (by rw [hR]; show cells + 1 ≤ mc; omega) (by rw [nI_clamp hc31, hR]; show slots + n ≤ ms; omega) fun cA kA comp f1 f2 f3 f4 => ?_
  rw [nI_clamp hc31, hw.1]
  have hcA : E.2.1 4 = cA := by
    obtain ⟨kA2, comp2, k1, k2, k3, k4⟩ := (hK.2 4 _ (ty_at E (by decide))).2
    exact Option.some.inj (k4.symm.trans f1)
  generalize hH1 : H.push ({ cls := cA, slots := Array.replicate n .null, vm := .none } : Cell) = H1
  have z1 : H1.size = t + 1 := by rw [← hH1, Array.size_push, hw.1]
  have e1 : H1[t]? = some (arrV cA n (fun _ => .null)) := by rw [← hH1, ← hw.1, Array.getElem?_push_size, ← arrV_new]
  have o1 : ∀ q : Nat, q < t → H1[q]? = H[q]? := fun q hq => by rw [← hH1, Array.getElem?_push, if_neg (by rw [hw.1]; omega)]
  refine kk p e R s m args below meth c C H1 locs (cells + 1) (slots + n) ls (w_push hw z1 o1 ?_) hz (by omega) (by omega) hl
  show H1[t]? = some (vp_cell _ _)
  rw [e1, ← hcA]
  rfl
theorem v_aastE (hE : eOk E) {a v n i : Nat} {g : Nat → Option Nat} {vs : List Value} (d : decode I.2.1 pc = .ok (.aastore, 1)) (hf : f a = .inl (4, n, .inr (.inr (.inr (.inr g))))) (hv : f v = .inr (0, vs)) (hi : i < n) (hn : i < 2 ^ 31) (kk : V E I mc ms Q (pc + 1) lo st (va_up f a (.inl (4, n, .inr (.inr (.inr (.inr (va_up g i (some v)))))))) t bc bs) : V E I mc ms Q pc lo (.ref v :: .int (nI i) :: .ref a :: st) f t bc bs := by
  intro p e R s m args below meth c C H locs cells slots ls hw hz hc hs hl
  have hW := C.2.2.2.2.1
  have hK := e_k hE hW
  obtain ⟨r1, r2, r3⟩ := w_one hw hf (uk_a (by decide))
  obtain ⟨-, -, r', hr', cellV, g1, g2, g3, -⟩ := w_one hw hv uk_o
  have hcls := (hK.1 0 _ rfl).2
  obtain ⟨kA, comp, k1, k2, k3, -⟩ := (hK.2 4 _ (ty_at E (by decide))).2
  have hcomp : comp = E.1.1 0 := Option.some.inj (k3.symm.trans hcls.1)
  subst hcomp
  obtain ⟨kC, hkC, -⟩ := hcls.2
  refine W.aast C.1 C.2.1 r3 (fun q h => by cases h) (fun h => by cases h) k1 k2 rfl hkC ⟨nI_pos hn, by show _ < (arrV _ _ _).slots.size; rw [arrV_size, nI_clamp hn]; exact hi⟩ g1 (fun q h => by rw [g3] at h; cases h) (by rw [g2]; exact hkC) (by rw [g2]; exact va_assign hcls) rfl rfl d fun H1 x1 x2 x3 => ?_
  refine kk p e R s m args below meth c C H1 _ cells slots ls (w_set hw (by rw [hf]; exact uk_a (by decide)) x2 x3 ?_) (fun z hz9 => ?_) hc hs hl
  · show H1[a]? = some (vp_cell _ _)
    rw [x1]
    show some ((vp_cell _ _).setSlot _ _) = _
    rw [vp_cell_q, vp_cell_q, arrV_store, nI_clamp hn]
    congr 2
    funext q
    by_cases hq : q = i
    · subst hq
      simp [updV, va_up, va_rf]
    · simp [updV, va_up, hq]
  · rcases List.mem_append.mp hz9 with h | h
    · exact hz z h
    · rw [List.mem_singleton.mp h]; exact r1
theorem aoXS : Cond.arrayOver (.object RX7) ∈ lw_tbl := by decide +kernel
theorem v_anewS (hE : eOk E) {ix n : Nat} (d : decode I.2.1 pc = .ok (.anewarray ix, 3)) (hL : Cond.classLink I.1.cls ix RX7 ∈ lw_tbl) (hn : n < 67108864) (hbc : 1 ≤ bc) (hbs : n ≤ bs) (kk : V E I mc ms Q (pc + 3) lo (.ref t :: st) (va_up f t (.inl (5, n, .inr (.inr (.inr (.inr (fun _ => none))))))) (t + 1) (bc - 1) (bs - n)) : V E I mc ms Q pc lo (.int (nI n) :: st) f t bc bs := by
  intro p e R s m args below meth c C H locs cells slots ls hw hz hc hs hl
  have hW := C.2.2.2.2.1
  have hK := e_k hE hW
  have hR := C.2.2.2.2.2.2.2.2.1
  have hao : va_AO RX7 s := by
    obtain ⟨-, a0, hh⟩ := id hE
    exact va_AO.moved hW.alike (va_AO.of (hh _ aoXS))
  have hc31 : n < 2 ^ 31 := by omega
  refine W.anew C.1 C.2.1 C.2.2.2.1 (e_w hE hW hL rfl args) (va_AO.use hao) rfl d rfl (nI_pos hc31) (by rw [nI_clamp hc31]; omega) (by rw [hR]; show cells + 1 ≤ mc; omega) (by rw [nI_clamp hc31, hR]; show slots + n ≤ ms; omega) fun cA kA comp f1 f2 f3 f4 => ?_
  rw [nI_clamp hc31, hw.1]
  have hcA : E.2.1 5 = cA := by
    obtain ⟨kA2, comp2, k1, k2, k3, k4⟩ := (hK.2 5 _ (ty_at E (by decide))).2
    exact Option.some.inj (k4.symm.trans f1)
  generalize hH1 : H.push ({ cls := cA, slots := Array.replicate n .null, vm := .none } : Cell) = H1
  have z1 : H1.size = t + 1 := by rw [← hH1, Array.size_push, hw.1]
  have e1 : H1[t]? = some (arrV cA n (fun _ => .null)) := by rw [← hH1, ← hw.1, Array.getElem?_push_size, ← arrV_new]
  have o1 : ∀ q : Nat, q < t → H1[q]? = H[q]? := fun q hq => by rw [← hH1, Array.getElem?_push, if_neg (by rw [hw.1]; omega)]
  refine kk p e R s m args below meth c C H1 locs (cells + 1) (slots + n) ls (w_push hw z1 o1 ?_) hz (by omega) (by omega) hl
  show H1[t]? = some (vp_cell _ _)
  rw [e1, ← hcA]
  rfl
theorem v_aastS (hE : eOk E) {a v n i : Nat} {g : Nat → Option Nat} {vs : List Value} (d : decode I.2.1 pc = .ok (.aastore, 1)) (hf : f a = .inl (5, n, .inr (.inr (.inr (.inr g))))) (hv : f v = .inr (7, vs)) (hi : i < n) (hn : i < 2 ^ 31) (kk : V E I mc ms Q (pc + 1) lo st (va_up f a (.inl (5, n, .inr (.inr (.inr (.inr (va_up g i (some v)))))))) t bc bs) : V E I mc ms Q pc lo (.ref v :: .int (nI i) :: .ref a :: st) f t bc bs := by
  intro p e R s m args below meth c C H locs cells slots ls hw hz hc hs hl
  have hW := C.2.2.2.2.1
  have hK := e_k hE hW
  obtain ⟨r1, r2, r3⟩ := w_one hw hf (uk_a (by decide))
  obtain ⟨-, -, r', hr', cellV, g1, g2, g3, -⟩ := w_one hw hv uk_o
  have hcls := (hK.1 7 _ rfl).2
  obtain ⟨kA, comp, k1, k2, k3, -⟩ := (hK.2 5 _ (ty_at E (by decide))).2
  have hcomp : comp = E.1.1 7 := Option.some.inj (k3.symm.trans hcls.1)
  subst hcomp
  obtain ⟨kC, hkC, -⟩ := hcls.2
  refine W.aast C.1 C.2.1 r3 (fun q h => by cases h) (fun h => by cases h) k1 k2 rfl hkC ⟨nI_pos hn, by show _ < (arrV _ _ _).slots.size; rw [arrV_size, nI_clamp hn]; exact hi⟩ g1 (fun q h => by rw [g3] at h; cases h) (by rw [g2]; exact hkC) (by rw [g2]; exact va_assign hcls) rfl rfl d fun H1 x1 x2 x3 => ?_
  refine kk p e R s m args below meth c C H1 _ cells slots ls (w_set hw (by rw [hf]; exact uk_a (by decide)) x2 x3 ?_) (fun z hz9 => ?_) hc hs hl
  · show H1[a]? = some (vp_cell _ _)
    rw [x1]
    show some ((vp_cell _ _).setSlot _ _) = _
    rw [vp_cell_q, vp_cell_q, arrV_store, nI_clamp hn]
    congr 2
    funext q
    by_cases hq : q = i
    · subst hq
      simp [updV, va_up, va_rf]
    · simp [updV, va_up, hq]
  · rcases List.mem_append.mp hz9 with h | h
    · exact hz z h
    · rw [List.mem_singleton.mp h]; exact r1
theorem v_last (hE : eOk E) {a n i : Nat} {g : Nat → Int64} {x : Int64} (d : decode I.2.1 pc = .ok (.lastore, 1)) (hf : f a = .inl (3, n, .inr (.inl g))) (hi : i < n) (hn : i < 2 ^ 31) (kk : V E I mc ms Q (pc + 1) lo st (va_up f a (.inl (3, n, .inr (.inl (vp_updL g i x))))) t bc bs) : V E I mc ms Q pc lo (.long x :: .int (nI i) :: .ref a :: st) f t bc bs := by
  intro p e R s m args below meth c C H locs cells slots ls hw hz hc hs hl
  obtain ⟨r1, r2, r3⟩ := w_one hw hf (uk_a (by decide))
  have hin : vp_in (nI i) n := fun h => by
    rcases h with h | h
    · exact nI_pos hn h
    · rw [nI_clamp hn] at h; omega
  refine W.last C.1 C.2.1 r3 (((e_k hE C.2.2.2.2.1).2 3 _ (ty_at E (by decide))).1 n (fun j => .long (g j))) (fun q => by cases q) (by show ¬ (nI i < 0 ∨ (arrV _ _ _).slots.size ≤ _); rw [arrV_size]; exact hin) rfl rfl d fun H1 x1 x2 x3 => ?_
  refine kk p e R s m args below meth c C H1 _ cells slots ls (w_set hw (by rw [hf]; exact uk_a (by decide)) x2 x3 ?_) (fun z hz9 => ?_) hc hs hl
  · show H1[a]? = some (vp_cell _ _)
    rw [x1]
    show some ((vp_cell _ _).setSlot _ _) = _
    rw [vp_cell_l, vp_cell_l, arrV_store, nI_clamp hn]
    congr 2
    funext q
    by_cases hq : q = i
    · subst hq
      simp [updV, vp_updL]
    · simp [updV, vp_updL, hq]
  · rcases List.mem_append.mp hz9 with h | h
    · exact hz z h
    · rw [List.mem_singleton.mp h]; exact r1
theorem v_alen (hE : eOk E) {a k : Nat} {x : vp_A} (d : decode I.2.1 pc = .ok (.arraylength, 1)) (hk : k < 6) (hf : f a = .inl (k, x)) (kk : V E I mc ms Q (pc + 1) lo (.int (nI x.1) :: st) f t bc bs) : V E I mc ms Q pc lo (.ref a :: st) f t bc bs := by
  intro p e R s m args below meth c C H locs cells slots ls hw hz hc hs hl
  obtain ⟨r1, r2, r3⟩ := w_one hw hf (uk_a hk)
  exact va_alen C.1 C.2.1 (e_k hE C.2.2.2.2.1) (w_p1 r3) 0 k rfl (ty_at E hk) rfl d (kk p e R s m args below meth c C H locs cells slots ls hw hz hc hs hl)
theorem v_lcmp {x y : Int64} (d : decode I.2.1 pc = .ok (.lcmp, 1)) (k : V E I mc ms Q (pc + 1) lo (.int (lg_cmp x y) :: st) f t bc bs) : V E I mc ms Q pc lo (.long y :: .long x :: st) f t bc bs := by
  intro p e R s m args below meth c C H locs cells slots ls hw hz hc hs hl
  exact W.lcmp C.1 C.2.1 d (k p e R s m args below meth c C H locs cells slots ls hw hz hc hs hl)
theorem v_ldc (hE : eOk E) {ix : Nat} {v : Int32} (d : decode I.2.1 pc = .ok (.ldc ix, 2)) (hL : Cond.constant I.1.cls ix v ∈ lw_tbl) (k : V E I mc ms Q (pc + 2) lo (.int v :: st) f t bc bs) : V E I mc ms Q pc lo st f t bc bs := by
  intro p e R s m args below meth c C H locs cells slots ls hw hz hc hs hl
  exact lv_ldc C.1 C.2.1 C.2.2.2.1 (e_w hE C.2.2.2.2.1 hL rfl args) d (k p e R s m args below meth c C H locs cells slots ls hw hz hc hs hl)
theorem v_ldc2 (hE : eOk E) {ix : Nat} {v : Int64} (d : decode I.2.1 pc = .ok (.ldc2_w ix, 3)) (hL : Cond.constantLong I.1.cls ix v ∈ lw_tbl) (k : V E I mc ms Q (pc + 3) lo (.long v :: st) f t bc bs) : V E I mc ms Q pc lo st f t bc bs := by
  intro p e R s m args below meth c C H locs cells slots ls hw hz hc hs hl
  exact lv_ldc2 C.1 C.2.1 C.2.2.2.1 (e_w hE C.2.2.2.2.1 hL rfl args) d (k p e R s m args below meth c C H locs cells slots ls hw hz hc hs hl)
theorem oiX : Cond.instanceMethod Lib.objectInit ∈ lw_tbl ∧ Cond.code Lib.objectInit ⟨#[0xb1]⟩ 1 none ∈ lw_tbl := by decide +kernel
theorem v_oinit (hE : eOk E) {ix a : Nat} (d : decode I.2.1 pc = .ok (.invokespecial ix, 3)) (hL : Cond.methodLink I.1.cls ix Lib.objectInit ∈ lw_tbl) (hfr : 1 ≤ I.2.2.2.2.1) (hlo : (st.map fun v => v.category).sum + 12 ≤ I.2.2.2.2.2) (k : V E I mc ms Q (pc + 3) lo st f t bc bs) : V E I mc ms Q pc lo (.ref a :: st) f t bc bs := by
  intro p e R s m args below meth c C H locs cells slots ls hw hz hc hs hl
  have hW := C.2.2.2.2.1
  have hR := C.2.2.2.2.2.2.2.2.1
  exact W.objInit C.1 C.2.1 C.2.2.2.1 (e_w hE hW hL rfl args) (e_w hE hW oiX.1 rfl args) (e_w hE hW oiX.2 rfl args) rfl (by rw [C.2.2.1]; exact hl.1) rfl d (by rw [hR]; exact hfr) (by rw [hR]; show 2 * 0 + _ + 12 ≤ I.2.2.2.2.2; omega) (k p e R s m args below meth c C H locs cells slots ls hw hz hc hs hl)
theorem mmX : (Cond.static Lib.Math.max.name ∈ lw_tbl ∧ Cond.code Lib.Math.max.name Lib.Math.max.code 2 (some .int) ∈ lw_tbl) ∧ (Cond.static Lib.Math.min.name ∈ lw_tbl ∧ Cond.code Lib.Math.min.name Lib.Math.min.code 2 (some .int) ∈ lw_tbl) ∧ Cond.initialized "java/lang/Math" ∈ lw_tbl := by decide +kernel
theorem v_max (hE : eOk E) {ix : Nat} {x y : Int32} (d : decode I.2.1 pc = .ok (.invokestatic ix, 3)) (hL : Cond.methodLink I.1.cls ix Lib.Math.max.name ∈ lw_tbl) (hfr : 1 ≤ I.2.2.2.2.1) (hlo : (st.map fun v => v.category).sum + 13 ≤ I.2.2.2.2.2) (k : V E I mc ms Q (pc + 3) lo (.int (if x < y then y else x) :: st) f t bc bs) : V E I mc ms Q pc lo (.int y :: .int x :: st) f t bc bs := by
  intro p e R s m args below meth c C H locs cells slots ls hw hz hc hs hl
  have hW := C.2.2.2.2.1
  have hR := C.2.2.2.2.2.2.2.2.1
  exact va_mmax C.1 C.2.1 (C.2.2.1.trans hl.1.symm) C.2.2.2.1 (e_w hE hW hL rfl args) (e_w hE hW mmX.1.1 rfl args) (e_w hE hW mmX.2.2 rfl args) (e_w hE hW mmX.1.2 rfl args) (by rw [hR]; exact hfr) (by rw [hR]; exact hlo) (by rw [hR]; show cells ≤ mc; omega) (by rw [hR]; show slots ≤ ms; omega) d (k p e R s m args below meth c C H locs cells slots ls hw hz hc hs hl)
theorem v_min (hE : eOk E) {ix : Nat} {x y : Int32} (d : decode I.2.1 pc = .ok (.invokestatic ix, 3)) (hL : Cond.methodLink I.1.cls ix Lib.Math.min.name ∈ lw_tbl) (hfr : 1 ≤ I.2.2.2.2.1) (hlo : (st.map fun v => v.category).sum + 13 ≤ I.2.2.2.2.2) (k : V E I mc ms Q (pc + 3) lo (.int (if y < x then y else x) :: st) f t bc bs) : V E I mc ms Q pc lo (.int y :: .int x :: st) f t bc bs := by
  intro p e R s m args below meth c C H locs cells slots ls hw hz hc hs hl
  have hW := C.2.2.2.2.1
  have hR := C.2.2.2.2.2.2.2.2.1
  exact va_mmin C.1 C.2.1 (C.2.2.1.trans hl.1.symm) C.2.2.2.1 (e_w hE hW hL rfl args) (e_w hE hW mmX.2.1.1 rfl args) (e_w hE hW mmX.2.2 rfl args) (e_w hE hW mmX.2.1.2 rfl args) (by rw [hR]; exact hfr) (by rw [hR]; exact hlo) (by rw [hR]; show cells ≤ mc; omega) (by rw [hR]; show slots ≤ ms; omega) d (k p e R s m args below meth c C H locs cells slots ls hw hz hc hs hl)
/-! numbers from 0 on -/
theorem v_iaddN {x y : Nat} (d : decode I.2.1 pc = .ok (.iadd, 1)) (k : V E I mc ms Q (pc + 1) lo (.int (nI (x + y)) :: st) f t bc bs) : V E I mc ms Q pc lo (.int (nI y) :: .int (nI x) :: st) f t bc bs := v_iadd d (by rw [nI_add]; exact k)
theorem v_isubN {x y : Nat} (d : decode I.2.1 pc = .ok (.isub, 1)) (h : y ≤ x) (k : V E I mc ms Q (pc + 1) lo (.int (nI (x - y)) :: st) f t bc bs) : V E I mc ms Q pc lo (.int (nI y) :: .int (nI x) :: st) f t bc bs := v_isub d (by rw [pk_sub h]; exact k)
theorem v_imulN {x y : Nat} (d : decode I.2.1 pc = .ok (.imul, 1)) (k : V E I mc ms Q (pc + 1) lo (.int (nI (x * y)) :: st) f t bc bs) : V E I mc ms Q pc lo (.int (nI y) :: .int (nI x) :: st) f t bc bs := v_imul d (by rw [pk_mul]; exact k)
theorem v_idivN {x y : Nat} (d : decode I.2.1 pc = .ok (.idiv, 1)) (hx : x < 2 ^ 31) (h0 : 0 < y) (hy : y < 2 ^ 31) (k : V E I mc ms Q (pc + 1) lo (.int (nI (x / y)) :: st) f t bc bs) : V E I mc ms Q pc lo (.int (nI y) :: .int (nI x) :: st) f t bc bs := v_idiv d (nI_ne0 h0 hy) (by rw [pk_div hx h0 hy]; exact k)
theorem v_iremN {x y : Nat} (d : decode I.2.1 pc = .ok (.irem, 1)) (hx : x < 2 ^ 31) (h0 : 0 < y) (hy : y < 2 ^ 31) (k : V E I mc ms Q (pc + 1) lo (.int (nI (x % y)) :: st) f t bc bs) : V E I mc ms Q pc lo (.int (nI y) :: .int (nI x) :: st) f t bc bs := v_irem d (nI_ne0 h0 hy) (by rw [pk_rem hx h0 hy]; exact k)
theorem v_iincN {i x y : Nat} {n : Int} (d : decode I.2.1 pc = .ok (.iinc i n, 3)) (hx : lo[i]? = some (some (.int (nI x)))) (hy : Int32.ofInt n = nI y) (hn : i < I.2.2.1) (k : V E I mc ms Q (pc + 3) (l_st1 lo i (.int (nI (x + y)))) st f t bc bs) : V E I mc ms Q pc lo st f t bc bs := v_iinc d hx (by rw [hy, nI_add]) hn k
theorem v_icmp_eqN {x y : Nat} {off : Int} {tgt : Nat} (d : decode I.2.1 pc = .ok (.if_icmp .eq off, 3)) (ht : (pc : Int) + off = (tgt : Int)) (hx : x < 2 ^ 31) (hy : y < 2 ^ 31) (kt : x = y → V E I mc ms Q tgt lo st f t bc bs) (kf : x ≠ y → V E I mc ms Q (pc + 3) lo st f t bc bs) : V E I mc ms Q pc lo (.int (nI y) :: .int (nI x) :: st) f t bc bs :=
  v_icmp_eq d ht (fun q => kt ((nI_eq hx hy).mp q)) (fun q => kf (fun z => q ((nI_eq hx hy).mpr z)))
theorem v_icmp_neN {x y : Nat} {off : Int} {tgt : Nat} (d : decode I.2.1 pc = .ok (.if_icmp .ne off, 3)) (ht : (pc : Int) + off = (tgt : Int)) (hx : x < 2 ^ 31) (hy : y < 2 ^ 31) (kt : x ≠ y → V E I mc ms Q tgt lo st f t bc bs) (kf : x = y → V E I mc ms Q (pc + 3) lo st f t bc bs) : V E I mc ms Q pc lo (.int (nI y) :: .int (nI x) :: st) f t bc bs :=
  v_icmp_ne d ht (fun q => kt (fun z => q ((nI_eq hx hy).mpr z))) (fun q => kf ((nI_eq hx hy).mp q))
theorem v_icmp_ltN {x y : Nat} {off : Int} {tgt : Nat} (d : decode I.2.1 pc = .ok (.if_icmp .lt off, 3)) (ht : (pc : Int) + off = (tgt : Int)) (hx : x < 2 ^ 31) (hy : y < 2 ^ 31) (kt : x < y → V E I mc ms Q tgt lo st f t bc bs) (kf : y ≤ x → V E I mc ms Q (pc + 3) lo st f t bc bs) : V E I mc ms Q pc lo (.int (nI y) :: .int (nI x) :: st) f t bc bs :=
  v_icmp_lt d ht (fun q => kt ((nI_ltI hx hy).mp q)) (fun q => kf (Nat.not_lt.mp (fun z => q ((nI_ltI hx hy).mpr z))))
theorem v_icmp_geN {x y : Nat} {off : Int} {tgt : Nat} (d : decode I.2.1 pc = .ok (.if_icmp .ge off, 3)) (ht : (pc : Int) + off = (tgt : Int)) (hx : x < 2 ^ 31) (hy : y < 2 ^ 31) (kt : y ≤ x → V E I mc ms Q tgt lo st f t bc bs) (kf : x < y → V E I mc ms Q (pc + 3) lo st f t bc bs) : V E I mc ms Q pc lo (.int (nI y) :: .int (nI x) :: st) f t bc bs :=
  v_icmp_ge d ht (fun q => kt ((nI_leI hy hx).mp q)) (fun q => kf (Nat.not_le.mp (fun z => q ((nI_leI hy hx).mpr z))))
theorem v_icmp_gtN {x y : Nat} {off : Int} {tgt : Nat} (d : decode I.2.1 pc = .ok (.if_icmp .gt off, 3)) (ht : (pc : Int) + off = (tgt : Int)) (hx : x < 2 ^ 31) (hy : y < 2 ^ 31) (kt : y < x → V E I mc ms Q tgt lo st f t bc bs) (kf : x ≤ y → V E I mc ms Q (pc + 3) lo st f t bc bs) : V E I mc ms Q pc lo (.int (nI y) :: .int (nI x) :: st) f t bc bs :=
  v_icmp_gt d ht (fun q => kt ((nI_ltI hy hx).mp q)) (fun q => kf (Nat.not_lt.mp (fun z => q ((nI_ltI hy hx).mpr z))))
theorem v_icmp_leN {x y : Nat} {off : Int} {tgt : Nat} (d : decode I.2.1 pc = .ok (.if_icmp .le off, 3)) (ht : (pc : Int) + off = (tgt : Int)) (hx : x < 2 ^ 31) (hy : y < 2 ^ 31) (kt : x ≤ y → V E I mc ms Q tgt lo st f t bc bs) (kf : y < x → V E I mc ms Q (pc + 3) lo st f t bc bs) : V E I mc ms Q pc lo (.int (nI y) :: .int (nI x) :: st) f t bc bs :=
  v_icmp_le d ht (fun q => kt ((nI_leI hx hy).mp q)) (fun q => kf (Nat.not_le.mp (fun z => q ((nI_leI hx hy).mpr z))))
theorem v_if_eqN {x : Nat} {off : Int} {tgt : Nat} (d : decode I.2.1 pc = .ok (.ifCond .eq off, 3)) (ht : (pc : Int) + off = (tgt : Int)) (hx : x < 2 ^ 31) (kt : x = 0 → V E I mc ms Q tgt lo st f t bc bs) (kf : x ≠ 0 → V E I mc ms Q (pc + 3) lo st f t bc bs) : V E I mc ms Q pc lo (.int (nI x) :: st) f t bc bs :=
  v_if_eq (x := nI x) d ht (fun q => kt ((nI_eq hx (by decide)).mp q)) (fun q => kf (fun z => q ((nI_eq hx (by decide)).mpr z)))
theorem v_if_neN {x : Nat} {off : Int} {tgt : Nat} (d : decode I.2.1 pc = .ok (.ifCond .ne off, 3)) (ht : (pc : Int) + off = (tgt : Int)) (hx : x < 2 ^ 31) (kt : x ≠ 0 → V E I mc ms Q tgt lo st f t bc bs) (kf : x = 0 → V E I mc ms Q (pc + 3) lo st f t bc bs) : V E I mc ms Q pc lo (.int (nI x) :: st) f t bc bs :=
  v_if_ne (x := nI x) d ht (fun q => kt (fun z => q ((nI_eq hx (by decide)).mpr z))) (fun q => kf ((nI_eq hx (by decide)).mp q))
theorem v_if_gtN {x : Nat} {off : Int} {tgt : Nat} (d : decode I.2.1 pc = .ok (.ifCond .gt off, 3)) (ht : (pc : Int) + off = (tgt : Int)) (hx : x < 2 ^ 31) (kt : 0 < x → V E I mc ms Q tgt lo st f t bc bs) (kf : x = 0 → V E I mc ms Q (pc + 3) lo st f t bc bs) : V E I mc ms Q pc lo (.int (nI x) :: st) f t bc bs :=
  v_if_gt (x := nI x) d ht (fun q => kt ((nI_ltI (by decide) hx).mp q)) (fun q => kf (Nat.le_zero.mp (Nat.not_lt.mp (fun z => q ((nI_ltI (by decide) hx).mpr z)))))
theorem v_if_leN {x : Nat} {off : Int} {tgt : Nat} (d : decode I.2.1 pc = .ok (.ifCond .le off, 3)) (ht : (pc : Int) + off = (tgt : Int)) (hx : x < 2 ^ 31) (kt : x = 0 → V E I mc ms Q tgt lo st f t bc bs) (kf : 0 < x → V E I mc ms Q (pc + 3) lo st f t bc bs) : V E I mc ms Q pc lo (.int (nI x) :: st) f t bc bs :=
  v_if_le (x := nI x) d ht (fun q => kt (Nat.le_zero.mp ((nI_leI hx (by decide)).mp q))) (fun q => kf (Nat.not_le.mp (fun z => q ((nI_leI hx (by decide)).mpr z))))
end MAKE
