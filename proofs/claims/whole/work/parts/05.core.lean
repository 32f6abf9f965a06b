/-! THE CALCULUS: a heap of the run is a function f from addresses to pictures of cells, t its size; V says: from this pc, with these places and this stack, over this heap, the method comes to an end that Q allows. -/
abbrev aC : Type := (Nat × vp_A) ⊕ (Nat × List Value)
abbrev aH : Type := Nat → aC
abbrev eN : Type := va_G × (Nat → ClassId) × State × Launch
abbrev mR : Type := MethodName × ByteArray × Nat × Option FieldType × Nat × Nat
abbrev aO : Type := Option Value ⊕ String
abbrev aP : Type := aO → aH → Nat → Prop
/-- a cell of which nothing is known -/
def uk : aC := .inl (6, 0, .inl (fun _ => 0))
def aK (k : Nat) : FieldType := match k with
  | 0 => .int
  | 1 => .boolean
  | 2 => .byte
  | 3 => .long
  | 4 => .object RX0
  | _ => .object RX7
def tyE (E : eN) : List (ClassId × FieldType) := [(E.2.1 0, aK 0), (E.2.1 1, aK 1), (E.2.1 2, aK 2), (E.2.1 3, aK 3), (E.2.1 4, aK 4), (E.2.1 5, aK 5)]
abbrev S0 (E : eN) : State := E.2.2.1
abbrev b0 (E : eN) : Nat := E.2.2.1.heap.size
def cE (E : eN) (c : aC) : va_E := match c with
  | .inl x => .inl (E.2.1 x.1, x.2)
  | .inr o => .inr o
def wH (E : eN) (f : aH) (t : Nat) (H : Heap) : Prop := H.size = t ∧ b0 E ≤ t ∧ (∀ q : Nat, q < b0 E → H[q]? = (S0 E).heap[q]?) ∧ ∀ a : Nat, f a = uk ∨ (b0 E ≤ a ∧ a < t ∧ va_at E.1 vwCl (a, cE E (f a)) H)
def eOk (E : eN) : Prop := va_K E.1 vwCl (tyE E) (S0 E) ∧ ∃ a0 : Array Value, ∀ w ∈ lw_tbl, w.before a0 (S0 E) = true
theorem e_w {E : eN} (hE : eOk E) {s : State} (hW : (S0 E).WarmedH s.vm) {w : Cond} (hm : w ∈ lw_tbl) (hg : goodWord w = true) (a : Array Value) : w.before a s = true := by
  obtain ⟨-, a0, h⟩ := hE
  exact word_at hW (good_of_word hg) (h w hm)
theorem e_k {E : eN} (hE : eOk E) {s : State} (hW : (S0 E).WarmedH s.vm) : va_K E.1 vwCl (tyE E) s := va_K.moved hW.alike hE.1
theorem w_one {E : eN} {f : aH} {t a : Nat} {H : Heap} {c : aC} (hw : wH E f t H) (hf : f a = c) (hc : c ≠ uk) : b0 E ≤ a ∧ a < t ∧ va_at E.1 vwCl (a, cE E c) H := by
  rcases hw.2.2.2 a with h | h
  · exact absurd (hf.symm.trans h) hc
  · rw [hf] at h; exact h
theorem w_p1 {D : va_G} {q : Nat × va_E} {H : Heap} (h : va_at D vwCl q H) : va_P D vwCl [q] H := fun k x hk => by
  have hz : k < 1 := (List.getElem?_eq_some_iff.mp hk).1
  rw [show k = 0 by omega] at hk
  cases hk
  exact h
theorem w_p2 {D : va_G} {q r : Nat × va_E} {H : Heap} (h : va_at D vwCl q H) (h2 : va_at D vwCl r H) : va_P D vwCl [q, r] H := fun k x hk => by
  have hz : k < 2 := (List.getElem?_eq_some_iff.mp hk).1
  rcases (show k = 0 ∨ k = 1 by omega) with rfl | rfl <;> cases hk
  · exact h
  · exact h2
theorem w_set {E : eN} {f : aH} {t a : Nat} {H H1 : Heap} {c : aC} (hw : wH E f t H) (ha : f a ≠ uk) (z : H1.size = H.size) (o : ∀ q : Nat, q ≠ a → H1[q]? = H[q]?) (h1 : va_at E.1 vwCl (a, cE E c) H1) : wH E (va_up f a c) t H1 := by
  obtain ⟨e1, e2, e3, e4⟩ := id hw
  obtain ⟨r1, r2, -⟩ := w_one hw rfl ha
  refine ⟨z.trans e1, e2, fun q hq => (o q (by omega)).trans (e3 q hq), fun b => ?_⟩
  by_cases hb : b = a
  · subst hb
    exact Or.inr ⟨r1, r2, by rw [va_up_self]; exact h1⟩
  · rw [va_up_ne f c hb]
    rcases e4 b with h | ⟨h2, h3, h4⟩
    · exact Or.inl h
    · exact Or.inr ⟨h2, h3, h4.kept (o b hb)⟩
theorem w_push {E : eN} {f : aH} {t : Nat} {H H1 : Heap} {c : aC} (hw : wH E f t H) (z : H1.size = t + 1) (o : ∀ q : Nat, q < t → H1[q]? = H[q]?) (h1 : va_at E.1 vwCl (t, cE E c) H1) : wH E (va_up f t c) (t + 1) H1 := by
  obtain ⟨e1, e2, e3, e4⟩ := id hw
  refine ⟨z, by omega, fun q hq => (o q (by omega)).trans (e3 q hq), fun b => ?_⟩
  by_cases hb : b = t
  · subst hb
    exact Or.inr ⟨e2, by omega, by rw [va_up_self]; exact h1⟩
  · rw [va_up_ne f c hb]
    rcases e4 b with h | ⟨h2, h3, h4⟩
    · exact Or.inl h
    · exact Or.inr ⟨h2, by omega, h4.kept (o b h3)⟩
/-- the places of a method -/
def lH (ls : Array Slot) (nL : Nat) (lo : List (Option Value)) : Prop := ls.size = nL ∧ lv_wf ls ∧ lo.length = nL ∧ ∀ (k : Nat) (v : Value), lo[k]? = some (some v) → ls[k]? = some (.val v)
def l_prs (lo : List (Option Value)) : List (Nat × Value) := (List.range lo.length).filterMap (fun k => ((lo[k]?).getD none).map (fun v => (k, v)))
theorem l_mem {lo : List (Option Value)} {k : Nat} {v : Value} (h : lo[k]? = some (some v)) : (k, v) ∈ l_prs lo := by
  refine List.mem_filterMap.mpr ⟨k, List.mem_range.mpr (List.getElem?_eq_some_iff.mp h).1, ?_⟩
  rw [h]; rfl
theorem l_has {ls : Array Slot} {nL : Nat} {lo : List (Option Value)} (h : lH ls nL lo) : lv_has ls nL (l_prs lo) := by
  refine ⟨h.1, h.2.1, fun q hq => ?_⟩
  obtain ⟨k, hk, e⟩ := List.mem_filterMap.mp hq
  cases hl : lo[k]? with
  | none => rw [hl] at e; cases e
  | some o =>
    cases o with
    | none => rw [hl] at e; cases e
    | some v =>
      rw [hl] at e
      cases e
      exact h.2.2.2 k v hl
def l_clr (lo : List (Option Value)) (i : Nat) : List (Option Value) := match i with
  | 0 => lo
  | j + 1 => match lo[j]? with
    | some (some v) => if v.category = 2 then lo.set j none else lo
    | _ => lo
def l_st1 (lo : List (Option Value)) (i : Nat) (v : Value) : List (Option Value) := (l_clr lo i).set i (some v)
def l_st2 (lo : List (Option Value)) (i : Nat) (v : Value) : List (Option Value) := ((l_clr lo i).set i (some v)).set (i + 1) none
theorem l_clr_len (lo : List (Option Value)) (i : Nat) : (l_clr lo i).length = lo.length := by
  cases i with
  | zero => rfl
  | succ j =>
    unfold l_clr
    dsimp only
    split
    · split
      · simp
      · rfl
    · rfl
theorem l_clr_at {lo : List (Option Value)} {i k : Nat} {v : Value} (h : (l_clr lo i)[k]? = some (some v)) : lo[k]? = some (some v) ∧ ¬ (k + 1 = i ∧ v.category = 2) := by
  cases i with
  | zero => exact ⟨h, fun q => by omega⟩
  | succ j =>
    unfold l_clr at h
    dsimp only at h
    split at h
    · rename_i w hw
      split at h
      · by_cases hk : k = j
        · subst hk
          have hl := (List.getElem?_eq_some_iff.mp hw).1
          rw [List.getElem?_set_self hl] at h
          cases h
        · rw [List.getElem?_set_ne (fun q => hk q.symm)] at h
          exact ⟨h, fun q => hk (by omega)⟩
      · rename_i hc
        refine ⟨h, fun q => ?_⟩
        have hk : k = j := by omega
        subst hk
        rw [hw] at h
        cases h
        exact hc q.2
    · rename_i hw
      refine ⟨h, fun q => ?_⟩
      have hk : k = j := by omega
      subst hk
      exact hw v h
theorem l_store1 {ls ls' : Array Slot} {nL i : Nat} {lo : List (Option Value)} {v : Value} (hl : lH ls nL lo) (h : lv_has ls' nL ((i, v) :: (l_prs lo).filter (fun q => !(q.1 == i) && !(q.1 + 1 == i && q.2.category == 2)))) : lH ls' nL (l_st1 lo i v) := by
  refine ⟨h.1, h.2.1, by unfold l_st1; rw [List.length_set, l_clr_len]; exact hl.2.2.1, fun k w hk => ?_⟩
  refine h.2.2 (k, w) ?_
  unfold l_st1 at hk
  by_cases e : k = i
  · subst e
    have hlt : k < (l_clr lo k).length := by
      have := (List.getElem?_eq_some_iff.mp hk).1
      rwa [List.length_set] at this
    rw [List.getElem?_set_self hlt] at hk
    cases hk
    exact List.mem_cons_self
  · rw [List.getElem?_set_ne (fun q => e q.symm)] at hk
    obtain ⟨h1, h2⟩ := l_clr_at hk
    refine List.mem_cons_of_mem _ (List.mem_filter.mpr ⟨l_mem h1, ?_⟩)
    simp only [Bool.and_eq_true, Bool.not_eq_true', beq_eq_false_iff_ne, ne_eq, Bool.and_eq_false_imp, beq_iff_eq]
    exact ⟨e, fun q q2 => h2 ⟨q, q2⟩⟩
theorem l_store2 {ls ls' : Array Slot} {nL i : Nat} {lo : List (Option Value)} {v : Value} (hl : lH ls nL lo) (h : lv_has ls' nL ((i, v) :: (l_prs lo).filter (fun q => !(q.1 == i) && (!(q.1 == i + 1) && !(q.1 + 1 == i && q.2.category == 2))))) : lH ls' nL (l_st2 lo i v) := by
  refine ⟨h.1, h.2.1, by unfold l_st2; rw [List.length_set, List.length_set, l_clr_len]; exact hl.2.2.1, fun k w hk => ?_⟩
  refine h.2.2 (k, w) ?_
  unfold l_st2 at hk
  by_cases e1 : k = i + 1
  · subst e1
    have hlt : i + 1 < ((l_clr lo i).set i (some v)).length := by
      have := (List.getElem?_eq_some_iff.mp hk).1
      rwa [List.length_set] at this
    rw [List.getElem?_set_self hlt] at hk
    cases hk
  · rw [List.getElem?_set_ne (fun q => e1 q.symm)] at hk
    by_cases e : k = i
    · subst e
      have hlt : k < (l_clr lo k).length := by
        have := (List.getElem?_eq_some_iff.mp hk).1
        rwa [List.length_set] at this
      rw [List.getElem?_set_self hlt] at hk
      cases hk
      exact List.mem_cons_self
    · rw [List.getElem?_set_ne (fun q => e q.symm)] at hk
      obtain ⟨h1, h2⟩ := l_clr_at hk
      refine List.mem_cons_of_mem _ (List.mem_filter.mpr ⟨l_mem h1, ?_⟩)
      simp only [Bool.and_eq_true, Bool.not_eq_true', beq_eq_false_iff_ne, ne_eq, Bool.and_eq_false_imp, beq_iff_eq]
      exact ⟨e, e1, fun q q2 => h2 ⟨q, q2⟩⟩
def cX (E : eN) (I : mR) (mc ms : Nat) (p : Program) (R : Room) (s : State) (m : MethodId) (meth : Method) (c : Code) : Prop :=
  p.tables.exec = Jvm.exec ∧ c.code = I.2.1 ∧ c.maxLocals = I.2.2.1 ∧ s.vm.findClass I.1.cls = some m.cls ∧ (S0 E).WarmedH s.vm ∧ meth.locks = false ∧ meth.sig.returnType = I.2.2.2.1 ∧ meth.name = I.1.name ∧ R = ({ frames := I.2.2.2.2.1, cells := mc, slots := ms, locals := I.2.2.2.2.2 } : Room) ∧ ∀ x ∈ c.exceptionTable.toList, False
def aQ (E : eN) (Q : aP) : Array Value → State → Outcome → State → Prop := fun _ _ o u => ∃ (v : Option Value) (f : aH) (t : Nat), o = .returned v ∧ Q (.inl v) f t ∧ wH E f t u.heap
def aX (E : eN) (Q : aP) : String → State → State → Prop := fun n _ u => ∃ (f : aH) (t : Nat), Q (.inr n) f t ∧ wH E f t u.heap
def V (E : eN) (I : mR) (mc ms : Nat) (Q : aP) (pc : Nat) (lo : List (Option Value)) (st : List Value) (f : aH) (t bc bs : Nat) : Prop :=
  ∀ (p : Program) (e : Env) (R : Room) (s : State) (m : MethodId) (args : Array Value) (below : List Frame) (meth : Method) (c : Code), cX E I mc ms p R s m meth c →
    ∀ (H : Heap) (locs : List Loc) (cells slots : Nat) (ls : Array Slot), wH E f t H → (∀ z ∈ locs, b0 E ≤ z.base) → cells + bc ≤ mc → slots + bs ≤ ms → lH ls I.2.2.1 lo →
      W p E.2.2.2 e R s m args below meth c H locs cells slots (vx_MQ below (aQ E Q) (aX E Q) args s mc ms (fun q => b0 E ≤ q)) (F0 m pc ls st)
/-- a method's contract at these arguments, over this heap -/
def mT (E : eN) (I : mR) (mc ms : Nat) (As : List Value) (f : aH) (t : Nat) (Q : aP) : Prop :=
  vx_Met E.2.2.2 I.1 [Cond.code I.1 I.2.1 I.2.2.1 I.2.2.2.1] ({ frames := I.2.2.2.2.1, cells := mc, slots := ms, locals := I.2.2.2.2.2 } : Room) (fun v U => v = As.toArray ∧ (S0 E).WarmedH U.vm ∧ wH E f t U.heap) (aQ E Q) (aX E Q) mc ms (fun q => b0 E ≤ q)
def l_sl : List Value → List (Option Value)
  | [] => []
  | v :: vs => if v.category = 2 then some v :: none :: l_sl vs else some v :: l_sl vs
theorem l_args : ∀ (As : List Value) (i k : Nat) (v : Value), (l_sl As)[k]? = some (some v) → (i + k, v) ∈ lv_args i As := by
  intro As
  induction As with
  | nil => intro i k v h; simp [l_sl] at h
  | cons w ws ih =>
    intro i k v h
    unfold l_sl at h
    unfold lv_args
    split at h
    · rename_i hc
      rw [if_pos hc]
      match k, h with
      | 0, h => cases h; exact List.mem_cons_self
      | 1, h => simp at h
      | k + 2, h =>
        have h1 : (l_sl ws)[k]? = some (some v) := by simpa using h
        have := ih (i + 2) k v h1
        rw [show i + 2 + k = i + (k + 2) by omega] at this
        exact List.mem_cons_of_mem _ this
    · rename_i hc
      rw [if_neg hc]
      match k, h with
      | 0, h => cases h; exact List.mem_cons_self
      | k + 1, h =>
        have h1 : (l_sl ws)[k]? = some (some v) := by simpa using h
        have := ih (i + 1) k v h1
        rw [show i + 1 + k = i + (k + 1) by omega] at this
        exact List.mem_cons_of_mem _ this
theorem mT_of {E : eN} {I : mR} {mc ms t : Nat} {As : List Value} {f : aH} {Q : aP} {lo : List (Option Value)} {n : Nat} (hy : plainName I.1.cls = true) (hlen : (lg_sl As).length ≤ I.2.2.1) (hll : lo.length = I.2.2.1) (hlo : l_sl As ++ List.replicate n none = lo)
    (h : V E I mc ms Q 0 lo [] f t mc ms) : mT E I mc ms As f t Q := by
  refine vx_ofW (cc := I.2.1) (maxL := I.2.2.1) (ret := I.2.2.2.1) hy rfl ?_
  intro p e s m args below meth c s₁ B hml htab hv
  obtain ⟨rfl, hW, hH⟩ := hv
  have hl := lv_entry As (n := I.2.2.1) hlen
  rw [lg_entry_eq]
  refine h p e _ s m _ below meth c ⟨B.exec, B.bytes, hml, findClass_of_methodNamed B.named, hW, B.notSynchronized, B.returns, (name_of_methodNamed B.named B.method).1, rfl, htab⟩ s.heap [] 0 0 _ hH (fun _ h => by cases h) (by omega) (by omega) ?_
  refine ⟨hl.1, hl.2.1, hll, fun k v hk => ?_⟩
  subst hlo
  by_cases hlt : k < (l_sl As).length
  · rw [List.getElem?_append_left hlt] at hk
    have := hl.2.2 _ (l_args As 0 k v hk)
    simpa using this
  · rw [List.getElem?_append_right (by omega)] at hk
    have := List.mem_of_getElem? hk
    rw [List.mem_replicate] at this
    cases this.2
