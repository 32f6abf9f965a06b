section THR
variable {p : Program} {l : Launch} {e : Env} {R : Room} {s : State} {m : MethodId} {args : Array Value} {below : List Frame} {meth : Method} {c : Code} {H : Heap} {locs : List Loc} {cells slots : Nat} {Q : State → Prop}
variable {mc ms : Nat} {free : Addr → Prop} {A0 A1 : Nat → Prop} {H0 : Heap} {a : Array Value} {ls : Array Slot} {st0 rest : List Value}
variable {Qc : Array Value → State → Outcome → State → Prop} {XC : String → State → State → Prop}
theorem vy_throwS {cc : ByteArray} {pc : Nat} (hexec : p.tables.exec = Jvm.exec) (hb : c.code = cc) (hl : l.stackTraces = false) {own cls text : String} {names : List String} {ik is ic mc ms sa : Nat} {A : Nat → Prop}
    (hown : s.vm.findClass own = some m.cls) (hcls : Bundle.fit cls = true) (hnames : ∀ n ∈ names, Bundle.fit n = true)
    (hk : (Cond.classLink own ik cls).before args s = true) (hini : (Cond.initialized cls).before args s = true) (hstr : vk_R own is text sa s) (hat : ∀ w ∈ vx_atS own ic cls names, w.before args s = true)
    (hgood : ∀ w ∈ Cond.classLink own ik cls :: Cond.initialized cls :: vx_atS own ic cls names, vx_ot w = true)
    (hU : vx_Zq Bundle.tN "UNASSIGNED_STACK" Bundle.steD A s H) (hN : vx_Zq Bundle.tN "SUPPRESSED_SENTINEL" Bundle.listD A s H) (hsize : ls.size = c.maxLocals)
    (d0 : decode cc pc = .ok (.new ik, 3)) (d3 : decode cc (pc + 3) = .ok (.dup, 1)) (d4 : decode cc (pc + 4) = .ok (.ldc is, 2)) (d6 : decode cc (pc + 6) = .ok (.invokespecial ic, 3)) (d9 : decode cc (pc + 9) = .ok (.athrow, 1))
    (hout : ∀ x ∈ c.exceptionTable.toList, covers x (pc + 9) = false)
    (hRframes : names.length + 3 < R.frames) (hRlocals : (rest.map fun v => v.category).sum + (13 * (names.length + 1) + 43) ≤ R.locals) (hRcells : cells + 1 ≤ R.cells) (hRslots : slots + 6 ≤ R.slots) (hlocks : meth.locks = false)
    (hx : ∀ t : State, s.vm.Alike t.vm → H.size ≤ t.heap.size → (∀ q : Nat, q < H.size → t.heap[q]? = H[q]?) → XC cls s t)
    (hf : ∀ z ∈ locs, free z.base) (hc : cells + 1 ≤ mc) (hs : slots + 6 ≤ ms) :
    W p l e R s m args below meth c H locs cells slots (vx_MQ below Qc XC args s mc ms free) (F0 m pc ls rest) := by
  intro T hT X
  have htr : e.platform.stackTraces = false := (show e.platform.stackTraces = l.stackTraces by rw [X.admits.platform]).trans hl
  have Y := vx_rebase X (R' := { frames := R.frames, locals := R.locals, cells := 1, slots := 6 }) (Nat.le_refl _) (Nat.le_refl _) hRcells hRslots
  obtain ⟨s', hA⟩ : ∃ z, z = (T.setVm s.vm).setFrames (.invoking m args :: below) := ⟨_, rfl⟩
  rw [← hA] at Y
  have hvm : s'.vm = s.vm := by rw [hA]; rfl
  have hhp : s'.heap = H := by rw [hA]; exact hT
  have hW0 : s.WarmedH s'.vm := by rw [hvm]; exact State.WarmedH.refl s
  have hat' : ∀ w ∈ vx_atS own ic cls names, w.before args s' = true := fun w hw => vx_ot_at hW0 hvm.symm (hgood w (List.mem_cons_of_mem _ (List.mem_cons_of_mem _ hw))) (hat w hw)
  have hk' : (Cond.classLink own ik cls).before args s' = true := vx_ot_at hW0 hvm.symm (hgood _ List.mem_cons_self) hk
  have hini' : (Cond.initialized cls).before args s' = true := vx_ot_at hW0 hvm.symm (hgood _ (List.mem_cons_of_mem _ List.mem_cons_self)) hini
  have hU' : vx_Zq Bundle.tN "UNASSIGNED_STACK" Bundle.steD A s' s'.heap := by rw [hhp]; exact vx_Zq.moved hW0.alike hU
  have hN' : vx_Zq Bundle.tN "SUPPRESSED_SENTINEL" Bundle.listD A s' s'.heap := by rw [hhp]; exact vx_Zq.moved hW0.alike hN
  have h : ∀ w ∈ Bundle.ownAtoms own ic cls names, w.before args s' = true := vx_own hat' (vx_isRefq hU'.1) (vx_isRefq hN'.1) hU'.2.word hN'.2.word
  have hown' : s'.vm.findClass own = some m.cls := by rw [hvm]; exact hown
  have hins : (Cond.instantiable cls 6).before args s' = true := h _ (by simp [Bundle.ownAtoms])
  obtain ⟨vm₁, cX, kX, hfX, hkX, -, -, X₁, st1⟩ := Y.newCold hexec (own := own) (C := cls) (index := ik) (n := 6) hown' hk' hins hini'
    (g := F0 m pc ls rest) rfl (by rw [hb]; exact d0) (Nat.le_refl _) (Nat.le_refl _)
  generalize hT1 : (T.setVm vm₁).pushCell { cls := cX, slots := kX.instanceTypes.map defaultValue, vm := .none } = T1 at X₁ st1
  have hcat : (Value.ref T.heap.size).category = 1 := rfl
  have hcellA : T1.heap[T.heap.size]? = some (freshCell cX kX) := by rw [← hT1]; exact State.heap_pushCell_size _ _
  have d3' : decode c.code (pc + 3) = .ok (.dup, 1) := by rw [hb]; exact d3
  have d4' : decode c.code (pc + 4) = .ok (.ldc is, 2) := by rw [hb]; exact d4
  have hstr' : vk_R own is text sa s' := vk_R.warm hW0 hstr
  obtain ⟨U, hsteps, hrun, hend, hW, hsame, ce, hce, hO⟩ := X₁.ctorThrowS hexec htr (own := own) (cls := cls) (names := names) (ic := ic) hown' hcls hnames h (fun x hx => nomatch hx) hfX hkX hcellA (by rw [hhp, hT]; exact Nat.le_refl _) (msg := .ref sa) rfl
    (g := { method := m, pc := pc + 6, locals := ls, stack := .ref sa :: .ref T.heap.size :: .ref T.heap.size :: rest, locked := none }) rfl hsize rfl rfl (rest := rest) rfl
    (by rw [hb]; exact d6) (by rw [hb]; exact d9) hout hRframes (by simp only [List.map_cons, List.sum_cons, hcat]; omega) hlocks
  obtain ⟨f1, f2⟩ := vx_frame hsame
  rw [hhp] at f1 f2
  have hWs : s.WarmedH U.vm := State.WarmedH.trans hW0 hW
  have hcl : s.vm.findClass cls = some ce.cls := by
    have h9 := hO.cls
    rw [hvm] at h9
    exact h9
  have hall : s.sameButNew ({ U with vm := s.vm } : State) locs mc ms := by
    subst hA
    obtain ⟨e1, e2⟩ := hsame
    rw [State.setFrames_setFrames] at e1
    have h2 : (T.setVm s.vm).sameButNew ({ U with vm := s.vm } : State) [] (0 + 1) (0 + 6) := ⟨e1, e2⟩
    have h3 := X.same.trans h2
    rw [List.append_nil] at h3
    exact h3.mono hc hs
  refine ⟨U, ?_, .threw T.heap.size, hrun, hend, Or.inr ⟨T.heap.size, rfl, cls, ce, locs, hx U hWs.alike f1 (fun q hq => f2 q hq (fun z hz => nomatch hz)), hce, hO.vm, hcl, hWs, hall, hf⟩⟩
  refine st1 _ ?_
  show Steps p.tables e below (T1.setTop { method := m, pc := pc + 3, locals := ls, stack := .ref T.heap.size :: rest, locked := none }) _
  jvm_step X₁.here [X₁.here.top, hexec, d3', Value.category]
  exact X₁.ldcString hexec (own := own) (text := text) (index := is) (a := sa) hown' hstr'.1 hstr'.2
    (g := { method := m, pc := pc + 4, locals := ls, stack := .ref T.heap.size :: .ref T.heap.size :: rest, locked := none }) rfl d4' _ hsteps
theorem vy_throwSW {cc : ByteArray} {pc : Nat} (hexec : p.tables.exec = Jvm.exec) (hb : c.code = cc) (hl : l.stackTraces = false) {own cls text : String} {names : List String} {ik is ic mc ms sa : Nat} {A : Nat → Prop}
    (hown : s.vm.findClass own = some m.cls) (hcls : Bundle.fit cls = true) (hnames : ∀ n ∈ names, Bundle.fit n = true)
    (hk : (Cond.classLink own ik cls).before args s = true) (hini : (Cond.initialized cls).before args s = true) (hstr : vk_R own is text sa s) (hat : ∀ w ∈ vx_atS own ic cls names, w.before args s = true)
    (hgood : ∀ w ∈ Cond.classLink own ik cls :: Cond.initialized cls :: vx_atS own ic cls names, vx_ot w = true)
    (hU : vx_Zq Bundle.tN "UNASSIGNED_STACK" Bundle.steD A s H) (hN : vx_Zq Bundle.tN "SUPPRESSED_SENTINEL" Bundle.listD A s H) (hsize : ls.size = c.maxLocals)
    (d0 : decode cc pc = .ok (.new ik, 3)) (d3 : decode cc (pc + 3) = .ok (.dup, 1)) (d4 : decode cc (pc + 4) = .ok (.ldc_w is, 3)) (d7 : decode cc (pc + 7) = .ok (.invokespecial ic, 3)) (d10 : decode cc (pc + 10) = .ok (.athrow, 1))
    (hout : ∀ x ∈ c.exceptionTable.toList, covers x (pc + 10) = false)
    (hRframes : names.length + 3 < R.frames) (hRlocals : (rest.map fun v => v.category).sum + (13 * (names.length + 1) + 43) ≤ R.locals) (hRcells : cells + 1 ≤ R.cells) (hRslots : slots + 6 ≤ R.slots) (hlocks : meth.locks = false)
    (hx : ∀ t : State, s.vm.Alike t.vm → H.size ≤ t.heap.size → (∀ q : Nat, q < H.size → t.heap[q]? = H[q]?) → XC cls s t)
    (hf : ∀ z ∈ locs, free z.base) (hc : cells + 1 ≤ mc) (hs : slots + 6 ≤ ms) :
    W p l e R s m args below meth c H locs cells slots (vx_MQ below Qc XC args s mc ms free) (F0 m pc ls rest) := by
  intro T hT X
  have htr : e.platform.stackTraces = false := (show e.platform.stackTraces = l.stackTraces by rw [X.admits.platform]).trans hl
  have Y := vx_rebase X (R' := { frames := R.frames, locals := R.locals, cells := 1, slots := 6 }) (Nat.le_refl _) (Nat.le_refl _) hRcells hRslots
  obtain ⟨s', hA⟩ : ∃ z, z = (T.setVm s.vm).setFrames (.invoking m args :: below) := ⟨_, rfl⟩
  rw [← hA] at Y
  have hvm : s'.vm = s.vm := by rw [hA]; rfl
  have hhp : s'.heap = H := by rw [hA]; exact hT
  have hW0 : s.WarmedH s'.vm := by rw [hvm]; exact State.WarmedH.refl s
  have hat' : ∀ w ∈ vx_atS own ic cls names, w.before args s' = true := fun w hw => vx_ot_at hW0 hvm.symm (hgood w (List.mem_cons_of_mem _ (List.mem_cons_of_mem _ hw))) (hat w hw)
  have hk' : (Cond.classLink own ik cls).before args s' = true := vx_ot_at hW0 hvm.symm (hgood _ List.mem_cons_self) hk
  have hini' : (Cond.initialized cls).before args s' = true := vx_ot_at hW0 hvm.symm (hgood _ (List.mem_cons_of_mem _ List.mem_cons_self)) hini
  have hU' : vx_Zq Bundle.tN "UNASSIGNED_STACK" Bundle.steD A s' s'.heap := by rw [hhp]; exact vx_Zq.moved hW0.alike hU
  have hN' : vx_Zq Bundle.tN "SUPPRESSED_SENTINEL" Bundle.listD A s' s'.heap := by rw [hhp]; exact vx_Zq.moved hW0.alike hN
  have h : ∀ w ∈ Bundle.ownAtoms own ic cls names, w.before args s' = true := vx_own hat' (vx_isRefq hU'.1) (vx_isRefq hN'.1) hU'.2.word hN'.2.word
  have hown' : s'.vm.findClass own = some m.cls := by rw [hvm]; exact hown
  have hins : (Cond.instantiable cls 6).before args s' = true := h _ (by simp [Bundle.ownAtoms])
  obtain ⟨vm₁, cX, kX, hfX, hkX, -, -, X₁, st1⟩ := Y.newCold hexec (own := own) (C := cls) (index := ik) (n := 6) hown' hk' hins hini'
    (g := F0 m pc ls rest) rfl (by rw [hb]; exact d0) (Nat.le_refl _) (Nat.le_refl _)
  generalize hT1 : (T.setVm vm₁).pushCell { cls := cX, slots := kX.instanceTypes.map defaultValue, vm := .none } = T1 at X₁ st1
  have hcat : (Value.ref T.heap.size).category = 1 := rfl
  have hcellA : T1.heap[T.heap.size]? = some (freshCell cX kX) := by rw [← hT1]; exact State.heap_pushCell_size _ _
  have d3' : decode c.code (pc + 3) = .ok (.dup, 1) := by rw [hb]; exact d3
  have d4' : decode c.code (pc + 4) = .ok (.ldc_w is, 3) := by rw [hb]; exact d4
  have hstr' : vk_R own is text sa s' := vk_R.warm hW0 hstr
  obtain ⟨U, hsteps, hrun, hend, hW, hsame, ce, hce, hO⟩ := X₁.ctorThrowS hexec htr (own := own) (cls := cls) (names := names) (ic := ic) hown' hcls hnames h (fun x hx => nomatch hx) hfX hkX hcellA (by rw [hhp, hT]; exact Nat.le_refl _) (msg := .ref sa) rfl
    (g := { method := m, pc := pc + 7, locals := ls, stack := .ref sa :: .ref T.heap.size :: .ref T.heap.size :: rest, locked := none }) rfl hsize rfl rfl (rest := rest) rfl
    (by rw [hb]; exact d7) (by rw [hb]; exact d10) hout hRframes (by simp only [List.map_cons, List.sum_cons, hcat]; omega) hlocks
  obtain ⟨f1, f2⟩ := vx_frame hsame
  rw [hhp] at f1 f2
  have hWs : s.WarmedH U.vm := State.WarmedH.trans hW0 hW
  have hcl : s.vm.findClass cls = some ce.cls := by
    have h9 := hO.cls
    rw [hvm] at h9
    exact h9
  have hall : s.sameButNew ({ U with vm := s.vm } : State) locs mc ms := by
    subst hA
    obtain ⟨e1, e2⟩ := hsame
    rw [State.setFrames_setFrames] at e1
    have h2 : (T.setVm s.vm).sameButNew ({ U with vm := s.vm } : State) [] (0 + 1) (0 + 6) := ⟨e1, e2⟩
    have h3 := X.same.trans h2
    rw [List.append_nil] at h3
    exact h3.mono hc hs
  refine ⟨U, ?_, .threw T.heap.size, hrun, hend, Or.inr ⟨T.heap.size, rfl, cls, ce, locs, hx U hWs.alike f1 (fun q hq => f2 q hq (fun z hz => nomatch hz)), hce, hO.vm, hcl, hWs, hall, hf⟩⟩
  refine st1 _ ?_
  show Steps p.tables e below (T1.setTop { method := m, pc := pc + 3, locals := ls, stack := .ref T.heap.size :: rest, locked := none }) _
  jvm_step X₁.here [X₁.here.top, hexec, d3', Value.category]
  exact X₁.ldcStringW hexec (own := own) (text := text) (index := is) (a := sa) hown' hstr'.1 hstr'.2
    (g := { method := m, pc := pc + 4, locals := ls, stack := .ref T.heap.size :: .ref T.heap.size :: rest, locked := none }) rfl d4' _ hsteps
end THR
/-! what throwing rests on, at the start -/
def eTh (E : eN) : Prop := E.2.2.2.stackTraces = false ∧ vx_Zq Bundle.tN "UNASSIGNED_STACK" Bundle.steD (aA E) (S0 E) (S0 E).heap ∧ vx_Zq Bundle.tN "SUPPRESSED_SENTINEL" Bundle.listD (aA E) (S0 E) (S0 E).heap
def thN : List String := ["java/lang/RuntimeException", "java/lang/Exception"]
abbrev nIA : String := "java/lang/IllegalArgumentException"
abbrev nIO : String := "java/lang/IndexOutOfBoundsException"
theorem th_fit : Bundle.fit nIA = true ∧ Bundle.fit nIO = true ∧ ∀ n ∈ thN, Bundle.fit n = true := by decide +kernel
abbrev iS (C : String) : MethodName := ⟨C, "<init>", "(Ljava/lang/String;)V"⟩
abbrev thD : List Cond := [.declares (iS "java/lang/RuntimeException"), .declares (iS "java/lang/Exception"), .declares (iS "java/lang/Throwable")]
theorem thD_in : ∀ w ∈ thD, w ∈ lw_tbl := by decide +kernel
theorem ca_moved {a b : String} {A A' : Array Value} {u U : State} (h : u.vm.Alike U.vm) (hh : (Cond.castable a b).before A u = true) : (Cond.castable a b).before A' U = true := by
  simp only [Cond.before, Cond.holds, Cond.value, h.findClass, h.assignable] at hh ⊢
  exact hh
def thB (cls : String) (ik ic : Nat) : Prop := Bundle.fit cls = true ∧ Cond.classLink RX9 ik cls ∈ lw_tbl ∧ Cond.initialized cls ∈ lw_tbl ∧ Cond.castable cls cls ∈ lw_tbl ∧ (∀ w ∈ (vx_atS RX9 ic cls thN).filter goodWord, w ∈ lw_tbl) ∧ (∀ w ∈ (vx_atS RX9 ic cls thN).filter (fun w => !goodWord w), w ∈ Cond.castable cls cls :: thD) ∧ ∀ w ∈ Cond.classLink RX9 ik cls :: Cond.initialized cls :: vx_atS RX9 ic cls thN, vx_ot w = true

theorem thIA : thB nIA 61 65 := ⟨by decide +kernel, by decide +kernel, by decide +kernel, by decide +kernel, by decide +kernel, by decide +kernel, by decide +kernel⟩
theorem thIO : thB nIO 136 140 := ⟨by decide +kernel, by decide +kernel, by decide +kernel, by decide +kernel, by decide +kernel, by decide +kernel, by decide +kernel⟩
theorem v_throw {E : eN} {I : mR} {mc ms : Nat} {Q : aP} {pc : Nat} {lo : List (Option Value)} {st : List Value} {f : aH} {t bc bs : Nat} (hE : eOk E) (hS : eSt E) (hT : eTh E) {cls : String} {ik is ic : Nat} {r : String × Nat × String × List Nat} (hB : thB cls ik ic) (hown : I.1.cls = RX9) (hr : r ∈ strTab) (hr1 : r.1 = RX9) (hr2 : r.2.1 = is)
    (d0 : decode I.2.1 pc = .ok (.new ik, 3)) (d3 : decode I.2.1 (pc + 3) = .ok (.dup, 1)) (d4 : decode I.2.1 (pc + 4) = .ok (.ldc is, 2)) (d6 : decode I.2.1 (pc + 6) = .ok (.invokespecial ic, 3)) (d9 : decode I.2.1 (pc + 9) = .ok (.athrow, 1))
    (hfr : 5 < I.2.2.2.2.1) (hlo : (st.map fun v => v.category).sum + 82 ≤ I.2.2.2.2.2) (hbc : 1 ≤ bc) (hbs : 6 ≤ bs) (hq : ∀ u, t ≤ u → Q (.inr cls) f u) : V E I mc ms Q pc lo st f t bc bs := by
  intro p e R s m args below meth c C H locs cells slots ls hw hz hc hs hl
  have hW := C.2.2.2.2.1
  have hR := C.2.2.2.2.2.2.2.2.1
  obtain ⟨q, hq1, -⟩ := hS.2.2 r hr
  have hZ : vk_R RX9 is r.2.2.1 q s := by
    have := vk_R.warm hW hq1
    rwa [hr1, hr2] at this
  have hwn : s.vm.findClass RX9 = some m.cls := by rw [← hown]; exact C.2.2.2.1
  obtain ⟨b1, b2, b3, b4, b5, b6, b7⟩ := hB
  have hca : (Cond.castable cls cls).before args s = true := by
    obtain ⟨-, a0, hh⟩ := id hE
    exact ca_moved hW.alike (hh _ b4)
  have hde : ∀ x, Cond.declares x ∈ lw_tbl → (Cond.declares x).before args s = true := fun x hx => by
    obtain ⟨-, a0, hh⟩ := id hE
    exact va_Nw.use rfl (va_Nw.warmD hW (va_Nw.of rfl (hh _ hx)))
  have hat : ∀ w ∈ vx_atS RX9 ic cls thN, w.before args s = true := vx_hat (B := Cond.castable cls cls :: thD) (fun w h => e_w hE hW (b5 w h) (by simpa using (List.mem_filter.mp h).2) args) b6 (vx_c hca (vx_c (hde _ (thD_in _ (by simp))) (vx_c (hde _ (thD_in _ (by simp))) (vx_c (hde _ (thD_in _ (by simp))) vx_n))))
  refine vy_throwS (names := thN) (A := aA E) (sa := q) C.1 C.2.1 hT.1 hwn b1 th_fit.2.2 (e_w hE hW b2 rfl args) (e_w hE hW b3 rfl args) hZ hat b7 ((vx_Zq.moved hW.alike hT.2.1).kept (w_old hw)) ((vx_Zq.moved hW.alike hT.2.2).kept (w_old hw)) (by rw [hl.1, C.2.2.1]) d0 d3 d4 d6 d9 (fun x hx => (C.2.2.2.2.2.2.2.2.2 x hx).elim) (by rw [hR]; exact hfr) (by rw [hR]; show _ + (13 * (2 + 1) + 43) ≤ I.2.2.2.2.2; omega) (by rw [hR]; show cells + 1 ≤ mc; omega) (by rw [hR]; show slots + 6 ≤ ms; omega) C.2.2.2.2.2.1 (fun u hu hz1 hk => ?_) hz (by omega) (by omega)
  refine ⟨f, u.heap.size, hq _ (by rw [← hw.1]; exact hz1), rfl, by have := hw.2.1; have := hw.1; omega, fun y hy => (hk y (by have := hw.2.1; have := hw.1; omega)).trans (hw.2.2.1 y hy), fun y => ?_⟩
  rcases hw.2.2.2 y with h | ⟨h1, h2, h3⟩
  · exact Or.inl h
  · have h4 : y < H.size := by have := hw.1; omega
    exact Or.inr ⟨h1, by omega, h3.kept (hk y h4)⟩
theorem v_throwW {E : eN} {I : mR} {mc ms : Nat} {Q : aP} {pc : Nat} {lo : List (Option Value)} {st : List Value} {f : aH} {t bc bs : Nat} (hE : eOk E) (hS : eSt E) (hT : eTh E) {cls : String} {ik is ic : Nat} {r : String × Nat × String × List Nat} (hB : thB cls ik ic) (hown : I.1.cls = RX9) (hr : r ∈ strTab) (hr1 : r.1 = RX9) (hr2 : r.2.1 = is)
    (d0 : decode I.2.1 pc = .ok (.new ik, 3)) (d3 : decode I.2.1 (pc + 3) = .ok (.dup, 1)) (d4 : decode I.2.1 (pc + 4) = .ok (.ldc_w is, 3)) (d6 : decode I.2.1 (pc + 7) = .ok (.invokespecial ic, 3)) (d9 : decode I.2.1 (pc + 10) = .ok (.athrow, 1))
    (hfr : 5 < I.2.2.2.2.1) (hlo : (st.map fun v => v.category).sum + 82 ≤ I.2.2.2.2.2) (hbc : 1 ≤ bc) (hbs : 6 ≤ bs) (hq : ∀ u, t ≤ u → Q (.inr cls) f u) : V E I mc ms Q pc lo st f t bc bs := by
  intro p e R s m args below meth c C H locs cells slots ls hw hz hc hs hl
  have hW := C.2.2.2.2.1
  have hR := C.2.2.2.2.2.2.2.2.1
  obtain ⟨q, hq1, -⟩ := hS.2.2 r hr
  have hZ : vk_R RX9 is r.2.2.1 q s := by
    have := vk_R.warm hW hq1
    rwa [hr1, hr2] at this
  have hwn : s.vm.findClass RX9 = some m.cls := by rw [← hown]; exact C.2.2.2.1
  obtain ⟨b1, b2, b3, b4, b5, b6, b7⟩ := hB
  have hca : (Cond.castable cls cls).before args s = true := by
    obtain ⟨-, a0, hh⟩ := id hE
    exact ca_moved hW.alike (hh _ b4)
  have hde : ∀ x, Cond.declares x ∈ lw_tbl → (Cond.declares x).before args s = true := fun x hx => by
    obtain ⟨-, a0, hh⟩ := id hE
    exact va_Nw.use rfl (va_Nw.warmD hW (va_Nw.of rfl (hh _ hx)))
  have hat : ∀ w ∈ vx_atS RX9 ic cls thN, w.before args s = true := vx_hat (B := Cond.castable cls cls :: thD) (fun w h => e_w hE hW (b5 w h) (by simpa using (List.mem_filter.mp h).2) args) b6 (vx_c hca (vx_c (hde _ (thD_in _ (by simp))) (vx_c (hde _ (thD_in _ (by simp))) (vx_c (hde _ (thD_in _ (by simp))) vx_n))))
  refine vy_throwSW (names := thN) (A := aA E) (sa := q) C.1 C.2.1 hT.1 hwn b1 th_fit.2.2 (e_w hE hW b2 rfl args) (e_w hE hW b3 rfl args) hZ hat b7 ((vx_Zq.moved hW.alike hT.2.1).kept (w_old hw)) ((vx_Zq.moved hW.alike hT.2.2).kept (w_old hw)) (by rw [hl.1, C.2.2.1]) d0 d3 d4 d6 d9 (fun x hx => (C.2.2.2.2.2.2.2.2.2 x hx).elim) (by rw [hR]; exact hfr) (by rw [hR]; show _ + (13 * (2 + 1) + 43) ≤ I.2.2.2.2.2; omega) (by rw [hR]; show cells + 1 ≤ mc; omega) (by rw [hR]; show slots + 6 ≤ ms; omega) C.2.2.2.2.2.1 (fun u hu hz1 hk => ?_) hz (by omega) (by omega)
  refine ⟨f, u.heap.size, hq _ (by rw [← hw.1]; exact hz1), rfl, by have := hw.2.1; have := hw.1; omega, fun y hy => (hk y (by have := hw.2.1; have := hw.1; omega)).trans (hw.2.2.1 y hy), fun y => ?_⟩
  rcases hw.2.2.2 y with h | ⟨h1, h2, h3⟩
  · exact Or.inl h
  · have h4 : y < H.size := by have := hw.1; omega
    exact Or.inr ⟨h1, by omega, h3.kept (hk y h4)⟩
