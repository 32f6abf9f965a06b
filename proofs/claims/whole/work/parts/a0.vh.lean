/-! METHODS WITH A TABLE OF ONE ROW -/
/-- the row is taken: its class is looked up, the tables note it -/
theorem hc_go {Q : Handler → Pre} {Ec : CtlPost} {e : Env} {d : Bool} {acts : List Action} {S : State} {g : JFrame} {a : Addr} {x : ExceptionTableEntry} {cT : ClassId} {ce : Cell} {k1 k2 : Class} (hx : covers x g.pc = true) (h0 : x.catchType ≠ 0) (hl : S.vm.ClassLinks e.platform g.method.cls x.catchType cT) (hce : S.heap[a]? = some ce) (hob : ∀ k, ce.vm ≠ .statics k) (h1 : S.vm.classes[ce.cls]? = some k1) (h2 : S.vm.classes[cT]? = some k2) (hf : S.vm.assignable ce.cls cT = true) :
    wp (findHandler.go g a [x]) Q Ec e d acts S ↔ Q (.found x.handlerPc) d acts (S.setVm (S.vm.noted g.method.cls x.catchType (.cls cT))) := by
  obtain ⟨ha, ht⟩ := (resolveClass_links e.toSetting hl).op (op := VmOp.resolveClass g.method.cls x.catchType) rfl
  have al : S.vm.Alike (S.vm.noted g.method.cls x.catchType (.cls cT)) := (Vm.Alike.refl S.vm).noted _ _ _
  obtain ⟨j1, i1, -⟩ := al.2.2 _ _ h1
  obtain ⟨j2, i2, -⟩ := al.2.2 _ _ h2
  have hf2 : (S.vm.noted g.method.cls x.catchType (.cls cT)).assignable ce.cls cT = true := (al.assignable _ _).trans hf
  simp only [covers] at hx
  simp [findHandler.go, hx, h0, ha, ht, hce, hob, i1, i2, hf2, VmOp.dirties, VmOp.acts]
/-- a throw of a callee is caught by the one row -/
theorem hc_catch {p : Program} {l : Launch} {e : Env} {R : Room} {s : State} {m : MethodId} {args : Array Value} {below : List Frame} {meth : Method} {c : Code} {T : State} {locs : List Loc} {cells slots : Nat} (X : Stand p l e R s m args below meth c T locs cells slots) {q : Addr} {pc : Nat} {ls : Array Slot} {rest : List Value} {own nm : String} {x : ExceptionTableEntry} {ce : Cell}
    (hown : s.vm.findClass own = some m.cls) (htab : c.exceptionTable.toList = [x]) (hx : covers x pc = true) (h0 : x.catchType ≠ 0) (hlk : (Cond.classLink own x.catchType nm).before args s = true) (hcs : (Cond.castable nm nm).before args s = true) (hce : T.heap[q]? = some ce) (hv : ce.vm = .none) (hcl : s.vm.findClass nm = some ce.cls) :
    ∃ vm', Stand p l e R s m args below meth c (T.setVm vm') locs cells slots ∧ Steps p.tables e below ((T.setTop (F0 m pc ls rest)).pushFrame (.throwing q)) ((T.setVm vm').setTop (F0 m x.handlerPc ls [.ref q])) := by
  have hpl : e.platform.magicAccessors = ({} : Platform).magicAccessors := by rw [X.admits.platform]
  obtain ⟨c3, c4, n3, n4, hasg⟩ := Cond.castable_spec hcs
  cases Option.some.inj (n3.symm.trans hcl)
  cases Option.some.inj (n4.symm.trans hcl)
  obtain ⟨c5, n5, hln⟩ := Cond.classLink_spec hown hlk e.platform hpl
  cases Option.some.inj (n5.symm.trans hcl)
  obtain ⟨dk, _, _, kt, hd, _, _, _, _, hkt, _, hpn⟩ := hln.here
  have hW := X.warmed.noted hd hpn (State.rightAt_cls hln)
  have al := X.warmed.alike
  obtain ⟨kt', hkt', -⟩ := al.2.2 _ _ hkt
  have hasg' : T.vm.assignable ce.cls ce.cls = true := (al.assignable _ _).trans hasg
  refine ⟨_, X.noted hW, ?_⟩
  have hfnd : ∀ (Q : Handler → Pre) (Ec : CtlPost) (d : Bool) (acts : List Action), wp (findHandler (F0 m pc ls rest) q) Q Ec e d acts ((T.setTop (F0 m pc ls rest)).pushFrame (.throwing q)) ↔ Q (.found x.handlerPc) d acts (((T.setTop (F0 m pc ls rest)).pushFrame (.throwing q)).setVm (T.vm.noted m.cls x.catchType (.cls ce.cls))) := by
    intro Q Ec d acts
    rw [W.findHandler_eq (meth := meth) (code := c) X.method' X.code, htab]
    exact hc_go (S := (T.setTop (F0 m pc ls rest)).pushFrame (.throwing q)) (g := F0 m pc ls rest) hx h0 (X.warmed.classLinks hln) hce (fun k z => by rw [hv] at z; cases z) hkt' hkt' hasg'
  have hat : At T (F0 m pc ls rest).method c below := X.here
  obtain ⟨hgo, hwi⟩ := hat.throwing q
  refine Steps.head hgo hwi ?_
  have hst : (stepThrowing e ((T.setTop (F0 m pc ls rest)).pushFrame (.throwing q)) q (.java (F0 m pc ls rest) :: T.frames.tail)).Is ((((T.setTop (F0 m pc ls rest)).pushFrame (.throwing q)).setVm (T.vm.noted m.cls x.catchType (.cls ce.cls))).setFrames (.java (F0 m x.handlerPc ls [.ref q]) :: T.frames.tail)) [] := by
    simp only [stepThrowing, searchFrame, vmDo]
    generalize hr : Sem.go _ e false [] ((T.setTop (F0 m pc ls rest)).pushFrame (.throwing q)) = res
    obtain ⟨as, rfl, ha⟩ := Sem.eq_ok_of hr (a := Handler.found x.handlerPc) (s' := ((T.setTop (F0 m pc ls rest)).pushFrame (.throwing q)).setVm (T.vm.noted m.cls x.catchType (.cls ce.cls))) (acts' := []) (by simp [hfnd _ _ _ _])
    exact ⟨rfl, ha⟩
  rw [stepThread_throwing (frames_entered hat.top _), hst.1]
  obtain ⟨g0, hg0⟩ := Option.isSome_iff_exists.mp hat.top
  obtain ⟨r, hr⟩ := State.topJava?_eq_some.mp hg0
  have e1 : (T.setVm (T.vm.noted m.cls x.catchType (.cls ce.cls))).setTop (F0 m x.handlerPc ls [.ref q]) = (T.setVm (T.vm.noted m.cls x.catchType (.cls ce.cls))).setFrames (.java (F0 m x.handlerPc ls [.ref q]) :: T.frames.tail) := by
    rw [State.setTop_of_frames _ (show (T.setVm (T.vm.noted m.cls x.catchType (.cls ce.cls))).frames = .java g0 :: r from hr), hr]
    rfl
  have sv : ∀ (u : State) (vm' : Vm) (F G : List Frame), ((u.setFrames F).setVm vm').setFrames G = (u.setVm vm').setFrames G := fun u vm' F G => by
    show ((u.setVm vm').setFrames F).setFrames G = _
    rw [State.setFrames_setFrames]
  rw [e1, State.pushFrame, sv, State.setTop_of_frames _ hr, sv]
  exact Steps.refl _
/-- as cX; the table is hh -/
def cY (E : eN) (I : mR) (hh : List (Nat × Nat × Nat × Nat)) (mc ms : Nat) (p : Program) (R : Room) (s : State) (m : MethodId) (meth : Method) (c : Code) : Prop :=
  p.tables.exec = Jvm.exec ∧ c.code = I.2.1 ∧ c.maxLocals = I.2.2.1 ∧ s.vm.findClass I.1.cls = some m.cls ∧ (S0 E).WarmedH s.vm ∧ meth.locks = false ∧ meth.sig.returnType = I.2.2.2.1 ∧ meth.name = I.1.name ∧ R = ({ frames := I.2.2.2.2.1, cells := mc, slots := ms, locals := I.2.2.2.2.2 } : Room) ∧ c.exceptionTable.toList = tableOf hh
def VH (E : eN) (I : mR) (hh : List (Nat × Nat × Nat × Nat)) (mc ms : Nat) (Q : aP) (pc : Nat) (lo : List (Option Value)) (st : List Value) (f : aH) (t bc bs : Nat) : Prop :=
  ∀ (p : Program) (e : Env) (R : Room) (s : State) (m : MethodId) (args : Array Value) (below : List Frame) (meth : Method) (c : Code), cY E I hh mc ms p R s m meth c →
    ∀ (H : Heap) (locs : List Loc) (cells slots : Nat) (ls : Array Slot), wH E f t H → (∀ z ∈ locs, b0 E ≤ z.base) → cells + bc ≤ mc → slots + bs ≤ ms → lH ls I.2.2.1 lo →
      W p E.2.2.2 e R s m args below meth c H locs cells slots (vx_MQ below (aQ E Q) (aX E Q) args s mc ms (fun q => b0 E ≤ q)) (F0 m pc ls st)
def mH (E : eN) (I : mR) (hh : List (Nat × Nat × Nat × Nat)) (mc ms : Nat) (As : List Value) (f : aH) (t : Nat) (Q : aP) : Prop :=
  vx_Met E.2.2.2 I.1 [Cond.codeWith I.1 I.2.1 I.2.2.1 I.2.2.2.1 hh] ({ frames := I.2.2.2.2.1, cells := mc, slots := ms, locals := I.2.2.2.2.2 } : Room) (fun v U => v = As.toArray ∧ (S0 E).WarmedH U.vm ∧ wH E f t U.heap) (aQ E Q) (aX E Q) mc ms (fun q => b0 E ≤ q)
theorem mH_of {E : eN} {I : mR} {hh : List (Nat × Nat × Nat × Nat)} {mc ms t : Nat} {As : List Value} {f : aH} {Q : aP} {lo : List (Option Value)} {n : Nat} (hy : plainName I.1.cls = true) (hlen : (lg_sl As).length ≤ I.2.2.1) (hll : lo.length = I.2.2.1) (hlo : l_sl As ++ List.replicate n none = lo)
    (h : VH E I hh mc ms Q 0 lo [] f t mc ms) : mH E I hh mc ms As f t Q := by
  refine vx_ofWH (cc := I.2.1) (maxL := I.2.2.1) (ret := I.2.2.2.1) (hh := hh) hy rfl ?_
  intro p e s m args below meth c s₁ B hml hv
  obtain ⟨rfl, hW, hH⟩ := hv
  have htab : c.exceptionTable.toList = tableOf hh := vx_table (x := I.1) B (atoms_spec (ws := [Cond.codeWith I.1 I.2.1 I.2.2.1 I.2.2.2.1 hh]) B.pre _ List.mem_cons_self)
  have hl := lv_entry As (n := I.2.2.1) hlen
  rw [lg_entry_eq]
  refine h p e _ s m _ below meth c ⟨B.exec, B.bytes, hml, findClass_of_methodNamed B.named, hW, B.notSynchronized, B.returns, (name_of_methodNamed B.named B.method).1, rfl, htab⟩ s.heap [] 0 0 _ hH (fun _ h => by cases h) (by omega) (by omega) ?_
  refine ⟨hl.1, hl.2.1, hll, fun k v hk => ?_⟩
  subst hlo
  by_cases hlt : k < (l_sl As).length
  · rw [List.getElem?_append_left hlt] at hk
    have := hl.2.2 _ (l_args As 0 k v hk)
    simpa using this
  · rw [List.getElem?_append_right (by omega)] at hk
    have := List.mem_of_getElem? hk
    rw [List.mem_replicate] at this
    cases this.2
section RULESH
variable {E : eN} {I I2 : mR} {hh : List (Nat × Nat × Nat × Nat)} {mc ms : Nat} {Q Q2 : aP} {pc : Nat} {lo : List (Option Value)} {st st0 : List Value} {f : aH} {t bc bs mc2 ms2 : Nat}
theorem vh_iconst {n : Int} {v : Int32} (d : decode I.2.1 pc = .ok (.iconst n, 1)) (hv : Int32.ofInt n = v) (k : VH E I hh mc ms Q (pc + 1) lo (.int v :: st) f t bc bs) : VH E I hh mc ms Q pc lo (st) f t bc bs := by
  intro p e R s m args below meth c C H locs cells slots ls hw hz hc hs hl
  exact lv_iconst C.1 C.2.1 d hv (k p e R s m args below meth c C H locs cells slots ls hw hz hc hs hl)
theorem vh_lconst {n : Fin 2} {v : Int64} (d : decode I.2.1 pc = .ok (.lconst n, 1)) (hv : Int64.ofNat (n : Nat) = v) (k : VH E I hh mc ms Q (pc + 1) lo (.long v :: st) f t bc bs) : VH E I hh mc ms Q pc lo (st) f t bc bs := by
  intro p e R s m args below meth c C H locs cells slots ls hw hz hc hs hl
  exact lv_lconst C.1 C.2.1 d hv (k p e R s m args below meth c C H locs cells slots ls hw hz hc hs hl)
theorem vh_iload_n {k : Fin 4} {i : Nat} {x : Int32} (d : decode I.2.1 pc = .ok (.iload_n k, 1)) (hi : (k : Nat) = i) (hv : lo[i]? = some (some (.int x))) (k : VH E I hh mc ms Q (pc + 1) lo (.int x :: st) f t bc bs) : VH E I hh mc ms Q pc lo (st) f t bc bs := by
  intro p e R s m args below meth c C H locs cells slots ls hw hz hc hs hl
  exact lv_iload_n C.1 C.2.1 d hi (hl.2.2.2 _ _ hv) (k p e R s m args below meth c C H locs cells slots ls hw hz hc hs hl)
theorem vh_iload {i : Nat} {x : Int32} (d : decode I.2.1 pc = .ok (.iload i, 2)) (hv : lo[i]? = some (some (.int x))) (k : VH E I hh mc ms Q (pc + 2) lo (.int x :: st) f t bc bs) : VH E I hh mc ms Q pc lo (st) f t bc bs := by
  intro p e R s m args below meth c C H locs cells slots ls hw hz hc hs hl
  exact lv_iload C.1 C.2.1 d (hl.2.2.2 _ _ hv) (k p e R s m args below meth c C H locs cells slots ls hw hz hc hs hl)
theorem vh_lload_n {k : Fin 4} {i : Nat} {x : Int64} (d : decode I.2.1 pc = .ok (.lload_n k, 1)) (hi : (k : Nat) = i) (hv : lo[i]? = some (some (.long x))) (k : VH E I hh mc ms Q (pc + 1) lo (.long x :: st) f t bc bs) : VH E I hh mc ms Q pc lo (st) f t bc bs := by
  intro p e R s m args below meth c C H locs cells slots ls hw hz hc hs hl
  exact lv_lload_n C.1 C.2.1 d hi (hl.2.2.2 _ _ hv) (k p e R s m args below meth c C H locs cells slots ls hw hz hc hs hl)
theorem vh_aload_n {k : Fin 4} {i : Nat} {x : Nat} (d : decode I.2.1 pc = .ok (.aload_n k, 1)) (hi : (k : Nat) = i) (hv : lo[i]? = some (some (.ref x))) (k : VH E I hh mc ms Q (pc + 1) lo (.ref x :: st) f t bc bs) : VH E I hh mc ms Q pc lo (st) f t bc bs := by
  intro p e R s m args below meth c C H locs cells slots ls hw hz hc hs hl
  exact lv_aload_n C.1 C.2.1 d hi (hl.2.2.2 _ _ hv) (k p e R s m args below meth c C H locs cells slots ls hw hz hc hs hl)
theorem vh_aload {i : Nat} {x : Nat} (d : decode I.2.1 pc = .ok (.aload i, 2)) (hv : lo[i]? = some (some (.ref x))) (k : VH E I hh mc ms Q (pc + 2) lo (.ref x :: st) f t bc bs) : VH E I hh mc ms Q pc lo (st) f t bc bs := by
  intro p e R s m args below meth c C H locs cells slots ls hw hz hc hs hl
  exact lv_aload C.1 C.2.1 d (hl.2.2.2 _ _ hv) (k p e R s m args below meth c C H locs cells slots ls hw hz hc hs hl)
theorem vh_i2l {x : Int32} {v : Int64} (d : decode I.2.1 pc = .ok (.i2l, 1)) (hv : x.toInt64 = v) (k : VH E I hh mc ms Q (pc + 1) lo (.long v :: st) f t bc bs) : VH E I hh mc ms Q pc lo (.int x :: st) f t bc bs := by
  intro p e R s m args below meth c C H locs cells slots ls hw hz hc hs hl
  exact lv_i2l C.1 C.2.1 d hv (k p e R s m args below meth c C H locs cells slots ls hw hz hc hs hl)
theorem vh_goto {off : Int} {tgt : Nat} (d : decode I.2.1 pc = .ok (.goto off, 3)) (ht : (pc : Int) + off = (tgt : Int)) (k : VH E I hh mc ms Q tgt lo st f t bc bs) : VH E I hh mc ms Q pc lo st f t bc bs := by
  intro p e R s m args below meth c C H locs cells slots ls hw hz hc hs hl
  exact lv_goto C.1 C.2.1 d ht (k p e R s m args below meth c C H locs cells slots ls hw hz hc hs hl)
theorem vh_if_eq {x : Int32} {off : Int} {tgt : Nat} (d : decode I.2.1 pc = .ok (.ifCond .eq off, 3)) (ht : (pc : Int) + off = (tgt : Int)) (kt : x = 0 → VH E I hh mc ms Q tgt lo st f t bc bs) (kf : ¬ (x = 0) → VH E I hh mc ms Q (pc + 3) lo st f t bc bs) : VH E I hh mc ms Q pc lo (.int x :: st) f t bc bs := by
  intro p e R s m args below meth c C H locs cells slots ls hw hz hc hs hl
  exact lv_if_eq C.1 C.2.1 d ht (fun q => kt q p e R s m args below meth c C H locs cells slots ls hw hz hc hs hl) (fun q => kf q p e R s m args below meth c C H locs cells slots ls hw hz hc hs hl)
theorem vh_astore_n {k : Fin 4} {i : Nat} {x : Nat} (d : decode I.2.1 pc = .ok (.astore_n k, 1)) (hi : (k : Nat) = i) (hn : i < I.2.2.1) (k : VH E I hh mc ms Q (pc + 1) (l_st1 lo i (.ref x)) st f t bc bs) : VH E I hh mc ms Q pc lo (.ref x :: st) f t bc bs := by
  intro p e R s m args below meth c C H locs cells slots ls hw hz hc hs hl
  exact lv_astore_n C.1 C.2.1 d hi (l_has hl) hn rfl (fun ls2 h2 => k p e R s m args below meth c C H locs cells slots ls2 hw hz hc hs (l_store1 hl h2))
theorem vh_astore {i : Nat} {x : Nat} (d : decode I.2.1 pc = .ok (.astore i, 2)) (hn : i < I.2.2.1) (k : VH E I hh mc ms Q (pc + 2) (l_st1 lo i (.ref x)) st f t bc bs) : VH E I hh mc ms Q pc lo (.ref x :: st) f t bc bs := by
  intro p e R s m args below meth c C H locs cells slots ls hw hz hc hs hl
  exact lv_astore C.1 C.2.1 d (l_has hl) hn rfl (fun ls2 h2 => k p e R s m args below meth c C H locs cells slots ls2 hw hz hc hs (l_store1 hl h2))
theorem vh_iret {v : Int32} {ty : FieldType} (d : decode I.2.1 pc = .ok (.ireturn, 1)) (hr : I.2.2.2.1 = some ty) (hn : narrow ty (.int v) = .int v) (hq : Q (.inl (some (.int v))) f t) : VH E I hh mc ms Q pc lo [.int v] f t bc bs := by
  intro p e R s m args below meth c C H locs cells slots ls hw hz hc hs hl
  refine vx_ret (W.widen (k := mc) (n := ms) (by omega) (by omega) ?_)
  exact W.zret C.1 C.2.1 (C.2.2.2.2.2.2.1.trans hr) hn (fun u hu _ => ⟨_, f, t, rfl, hq, by rw [hu]; exact hw⟩) hz d C.2.2.2.2.2.1
theorem vh_last (hE : eOk E) {a n i : Nat} {g : Nat → Int64} {x : Int64} (d : decode I.2.1 pc = .ok (.lastore, 1)) (hf : f a = .inl (3, n, .inr (.inl g))) (hi : i < n) (hn : i < 2 ^ 31) (kk : VH E I hh mc ms Q (pc + 1) lo st (va_up f a (.inl (3, n, .inr (.inl (vp_updL g i x))))) t bc bs) : VH E I hh mc ms Q pc lo (.long x :: .int (nI i) :: .ref a :: st) f t bc bs := by
  intro p e R s m args below meth c C H locs cells slots ls hw hz hc hs hl
  obtain ⟨r1, r2, r3⟩ := w_one hw hf (uk_a (by decide))
  have hin : vp_in (nI i) n := fun h => by
    rcases h with h | h
    · exact nI_pos hn h
    · rw [nI_clamp hn] at h; omega
  refine W.last C.1 C.2.1 r3 (((e_k hE C.2.2.2.2.1).2 3 _ (ty_at E (by decide))).1 n (fun j => .long (g j))) (fun q => by cases q) (by show ¬ (nI i < 0 ∨ (arrV _ _ _).slots.size ≤ _); rw [arrV_size]; exact hin) rfl rfl d fun H1 x1 x2 x3 => ?_
  refine kk p e R s m args below meth c C H1 _ cells slots ls (w_set hw (by rw [hf]; exact uk_a (by decide)) x2 x3 ?_) (fun z hz9 => ?_) hc hs hl
  · show H1[a]? = some (vp_cell _ _)
    rw [x1]
    show some ((vp_cell _ _).setSlot _ _) = _
    rw [vp_cell_l, vp_cell_l, arrV_store, nI_clamp hn]
    congr 2
    funext q
    by_cases hq : q = i
    · subst hq
      simp [updV, vp_updL]
    · simp [updV, vp_updL, hq]
  · rcases List.mem_append.mp hz9 with h | h
    · exact hz z h
    · rw [List.mem_singleton.mp h]; exact r1
/-- a call whose throw is caught here -/
theorem vh_call (hE : eOk E) {ix b ci n xa xb xh xk : Nat} {fs As : List Value} {nm : String} (d : decode I.2.1 pc = .ok (.invokevirtual ix, 3)) (hL : mLb I.1.cls ix I2 n 0 false = true) (hb : f b = .inr (ci, fs)) (hci : (match vwCl[ci]? with | some q => q.1 | none => "") = I2.1.cls) (hst : st0 = As.reverse ++ .ref b :: st)
    (hM : mT E I2 mc2 ms2 (.ref b :: As) f t Q2) (hn : As.length = n) (hfr : I2.2.2.2.2.1 + 1 ≤ I.2.2.2.2.1) (hlo : 8 + (I2.2.2.1 + 11) + I2.2.2.2.2.2 ≤ I.2.2.2.2.2) (hcat : (st.map fun v => v.category).sum ≤ 8) (hbc : mc2 ≤ bc) (hbs : ms2 ≤ bs)
    (hh1 : hh = [(xa, xb, xh, xk)]) (hcv : covers (⟨xa, xb, xh, xk⟩ : ExceptionTableEntry) pc = true) (h0 : xk ≠ 0) (hlk : Cond.classLink I.1.cls xk nm ∈ lw_tbl) (hcs : Cond.castable nm nm ∈ lw_tbl)
    (kk : ∀ (v : Option Value) (g : aH) (u : Nat), Q2 (.inl v) g u → VH E I hh mc ms Q (pc + 3) lo (v.toList ++ st) g u (bc - mc2) (bs - ms2)) (kx : ∀ n g u, Q2 (.inr n) g u → n = nm ∧ ∀ q : Nat, VH E I hh mc ms Q xh lo [.ref q] g u (bc - mc2) (bs - ms2)) : VH E I hh mc ms Q pc lo st0 f t bc bs := by
  subst hn
  intro p e R s m args below meth c C H locs cells slots ls hw hz hc hs hl
  have hW := C.2.2.2.2.1
  have hR := C.2.2.2.2.2.2.2.2.1
  have htab := C.2.2.2.2.2.2.2.2.2
  rw [hh1] at htab
  obtain ⟨-, l1, l2, l3, l4, l5, l6, -, -⟩ := mLb_spec hL
  obtain ⟨l7, l8⟩ := l6 rfl
  obtain ⟨-, -, r, e1, cell, q1, q2, q3, -⟩ := w_one hw hb uk_o
  have hrc : s.vm.findClass I2.1.cls = some cell.cls := by
    rw [e1] at hci
    rw [q2, ← hci]
    exact ((e_k hE hW).1 ci r e1).2.1
  have hR1 : R.cells = mc := by rw [hR]
  have hR2 : R.slots = ms := by rw [hR]
  have hr := vx_runV (Ts := []) (n := As.length) (C := I2.1.cls) (bytes := I2.2.1) (maxL := I2.2.2.1) (ret := I2.2.2.2.1) (p := p) (e := e) (R := R) (s := s) (m := m) (args := args) (below := below) (meth := meth) (c := c) (H := H) (locs := locs) (cells := cells) (slots := slots) (g := F0 m pc ls st0) (rest := st) ⟨C.1, C.2.1, C.2.2.1, C.2.2.2.1, fun _ h => by cases h⟩ hM
    ⟨⟨rfl, rfl, by rw [hR]; exact hfr, by rw [hR]; exact hlo, fun w hw9 a' U hU => by rw [List.mem_singleton.mp hw9]; exact e_w hE (State.WarmedH.trans hW hU) l2 rfl a', List.mem_singleton.mpr rfl, e_w hE hW l2 rfl args, e_w hE hW l3 rfl args, l4, l5, e_w hE hW (l1 rfl) rfl args⟩, e_w hE hW l7 rfl args, e_w hE hW l8 rfl args⟩
    ⟨e_blind, ⟨cell, q1, by rw [q3]; rfl, hrc⟩, fun U hU hUW => ⟨rfl, State.WarmedH.trans hW hUW, by rw [hU]; exact hw⟩⟩ rfl rfl hl.1 hst (lv_room hcat) d ⟨by rw [hR1]; omega, by rw [hR2]; omega⟩
  intro T hT X
  rcases hr T hT X with ⟨v, st₀, u, T', L, x0, X', hL', y1, y2, ⟨v', g, k, hv, hq, hw1⟩, sg⟩ | ⟨q, st₀, u, T', L, nx, ce, x0, X', hL', y1, y2, ⟨g, k, hq, hw1⟩, hce, hcv1, hcl, sg⟩
  · cases hv
    obtain ⟨t2, a1, b1⟩ := kk v g k hq p e R s m args below meth c C T'.heap (locs ++ L) (cells + mc2) (slots + ms2) ls (by rw [y1]; exact hw1) (fun z h => (List.mem_append.mp h).elim (hz z) (hL' z)) (by omega) (by omega) hl T' rfl X'
    exact ⟨t2, sg t2 a1, b1⟩
  · obtain ⟨en, kq⟩ := kx nx g k hq
    subst en
    have hcs9 : (Cond.castable nx nx).before args s = true := by
      obtain ⟨-, a0, hh9⟩ := id hE
      exact ca_moved hW.alike (hh9 _ hcs)
    obtain ⟨vm', X2, s2⟩ := hc_catch X' (q := q) (pc := pc) (ls := ls) (rest := st) (own := I.1.cls) (nm := nx) (x := ⟨xa, xb, xh, xk⟩) C.2.2.2.1 htab hcv h0 (e_w hE hW hlk rfl args) hcs9 (by rw [y1]; exact hce) hcv1 hcl
    obtain ⟨t2, a1, b1⟩ := kq q p e R s m args below meth c C T'.heap (locs ++ L) (cells + mc2) (slots + ms2) ls (by rw [y1]; exact hw1) (fun z h => (List.mem_append.mp h).elim (hz z) (hL' z)) (by omega) (by omega) hl (T'.setVm vm') rfl X2
    exact ⟨t2, (sg.trans s2).trans a1, b1⟩
/-- entry ix of the pool is the static method I2 with the table hh -/
def mHb (own : String) (ix : Nat) (I2 : mR) (hh : List (Nat × Nat × Nat × Nat)) (n : Nat) : Prop := Cond.methodLink own ix I2.1 ∈ lw_tbl ∧ Cond.codeWith I2.1 I2.2.1 I2.2.2.1 I2.2.2.2.1 hh ∈ lw_tbl ∧ Cond.initialized I2.1.cls ∈ lw_tbl ∧ (I2.1.cls ≠ "java/lang/invoke/MethodHandle" ∧ I2.1.cls ≠ "java/lang/invoke/VarHandle") ∧ (parseMethodDescriptor I2.1.desc).map (fun d => d.parameters.length) = some n ∧ Cond.static I2.1 ∈ lw_tbl
/-- the call of a static method with a table, which throws nothing -/
theorem v_callH (hE : eOk E) {ix n : Nat} {As : List Value} (d : decode I.2.1 pc = .ok (.invokestatic ix, 3)) (hL : mHb I.1.cls ix I2 hh n) (hst : st0 = As.reverse ++ st) (hM : mH E I2 hh mc2 ms2 As f t Q2) (hn : As.length = n) (hx : ∀ n g u, ¬ Q2 (.inr n) g u) (hfr : I2.2.2.2.2.1 + 1 ≤ I.2.2.2.2.1) (hlo : 8 + (I2.2.2.1 + 11) + I2.2.2.2.2.2 ≤ I.2.2.2.2.2) (hcat : (st.map fun v => v.category).sum ≤ 8) (hbc : mc2 ≤ bc) (hbs : ms2 ≤ bs)
    (kk : ∀ (v : Option Value) (g : aH) (u : Nat), Q2 (.inl v) g u → V E I mc ms Q (pc + 3) lo (v.toList ++ st) g u (bc - mc2) (bs - ms2)) : V E I mc ms Q pc lo st0 f t bc bs := by
  subst hn
  intro p e R s m args below meth c C H locs cells slots ls hw hz hc hs hl
  have hW := C.2.2.2.2.1
  have hR := C.2.2.2.2.2.2.2.2.1
  obtain ⟨l1, l2, l3, l4, l5, l6⟩ := hL
  have hR1 : R.cells = mc := by rw [hR]
  have hR2 : R.slots = ms := by rw [hR]
  refine r_callX (vx_runSX (hh := hh) (Ts := []) (n := As.length) (bytes := I2.2.1) (maxL := I2.2.2.1) (ret := I2.2.2.2.1) ⟨C.1, C.2.1, C.2.2.1, C.2.2.2.1, fun _ h => by cases h⟩ hM
    ⟨⟨rfl, rfl, by rw [hR]; exact hfr, by rw [hR]; exact hlo, fun w hw9 a' U hU => ?_, List.mem_singleton.mpr rfl⟩, e_w hE hW l2 rfl args, e_w hE hW l3 rfl args, l4, fun sig hs9 => ?_, e_w hE hW l1 rfl args, e_w hE hW l6 rfl args⟩
    ⟨e_blind, fun U hU hUW => ⟨rfl, State.WarmedH.trans hW hUW, by rw [hU]; exact hw⟩⟩ rfl rfl hl.1 hst (lv_room hcat) d ⟨by rw [hR1]; omega, by rw [hR2]; omega⟩) hz C.2.2.2.2.2.2.2.2.2 C.2.2.2.2.2.1 (by omega) (by omega) (fun n g u h => absurd h (hx n g u)) ?_
  · rw [List.mem_singleton.mp hw9]
    exact e_w hE (State.WarmedH.trans hW hU) l2 rfl a'
  · rw [hs9] at l5
    exact (Option.some.inj l5).symm
  · intro v g u H1 locs1 hq hw1 hz1
    exact kk v g u hq p e R s m args below meth c C H1 locs1 _ _ ls hw1 hz1 (by omega) (by omega) hl
end RULESH
/-! the law's script -/
theorem aO_lr {v : Option Value} {n : String} (h : (Sum.inl v : aO) = Sum.inr n) : False := by cases h
theorem aO_rl {v : Option Value} {n : String} (h : (Sum.inr n : aO) = Sum.inl v) : False := by cases h
section SCRIPT
variable {E : eN} {I : mR} {mc ms : Nat} {Q : aP} {pc : Nat} {lo : List (Option Value)} {st : List Value} {f : aH} {t bc bs : Nat}
theorem v_sld {b L : Nat} {xs : Nat → Int32} {i : Nat} (hX : va_X b L xs (S0 E) (S0 E).heap) (d : decode I.2.1 pc = .ok (.iaload, 1)) (hi : i < L) (hn : i < 2 ^ 31) (kk : V E I mc ms Q (pc + 1) lo (.int (xs i) :: st) f t bc bs) : V E I mc ms Q pc lo (.int (nI i) :: .ref b :: st) f t bc bs := by
  intro p e R s m args below meth c C H locs cells slots ls hw hz hc hs hl
  have hbl : b < b0 E := by
    obtain ⟨scr, h1, -⟩ := hX
    exact (Array.getElem?_eq_some_iff.mp h1).1
  have hX1 : va_X b L xs s (S0 E).heap := va_X.moved C.2.2.2.2.1.alike hX
  have hin : vp_in (nI i) L := fun h => by
    rcases h with h | h
    · exact nI_pos hn h
    · rw [nI_clamp hn] at h; omega
  have hS : va_S (fun q => b0 E ≤ q) (S0 E).heap H locs := ⟨by rw [hw.1]; exact hw.2.1, fun q hq _ => hw.2.2.1 q hq, hz⟩
  refine va_sld C.1 C.2.1 hX1 hbl (Nat.not_le.mpr hbl) hS hin d ?_
  rw [nI_clamp hn]
  exact kk p e R s m args below meth c C H locs cells slots ls hw hz hc hs hl
theorem v_slen {b L : Nat} {xs : Nat → Int32} (hX : va_X b L xs (S0 E) (S0 E).heap) (d : decode I.2.1 pc = .ok (.arraylength, 1)) (kk : V E I mc ms Q (pc + 1) lo (.int (nI L) :: st) f t bc bs) : V E I mc ms Q pc lo (.ref b :: st) f t bc bs := by
  intro p e R s m args below meth c C H locs cells slots ls hw hz hc hs hl
  have hbl : b < b0 E := by
    obtain ⟨scr, h1, -⟩ := hX
    exact (Array.getElem?_eq_some_iff.mp h1).1
  have hX1 : va_X b L xs s (S0 E).heap := va_X.moved C.2.2.2.2.1.alike hX
  have hS : va_S (fun q => b0 E ≤ q) (S0 E).heap H locs := ⟨by rw [hw.1]; exact hw.2.1, fun q hq _ => hw.2.2.1 q hq, hz⟩
  exact va_slen C.1 C.2.1 hX1 hbl (Nat.not_le.mpr hbl) hS d (kk p e R s m args below meth c C H locs cells slots ls hw hz hc hs hl)
end SCRIPT
