section RULES
variable {E : eN} {I : mR} {mc ms : Nat} {Q : aP} {pc : Nat} {lo : List (Option Value)} {st : List Value} {f : aH} {t bc bs : Nat}
theorem v_iconst {n : Int} {v : Int32} (d : decode I.2.1 pc = .ok (.iconst n, 1)) (hv : Int32.ofInt n = v) (k : V E I mc ms Q (pc + 1) lo (.int v :: st) f t bc bs) : V E I mc ms Q pc lo (st) f t bc bs := by
  intro p e R s m args below meth c C H locs cells slots ls hw hz hc hs hl
  exact lv_iconst C.1 C.2.1 d hv (k p e R s m args below meth c C H locs cells slots ls hw hz hc hs hl)
theorem v_bipush {n : Int} {v : Int32} (d : decode I.2.1 pc = .ok (.bipush n, 2)) (hv : (Int8.ofInt n).toInt32 = v) (k : V E I mc ms Q (pc + 2) lo (.int v :: st) f t bc bs) : V E I mc ms Q pc lo (st) f t bc bs := by
  intro p e R s m args below meth c C H locs cells slots ls hw hz hc hs hl
  exact lv_bipush C.1 C.2.1 d hv (k p e R s m args below meth c C H locs cells slots ls hw hz hc hs hl)
theorem v_sipush {n : Int} {v : Int32} (d : decode I.2.1 pc = .ok (.sipush n, 3)) (hv : (Int16.ofInt n).toInt32 = v) (k : V E I mc ms Q (pc + 3) lo (.int v :: st) f t bc bs) : V E I mc ms Q pc lo (st) f t bc bs := by
  intro p e R s m args below meth c C H locs cells slots ls hw hz hc hs hl
  exact lv_sipush C.1 C.2.1 d hv (k p e R s m args below meth c C H locs cells slots ls hw hz hc hs hl)
theorem v_lconst {n : Fin 2} {v : Int64} (d : decode I.2.1 pc = .ok (.lconst n, 1)) (hv : Int64.ofNat (n : Nat) = v) (k : V E I mc ms Q (pc + 1) lo (.long v :: st) f t bc bs) : V E I mc ms Q pc lo (st) f t bc bs := by
  intro p e R s m args below meth c C H locs cells slots ls hw hz hc hs hl
  exact lv_lconst C.1 C.2.1 d hv (k p e R s m args below meth c C H locs cells slots ls hw hz hc hs hl)
theorem v_iload_n {k : Fin 4} {i : Nat} {x : Int32} (d : decode I.2.1 pc = .ok (.iload_n k, 1)) (hi : (k : Nat) = i) (hv : lo[i]? = some (some (.int x))) (k : V E I mc ms Q (pc + 1) lo (.int x :: st) f t bc bs) : V E I mc ms Q pc lo (st) f t bc bs := by
  intro p e R s m args below meth c C H locs cells slots ls hw hz hc hs hl
  exact lv_iload_n C.1 C.2.1 d hi (hl.2.2.2 _ _ hv) (k p e R s m args below meth c C H locs cells slots ls hw hz hc hs hl)
theorem v_iload {i : Nat} {x : Int32} (d : decode I.2.1 pc = .ok (.iload i, 2)) (hv : lo[i]? = some (some (.int x))) (k : V E I mc ms Q (pc + 2) lo (.int x :: st) f t bc bs) : V E I mc ms Q pc lo (st) f t bc bs := by
  intro p e R s m args below meth c C H locs cells slots ls hw hz hc hs hl
  exact lv_iload C.1 C.2.1 d (hl.2.2.2 _ _ hv) (k p e R s m args below meth c C H locs cells slots ls hw hz hc hs hl)
theorem v_lload_n {k : Fin 4} {i : Nat} {x : Int64} (d : decode I.2.1 pc = .ok (.lload_n k, 1)) (hi : (k : Nat) = i) (hv : lo[i]? = some (some (.long x))) (k : V E I mc ms Q (pc + 1) lo (.long x :: st) f t bc bs) : V E I mc ms Q pc lo (st) f t bc bs := by
  intro p e R s m args below meth c C H locs cells slots ls hw hz hc hs hl
  exact lv_lload_n C.1 C.2.1 d hi (hl.2.2.2 _ _ hv) (k p e R s m args below meth c C H locs cells slots ls hw hz hc hs hl)
theorem v_lload {i : Nat} {x : Int64} (d : decode I.2.1 pc = .ok (.lload i, 2)) (hv : lo[i]? = some (some (.long x))) (k : V E I mc ms Q (pc + 2) lo (.long x :: st) f t bc bs) : V E I mc ms Q pc lo (st) f t bc bs := by
  intro p e R s m args below meth c C H locs cells slots ls hw hz hc hs hl
  exact lv_lload C.1 C.2.1 d (hl.2.2.2 _ _ hv) (k p e R s m args below meth c C H locs cells slots ls hw hz hc hs hl)
theorem v_aload_n {k : Fin 4} {i : Nat} {x : Nat} (d : decode I.2.1 pc = .ok (.aload_n k, 1)) (hi : (k : Nat) = i) (hv : lo[i]? = some (some (.ref x))) (k : V E I mc ms Q (pc + 1) lo (.ref x :: st) f t bc bs) : V E I mc ms Q pc lo (st) f t bc bs := by
  intro p e R s m args below meth c C H locs cells slots ls hw hz hc hs hl
  exact lv_aload_n C.1 C.2.1 d hi (hl.2.2.2 _ _ hv) (k p e R s m args below meth c C H locs cells slots ls hw hz hc hs hl)
theorem v_aload {i : Nat} {x : Nat} (d : decode I.2.1 pc = .ok (.aload i, 2)) (hv : lo[i]? = some (some (.ref x))) (k : V E I mc ms Q (pc + 2) lo (.ref x :: st) f t bc bs) : V E I mc ms Q pc lo (st) f t bc bs := by
  intro p e R s m args below meth c C H locs cells slots ls hw hz hc hs hl
  exact lv_aload C.1 C.2.1 d (hl.2.2.2 _ _ hv) (k p e R s m args below meth c C H locs cells slots ls hw hz hc hs hl)
theorem v_istore_n {k : Fin 4} {i : Nat} {x : Int32} (d : decode I.2.1 pc = .ok (.istore_n k, 1)) (hi : (k : Nat) = i) (hn : i < I.2.2.1) (k : V E I mc ms Q (pc + 1) (l_st1 lo i (.int x)) st f t bc bs) : V E I mc ms Q pc lo (.int x :: st) f t bc bs := by
  intro p e R s m args below meth c C H locs cells slots ls hw hz hc hs hl
  exact lv_istore_n C.1 C.2.1 d hi (l_has hl) hn rfl (fun ls2 h2 => k p e R s m args below meth c C H locs cells slots ls2 hw hz hc hs (l_store1 hl h2))
theorem v_istore {i : Nat} {x : Int32} (d : decode I.2.1 pc = .ok (.istore i, 2)) (hn : i < I.2.2.1) (k : V E I mc ms Q (pc + 2) (l_st1 lo i (.int x)) st f t bc bs) : V E I mc ms Q pc lo (.int x :: st) f t bc bs := by
  intro p e R s m args below meth c C H locs cells slots ls hw hz hc hs hl
  exact lv_istore C.1 C.2.1 d (l_has hl) hn rfl (fun ls2 h2 => k p e R s m args below meth c C H locs cells slots ls2 hw hz hc hs (l_store1 hl h2))
theorem v_astore_n {k : Fin 4} {i : Nat} {x : Nat} (d : decode I.2.1 pc = .ok (.astore_n k, 1)) (hi : (k : Nat) = i) (hn : i < I.2.2.1) (k : V E I mc ms Q (pc + 1) (l_st1 lo i (.ref x)) st f t bc bs) : V E I mc ms Q pc lo (.ref x :: st) f t bc bs := by
  intro p e R s m args below meth c C H locs cells slots ls hw hz hc hs hl
  exact lv_astore_n C.1 C.2.1 d hi (l_has hl) hn rfl (fun ls2 h2 => k p e R s m args below meth c C H locs cells slots ls2 hw hz hc hs (l_store1 hl h2))
theorem v_astore {i : Nat} {x : Nat} (d : decode I.2.1 pc = .ok (.astore i, 2)) (hn : i < I.2.2.1) (k : V E I mc ms Q (pc + 2) (l_st1 lo i (.ref x)) st f t bc bs) : V E I mc ms Q pc lo (.ref x :: st) f t bc bs := by
  intro p e R s m args below meth c C H locs cells slots ls hw hz hc hs hl
  exact lv_astore C.1 C.2.1 d (l_has hl) hn rfl (fun ls2 h2 => k p e R s m args below meth c C H locs cells slots ls2 hw hz hc hs (l_store1 hl h2))
theorem v_lstore_n {k : Fin 4} {i : Nat} {x : Int64} (d : decode I.2.1 pc = .ok (.lstore_n k, 1)) (hi : (k : Nat) = i) (hn : i + 1 < I.2.2.1) (k : V E I mc ms Q (pc + 1) (l_st2 lo i (.long x)) st f t bc bs) : V E I mc ms Q pc lo (.long x :: st) f t bc bs := by
  intro p e R s m args below meth c C H locs cells slots ls hw hz hc hs hl
  exact lv_lstore_n C.1 C.2.1 d hi (l_has hl) hn rfl (fun ls2 h2 => k p e R s m args below meth c C H locs cells slots ls2 hw hz hc hs (l_store2 hl h2))
theorem v_lstore {i : Nat} {x : Int64} (d : decode I.2.1 pc = .ok (.lstore i, 2)) (hn : i + 1 < I.2.2.1) (k : V E I mc ms Q (pc + 2) (l_st2 lo i (.long x)) st f t bc bs) : V E I mc ms Q pc lo (.long x :: st) f t bc bs := by
  intro p e R s m args below meth c C H locs cells slots ls hw hz hc hs hl
  exact lv_lstore C.1 C.2.1 d (l_has hl) hn rfl (fun ls2 h2 => k p e R s m args below meth c C H locs cells slots ls2 hw hz hc hs (l_store2 hl h2))
theorem v_iinc {i : Nat} {n : Int} {x v : Int32} (d : decode I.2.1 pc = .ok (.iinc i n, 3)) (hx : lo[i]? = some (some (.int x))) (hv : x + Int32.ofInt n = v) (hn : i < I.2.2.1) (k : V E I mc ms Q (pc + 3) (l_st1 lo i (.int v)) st f t bc bs) : V E I mc ms Q pc lo st f t bc bs := by
  intro p e R s m args below meth c C H locs cells slots ls hw hz hc hs hl
  obtain ⟨j, hj⟩ := List.getElem?_of_mem (l_mem hx)
  exact lv_iinc C.1 C.2.1 d (l_has hl) hj hv hn rfl (fun ls2 h2 => k p e R s m args below meth c C H locs cells slots ls2 hw hz hc hs (l_store1 hl h2))
theorem v_iadd {x y : Int32} (d : decode I.2.1 pc = .ok (.iadd, 1))  (k : V E I mc ms Q (pc + 1) lo (.int (x + y) :: st) f t bc bs) : V E I mc ms Q pc lo (.int y :: .int x :: st) f t bc bs := by
  intro p e R s m args below meth c C H locs cells slots ls hw hz hc hs hl
  exact lv_iadd C.1 C.2.1 d  (k p e R s m args below meth c C H locs cells slots ls hw hz hc hs hl)
theorem v_isub {x y : Int32} (d : decode I.2.1 pc = .ok (.isub, 1))  (k : V E I mc ms Q (pc + 1) lo (.int (x - y) :: st) f t bc bs) : V E I mc ms Q pc lo (.int y :: .int x :: st) f t bc bs := by
  intro p e R s m args below meth c C H locs cells slots ls hw hz hc hs hl
  exact lv_isub C.1 C.2.1 d  (k p e R s m args below meth c C H locs cells slots ls hw hz hc hs hl)
theorem v_imul {x y : Int32} (d : decode I.2.1 pc = .ok (.imul, 1))  (k : V E I mc ms Q (pc + 1) lo (.int (x * y) :: st) f t bc bs) : V E I mc ms Q pc lo (.int y :: .int x :: st) f t bc bs := by
  intro p e R s m args below meth c C H locs cells slots ls hw hz hc hs hl
  exact lv_imul C.1 C.2.1 d  (k p e R s m args below meth c C H locs cells slots ls hw hz hc hs hl)
theorem v_iand {x y : Int32} (d : decode I.2.1 pc = .ok (.iand, 1))  (k : V E I mc ms Q (pc + 1) lo (.int (x &&& y) :: st) f t bc bs) : V E I mc ms Q pc lo (.int y :: .int x :: st) f t bc bs := by
  intro p e R s m args below meth c C H locs cells slots ls hw hz hc hs hl
  exact lv_iand C.1 C.2.1 d  (k p e R s m args below meth c C H locs cells slots ls hw hz hc hs hl)
theorem v_ior {x y : Int32} (d : decode I.2.1 pc = .ok (.ior, 1))  (k : V E I mc ms Q (pc + 1) lo (.int (x ||| y) :: st) f t bc bs) : V E I mc ms Q pc lo (.int y :: .int x :: st) f t bc bs := by
  intro p e R s m args below meth c C H locs cells slots ls hw hz hc hs hl
  exact lv_ior C.1 C.2.1 d  (k p e R s m args below meth c C H locs cells slots ls hw hz hc hs hl)
theorem v_lor {x y : Int64} (d : decode I.2.1 pc = .ok (.lor, 1))  (k : V E I mc ms Q (pc + 1) lo (.long (x ||| y) :: st) f t bc bs) : V E I mc ms Q pc lo (.long y :: .long x :: st) f t bc bs := by
  intro p e R s m args below meth c C H locs cells slots ls hw hz hc hs hl
  exact lv_lor C.1 C.2.1 d  (k p e R s m args below meth c C H locs cells slots ls hw hz hc hs hl)
theorem v_land {x y : Int64} (d : decode I.2.1 pc = .ok (.land, 1))  (k : V E I mc ms Q (pc + 1) lo (.long (x &&& y) :: st) f t bc bs) : V E I mc ms Q pc lo (.long y :: .long x :: st) f t bc bs := by
  intro p e R s m args below meth c C H locs cells slots ls hw hz hc hs hl
  exact lv_land C.1 C.2.1 d  (k p e R s m args below meth c C H locs cells slots ls hw hz hc hs hl)
theorem v_idiv {x y : Int32} (d : decode I.2.1 pc = .ok (.idiv, 1)) (hne : ¬ y = 0) (k : V E I mc ms Q (pc + 1) lo (.int (x / y) :: st) f t bc bs) : V E I mc ms Q pc lo (.int y :: .int x :: st) f t bc bs := by
  intro p e R s m args below meth c C H locs cells slots ls hw hz hc hs hl
  exact lv_idiv C.1 C.2.1 d hne (k p e R s m args below meth c C H locs cells slots ls hw hz hc hs hl)
theorem v_irem {x y : Int32} (d : decode I.2.1 pc = .ok (.irem, 1)) (hne : ¬ y = 0) (k : V E I mc ms Q (pc + 1) lo (.int (x - x / y * y) :: st) f t bc bs) : V E I mc ms Q pc lo (.int y :: .int x :: st) f t bc bs := by
  intro p e R s m args below meth c C H locs cells slots ls hw hz hc hs hl
  exact lv_irem C.1 C.2.1 d hne (k p e R s m args below meth c C H locs cells slots ls hw hz hc hs hl)
theorem v_ineg {x : Int32} (d : decode I.2.1 pc = .ok (.ineg, 1))  (k : V E I mc ms Q (pc + 1) lo (.int (-x) :: st) f t bc bs) : V E I mc ms Q pc lo (.int x :: st) f t bc bs := by
  intro p e R s m args below meth c C H locs cells slots ls hw hz hc hs hl
  exact lv_ineg C.1 C.2.1 d  (k p e R s m args below meth c C H locs cells slots ls hw hz hc hs hl)
theorem v_ishl {x y : Int32} (d : decode I.2.1 pc = .ok (.ishl, 1))  (k : V E I mc ms Q (pc + 1) lo (.int (x <<< (y &&& 31)) :: st) f t bc bs) : V E I mc ms Q pc lo (.int y :: .int x :: st) f t bc bs := by
  intro p e R s m args below meth c C H locs cells slots ls hw hz hc hs hl
  exact lv_ishl C.1 C.2.1 d  (k p e R s m args below meth c C H locs cells slots ls hw hz hc hs hl)
theorem v_ishr {x y : Int32} (d : decode I.2.1 pc = .ok (.ishr, 1))  (k : V E I mc ms Q (pc + 1) lo (.int (x >>> (y &&& 31)) :: st) f t bc bs) : V E I mc ms Q pc lo (.int y :: .int x :: st) f t bc bs := by
  intro p e R s m args below meth c C H locs cells slots ls hw hz hc hs hl
  exact lv_ishr C.1 C.2.1 d  (k p e R s m args below meth c C H locs cells slots ls hw hz hc hs hl)
theorem v_i2l {x : Int32} {v : Int64} (d : decode I.2.1 pc = .ok (.i2l, 1)) (hv : x.toInt64 = v) (k : V E I mc ms Q (pc + 1) lo (.long v :: st) f t bc bs) : V E I mc ms Q pc lo (.int x :: st) f t bc bs := by
  intro p e R s m args below meth c C H locs cells slots ls hw hz hc hs hl
  exact lv_i2l C.1 C.2.1 d hv (k p e R s m args below meth c C H locs cells slots ls hw hz hc hs hl)
theorem v_l2i {x : Int64} {v : Int32} (d : decode I.2.1 pc = .ok (.l2i, 1)) (hv : x.toInt32 = v) (k : V E I mc ms Q (pc + 1) lo (.int v :: st) f t bc bs) : V E I mc ms Q pc lo (.long x :: st) f t bc bs := by
  intro p e R s m args below meth c C H locs cells slots ls hw hz hc hs hl
  exact lv_l2i C.1 C.2.1 d hv (k p e R s m args below meth c C H locs cells slots ls hw hz hc hs hl)
theorem v_i2b {x v : Int32} (d : decode I.2.1 pc = .ok (.i2b, 1)) (hv : x.toInt8.toInt32 = v) (k : V E I mc ms Q (pc + 1) lo (.int v :: st) f t bc bs) : V E I mc ms Q pc lo (.int x :: st) f t bc bs := by
  intro p e R s m args below meth c C H locs cells slots ls hw hz hc hs hl
  exact lv_i2b C.1 C.2.1 d hv (k p e R s m args below meth c C H locs cells slots ls hw hz hc hs hl)
theorem v_i2c {x v : Int32} (d : decode I.2.1 pc = .ok (.i2c, 1)) (hv : (x.toUInt32 % 65536).toInt32 = v) (k : V E I mc ms Q (pc + 1) lo (.int v :: st) f t bc bs) : V E I mc ms Q pc lo (.int x :: st) f t bc bs := by
  intro p e R s m args below meth c C H locs cells slots ls hw hz hc hs hl
  exact lv_i2c C.1 C.2.1 d hv (k p e R s m args below meth c C H locs cells slots ls hw hz hc hs hl)
theorem v_lshr {x v : Int64} {y : Int32} (d : decode I.2.1 pc = .ok (.lshr, 1)) (hv : x >>> (y.toInt64 &&& 63) = v) (k : V E I mc ms Q (pc + 1) lo (.long v :: st) f t bc bs) : V E I mc ms Q pc lo (.int y :: .long x :: st) f t bc bs := by
  intro p e R s m args below meth c C H locs cells slots ls hw hz hc hs hl
  exact lv_lshr C.1 C.2.1 d hv (k p e R s m args below meth c C H locs cells slots ls hw hz hc hs hl)
theorem v_lshl {x v : Int64} {y : Int32} (d : decode I.2.1 pc = .ok (.lshl, 1)) (hv : x <<< (y.toInt64 &&& 63) = v) (k : V E I mc ms Q (pc + 1) lo (.long v :: st) f t bc bs) : V E I mc ms Q pc lo (.int y :: .long x :: st) f t bc bs := by
  intro p e R s m args below meth c C H locs cells slots ls hw hz hc hs hl
  exact lv_lshl C.1 C.2.1 d hv (k p e R s m args below meth c C H locs cells slots ls hw hz hc hs hl)
theorem v_dup {va : Value} (d : decode I.2.1 pc = .ok (.dup, 1)) (hva : va.category = 1) (k : V E I mc ms Q (pc + 1) lo (va :: va :: st) f t bc bs) : V E I mc ms Q pc lo (va :: st) f t bc bs := by
  intro p e R s m args below meth c C H locs cells slots ls hw hz hc hs hl
  exact lv_dup C.1 C.2.1 d hva (k p e R s m args below meth c C H locs cells slots ls hw hz hc hs hl)
theorem v_pop {va : Value} (d : decode I.2.1 pc = .ok (.pop, 1)) (hva : va.category = 1) (k : V E I mc ms Q (pc + 1) lo (st) f t bc bs) : V E I mc ms Q pc lo (va :: st) f t bc bs := by
  intro p e R s m args below meth c C H locs cells slots ls hw hz hc hs hl
  exact lv_pop C.1 C.2.1 d hva (k p e R s m args below meth c C H locs cells slots ls hw hz hc hs hl)
theorem v_dup2 {va vb : Value} (d : decode I.2.1 pc = .ok (.dup2, 1)) (hva : va.category = 1) (hvb : vb.category = 1) (k : V E I mc ms Q (pc + 1) lo (va :: vb :: va :: vb :: st) f t bc bs) : V E I mc ms Q pc lo (va :: vb :: st) f t bc bs := by
  intro p e R s m args below meth c C H locs cells slots ls hw hz hc hs hl
  exact lv_dup2_11 C.1 C.2.1 d hva hvb (k p e R s m args below meth c C H locs cells slots ls hw hz hc hs hl)
theorem v_if_eq {x : Int32} {off : Int} {tgt : Nat} (d : decode I.2.1 pc = .ok (.ifCond .eq off, 3)) (ht : (pc : Int) + off = (tgt : Int)) (kt : x = 0 → V E I mc ms Q tgt lo st f t bc bs) (kf : ¬ (x = 0) → V E I mc ms Q (pc + 3) lo st f t bc bs) : V E I mc ms Q pc lo (.int x :: st) f t bc bs := by
  intro p e R s m args below meth c C H locs cells slots ls hw hz hc hs hl
  exact lv_if_eq C.1 C.2.1 d ht (fun q => kt q p e R s m args below meth c C H locs cells slots ls hw hz hc hs hl) (fun q => kf q p e R s m args below meth c C H locs cells slots ls hw hz hc hs hl)
theorem v_icmp_eq {x y : Int32} {off : Int} {tgt : Nat} (d : decode I.2.1 pc = .ok (.if_icmp .eq off, 3)) (ht : (pc : Int) + off = (tgt : Int)) (kt : x = y → V E I mc ms Q tgt lo st f t bc bs) (kf : ¬ (x = y) → V E I mc ms Q (pc + 3) lo st f t bc bs) : V E I mc ms Q pc lo (.int y :: .int x :: st) f t bc bs := by
  intro p e R s m args below meth c C H locs cells slots ls hw hz hc hs hl
  exact lv_icmp_eq C.1 C.2.1 d ht (fun q => kt q p e R s m args below meth c C H locs cells slots ls hw hz hc hs hl) (fun q => kf q p e R s m args below meth c C H locs cells slots ls hw hz hc hs hl)
theorem v_if_ne {x : Int32} {off : Int} {tgt : Nat} (d : decode I.2.1 pc = .ok (.ifCond .ne off, 3)) (ht : (pc : Int) + off = (tgt : Int)) (kt : ¬ x = 0 → V E I mc ms Q tgt lo st f t bc bs) (kf : x = 0 → V E I mc ms Q (pc + 3) lo st f t bc bs) : V E I mc ms Q pc lo (.int x :: st) f t bc bs := by
  intro p e R s m args below meth c C H locs cells slots ls hw hz hc hs hl
  exact lv_if_ne C.1 C.2.1 d ht (fun q => kt q p e R s m args below meth c C H locs cells slots ls hw hz hc hs hl) (fun q => kf q p e R s m args below meth c C H locs cells slots ls hw hz hc hs hl)
theorem v_icmp_ne {x y : Int32} {off : Int} {tgt : Nat} (d : decode I.2.1 pc = .ok (.if_icmp .ne off, 3)) (ht : (pc : Int) + off = (tgt : Int)) (kt : ¬ x = y → V E I mc ms Q tgt lo st f t bc bs) (kf : x = y → V E I mc ms Q (pc + 3) lo st f t bc bs) : V E I mc ms Q pc lo (.int y :: .int x :: st) f t bc bs := by
  intro p e R s m args below meth c C H locs cells slots ls hw hz hc hs hl
  exact lv_icmp_ne C.1 C.2.1 d ht (fun q => kt q p e R s m args below meth c C H locs cells slots ls hw hz hc hs hl) (fun q => kf q p e R s m args below meth c C H locs cells slots ls hw hz hc hs hl)
theorem v_if_lt {x : Int32} {off : Int} {tgt : Nat} (d : decode I.2.1 pc = .ok (.ifCond .lt off, 3)) (ht : (pc : Int) + off = (tgt : Int)) (kt : x < 0 → V E I mc ms Q tgt lo st f t bc bs) (kf : ¬ (x < 0) → V E I mc ms Q (pc + 3) lo st f t bc bs) : V E I mc ms Q pc lo (.int x :: st) f t bc bs := by
  intro p e R s m args below meth c C H locs cells slots ls hw hz hc hs hl
  exact lv_if_lt C.1 C.2.1 d ht (fun q => kt q p e R s m args below meth c C H locs cells slots ls hw hz hc hs hl) (fun q => kf q p e R s m args below meth c C H locs cells slots ls hw hz hc hs hl)
theorem v_icmp_lt {x y : Int32} {off : Int} {tgt : Nat} (d : decode I.2.1 pc = .ok (.if_icmp .lt off, 3)) (ht : (pc : Int) + off = (tgt : Int)) (kt : x < y → V E I mc ms Q tgt lo st f t bc bs) (kf : ¬ (x < y) → V E I mc ms Q (pc + 3) lo st f t bc bs) : V E I mc ms Q pc lo (.int y :: .int x :: st) f t bc bs := by
  intro p e R s m args below meth c C H locs cells slots ls hw hz hc hs hl
  exact lv_icmp_lt C.1 C.2.1 d ht (fun q => kt q p e R s m args below meth c C H locs cells slots ls hw hz hc hs hl) (fun q => kf q p e R s m args below meth c C H locs cells slots ls hw hz hc hs hl)
theorem v_if_ge {x : Int32} {off : Int} {tgt : Nat} (d : decode I.2.1 pc = .ok (.ifCond .ge off, 3)) (ht : (pc : Int) + off = (tgt : Int)) (kt : 0 ≤ x → V E I mc ms Q tgt lo st f t bc bs) (kf : ¬ (0 ≤ x) → V E I mc ms Q (pc + 3) lo st f t bc bs) : V E I mc ms Q pc lo (.int x :: st) f t bc bs := by
  intro p e R s m args below meth c C H locs cells slots ls hw hz hc hs hl
  exact lv_if_ge C.1 C.2.1 d ht (fun q => kt q p e R s m args below meth c C H locs cells slots ls hw hz hc hs hl) (fun q => kf q p e R s m args below meth c C H locs cells slots ls hw hz hc hs hl)
theorem v_icmp_ge {x y : Int32} {off : Int} {tgt : Nat} (d : decode I.2.1 pc = .ok (.if_icmp .ge off, 3)) (ht : (pc : Int) + off = (tgt : Int)) (kt : y ≤ x → V E I mc ms Q tgt lo st f t bc bs) (kf : ¬ (y ≤ x) → V E I mc ms Q (pc + 3) lo st f t bc bs) : V E I mc ms Q pc lo (.int y :: .int x :: st) f t bc bs := by
  intro p e R s m args below meth c C H locs cells slots ls hw hz hc hs hl
  exact lv_icmp_ge C.1 C.2.1 d ht (fun q => kt q p e R s m args below meth c C H locs cells slots ls hw hz hc hs hl) (fun q => kf q p e R s m args below meth c C H locs cells slots ls hw hz hc hs hl)
theorem v_if_gt {x : Int32} {off : Int} {tgt : Nat} (d : decode I.2.1 pc = .ok (.ifCond .gt off, 3)) (ht : (pc : Int) + off = (tgt : Int)) (kt : 0 < x → V E I mc ms Q tgt lo st f t bc bs) (kf : ¬ (0 < x) → V E I mc ms Q (pc + 3) lo st f t bc bs) : V E I mc ms Q pc lo (.int x :: st) f t bc bs := by
  intro p e R s m args below meth c C H locs cells slots ls hw hz hc hs hl
  exact lv_if_gt C.1 C.2.1 d ht (fun q => kt q p e R s m args below meth c C H locs cells slots ls hw hz hc hs hl) (fun q => kf q p e R s m args below meth c C H locs cells slots ls hw hz hc hs hl)
theorem v_icmp_gt {x y : Int32} {off : Int} {tgt : Nat} (d : decode I.2.1 pc = .ok (.if_icmp .gt off, 3)) (ht : (pc : Int) + off = (tgt : Int)) (kt : y < x → V E I mc ms Q tgt lo st f t bc bs) (kf : ¬ (y < x) → V E I mc ms Q (pc + 3) lo st f t bc bs) : V E I mc ms Q pc lo (.int y :: .int x :: st) f t bc bs := by
  intro p e R s m args below meth c C H locs cells slots ls hw hz hc hs hl
  exact lv_icmp_gt C.1 C.2.1 d ht (fun q => kt q p e R s m args below meth c C H locs cells slots ls hw hz hc hs hl) (fun q => kf q p e R s m args below meth c C H locs cells slots ls hw hz hc hs hl)
theorem v_if_le {x : Int32} {off : Int} {tgt : Nat} (d : decode I.2.1 pc = .ok (.ifCond .le off, 3)) (ht : (pc : Int) + off = (tgt : Int)) (kt : x ≤ 0 → V E I mc ms Q tgt lo st f t bc bs) (kf : ¬ (x ≤ 0) → V E I mc ms Q (pc + 3) lo st f t bc bs) : V E I mc ms Q pc lo (.int x :: st) f t bc bs := by
  intro p e R s m args below meth c C H locs cells slots ls hw hz hc hs hl
  exact lv_if_le C.1 C.2.1 d ht (fun q => kt q p e R s m args below meth c C H locs cells slots ls hw hz hc hs hl) (fun q => kf q p e R s m args below meth c C H locs cells slots ls hw hz hc hs hl)
theorem v_icmp_le {x y : Int32} {off : Int} {tgt : Nat} (d : decode I.2.1 pc = .ok (.if_icmp .le off, 3)) (ht : (pc : Int) + off = (tgt : Int)) (kt : x ≤ y → V E I mc ms Q tgt lo st f t bc bs) (kf : ¬ (x ≤ y) → V E I mc ms Q (pc + 3) lo st f t bc bs) : V E I mc ms Q pc lo (.int y :: .int x :: st) f t bc bs := by
  intro p e R s m args below meth c C H locs cells slots ls hw hz hc hs hl
  exact lv_icmp_le C.1 C.2.1 d ht (fun q => kt q p e R s m args below meth c C H locs cells slots ls hw hz hc hs hl) (fun q => kf q p e R s m args below meth c C H locs cells slots ls hw hz hc hs hl)
theorem v_goto {off : Int} {tgt : Nat} (d : decode I.2.1 pc = .ok (.goto off, 3)) (ht : (pc : Int) + off = (tgt : Int)) (k : V E I mc ms Q tgt lo st f t bc bs) : V E I mc ms Q pc lo st f t bc bs := by
  intro p e R s m args below meth c C H locs cells slots ls hw hz hc hs hl
  exact lv_goto C.1 C.2.1 d ht (k p e R s m args below meth c C H locs cells slots ls hw hz hc hs hl)
theorem v_tableOut {x : Int32} {dflt lo1 hi : Int} {offs : Array Int} {len tgt : Nat} (d : decode I.2.1 pc = .ok (.tableswitch dflt lo1 hi offs, len)) (h : x.toInt < lo1 ∨ hi < x.toInt) (ht : (pc : Int) + dflt = (tgt : Int)) (k : V E I mc ms Q tgt lo st f t bc bs) : V E I mc ms Q pc lo (.int x :: st) f t bc bs := by
  intro p e R s m args below meth c C H locs cells slots ls hw hz hc hs hl
  exact lv_tableOut C.1 C.2.1 d h ht (k p e R s m args below meth c C H locs cells slots ls hw hz hc hs hl)
theorem v_tableIn {x : Int32} {dflt lo1 hi off : Int} {offs : Array Int} {len tgt : Nat} (d : decode I.2.1 pc = .ok (.tableswitch dflt lo1 hi offs, len)) (h1 : ¬ x.toInt < lo1) (h2 : ¬ hi < x.toInt) (ho : offs[(x.toInt - lo1).toNat]? = some off) (ht : (pc : Int) + off = (tgt : Int)) (k : V E I mc ms Q tgt lo st f t bc bs) : V E I mc ms Q pc lo (.int x :: st) f t bc bs := by
  intro p e R s m args below meth c C H locs cells slots ls hw hz hc hs hl
  exact lv_tableIn C.1 C.2.1 d h1 h2 ho ht (k p e R s m args below meth c C H locs cells slots ls hw hz hc hs hl)
theorem v_lookup {x : Int32} {dflt off : Int} {ps : Array (Int × Int)} {len tgt : Nat} (d : decode I.2.1 pc = .ok (.lookupswitch dflt ps, len)) (hp : (ps.toList.zip (ps.toList.drop 1)).all (fun (a, next) => a.1 < next.1) = true) (ho : Op.lookupswitch.offset ps.toList dflt x.toInt = off) (ht : (pc : Int) + off = (tgt : Int)) (k : V E I mc ms Q tgt lo st f t bc bs) : V E I mc ms Q pc lo (.int x :: st) f t bc bs := by
  intro p e R s m args below meth c C H locs cells slots ls hw hz hc hs hl
  exact lv_lookup C.1 C.2.1 d hp ho ht (k p e R s m args below meth c C H locs cells slots ls hw hz hc hs hl)
/-- another name for the number on top -/
theorem v_eqi {x y : Int32} (h : x = y) (k : V E I mc ms Q pc lo (.int y :: st) f t bc bs) : V E I mc ms Q pc lo (.int x :: st) f t bc bs := h ▸ k
theorem v_eql {x y : Int64} (h : x = y) (k : V E I mc ms Q pc lo (.long y :: st) f t bc bs) : V E I mc ms Q pc lo (.long x :: st) f t bc bs := h ▸ k
theorem v_lo {lo2 : List (Option Value)} (h : lo = lo2) (k : V E I mc ms Q pc lo2 st f t bc bs) : V E I mc ms Q pc lo st f t bc bs := h ▸ k
theorem v_hp {f2 : aH} (h : f = f2) (k : V E I mc ms Q pc lo st f2 t bc bs) : V E I mc ms Q pc lo st f t bc bs := h ▸ k
/-- fewer places known -/
theorem v_few {lo2 : List (Option Value)} (hlen : lo2.length = lo.length) (h : ∀ (k : Nat) (v : Value), lo2[k]? = some (some v) → lo[k]? = some (some v)) (k : V E I mc ms Q pc lo2 st f t bc bs) : V E I mc ms Q pc lo st f t bc bs := by
  intro p e R s m args below meth c C H locs cells slots ls hw hz hc hs hl
  exact k p e R s m args below meth c C H locs cells slots ls hw hz hc hs ⟨hl.1, hl.2.1, hlen.trans hl.2.2.1, fun j v hj => hl.2.2.2 j v (h j v hj)⟩
/-- less room wanted -/
theorem v_room {bc2 bs2 : Nat} (h1 : bc2 ≤ bc) (h2 : bs2 ≤ bs) (k : V E I mc ms Q pc lo st f t bc2 bs2) : V E I mc ms Q pc lo st f t bc bs := by
  intro p e R s m args below meth c C H locs cells slots ls hw hz hc hs hl
  exact k p e R s m args below meth c C H locs cells slots ls hw hz (by omega) (by omega) hl
/-- what is known of every heap of the run -/
theorem v_wf (k : (∀ a : Nat, f a ≠ uk → b0 E ≤ a ∧ a < t) → b0 E ≤ t → V E I mc ms Q pc lo st f t bc bs) : V E I mc ms Q pc lo st f t bc bs := by
  intro p e R s m args below meth c C H locs cells slots ls hw hz hc hs hl
  exact k (fun a ha => ⟨(w_one hw rfl ha).1, (w_one hw rfl ha).2.1⟩) hw.2.1 p e R s m args below meth c C H locs cells slots ls hw hz hc hs hl
theorem v_post {Q2 : aP} (h : ∀ o g u, Q2 o g u → Q o g u) (k : V E I mc ms Q2 pc lo st f t bc bs) : V E I mc ms Q pc lo st f t bc bs := by
  intro p e R s m args below meth c C H locs cells slots ls hw hz hc hs hl
  intro T hT X
  obtain ⟨t2, a1, o, b1, b2, b3⟩ := k p e R s m args below meth c C H locs cells slots ls hw hz hc hs hl T hT X
  refine ⟨t2, a1, o, b1, b2, ?_⟩
  rcases b3 with ⟨⟨v, g, u, h1, h2, h3⟩, h4⟩ | ⟨q, h1, n, ce, L, ⟨g, u, h2, h3⟩, h4⟩
  · exact Or.inl ⟨⟨v, g, u, h1, h _ _ _ h2, h3⟩, h4⟩
  · exact Or.inr ⟨q, h1, n, ce, L, ⟨g, u, h _ _ _ h2, h3⟩, h4⟩
theorem v_ret (d : decode I.2.1 pc = .ok (.return_, 1)) (hr : I.2.2.2.1 = none) (hq : Q (.inl none) f t) : V E I mc ms Q pc lo [] f t bc bs := by
  intro p e R s m args below meth c C H locs cells slots ls hw hz hc hs hl
  refine vx_ret (W.widen (k := mc) (n := ms) (by omega) (by omega) ?_)
  exact W.vret C.1 C.2.1 (C.2.2.2.2.2.2.1.trans hr) (fun u hu _ => ⟨none, f, t, rfl, hq, by rw [hu]; exact hw⟩) hz d C.2.2.2.2.2.1
theorem v_iret {v : Int32} {ty : FieldType} (d : decode I.2.1 pc = .ok (.ireturn, 1)) (hr : I.2.2.2.1 = some ty) (hn : narrow ty (.int v) = .int v) (hq : Q (.inl (some (.int v))) f t) : V E I mc ms Q pc lo [.int v] f t bc bs := by
  intro p e R s m args below meth c C H locs cells slots ls hw hz hc hs hl
  refine vx_ret (W.widen (k := mc) (n := ms) (by omega) (by omega) ?_)
  exact W.zret C.1 C.2.1 (C.2.2.2.2.2.2.1.trans hr) hn (fun u hu _ => ⟨_, f, t, rfl, hq, by rw [hu]; exact hw⟩) hz d C.2.2.2.2.2.1
theorem v_aret {v : Value} {ty : FieldType} (d : decode I.2.1 pc = .ok (.areturn, 1)) (hr : I.2.2.2.1 = some ty) (hrt : (∃ n, ty = .object n) ∨ ∃ u, ty = .array u) (hv : v = .null ∨ ∃ a, v = .ref a) (hq : Q (.inl (some v)) f t) : V E I mc ms Q pc lo [v] f t bc bs := by
  intro p e R s m args below meth c C H locs cells slots ls hw hz hc hs hl
  refine vx_ret (W.widen (k := mc) (n := ms) (by omega) (by omega) ?_)
  exact W.aret C.1 C.2.1 (C.2.2.2.2.2.2.1.trans hr) hrt hv (fun u hu _ => ⟨_, f, t, rfl, hq, by rw [hu]; exact hw⟩) hz d C.2.2.2.2.2.1
theorem v_lret {v : Int64} (d : decode I.2.1 pc = .ok (.lreturn, 1)) (hr : I.2.2.2.1 = some .long) (hq : Q (.inl (some (.long v))) f t) : V E I mc ms Q pc lo [.long v] f t bc bs := by
  intro p e R s m args below meth c C H locs cells slots ls hw hz hc hs hl
  refine vx_ret (W.widen (k := mc) (n := ms) (by omega) (by omega) ?_)
  exact W.lret C.1 C.2.1 (C.2.2.2.2.2.2.1.trans hr) (fun u hu _ => ⟨_, f, t, rfl, hq, by rw [hu]; exact hw⟩) hz d C.2.2.2.2.2.1
end RULES
