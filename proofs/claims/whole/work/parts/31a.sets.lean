/-! a set of records: X their addresses, W what each is -/
def esB (X : Nat → Prop) (b : Nat) : Prop := ∃ x, X x ∧ x ≤ b ∧ b ≤ x + 6
def apA (X : Nat → Prop) : Prop := ∀ x y, X x → X y → x ≠ y → x + 6 < y ∨ y + 6 < x
noncomputable def esS (f : aH) (X : Nat → Prop) (W : Nat → eV) : aH := fun b => @dite _ (esB X b) (Classical.propDecidable _) (fun h => enS f h.choose (W h.choose) b) (fun _ => f b)
def esP (f : aH) (X : Nat → Prop) (W : Nat → eV) : Prop := ∀ x, X x → enP f x (W x)
theorem enS_in {f f' : aH} {a b : Nat} {v : eV} (h1 : a ≤ b) (h2 : b ≤ a + 6) : enS f a v b = enS f' a v b := by
  obtain ⟨p0, p1, p2, p3, p4, p5, p6⟩ := enP_S f a v
  obtain ⟨q0, q1, q2, q3, q4, q5, q6⟩ := enP_S f' a v
  have h : b = a ∨ b = a + 1 ∨ b = a + 2 ∨ b = a + 3 ∨ b = a + 4 ∨ b = a + 5 ∨ b = a + 6 := by omega
  rcases h with h | h | h | h | h | h | h
  · rw [h, p0, q0]
  · rw [h, p1, q1]
  · rw [h, p2, q2]
  · rw [h, p3, q3]
  · rw [h, p4, q4]
  · rw [h, p5, q5]
  · rw [h, p6, q6]
theorem esS_in {f : aH} {X : Nat → Prop} {W : Nat → eV} {x b : Nat} (hA : apA X) (hx : X x) (h1 : x ≤ b) (h2 : b ≤ x + 6) : esS f X W b = enS f x (W x) b := by
  have hB : esB X b := ⟨x, hx, h1, h2⟩
  have hc := hB.choose_spec
  have he : hB.choose = x := Classical.byContradiction fun q => by
    have := hA _ _ hc.1 hx q
    omega
  unfold esS
  rw [dif_pos hB, he]
theorem esS_no {f : aH} {X : Nat → Prop} {W : Nat → eV} {b : Nat} (h : ¬ esB X b) : esS f X W b = f b := by
  unfold esS
  rw [dif_neg h]
theorem esS_ne {f : aH} {X : Nat → Prop} {W : Nat → eV} {b : Nat} (h : ∀ x, X x → b < x ∨ x + 6 < b) : esS f X W b = f b := esS_no fun ⟨x, hx, h1, h2⟩ => by
  have := h x hx
  omega
theorem esP_S {f : aH} {X : Nat → Prop} {W : Nat → eV} (hA : apA X) : esP (esS f X W) X W := fun x hx => by
  obtain ⟨p0, p1, p2, p3, p4, p5, p6⟩ := enP_S f x (W x)
  exact ⟨(esS_in hA hx (by omega) (by omega)).trans p0, (esS_in hA hx (by omega) (by omega)).trans p1, (esS_in hA hx (by omega) (by omega)).trans p2, (esS_in hA hx (by omega) (by omega)).trans p3, (esS_in hA hx (by omega) (by omega)).trans p4, (esS_in hA hx (by omega) (by omega)).trans p5, (esS_in hA hx (by omega) (by omega)).trans p6⟩
theorem esS_ext {f f' : aH} {X : Nat → Prop} {W : Nat → eV} (hA : apA X) (hP : esP f' X W) (h : ∀ b, ¬ esB X b → f' b = f b) : f' = esS f X W := by
  funext b
  by_cases hB : esB X b
  · obtain ⟨x, hx, h1, h2⟩ := hB
    rw [esS_in hA hx h1 h2, enS_in (f' := f') h1 h2, enS_id (hP x hx)]
  · rw [h b hB, esS_no hB]
theorem esS_id {f : aH} {X : Nat → Prop} {W : Nat → eV} (hA : apA X) (hP : esP f X W) : esS f X W = f := (esS_ext hA hP (fun _ _ => rfl)).symm
theorem esS_S {f : aH} {X : Nat → Prop} {W U : Nat → eV} (hA : apA X) : esS (esS f X W) X U = esS f X U := esS_ext hA (esP_S hA) (fun b hb => by rw [esS_no hb, esS_no hb])
theorem esS_up {f : aH} {X : Nat → Prop} {W : Nat → eV} {x : Nat} {v : eV} (hA : apA X) (hx : X x) : enS (esS f X W) x v = esS f X (va_up W x v) := by
  refine esS_ext hA (fun y hy => ?_) (fun b hb => ?_)
  · by_cases e : y = x
    · subst e
      rw [va_up_self]
      exact enP_S _ _ _
    · rw [va_up_ne _ _ e]
      exact en_enS (esP_S hA y hy) (by have := hA y x hy hx e; omega)
  · rw [enS_ne, esS_no hb]
    by_cases q : b < x ∨ x + 6 < b
    · exact q
    · exact absurd ⟨x, hx, by omega, by omega⟩ hb
theorem esW_id {W : Nat → eV} {x : Nat} : va_up W x (W x) = W := by
  funext y
  by_cases e : y = x
  · subst e; rw [va_up_self]
  · rw [va_up_ne _ _ e]
theorem va_up_up {α : Type} {W : Nat → α} {x : Nat} {v w : α} : va_up (va_up W x v) x w = va_up W x w := by
  funext y
  by_cases e : y = x
  · subst e; rw [va_up_self, va_up_self]
  · rw [va_up_ne _ _ e, va_up_ne _ _ e, va_up_ne _ _ e]
/-! Sheet: the addresses of its records, the names, how many -/
abbrev eA (e : Nat → Nat) : aC := .inl (4, 60, .inr (.inr (.inr (.inr (fun k => if k < 60 then some (e k) else none)))))
abbrev sV : Type := (Nat → Nat) × nV × Nat

def shP (f : aH) (a : Nat) (v : sV) : Prop := f a = .inr (7, [.ref (a + 1), .ref (a + 2), .int (nI v.2.2)]) ∧ f (a + 1) = eA v.1 ∧ f (a + 2) = .inr (5, [.int (nI 3), .ref (a + 2 + 1), .ref (a + 2 + 2), .int (nI v.2.1.1)]) ∧ f (a + 3) = .inl (0, 3 * 20, .inl v.2.1.2.1) ∧ f (a + 4) = .inl (0, 3, .inl (fun k => nI (v.2.1.2.2 k)))
def shS (f : aH) (a : Nat) (v : sV) : aH := (va_up (va_up (va_up (va_up (va_up f (a + 4) (.inl (0, 3, .inl (fun k => nI (v.2.1.2.2 k))))) (a + 3) (.inl (0, 3 * 20, .inl v.2.1.2.1))) (a + 2) (.inr (5, [.int (nI 3), .ref (a + 2 + 1), .ref (a + 2 + 2), .int (nI v.2.1.1)]))) (a + 1) (eA v.1)) a (.inr (7, [.ref (a + 1), .ref (a + 2), .int (nI v.2.2)])))
theorem shP_S (f : aH) (a : Nat) (v : sV) : shP (shS f a v) a v := ⟨va_up_self _ _ _, (va_up_ne _ _ (by omega)).trans (va_up_self _ _ _), (va_up_ne _ _ (by omega)).trans ((va_up_ne _ _ (by omega)).trans (va_up_self _ _ _)), (va_up_ne _ _ (by omega)).trans ((va_up_ne _ _ (by omega)).trans ((va_up_ne _ _ (by omega)).trans (va_up_self _ _ _))), (va_up_ne _ _ (by omega)).trans ((va_up_ne _ _ (by omega)).trans ((va_up_ne _ _ (by omega)).trans ((va_up_ne _ _ (by omega)).trans (va_up_self _ _ _))))⟩
theorem shS_ne {f : aH} {a b : Nat} {v : sV} (h : b < a ∨ a + 4 < b) : shS f a v b = f b := by
  unfold shS
  simp only [va_up]
  repeat rw [if_neg (by omega)]
theorem shS_ext {f f' : aH} {a : Nat} {v : sV} (h0 : f' a = .inr (7, [.ref (a + 1), .ref (a + 2), .int (nI v.2.2)])) (h1 : f' (a + 1) = eA v.1) (h2 : f' (a + 2) = .inr (5, [.int (nI 3), .ref (a + 2 + 1), .ref (a + 2 + 2), .int (nI v.2.1.1)])) (h3 : f' (a + 3) = .inl (0, 3 * 20, .inl v.2.1.2.1)) (h4 : f' (a + 4) = .inl (0, 3, .inl (fun k => nI (v.2.1.2.2 k)))) (hne : ∀ b, b < a ∨ a + 4 < b → f' b = f b) : f' = shS f a v := by
  funext b
  by_cases e0 : b = a
  · rw [e0, h0]; exact ((shP_S f a v).1).symm
  by_cases e1 : b = (a + 1)
  · rw [e1, h1]; exact ((shP_S f a v).2.1).symm
  by_cases e2 : b = (a + 2)
  · rw [e2, h2]; exact ((shP_S f a v).2.2.1).symm
  by_cases e3 : b = (a + 3)
  · rw [e3, h3]; exact ((shP_S f a v).2.2.2.1).symm
  by_cases e4 : b = (a + 4)
  · rw [e4, h4]; exact ((shP_S f a v).2.2.2.2).symm
  rw [hne b (by omega), shS_ne (by omega)]
theorem shS_S {f : aH} {a : Nat} {v w : sV} : shS (shS f a v) a w = shS f a w := shS_ext (shP_S _ _ _).1 (shP_S _ _ _).2.1 (shP_S _ _ _).2.2.1 (shP_S _ _ _).2.2.2.1 (shP_S _ _ _).2.2.2.2 (fun b hb => by rw [shS_ne hb, shS_ne hb])
theorem shS_id {f : aH} {a : Nat} {v : sV} (h : shP f a v) : shS f a v = f := (shS_ext h.1 h.2.1 h.2.2.1 h.2.2.2.1 h.2.2.2.2 (fun _ _ => rfl)).symm

theorem sh_nm {f : aH} {a : Nat} {v : sV} (h : shP f a v) : nmP 3 f (a + 2) v.2.1 := ⟨h.2.2.1, h.2.2.2.1, h.2.2.2.2⟩
theorem sh_set {f : aH} {a : Nat} {v : sV} {w : nV} (h : shP f a v) : nmS 3 f (a + 2) w = shS f a (v.1, w, v.2.2) := by
  obtain ⟨h0, h1, h2, h3, h4⟩ := h
  exact shS_ext ((nmS_ne (by omega)).trans h0) ((nmS_ne (by omega)).trans h1) (nmP_S 3 f (a + 2) w).1 (nmP_S 3 f (a + 2) w).2.1 (nmP_S 3 f (a + 2) w).2.2 (fun b hb => nmS_ne (by omega))
theorem va_some {e : Nat → Nat} {i x : Nat} (h : i < 60) : va_up (fun k => if k < 60 then some (e k) else none) i (some x) = fun k => if k < 60 then some (va_up e i x k) else none := by
  funext k
  by_cases q : k = i
  · subst q; rw [va_up_self, va_up_self, if_pos h]
  · rw [va_up_ne _ _ q, va_up_ne _ _ q]
section AAC
variable {E : eN} {I : mR} {mc ms : Nat} {Q : aP} {pc : Nat} {lo : List (Option Value)} {st : List Value} {f : aH} {t bc bs : Nat}
theorem v_aaldC (hE : eOk E) {a i : Nat} {e : Nat → Nat} (d : decode I.2.1 pc = .ok (.aaload, 1)) (hf : f a = eA e) (hi : i < 60) (kk : V E I mc ms Q (pc + 1) lo (.ref (e i) :: st) f t bc bs) : V E I mc ms Q pc lo (.int (nI i) :: .ref a :: st) f t bc bs := by
  refine v_aaldE hE d hf hi (by omega) ?_
  rw [if_pos hi]
  exact kk
theorem v_aastC (hE : eOk E) {a v i : Nat} {e : Nat → Nat} {vs : List Value} (d : decode I.2.1 pc = .ok (.aastore, 1)) (hf : f a = eA e) (hv : f v = .inr (0, vs)) (hi : i < 60) (kk : V E I mc ms Q (pc + 1) lo st (va_up f a (eA (va_up e i v))) t bc bs) : V E I mc ms Q pc lo (.ref v :: .int (nI i) :: .ref a :: st) f t bc bs := by
  refine v_aastE hE d hf hv hi (by omega) ?_
  rw [va_some hi]
  exact kk
end AAC
def shOk (v : sV) : Prop := nOk 3 v.2.1 ∧ v.2.2 ≤ 60
/-- a sheet at a and the records X beside it -/
def seA (X : Nat → Prop) (a : Nat) : Prop := apA X ∧ ∀ x, X x → x + 6 < a ∨ a + 4 < x
def seP (f : aH) (X : Nat → Prop) (W : Nat → eV) (a : Nat) (v : sV) : Prop := shP f a v ∧ esP f X W
noncomputable def seS (f : aH) (X : Nat → Prop) (W : Nat → eV) (a : Nat) (v : sV) : aH := shS (esS f X W) a v
theorem en_shS {f : aH} {a x : Nat} {v : sV} {w : eV} (h : enP f x w) (hd : x + 6 < a ∨ a + 4 < x) : enP (shS f a v) x w := by
  obtain ⟨p0, p1, p2, p3, p4, p5, p6⟩ := h
  exact ⟨(shS_ne (by omega)).trans p0, (shS_ne (by omega)).trans p1, (shS_ne (by omega)).trans p2, (shS_ne (by omega)).trans p3, (shS_ne (by omega)).trans p4, (shS_ne (by omega)).trans p5, (shS_ne (by omega)).trans p6⟩
theorem sh_enS {f : aH} {a x : Nat} {v : sV} {w : eV} (h : shP f a v) (hd : x + 6 < a ∨ a + 4 < x) : shP (enS f x w) a v := by
  obtain ⟨p0, p1, p2, p3, p4⟩ := h
  exact ⟨(enS_ne (by omega)).trans p0, (enS_ne (by omega)).trans p1, (enS_ne (by omega)).trans p2, (enS_ne (by omega)).trans p3, (enS_ne (by omega)).trans p4⟩
theorem sh_esS {f : aH} {X : Nat → Prop} {W : Nat → eV} {a : Nat} {v : sV} (h : shP f a v) (hd : ∀ x, X x → x + 6 < a ∨ a + 4 < x) : shP (esS f X W) a v := by
  obtain ⟨p0, p1, p2, p3, p4⟩ := h
  have q : ∀ b, a ≤ b → b ≤ a + 4 → esS f X W b = f b := fun b h1 h2 => esS_ne (fun x hx => by have := hd x hx; omega)
  exact ⟨(q _ (by omega) (by omega)).trans p0, (q _ (by omega) (by omega)).trans p1, (q _ (by omega) (by omega)).trans p2, (q _ (by omega) (by omega)).trans p3, (q _ (by omega) (by omega)).trans p4⟩
theorem sh_shS {f : aH} {a b : Nat} {v w : sV} (h : shP f b w) (hd : b + 4 < a ∨ a + 4 < b) : shP (shS f a v) b w := by
  obtain ⟨p0, p1, p2, p3, p4⟩ := h
  exact ⟨(shS_ne (by omega)).trans p0, (shS_ne (by omega)).trans p1, (shS_ne (by omega)).trans p2, (shS_ne (by omega)).trans p3, (shS_ne (by omega)).trans p4⟩
theorem seP_S {f : aH} {X : Nat → Prop} {W : Nat → eV} {a : Nat} {v : sV} (hA : seA X a) : seP (seS f X W a v) X W a v := ⟨shP_S _ _ _, fun x hx => en_shS (esP_S hA.1 x hx) (hA.2 x hx)⟩
theorem seS_ext {f f' : aH} {X : Nat → Prop} {W : Nat → eV} {a : Nat} {v : sV} (hA : seA X a) (hP : seP f' X W a v) (h : ∀ b, ¬ esB X b → b < a ∨ a + 4 < b → f' b = f b) : f' = seS f X W a v := by
  obtain ⟨⟨p0, p1, p2, p3, p4⟩, hW⟩ := hP
  refine shS_ext p0 p1 p2 p3 p4 (fun b hb => ?_)
  by_cases hB : esB X b
  · obtain ⟨x, hx, h1, h2⟩ := hB
    rw [esS_in hA.1 hx h1 h2, enS_in (f' := f') h1 h2, enS_id (hW x hx)]
  · rw [esS_no hB, h b hB hb]
theorem seS_ne {f : aH} {X : Nat → Prop} {W : Nat → eV} {a b : Nat} {v : sV} (h1 : ¬ esB X b) (h2 : b < a ∨ a + 4 < b) : seS f X W a v b = f b := (shS_ne h2).trans (esS_no h1)
theorem seS_id {f : aH} {X : Nat → Prop} {W : Nat → eV} {a : Nat} {v : sV} (hA : seA X a) (hP : seP f X W a v) : seS f X W a v = f := (seS_ext hA hP (fun _ _ _ => rfl)).symm
theorem seS_S {f : aH} {X : Nat → Prop} {W U : Nat → eV} {a : Nat} {v w : sV} (hA : seA X a) : seS (seS f X W a v) X U a w = seS f X U a w := seS_ext hA (seP_S hA) (fun b h1 h2 => by rw [seS_ne h1 h2, seS_ne h1 h2])
theorem seS_up {f : aH} {X : Nat → Prop} {W : Nat → eV} {a x : Nat} {v : sV} {w : eV} (hA : seA X a) (hx : X x) : enS (seS f X W a v) x w = seS f X (va_up W x w) a v := by
  refine seS_ext hA ⟨sh_enS (seP_S hA).1 (hA.2 x hx), fun y hy => ?_⟩ (fun b h1 h2 => ?_)
  · by_cases e : y = x
    · subst e
      rw [va_up_self]
      exact enP_S _ _ _
    · rw [va_up_ne _ _ e]
      exact en_enS ((seP_S hA).2 y hy) (by have := hA.1 y x hy hx e; omega)
  · rw [enS_ne, seS_ne h1 h2]
    by_cases q : b < x ∨ x + 6 < b
    · exact q
    · exact absurd ⟨x, hx, by omega, by omega⟩ h1
theorem seS_sh {f : aH} {X : Nat → Prop} {W : Nat → eV} {a : Nat} {v w : sV} : shS (seS f X W a v) a w = seS f X W a w := shS_S
