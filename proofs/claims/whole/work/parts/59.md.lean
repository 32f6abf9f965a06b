/-! the model: one object at M, its 39 arrays behind it; y.1 k: what the k-th holds, y.2 j: the number in field j -/
abbrev mV : Type := (Nat → Nat → Int32) × (Nat → Int32)
def mKn (k : Nat) : Nat := match k with
  | 1 => 2
  | 2 => 2
  | 3 => 0
  | 4 => 2
  | 5 => 0
  | 6 => 0
  | 7 => 0
  | 8 => 0
  | 9 => 2
  | 10 => 0
  | 11 => 2
  | 12 => 0
  | 13 => 0
  | 14 => 0
  | 15 => 0
  | 16 => 0
  | 17 => 0
  | 18 => 2
  | 19 => 0
  | 20 => 0
  | 21 => 0
  | 22 => 2
  | 23 => 0
  | 24 => 0
  | 25 => 2
  | 26 => 0
  | 27 => 0
  | 28 => 1
  | 29 => 0
  | 30 => 0
  | 31 => 1
  | 32 => 2
  | 33 => 0
  | 34 => 0
  | 35 => 0
  | 36 => 0
  | 37 => 0
  | 38 => 2
  | 39 => 0
  | _ => 0
def mSz (k : Nat) : Nat := match k with
  | 1 => 8000
  | 2 => 180
  | 3 => 9
  | 4 => 3001
  | 5 => 9
  | 6 => 9
  | 7 => 9
  | 8 => 9
  | 9 => 180
  | 10 => 9
  | 11 => 3001
  | 12 => 9
  | 13 => 9
  | 14 => 9
  | 15 => 9
  | 16 => 4
  | 17 => 4
  | 18 => 240
  | 19 => 12
  | 20 => 240
  | 21 => 240
  | 22 => 4800
  | 23 => 240
  | 24 => 240
  | 25 => 24960
  | 26 => 960
  | 27 => 240
  | 28 => 240
  | 29 => 1440
  | 30 => 720
  | 31 => 720
  | 32 => 8200
  | 33 => 3002
  | 34 => 8200
  | 35 => 4
  | 36 => 60
  | 37 => 60
  | 38 => 8200
  | 39 => 8200
  | _ => 0
abbrev mFs (M : Nat) (s : Nat → Int32) : List Value := [.int (s 0), .ref (M + 1), .int (s 2), .int (s 3), .int (s 4), .ref (M + 2), .ref (M + 3), .ref (M + 4), .ref (M + 5), .ref (M + 6), .ref (M + 7), .ref (M + 8), .int (s 12), .ref (M + 9), .ref (M + 10), .ref (M + 11), .ref (M + 12), .ref (M + 13), .ref (M + 14), .ref (M + 15), .ref (M + 16), .ref (M + 17), .ref (M + 18), .ref (M + 19), .ref (M + 20), .ref (M + 21), .ref (M + 22), .ref (M + 23), .ref (M + 24), .ref (M + 25), .ref (M + 26), .ref (M + 27), .ref (M + 28), .ref (M + 29), .ref (M + 30), .ref (M + 31), .ref (M + 32), .int (s 37), .int (s 38), .int (s 39), .int (s 40), .ref (M + 33), .ref (M + 34), .int (s 43), .int (s 44), .int (s 45), .ref (M + 35), .ref (M + 36), .ref (M + 37), .ref (M + 38), .ref (M + 39), .int (s 51), .int (s 52)]
def mdS (f : aH) (M : Nat) (y : mV) : aH := fun b => if b = M then .inr (10, mFs M y.2) else if M < b ∧ b ≤ M + 39 then .inl (mKn (b - M), mSz (b - M), .inl (y.1 (b - M))) else f b
theorem mdS_M {f : aH} {M : Nat} {y : mV} : mdS f M y M = .inr (10, mFs M y.2) := if_pos rfl
theorem mdS_A {f : aH} {M k : Nat} {y : mV} (h1 : 1 ≤ k) (h2 : k ≤ 39) : mdS f M y (M + k) = .inl (mKn k, mSz k, .inl (y.1 k)) := by
  unfold mdS
  rw [if_neg (by omega), if_pos ⟨by omega, by omega⟩, Nat.add_sub_cancel_left]
theorem mdS_ne {f : aH} {M b : Nat} {y : mV} (h : b < M ∨ M + 39 < b) : mdS f M y b = f b := by
  unfold mdS
  rw [if_neg (by omega), if_neg (by omega)]
theorem mdS_pm {f : aH} {M j : Nat} {y : mV} {x : Int32} (h : (mFs M y.2).set j (.int x) = mFs M (va_up y.2 j x)) : va_up (mdS f M y) M (.inr (10, (mFs M y.2).set j (.int x))) = mdS f M (y.1, va_up y.2 j x) := by
  rw [h]
  funext b
  by_cases e : b = M
  · rw [e, va_up_self, mdS_M]
  · rw [va_up_ne _ _ e]
    unfold mdS
    rw [if_neg e, if_neg e]
theorem mdS_am {f : aH} {M k : Nat} {y : mV} {g : Nat → Int32} (h1 : 1 ≤ k) (h2 : k ≤ 39) : va_up (mdS f M y) (M + k) (.inl (mKn k, mSz k, .inl g)) = mdS f M (va_up y.1 k g, y.2) := by
  funext b
  by_cases e : b = M + k
  · rw [e, va_up_self, mdS_A h1 h2]
    show _ = (.inl (mKn k, mSz k, .inl (va_up y.1 k g k)) : aC)
    rw [va_up_self]
  · rw [va_up_ne _ _ e]
    unfold mdS
    by_cases e1 : b = M
    · rw [if_pos e1, if_pos e1]
    · rw [if_neg e1, if_neg e1]
      by_cases e2 : M < b ∧ b ≤ M + 39
      · rw [if_pos e2, if_pos e2]
        show _ = (.inl (mKn (b - M), mSz (b - M), .inl (va_up y.1 k g (b - M))) : aC)
        rw [va_up_ne _ _ (by omega)]
      · rw [if_neg e2, if_neg e2]
theorem mdS_S {f : aH} {M : Nat} {y z : mV} : mdS (mdS f M y) M z = mdS f M z := by
  funext b
  by_cases e1 : b = M
  · subst e1; rw [mdS_M, mdS_M]
  · by_cases e2 : M < b ∧ b ≤ M + 39
    · have := mdS_A (f := mdS f M y) (M := M) (k := b - M) (y := z) (by omega) (by omega)
      have h2 := mdS_A (f := f) (M := M) (k := b - M) (y := z) (by omega) (by omega)
      rw [show M + (b - M) = b by omega] at this h2
      rw [this, h2]
    · rw [mdS_ne (by omega), mdS_ne (by omega), mdS_ne (by omega)]
section MD
variable {E : eN} {I : mR} {mc ms : Nat} {Q : aP} {pc : Nat} {lo : List (Option Value)} {st : List Value} {f : aH} {t bc bs : Nat} {M : Nat} {y : mV}
theorem m_put (hE : eOk E) {ix j : Nat} {n : Bool} {x : Int32} (d : decode I.2.1 pc = .ok (.putfield ix, 3)) (hL : fLb I.1.cls ix 10 j n = true) (hl : j < 53) (hfin : (match vwCl[10]? with | some q => (q.2.1 j).2.2.2 | none => true) = false) (hn : narrow (tyF 10 j) (.int x) = .int x) (hfit : fits (tyF 10 j) (.int x) = true) (hs : (mFs M y.2).set j (.int x) = mFs M (va_up y.2 j x)) (kk : V E I mc ms Q (pc + 3) lo st (mdS f M (y.1, va_up y.2 j x)) t bc bs) : V E I mc ms Q pc lo (.int x :: .ref M :: st) (mdS f M y) t bc bs := by
  refine v_putf hE d hL mdS_M hl hfin hn hfit ?_
  rw [mdS_pm hs]
  exact kk

theorem m_iald (hE : eOk E) {k i : Nat} (d : decode I.2.1 pc = .ok (.iaload, 1)) (h1 : 1 ≤ k) (h2 : k ≤ 39) (hK : mKn k = 0) (hi : i < mSz k) (hn : i < 2 ^ 31) (kk : V E I mc ms Q (pc + 1) lo (.int (y.1 k i) :: st) (mdS f M y) t bc bs) : V E I mc ms Q pc lo (.int (nI i) :: .ref (M + k) :: st) (mdS f M y) t bc bs :=
  v_iald hE d (by rw [mdS_A h1 h2, hK]) hi hn kk
theorem m_iast (hE : eOk E) {k i : Nat} {x : Int32} (d : decode I.2.1 pc = .ok (.iastore, 1)) (h1 : 1 ≤ k) (h2 : k ≤ 39) (hK : mKn k = 0) (hi : i < mSz k) (hn : i < 2 ^ 31) (kk : V E I mc ms Q (pc + 1) lo st (mdS f M (va_up y.1 k (upd (y.1 k) i x), y.2)) t bc bs) : V E I mc ms Q pc lo (.int x :: .int (nI i) :: .ref (M + k) :: st) (mdS f M y) t bc bs := by
  refine v_iast hE d (show mdS f M y (M + k) = .inl (0, mSz k, .inl (y.1 k)) by rw [mdS_A h1 h2, hK]) hi hn ?_
  have e := mdS_am (f := f) (M := M) (y := y) (g := upd (y.1 k) i x) h1 h2
  rw [hK] at e
  exact v_hp e kk
theorem m_zald (hE : eOk E) {k i : Nat} (d : decode I.2.1 pc = .ok (.baload, 1)) (h1 : 1 ≤ k) (h2 : k ≤ 39) (hK : mKn k = 1) (hi : i < mSz k) (hn : i < 2 ^ 31) (kk : V E I mc ms Q (pc + 1) lo (.int (y.1 k i) :: st) (mdS f M y) t bc bs) : V E I mc ms Q pc lo (.int (nI i) :: .ref (M + k) :: st) (mdS f M y) t bc bs :=
  v_zald hE d (by rw [mdS_A h1 h2, hK]) hi hn kk
theorem m_zast (hE : eOk E) {k i : Nat} {x : Int32} (d : decode I.2.1 pc = .ok (.bastore, 1)) (h1 : 1 ≤ k) (h2 : k ≤ 39) (hK : mKn k = 1) (hi : i < mSz k) (hn : i < 2 ^ 31) (kk : V E I mc ms Q (pc + 1) lo st (mdS f M (va_up y.1 k (upd (y.1 k) i (vp_nar .boolean x)), y.2)) t bc bs) : V E I mc ms Q pc lo (.int x :: .int (nI i) :: .ref (M + k) :: st) (mdS f M y) t bc bs := by
  refine v_zast hE d (show mdS f M y (M + k) = .inl (1, mSz k, .inl (y.1 k)) by rw [mdS_A h1 h2, hK]) hi hn ?_
  have e := mdS_am (f := f) (M := M) (y := y) (g := upd (y.1 k) i (vp_nar .boolean x)) h1 h2
  rw [hK] at e
  exact v_hp e kk
theorem m_bald (hE : eOk E) {k i : Nat} (d : decode I.2.1 pc = .ok (.baload, 1)) (h1 : 1 ≤ k) (h2 : k ≤ 39) (hK : mKn k = 2) (hi : i < mSz k) (hn : i < 2 ^ 31) (kk : V E I mc ms Q (pc + 1) lo (.int (y.1 k i) :: st) (mdS f M y) t bc bs) : V E I mc ms Q pc lo (.int (nI i) :: .ref (M + k) :: st) (mdS f M y) t bc bs :=
  v_bald hE d (by rw [mdS_A h1 h2, hK]) hi hn kk
theorem m_bast (hE : eOk E) {k i : Nat} {x : Int32} (d : decode I.2.1 pc = .ok (.bastore, 1)) (h1 : 1 ≤ k) (h2 : k ≤ 39) (hK : mKn k = 2) (hi : i < mSz k) (hn : i < 2 ^ 31) (kk : V E I mc ms Q (pc + 1) lo st (mdS f M (va_up y.1 k (upd (y.1 k) i (vp_nar .byte x)), y.2)) t bc bs) : V E I mc ms Q pc lo (.int x :: .int (nI i) :: .ref (M + k) :: st) (mdS f M y) t bc bs := by
  refine v_bast hE d (show mdS f M y (M + k) = .inl (2, mSz k, .inl (y.1 k)) by rw [mdS_A h1 h2, hK]) hi hn ?_
  have e := mdS_am (f := f) (M := M) (y := y) (g := upd (y.1 k) i (vp_nar .byte x)) h1 h2
  rw [hK] at e
  exact v_hp e kk
theorem v_ldcw (hE : eOk E) {ix : Nat} {v : Int32} (d : decode I.2.1 pc = .ok (.ldc_w ix, 3)) (hL : Cond.constant I.1.cls ix v ∈ lw_tbl) (k : V E I mc ms Q (pc + 3) lo (.int v :: st) f t bc bs) : V E I mc ms Q pc lo st f t bc bs := by
  intro p e R s m args below meth c C H locs cells slots ls hw hz hc hs hl
  exact lv_ldcw C.1 C.2.1 C.2.2.2.1 (e_w hE C.2.2.2.2.1 hL rfl args) d (k p e R s m args below meth c C H locs cells slots ls hw hz hc hs hl)
end MD