/-! what a table that was read keeps -/
theorem va_up_i {W : Nat → eV} {a : Nat} : va_up W a (W a) = W := by
  funext x
  by_cases e : x = a
  · rw [e, va_up_self]
  · exact va_up_ne _ _ e
theorem qOne_r {u : tS} {g : gV} {n k : Nat} {v : qV} {w : eV} : qOne u g n (if n = 0 then 8 else 9 + n) k v w = if (qLine u v).1 = true then qRcd u (qLine u v).2 g n k w else (false, (qLine u v).2, w) := rfl
theorem qRcd_ok {u : tS} {q : qV} {g : gV} {n k : Nat} {w : eV} (h : enOk w) : enOk (qRcd u q g n k w).2.2 := by
  unfold qRcd
  by_cases h1 : k = 60
  · rw [if_pos h1]
    exact h
  · rw [if_neg h1]
    by_cases h2 : qCm (qCut u q) = (if n = 0 then 8 else 9 + n)
    · rw [if_pos h2]
      unfold qFin
      by_cases h3 : (qE0 u (qCut u q) g n w).1 = true
      · rw [if_pos h3]
        exact qAll_ok _ _ _ (qE0_ok h).1
      · rw [if_neg h3]
        exact (qE0_ok h).1
    · rw [if_neg h2]
      exact h
theorem qRunL_I {u : tS} {g : gV} {n : Nat} {e : Nat → Nat} {Xs : Nat → Prop} (hu : u.1 ≤ 8000) (hgo : gOk g) (hX : ∀ k, k < 60 → Xs (e k)) (hinj : ∀ a b, a < 60 → b < 60 → e a = e b → a = b) : ∀ (d k : Nat) (v : qV) (W : Nat → eV), k + d = 61 → k ≤ 60 → (∀ j, qSt v j ≤ 8001) → (∀ x, Xs x → enOk (W x)) → (∀ l, l < k → eGo (W (e l)) n g ∧ eLv (W (e l))) → (∀ x, Xs x → enOk ((qRunL u g n (if n = 0 then 8 else 9 + n) e d k v W).2.2.1 x)) ∧ (qRunL u g n (if n = 0 then 8 else 9 + n) e d k v W).2.2.2 ≤ 60 ∧ (∀ x, (∀ l, l < 60 → x ≠ e l) → (qRunL u g n (if n = 0 then 8 else 9 + n) e d k v W).2.2.1 x = W x) ∧ ((qRunL u g n (if n = 0 then 8 else 9 + n) e d k v W).1 = true → ∀ l, l < (qRunL u g n (if n = 0 then 8 else 9 + n) e d k v W).2.2.2 → eGo ((qRunL u g n (if n = 0 then 8 else 9 + n) e d k v W).2.2.1 (e l)) n g ∧ eLv ((qRunL u g n (if n = 0 then 8 else 9 + n) e d k v W).2.2.1 (e l))) := by
  intro d
  induction d with
  | zero => intro k v W hd hk; exact absurd hd (by omega)
  | succ d ih =>
    intro k v W hd hk hS hW hG
    have hq : qRunL u g n (if n = 0 then 8 else 9 + n) e (d + 1) k v W = if u.1 ≤ qNx v then (true, v, W, k) else if (qOne u g n (if n = 0 then 8 else 9 + n) k v (W (e k))).1 = true then qRunL u g n (if n = 0 then 8 else 9 + n) e d (k + 1) (qOne u g n (if n = 0 then 8 else 9 + n) k v (W (e k))).2.1 (va_up W (e k) (qOne u g n (if n = 0 then 8 else 9 + n) k v (W (e k))).2.2) else (false, (qOne u g n (if n = 0 then 8 else 9 + n) k v (W (e k))).2.1, va_up W (e k) (qOne u g n (if n = 0 then 8 else 9 + n) k v (W (e k))).2.2, k) := rfl
    rw [hq]
    by_cases c : u.1 ≤ qNx v
    · rw [if_pos c]
      exact ⟨hW, hk, fun _ _ => rfl, fun _ => hG⟩
    · rw [if_neg c]
      by_cases cl : (qLine u v).1 = true
      · have h1 : (qOne u g n (if n = 0 then 8 else 9 + n) k v (W (e k))) = (qRcd u (qLine u v).2 g n k (W (e k))) := qOne_r.trans (if_pos cl)
        rw [h1]
        by_cases k60 : k = 60
        · have h2 : (qRcd u (qLine u v).2 g n k (W (e k))) = (false, qFail (qLine u v).2 6 (qBg (qLine u v).2), W (e k)) := if_pos k60
          rw [h2, if_neg (fun z => Bool.noConfusion z), va_up_i]
          exact ⟨hW, hk, fun _ _ => rfl, fun z => Bool.noConfusion z⟩
        · have hwk := hW _ (hX k (by omega))
          have hW' : ∀ x, Xs x → enOk (va_up W (e k) (qRcd u (qLine u v).2 g n k (W (e k))).2.2 x) := fun x hx => by
            by_cases ex : x = e k
            · rw [ex, va_up_self]
              exact qRcd_ok hwk
            · rw [va_up_ne _ _ ex]
              exact hW x hx
          by_cases cr : (qRcd u (qLine u v).2 g n k (W (e k))).1 = true
          · rw [if_pos cr]
            obtain ⟨l1, l2, l3, l4, l5⟩ := qLine_L hu cl
            have hC := (qCut_C hu l1 (fun j => by rw [l4]; exact hS j)).1
            have hv9 := qRcd_v cr
            have hg9 := qRcd_I hgo hC hwk cr
            obtain ⟨b1, b2, b3, b4⟩ := ih (k + 1) (qRcd u (qLine u v).2 g n k (W (e k))).2.1 (va_up W (e k) (qRcd u (qLine u v).2 g n k (W (e k))).2.2) (by omega) (by omega) (by rw [hv9]; exact hC) hW' (fun l hl => by
              by_cases el : l = k
              · rw [el, va_up_self]
                exact hg9.2
              · rw [va_up_ne _ _ (fun q => el (hinj l k (by omega) (by omega) q))]
                exact hG l (by omega))
            exact ⟨b1, b2, fun x hx => (b3 x hx).trans (va_up_ne _ _ (hx k (by omega))), b4⟩
          · rw [if_neg cr]
            exact ⟨hW', hk, fun x hx => va_up_ne _ _ (hx k (by omega)), fun z => Bool.noConfusion z⟩
      · have h1 : (qOne u g n (if n = 0 then 8 else 9 + n) k v (W (e k))) = (false, (qLine u v).2, W (e k)) := qOne_r.trans (if_neg cl)
        rw [h1, if_neg (fun z => Bool.noConfusion z), va_up_i]
        exact ⟨hW, hk, fun _ _ => rfl, fun z => Bool.noConfusion z⟩
theorem qRun_I {u : tS} {g : gV} {z : sV} {W : Nat → eV} {Xs : Nat → Prop} (hu : u.1 ≤ 8000) (hgo : gOk g) (hX : ∀ k, k < 60 → Xs (z.1 k)) (hinj : ∀ a b, a < 60 → b < 60 → z.1 a = z.1 b → a = b) (hW : ∀ x, Xs x → enOk (W x)) (hz3 : ∀ k, z.2.1.2.2 k ≤ 20) : (qRun u g z W).2.2.2.1 = z.1 ∧ nOk 3 (qRun u g z W).2.2.2.2.1 ∧ (qRun u g z W).2.2.2.2.2 ≤ 60 ∧ (∀ x, Xs x → enOk ((qRun u g z W).2.2.1 x)) ∧ (∀ x, (∀ l, l < 60 → x ≠ z.1 l) → (qRun u g z W).2.2.1 x = W x) ∧ ((qRun u g z W).1 = true → ∀ l, l < (qRun u g z W).2.2.2.2.2 → eGo ((qRun u g z W).2.2.1 (z.1 l)) (qRun u g z W).2.2.2.2.1.1 g ∧ eLv ((qRun u g z W).2.2.1 (z.1 l))) := by
  have hn0 : nOk 3 (0, z.2.1.2) := ⟨Nat.zero_le _, by decide, hz3⟩
  unfold qRun
  by_cases c : (qFst u qNew).1 = true
  · rw [if_pos c]
    have hfk := (qFst_k (u := u) (v := qNew) hu (Nat.zero_le _)).2
    have hS0 : ∀ j, qSt (qFst u qNew).2 j ≤ 8001 := fun j => by
      rw [hfk]
      exact Nat.zero_le _
    obtain ⟨t1, t2⟩ := qTop_n hu 8001 (qFst u qNew).2 (0, z.2.1.2) hn0 rfl hS0
    generalize qTop u 8001 (qFst u qNew).2 (0, z.2.1.2) = H at t1 t2
    unfold qRunH
    by_cases ch : H.1 = true
    · rw [if_pos ch]
      obtain ⟨t3, t4, t5⟩ := t2 ch
      have hcm : qCm H.2.1 = (if H.2.2.1 = 0 then 8 else 9 + H.2.2.1) := by
        obtain ⟨_, ⟨q1, q2⟩ | ⟨q1, q2, q3⟩⟩ := t3
        · rw [q2, if_pos q1]
        · rw [if_neg (by omega)]
          omega
      rw [hcm]
      obtain ⟨b1, b2, b3, b4⟩ := qRunL_I (n := H.2.2.1) hu hgo hX hinj 61 0 H.2.1 W (by omega) (by omega) t5 hW (fun l hl => absurd hl (Nat.not_lt_zero _))
      exact ⟨rfl, t1, b2, b1, b3, b4⟩
    · rw [if_neg ch]
      exact ⟨rfl, t1, Nat.zero_le _, hW, fun _ _ => rfl, fun z => Bool.noConfusion z⟩
  · rw [if_neg c]
    exact ⟨rfl, hn0, Nat.zero_le _, hW, fun _ _ => rfl, fun z => Bool.noConfusion z⟩
/-- what is read into the spare sheet -/
theorem rdR_I {D : Nat} {x : dV} (h : dOk D x) (hu : (dT x 0).1 ≤ 8000) : (rdR x).2.2.2.1 = (dZ x 2).1 ∧ nOk 3 (rdR x).2.2.2.2.1 ∧ (rdR x).2.2.2.2.2 ≤ 60 ∧ (∀ y, dX D y → enOk ((rdR x).2.2.1 y)) ∧ (∀ a k, a < 2 → k < 60 → (rdR x).2.2.1 ((dZ x a).1 k) = dW x ((dZ x a).1 k)) ∧ ((rdR x).1 = true → ∀ l, l < (rdR x).2.2.2.2.2 → eGo ((rdR x).2.2.1 ((dZ x 2).1 l)) (rdR x).2.2.2.2.1.1 (dG x 0) ∧ eLv ((rdR x).2.2.1 ((dZ x 2).1 l))) := by
  obtain ⟨h1, h2, h3, h4, h5, h6, h7⟩ := h
  obtain ⟨b1, b2, b3, b4, b5, b6⟩ := qRun_I (u := dT x 0) (g := dG x 0) (z := dZ x 2) (W := dW x) (Xs := dX D) hu (h2 0 (by omega)) (fun k hk => dXs_X (h5.1 2 k (by omega) hk)) (fun a b ha hb e => (h5.2 2 a 2 b (by omega) ha (by omega) hb e).2) h4 (h3 2 (by omega)).1.2.2
  exact ⟨b1, b2, b3, b4, fun a k ha hk => b5 _ (fun l hl e => by have := (h5.2 a k 2 l (by omega) hk (by omega) hl e).1; omega), b6⟩
theorem dOk_rea {D : Nat} {x : dV} {q : Int32} (h : dOk D x) (hu : (dT x 0).1 ≤ 8000) : dOk D (pRea x q).2 := by
  unfold pRea
  split
  · exact h
  · rename_i i hi
    have hi2 := (ix_r hi (by decide)).1
    obtain ⟨b1, b2, b3, b4, b5, b6⟩ := rdR_I h hu
    by_cases c : (rdR x).1 = true
    · rw [if_pos c]
      exact dOk_swp (x := x) (i := i) (z2 := (rdR x).2.2.2) (W := (rdR x).2.2.1) h hi2 ⟨b2, b3⟩ b4 b1 (fun k hk => by rw [b1]; exact (b6 c k hk).1) (fun a k ha _ hk => b5 a k ha hk)
    · rw [if_neg c]
      obtain ⟨h1, h2, h3, h4, h5, h6, h7⟩ := h
      have e2 : ∀ a, (va_up (dZ x) 2 (rdR x).2.2.2 a).1 = (dZ x a).1 := fun a => by
        by_cases e : a = 2
        · rw [e, va_up_self]
          exact b1
        · rw [va_up_ne _ _ e]
      refine ⟨h1, h2, fun a ha => ?_, b4, ⟨fun a k ha hk => ?_, fun a k b l ha hk hb hl e => ?_⟩, fun a k ha hk => ?_, h7⟩
      · show shOk (va_up (dZ x) 2 (rdR x).2.2.2 a)
        by_cases e : a = 2
        · rw [e, va_up_self]
          exact ⟨b2, b3⟩
        · rw [va_up_ne _ _ e]
          exact h3 a ha
      · show dXs D ((va_up (dZ x) 2 (rdR x).2.2.2 a).1 k)
        rw [e2]
        exact h5.1 a k ha hk
      · replace e : (va_up (dZ x) 2 (rdR x).2.2.2 a).1 k = (va_up (dZ x) 2 (rdR x).2.2.2 b).1 l := e
        rw [e2, e2] at e
        exact h5.2 a k b l ha hk hb hl e
      · replace hk : k < (va_up (dZ x) 2 (rdR x).2.2.2 a).2.2 := hk
        show eGo ((rdR x).2.2.1 ((va_up (dZ x) 2 (rdR x).2.2.2 a).1 k)) (va_up (dZ x) 2 (rdR x).2.2.2 a).2.1.1 (dG x 0)
        rw [va_up_ne _ _ (by omega)] at hk ⊢
        rw [b5 a k ha (by have := (h3 a (by omega)).2; omega)]
        exact h6 a k ha hk
