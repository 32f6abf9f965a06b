/-! apply: the relation behind it -/
theorem mTb_32 {y z : mV} {i : Nat} {s : sV} {W : Nat → eV} (h1 : ∀ k, k < 32 → z.1 k = y.1 k) (h : mTb y i s W) : mTb z i s W := by
  obtain ⟨t1, t2, t3, t4⟩ := h
  refine ⟨by rw [h1 16 (by omega)]; exact t1, by rw [h1 17 (by omega)]; exact t2, fun s hs => by rw [h1 19 (by omega), h1 18 (by omega)]; exact t3 s hs, fun k hk => ?_⟩
  have q := t4 k hk
  unfold mE at q ⊢
  rw [h1 20 (by omega), h1 21 (by omega), h1 22 (by omega), h1 23 (by omega), h1 24 (by omega), h1 25 (by omega), h1 26 (by omega), h1 27 (by omega), h1 28 (by omega), h1 29 (by omega), h1 30 (by omega), h1 31 (by omega)]
  exact q
theorem mRel_ap {x : dV} {y z : mV} {h' : hV} {u' : tS} (hR : mRel x y) (h1 : ∀ k, k < 32 → z.1 k = y.1 k) (h2 : ∀ j, 0 < j → j < 37 → z.2 j = y.2 j) (h3 : aNw z.1) (h4 : mOu z u') (h5 : mHp z h') : mRel (xT (xH x h') (va_up (dT x) 1 u')) z := by
  obtain ⟨a1, ⟨b1, b2, b3⟩, ⟨c1, c2, c3⟩, a4, a5, a6, a7, a8⟩ := hR
  refine ⟨h3, ⟨(h2 2 (by decide) (by decide)).trans b1, b2, fun k hk => ?_⟩, ⟨(h2 4 (by decide) (by decide)).trans c1, fun s hs => ?_, fun k hk => ?_⟩, fun i hi => mTb_32 h1 (a4 i hi), h4, h5, (h2 3 (by decide) (by decide)).trans a7, a8⟩
  · rw [h1 1 (by omega)]
    exact b3 k hk
  · rw [h1 3 (by omega), h1 2 (by omega), h1 5 (by omega), h1 6 (by omega), h1 7 (by omega), h1 8 (by omega)]
    exact c2 s hs
  · rw [h1 4 (by omega)]
    exact c3 k hk
/-- the class's clash: only the chosen ones have changed -/
theorem mRel_ac {x : dV} {y z : mV} {c : Nat → Nat} {m : Nat} (hR : mRel x y) (h1 : ∀ k, k < 35 → z.1 k = y.1 k) (h2 : ∀ j, 0 < j → j < 43 → z.2 j = y.2 j) (h3 : aNw z.1) : mRel (xH x (iCc (iCh (dH x) c) m)) z := by
  obtain ⟨a1, ⟨b1, b2, b3⟩, ⟨c1, c2, c3⟩, a4, ⟨d1, d2, d3⟩, ⟨e1, e2, e3, f1, f2, f3, f4, f5, f6, f7⟩, a7, a8⟩ := hR
  refine ⟨h3, ⟨(h2 2 (by decide) (by decide)).trans b1, b2, fun k hk => ?_⟩, ⟨(h2 4 (by decide) (by decide)).trans c1, fun s hs => ?_, fun k hk => ?_⟩, fun i hi => mTb_32 (fun k hk => h1 k (by omega)) (a4 i hi), ⟨(h2 37 (by decide) (by decide)).trans d1, d2, fun k hk => ?_⟩, ⟨e1, e2, e3, (h2 38 (by decide) (by decide)).trans f1, (h2 39 (by decide) (by decide)).trans f2, f3, (h2 40 (by decide) (by decide)).trans f4, f5, fun q => ?_, fun q => ?_⟩, (h2 3 (by decide) (by decide)).trans a7, a8⟩
  · rw [h1 1 (by omega)]
    exact b3 k hk
  · rw [h1 3 (by omega), h1 2 (by omega), h1 5 (by omega), h1 6 (by omega), h1 7 (by omega), h1 8 (by omega)]
    exact c2 s hs
  · rw [h1 4 (by omega)]
    exact c3 k hk
  · rw [h1 32 (by omega)]
    exact d3 k hk
  · rw [h1 33 (by omega)]
    exact f6 q
  · rw [h1 34 (by omega)]
    exact f7 q
