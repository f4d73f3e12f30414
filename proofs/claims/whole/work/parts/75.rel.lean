theorem XC_cong {g : Nat → Int32} {U : Nat → Option Int32} {a b : ST} (h : XC g U a) (h2 : b.2.1 2 = a.2.1 2) (h5 : b.2.1 5 = a.2.1 5) (h6 : b.2.1 6 = a.2.1 6) (h7 : b.2.1 7 = a.2.1 7) (h8 : b.2.1 8 = a.2.1 8) (h9 : b.2.1 9 = a.2.1 9) : XC g U b := by
  unfold XC XI
  rw [h2, h5, h6, h7, h8, h9]
  exact h
theorem XC_new {g : Nat → Int32} {U : Nat → Option Int32} {a : ST} (h2 : a.2.1 2 = g) (h5 : ∀ c, c < 36 → a.2.1 5 c = -1) (h9 : ∀ x, x < 36 → a.2.1 9 x = 0) : XC g U a := by
  refine ⟨⟨h2, fun c hc e => ?_⟩, fun c hc _ e => absurd (h5 c hc) e, h9⟩
  rw [h5 c hc] at e; exact absurd e (by decide)
/-- a changed sheet behind a remembered one -/
theorem Rel_new {xs ms xs' ms' : ST} {L nx sz : Nat} (h : Rel xs ms L nx sz) (hR : RX (ms'.2.1 0) (xs'.2.1 2)) (x0 : xs'.2.1 0 = xs.2.1 0) (m4 : ms'.2.1 4 = ms.2.1 4) (x3 : xs'.1 3 = xs.1 3) (m1 : ms'.1 1 = ms.1 1)
    (xb : xs'.1 0 = xs.1 0) (xn : xs'.1 1 = xs.1 1) (xf : xs'.1 2 = xs.1 2) (mr : ms'.2.1 3 = ms.2.1 3) (x5 : xs'.1 5 = nI ((nx + 1) % 6)) (x6 : xs'.1 6 = nI (min (sz + 1) 6)) (m0 : ms'.1 0 = nI (mRemN sz + 1))
    (xst : xs'.2.1 4 = (xLeave xs nx sz).2.1 4) (mpa : ms'.2.1 2 = (mLR ms sz).2.1 2) (xfa : ∀ c, c < 36 → xs'.2.1 5 c = -1) (xas : xs'.2.1 9 = xs.2.1 9) : Rel xs' ms' L ((nx + 1) % 6) (min (sz + 1) 6) := by
  obtain ⟨a1, ⟨U, a2, a3⟩, ⟨b1, b2, b3, b4, b5⟩, ⟨c1, c2, c3⟩, ⟨d1, d2, d3, d4, d5⟩, e1⟩ := h
  obtain ⟨V', hV'⟩ := VS_ex (xs'.2.1 2)
  have hm : mRemN sz + 1 = min (sz + 1) 6 := by
    unfold mRemN
    by_cases e : sz = 6
    · rw [if_pos e, e]; rfl
    · rw [if_neg e]; omega
  refine ⟨hR, ⟨V', hV', XC_new rfl xfa (fun x hx => by rw [xas]; exact a3.2.2 x hx)⟩, ⟨by rw [x0, m4]; exact b1, by rw [x0]; exact b2, by rw [x3]; exact b3, by rw [m1]; exact b4, b5⟩, ⟨by rw [xb, mr]; exact c1, by rw [xn, mr]; exact c2, by rw [xf, mr]; exact c3⟩, ⟨x5, Nat.mod_lt _ (by decide), x6, by rw [m0, hm], by omega⟩, ?_⟩
  rw [xst, mpa]
  exact RG_leave d2 d5 a1 e1
/-- what no answer rests on may change -/
theorem Rel_keep {xs ms xs' ms' : ST} {L nx sz : Nat} (h : Rel xs ms L nx sz) (hX : ∀ U, VS (xs.2.1 2) U → XC (xs.2.1 2) U xs → XC (xs.2.1 2) U xs') (x2 : xs'.2.1 2 = xs.2.1 2) (x0 : xs'.2.1 0 = xs.2.1 0) (x4 : xs'.2.1 4 = xs.2.1 4) (m0a : ms'.2.1 0 = ms.2.1 0) (m2 : ms'.2.1 2 = ms.2.1 2) (m3 : ms'.2.1 3 = ms.2.1 3) (m4 : ms'.2.1 4 = ms.2.1 4)
    (xi : ∀ j, j < 7 → ¬ j = 4 → xs'.1 j = xs.1 j) (mi : ∀ j, j < 2 → ms'.1 j = ms.1 j) : Rel xs' ms' L nx sz := by
  obtain ⟨a1, ⟨U, a2, a3⟩, ⟨b1, b2, b3, b4, b5⟩, ⟨c1, c2, c3⟩, ⟨d1, d2, d3, d4, d5⟩, e1⟩ := h
  unfold Rel
  rw [x2, x0, x4, m0a, m2, m3, m4, xi 0 (by decide) (by decide), xi 1 (by decide) (by decide), xi 2 (by decide) (by decide), xi 3 (by decide) (by decide), xi 5 (by decide) (by decide), xi 6 (by decide) (by decide), mi 0 (by decide), mi 1 (by decide)]
  exact ⟨a1, ⟨U, a2, hX U a2 a3⟩, ⟨b1, b2, b3, b4, b5⟩, ⟨c1, c2, c3⟩, ⟨d1, d2, d3, d4, d5⟩, e1⟩
theorem Rel_val {xs ms : ST} {L nx sz c : Nat} (hc : c < 36) (h : Rel xs ms L nx sz) : FindOk ms c (Wb 36) ∧ Rel (xIF xs c) (mFin ms c (Wb 36)) L nx sz ∧ xVal xs c = mVal ms c (Wb 36) ∧ xWhy xs c = mWhy ms c (Wb 36) ∧ xDeep xs c = mDeep ms c (Wb 36) ∧ ((xIF xs c).2.1 5 c = 0 ↔ (mFin ms c (Wb 36)).1 6 = 0) := by
  obtain ⟨U, hU, hX⟩ := h.2.1
  have v := val_all h.1 hU hc hX
  refine ⟨v.1, ?_, v.2.2.2.2⟩
  have kx := v.2.2.1
  have kn := v.2.2.2.1
  exact Rel_keep h (fun U' hV hX' => (xIF_all (fun c hc => (h.1 c hc).2) hV hc hX').1) (kx.2.1 2 (by decide) (by decide) (by decide) (by decide)) (kx.2.1 0 (by decide) (by decide) (by decide) (by decide)) (kx.2.1 4 (by decide) (by decide) (by decide) (by decide)) (kn.2.1 0 (by decide)) (kn.2.1 2 (by decide)) (kn.2.1 3 (by decide)) (kn.2.1 4 (by decide)) (fun j hj _ => kx.1 j (by omega) (by omega) (by omega)) (fun j hj => kn.1 j (by omega))
theorem Rel_bad {xs ms : ST} {L nx sz : Nat} (h : Rel xs ms L nx sz) : Rel (xBad xs) (mBad ms) L nx sz := by
  obtain ⟨a1, ⟨U, a2, a3⟩, b, ⟨c1, c2, c3⟩, d, e1⟩ := h
  refine ⟨a1, ⟨U, a2, a3⟩, b, ⟨?_, c2, c3⟩, d, e1⟩
  show xs.1 0 + 1 = ms.2.1 3 0 + 1
  rw [c1]
theorem Rel_no {xs ms : ST} {L nx sz : Nat} (h : Rel xs ms L nx sz) : Rel (xNo xs) (mNo ms) L nx sz := by
  obtain ⟨a1, ⟨U, a2, a3⟩, b, ⟨c1, c2, c3⟩, d, e1⟩ := h
  refine ⟨a1, ⟨U, a2, a3⟩, b, ⟨c1, ?_, c3⟩, d, e1⟩
  show xs.1 1 + 1 = ms.2.1 3 1 + 1
  rw [c2]
theorem Rel_full {xs ms : ST} {L nx sz : Nat} (h : Rel xs ms L nx sz) : Rel (xFull xs) (mFull ms) L nx sz := by
  obtain ⟨a1, ⟨U, a2, a3⟩, b, ⟨c1, c2, c3⟩, d, e1⟩ := h
  refine ⟨a1, ⟨U, a2, a3⟩, b, ⟨c1, c2, ?_⟩, d, e1⟩
  show xs.1 2 + 1 = ms.2.1 3 2 + 1
  rw [c3]
