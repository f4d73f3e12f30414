theorem at_u0 {g : Nat → Int32} {ta : Nat} {a b c d e f x : Int32} (h : at6 g ta (v6 a b c d e f)) : at6 (upd g (ta + 0) x) ta (v6 x b c d e f) := by
  refine at6_v (at6_upd h) ?_
  apply all6 <;> simp [v6]
theorem at_u1 {g : Nat → Int32} {ta : Nat} {a b c d e f x : Int32} (h : at6 g ta (v6 a b c d e f)) : at6 (upd g (ta + 1) x) ta (v6 a x c d e f) := by
  refine at6_v (at6_upd h) ?_
  apply all6 <;> simp [v6]
theorem at_u2 {g : Nat → Int32} {ta : Nat} {a b c d e f x : Int32} (h : at6 g ta (v6 a b c d e f)) : at6 (upd g (ta + 2) x) ta (v6 a b x d e f) := by
  refine at6_v (at6_upd h) ?_
  apply all6 <;> simp [v6]
theorem at_u3 {g : Nat → Int32} {ta : Nat} {a b c d e f x : Int32} (h : at6 g ta (v6 a b c d e f)) : at6 (upd g (ta + 3) x) ta (v6 a b c x e f) := by
  refine at6_v (at6_upd h) ?_
  apply all6 <;> simp [v6]
theorem at_u4 {g : Nat → Int32} {ta : Nat} {a b c d e f x : Int32} (h : at6 g ta (v6 a b c d e f)) : at6 (upd g (ta + 4) x) ta (v6 a b c d x f) := by
  refine at6_v (at6_upd h) ?_
  apply all6 <;> simp [v6]
theorem at_u5 {g : Nat → Int32} {ta : Nat} {a b c d e f x : Int32} (h : at6 g ta (v6 a b c d e f)) : at6 (upd g (ta + 5) x) ta (v6 a b c d e x) := by
  refine at6_v (at6_upd h) ?_
  apply all6 <;> simp [v6]
theorem at_P {g : Nat → Int32} {ta f c r : Nat} (hf : f < 16) (hc : c < 8) (hr : r < 8) : at6 g ta (v6 1 (nI c) (nI r) 0 0 (nI f)) ↔ at6 g ta (V (eP f c r)) :=
  ⟨fun h => at6_v h (fun w hw => (V_P hf hc hr w hw).symm), fun h => at6_v h (V_P hf hc hr)⟩
theorem at_B {g : Nat → Int32} {ta f a b c d : Nat} (hf : f < 16) (ha : a < 8) (hb : b < 8) (hc : c < 8) (hd : d < 8) : at6 g ta (v6 2 (nI a) (nI b) (nI c) (nI d) (nI f)) ↔ at6 g ta (V (eB f a b c d)) :=
  ⟨fun h => at6_v h (fun w hw => (V_B hf ha hb hc hd w hw).symm), fun h => at6_v h (V_B hf ha hb hc hd)⟩
theorem V_k0 : V 4 0 = 3 := by decide
theorem V_kN {n : Nat} (h : n < 1000) : V (eN n) 0 = 0 := V_N h 0 (by decide)
theorem shT_come0 {t : Int32} {g : Nat → Int32} {ta s n : Nat} (ht : Wt t) (h0 : ¬ t = 0) (hs : s < 6) (hn : 1 ≤ n) (hn6 : n < 7) (h : at6 g ta (V t)) :
    at6 (mShT 1 (nI s) (nI n) ta g) ta (V (tCome t 0 (nI s) (nI n))) ∧ off6 g (mShT 1 (nI s) (nI n) ta g) ta ∧ Wt (tCome t 0 (nI s) (nI n)) ∧ ¬ tCome t 0 (nI s) (nI n) = 0 := by
  revert h0 h
  refine Wt_cases (C := fun t => ¬ t = 0 → at6 g ta (V t) → at6 (mShT 1 (nI s) (nI n) ta g) ta (V (tCome t 0 (nI s) (nI n))) ∧ off6 g (mShT 1 (nI s) (nI n) ta g) ta ∧ Wt (tCome t 0 (nI s) (nI n)) ∧ ¬ tCome t 0 (nI s) (nI n) = 0) ht (fun h => absurd rfl h) ?_ ?_ ?_ ?_
  · intro _ h
    have e : tCome 4 0 (nI s) (nI n) = 4 := if_pos (Or.inl (by decide))
    have e2 : mShT 1 (nI s) (nI n) ta g = g := by
      unfold mShT; rw [h 0 (by decide), V_k0, if_neg (by decide), if_neg (by decide)]
    rw [e, e2]
    exact ⟨h, off6_rfl g ta, Wt_4, by decide⟩
  · intro m hm _ h
    have e : tCome (eN m) 0 (nI s) (nI n) = eN m := if_pos (Or.inl (eN_ref hm))
    have e2 : mShT 1 (nI s) (nI n) ta g = g := by
      unfold mShT; rw [h 0 (by decide), V_kN hm, if_neg (by decide), if_neg (by decide)]
    rw [e, e2]
    exact ⟨h, off6_rfl g ta, Wt_N hm, eN_ne0 hm⟩
  · intro f c r hf hc hr _ h
    have h' := (at_P (f := f) (by omega) (by omega) (by omega)).mpr h
    have e2 : mShT 1 (nI s) (nI n) ta g = mShP g ta 1 (nI s) (nI n) := if_pos ((h' 0 (by decide)).trans rfl)
    have e3 : g (ta + 1) = nI c := h' 1 (by decide)
    rw [come_P0 hf hc hr hs hn hn6, e2]
    unfold mShP
    rw [e3, dM1 c (by omega) s hs n hn6 hn]
    by_cases h1 : c < s
    · simp only [if_pos h1]
      rw [if_neg (ne_m1 (by omega))]
      exact ⟨(at_P (by omega) (by omega) (by omega)).mp (at_u1 h'), off6_upd (off6_rfl g ta) (by decide), Wt_P hf hc hr, eP_ne0⟩
    · simp only [if_neg h1]
      by_cases h2 : 6 ≤ c + n
      · simp only [if_pos h2, if_true]
        exact ⟨brk_at g ta, brk_off g ta, Wt_4, by decide⟩
      · simp only [if_neg h2]
        rw [if_neg (ne_m1 (by omega))]
        exact ⟨(at_P (by omega) (by omega) (by omega)).mp (at_u1 h'), off6_upd (off6_rfl g ta) (by decide), Wt_P hf (by omega) (by omega), eP_ne0⟩
  · intro f a b c d hf h1 h2 hc hd _ h
    have h' := (at_B (f := f) (by omega) (by omega) (by omega) (by omega) (by omega)).mpr h
    have e2 : mShT 1 (nI s) (nI n) ta g = mShB g ta 1 (nI s) (nI n) := by
      unfold mShT; rw [show g (ta + 0) = 2 from h' 0 (by decide), if_neg (by decide), if_pos rfl]
    have e3 : g (ta + 1) = nI a := h' 1 (by decide)
    have e4 : g (ta + 1 + 2) = nI c := h' 3 (by decide)
    rw [come_B0 hf h1 h2 hc hd hs hn hn6, e2]
    unfold mShB
    rw [e3, e4, (dM3 a (by omega) s hs n hn6 hn).1, (dM3 c (by omega) s hs n hn6 hn).2]
    by_cases h3 : c < s
    · rw [if_pos h3, if_pos h3, if_pos (show a < s by omega), if_neg (show ¬ (5 : Int32) < nI a from nI_nlt (a := 5) (by omega) (by omega)), if_pos (nI_le (by omega) (by omega))]
      exact ⟨(at_B (by omega) (by omega) (by omega) (by omega) (by omega)).mp (at_u3 (at_u1 h')), off6_upd (i := 3) (off6_upd (off6_rfl g ta) (by decide)) (by decide), Wt_B hf h1 h2 hc hd, eB_ne0⟩
    · rw [if_neg h3, if_neg h3]
      by_cases h4 : 6 ≤ (if a < s then a else a + n)
      · rw [if_pos h4, if_pos (show (5 : Int32) < nI (if a < s then a else a + n) from nI_lt (a := 5) (by omega) (by split <;> omega))]
        exact ⟨brk_at g ta, brk_off g ta, Wt_4, by decide⟩
      · have h6 : (if 5 < c + n then 5 else c + n) < 6 := by split <;> omega
        have h7 : (if a < s then a else a + n) ≤ (if 5 < c + n then 5 else c + n) := by
          by_cases q : a < s
          · rw [if_pos q]; split <;> omega
          · rw [if_neg q] at h4 ⊢; split <;> omega
        rw [if_neg h4, if_neg (show ¬ (5 : Int32) < nI (if a < s then a else a + n) from nI_nlt (a := 5) (by omega) (by omega)), if_pos (nI_le h7 (by omega))]
        exact ⟨(at_B (by omega) (by omega) (by omega) (by omega) (by omega)).mp (at_u3 (at_u1 h')), off6_upd (i := 3) (off6_upd (off6_rfl g ta) (by decide)) (by decide), Wt_B hf (by omega) (by omega) (by omega) (by omega), eB_ne0⟩
theorem shT_come1 {t : Int32} {g : Nat → Int32} {ta s n : Nat} (ht : Wt t) (h0 : ¬ t = 0) (hs : s < 6) (hn : 1 ≤ n) (hn6 : n < 7) (h : at6 g ta (V t)) :
    at6 (mShT 2 (nI s) (nI n) ta g) ta (V (tCome t 1 (nI s) (nI n))) ∧ off6 g (mShT 2 (nI s) (nI n) ta g) ta ∧ Wt (tCome t 1 (nI s) (nI n)) ∧ ¬ tCome t 1 (nI s) (nI n) = 0 := by
  revert h0 h
  refine Wt_cases (C := fun t => ¬ t = 0 → at6 g ta (V t) → at6 (mShT 2 (nI s) (nI n) ta g) ta (V (tCome t 1 (nI s) (nI n))) ∧ off6 g (mShT 2 (nI s) (nI n) ta g) ta ∧ Wt (tCome t 1 (nI s) (nI n)) ∧ ¬ tCome t 1 (nI s) (nI n) = 0) ht (fun h => absurd rfl h) ?_ ?_ ?_ ?_
  · intro _ h
    have e : tCome 4 1 (nI s) (nI n) = 4 := if_pos (Or.inl (by decide))
    have e2 : mShT 2 (nI s) (nI n) ta g = g := by
      unfold mShT; rw [h 0 (by decide), V_k0, if_neg (by decide), if_neg (by decide)]
    rw [e, e2]
    exact ⟨h, off6_rfl g ta, Wt_4, by decide⟩
  · intro m hm _ h
    have e : tCome (eN m) 1 (nI s) (nI n) = eN m := if_pos (Or.inl (eN_ref hm))
    have e2 : mShT 2 (nI s) (nI n) ta g = g := by
      unfold mShT; rw [h 0 (by decide), V_kN hm, if_neg (by decide), if_neg (by decide)]
    rw [e, e2]
    exact ⟨h, off6_rfl g ta, Wt_N hm, eN_ne0 hm⟩
  · intro f c r hf hc hr _ h
    have h' := (at_P (f := f) (by omega) (by omega) (by omega)).mpr h
    have e2 : mShT 2 (nI s) (nI n) ta g = mShP g ta 2 (nI s) (nI n) := if_pos ((h' 0 (by decide)).trans rfl)
    have e3 : g (ta + 2) = nI r := h' 2 (by decide)
    rw [come_P1 hf hc hr hs hn hn6, e2]
    unfold mShP
    rw [e3, dM1 r (by omega) s hs n hn6 hn]
    by_cases h1 : r < s
    · simp only [if_pos h1]
      rw [if_neg (ne_m1 (by omega))]
      exact ⟨(at_P (by omega) (by omega) (by omega)).mp (at_u2 h'), off6_upd (off6_rfl g ta) (by decide), Wt_P hf hc hr, eP_ne0⟩
    · simp only [if_neg h1]
      by_cases h2 : 6 ≤ r + n
      · simp only [if_pos h2, if_true]
        exact ⟨brk_at g ta, brk_off g ta, Wt_4, by decide⟩
      · simp only [if_neg h2]
        rw [if_neg (ne_m1 (by omega))]
        exact ⟨(at_P (by omega) (by omega) (by omega)).mp (at_u2 h'), off6_upd (off6_rfl g ta) (by decide), Wt_P hf (by omega) (by omega), eP_ne0⟩
  · intro f a b c d hf h1 h2 hc hd _ h
    have h' := (at_B (f := f) (by omega) (by omega) (by omega) (by omega) (by omega)).mpr h
    have e2 : mShT 2 (nI s) (nI n) ta g = mShB g ta 2 (nI s) (nI n) := by
      unfold mShT; rw [show g (ta + 0) = 2 from h' 0 (by decide), if_neg (by decide), if_pos rfl]
    have e3 : g (ta + 2) = nI b := h' 2 (by decide)
    have e4 : g (ta + 2 + 2) = nI d := h' 4 (by decide)
    rw [come_B1 hf h1 h2 hc hd hs hn hn6, e2]
    unfold mShB
    rw [e3, e4, (dM3 b (by omega) s hs n hn6 hn).1, (dM3 d (by omega) s hs n hn6 hn).2]
    by_cases h3 : d < s
    · rw [if_pos h3, if_pos h3, if_pos (show b < s by omega), if_neg (show ¬ (5 : Int32) < nI b from nI_nlt (a := 5) (by omega) (by omega)), if_pos (nI_le (by omega) (by omega))]
      exact ⟨(at_B (by omega) (by omega) (by omega) (by omega) (by omega)).mp (at_u4 (at_u2 h')), off6_upd (i := 4) (off6_upd (off6_rfl g ta) (by decide)) (by decide), Wt_B hf h1 h2 hc hd, eB_ne0⟩
    · rw [if_neg h3, if_neg h3]
      by_cases h4 : 6 ≤ (if b < s then b else b + n)
      · rw [if_pos h4, if_pos (show (5 : Int32) < nI (if b < s then b else b + n) from nI_lt (a := 5) (by omega) (by split <;> omega))]
        exact ⟨brk_at g ta, brk_off g ta, Wt_4, by decide⟩
      · have h6 : (if 5 < d + n then 5 else d + n) < 6 := by split <;> omega
        have h7 : (if b < s then b else b + n) ≤ (if 5 < d + n then 5 else d + n) := by
          by_cases q : b < s
          · rw [if_pos q]; split <;> omega
          · rw [if_neg q] at h4 ⊢; split <;> omega
        rw [if_neg h4, if_neg (show ¬ (5 : Int32) < nI (if b < s then b else b + n) from nI_nlt (a := 5) (by omega) (by omega)), if_pos (nI_le h7 (by omega))]
        exact ⟨(at_B (by omega) (by omega) (by omega) (by omega) (by omega)).mp (at_u4 (at_u2 h')), off6_upd (i := 4) (off6_upd (off6_rfl g ta) (by decide)) (by decide), Wt_B hf (by omega) (by omega) (by omega) (by omega), eB_ne0⟩
theorem shT_go0 {t : Int32} {g : Nat → Int32} {ta s n : Nat} (ht : Wt t) (h0 : ¬ t = 0) (hs : s < 6) (hn : 1 ≤ n) (hn6 : n < 7) (h : at6 g ta (V t)) :
    at6 (mShT 1 (nI s) (-(nI n)) ta g) ta (V (tGo t 0 (nI s) (nI n))) ∧ off6 g (mShT 1 (nI s) (-(nI n)) ta g) ta ∧ Wt (tGo t 0 (nI s) (nI n)) ∧ ¬ tGo t 0 (nI s) (nI n) = 0 := by
  revert h0 h
  refine Wt_cases (C := fun t => ¬ t = 0 → at6 g ta (V t) → at6 (mShT 1 (nI s) (-(nI n)) ta g) ta (V (tGo t 0 (nI s) (nI n))) ∧ off6 g (mShT 1 (nI s) (-(nI n)) ta g) ta ∧ Wt (tGo t 0 (nI s) (nI n)) ∧ ¬ tGo t 0 (nI s) (nI n) = 0) ht (fun h => absurd rfl h) ?_ ?_ ?_ ?_
  · intro _ h
    have e : tGo 4 0 (nI s) (nI n) = 4 := if_pos (Or.inl (by decide))
    have e2 : mShT 1 (nI s) (-(nI n)) ta g = g := by
      unfold mShT; rw [h 0 (by decide), V_k0, if_neg (by decide), if_neg (by decide)]
    rw [e, e2]
    exact ⟨h, off6_rfl g ta, Wt_4, by decide⟩
  · intro m hm _ h
    have e : tGo (eN m) 0 (nI s) (nI n) = eN m := if_pos (Or.inl (eN_ref hm))
    have e2 : mShT 1 (nI s) (-(nI n)) ta g = g := by
      unfold mShT; rw [h 0 (by decide), V_kN hm, if_neg (by decide), if_neg (by decide)]
    rw [e, e2]
    exact ⟨h, off6_rfl g ta, Wt_N hm, eN_ne0 hm⟩
  · intro f c r hf hc hr _ h
    have h' := (at_P (f := f) (by omega) (by omega) (by omega)).mpr h
    have e2 : mShT 1 (nI s) (-(nI n)) ta g = mShP g ta 1 (nI s) (-(nI n)) := if_pos ((h' 0 (by decide)).trans rfl)
    have e3 : g (ta + 1) = nI c := h' 1 (by decide)
    rw [go_P0 hf hc hr hs hn hn6, e2]
    unfold mShP
    rw [e3, dM2 c (by omega) s hs n hn6 hn]
    by_cases h1 : c < s
    · simp only [if_pos h1]
      rw [if_neg (ne_m1 (by omega))]
      exact ⟨(at_P (by omega) (by omega) (by omega)).mp (at_u1 h'), off6_upd (off6_rfl g ta) (by decide), Wt_P hf hc hr, eP_ne0⟩
    · simp only [if_neg h1]
      by_cases h2 : c < s + n
      · simp only [if_pos h2, if_true]
        exact ⟨brk_at g ta, brk_off g ta, Wt_4, by decide⟩
      · simp only [if_neg h2]
        rw [if_neg (ne_m1 (by omega))]
        exact ⟨(at_P (by omega) (by omega) (by omega)).mp (at_u1 h'), off6_upd (off6_rfl g ta) (by decide), Wt_P hf (by omega) (by omega), eP_ne0⟩
  · intro f a b c d hf h1 h2 hc hd _ h
    have h' := (at_B (f := f) (by omega) (by omega) (by omega) (by omega) (by omega)).mpr h
    have e2 : mShT 1 (nI s) (-(nI n)) ta g = mShB g ta 1 (nI s) (-(nI n)) := by
      unfold mShT; rw [show g (ta + 0) = 2 from h' 0 (by decide), if_neg (by decide), if_pos rfl]
    have e3 : g (ta + 1) = nI a := h' 1 (by decide)
    have e4 : g (ta + 1 + 2) = nI c := h' 3 (by decide)
    have h6 : (if a < s then a else if a < s + n then s else a - n) < 6 := by (repeat' split) <;> omega
    rw [go_B0 hf h1 h2 hc hd hs hn hn6, e2]
    unfold mShB
    rw [e3, e4, (dM4 a (by omega) s hs n hn6 hn).1, (dM4 c (by omega) s hs n hn6 hn).2, if_neg (show ¬ (5 : Int32) < nI (if a < s then a else if a < s + n then s else a - n) from nI_nlt (a := 5) (by omega) (by omega))]
    by_cases h3 : c < s
    · rw [if_pos h3, if_pos h3, if_pos (show a < s by omega), if_pos (nI_le (by omega) (by omega))]
      exact ⟨(at_B (by omega) (by omega) (by omega) (by omega) (by omega)).mp (at_u3 (at_u1 h')), off6_upd (i := 3) (off6_upd (off6_rfl g ta) (by decide)) (by decide), Wt_B hf h1 h2 hc hd, eB_ne0⟩
    · rw [if_neg h3, if_neg h3]
      by_cases h4 : s ≤ a ∧ c < s + n
      · rw [if_pos h4, if_neg (show ¬ a < s by omega), if_pos (show a < s + n by omega), if_pos h4.2, if_neg (lt_nle ((dX3 s hs s hs).mpr (Nat.le_refl s)))]
        exact ⟨brk_at g ta, brk_off g ta, Wt_4, by decide⟩
      · have e1 : (if c < s + n then nI s - 1 else nI (c - n)) = nI (if c < s + n then s - 1 else c - n) := by
          by_cases h : c < s + n
          · rw [if_pos h, if_pos h, dX4 s hs (by omega)]
          · rw [if_neg h, if_neg h]
        have h5 : (if a < s then a else if a < s + n then s else a - n) ≤ (if c < s + n then s - 1 else c - n) := by (repeat' split) <;> omega
        have h7 : (if c < s + n then s - 1 else c - n) < 6 := by split <;> omega
        rw [if_neg h4, e1, if_pos (nI_le h5 (by omega))]
        exact ⟨(at_B (by omega) (by omega) (by omega) (by omega) (by omega)).mp (at_u3 (at_u1 h')), off6_upd (i := 3) (off6_upd (off6_rfl g ta) (by decide)) (by decide), Wt_B hf (by omega) (by omega) (by omega) (by omega), eB_ne0⟩
theorem shT_go1 {t : Int32} {g : Nat → Int32} {ta s n : Nat} (ht : Wt t) (h0 : ¬ t = 0) (hs : s < 6) (hn : 1 ≤ n) (hn6 : n < 7) (h : at6 g ta (V t)) :
    at6 (mShT 2 (nI s) (-(nI n)) ta g) ta (V (tGo t 1 (nI s) (nI n))) ∧ off6 g (mShT 2 (nI s) (-(nI n)) ta g) ta ∧ Wt (tGo t 1 (nI s) (nI n)) ∧ ¬ tGo t 1 (nI s) (nI n) = 0 := by
  revert h0 h
  refine Wt_cases (C := fun t => ¬ t = 0 → at6 g ta (V t) → at6 (mShT 2 (nI s) (-(nI n)) ta g) ta (V (tGo t 1 (nI s) (nI n))) ∧ off6 g (mShT 2 (nI s) (-(nI n)) ta g) ta ∧ Wt (tGo t 1 (nI s) (nI n)) ∧ ¬ tGo t 1 (nI s) (nI n) = 0) ht (fun h => absurd rfl h) ?_ ?_ ?_ ?_
  · intro _ h
    have e : tGo 4 1 (nI s) (nI n) = 4 := if_pos (Or.inl (by decide))
    have e2 : mShT 2 (nI s) (-(nI n)) ta g = g := by
      unfold mShT; rw [h 0 (by decide), V_k0, if_neg (by decide), if_neg (by decide)]
    rw [e, e2]
    exact ⟨h, off6_rfl g ta, Wt_4, by decide⟩
  · intro m hm _ h
    have e : tGo (eN m) 1 (nI s) (nI n) = eN m := if_pos (Or.inl (eN_ref hm))
    have e2 : mShT 2 (nI s) (-(nI n)) ta g = g := by
      unfold mShT; rw [h 0 (by decide), V_kN hm, if_neg (by decide), if_neg (by decide)]
    rw [e, e2]
    exact ⟨h, off6_rfl g ta, Wt_N hm, eN_ne0 hm⟩
  · intro f c r hf hc hr _ h
    have h' := (at_P (f := f) (by omega) (by omega) (by omega)).mpr h
    have e2 : mShT 2 (nI s) (-(nI n)) ta g = mShP g ta 2 (nI s) (-(nI n)) := if_pos ((h' 0 (by decide)).trans rfl)
    have e3 : g (ta + 2) = nI r := h' 2 (by decide)
    rw [go_P1 hf hc hr hs hn hn6, e2]
    unfold mShP
    rw [e3, dM2 r (by omega) s hs n hn6 hn]
    by_cases h1 : r < s
    · simp only [if_pos h1]
      rw [if_neg (ne_m1 (by omega))]
      exact ⟨(at_P (by omega) (by omega) (by omega)).mp (at_u2 h'), off6_upd (off6_rfl g ta) (by decide), Wt_P hf hc hr, eP_ne0⟩
    · simp only [if_neg h1]
      by_cases h2 : r < s + n
      · simp only [if_pos h2, if_true]
        exact ⟨brk_at g ta, brk_off g ta, Wt_4, by decide⟩
      · simp only [if_neg h2]
        rw [if_neg (ne_m1 (by omega))]
        exact ⟨(at_P (by omega) (by omega) (by omega)).mp (at_u2 h'), off6_upd (off6_rfl g ta) (by decide), Wt_P hf (by omega) (by omega), eP_ne0⟩
  · intro f a b c d hf h1 h2 hc hd _ h
    have h' := (at_B (f := f) (by omega) (by omega) (by omega) (by omega) (by omega)).mpr h
    have e2 : mShT 2 (nI s) (-(nI n)) ta g = mShB g ta 2 (nI s) (-(nI n)) := by
      unfold mShT; rw [show g (ta + 0) = 2 from h' 0 (by decide), if_neg (by decide), if_pos rfl]
    have e3 : g (ta + 2) = nI b := h' 2 (by decide)
    have e4 : g (ta + 2 + 2) = nI d := h' 4 (by decide)
    have h6 : (if b < s then b else if b < s + n then s else b - n) < 6 := by (repeat' split) <;> omega
    rw [go_B1 hf h1 h2 hc hd hs hn hn6, e2]
    unfold mShB
    rw [e3, e4, (dM4 b (by omega) s hs n hn6 hn).1, (dM4 d (by omega) s hs n hn6 hn).2, if_neg (show ¬ (5 : Int32) < nI (if b < s then b else if b < s + n then s else b - n) from nI_nlt (a := 5) (by omega) (by omega))]
    by_cases h3 : d < s
    · rw [if_pos h3, if_pos h3, if_pos (show b < s by omega), if_pos (nI_le (by omega) (by omega))]
      exact ⟨(at_B (by omega) (by omega) (by omega) (by omega) (by omega)).mp (at_u4 (at_u2 h')), off6_upd (i := 4) (off6_upd (off6_rfl g ta) (by decide)) (by decide), Wt_B hf h1 h2 hc hd, eB_ne0⟩
    · rw [if_neg h3, if_neg h3]
      by_cases h4 : s ≤ b ∧ d < s + n
      · rw [if_pos h4, if_neg (show ¬ b < s by omega), if_pos (show b < s + n by omega), if_pos h4.2, if_neg (lt_nle ((dX3 s hs s hs).mpr (Nat.le_refl s)))]
        exact ⟨brk_at g ta, brk_off g ta, Wt_4, by decide⟩
      · have e1 : (if d < s + n then nI s - 1 else nI (d - n)) = nI (if d < s + n then s - 1 else d - n) := by
          by_cases h : d < s + n
          · rw [if_pos h, if_pos h, dX4 s hs (by omega)]
          · rw [if_neg h, if_neg h]
        have h5 : (if b < s then b else if b < s + n then s else b - n) ≤ (if d < s + n then s - 1 else d - n) := by (repeat' split) <;> omega
        have h7 : (if d < s + n then s - 1 else d - n) < 6 := by split <;> omega
        rw [if_neg h4, e1, if_pos (nI_le h5 (by omega))]
        exact ⟨(at_B (by omega) (by omega) (by omega) (by omega) (by omega)).mp (at_u4 (at_u2 h')), off6_upd (i := 4) (off6_upd (off6_rfl g ta) (by decide)) (by decide), Wt_B hf (by omega) (by omega) (by omega) (by omega), eB_ne0⟩
