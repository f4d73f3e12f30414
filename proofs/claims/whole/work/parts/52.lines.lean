def at6 (g : Nat → Int32) (ta : Nat) (v : Nat → Int32) : Prop := ∀ w, w < 6 → g (ta + w) = v w
def off6 (g g' : Nat → Int32) (ta : Nat) : Prop := ∀ x, x < ta ∨ ta + 6 ≤ x → g' x = g x
theorem off6_rfl (g : Nat → Int32) (ta : Nat) : off6 g g ta := fun _ _ => rfl
theorem off6_upd {g g' : Nat → Int32} {ta i : Nat} {x : Int32} (h : off6 g g' ta) (hi : i < 6) : off6 g (upd g' (ta + i) x) ta := fun y hy => by
  rw [upd_other _ _ (by omega)]; exact h y hy
theorem at6_v {g : Nat → Int32} {ta : Nat} {u v : Nat → Int32} (h : at6 g ta u) (e : ∀ w, w < 6 → u w = v w) : at6 g ta v := fun w hw => (h w hw).trans (e w hw)
theorem at6_upd {g : Nat → Int32} {ta i : Nat} {x : Int32} {v : Nat → Int32} (h : at6 g ta v) : at6 (upd g (ta + i) x) ta (fun w => if w = i then x else v w) := fun w hw => by
  by_cases e : w = i
  · rw [e, upd_same]; exact (if_pos rfl).symm
  · rw [upd_other _ _ (by omega), h w hw]; exact (if_neg e).symm
theorem mBrk_eq (g : Nat → Int32) (ta : Nat) : mBrk g ta = upd (upd (upd (upd (upd (upd g (ta + 0) 3) (ta + 1) 0) (ta + 2) 0) (ta + 3) 0) (ta + 4) 0) (ta + 5) 0 := rfl
theorem brk_at (g : Nat → Int32) (ta : Nat) : at6 (mBrk g ta) ta (V 4) := by
  intro w hw
  rw [V_4 w hw, mBrk_eq]
  revert w
  apply all6 <;> simp [upd, v6]
theorem brk_off (g : Nat → Int32) (ta : Nat) : off6 g (mBrk g ta) ta := by
  rw [mBrk_eq]
  exact off6_upd (off6_upd (off6_upd (off6_upd (off6_upd (off6_upd (off6_rfl g ta) (by decide)) (by decide)) (by decide)) (by decide)) (by decide)) (by decide)
theorem dM1 : ∀ x, x < 6 → ∀ a, a < 6 → ∀ n, n < 7 → 1 ≤ n → mLb (nI x) (nI a) (nI n) = if x < a then nI x else if 6 ≤ x + n then -1 else nI (x + n) := by decide +kernel
theorem dM2 : ∀ x, x < 6 → ∀ a, a < 6 → ∀ n, n < 7 → 1 ≤ n → mLb (nI x) (nI a) (-(nI n)) = if x < a then nI x else if x < a + n then -1 else nI (x - n) := by decide +kernel
theorem dM3 : ∀ x, x < 6 → ∀ a, a < 6 → ∀ n, n < 7 → 1 ≤ n → mBL (nI x) (nI a) (nI n) = nI (if x < a then x else x + n) ∧ mBM (nI x) (nI a) (nI n) = nI (if x < a then x else if 5 < x + n then 5 else x + n) := by decide +kernel
theorem dM4 : ∀ x, x < 6 → ∀ a, a < 6 → ∀ n, n < 7 → 1 ≤ n → mBL (nI x) (nI a) (-(nI n)) = nI (if x < a then x else if x < a + n then a else x - n) ∧ mBM (nI x) (nI a) (-(nI n)) = (if x < a then nI x else if x < a + n then nI a - 1 else nI (x - n)) := by decide +kernel
theorem dX1 : ∀ x, x < 6 → ∀ a, a < 6 → ∀ n, n < 7 → 1 ≤ n → (if nI x < nI a then nI x else if nI x - nI n < nI a then nI a else nI x - nI n) = nI (if x < a then x else if x < a + n then a else x - n) := by decide +kernel
theorem dX2 : ∀ x, x < 6 → ∀ a, a < 6 → ∀ n, n < 7 → 1 ≤ n → a ≤ x → (if nI x - nI n < nI a - 1 then nI a - 1 else nI x - nI n) = if x < a + n then nI a - 1 else nI (x - n) := by decide +kernel
theorem dX3 : ∀ x, x < 6 → ∀ a, a < 6 → (nI a - 1 < nI x ↔ a ≤ x) := by decide +kernel
theorem dX4 : ∀ a, a < 6 → 1 ≤ a → nI a - 1 = nI (a - 1) := by decide +kernel
theorem ne_m1 {x : Nat} (h : x < 16) : ¬ nI x = -1 := (by decide +kernel : ∀ x, x < 16 → ¬ nI x = -1) x h
theorem oneI (h : (1 : Int32) = nI 1) : True := trivial
theorem come_P0 {f c r s n : Nat} (hf : f < 4) (hc : c < 6) (hr : r < 6) (hs : s < 6) (hn : 1 ≤ n) (hn6 : n < 7) : tCome (eP f c r) 0 (nI s) (nI n) = if c < s then eP f c r else if 6 ≤ c + n then 4 else eP f (c + n) r := by
  unfold tCome
  rw [eP_ref, eP_gr0 (by omega) (by omega) (by omega), eP_le0 (by omega) (by omega) (by omega), eP_kind]
  by_cases h1 : c < s
  · rw [if_pos h1, if_pos (Or.inr (nI_lt h1 (by omega)))]
  · have h2 : ¬ nI c < nI s := nI_nlt (by omega) (by omega)
    rw [if_neg h1, if_neg (by simp [h2]), if_neg h2, nI_add]
    by_cases h3 : 6 ≤ c + n
    · rw [if_pos h3, if_pos (show (6 : Int32) ≤ nI (c + n) from nI_le (a := 6) h3 (by omega))]
    · rw [if_neg h3, if_neg (show ¬ (6 : Int32) ≤ nI (c + n) from nI_ge (b := 6) (by omega) (by omega)), if_pos rfl, eP_w0 (by omega) (by omega) (by omega) (by omega)]
theorem come_B0 {f a b c d s n : Nat} (hf : f < 16) (h1 : a ≤ c) (h2 : b ≤ d) (hc : c < 6) (hd : d < 6) (hs : s < 6) (hn : 1 ≤ n) (hn6 : n < 7) : tCome (eB f a b c d) 0 (nI s) (nI n) = if c < s then eB f a b c d else if 6 ≤ (if a < s then a else a + n) then 4 else eB f (if a < s then a else a + n) b (if 5 < c + n then 5 else c + n) d := by
  unfold tCome
  rw [eB_ref, eB_gr0 (by omega) (by omega) (by omega) (by omega) (by omega), eB_le0 (by omega) (by omega) (by omega) (by omega) (by omega), eB_kind]
  by_cases h1 : c < s
  · rw [if_pos h1, if_pos (Or.inr (nI_lt h1 (by omega)))]
  · have h3 : ¬ nI c < nI s := nI_nlt (by omega) (by omega)
    have e1 : (if nI a < nI s then nI a else nI a + nI n) = nI (if a < s then a else a + n) := by
      by_cases h : a < s
      · rw [if_pos h, if_pos (nI_lt h (by omega))]
      · rw [if_neg h, if_neg (nI_nlt (by omega) (by omega)), nI_add]
    have e2 : (if (5 : Int32) < nI c + nI n then (5 : Int32) else nI c + nI n) = nI (if 5 < c + n then 5 else c + n) := by
      rw [nI_add]
      by_cases h : 5 < c + n
      · rw [if_pos h, if_pos (show (5 : Int32) < nI (c + n) from nI_lt (a := 5) h (by omega))]; rfl
      · rw [if_neg h, if_neg (show ¬ (5 : Int32) < nI (c + n) from nI_nlt (a := 5) (by omega) (by omega))]
    rw [if_neg h1, if_neg (by simp [h3]), e1, e2]
    by_cases h4 : 6 ≤ (if a < s then a else a + n)
    · rw [if_pos h4, if_pos (show (6 : Int32) ≤ nI (if a < s then a else a + n) from nI_le (a := 6) h4 (by split <;> omega))]
    · have h5 : (if a < s then a else a + n) < 6 := by omega
      have h6 : (if 5 < c + n then 5 else c + n) < 6 := by split <;> omega
      rw [if_neg h4, if_neg (show ¬ (6 : Int32) ≤ nI (if a < s then a else a + n) from nI_ge (b := 6) (by omega) (by omega)), if_neg (by decide), eB_w0 (by omega) (by omega) (by omega) (by omega) (by omega) (by omega), show ((0 : Int32) + 2) = 2 by decide, eB_w2 (by omega) (by omega) (by omega) (by omega) (by omega) (by omega)]
theorem go_P0 {f c r s n : Nat} (hf : f < 4) (hc : c < 6) (hr : r < 6) (hs : s < 6) (hn : 1 ≤ n) (hn6 : n < 7) : tGo (eP f c r) 0 (nI s) (nI n) = if c < s then eP f c r else if c < s + n then 4 else eP f (c - n) r := by
  unfold tGo tGoG tGoL
  rw [eP_ref, eP_gr0 (by omega) (by omega) (by omega), eP_le0 (by omega) (by omega) (by omega), eP_kind]
  by_cases h1 : c < s
  · rw [if_pos h1, if_pos (Or.inr (nI_lt h1 (by omega)))]
  · have h2 : ¬ nI c < nI s := nI_nlt (by omega) (by omega)
    rw [dX1 c (by omega) s hs n hn6 hn, dX2 c (by omega) s hs n hn6 hn (by omega), if_neg h1, if_neg (by simp [h2]), if_neg h1]
    by_cases h3 : c < s + n
    · rw [if_pos h3, if_pos h3, if_pos h3, if_pos ((dX3 s hs s hs).mpr (Nat.le_refl s))]
    · rw [if_neg h3, if_neg h3, if_neg h3, if_neg (nI_nlt (Nat.le_refl _) (by omega)), if_pos rfl, eP_w0 (by omega) (by omega) (by omega) (by omega)]
theorem go_B0 {f a b c d s n : Nat} (hf : f < 16) (h1 : a ≤ c) (h2 : b ≤ d) (hc : c < 6) (hd : d < 6) (hs : s < 6) (hn : 1 ≤ n) (hn6 : n < 7) : tGo (eB f a b c d) 0 (nI s) (nI n) = if c < s then eB f a b c d else if s ≤ a ∧ c < s + n then 4 else eB f (if a < s then a else if a < s + n then s else a - n) b (if c < s + n then s - 1 else c - n) d := by
  unfold tGo tGoG tGoL
  rw [eB_ref, eB_gr0 (by omega) (by omega) (by omega) (by omega) (by omega), eB_le0 (by omega) (by omega) (by omega) (by omega) (by omega), eB_kind]
  by_cases h1 : c < s
  · rw [if_pos h1, if_pos (Or.inr (nI_lt h1 (by omega)))]
  · have h3 : ¬ nI c < nI s := nI_nlt (by omega) (by omega)
    rw [dX1 a (by omega) s hs n hn6 hn, dX2 c (by omega) s hs n hn6 hn (by omega), if_neg h1, if_neg (by simp [h3])]
    by_cases h4 : s ≤ a ∧ c < s + n
    · rw [if_pos h4, if_pos h4.2, if_neg (show ¬ a < s by omega), if_pos (show a < s + n by omega), if_pos ((dX3 s hs s hs).mpr (Nat.le_refl s))]
    · have e1 : (if c < s + n then nI s - 1 else nI (c - n)) = nI (if c < s + n then s - 1 else c - n) := by
        by_cases h : c < s + n
        · rw [if_pos h, if_pos h, dX4 s hs (by omega)]
        · rw [if_neg h, if_neg h]
      have h5 : (if a < s then a else if a < s + n then s else a - n) ≤ (if c < s + n then s - 1 else c - n) := by (repeat' split) <;> omega
      have h6 : (if c < s + n then s - 1 else c - n) < 6 := by split <;> omega
      rw [if_neg h4, e1, if_neg (nI_nlt h5 (by omega)), if_neg (by decide), eB_w0 (by omega) (by omega) (by omega) (by omega) (by omega) (by omega), show ((0 : Int32) + 2) = 2 by decide, eB_w2 (by omega) (by omega) (by omega) (by omega) (by omega) (by omega)]
theorem come_P1 {f c r s n : Nat} (hf : f < 4) (hc : c < 6) (hr : r < 6) (hs : s < 6) (hn : 1 ≤ n) (hn6 : n < 7) : tCome (eP f c r) 1 (nI s) (nI n) = if r < s then eP f c r else if 6 ≤ r + n then 4 else eP f c (r + n) := by
  unfold tCome
  rw [eP_ref, eP_gr1 (by omega) (by omega) (by omega), eP_le1 (by omega) (by omega) (by omega), eP_kind]
  by_cases h1 : r < s
  · rw [if_pos h1, if_pos (Or.inr (nI_lt h1 (by omega)))]
  · have h2 : ¬ nI r < nI s := nI_nlt (by omega) (by omega)
    rw [if_neg h1, if_neg (by simp [h2]), if_neg h2, nI_add]
    by_cases h3 : 6 ≤ r + n
    · rw [if_pos h3, if_pos (show (6 : Int32) ≤ nI (r + n) from nI_le (a := 6) h3 (by omega))]
    · rw [if_neg h3, if_neg (show ¬ (6 : Int32) ≤ nI (r + n) from nI_ge (b := 6) (by omega) (by omega)), if_pos rfl, eP_w1 (by omega) (by omega) (by omega) (by omega)]
theorem come_B1 {f a b c d s n : Nat} (hf : f < 16) (h1 : a ≤ c) (h2 : b ≤ d) (hc : c < 6) (hd : d < 6) (hs : s < 6) (hn : 1 ≤ n) (hn6 : n < 7) : tCome (eB f a b c d) 1 (nI s) (nI n) = if d < s then eB f a b c d else if 6 ≤ (if b < s then b else b + n) then 4 else eB f a (if b < s then b else b + n) c (if 5 < d + n then 5 else d + n) := by
  unfold tCome
  rw [eB_ref, eB_gr1 (by omega) (by omega) (by omega) (by omega) (by omega), eB_le1 (by omega) (by omega) (by omega) (by omega) (by omega), eB_kind]
  by_cases h1 : d < s
  · rw [if_pos h1, if_pos (Or.inr (nI_lt h1 (by omega)))]
  · have h3 : ¬ nI d < nI s := nI_nlt (by omega) (by omega)
    have e1 : (if nI b < nI s then nI b else nI b + nI n) = nI (if b < s then b else b + n) := by
      by_cases h : b < s
      · rw [if_pos h, if_pos (nI_lt h (by omega))]
      · rw [if_neg h, if_neg (nI_nlt (by omega) (by omega)), nI_add]
    have e2 : (if (5 : Int32) < nI d + nI n then (5 : Int32) else nI d + nI n) = nI (if 5 < d + n then 5 else d + n) := by
      rw [nI_add]
      by_cases h : 5 < d + n
      · rw [if_pos h, if_pos (show (5 : Int32) < nI (d + n) from nI_lt (a := 5) h (by omega))]; rfl
      · rw [if_neg h, if_neg (show ¬ (5 : Int32) < nI (d + n) from nI_nlt (a := 5) (by omega) (by omega))]
    rw [if_neg h1, if_neg (by simp [h3]), e1, e2]
    by_cases h4 : 6 ≤ (if b < s then b else b + n)
    · rw [if_pos h4, if_pos (show (6 : Int32) ≤ nI (if b < s then b else b + n) from nI_le (a := 6) h4 (by split <;> omega))]
    · have h5 : (if b < s then b else b + n) < 6 := by omega
      have h6 : (if 5 < d + n then 5 else d + n) < 6 := by split <;> omega
      rw [if_neg h4, if_neg (show ¬ (6 : Int32) ≤ nI (if b < s then b else b + n) from nI_ge (b := 6) (by omega) (by omega)), if_neg (by decide), eB_w1 (by omega) (by omega) (by omega) (by omega) (by omega) (by omega), show ((1 : Int32) + 2) = 3 by decide, eB_w3 (by omega) (by omega) (by omega) (by omega) (by omega) (by omega)]
theorem go_P1 {f c r s n : Nat} (hf : f < 4) (hc : c < 6) (hr : r < 6) (hs : s < 6) (hn : 1 ≤ n) (hn6 : n < 7) : tGo (eP f c r) 1 (nI s) (nI n) = if r < s then eP f c r else if r < s + n then 4 else eP f c (r - n) := by
  unfold tGo tGoG tGoL
  rw [eP_ref, eP_gr1 (by omega) (by omega) (by omega), eP_le1 (by omega) (by omega) (by omega), eP_kind]
  by_cases h1 : r < s
  · rw [if_pos h1, if_pos (Or.inr (nI_lt h1 (by omega)))]
  · have h2 : ¬ nI r < nI s := nI_nlt (by omega) (by omega)
    rw [dX1 r (by omega) s hs n hn6 hn, dX2 r (by omega) s hs n hn6 hn (by omega), if_neg h1, if_neg (by simp [h2]), if_neg h1]
    by_cases h3 : r < s + n
    · rw [if_pos h3, if_pos h3, if_pos h3, if_pos ((dX3 s hs s hs).mpr (Nat.le_refl s))]
    · rw [if_neg h3, if_neg h3, if_neg h3, if_neg (nI_nlt (Nat.le_refl _) (by omega)), if_pos rfl, eP_w1 (by omega) (by omega) (by omega) (by omega)]
theorem go_B1 {f a b c d s n : Nat} (hf : f < 16) (h1 : a ≤ c) (h2 : b ≤ d) (hc : c < 6) (hd : d < 6) (hs : s < 6) (hn : 1 ≤ n) (hn6 : n < 7) : tGo (eB f a b c d) 1 (nI s) (nI n) = if d < s then eB f a b c d else if s ≤ b ∧ d < s + n then 4 else eB f a (if b < s then b else if b < s + n then s else b - n) c (if d < s + n then s - 1 else d - n) := by
  unfold tGo tGoG tGoL
  rw [eB_ref, eB_gr1 (by omega) (by omega) (by omega) (by omega) (by omega), eB_le1 (by omega) (by omega) (by omega) (by omega) (by omega), eB_kind]
  by_cases h1 : d < s
  · rw [if_pos h1, if_pos (Or.inr (nI_lt h1 (by omega)))]
  · have h3 : ¬ nI d < nI s := nI_nlt (by omega) (by omega)
    rw [dX1 b (by omega) s hs n hn6 hn, dX2 d (by omega) s hs n hn6 hn (by omega), if_neg h1, if_neg (by simp [h3])]
    by_cases h4 : s ≤ b ∧ d < s + n
    · rw [if_pos h4, if_pos h4.2, if_neg (show ¬ b < s by omega), if_pos (show b < s + n by omega), if_pos ((dX3 s hs s hs).mpr (Nat.le_refl s))]
    · have e1 : (if d < s + n then nI s - 1 else nI (d - n)) = nI (if d < s + n then s - 1 else d - n) := by
        by_cases h : d < s + n
        · rw [if_pos h, if_pos h, dX4 s hs (by omega)]
        · rw [if_neg h, if_neg h]
      have h5 : (if b < s then b else if b < s + n then s else b - n) ≤ (if d < s + n then s - 1 else d - n) := by (repeat' split) <;> omega
      have h6 : (if d < s + n then s - 1 else d - n) < 6 := by split <;> omega
      rw [if_neg h4, e1, if_neg (nI_nlt h5 (by omega)), if_neg (by decide), eB_w1 (by omega) (by omega) (by omega) (by omega) (by omega) (by omega), show ((1 : Int32) + 2) = 3 by decide, eB_w3 (by omega) (by omega) (by omega) (by omega) (by omega) (by omega)]
