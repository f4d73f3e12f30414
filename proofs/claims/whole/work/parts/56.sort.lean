section EX
variable {k f a b c d y : Int32}
set_option maxHeartbeats 4000000
theorem en_xor (hk : sm 3 k) (hf : sm 4 f) (ha : sm 3 a) (hb : sm 3 b) (hc : sm 3 c) (hd : sm 3 d) (hy : sm 4 y) : en k f a b c d ^^^ (y <<< (nI 3 &&& 31)) = en k (f ^^^ y) a b c d := by
  refine b_ext (all32 ?_ ?_ ?_ ?_ ?_ ?_ ?_ ?_ ?_ ?_ ?_ ?_ ?_ ?_ ?_ ?_ ?_ ?_ ?_ ?_ ?_ ?_ ?_ ?_ ?_ ?_ ?_ ?_ ?_ ?_ ?_ ?_ ) <;> (rw [b_xor, b_shl 3 (by decide) _ (by decide), bt_en _ _ _ _ _ _ (by decide), bt_en _ _ _ _ _ _ (by decide)]; simp [hk _ _, hf _ _, ha _ _, hb _ _, hc _ _, hd _ _, hy _ _, b_xor])
end EX
def sw0 (f : Nat) : Nat := if f % 2 = f / 4 % 2 then f else f ^^^ 5
def sw1 (f : Nat) : Nat := if f / 2 % 2 = f / 8 % 2 then f else f ^^^ 10
theorem sw0_lt : ∀ f, f < 16 → sw0 f < 16 := by decide +kernel
theorem sw1_lt : ∀ f, f < 16 → sw1 f < 16 := by decide +kernel
theorem cr0 : ∀ f, f < 16 → (((nI f >>> ((0 : Int32) &&& 31)) &&& 1 = (nI f >>> (((0 : Int32) + 2) &&& 31)) &&& 1) ↔ f % 2 = f / 4 % 2) ∧ nI f ^^^ nI 5 = nI (f ^^^ 5) := by decide +kernel
theorem cr1 : ∀ f, f < 16 → (((nI f >>> ((1 : Int32) &&& 31)) &&& 1 = (nI f >>> (((1 : Int32) + 2) &&& 31)) &&& 1) ↔ f / 2 % 2 = f / 8 % 2) ∧ nI f ^^^ nI 10 = nI (f ^^^ 10) := by decide +kernel
theorem fmx0 : ∀ f, f < 16 → nI f - (nI f &&& nI 1) - (nI f &&& nI (4 * 1)) + 4 * (nI f &&& nI 1) + (nI f &&& nI (4 * 1)) / 4 = nI (sw0 f) := by decide +kernel
theorem fmx1 : ∀ f, f < 16 → nI f - (nI f &&& nI 2) - (nI f &&& nI (4 * 2)) + 4 * (nI f &&& nI 2) + (nI f &&& nI (4 * 2)) / 4 = nI (sw1 f) := by decide +kernel
theorem ord1_0 {f a b c d : Nat} (hf : f < 16) (ha : a < 6) (hb : b < 6) (hc : c < 6) (hd : d < 6) : tOrd1 (eB f a b c d) 0 = if c < a then eB (sw0 f) c b a d else eB f a b c d := by
  unfold tOrd1
  rw [show ((0 : Int32) + 2) = 2 by decide, eB_co2 (by omega) (by omega) (by omega) (by omega) (by omega), eB_co0 (by omega) (by omega) (by omega) (by omega) (by omega)]
  by_cases h : c < a
  · rw [if_pos h, if_pos (nI_lt h (by omega))]
    unfold tCross
    have e : tWith (tWith (eB f a b c d) 0 (tCo (eB f a b c d) (0 + 2))) (0 + 2) (tCo (eB f a b c d) 0) = eB f c b a d := by
      rw [show ((0 : Int32) + 2) = 2 by decide, eB_co2 (by omega) (by omega) (by omega) (by omega) (by omega), eB_co0 (by omega) (by omega) (by omega) (by omega) (by omega), eB_w0 (by omega) (by omega) (by omega) (by omega) (by omega) (by omega), eB_w2 (by omega) (by omega) (by omega) (by omega) (by omega) (by omega)]
    rw [e, eB_fix hf]
    unfold sw0
    by_cases h2 : f % 2 = f / 4 % 2
    · rw [if_pos h2, if_pos ((cr0 f hf).1.mpr h2)]
    · rw [if_neg h2, if_neg (fun h3 => h2 ((cr0 f hf).1.mp h3)), show ((((5 : Int32) <<< ((0 : Int32) &&& 31)) <<< ((3 : Int32) &&& 31))) = (nI 5 <<< (nI 3 &&& 31)) by decide]
      unfold eB
      rw [en_xor (sm3 (by decide)) (sm4 hf) (sm3 (by omega)) (sm3 (by omega)) (sm3 (by omega)) (sm3 (by omega)) (sm4 (by decide)), (cr0 f hf).2]
  · rw [if_neg h, if_neg (nI_nlt (by omega) (by omega))]
theorem sort_0 {g : Nat → Int32} {ta f a b c d : Nat} (hf : f < 16) (ha : a < 6) (hb : b < 6) (hc : c < 6) (hd : d < 6) (h : at6 g ta (v6 2 (nI a) (nI b) (nI c) (nI d) (nI f))) :
    at6 (mSort g ta 1 3 1) ta (if c < a then v6 2 (nI c) (nI b) (nI a) (nI d) (nI (sw0 f)) else v6 2 (nI a) (nI b) (nI c) (nI d) (nI f)) ∧ off6 g (mSort g ta 1 3 1) ta := by
  have e1 : g (ta + 1) = nI a := h 1 (by decide)
  have e3 : g (ta + 3) = nI c := h 3 (by decide)
  have e5 : g (ta + 5) = nI f := h 5 (by decide)
  have e6 : mSort1 g ta 1 3 (ta + 5) = nI f := by
    unfold mSort1
    rw [upd_other _ _ (by omega), upd_other _ _ (by omega)]; exact e5
  unfold mSort
  rw [e6, e1, e3]
  by_cases h2 : c < a
  · rw [if_pos h2, if_pos (nI_lt h2 (by omega)), fmx0 f hf]
    unfold mSort1
    rw [e1, e3]
    exact ⟨at_u5 (at_u3 (at_u1 h)), off6_upd (off6_upd (off6_upd (off6_rfl g ta) (by decide)) (by decide)) (by decide)⟩
  · rw [if_neg h2, if_neg (nI_nlt (by omega) (by omega))]
    exact ⟨h, off6_rfl g ta⟩
theorem ord1_1 {f a b c d : Nat} (hf : f < 16) (ha : a < 6) (hb : b < 6) (hc : c < 6) (hd : d < 6) : tOrd1 (eB f a b c d) 1 = if d < b then eB (sw1 f) a d c b else eB f a b c d := by
  unfold tOrd1
  rw [show ((1 : Int32) + 2) = 3 by decide, eB_co3 (by omega) (by omega) (by omega) (by omega) (by omega), eB_co1 (by omega) (by omega) (by omega) (by omega) (by omega)]
  by_cases h : d < b
  · rw [if_pos h, if_pos (nI_lt h (by omega))]
    unfold tCross
    have e : tWith (tWith (eB f a b c d) 1 (tCo (eB f a b c d) (1 + 2))) (1 + 2) (tCo (eB f a b c d) 1) = eB f a d c b := by
      rw [show ((1 : Int32) + 2) = 3 by decide, eB_co3 (by omega) (by omega) (by omega) (by omega) (by omega), eB_co1 (by omega) (by omega) (by omega) (by omega) (by omega), eB_w1 (by omega) (by omega) (by omega) (by omega) (by omega) (by omega), eB_w3 (by omega) (by omega) (by omega) (by omega) (by omega) (by omega)]
    rw [e, eB_fix hf]
    unfold sw1
    by_cases h2 : f / 2 % 2 = f / 8 % 2
    · rw [if_pos h2, if_pos ((cr1 f hf).1.mpr h2)]
    · rw [if_neg h2, if_neg (fun h3 => h2 ((cr1 f hf).1.mp h3)), show ((((5 : Int32) <<< ((1 : Int32) &&& 31)) <<< ((3 : Int32) &&& 31))) = (nI 10 <<< (nI 3 &&& 31)) by decide]
      unfold eB
      rw [en_xor (sm3 (by decide)) (sm4 hf) (sm3 (by omega)) (sm3 (by omega)) (sm3 (by omega)) (sm3 (by omega)) (sm4 (by decide)), (cr1 f hf).2]
  · rw [if_neg h, if_neg (nI_nlt (by omega) (by omega))]
theorem sort_1 {g : Nat → Int32} {ta f a b c d : Nat} (hf : f < 16) (ha : a < 6) (hb : b < 6) (hc : c < 6) (hd : d < 6) (h : at6 g ta (v6 2 (nI a) (nI b) (nI c) (nI d) (nI f))) :
    at6 (mSort g ta 2 4 2) ta (if d < b then v6 2 (nI a) (nI d) (nI c) (nI b) (nI (sw1 f)) else v6 2 (nI a) (nI b) (nI c) (nI d) (nI f)) ∧ off6 g (mSort g ta 2 4 2) ta := by
  have e1 : g (ta + 2) = nI b := h 2 (by decide)
  have e3 : g (ta + 4) = nI d := h 4 (by decide)
  have e5 : g (ta + 5) = nI f := h 5 (by decide)
  have e6 : mSort1 g ta 2 4 (ta + 5) = nI f := by
    unfold mSort1
    rw [upd_other _ _ (by omega), upd_other _ _ (by omega)]; exact e5
  unfold mSort
  rw [e6, e1, e3]
  by_cases h2 : d < b
  · rw [if_pos h2, if_pos (nI_lt h2 (by omega)), fmx1 f hf]
    unfold mSort1
    rw [e1, e3]
    exact ⟨at_u5 (at_u4 (at_u2 h)), off6_upd (off6_upd (off6_upd (off6_rfl g ta) (by decide)) (by decide)) (by decide)⟩
  · rw [if_neg h2, if_neg (nI_nlt (by omega) (by omega))]
    exact ⟨h, off6_rfl g ta⟩
theorem off6_tr {g g' g'' : Nat → Int32} {ta : Nat} (h : off6 g g' ta) (h' : off6 g' g'' ta) : off6 g g'' ta := fun x hx => (h' x hx).trans (h x hx)
theorem sort_at {g : Nat → Int32} {ta f a b c d : Nat} (hf : f < 16) (ha : a < 6) (hb : b < 6) (hc : c < 6) (hd : d < 6) (h : at6 g ta (v6 2 (nI a) (nI b) (nI c) (nI d) (nI f))) :
    at6 (mSort (mSort g ta 1 3 1) ta 2 4 2) ta (V (tOrd (eB f a b c d))) ∧ off6 g (mSort (mSort g ta 1 3 1) ta 2 4 2) ta ∧ Wt (tOrd (eB f a b c d)) ∧ ¬ tOrd (eB f a b c d) = 0 ∧ ¬ tOrd (eB f a b c d) = 4 := by
  have s0 := sort_0 hf ha hb hc hd h
  unfold tOrd
  rw [ord1_0 hf ha hb hc hd]
  by_cases h1 : c < a
  · rw [if_pos h1] at s0
    rw [if_pos h1, ord1_1 (sw0_lt f hf) hc hb ha hd]
    have s1 := sort_1 (sw0_lt f hf) hc hb ha hd s0.1
    by_cases h2 : d < b
    · rw [if_pos h2] at s1
      rw [if_pos h2]
      exact ⟨(at_B (sw1_lt _ (sw0_lt f hf)) (by omega) (by omega) (by omega) (by omega)).mp s1.1, off6_tr s0.2 s1.2, Wt_B (sw1_lt _ (sw0_lt f hf)) (by omega) (by omega) (by omega) (by omega), eB_ne0, eB_ne4⟩
    · rw [if_neg h2] at s1
      rw [if_neg h2]
      exact ⟨(at_B (sw0_lt f hf) (by omega) (by omega) (by omega) (by omega)).mp s1.1, off6_tr s0.2 s1.2, Wt_B (sw0_lt f hf) (by omega) (by omega) (by omega) (by omega), eB_ne0, eB_ne4⟩
  · rw [if_neg h1] at s0
    rw [if_neg h1, ord1_1 hf ha hb hc hd]
    have s1 := sort_1 hf ha hb hc hd s0.1
    by_cases h2 : d < b
    · rw [if_pos h2] at s1
      rw [if_pos h2]
      exact ⟨(at_B (sw1_lt _ hf) (by omega) (by omega) (by omega) (by omega)).mp s1.1, off6_tr s0.2 s1.2, Wt_B (sw1_lt _ hf) (by omega) (by omega) (by omega) (by omega), eB_ne0, eB_ne4⟩
    · rw [if_neg h2] at s1
      rw [if_neg h2]
      exact ⟨(at_B hf (by omega) (by omega) (by omega) (by omega)).mp s1.1, off6_tr s0.2 s1.2, Wt_B hf (by omega) (by omega) (by omega) (by omega), eB_ne0, eB_ne4⟩
theorem ord_id {f a b c d : Nat} (hf : f < 16) (h1 : a ≤ c) (h2 : b ≤ d) (hc : c < 6) (hd : d < 6) : tOrd (eB f a b c d) = eB f a b c d := by
  unfold tOrd
  rw [ord1_0 hf (by omega) (by omega) hc hd, if_neg (by omega), ord1_1 hf (by omega) (by omega) hc hd, if_neg (by omega)]
theorem sort_id {g : Nat → Int32} {ta f a b c d : Nat} (hf : f < 16) (h1 : a ≤ c) (h2 : b ≤ d) (hc : c < 6) (hd : d < 6) (h : at6 g ta (v6 2 (nI a) (nI b) (nI c) (nI d) (nI f))) : at6 (mSort (mSort g ta 1 3 1) ta 2 4 2) ta (V (eB f a b c d)) := by
  have h3 := (sort_at hf (by omega) (by omega) hc hd h).1
  rw [ord_id hf h1 h2 hc hd] at h3
  exact h3
