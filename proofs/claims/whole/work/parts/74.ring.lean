def RG (past states : Nat → Int32) (nx sz : Nat) : Prop := ∀ j, j < sz → RX (fun x => past (900 * j + x)) (fun x => states ((nx + 6 - sz + j) % 6 * 144 + x))
theorem shift_eq (p : Nat → Int32) : ∀ n, n ≤ 4500 → ∀ x, lp (fun i p => upd p i (p (i + 900))) n 0 p x = if x < n then p (x + 900) else p x := by
  intro n hn x
  have h := lp_inv (f := fun i p => upd p i (p (i + 900))) (fun i q => ∀ x, q x = if x < i then p (x + 900) else p x) n 0 p (fun x => (if_neg (by omega)).symm) (by
    intro j q _ hj hq x
    show upd q j (q (j + 900)) x = _
    by_cases e : x = j
    · rw [e, upd_same, hq, if_neg (by omega), if_pos (by omega)]
    · rw [upd_other _ _ e, hq]
      by_cases e2 : x < j
      · rw [if_pos e2, if_pos (by omega)]
      · rw [if_neg e2, if_neg (by omega)])
  have h2 := h x
  rw [Nat.zero_add] at h2
  exact h2
theorem copy_eq (h : Nat → Int32) (b n : Nat) (g : Nat → Int32) (x : Nat) : lp (fun i p => upd p (b + i) (h i)) n 0 g x = if b ≤ x ∧ x < b + n then h (x - b) else g x := by
  by_cases e : b ≤ x ∧ x < b + n
  · rw [if_pos e]
    refine lp_hit x (x - b) _ n 0 g (by omega) (by omega) (fun g => ?_) (fun j' g h1 h2 => upd_other _ _ (by omega))
    rw [show b + (x - b) = x by omega]
    exact upd_same _ _ _
  · rw [if_neg e]
    exact lp_miss x n 0 g (fun j g h1 h2 => upd_other _ _ (by omega))
theorem lay_eq (st : ST) {x : Nat} (hx : x < 900) : mLay st x = st.2.1 0 x := by
  have h := copy_eq (st.2.1 0) 0 900 (st.2.1 1) x
  rw [if_pos (by omega), Nat.sub_zero] at h
  unfold mLay
  rw [lp_cong (g := fun i p => upd p (0 + i) (st.2.1 0 i)) 900 0 (st.2.1 1) (fun j b _ _ => by rw [Nat.zero_add])]
  exact h
theorem remP_eq (st : ST) {sz x : Nat} (hsz : sz ≤ 6) (hx : x < 5400) : (mLR st sz).2.1 2 x = if 900 * mRemN sz ≤ x ∧ x < 900 * mRemN sz + 900 then st.2.1 0 (x - 900 * mRemN sz) else if sz = 6 ∧ x < 4500 then st.2.1 2 (x + 900) else st.2.1 2 x := by
  have e0 : (mLR st sz).2.1 2 = mRemP (sA st 1 (mLay st)) sz := by unfold mLR mRem; rw [sI_2, sA_21, if_pos rfl]
  have e1 : (sA st 1 (mLay st)).2.1 1 = mLay st := by rw [sA_21, if_pos rfl]
  rw [e0]
  unfold mRemP
  rw [e1, copy_eq]
  by_cases e : 900 * mRemN sz ≤ x ∧ x < 900 * mRemN sz + 900
  · rw [if_pos e, if_pos e, lay_eq st (by omega)]
  · rw [if_neg e, if_neg e]
    unfold mRemQ
    by_cases e2 : sz = 6
    · rw [if_pos e2]
      have e4 : (sA st 1 (mLay st)).2.1 2 = st.2.1 2 := by rw [sA_21, if_neg (by decide)]
      rw [e4, shift_eq _ 4500 (by omega)]
      by_cases e3 : x < 4500
      · rw [if_pos e3, if_pos ⟨e2, e3⟩]
      · rw [if_neg e3, if_neg (fun h => e3 h.2)]
    · rw [if_neg e2, if_neg (fun h => e2 h.1)]; rfl
theorem leave_eq (st : ST) (nx sz x : Nat) : (xLeave st nx sz).2.1 4 x = if nx * 144 ≤ x ∧ x < nx * 144 + 144 then st.2.1 2 (0 + (x - nx * 144)) else st.2.1 4 x := rfl
theorem RG_leave {xs ms : ST} {nx sz : Nat} (hnx : nx < 6) (hsz : sz ≤ 6) (h : RX (ms.2.1 0) (xs.2.1 2)) (hr : RG (ms.2.1 2) (xs.2.1 4) nx sz) : RG ((mLR ms sz).2.1 2) ((xLeave xs nx sz).2.1 4) ((nx + 1) % 6) (min (sz + 1) 6) := by
  intro j hj
  have hN : mRemN sz = if sz = 6 then 5 else sz := rfl
  by_cases e6 : sz = 6
  · subst e6
    rw [if_pos rfl] at hN
    have hmin : min (6 + 1) 6 = 6 := rfl
    rw [hmin] at hj ⊢
    by_cases ej : j = 5
    · subst ej
      have hb : ((nx + 1) % 6 + 6 - 6 + 5) % 6 = nx := by omega
      refine RX_cong (fun x hx => ?_) (fun x hx => ?_) h
      · show (mLR ms 6).2.1 2 (900 * 5 + x) = _
        rw [remP_eq ms (Nat.le_refl 6) (by omega), hN, if_pos (by omega), show 900 * 5 + x - 900 * 5 = x by omega]
      · show (xLeave xs nx 6).2.1 4 (((nx + 1) % 6 + 6 - 6 + 5) % 6 * 144 + x) = _
        rw [hb, leave_eq, if_pos (by omega), show 0 + (nx * 144 + x - nx * 144) = x by omega]
    · have hb : ((nx + 1) % 6 + 6 - 6 + j) % 6 = (nx + 6 - 6 + (j + 1)) % 6 := by omega
      have hne : ¬ (nx + 6 - 6 + (j + 1)) % 6 = nx := by omega
      refine RX_cong (fun x hx => ?_) (fun x hx => ?_) (hr (j + 1) (by omega))
      · show (mLR ms 6).2.1 2 (900 * j + x) = ms.2.1 2 (900 * (j + 1) + x)
        rw [remP_eq ms (Nat.le_refl 6) (by omega), hN, if_neg (by omega), if_pos ⟨rfl, by omega⟩, show 900 * j + x + 900 = 900 * (j + 1) + x by omega]
      · show (xLeave xs nx 6).2.1 4 (((nx + 1) % 6 + 6 - 6 + j) % 6 * 144 + x) = xs.2.1 4 ((nx + 6 - 6 + (j + 1)) % 6 * 144 + x)
        rw [hb, leave_eq]
        generalize (nx + 6 - 6 + (j + 1)) % 6 = q at hne ⊢
        rw [if_neg (by omega)]
  · rw [if_neg e6] at hN
    have hmin : min (sz + 1) 6 = sz + 1 := by omega
    rw [hmin] at hj ⊢
    by_cases ej : j = sz
    · have hb : ((nx + 1) % 6 + 6 - (sz + 1) + j) % 6 = nx := by omega
      refine RX_cong (fun x hx => ?_) (fun x hx => ?_) h
      · show (mLR ms sz).2.1 2 (900 * j + x) = _
        rw [remP_eq ms hsz (by omega), hN, if_pos (by omega), show 900 * j + x - 900 * sz = x by omega]
      · show (xLeave xs nx sz).2.1 4 (((nx + 1) % 6 + 6 - (sz + 1) + j) % 6 * 144 + x) = _
        rw [hb, leave_eq, if_pos (by omega), show 0 + (nx * 144 + x - nx * 144) = x by omega]
    · have hb : ((nx + 1) % 6 + 6 - (sz + 1) + j) % 6 = (nx + 6 - sz + j) % 6 := by omega
      have hne : ¬ (nx + 6 - sz + j) % 6 = nx := by omega
      refine RX_cong (fun x hx => ?_) (fun x hx => ?_) (hr j (by omega))
      · show (mLR ms sz).2.1 2 (900 * j + x) = ms.2.1 2 (900 * j + x)
        rw [remP_eq ms hsz (by omega), hN, if_neg (by omega), if_neg (fun h => e6 h.1)]
      · show (xLeave xs nx sz).2.1 4 (((nx + 1) % 6 + 6 - (sz + 1) + j) % 6 * 144 + x) = xs.2.1 4 ((nx + 6 - sz + j) % 6 * 144 + x)
        rw [hb, leave_eq]
        generalize (nx + 6 - sz + j) % 6 = q at hne ⊢
        rw [if_neg (by omega)]
/-- both hold the same -/
def Rel (xs ms : ST) (L nx sz : Nat) : Prop :=
  RX (ms.2.1 0) (xs.2.1 2) ∧ (∃ U, VS (xs.2.1 2) U ∧ XC (xs.2.1 2) U xs) ∧ (xs.2.1 0 = ms.2.1 4 ∧ TB (xs.2.1 0) L ∧ xs.1 3 = nI L ∧ ms.1 1 = nI L ∧ L ≤ 60) ∧
  (xs.1 0 = ms.2.1 3 0 ∧ xs.1 1 = ms.2.1 3 1 ∧ xs.1 2 = ms.2.1 3 2) ∧ (xs.1 5 = nI nx ∧ nx < 6 ∧ xs.1 6 = nI sz ∧ ms.1 0 = nI sz ∧ sz ≤ 6) ∧ RG (ms.2.1 2) (xs.2.1 4) nx sz
