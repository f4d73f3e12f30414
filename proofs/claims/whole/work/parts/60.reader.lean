def TB (f : Nat → Int32) (L : Nat) : Prop := ∀ k, k < L → ∃ b, b < 128 ∧ f k = nI b
theorem rSkip_stop (f : Nat → Int32) : ∀ k P, rSkip f k P = P + k ∨ ¬ f (rSkip f k P) = 32
  | 0, P => Or.inl rfl
  | k + 1, P => by
    show (if f P = 32 then rSkip f k (P + 1) else P) = _ ∨ ¬ f (if f P = 32 then rSkip f k (P + 1) else P) = 32
    by_cases e : f P = 32
    · rw [if_pos e]
      rcases rSkip_stop f k (P + 1) with h | h
      · left; omega
      · right; exact h
    · rw [if_neg e]; exact Or.inr e
theorem rNx_L (f : Nat → Int32) (L : Nat) : rNx f L L = L := by unfold rNx; rw [Nat.sub_self]; rfl
theorem rNx_stay {f : Nat → Int32} {L P : Nat} (h : P < L → ¬ f P = 32) : rNx f L P = P := by
  unfold rNx
  cases e : L - P with
  | zero => rfl
  | succ k =>
    show (if f P = 32 then rSkip f k (P + 1) else P) = P
    rw [if_neg (h (by omega))]
theorem rNx_idem {f : Nat → Int32} {L P : Nat} (h : P ≤ L) : rNx f L (rNx f L P) = rNx f L P := by
  apply rNx_stay
  intro hl
  rcases rSkip_stop f (L - P) P with e | e
  · exfalso
    unfold rNx at hl
    omega
  · exact e
theorem mAt_eq {f : Nat → Int32} {L P : Nat} {lo hi : Int32} (h : xIsW (-1) lo hi = false) : mAt f L P lo hi = xIsW (rAt f L P) lo hi := by
  unfold mAt rAt
  by_cases e : P < L
  · rw [if_pos e, decide_eq_true e]; rfl
  · rw [if_neg e, decide_eq_false e, h]; rfl
theorem rFig_eq (b : Int32) : rFig b = xIsW b 48 57 := rfl
theorem isW_eq (x a : Int32) : xIsW x a a = decide (x = a) := by
  unfold xIsW
  by_cases e : x = a
  · subst e; simp
  · rw [decide_eq_false e]
    rcases Int32.lt_or_lt_of_ne e with h | h
    · simp [h]
    · simp [h]
theorem mAt_1 {f : Nat → Int32} {L P : Nat} {s : Int32} (h : ¬ (-1 : Int32) = s) : mAt f L P s s = decide (rAt f L P = s) := by
  rw [mAt_eq (by rw [isW_eq, decide_eq_false h]), isW_eq]
theorem rAt_or {f : Nat → Int32} {L : Nat} (hT : TB f L) (P : Nat) : rAt f L P = -1 ∨ ∃ b, b < 128 ∧ rAt f L P = nI b := by
  unfold rAt
  by_cases e : P < L
  · rw [if_pos e]; exact Or.inr (hT P e)
  · rw [if_neg e]; exact Or.inl rfl
theorem chCol : ∀ b, b < 128 → rCol (nI b) = (if xIsW (nI b) 97 102 = true then nI b - 97 else if xIsW (nI b) 65 70 = true then nI b - 65 else -1) ∧ (xIsW (nI b) 97 102 = true → nI b - 97 = nI (b - 97) ∧ 97 ≤ b ∧ b < 103) ∧ (xIsW (nI b) 65 70 = true → nI b - 65 = nI (b - 65) ∧ 65 ≤ b ∧ b < 71) := by decide +kernel
theorem chRow : ∀ b, b < 128 → (xIsW (nI b - 49) 0 5 = xIsW (nI b) 49 54) ∧ (xIsW (nI b) 49 54 = true → nI b - 49 = nI (b - 49) ∧ 49 ≤ b ∧ b < 55) := by decide +kernel
theorem chFig : ∀ b, b < 128 → rFig (nI b) = true → 48 ≤ b ∧ b < 58 ∧ ¬ nI b = 32 ∧ ¬ nI b = 35 ∧ ¬ nI b = 43 := by decide +kernel
theorem at_col {f : Nat → Int32} {L : Nat} (hT : TB f L) (P : Nat) : (rCol (rAt f L P) = -1 ∧ mAt f L P 97 102 = false ∧ mAt f L P 65 70 = false) ∨ ∃ j, j < 6 ∧ rCol (rAt f L P) = nI j ∧ P < L ∧ ((mAt f L P 97 102 = true ∧ f P - 97 = nI j) ∨ (mAt f L P 97 102 = false ∧ mAt f L P 65 70 = true ∧ f P - 65 = nI j)) := by
  rw [mAt_eq (by decide), mAt_eq (by decide)]
  rcases rAt_or hT P with e | ⟨b, hb, e⟩
  · left; rw [e]; decide
  · have hP : P < L := by
      apply Classical.byContradiction
      intro h
      have : rAt f L P = -1 := if_neg h
      rw [this] at e
      exact absurd e.symm ((by decide +kernel : ∀ b, b < 128 → ¬ nI b = -1) b hb)
    have ef : f P = nI b := by rw [← e]; exact (if_pos hP).symm
    have h := chCol b hb
    rw [e, ef]
    by_cases c1 : xIsW (nI b) 97 102 = true
    · right
      have h1 := h.2.1 c1
      refine ⟨b - 97, by omega, ?_, hP, Or.inl ⟨c1, h1.1⟩⟩
      rw [h.1, if_pos c1, h1.1]
    · by_cases c2 : xIsW (nI b) 65 70 = true
      · right
        have h1 := h.2.2 c2
        refine ⟨b - 65, by omega, ?_, hP, Or.inr ⟨Bool.eq_false_iff.mpr c1, c2, h1.1⟩⟩
        rw [h.1, if_neg c1, if_pos c2, h1.1]
      · left
        exact ⟨by rw [h.1, if_neg c1, if_neg c2], Bool.eq_false_iff.mpr c1, Bool.eq_false_iff.mpr c2⟩
theorem at_row {f : Nat → Int32} {L : Nat} (hT : TB f L) (P : Nat) : (xIsW (rAt f L P - 49) 0 5 = false ∧ mAt f L P 49 54 = false) ∨ ∃ j, j < 6 ∧ xIsW (rAt f L P - 49) 0 5 = true ∧ rAt f L P - 49 = nI j ∧ P < L ∧ mAt f L P 49 54 = true ∧ f P - 49 = nI j := by
  rw [mAt_eq (by decide)]
  rcases rAt_or hT P with e | ⟨b, hb, e⟩
  · left; rw [e]; decide
  · have hP : P < L := by
      apply Classical.byContradiction
      intro h
      have : rAt f L P = -1 := if_neg h
      rw [this] at e
      exact absurd e.symm ((by decide +kernel : ∀ b, b < 128 → ¬ nI b = -1) b hb)
    have ef : f P = nI b := by rw [← e]; exact (if_pos hP).symm
    have h := chRow b hb
    rw [e, ef, h.1]
    by_cases c1 : xIsW (nI b) 49 54 = true
    · right
      have h1 := h.2 c1
      exact ⟨b - 49, by omega, c1, h1.1, hP, c1, h1.1⟩
    · left
      exact ⟨Bool.eq_false_iff.mpr c1, Bool.eq_false_iff.mpr c1⟩
theorem ofPl {c r f : Nat} (hf : f < 16) (hc : c < 8) (hr : r < 8) : tOfPl (nI c) (nI r) (nI f) = eP f c r := by
  unfold tOfPl
  have e : ((2 : Int32) ||| (nI f <<< ((3 : Int32) &&& 31))) = eP f 0 0 := (by decide +kernel : ∀ f, f < 16 → ((2 : Int32) ||| (nI f <<< ((3 : Int32) &&& 31))) = eP f 0 0) f hf
  rw [e, eP_w0 hf (by decide) (by decide) hc, eP_w1 hf hc (by decide) hr]
theorem ofBl {c r f c' r' f' : Nat} (hf : f < 4) (hc : c < 6) (hr : r < 6) (hf' : f' < 4) (hc' : c' < 6) (hr' : r' < 6) : tOfBl (eP f c r) (eP f' c' r') = tOrd (eB (f + 4 * f') c r c' r') := by
  unfold tOfBl
  have e : ((3 : Int32) ||| ((nI f ||| (nI f' <<< ((2 : Int32) &&& 31))) <<< ((3 : Int32) &&& 31))) = eB (f + 4 * f') 0 0 0 0 := (by decide +kernel : ∀ f, f < 4 → ∀ f', f' < 4 → ((3 : Int32) ||| ((nI f ||| (nI f' <<< ((2 : Int32) &&& 31))) <<< ((3 : Int32) &&& 31))) = eB (f + 4 * f') 0 0 0 0) f hf f' hf'
  rw [eP_fix (by omega), eP_fix (by omega), e, eP_co0 (by omega) (by omega) (by omega), eP_co0 (by omega) (by omega) (by omega), eP_co1 (by omega) (by omega) (by omega), eP_co1 (by omega) (by omega) (by omega), eB_w0 (by omega) (by decide) (by decide) (by decide) (by decide) (by omega), eB_w2 (by omega) (by omega) (by decide) (by decide) (by decide) (by omega), eB_w1 (by omega) (by omega) (by decide) (by omega) (by decide) (by omega), eB_w3 (by omega) (by omega) (by omega) (by omega) (by decide) (by omega)]
def dN (f : Nat → Int32) (L P : Nat) : Nat := if rAt f L (rNx f L P) = 36 then 1 else 0
theorem dN_lt (f : Nat → Int32) (L P : Nat) : dN f L P < 2 := by unfold dN; split <;> omega
theorem dolP_eq {f : Nat → Int32} {L P Q : Nat} (hP : P ≤ L) (e : rNx f L Q = rNx f L P) : mDolP f L Q = rNx f L (rTkP f L P 36) := by
  unfold mDolP rTkP rCh
  rw [e, mAt_1 (by decide)]
  by_cases h : rAt f L (rNx f L P) = 36
  · rw [if_pos (decide_eq_true h), if_pos h]
  · rw [if_neg (by rw [decide_eq_false h]; decide), if_neg h, rNx_idem hP]
theorem dolV_eq {f : Nat → Int32} {L P Q : Nat} (e : rNx f L Q = rNx f L P) (bit : Nat) : mDolV f L Q bit = nI (bit * dN f L P) := by
  unfold mDolV dN
  rw [e, mAt_1 (by decide)]
  by_cases h : rAt f L (rNx f L P) = 36
  · rw [if_pos (decide_eq_true h), if_pos h, Nat.mul_one]
  · rw [if_neg (by rw [decide_eq_false h]; decide), if_neg h, Nat.mul_zero]; rfl
theorem tkB_eq (f : Nat → Int32) (L P : Nat) : (if rTkB f L P 36 = true then (1 : Int32) else 0) = nI (dN f L P) := by
  unfold rTkB dN rCh
  by_cases h : rAt f L (rNx f L P) = 36
  · rw [if_pos (decide_eq_true h), if_pos h]; rfl
  · rw [if_neg (by rw [decide_eq_false h]; decide), if_neg h]; rfl
theorem tkB_eq2 (f : Nat → Int32) (L P : Nat) : (if rTkB f L P 36 = true then (2 : Int32) else 0) = nI (2 * dN f L P) := by
  unfold rTkB dN rCh
  by_cases h : rAt f L (rNx f L P) = 36
  · rw [if_pos (decide_eq_true h), if_pos h]; rfl
  · rw [if_neg (by rw [decide_eq_false h]; decide), if_neg h]; rfl
/-- a place is read alike -/
theorem pl_rel {f : Nat → Int32} {L P Q ta col bit : Nat} {arr : Nat → Int32} {w : Int32} {v : Nat → Int32} (hT : TB f L) (hP : P ≤ L) (e : rNx f L Q = rNx f L P) (hcol : col = 1 ∨ col = 3) (ha : at6 arr ta v) :
    ((rPl f L P).1 = 0 ∧ (mPl f L ta col bit (Q, arr, w)).1 = false ∧ (mPl f L ta col bit (Q, arr, w)).2.1 = (rPl f L P).2 ∧ rNx f L (rPl f L P).2 = (rPl f L P).2) ∨
    ∃ fx j r, fx < 4 ∧ j < 6 ∧ r < 6 ∧ (rPl f L P).1 = eP fx j r ∧ (mPl f L ta col bit (Q, arr, w)).1 = true ∧ (mPl f L ta col bit (Q, arr, w)).2.1 = (rPl f L P).2 ∧ (mPl f L ta col bit (Q, arr, w)).2.2.2 = w ∧
      at6 (mPl f L ta col bit (Q, arr, w)).2.2.1 ta (fun z => if z = col + 1 then nI r else if z = 5 then v 5 + nI (bit * fx) else if z = col then nI j else v z) ∧ off6 arr (mPl f L ta col bit (Q, arr, w)).2.2.1 ta := by
  have hA : (mPlA f L ta bit (Q, arr, w)).1 = rNx f L (rTkP f L P 36) := dolP_eq hP e
  have hA2 : (mPlA f L ta bit (Q, arr, w)).2.1 = upd arr (ta + 5) (v 5 + nI (bit * dN f L P)) := by
    show upd arr (ta + 5) (arr (ta + 5) + mDolV f L Q bit) = _
    rw [dolV_eq e, ha 5 (by decide)]
  have hle1 : rTkP f L P 36 ≤ L := rTkP_le hP (by decide)
  unfold mPl rPl
  show (_ ∧ _ ∧ _ ∧ _) ∨ _
  have hch : rCh f L (rTkP f L P 36) = rAt f L (rNx f L (rTkP f L P 36)) := rfl
  rw [hA, hch]
  rcases at_col hT (rNx f L (rTkP f L P 36)) with ⟨c1, c2, c3⟩ | ⟨j, hj, c1, hlt, hh⟩
  · left
    rw [if_pos c1, c2, c3, if_neg (by decide), if_neg (by decide)]
    exact ⟨rfl, rfl, rfl, rNx_idem hle1⟩
  · have key : ∀ sm : Int32, f (rNx f L (rTkP f L P 36)) - sm = nI j → 
        ((mPlB f L ta col bit sm (mPlA f L ta bit (Q, arr, w))).1 = rNx f L (rTkP f L (rNx f L (rTkP f L P 36) + 1) 36) ∧
         (mPlB f L ta col bit sm (mPlA f L ta bit (Q, arr, w))).2.1 = upd (upd (upd arr (ta + 5) (v 5 + nI (bit * dN f L P))) (ta + col) (nI j)) (ta + 5) (v 5 + nI (bit * (dN f L P + 2 * dN f L (rNx f L (rTkP f L P 36) + 1)))) ∧ (mPlB f L ta col bit sm (mPlA f L ta bit (Q, arr, w))).2.2 = w) := by
      intro sm hs
      unfold mPlB
      refine ⟨?_, ?_, rfl⟩
      · show rNx f L (mDolP f L ((mPlA f L ta bit (Q, arr, w)).1 + 1)) = _
        rw [hA, dolP_eq (by omega) rfl, rNx_idem (rTkP_le (by omega) (by decide))]
      · show upd (upd (mPlA f L ta bit (Q, arr, w)).2.1 (ta + col) (f (mPlA f L ta bit (Q, arr, w)).1 - sm)) (ta + 5) (upd (mPlA f L ta bit (Q, arr, w)).2.1 (ta + col) (f (mPlA f L ta bit (Q, arr, w)).1 - sm) (ta + 5) + mDolV f L ((mPlA f L ta bit (Q, arr, w)).1 + 1) (2 * bit)) = _
        rw [hA, hA2, hs, dolV_eq rfl, upd_other _ _ (show ta + 5 ≠ ta + col by omega), upd_same, Int32.add_assoc, nI_add]
        congr 3
        rw [Nat.mul_add, Nat.mul_comm 2 bit, Nat.mul_assoc]
    have two : ∀ x : RS, x.1 = rNx f L (rTkP f L (rNx f L (rTkP f L P 36) + 1) 36) → x.2.1 = upd (upd (upd arr (ta + 5) (v 5 + nI (bit * dN f L P))) (ta + col) (nI j)) (ta + 5) (v 5 + nI (bit * (dN f L P + 2 * dN f L (rNx f L (rTkP f L P 36) + 1)))) → x.2.2 = w →
        (((if xIsW (rCh f L (rTkP f L (rNx f L (rTkP f L P 36) + 1) 36) - 49) 0 5 = true then (tOfPl (nI j) (rCh f L (rTkP f L (rNx f L (rTkP f L P 36) + 1) 36) - 49) ((if rTkB f L P 36 = true then 1 else 0) + (if rTkB f L (rNx f L (rTkP f L P 36) + 1) 36 = true then 2 else 0)), rNx f L (rTkP f L (rNx f L (rTkP f L P 36) + 1) 36) + 1) else ((0 : Int32), rNx f L (rTkP f L (rNx f L (rTkP f L P 36) + 1) 36))).1 = 0 ∧ (mPlC f L ta col x).1 = false ∧ (mPlC f L ta col x).2.1 = (if xIsW (rCh f L (rTkP f L (rNx f L (rTkP f L P 36) + 1) 36) - 49) 0 5 = true then (tOfPl (nI j) (rCh f L (rTkP f L (rNx f L (rTkP f L P 36) + 1) 36) - 49) ((if rTkB f L P 36 = true then 1 else 0) + (if rTkB f L (rNx f L (rTkP f L P 36) + 1) 36 = true then 2 else 0)), rNx f L (rTkP f L (rNx f L (rTkP f L P 36) + 1) 36) + 1) else ((0 : Int32), rNx f L (rTkP f L (rNx f L (rTkP f L P 36) + 1) 36))).2 ∧ rNx f L (if xIsW (rCh f L (rTkP f L (rNx f L (rTkP f L P 36) + 1) 36) - 49) 0 5 = true then (tOfPl (nI j) (rCh f L (rTkP f L (rNx f L (rTkP f L P 36) + 1) 36) - 49) ((if rTkB f L P 36 = true then 1 else 0) + (if rTkB f L (rNx f L (rTkP f L P 36) + 1) 36 = true then 2 else 0)), rNx f L (rTkP f L (rNx f L (rTkP f L P 36) + 1) 36) + 1) else ((0 : Int32), rNx f L (rTkP f L (rNx f L (rTkP f L P 36) + 1) 36))).2 = (if xIsW (rCh f L (rTkP f L (rNx f L (rTkP f L P 36) + 1) 36) - 49) 0 5 = true then (tOfPl (nI j) (rCh f L (rTkP f L (rNx f L (rTkP f L P 36) + 1) 36) - 49) ((if rTkB f L P 36 = true then 1 else 0) + (if rTkB f L (rNx f L (rTkP f L P 36) + 1) 36 = true then 2 else 0)), rNx f L (rTkP f L (rNx f L (rTkP f L P 36) + 1) 36) + 1) else ((0 : Int32), rNx f L (rTkP f L (rNx f L (rTkP f L P 36) + 1) 36))).2) ∨
        ∃ fx j' r, fx < 4 ∧ j' < 6 ∧ r < 6 ∧ (if xIsW (rCh f L (rTkP f L (rNx f L (rTkP f L P 36) + 1) 36) - 49) 0 5 = true then (tOfPl (nI j) (rCh f L (rTkP f L (rNx f L (rTkP f L P 36) + 1) 36) - 49) ((if rTkB f L P 36 = true then 1 else 0) + (if rTkB f L (rNx f L (rTkP f L P 36) + 1) 36 = true then 2 else 0)), rNx f L (rTkP f L (rNx f L (rTkP f L P 36) + 1) 36) + 1) else ((0 : Int32), rNx f L (rTkP f L (rNx f L (rTkP f L P 36) + 1) 36))).1 = eP fx j' r ∧ (mPlC f L ta col x).1 = true ∧ (mPlC f L ta col x).2.1 = (if xIsW (rCh f L (rTkP f L (rNx f L (rTkP f L P 36) + 1) 36) - 49) 0 5 = true then (tOfPl (nI j) (rCh f L (rTkP f L (rNx f L (rTkP f L P 36) + 1) 36) - 49) ((if rTkB f L P 36 = true then 1 else 0) + (if rTkB f L (rNx f L (rTkP f L P 36) + 1) 36 = true then 2 else 0)), rNx f L (rTkP f L (rNx f L (rTkP f L P 36) + 1) 36) + 1) else ((0 : Int32), rNx f L (rTkP f L (rNx f L (rTkP f L P 36) + 1) 36))).2 ∧ (mPlC f L ta col x).2.2.2 = w ∧
          at6 (mPlC f L ta col x).2.2.1 ta (fun z => if z = col + 1 then nI r else if z = 5 then v 5 + nI (bit * fx) else if z = col then nI j' else v z) ∧ off6 arr (mPlC f L ta col x).2.2.1 ta) := by
      intro x h1 h2 h3
      have hch2 : rCh f L (rTkP f L (rNx f L (rTkP f L P 36) + 1) 36) = rAt f L (rNx f L (rTkP f L (rNx f L (rTkP f L P 36) + 1) 36)) := rfl
      unfold mPlC
      rw [hch2, h1]
      rcases at_row hT (rNx f L (rTkP f L (rNx f L (rTkP f L P 36) + 1) 36)) with ⟨r1, r2⟩ | ⟨r, hr, r1, r2, r3, r4, r5⟩
      · left
        rw [r1, r2, if_neg (by decide), if_neg (by decide)]
        exact ⟨rfl, rfl, rfl, rNx_idem (rTkP_le (by omega) (by decide))⟩
      · right
        have hd1 := dN_lt f L P
        have hd2 := dN_lt f L (rNx f L (rTkP f L P 36) + 1)
        refine ⟨dN f L P + 2 * dN f L (rNx f L (rTkP f L P 36) + 1), j, r, by omega, hj, hr, ?_⟩
        rw [r1, r4, r2, r5, if_pos rfl, if_pos rfl, tkB_eq, tkB_eq2, nI_add, ofPl (by omega) (by omega) (by omega)]
        refine ⟨rfl, rfl, rfl, h3, ?_, ?_⟩
        · show at6 (upd x.2.1 (ta + col + 1) (nI r)) ta _
          rw [h2]
          refine at6_v (at6_upd (i := col + 1) (at6_upd (i := 5) (at6_upd (i := col) (at6_upd (i := 5) ha)))) ?_
          intro z hz
          by_cases z1 : z = col + 1
          · simp [z1]
          · by_cases z2 : z = 5
            · simp [z1, z2]
            · by_cases z3 : z = col
              · simp [z1, z2, z3]
              · simp [z1, z2, z3]
        · show off6 arr (upd x.2.1 (ta + (col + 1)) (nI r)) ta
          rw [h2]
          exact off6_upd (off6_upd (off6_upd (off6_upd (off6_rfl arr ta) (by decide)) (by omega)) (by decide)) (by omega)
    rw [if_neg (by rw [c1]; exact ne_m1 (by omega)), c1]
    rcases hh with ⟨g1, g2⟩ | ⟨g1, g2, g3⟩
    · rw [g1, if_pos rfl]
      exact two _ (key 97 g2).1 (key 97 g2).2.1 (key 97 g2).2.2
    · rw [g1, g2, if_neg (show ¬ (false = true) from Bool.false_ne_true), if_pos rfl]
      exact two _ (key 65 g3).1 (key 65 g3).2.1 (key 65 g3).2.2
