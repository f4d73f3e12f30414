/-! the reference: its functions that touch no object, and its reading of the text. P the spot, g the row that is read into, wr where it is wrong -/
abbrev RS : Type := Nat × (Nat → Int32) × Int32
def mS (st : ST) (x : RS) : ST := sI (sI (sA st 5 x.2.1) 2 (nI x.1)) 3 x.2.2
theorem mS_2 (st : ST) (P : Nat) (g : Nat → Int32) (wr : Int32) (p : Nat) : sI (mS st (P, g, wr)) 2 (nI p) = mS st (p, g, wr) := by
  unfold mS
  dsimp only
  rw [sI_comm _ (show (3 : Nat) ≠ 2 by decide), sI_sI]
theorem mS_3 (st : ST) (P : Nat) (g : Nat → Int32) (wr : Int32) (v : Int32) : sI (mS st (P, g, wr)) 3 v = mS st (P, g, v) := by
  unfold mS
  dsimp only
  rw [sI_sI]
theorem mS_5 (st : ST) (P : Nat) (g : Nat → Int32) (wr : Int32) (g2 : Nat → Int32) : sA (mS st (P, g, wr)) 5 g2 = mS st (P, g2, wr) := by
  unfold mS
  dsimp only
  rw [sA_sI, sA_sI, sA_sA]
theorem mS_self {st : ST} {P : Nat} {g : Nat → Int32} {wr : Int32} (h : st.1 2 = nI P) (h2 : st.2.1 5 = g) (h3 : st.1 3 = wr) : mS st (P, g, wr) = st := by
  unfold mS
  dsimp only
  rw [sA_self h2, sI_self h, sI_self h3]
theorem eqM {G : GM} {s : State} {ad : Nat → Nat} {ex : va_W} {a b : ST} {H : Heap} {locs : List Loc} (N : Now G s (MW G ad a ++ ex) H locs) (h : a = b) : Now G s (MW G ad b ++ ex) H locs := h ▸ N
def mAt (f : Nat → Int32) (L P : Nat) (lo hi : Int32) : Bool := decide (P < L) && xIsW (f P) lo hi
def mDolP (f : Nat → Int32) (L P : Nat) : Nat := if mAt f L (rNx f L P) 36 36 = true then rNx f L (rNx f L P + 1) else rNx f L P
def mDolV (f : Nat → Int32) (L P bit : Nat) : Int32 := if mAt f L (rNx f L P) 36 36 = true then nI bit else 0
def mNumL (f : Nat → Int32) (L : Nat) : Nat → Nat → Int32 → Bool × Nat × Int32
  | 0, P, v => if mAt f L P 48 57 = true then (false, P, v) else (true, P, v)
  | k + 1, P, v => if mAt f L P 48 57 = true then mNumL f L k (P + 1) (10 * v + f P - 48) else (true, P, v)
def mNum (f : Nat → Int32) (L ta : Nat) (x : RS) : Bool × RS :=
  if (mNumL f L 3 x.1 0).1 = true then (true, ((mNumL f L 3 x.1 0).2.1, upd (upd x.2.1 (ta + 0) 0) (ta + 1) (mNumL f L 3 x.1 0).2.2, x.2.2))
  else (false, ((mNumL f L 3 x.1 0).2.1, x.2.1, nI (mNumL f L 3 x.1 0).2.1))
def mPlA (f : Nat → Int32) (L ta bit : Nat) (x : RS) : RS := (mDolP f L x.1, upd x.2.1 (ta + 5) (x.2.1 (ta + 5) + mDolV f L x.1 bit), x.2.2)
def mPlB (f : Nat → Int32) (L ta col bit : Nat) (sm : Int32) (x : RS) : RS :=
  (rNx f L (mDolP f L (x.1 + 1)), upd (upd x.2.1 (ta + col) (f x.1 - sm)) (ta + 5) (upd x.2.1 (ta + col) (f x.1 - sm) (ta + 5) + mDolV f L (x.1 + 1) (2 * bit)), x.2.2)
def mPlC (f : Nat → Int32) (L ta col : Nat) (x : RS) : Bool × RS :=
  if mAt f L x.1 49 54 = true then (true, (x.1 + 1, upd x.2.1 (ta + col + 1) (f x.1 - 49), x.2.2)) else (false, (x.1, x.2.1, nI x.1))
def mPl (f : Nat → Int32) (L ta col bit : Nat) (x : RS) : Bool × RS :=
  if mAt f L (mPlA f L ta bit x).1 97 102 = true then mPlC f L ta col (mPlB f L ta col bit 97 (mPlA f L ta bit x))
  else if mAt f L (mPlA f L ta bit x).1 65 70 = true then mPlC f L ta col (mPlB f L ta col bit 65 (mPlA f L ta bit x))
  else (false, ((mPlA f L ta bit x).1, (mPlA f L ta bit x).2.1, nI (mPlA f L ta bit x).1))
def mSort1 (g : Nat → Int32) (ta one two : Nat) : Nat → Int32 := upd (upd g (ta + one) (g (ta + two))) (ta + two) (g (ta + one))
def mSort (g : Nat → Int32) (ta one two bit : Nat) : Nat → Int32 :=
  if g (ta + two) < g (ta + one) then
    upd (mSort1 g ta one two) (ta + 5) (mSort1 g ta one two (ta + 5) - (mSort1 g ta one two (ta + 5) &&& nI bit) - (mSort1 g ta one two (ta + 5) &&& nI (4 * bit)) + 4 * (mSort1 g ta one two (ta + 5) &&& nI bit) + (mSort1 g ta one two (ta + 5) &&& nI (4 * bit)) / 4)
  else g
def mTermB (f : Nat → Int32) (L ta : Nat) (x : RS) : Bool × RS :=
  if mAt f L (rNx f L x.1) 58 58 = true then
    (if (mPl f L ta 3 4 (rNx f L x.1 + 1, upd x.2.1 (ta + 0) 2, x.2.2)).1 = true then
      (true, ((mPl f L ta 3 4 (rNx f L x.1 + 1, upd x.2.1 (ta + 0) 2, x.2.2)).2.1, mSort (mSort (mPl f L ta 3 4 (rNx f L x.1 + 1, upd x.2.1 (ta + 0) 2, x.2.2)).2.2.1 ta 1 3 1) ta 2 4 2, (mPl f L ta 3 4 (rNx f L x.1 + 1, upd x.2.1 (ta + 0) 2, x.2.2)).2.2.2))
     else (false, (mPl f L ta 3 4 (rNx f L x.1 + 1, upd x.2.1 (ta + 0) 2, x.2.2)).2))
  else (true, (rNx f L x.1, x.2.1, x.2.2))
def mTerm (f : Nat → Int32) (L ta : Nat) (x : RS) : Bool × RS :=
  if mAt f L (rNx f L x.1) 35 35 = true then (true, (rNx f L x.1 + 1, upd x.2.1 (ta + 0) 3, x.2.2))
  else if mAt f L (rNx f L x.1) 48 57 = true then mNum f L ta (rNx f L x.1, x.2.1, x.2.2)
  else if (mPl f L ta 1 1 (rNx f L x.1, upd x.2.1 (ta + 0) 1, x.2.2)).1 = true then mTermB f L ta (mPl f L ta 1 1 (rNx f L x.1, upd x.2.1 (ta + 0) 1, x.2.2)).2
  else (false, (mPl f L ta 1 1 (rNx f L x.1, upd x.2.1 (ta + 0) 1, x.2.2)).2)
def mRdL (f : Nat → Int32) (L : Nat) : Nat → Nat → Bool → RS → Bool × RS
  | _, _, false, x => if x.1 = L then (true, x) else (false, (x.1, x.2.1, nI x.1))
  | 0, _, true, x => (false, (rNx f L x.1, x.2.1, nI (rNx f L x.1)))
  | k + 1, n, true, x =>
    if (mTerm f L (1 + 6 * n) (rNx f L x.1, x.2.1, x.2.2)).1 = true then
      mRdL f L k (n + 1) (mAt f L (rNx f L (mTerm f L (1 + 6 * n) (rNx f L x.1, x.2.1, x.2.2)).2.1) 43 43)
        (if mAt f L (rNx f L (mTerm f L (1 + 6 * n) (rNx f L x.1, x.2.1, x.2.2)).2.1) 43 43 = true then rNx f L (mTerm f L (1 + 6 * n) (rNx f L x.1, x.2.1, x.2.2)).2.1 + 1 else rNx f L (mTerm f L (1 + 6 * n) (rNx f L x.1, x.2.1, x.2.2)).2.1,
         upd (mTerm f L (1 + 6 * n) (rNx f L x.1, x.2.1, x.2.2)).2.2.1 0 (nI (n + 1)), (mTerm f L (1 + 6 * n) (rNx f L x.1, x.2.1, x.2.2)).2.2.2)
    else (false, ((mTerm f L (1 + 6 * n) (rNx f L x.1, x.2.1, x.2.2)).2.1, (mTerm f L (1 + 6 * n) (rNx f L x.1, x.2.1, x.2.2)).2.2.1, nI (mTerm f L (1 + 6 * n) (rNx f L x.1, x.2.1, x.2.2)).2.1))
theorem mAt_lt {f : Nat → Int32} {L P : Nat} {a b : Int32} (h : mAt f L P a b = true) : P < L := by
  unfold mAt at h
  simp at h
  exact h.1
theorem mDolP_le {f : Nat → Int32} {L P : Nat} (h : P ≤ L) : mDolP f L P ≤ L := by
  unfold mDolP
  split
  · rename_i e; exact rNx_le (mAt_lt e)
  · exact rNx_le h
theorem mNumL_le {f : Nat → Int32} {L : Nat} : ∀ (k P : Nat) (v : Int32), P ≤ L → (mNumL f L k P v).2.1 ≤ L
  | 0, P, v, h => by unfold mNumL; split <;> exact h
  | k + 1, P, v, h => by
    unfold mNumL
    split
    · rename_i e; exact mNumL_le k (P + 1) _ (mAt_lt e)
    · exact h
theorem mNum_le {f : Nat → Int32} {L ta : Nat} {x : RS} (h : x.1 ≤ L) : (mNum f L ta x).2.1 ≤ L := by
  unfold mNum
  split <;> exact mNumL_le 3 x.1 0 h
theorem mPlA_le {f : Nat → Int32} {L ta bit : Nat} {x : RS} (h : x.1 ≤ L) : (mPlA f L ta bit x).1 ≤ L := mDolP_le h
theorem mPlB_le {f : Nat → Int32} {L ta col bit : Nat} {sm : Int32} {x : RS} (h : x.1 < L) : (mPlB f L ta col bit sm x).1 ≤ L := rNx_le (mDolP_le h)
theorem mPlC_le {f : Nat → Int32} {L ta col : Nat} {x : RS} (h : x.1 ≤ L) : (mPlC f L ta col x).2.1 ≤ L := by
  unfold mPlC
  split
  · rename_i e; exact mAt_lt e
  · exact h
theorem mPl_le {f : Nat → Int32} {L ta col bit : Nat} {x : RS} (h : x.1 ≤ L) : (mPl f L ta col bit x).2.1 ≤ L := by
  unfold mPl
  split
  · rename_i e; exact mPlC_le (mPlB_le (mAt_lt e))
  · split
    · rename_i e; exact mPlC_le (mPlB_le (mAt_lt e))
    · exact mDolP_le h
theorem mTermB_le {f : Nat → Int32} {L ta : Nat} {x : RS} (h : x.1 ≤ L) : (mTermB f L ta x).2.1 ≤ L := by
  unfold mTermB
  split
  · rename_i e
    have h1 : (mPl f L ta 3 4 (rNx f L x.1 + 1, upd x.2.1 (ta + 0) 2, x.2.2)).2.1 ≤ L := mPl_le (mAt_lt e)
    split <;> exact h1
  · exact rNx_le h
theorem mTerm_le {f : Nat → Int32} {L ta : Nat} {x : RS} (h : x.1 ≤ L) : (mTerm f L ta x).2.1 ≤ L := by
  unfold mTerm
  split
  · rename_i e; exact mAt_lt e
  · split
    · exact mNum_le (rNx_le h)
    · have h1 : (mPl f L ta 1 1 (rNx f L x.1, upd x.2.1 (ta + 0) 1, x.2.2)).2.1 ≤ L := mPl_le (rNx_le h)
      split
      · exact mTermB_le h1
      · exact h1
set_option maxHeartbeats 4000000 in
set_option maxRecDepth 100000 in
theorem c_X9_in (l : Launch) (G : GM) (w : va_W) (x : Int32) (a : Int32) (b : Int32) : XCi l G yX9_in cX9_in 3 (some .boolean) 0 [.int x, .int a, .int b] (w) (bI (xIsW x a b)) (w) := by
  refine xi_start (by decide) (nar_bI _) (Nat.le_of_ble_eq_true rfl) ?_
  intro zp ze zs zm zargs zbelow zmeth zc zQ ls F N hl hret
  have hx := F.1
  have hb := F.2.1
  have hl : lv_has ls 3 [(0, .int x), (1, .int a), (2, .int b)] := hl
  refine lv_iload_n hx hb dX9_in_0 rfl (lv_at hl 0 rfl) ?_
  refine lv_iload_n hx hb dX9_in_1 rfl (lv_at hl 1 rfl) ?_
  refine lv_icmp_lt (tgt := 14) hx hb dX9_in_2 (by decide) (fun c_2 => ?_) (fun c_2 => ?_)
  · have c_2v := lt_nle c_2
    refine lv_iconst (v := 0) hx hb dX9_in_14 (by decide) ?_
    exact hret _ _ _ _ _ _ dX9_in_15 (by first | rfl | (simp [bI, xIsW, c_2, c_2v])) (by first | rfl | (simp [bI, xIsW, c_2, c_2v])) N
  · have c_2v := nlt_le c_2
    refine lv_iload_n hx hb dX9_in_5 rfl (lv_at hl 0 rfl) ?_
    refine lv_iload_n hx hb dX9_in_6 rfl (lv_at hl 2 rfl) ?_
    refine lv_icmp_gt (tgt := 14) hx hb dX9_in_7 (by decide) (fun c_7 => ?_) (fun c_7 => ?_)
    · have c_7v := lt_nle c_7
      refine lv_iconst (v := 0) hx hb dX9_in_14 (by decide) ?_
      exact hret _ _ _ _ _ _ dX9_in_15 (by first | rfl | (simp [bI, xIsW, c_2, c_2v, c_7, c_7v])) (by first | rfl | (simp [bI, xIsW, c_2, c_2v, c_7, c_7v])) N
    · have c_7v := nlt_le c_7
      refine lv_iconst (v := 1) hx hb dX9_in_10 (by decide) ?_
      refine lv_goto (tgt := 15) hx hb dX9_in_11 (by decide) ?_
      exact hret _ _ _ _ _ _ dX9_in_15 (by first | rfl | (simp [bI, xIsW, c_2, c_2v, c_7, c_7v])) (by first | rfl | (simp [bI, xIsW, c_2, c_2v, c_7, c_7v])) N
set_option maxHeartbeats 4000000 in
set_option maxRecDepth 100000 in
theorem c_X9_isCell (l : Launch) (G : GM) (w : va_W) (c : Int32) (r : Int32) : XCi l G yX9_isCell cX9_isCell 2 (some .boolean) 1 [.int c, .int r] (w) (bI (xIsPl c r)) (w) := by
  refine xi_start (by decide) (nar_bI _) (Nat.le_of_ble_eq_true rfl) ?_
  intro zp ze zs zm zargs zbelow zmeth zc zQ ls F N hl hret
  have hx := F.1
  have hb := F.2.1
  have hl : lv_has ls 2 [(0, .int c), (1, .int r)] := hl
  refine lv_iload_n hx hb dX9_isCell_0 rfl (lv_at hl 0 rfl) ?_
  refine lv_iconst (v := 0) hx hb dX9_isCell_1 (by decide) ?_
  refine lv_iconst (v := 5) hx hb dX9_isCell_2 (by decide) ?_
  refine cS_i F N (c_X9_in l G _ c 0 5) miX9_in k_760 (by decide) hl.1 rfl (Nat.le_of_ble_eq_true rfl) dX9_isCell_3 (fun H locs N => ?_)
  refine ifB_eq (tgt := 22) hx hb dX9_isCell_6 (by decide) (fun c_6 => ?_) (fun c_6 => ?_)
  · refine lv_iconst (v := 0) hx hb dX9_isCell_22 (by decide) ?_
    exact hret _ _ _ _ _ _ dX9_isCell_23 (by first | rfl | (simp [bI, xIsPl, c_6])) (by first | rfl | (simp [bI, xIsPl, c_6])) N
  · refine lv_iload_n hx hb dX9_isCell_9 rfl (lv_at hl 1 rfl) ?_
    refine lv_iconst (v := 0) hx hb dX9_isCell_10 (by decide) ?_
    refine lv_iconst (v := 5) hx hb dX9_isCell_11 (by decide) ?_
    refine cS_i F N (c_X9_in l G _ r 0 5) miX9_in k_760 (by decide) hl.1 rfl (Nat.le_of_ble_eq_true rfl) dX9_isCell_12 (fun H locs N => ?_)
    refine ifB_eq (tgt := 22) hx hb dX9_isCell_15 (by decide) (fun c_15 => ?_) (fun c_15 => ?_)
    · refine lv_iconst (v := 0) hx hb dX9_isCell_22 (by decide) ?_
      exact hret _ _ _ _ _ _ dX9_isCell_23 (by first | rfl | (simp [bI, xIsPl, c_6, c_15])) (by first | rfl | (simp [bI, xIsPl, c_6, c_15])) N
    · refine lv_iconst (v := 1) hx hb dX9_isCell_18 (by decide) ?_
      refine lv_goto (tgt := 23) hx hb dX9_isCell_19 (by decide) ?_
      exact hret _ _ _ _ _ _ dX9_isCell_23 (by first | rfl | (simp [bI, xIsPl, c_6, c_15])) (by first | rfl | (simp [bI, xIsPl, c_6, c_15])) N
set_option maxHeartbeats 4000000 in
set_option maxRecDepth 100000 in
theorem c_X9_placeOf (l : Launch) (G : GM) (w : va_W) (c : Nat) (r : Nat) : XCi l G yX9_placeOf cX9_placeOf 2 (some .int) 0 [.int (nI c), .int (nI r)] (w) (nI (25 * (6 * r + c))) (w) := by
  refine xi_start (by decide) rfl (Nat.le_of_ble_eq_true rfl) ?_
  intro zp ze zs zm zargs zbelow zmeth zc zQ ls F N hl hret
  have hx := F.1
  have hb := F.2.1
  have hl : lv_has ls 2 [(0, .int (nI c)), (1, .int (nI r))] := hl
  refine lv_bipush (v := 25) hx hb dX9_placeOf_0 (by decide) ?_
  refine lv_bipush (v := 6) hx hb dX9_placeOf_2 (by decide) ?_
  refine lv_iload_n hx hb dX9_placeOf_4 rfl (lv_at hl 1 rfl) ?_
  refine imulN (a := 6) (b := r) hx hb dX9_placeOf_5 ?_
  refine lv_iload_n hx hb dX9_placeOf_6 rfl (lv_at hl 0 rfl) ?_
  refine iaddN (a := (6 * r)) (b := c) hx hb dX9_placeOf_7 ?_
  refine imulN (a := 25) (b := ((6 * r) + c)) hx hb dX9_placeOf_8 ?_
  exact hret _ _ _ _ _ _ dX9_placeOf_9 (by first | rfl | (simp [bI])) (by first | rfl | (simp [bI])) N
set_option maxHeartbeats 4000000 in
set_option maxRecDepth 100000 in
theorem c_X9_termPlace (l : Launch) (G : GM) (w : va_W) (ce : Nat) (i : Nat) : XCi l G yX9_termPlace cX9_termPlace 2 (some .int) 0 [.int (nI ce), .int (nI i)] (w) (nI (ce + 1 + 6 * i)) (w) := by
  refine xi_start (by decide) rfl (Nat.le_of_ble_eq_true rfl) ?_
  intro zp ze zs zm zargs zbelow zmeth zc zQ ls F N hl hret
  have hx := F.1
  have hb := F.2.1
  have hl : lv_has ls 2 [(0, .int (nI ce)), (1, .int (nI i))] := hl
  refine lv_iload_n hx hb dX9_termPlace_0 rfl (lv_at hl 0 rfl) ?_
  refine lv_iconst (v := 1) hx hb dX9_termPlace_1 (by decide) ?_
  refine iaddN (a := ce) (b := 1) hx hb dX9_termPlace_2 ?_
  refine lv_bipush (v := 6) hx hb dX9_termPlace_3 (by decide) ?_
  refine lv_iload_n hx hb dX9_termPlace_5 rfl (lv_at hl 1 rfl) ?_
  refine imulN (a := 6) (b := i) hx hb dX9_termPlace_6 ?_
  refine iaddN (a := (ce + 1)) (b := (6 * i)) hx hb dX9_termPlace_7 ?_
  exact hret _ _ _ _ _ _ dX9_termPlace_8 (by first | rfl | (simp [bI])) (by first | rfl | (simp [bI])) N
set_option maxHeartbeats 4000000 in
set_option maxRecDepth 100000 in
theorem c_X9_blanks (l : Launch) (G : GM) (ad : Nat → Nat) (ex : va_W) (st : ST) (f : Nat → Int32) (L : Nat) (P : Nat) (g : Nat → Int32) (wr : Int32) (hf : st.2.1 4 = f) (hL : st.1 1 = nI L) (hL2 : L ≤ 60) (hP2 : P ≤ L) : MMv l G yX9_blanks cX9_blanks 1 none 0 [.ref (ad 0)] ad ex (mS st (P, g, wr)) (mS st (rNx f L P, g, wr)) := by
  refine xv_start (by decide) (Nat.le_of_ble_eq_true rfl) ?_
  intro zp ze zs zm zargs zbelow zmeth zc zQ ls F N hl hret
  have hx := F.1
  have hb := F.2.1
  have hl : lv_has ls 1 [(0, .ref (ad 0))] := hl
  have cut_0 : ∀ (k : Nat) (q : Nat), q + k = L → rSkip f k q = rNx f L P → ∀ (H : Heap) (locs : List Loc) (ls : Array Slot), Now G zs (MW G ad (mS st (q, g, wr)) ++ ex) H locs → lv_has ls 1 [(0, .ref (ad 0))] → W zp l ze (RM 0) zs zm zargs zbelow zmeth zc H locs 0 0 zQ (F0 zm 0 ls []) := by
    intro k
    induction k with
    | zero =>
      intro q hk hI H locs ls N hl
      refine lv_aload_n hx hb dX9_blanks_0 rfl (lv_at hl 0 rfl) ?_
      refine gm_0_spot F N k_690 dX9_blanks_1 ?_
      refine toN (a := q) rfl ?_
      refine lv_aload_n hx hb dX9_blanks_4 rfl (lv_at hl 0 rfl) ?_
      refine gm_0_bytes F N k_688 dX9_blanks_5 ?_
      refine toN (a := L) hL ?_
      refine cmpN_ge (a := q) (b := L) (tgt := 38) hx hb dX9_blanks_8 (by decide) (by omega) (by omega) (fun c_8 => ?_) (fun c_8 => ?_)
      · have c_8v := Nat.not_lt.mpr c_8
        exact hret _ _ _ _ _ dX9_blanks_38 (by rw [← hI]; simp [rSkip, c_8, c_8v]) N
      · exfalso; omega
    | succ k ih_0 =>
      intro q hk hI H locs ls N hl
      refine lv_aload_n hx hb dX9_blanks_0 rfl (lv_at hl 0 rfl) ?_
      refine gm_0_spot F N k_690 dX9_blanks_1 ?_
      refine toN (a := q) rfl ?_
      refine lv_aload_n hx hb dX9_blanks_4 rfl (lv_at hl 0 rfl) ?_
      refine gm_0_bytes F N k_688 dX9_blanks_5 ?_
      refine toN (a := L) hL ?_
      refine cmpN_ge (a := q) (b := L) (tgt := 38) hx hb dX9_blanks_8 (by decide) (by omega) (by omega) (fun c_8 => ?_) (fun c_8 => ?_)
      · exfalso; omega
      · have c_8v := Nat.not_le.mp c_8
        refine lv_aload_n hx hb dX9_blanks_11 rfl (lv_at hl 0 rfl) ?_
        refine gm_0_text F N k_687 dX9_blanks_12 ?_
        refine lv_aload_n hx hb dX9_blanks_15 rfl (lv_at hl 0 rfl) ?_
        refine gm_0_spot F N k_690 dX9_blanks_16 ?_
        refine toN (a := q) rfl ?_
        refine amN_4 (j := q) F N (by omega) dX9_blanks_19 ?_
        refine toI (y := f q) (congrFun hf _) ?_
        refine lv_bipush (v := 32) hx hb dX9_blanks_20 (by decide) ?_
        refine lv_icmp_ne (tgt := 38) hx hb dX9_blanks_22 (by decide) (fun c_22 => ?_) (fun c_22 => ?_)
        · exact hret _ _ _ _ _ dX9_blanks_38 (by rw [← hI]; simp [rSkip, c_8, c_8v, c_22]) N
        · refine lv_aload_n hx hb dX9_blanks_25 rfl (lv_at hl 0 rfl) ?_
          refine lv_dup hx hb dX9_blanks_26 rfl ?_
          refine gm_0_spot F N k_690 dX9_blanks_27 ?_
          refine toN (a := q) rfl ?_
          refine lv_iconst (v := 1) hx hb dX9_blanks_30 (by decide) ?_
          refine iaddN (a := q) (b := 1) hx hb dX9_blanks_31 ?_
          refine pm_0_spot F N k_690 dX9_blanks_32 (fun st_32 est_32 H locs N => ?_)
          replace N := eqM N (est_32.trans (mS_2 st q g wr (q + 1)))
          refine lv_goto (tgt := 0) hx hb dX9_blanks_35 (by decide) ?_
          exact ih_0 (q + 1) (by omega) (by rw [← hI]; simp [rSkip, c_8, c_8v, c_22]) _ _ _ N (lv_sub hl [0] rfl)
  exact cut_0 (L - P) P (by omega) rfl _ _ _ N (lv_sub hl [0] rfl)
set_option maxHeartbeats 4000000 in
set_option maxRecDepth 100000 in
theorem c_X9_isAt (l : Launch) (G : GM) (ad : Nat → Nat) (ex : va_W) (st : ST) (f : Nat → Int32) (L : Nat) (P : Nat) (g : Nat → Int32) (wr : Int32) (lo : Int32) (hi : Int32) (hf : st.2.1 4 = f) (hL : st.1 1 = nI L) (hL2 : L ≤ 60) (hP2 : P ≤ L) : MMi l G yX9_isAt cX9_isAt 3 (some .boolean) 1 [.ref (ad 0), .int lo, .int hi] ad ex (mS st (P, g, wr)) (bI (mAt f L P lo hi)) (mS st (P, g, wr)) := by
  refine xi_start (by decide) (nar_bI _) (Nat.le_of_ble_eq_true rfl) ?_
  intro zp ze zs zm zargs zbelow zmeth zc zQ ls F N hl hret
  have hx := F.1
  have hb := F.2.1
  have hl : lv_has ls 3 [(0, .ref (ad 0)), (1, .int lo), (2, .int hi)] := hl
  refine lv_aload_n hx hb dX9_isAt_0 rfl (lv_at hl 0 rfl) ?_
  refine gm_0_spot F N k_690 dX9_isAt_1 ?_
  refine toN (a := P) rfl ?_
  refine lv_aload_n hx hb dX9_isAt_4 rfl (lv_at hl 0 rfl) ?_
  refine gm_0_bytes F N k_688 dX9_isAt_5 ?_
  refine toN (a := L) hL ?_
  refine cmpN_ge (a := P) (b := L) (tgt := 32) hx hb dX9_isAt_8 (by decide) (by omega) (by omega) (fun c_8 => ?_) (fun c_8 => ?_)
  · have c_8v := Nat.not_lt.mpr c_8
    refine lv_iconst (v := 0) hx hb dX9_isAt_32 (by decide) ?_
    exact hret _ _ _ _ _ _ dX9_isAt_33 (by simp [mAt, bI, c_8, c_8v]) (by rfl) N
  · have c_8v := Nat.not_le.mp c_8
    refine lv_aload_n hx hb dX9_isAt_11 rfl (lv_at hl 0 rfl) ?_
    refine gm_0_text F N k_687 dX9_isAt_12 ?_
    refine lv_aload_n hx hb dX9_isAt_15 rfl (lv_at hl 0 rfl) ?_
    refine gm_0_spot F N k_690 dX9_isAt_16 ?_
    refine toN (a := P) rfl ?_
    refine amN_4 (j := P) F N (by omega) dX9_isAt_19 ?_
    refine toI (y := f P) (congrFun hf _) ?_
    refine lv_iload_n hx hb dX9_isAt_20 rfl (lv_at hl 1 rfl) ?_
    refine lv_iload_n hx hb dX9_isAt_21 rfl (lv_at hl 2 rfl) ?_
    refine cS_i F N (c_X9_in l G _ (f P) lo hi) miX9_in k_760 (by decide) hl.1 rfl (Nat.le_of_ble_eq_true rfl) dX9_isAt_22 (fun H locs N => ?_)
    refine ifB_eq (tgt := 32) hx hb dX9_isAt_25 (by decide) (fun c_25 => ?_) (fun c_25 => ?_)
    · refine lv_iconst (v := 0) hx hb dX9_isAt_32 (by decide) ?_
      exact hret _ _ _ _ _ _ dX9_isAt_33 (by simp [mAt, bI, c_8, c_8v, c_25]) (by rfl) N
    · refine lv_iconst (v := 1) hx hb dX9_isAt_28 (by decide) ?_
      refine lv_goto (tgt := 33) hx hb dX9_isAt_29 (by decide) ?_
      exact hret _ _ _ _ _ _ dX9_isAt_33 (by simp [mAt, bI, c_8, c_8v, c_25]) (by rfl) N
set_option maxHeartbeats 4000000 in
set_option maxRecDepth 100000 in
theorem c_X9_fails (l : Launch) (G : GM) (ad : Nat → Nat) (ex : va_W) (st : ST) (f : Nat → Int32) (L : Nat) (P : Nat) (g : Nat → Int32) (wr : Int32) (hf : st.2.1 4 = f) (hL : st.1 1 = nI L) (hL2 : L ≤ 60) (hP2 : P ≤ L) : MMi l G yX9_fails cX9_fails 1 (some .boolean) 0 [.ref (ad 0)] ad ex (mS st (P, g, wr)) (bI false) (mS st (P, g, nI P)) := by
  refine xi_start (by decide) (nar_bI _) (Nat.le_of_ble_eq_true rfl) ?_
  intro zp ze zs zm zargs zbelow zmeth zc zQ ls F N hl hret
  have hx := F.1
  have hb := F.2.1
  have hl : lv_has ls 1 [(0, .ref (ad 0))] := hl
  refine lv_aload_n hx hb dX9_fails_0 rfl (lv_at hl 0 rfl) ?_
  refine lv_aload_n hx hb dX9_fails_1 rfl (lv_at hl 0 rfl) ?_
  refine gm_0_spot F N k_690 dX9_fails_2 ?_
  refine toN (a := P) rfl ?_
  refine pm_0_wrongAt F N k_691 dX9_fails_5 (fun st_5 est_5 H locs N => ?_)
  replace N := eqM N (est_5.trans (mS_3 st P g wr (nI P)))
  refine lv_iconst (v := 0) hx hb dX9_fails_8 (by decide) ?_
  exact hret _ _ _ _ _ _ dX9_fails_9 (by rfl) (by rfl) N
set_option maxHeartbeats 4000000 in
set_option maxRecDepth 100000 in
theorem c_X9_takesNumber (l : Launch) (G : GM) (ad : Nat → Nat) (ex : va_W) (st : ST) (f : Nat → Int32) (L : Nat) (P : Nat) (g : Nat → Int32) (wr : Int32) (ta : Nat) (hf : st.2.1 4 = f) (hL : st.1 1 = nI L) (hL2 : L ≤ 60) (hP2 : P ≤ L) (hta : ta ≤ 19) : MMi l G yX9_takesNumber cX9_takesNumber 4 (some .boolean) 2 [.ref (ad 0), .int (nI ta)] ad ex (mS st (P, g, wr)) (bI ((mNum f L ta (P, g, wr)).1)) (mS st ((mNum f L ta (P, g, wr)).2.1, (mNum f L ta (P, g, wr)).2.2.1, (mNum f L ta (P, g, wr)).2.2.2)) := by
  refine xi_start (by decide) (nar_bI _) (Nat.le_of_ble_eq_true rfl) ?_
  intro zp ze zs zm zargs zbelow zmeth zc zQ ls F N hl hret
  have hx := F.1
  have hb := F.2.1
  have hl : lv_has ls 4 [(0, .ref (ad 0)), (1, .int (nI ta))] := hl
  refine lv_aload_n hx hb dX9_takesNumber_0 rfl (lv_at hl 0 rfl) ?_
  refine gm_0_spot F N k_690 dX9_takesNumber_1 ?_
  refine toN (a := P) rfl ?_
  refine lv_istore_n (lv' := [(2, .int (nI P)), (0, .ref (ad 0)), (1, .int (nI ta))]) hx hb dX9_takesNumber_4 rfl hl (by decide) rfl (fun ls hl => ?_)
  refine lv_iconst (v := 0) hx hb dX9_takesNumber_5 (by decide) ?_
  refine lv_istore_n (lv' := [(3, .int 0), (2, .int (nI P)), (0, .ref (ad 0)), (1, .int (nI ta))]) hx hb dX9_takesNumber_6 rfl hl (by decide) rfl (fun ls hl => ?_)
  have cut_7 : ∀ (k : Nat) (v : Int32) (q : Nat), q + k = P + 3 → q ≤ L → mNumL f L k q v = mNumL f L 3 P 0 → ∀ (H : Heap) (locs : List Loc) (ls : Array Slot), Now G zs (MW G ad (mS st (q, g, wr)) ++ ex) H locs → lv_has ls 4 [(0, .ref (ad 0)), (1, .int (nI ta)), (2, .int (nI P)), (3, .int v)] → W zp l ze (RM 2) zs zm zargs zbelow zmeth zc H locs 0 0 zQ (F0 zm 7 ls []) := by
    intro k
    induction k with
    | zero =>
      intro v q hk hq hI H locs ls N hl
      refine lv_aload_n hx hb dX9_takesNumber_7 rfl (lv_at hl 0 rfl) ?_
      refine lv_bipush (v := 48) hx hb dX9_takesNumber_8 (by decide) ?_
      refine lv_bipush (v := 57) hx hb dX9_takesNumber_10 (by decide) ?_
      refine cV_i F N (c_X9_isAt l G ad ex st f L q g wr 48 57 hf hL hL2 hq) miX9_isAt k_790 (by decide) hl.1 rfl (Nat.le_of_ble_eq_true rfl) (q0 := 0) (ci := 8) rfl rfl dX9_takesNumber_12 (fun H locs N => ?_)
      refine ifB_eq (tgt := 64) hx hb dX9_takesNumber_15 (by decide) (fun c_15 => ?_) (fun c_15 => ?_)
      · refine lv_aload_n hx hb dX9_takesNumber_64 rfl (lv_at hl 0 rfl) ?_
        refine gm_0_read F N k_689 dX9_takesNumber_65 ?_
        refine lv_iload_n hx hb dX9_takesNumber_68 rfl (lv_at hl 1 rfl) ?_
        refine lv_iconst (v := 0) hx hb dX9_takesNumber_69 (by decide) ?_
        refine iaddN (a := ta) (b := 0) hx hb dX9_takesNumber_70 ?_
        refine lv_iconst (v := 0) hx hb dX9_takesNumber_71 (by decide) ?_
        refine smN_5 (j := (ta + 0)) F N (by omega) dX9_takesNumber_72 (fun st_72 est_72 H locs N => ?_)
        replace N := eqM N (est_72.trans (mS_5 st q g wr (upd g (ta + 0) 0)))
        refine lv_aload_n hx hb dX9_takesNumber_73 rfl (lv_at hl 0 rfl) ?_
        refine gm_0_read F N k_689 dX9_takesNumber_74 ?_
        refine lv_iload_n hx hb dX9_takesNumber_77 rfl (lv_at hl 1 rfl) ?_
        refine lv_iconst (v := 1) hx hb dX9_takesNumber_78 (by decide) ?_
        refine iaddN (a := ta) (b := 1) hx hb dX9_takesNumber_79 ?_
        refine lv_iload_n hx hb dX9_takesNumber_80 rfl (lv_at hl 3 rfl) ?_
        refine smN_5 (j := (ta + 1)) F N (by omega) dX9_takesNumber_81 (fun st_81 est_81 H locs N => ?_)
        replace N := eqM N (est_81.trans (mS_5 st q (upd g (ta + 0) 0) wr (upd (upd g (ta + 0) 0) (ta + 1) v)))
        refine lv_iconst (v := 1) hx hb dX9_takesNumber_82 (by decide) ?_
        exact hret _ _ _ _ _ _ dX9_takesNumber_83 (by have h9 : mNumL f L 3 P 0 = (true, q, v) := (by rw [← hI, mNumL, if_neg (by rw [c_15]; decide)]); simp [bI, mNum, h9]) (by have h9 : mNumL f L 3 P 0 = (true, q, v) := (by rw [← hI, mNumL, if_neg (by rw [c_15]; decide)]); simp [mNum, h9]) N
      · refine lv_aload_n hx hb dX9_takesNumber_18 rfl (lv_at hl 0 rfl) ?_
        refine gm_0_spot F N k_690 dX9_takesNumber_19 ?_
        refine toN (a := q) rfl ?_
        refine lv_iload_n hx hb dX9_takesNumber_22 rfl (lv_at hl 2 rfl) ?_
        refine lv_iconst (v := 3) hx hb dX9_takesNumber_23 (by decide) ?_
        refine iaddN (a := P) (b := 3) hx hb dX9_takesNumber_24 ?_
        refine cmpN_ne (a := q) (b := (P + 3)) (tgt := 33) hx hb dX9_takesNumber_25 (by decide) (by omega) (by omega) (fun c_25 => ?_) (fun c_25 => ?_)
        · exfalso; omega
        · refine lv_aload_n hx hb dX9_takesNumber_28 rfl (lv_at hl 0 rfl) ?_
          refine cV_i F N (c_X9_fails l G ad ex st f L q g wr hf hL hL2 hq) miX9_fails k_798 (by decide) hl.1 rfl (Nat.le_of_ble_eq_true rfl) (q0 := 0) (ci := 8) rfl rfl dX9_takesNumber_29 (fun H locs N => ?_)
          exact hret _ _ _ _ _ _ dX9_takesNumber_32 (by have h9 : mNumL f L 3 P 0 = (false, q, v) := (by rw [← hI, mNumL, if_pos c_15]); simp [bI, mNum, h9]) (by have h9 : mNumL f L 3 P 0 = (false, q, v) := (by rw [← hI, mNumL, if_pos c_15]); simp [mNum, h9]) N
    | succ k ih_7 =>
      intro v q hk hq hI H locs ls N hl
      refine lv_aload_n hx hb dX9_takesNumber_7 rfl (lv_at hl 0 rfl) ?_
      refine lv_bipush (v := 48) hx hb dX9_takesNumber_8 (by decide) ?_
      refine lv_bipush (v := 57) hx hb dX9_takesNumber_10 (by decide) ?_
      refine cV_i F N (c_X9_isAt l G ad ex st f L q g wr 48 57 hf hL hL2 hq) miX9_isAt k_790 (by decide) hl.1 rfl (Nat.le_of_ble_eq_true rfl) (q0 := 0) (ci := 8) rfl rfl dX9_takesNumber_12 (fun H locs N => ?_)
      refine ifB_eq (tgt := 64) hx hb dX9_takesNumber_15 (by decide) (fun c_15 => ?_) (fun c_15 => ?_)
      · refine lv_aload_n hx hb dX9_takesNumber_64 rfl (lv_at hl 0 rfl) ?_
        refine gm_0_read F N k_689 dX9_takesNumber_65 ?_
        refine lv_iload_n hx hb dX9_takesNumber_68 rfl (lv_at hl 1 rfl) ?_
        refine lv_iconst (v := 0) hx hb dX9_takesNumber_69 (by decide) ?_
        refine iaddN (a := ta) (b := 0) hx hb dX9_takesNumber_70 ?_
        refine lv_iconst (v := 0) hx hb dX9_takesNumber_71 (by decide) ?_
        refine smN_5 (j := (ta + 0)) F N (by omega) dX9_takesNumber_72 (fun st_72 est_72 H locs N => ?_)
        replace N := eqM N (est_72.trans (mS_5 st q g wr (upd g (ta + 0) 0)))
        refine lv_aload_n hx hb dX9_takesNumber_73 rfl (lv_at hl 0 rfl) ?_
        refine gm_0_read F N k_689 dX9_takesNumber_74 ?_
        refine lv_iload_n hx hb dX9_takesNumber_77 rfl (lv_at hl 1 rfl) ?_
        refine lv_iconst (v := 1) hx hb dX9_takesNumber_78 (by decide) ?_
        refine iaddN (a := ta) (b := 1) hx hb dX9_takesNumber_79 ?_
        refine lv_iload_n hx hb dX9_takesNumber_80 rfl (lv_at hl 3 rfl) ?_
        refine smN_5 (j := (ta + 1)) F N (by omega) dX9_takesNumber_81 (fun st_81 est_81 H locs N => ?_)
        replace N := eqM N (est_81.trans (mS_5 st q (upd g (ta + 0) 0) wr (upd (upd g (ta + 0) 0) (ta + 1) v)))
        refine lv_iconst (v := 1) hx hb dX9_takesNumber_82 (by decide) ?_
        exact hret _ _ _ _ _ _ dX9_takesNumber_83 (by have h9 : mNumL f L 3 P 0 = (true, q, v) := (by rw [← hI, mNumL, if_neg (by rw [c_15]; decide)]); simp [bI, mNum, h9]) (by have h9 : mNumL f L 3 P 0 = (true, q, v) := (by rw [← hI, mNumL, if_neg (by rw [c_15]; decide)]); simp [mNum, h9]) N
      · refine lv_aload_n hx hb dX9_takesNumber_18 rfl (lv_at hl 0 rfl) ?_
        refine gm_0_spot F N k_690 dX9_takesNumber_19 ?_
        refine toN (a := q) rfl ?_
        refine lv_iload_n hx hb dX9_takesNumber_22 rfl (lv_at hl 2 rfl) ?_
        refine lv_iconst (v := 3) hx hb dX9_takesNumber_23 (by decide) ?_
        refine iaddN (a := P) (b := 3) hx hb dX9_takesNumber_24 ?_
        refine cmpN_ne (a := q) (b := (P + 3)) (tgt := 33) hx hb dX9_takesNumber_25 (by decide) (by omega) (by omega) (fun c_25 => ?_) (fun c_25 => ?_)
        · refine lv_bipush (v := 10) hx hb dX9_takesNumber_33 (by decide) ?_
          refine lv_iload_n hx hb dX9_takesNumber_35 rfl (lv_at hl 3 rfl) ?_
          refine lv_imul hx hb dX9_takesNumber_36 ?_
          refine lv_aload_n hx hb dX9_takesNumber_37 rfl (lv_at hl 0 rfl) ?_
          refine gm_0_text F N k_687 dX9_takesNumber_38 ?_
          refine lv_aload_n hx hb dX9_takesNumber_41 rfl (lv_at hl 0 rfl) ?_
          refine gm_0_spot F N k_690 dX9_takesNumber_42 ?_
          refine toN (a := q) rfl ?_
          refine amN_4 (j := q) F N (by have h9 := mAt_lt c_15; omega) dX9_takesNumber_45 ?_
          refine toI (y := f q) (congrFun hf _) ?_
          refine lv_iadd hx hb dX9_takesNumber_46 ?_
          refine lv_bipush (v := 48) hx hb dX9_takesNumber_47 (by decide) ?_
          refine lv_isub hx hb dX9_takesNumber_49 ?_
          refine lv_istore_n (lv' := [(3, .int ((((10 : Int32) * v) + (f q)) - (48 : Int32))), (0, .ref (ad 0)), (1, .int (nI ta)), (2, .int (nI P))]) hx hb dX9_takesNumber_50 rfl hl (by decide) rfl (fun ls hl => ?_)
          refine lv_aload_n hx hb dX9_takesNumber_51 rfl (lv_at hl 1 rfl) ?_
          refine lv_dup hx hb dX9_takesNumber_52 rfl ?_
          refine gm_0_spot F N k_690 dX9_takesNumber_53 ?_
          refine toN (a := q) rfl ?_
          refine lv_iconst (v := 1) hx hb dX9_takesNumber_56 (by decide) ?_
          refine iaddN (a := q) (b := 1) hx hb dX9_takesNumber_57 ?_
          refine pm_0_spot F N k_690 dX9_takesNumber_58 (fun st_58 est_58 H locs N => ?_)
          replace N := eqM N (est_58.trans (mS_2 st q g wr (q + 1)))
          refine lv_goto (tgt := 7) hx hb dX9_takesNumber_61 (by decide) ?_
          exact ih_7 ((((10 : Int32) * v) + (f q)) - (48 : Int32)) (q + 1) (by omega) (mAt_lt c_15) (by rw [← hI, mNumL, if_pos c_15]) _ _ _ N (lv_sub hl [1, 2, 3, 0] rfl)
        · exfalso; omega
  exact cut_7 3 0 P (by omega) hP2 rfl _ _ _ N (lv_sub hl [2, 3, 1, 0] rfl)
set_option maxHeartbeats 4000000 in
set_option maxRecDepth 100000 in
theorem c_X9_dollar (l : Launch) (G : GM) (ad : Nat → Nat) (ex : va_W) (st : ST) (f : Nat → Int32) (L : Nat) (P : Nat) (g : Nat → Int32) (wr : Int32) (bit : Nat) (hf : st.2.1 4 = f) (hL : st.1 1 = nI L) (hL2 : L ≤ 60) (hP2 : P ≤ L) : MMi l G yX9_dollar cX9_dollar 2 (some .int) 2 [.ref (ad 0), .int (nI bit)] ad ex (mS st (P, g, wr)) (mDolV f L P bit) (mS st (mDolP f L P, g, wr)) := by
  refine xi_start (by decide) rfl (Nat.le_of_ble_eq_true rfl) ?_
  intro zp ze zs zm zargs zbelow zmeth zc zQ ls F N hl hret
  have hx := F.1
  have hb := F.2.1
  have hl : lv_has ls 2 [(0, .ref (ad 0)), (1, .int (nI bit))] := hl
  refine lv_aload_n hx hb dX9_dollar_0 rfl (lv_at hl 0 rfl) ?_
  refine cV_v F N (c_X9_blanks l G ad ex st f L P g wr hf hL hL2 hP2) miX9_blanks k_782 (by decide) hl.1 rfl (Nat.le_of_ble_eq_true rfl) (q0 := 0) (ci := 8) rfl rfl dX9_dollar_1 (fun H locs N => ?_)
  refine lv_aload_n hx hb dX9_dollar_4 rfl (lv_at hl 0 rfl) ?_
  refine lv_bipush (v := 36) hx hb dX9_dollar_5 (by decide) ?_
  refine lv_bipush (v := 36) hx hb dX9_dollar_7 (by decide) ?_
  refine cV_i F N (c_X9_isAt l G ad ex st f L (rNx f L P) g wr 36 36 hf hL hL2 (rNx_le hP2)) miX9_isAt k_790 (by decide) hl.1 rfl (Nat.le_of_ble_eq_true rfl) (q0 := 0) (ci := 8) rfl rfl dX9_dollar_9 (fun H locs N => ?_)
  refine ifB_ne (tgt := 17) hx hb dX9_dollar_12 (by decide) (fun c_12 => ?_) (fun c_12 => ?_)
  · refine lv_aload_n hx hb dX9_dollar_17 rfl (lv_at hl 0 rfl) ?_
    refine lv_dup hx hb dX9_dollar_18 rfl ?_
    refine gm_0_spot F N k_690 dX9_dollar_19 ?_
    refine toN (a := rNx f L P) rfl ?_
    refine lv_iconst (v := 1) hx hb dX9_dollar_22 (by decide) ?_
    refine iaddN (a := (rNx f L P)) (b := 1) hx hb dX9_dollar_23 ?_
    refine pm_0_spot F N k_690 dX9_dollar_24 (fun st_24 est_24 H locs N => ?_)
    replace N := eqM N (est_24.trans (mS_2 st (rNx f L P) g wr ((rNx f L P) + 1)))
    refine lv_aload_n hx hb dX9_dollar_27 rfl (lv_at hl 0 rfl) ?_
    refine cV_v F N (c_X9_blanks l G ad ex st f L ((rNx f L P) + 1) g wr hf hL hL2 (mAt_lt c_12)) miX9_blanks k_782 (by decide) hl.1 rfl (Nat.le_of_ble_eq_true rfl) (q0 := 0) (ci := 8) rfl rfl dX9_dollar_28 (fun H locs N => ?_)
    refine lv_iload_n hx hb dX9_dollar_31 rfl (lv_at hl 1 rfl) ?_
    exact hret _ _ _ _ _ _ dX9_dollar_32 (by simp [mDolV, c_12]) (by simp [mDolP, c_12]) N
  · refine lv_iconst (v := 0) hx hb dX9_dollar_15 (by decide) ?_
    exact hret _ _ _ _ _ _ dX9_dollar_16 (by simp [mDolV, c_12]) (by simp [mDolP, c_12]) N
set_option maxHeartbeats 4000000 in
set_option maxRecDepth 100000 in
theorem c_X9_takesPlace (l : Launch) (G : GM) (ad : Nat → Nat) (ex : va_W) (st : ST) (f : Nat → Int32) (L : Nat) (P : Nat) (g : Nat → Int32) (wr : Int32) (ta : Nat) (col : Nat) (bit : Nat) (hf : st.2.1 4 = f) (hL : st.1 1 = nI L) (hL2 : L ≤ 60) (hP2 : P ≤ L) (hta : ta ≤ 19) (hcol : col ≤ 4) : MMi l G yX9_takesPlace cX9_takesPlace 5 (some .boolean) 3 [.ref (ad 0), .int (nI ta), .int (nI col), .int (nI bit)] ad ex (mS st (P, g, wr)) (bI ((mPl f L ta col bit (P, g, wr)).1)) (mS st ((mPl f L ta col bit (P, g, wr)).2.1, (mPl f L ta col bit (P, g, wr)).2.2.1, (mPl f L ta col bit (P, g, wr)).2.2.2)) := by
  refine xi_start (by decide) (nar_bI _) (Nat.le_of_ble_eq_true rfl) ?_
  intro zp ze zs zm zargs zbelow zmeth zc zQ ls F N hl hret
  have hx := F.1
  have hb := F.2.1
  have hl : lv_has ls 5 [(0, .ref (ad 0)), (1, .int (nI ta)), (2, .int (nI col)), (3, .int (nI bit))] := hl
  refine lv_aload_n hx hb dX9_takesPlace_0 rfl (lv_at hl 0 rfl) ?_
  refine gm_0_read F N k_689 dX9_takesPlace_1 ?_
  refine lv_iload_n hx hb dX9_takesPlace_4 rfl (lv_at hl 1 rfl) ?_
  refine lv_iconst (v := 5) hx hb dX9_takesPlace_5 (by decide) ?_
  refine iaddN (a := ta) (b := 5) hx hb dX9_takesPlace_6 ?_
  refine lv_dup2_11 hx hb dX9_takesPlace_7 rfl rfl ?_
  refine amN_5 (j := (ta + 5)) F N (by omega) dX9_takesPlace_8 ?_
  refine toI (y := g (ta + 5)) rfl ?_
  refine lv_aload_n hx hb dX9_takesPlace_9 rfl (lv_at hl 0 rfl) ?_
  refine lv_iload_n hx hb dX9_takesPlace_10 rfl (lv_at hl 3 rfl) ?_
  refine cV_i F N (c_X9_dollar l G ad ex st f L P g wr bit hf hL hL2 hP2) miX9_dollar k_806 (by decide) hl.1 rfl (Nat.le_of_ble_eq_true rfl) (q0 := 0) (ci := 8) rfl rfl dX9_takesPlace_11 (fun H locs N => ?_)
  refine lv_iadd hx hb dX9_takesPlace_14 ?_
  refine smN_5 (j := (ta + 5)) F N (by omega) dX9_takesPlace_15 (fun st_15 est_15 H locs N => ?_)
  replace N := eqM N (est_15.trans (mS_5 st (mDolP f L P) g wr (upd g (ta + 5) ((g (ta + 5)) + (mDolV f L P bit)))))
  refine lv_aload_n hx hb dX9_takesPlace_16 rfl (lv_at hl 0 rfl) ?_
  refine lv_bipush (v := 97) hx hb dX9_takesPlace_17 (by decide) ?_
  refine lv_bipush (v := 102) hx hb dX9_takesPlace_19 (by decide) ?_
  refine cV_i F N (c_X9_isAt l G ad ex st f L (mDolP f L P) (upd g (ta + 5) ((g (ta + 5)) + (mDolV f L P bit))) wr 97 102 hf hL hL2 (mDolP_le hP2)) miX9_isAt k_790 (by decide) hl.1 rfl (Nat.le_of_ble_eq_true rfl) (q0 := 0) (ci := 8) rfl rfl dX9_takesPlace_21 (fun H locs N => ?_)
  refine lv_istore (lv' := [(4, .int (bI (mAt f L (mDolP f L P) (97 : Int32) (102 : Int32)))), (0, .ref (ad 0)), (1, .int (nI ta)), (2, .int (nI col)), (3, .int (nI bit))]) hx hb dX9_takesPlace_24 hl (by decide) rfl (fun ls hl => ?_)
  refine lv_iload hx hb dX9_takesPlace_26 (lv_at hl 0 rfl) ?_
  refine ifB_ne (tgt := 47) hx hb dX9_takesPlace_28 (by decide) (fun c_28 => ?_) (fun c_28 => ?_)
  · refine lv_aload_n hx hb dX9_takesPlace_47 rfl (lv_at hl 1 rfl) ?_
    refine gm_0_read F N k_689 dX9_takesPlace_48 ?_
    refine lv_iload_n hx hb dX9_takesPlace_51 rfl (lv_at hl 2 rfl) ?_
    refine lv_iload_n hx hb dX9_takesPlace_52 rfl (lv_at hl 3 rfl) ?_
    refine iaddN (a := ta) (b := col) hx hb dX9_takesPlace_53 ?_
    refine lv_aload_n hx hb dX9_takesPlace_54 rfl (lv_at hl 1 rfl) ?_
    refine gm_0_text F N k_687 dX9_takesPlace_55 ?_
    refine lv_aload_n hx hb dX9_takesPlace_58 rfl (lv_at hl 1 rfl) ?_
    refine gm_0_spot F N k_690 dX9_takesPlace_59 ?_
    refine toN (a := mDolP f L P) rfl ?_
    refine amN_4 (j := (mDolP f L P)) F N (by first | (have h9 := mAt_lt c_28; omega) | (have h9 := mAt_lt c_39; omega)) dX9_takesPlace_62 ?_
    refine toI (y := f (mDolP f L P)) (congrFun hf _) ?_
    refine lv_iload hx hb dX9_takesPlace_63 (lv_at hl 0 rfl) ?_
    refine ifB_eq (tgt := 73) hx hb dX9_takesPlace_65 (by decide) (fun c_65 => ?_) (fun c_65 => ?_)
    · exact absurd (c_28.symm.trans c_65) (by decide)
    · refine lv_bipush (v := 97) hx hb dX9_takesPlace_68 (by decide) ?_
      refine lv_goto (tgt := 75) hx hb dX9_takesPlace_70 (by decide) ?_
      refine lv_isub hx hb dX9_takesPlace_75 ?_
      refine smN_5 (j := (ta + col)) F N (by omega) dX9_takesPlace_76 (fun st_76 est_76 H locs N => ?_)
      replace N := eqM N (est_76.trans (mS_5 st (mDolP f L P) (upd g (ta + 5) ((g (ta + 5)) + (mDolV f L P bit))) wr (upd (upd g (ta + 5) ((g (ta + 5)) + (mDolV f L P bit))) (ta + col) ((f (mDolP f L P)) - (97 : Int32)))))
      refine lv_aload_n hx hb dX9_takesPlace_77 rfl (lv_at hl 1 rfl) ?_
      refine lv_dup hx hb dX9_takesPlace_78 rfl ?_
      refine gm_0_spot F N k_690 dX9_takesPlace_79 ?_
      refine toN (a := mDolP f L P) rfl ?_
      refine lv_iconst (v := 1) hx hb dX9_takesPlace_82 (by decide) ?_
      refine iaddN (a := (mDolP f L P)) (b := 1) hx hb dX9_takesPlace_83 ?_
      refine pm_0_spot F N k_690 dX9_takesPlace_84 (fun st_84 est_84 H locs N => ?_)
      replace N := eqM N (est_84.trans (mS_2 st (mDolP f L P) (upd (upd g (ta + 5) ((g (ta + 5)) + (mDolV f L P bit))) (ta + col) ((f (mDolP f L P)) - (97 : Int32))) wr ((mDolP f L P) + 1)))
      refine lv_aload_n hx hb dX9_takesPlace_87 rfl (lv_at hl 1 rfl) ?_
      refine gm_0_read F N k_689 dX9_takesPlace_88 ?_
      refine lv_iload_n hx hb dX9_takesPlace_91 rfl (lv_at hl 2 rfl) ?_
      refine lv_iconst (v := 5) hx hb dX9_takesPlace_92 (by decide) ?_
      refine iaddN (a := ta) (b := 5) hx hb dX9_takesPlace_93 ?_
      refine lv_dup2_11 hx hb dX9_takesPlace_94 rfl rfl ?_
      refine amN_5 (j := (ta + 5)) F N (by omega) dX9_takesPlace_95 ?_
      refine toI (y := (upd (upd g (ta + 5) ((g (ta + 5)) + (mDolV f L P bit))) (ta + col) ((f (mDolP f L P)) - (97 : Int32))) (ta + 5)) rfl ?_
      refine lv_aload_n hx hb dX9_takesPlace_96 rfl (lv_at hl 1 rfl) ?_
      refine lv_iconst (v := 2) hx hb dX9_takesPlace_97 (by decide) ?_
      refine lv_iload_n hx hb dX9_takesPlace_98 rfl (lv_at hl 4 rfl) ?_
      refine imulN (a := 2) (b := bit) hx hb dX9_takesPlace_99 ?_
      refine cV_i F N (c_X9_dollar l G ad ex st f L ((mDolP f L P) + 1) (upd (upd g (ta + 5) ((g (ta + 5)) + (mDolV f L P bit))) (ta + col) ((f (mDolP f L P)) - (97 : Int32))) wr (2 * bit) hf hL hL2 (by first | exact mAt_lt c_28 | exact mAt_lt c_39)) miX9_dollar k_806 (by decide) hl.1 rfl (Nat.le_of_ble_eq_true rfl) (q0 := 0) (ci := 8) rfl rfl dX9_takesPlace_100 (fun H locs N => ?_)
      refine lv_iadd hx hb dX9_takesPlace_103 ?_
      refine smN_5 (j := (ta + 5)) F N (by omega) dX9_takesPlace_104 (fun st_104 est_104 H locs N => ?_)
      replace N := eqM N (est_104.trans (mS_5 st (mDolP f L ((mDolP f L P) + 1)) (upd (upd g (ta + 5) ((g (ta + 5)) + (mDolV f L P bit))) (ta + col) ((f (mDolP f L P)) - (97 : Int32))) wr (upd (upd (upd g (ta + 5) ((g (ta + 5)) + (mDolV f L P bit))) (ta + col) ((f (mDolP f L P)) - (97 : Int32))) (ta + 5) (((upd (upd g (ta + 5) ((g (ta + 5)) + (mDolV f L P bit))) (ta + col) ((f (mDolP f L P)) - (97 : Int32))) (ta + 5)) + (mDolV f L ((mDolP f L P) + 1) (2 * bit))))))
      refine lv_aload_n hx hb dX9_takesPlace_105 rfl (lv_at hl 1 rfl) ?_
      refine cV_v F N (c_X9_blanks l G ad ex st f L (mDolP f L ((mDolP f L P) + 1)) (upd (upd (upd g (ta + 5) ((g (ta + 5)) + (mDolV f L P bit))) (ta + col) ((f (mDolP f L P)) - (97 : Int32))) (ta + 5) (((upd (upd g (ta + 5) ((g (ta + 5)) + (mDolV f L P bit))) (ta + col) ((f (mDolP f L P)) - (97 : Int32))) (ta + 5)) + (mDolV f L ((mDolP f L P) + 1) (2 * bit)))) wr hf hL hL2 (mDolP_le (by first | exact mAt_lt c_28 | exact mAt_lt c_39))) miX9_blanks k_782 (by decide) hl.1 rfl (Nat.le_of_ble_eq_true rfl) (q0 := 0) (ci := 8) rfl rfl dX9_takesPlace_106 (fun H locs N => ?_)
      refine lv_aload_n hx hb dX9_takesPlace_109 rfl (lv_at hl 1 rfl) ?_
      refine lv_bipush (v := 49) hx hb dX9_takesPlace_110 (by decide) ?_
      refine lv_bipush (v := 54) hx hb dX9_takesPlace_112 (by decide) ?_
      refine cV_i F N (c_X9_isAt l G ad ex st f L (rNx f L (mDolP f L ((mDolP f L P) + 1))) (upd (upd (upd g (ta + 5) ((g (ta + 5)) + (mDolV f L P bit))) (ta + col) ((f (mDolP f L P)) - (97 : Int32))) (ta + 5) (((upd (upd g (ta + 5) ((g (ta + 5)) + (mDolV f L P bit))) (ta + col) ((f (mDolP f L P)) - (97 : Int32))) (ta + 5)) + (mDolV f L ((mDolP f L P) + 1) (2 * bit)))) wr 49 54 hf hL hL2 (rNx_le (mDolP_le (by first | exact mAt_lt c_28 | exact mAt_lt c_39)))) miX9_isAt k_790 (by decide) hl.1 rfl (Nat.le_of_ble_eq_true rfl) (q0 := 0) (ci := 8) rfl rfl dX9_takesPlace_114 (fun H locs N => ?_)
      refine ifB_ne (tgt := 125) hx hb dX9_takesPlace_117 (by decide) (fun c_117 => ?_) (fun c_117 => ?_)
      · refine lv_aload_n hx hb dX9_takesPlace_125 rfl (lv_at hl 1 rfl) ?_
        refine gm_0_read F N k_689 dX9_takesPlace_126 ?_
        refine lv_iload_n hx hb dX9_takesPlace_129 rfl (lv_at hl 2 rfl) ?_
        refine lv_iload_n hx hb dX9_takesPlace_130 rfl (lv_at hl 3 rfl) ?_
        refine iaddN (a := ta) (b := col) hx hb dX9_takesPlace_131 ?_
        refine lv_iconst (v := 1) hx hb dX9_takesPlace_132 (by decide) ?_
        refine iaddN (a := (ta + col)) (b := 1) hx hb dX9_takesPlace_133 ?_
        refine lv_aload_n hx hb dX9_takesPlace_134 rfl (lv_at hl 1 rfl) ?_
        refine gm_0_text F N k_687 dX9_takesPlace_135 ?_
        refine lv_aload_n hx hb dX9_takesPlace_138 rfl (lv_at hl 1 rfl) ?_
        refine gm_0_spot F N k_690 dX9_takesPlace_139 ?_
        refine toN (a := rNx f L (mDolP f L ((mDolP f L P) + 1))) rfl ?_
        refine amN_4 (j := (rNx f L (mDolP f L ((mDolP f L P) + 1)))) F N (by have h9 := mAt_lt c_117; omega) dX9_takesPlace_142 ?_
        refine toI (y := f (rNx f L (mDolP f L ((mDolP f L P) + 1)))) (congrFun hf _) ?_
        refine lv_bipush (v := 49) hx hb dX9_takesPlace_143 (by decide) ?_
        refine lv_isub hx hb dX9_takesPlace_145 ?_
        refine smN_5 (j := ((ta + col) + 1)) F N (by omega) dX9_takesPlace_146 (fun st_146 est_146 H locs N => ?_)
        replace N := eqM N (est_146.trans (mS_5 st (rNx f L (mDolP f L ((mDolP f L P) + 1))) (upd (upd (upd g (ta + 5) ((g (ta + 5)) + (mDolV f L P bit))) (ta + col) ((f (mDolP f L P)) - (97 : Int32))) (ta + 5) (((upd (upd g (ta + 5) ((g (ta + 5)) + (mDolV f L P bit))) (ta + col) ((f (mDolP f L P)) - (97 : Int32))) (ta + 5)) + (mDolV f L ((mDolP f L P) + 1) (2 * bit)))) wr (upd (upd (upd (upd g (ta + 5) ((g (ta + 5)) + (mDolV f L P bit))) (ta + col) ((f (mDolP f L P)) - (97 : Int32))) (ta + 5) (((upd (upd g (ta + 5) ((g (ta + 5)) + (mDolV f L P bit))) (ta + col) ((f (mDolP f L P)) - (97 : Int32))) (ta + 5)) + (mDolV f L ((mDolP f L P) + 1) (2 * bit)))) ((ta + col) + 1) ((f (rNx f L (mDolP f L ((mDolP f L P) + 1)))) - (49 : Int32)))))
        refine lv_aload_n hx hb dX9_takesPlace_147 rfl (lv_at hl 1 rfl) ?_
        refine lv_dup hx hb dX9_takesPlace_148 rfl ?_
        refine gm_0_spot F N k_690 dX9_takesPlace_149 ?_
        refine toN (a := rNx f L (mDolP f L ((mDolP f L P) + 1))) rfl ?_
        refine lv_iconst (v := 1) hx hb dX9_takesPlace_152 (by decide) ?_
        refine iaddN (a := (rNx f L (mDolP f L ((mDolP f L P) + 1)))) (b := 1) hx hb dX9_takesPlace_153 ?_
        refine pm_0_spot F N k_690 dX9_takesPlace_154 (fun st_154 est_154 H locs N => ?_)
        replace N := eqM N (est_154.trans (mS_2 st (rNx f L (mDolP f L ((mDolP f L P) + 1))) (upd (upd (upd (upd g (ta + 5) ((g (ta + 5)) + (mDolV f L P bit))) (ta + col) ((f (mDolP f L P)) - (97 : Int32))) (ta + 5) (((upd (upd g (ta + 5) ((g (ta + 5)) + (mDolV f L P bit))) (ta + col) ((f (mDolP f L P)) - (97 : Int32))) (ta + 5)) + (mDolV f L ((mDolP f L P) + 1) (2 * bit)))) ((ta + col) + 1) ((f (rNx f L (mDolP f L ((mDolP f L P) + 1)))) - (49 : Int32))) wr ((rNx f L (mDolP f L ((mDolP f L P) + 1))) + 1)))
        refine lv_iconst (v := 1) hx hb dX9_takesPlace_157 (by decide) ?_
        exact hret _ _ _ _ _ _ dX9_takesPlace_158 (by simp [bI, mPl, mPlA, mPlB, mPlC, c_28, c_65, c_117]) (by simp [mPl, mPlA, mPlB, mPlC, c_28, c_65, c_117]) N
      · refine lv_aload_n hx hb dX9_takesPlace_120 rfl (lv_at hl 1 rfl) ?_
        refine cV_i F N (c_X9_fails l G ad ex st f L (rNx f L (mDolP f L ((mDolP f L P) + 1))) (upd (upd (upd g (ta + 5) ((g (ta + 5)) + (mDolV f L P bit))) (ta + col) ((f (mDolP f L P)) - (97 : Int32))) (ta + 5) (((upd (upd g (ta + 5) ((g (ta + 5)) + (mDolV f L P bit))) (ta + col) ((f (mDolP f L P)) - (97 : Int32))) (ta + 5)) + (mDolV f L ((mDolP f L P) + 1) (2 * bit)))) wr hf hL hL2 (rNx_le (mDolP_le (by first | exact mAt_lt c_28 | exact mAt_lt c_39)))) miX9_fails k_798 (by decide) hl.1 rfl (Nat.le_of_ble_eq_true rfl) (q0 := 0) (ci := 8) rfl rfl dX9_takesPlace_121 (fun H locs N => ?_)
        exact hret _ _ _ _ _ _ dX9_takesPlace_124 (by simp [bI, mPl, mPlA, mPlB, mPlC, c_28, c_65, c_117]) (by simp [mPl, mPlA, mPlB, mPlC, c_28, c_65, c_117]) N
  · refine lv_aload_n hx hb dX9_takesPlace_31 rfl (lv_at hl 1 rfl) ?_
    refine lv_bipush (v := 65) hx hb dX9_takesPlace_32 (by decide) ?_
    refine lv_bipush (v := 70) hx hb dX9_takesPlace_34 (by decide) ?_
    refine cV_i F N (c_X9_isAt l G ad ex st f L (mDolP f L P) (upd g (ta + 5) ((g (ta + 5)) + (mDolV f L P bit))) wr 65 70 hf hL hL2 (mDolP_le hP2)) miX9_isAt k_790 (by decide) hl.1 rfl (Nat.le_of_ble_eq_true rfl) (q0 := 0) (ci := 8) rfl rfl dX9_takesPlace_36 (fun H locs N => ?_)
    refine ifB_ne (tgt := 47) hx hb dX9_takesPlace_39 (by decide) (fun c_39 => ?_) (fun c_39 => ?_)
    · refine lv_aload_n hx hb dX9_takesPlace_47 rfl (lv_at hl 1 rfl) ?_
      refine gm_0_read F N k_689 dX9_takesPlace_48 ?_
      refine lv_iload_n hx hb dX9_takesPlace_51 rfl (lv_at hl 2 rfl) ?_
      refine lv_iload_n hx hb dX9_takesPlace_52 rfl (lv_at hl 3 rfl) ?_
      refine iaddN (a := ta) (b := col) hx hb dX9_takesPlace_53 ?_
      refine lv_aload_n hx hb dX9_takesPlace_54 rfl (lv_at hl 1 rfl) ?_
      refine gm_0_text F N k_687 dX9_takesPlace_55 ?_
      refine lv_aload_n hx hb dX9_takesPlace_58 rfl (lv_at hl 1 rfl) ?_
      refine gm_0_spot F N k_690 dX9_takesPlace_59 ?_
      refine toN (a := mDolP f L P) rfl ?_
      refine amN_4 (j := (mDolP f L P)) F N (by first | (have h9 := mAt_lt c_28; omega) | (have h9 := mAt_lt c_39; omega)) dX9_takesPlace_62 ?_
      refine toI (y := f (mDolP f L P)) (congrFun hf _) ?_
      refine lv_iload hx hb dX9_takesPlace_63 (lv_at hl 0 rfl) ?_
      refine ifB_eq (tgt := 73) hx hb dX9_takesPlace_65 (by decide) (fun c_65 => ?_) (fun c_65 => ?_)
      · refine lv_bipush (v := 65) hx hb dX9_takesPlace_73 (by decide) ?_
        refine lv_isub hx hb dX9_takesPlace_75 ?_
        refine smN_5 (j := (ta + col)) F N (by omega) dX9_takesPlace_76 (fun st_76 est_76 H locs N => ?_)
        replace N := eqM N (est_76.trans (mS_5 st (mDolP f L P) (upd g (ta + 5) ((g (ta + 5)) + (mDolV f L P bit))) wr (upd (upd g (ta + 5) ((g (ta + 5)) + (mDolV f L P bit))) (ta + col) ((f (mDolP f L P)) - (65 : Int32)))))
        refine lv_aload_n hx hb dX9_takesPlace_77 rfl (lv_at hl 1 rfl) ?_
        refine lv_dup hx hb dX9_takesPlace_78 rfl ?_
        refine gm_0_spot F N k_690 dX9_takesPlace_79 ?_
        refine toN (a := mDolP f L P) rfl ?_
        refine lv_iconst (v := 1) hx hb dX9_takesPlace_82 (by decide) ?_
        refine iaddN (a := (mDolP f L P)) (b := 1) hx hb dX9_takesPlace_83 ?_
        refine pm_0_spot F N k_690 dX9_takesPlace_84 (fun st_84 est_84 H locs N => ?_)
        replace N := eqM N (est_84.trans (mS_2 st (mDolP f L P) (upd (upd g (ta + 5) ((g (ta + 5)) + (mDolV f L P bit))) (ta + col) ((f (mDolP f L P)) - (65 : Int32))) wr ((mDolP f L P) + 1)))
        refine lv_aload_n hx hb dX9_takesPlace_87 rfl (lv_at hl 1 rfl) ?_
        refine gm_0_read F N k_689 dX9_takesPlace_88 ?_
        refine lv_iload_n hx hb dX9_takesPlace_91 rfl (lv_at hl 2 rfl) ?_
        refine lv_iconst (v := 5) hx hb dX9_takesPlace_92 (by decide) ?_
        refine iaddN (a := ta) (b := 5) hx hb dX9_takesPlace_93 ?_
        refine lv_dup2_11 hx hb dX9_takesPlace_94 rfl rfl ?_
        refine amN_5 (j := (ta + 5)) F N (by omega) dX9_takesPlace_95 ?_
        refine toI (y := (upd (upd g (ta + 5) ((g (ta + 5)) + (mDolV f L P bit))) (ta + col) ((f (mDolP f L P)) - (65 : Int32))) (ta + 5)) rfl ?_
        refine lv_aload_n hx hb dX9_takesPlace_96 rfl (lv_at hl 1 rfl) ?_
        refine lv_iconst (v := 2) hx hb dX9_takesPlace_97 (by decide) ?_
        refine lv_iload_n hx hb dX9_takesPlace_98 rfl (lv_at hl 4 rfl) ?_
        refine imulN (a := 2) (b := bit) hx hb dX9_takesPlace_99 ?_
        refine cV_i F N (c_X9_dollar l G ad ex st f L ((mDolP f L P) + 1) (upd (upd g (ta + 5) ((g (ta + 5)) + (mDolV f L P bit))) (ta + col) ((f (mDolP f L P)) - (65 : Int32))) wr (2 * bit) hf hL hL2 (by first | exact mAt_lt c_28 | exact mAt_lt c_39)) miX9_dollar k_806 (by decide) hl.1 rfl (Nat.le_of_ble_eq_true rfl) (q0 := 0) (ci := 8) rfl rfl dX9_takesPlace_100 (fun H locs N => ?_)
        refine lv_iadd hx hb dX9_takesPlace_103 ?_
        refine smN_5 (j := (ta + 5)) F N (by omega) dX9_takesPlace_104 (fun st_104 est_104 H locs N => ?_)
        replace N := eqM N (est_104.trans (mS_5 st (mDolP f L ((mDolP f L P) + 1)) (upd (upd g (ta + 5) ((g (ta + 5)) + (mDolV f L P bit))) (ta + col) ((f (mDolP f L P)) - (65 : Int32))) wr (upd (upd (upd g (ta + 5) ((g (ta + 5)) + (mDolV f L P bit))) (ta + col) ((f (mDolP f L P)) - (65 : Int32))) (ta + 5) (((upd (upd g (ta + 5) ((g (ta + 5)) + (mDolV f L P bit))) (ta + col) ((f (mDolP f L P)) - (65 : Int32))) (ta + 5)) + (mDolV f L ((mDolP f L P) + 1) (2 * bit))))))
        refine lv_aload_n hx hb dX9_takesPlace_105 rfl (lv_at hl 1 rfl) ?_
        refine cV_v F N (c_X9_blanks l G ad ex st f L (mDolP f L ((mDolP f L P) + 1)) (upd (upd (upd g (ta + 5) ((g (ta + 5)) + (mDolV f L P bit))) (ta + col) ((f (mDolP f L P)) - (65 : Int32))) (ta + 5) (((upd (upd g (ta + 5) ((g (ta + 5)) + (mDolV f L P bit))) (ta + col) ((f (mDolP f L P)) - (65 : Int32))) (ta + 5)) + (mDolV f L ((mDolP f L P) + 1) (2 * bit)))) wr hf hL hL2 (mDolP_le (by first | exact mAt_lt c_28 | exact mAt_lt c_39))) miX9_blanks k_782 (by decide) hl.1 rfl (Nat.le_of_ble_eq_true rfl) (q0 := 0) (ci := 8) rfl rfl dX9_takesPlace_106 (fun H locs N => ?_)
        refine lv_aload_n hx hb dX9_takesPlace_109 rfl (lv_at hl 1 rfl) ?_
        refine lv_bipush (v := 49) hx hb dX9_takesPlace_110 (by decide) ?_
        refine lv_bipush (v := 54) hx hb dX9_takesPlace_112 (by decide) ?_
        refine cV_i F N (c_X9_isAt l G ad ex st f L (rNx f L (mDolP f L ((mDolP f L P) + 1))) (upd (upd (upd g (ta + 5) ((g (ta + 5)) + (mDolV f L P bit))) (ta + col) ((f (mDolP f L P)) - (65 : Int32))) (ta + 5) (((upd (upd g (ta + 5) ((g (ta + 5)) + (mDolV f L P bit))) (ta + col) ((f (mDolP f L P)) - (65 : Int32))) (ta + 5)) + (mDolV f L ((mDolP f L P) + 1) (2 * bit)))) wr 49 54 hf hL hL2 (rNx_le (mDolP_le (by first | exact mAt_lt c_28 | exact mAt_lt c_39)))) miX9_isAt k_790 (by decide) hl.1 rfl (Nat.le_of_ble_eq_true rfl) (q0 := 0) (ci := 8) rfl rfl dX9_takesPlace_114 (fun H locs N => ?_)
        refine ifB_ne (tgt := 125) hx hb dX9_takesPlace_117 (by decide) (fun c_117 => ?_) (fun c_117 => ?_)
        · refine lv_aload_n hx hb dX9_takesPlace_125 rfl (lv_at hl 1 rfl) ?_
          refine gm_0_read F N k_689 dX9_takesPlace_126 ?_
          refine lv_iload_n hx hb dX9_takesPlace_129 rfl (lv_at hl 2 rfl) ?_
          refine lv_iload_n hx hb dX9_takesPlace_130 rfl (lv_at hl 3 rfl) ?_
          refine iaddN (a := ta) (b := col) hx hb dX9_takesPlace_131 ?_
          refine lv_iconst (v := 1) hx hb dX9_takesPlace_132 (by decide) ?_
          refine iaddN (a := (ta + col)) (b := 1) hx hb dX9_takesPlace_133 ?_
          refine lv_aload_n hx hb dX9_takesPlace_134 rfl (lv_at hl 1 rfl) ?_
          refine gm_0_text F N k_687 dX9_takesPlace_135 ?_
          refine lv_aload_n hx hb dX9_takesPlace_138 rfl (lv_at hl 1 rfl) ?_
          refine gm_0_spot F N k_690 dX9_takesPlace_139 ?_
          refine toN (a := rNx f L (mDolP f L ((mDolP f L P) + 1))) rfl ?_
          refine amN_4 (j := (rNx f L (mDolP f L ((mDolP f L P) + 1)))) F N (by have h9 := mAt_lt c_117; omega) dX9_takesPlace_142 ?_
          refine toI (y := f (rNx f L (mDolP f L ((mDolP f L P) + 1)))) (congrFun hf _) ?_
          refine lv_bipush (v := 49) hx hb dX9_takesPlace_143 (by decide) ?_
          refine lv_isub hx hb dX9_takesPlace_145 ?_
          refine smN_5 (j := ((ta + col) + 1)) F N (by omega) dX9_takesPlace_146 (fun st_146 est_146 H locs N => ?_)
          replace N := eqM N (est_146.trans (mS_5 st (rNx f L (mDolP f L ((mDolP f L P) + 1))) (upd (upd (upd g (ta + 5) ((g (ta + 5)) + (mDolV f L P bit))) (ta + col) ((f (mDolP f L P)) - (65 : Int32))) (ta + 5) (((upd (upd g (ta + 5) ((g (ta + 5)) + (mDolV f L P bit))) (ta + col) ((f (mDolP f L P)) - (65 : Int32))) (ta + 5)) + (mDolV f L ((mDolP f L P) + 1) (2 * bit)))) wr (upd (upd (upd (upd g (ta + 5) ((g (ta + 5)) + (mDolV f L P bit))) (ta + col) ((f (mDolP f L P)) - (65 : Int32))) (ta + 5) (((upd (upd g (ta + 5) ((g (ta + 5)) + (mDolV f L P bit))) (ta + col) ((f (mDolP f L P)) - (65 : Int32))) (ta + 5)) + (mDolV f L ((mDolP f L P) + 1) (2 * bit)))) ((ta + col) + 1) ((f (rNx f L (mDolP f L ((mDolP f L P) + 1)))) - (49 : Int32)))))
          refine lv_aload_n hx hb dX9_takesPlace_147 rfl (lv_at hl 1 rfl) ?_
          refine lv_dup hx hb dX9_takesPlace_148 rfl ?_
          refine gm_0_spot F N k_690 dX9_takesPlace_149 ?_
          refine toN (a := rNx f L (mDolP f L ((mDolP f L P) + 1))) rfl ?_
          refine lv_iconst (v := 1) hx hb dX9_takesPlace_152 (by decide) ?_
          refine iaddN (a := (rNx f L (mDolP f L ((mDolP f L P) + 1)))) (b := 1) hx hb dX9_takesPlace_153 ?_
          refine pm_0_spot F N k_690 dX9_takesPlace_154 (fun st_154 est_154 H locs N => ?_)
          replace N := eqM N (est_154.trans (mS_2 st (rNx f L (mDolP f L ((mDolP f L P) + 1))) (upd (upd (upd (upd g (ta + 5) ((g (ta + 5)) + (mDolV f L P bit))) (ta + col) ((f (mDolP f L P)) - (65 : Int32))) (ta + 5) (((upd (upd g (ta + 5) ((g (ta + 5)) + (mDolV f L P bit))) (ta + col) ((f (mDolP f L P)) - (65 : Int32))) (ta + 5)) + (mDolV f L ((mDolP f L P) + 1) (2 * bit)))) ((ta + col) + 1) ((f (rNx f L (mDolP f L ((mDolP f L P) + 1)))) - (49 : Int32))) wr ((rNx f L (mDolP f L ((mDolP f L P) + 1))) + 1)))
          refine lv_iconst (v := 1) hx hb dX9_takesPlace_157 (by decide) ?_
          exact hret _ _ _ _ _ _ dX9_takesPlace_158 (by simp [bI, mPl, mPlA, mPlB, mPlC, c_28, c_39, c_65, c_117]) (by simp [mPl, mPlA, mPlB, mPlC, c_28, c_39, c_65, c_117]) N
        · refine lv_aload_n hx hb dX9_takesPlace_120 rfl (lv_at hl 1 rfl) ?_
          refine cV_i F N (c_X9_fails l G ad ex st f L (rNx f L (mDolP f L ((mDolP f L P) + 1))) (upd (upd (upd g (ta + 5) ((g (ta + 5)) + (mDolV f L P bit))) (ta + col) ((f (mDolP f L P)) - (65 : Int32))) (ta + 5) (((upd (upd g (ta + 5) ((g (ta + 5)) + (mDolV f L P bit))) (ta + col) ((f (mDolP f L P)) - (65 : Int32))) (ta + 5)) + (mDolV f L ((mDolP f L P) + 1) (2 * bit)))) wr hf hL hL2 (rNx_le (mDolP_le (by first | exact mAt_lt c_28 | exact mAt_lt c_39)))) miX9_fails k_798 (by decide) hl.1 rfl (Nat.le_of_ble_eq_true rfl) (q0 := 0) (ci := 8) rfl rfl dX9_takesPlace_121 (fun H locs N => ?_)
          exact hret _ _ _ _ _ _ dX9_takesPlace_124 (by simp [bI, mPl, mPlA, mPlB, mPlC, c_28, c_39, c_65, c_117]) (by simp [mPl, mPlA, mPlB, mPlC, c_28, c_39, c_65, c_117]) N
      · exact absurd (c_28.symm.trans c_65) (by decide)
    · refine lv_aload_n hx hb dX9_takesPlace_42 rfl (lv_at hl 1 rfl) ?_
      refine cV_i F N (c_X9_fails l G ad ex st f L (mDolP f L P) (upd g (ta + 5) ((g (ta + 5)) + (mDolV f L P bit))) wr hf hL hL2 (mDolP_le hP2)) miX9_fails k_798 (by decide) hl.1 rfl (Nat.le_of_ble_eq_true rfl) (q0 := 0) (ci := 8) rfl rfl dX9_takesPlace_43 (fun H locs N => ?_)
      exact hret _ _ _ _ _ _ dX9_takesPlace_46 (by simp [bI, mPl, mPlA, mPlB, mPlC, c_28, c_39]) (by simp [mPl, mPlA, mPlB, mPlC, c_28, c_39]) N
