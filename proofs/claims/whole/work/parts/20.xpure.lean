/-! the class's functions that touch no object: what they answer -/
def xIsW (x a b : Int32) : Bool := !decide (x < a) && !decide (b < x)
def xIsPl (c r : Int32) : Bool := xIsW c 0 5 && xIsW r 0 5
def xIsAr (c r w h : Int32) : Bool := xIsPl c r && (xIsW w 1 (6 - c) && xIsW h 1 (6 - r))
def xIsCe (x : Int32) : Bool := !decide (x < 0) && !decide (36 ≤ x)
def xAt (c r : Int32) : Int32 := r * 6 + c
def xCol (x : Int32) : Int32 := x - x / 6 * 6
def xRow (x : Int32) : Int32 := x / 6
def xAxis (way : Int32) : Int32 := if way = 0 then 1 else 0
def tKind (t : Int32) : Int32 := t &&& 7
def tFix (t : Int32) : Int32 := (t >>> ((3 : Int32) &&& 31)) &&& 15
def tNum (t : Int32) : Int32 := t >>> ((7 : Int32) &&& 31)
def tCo (t i : Int32) : Int32 := (t >>> (((7 : Int32) + (3 : Int32) * i) &&& 31)) &&& 7
def tWith (t i x : Int32) : Int32 := (t &&& (((7 : Int32) <<< (((7 : Int32) + (3 : Int32) * i) &&& 31)) ^^^ (-1))) ||| (x <<< (((7 : Int32) + (3 : Int32) * i) &&& 31))
def tOfNum (n : Int32) : Int32 := (1 : Int32) ||| (n <<< ((7 : Int32) &&& 31))
def tOfPl (c r f : Int32) : Int32 := tWith (tWith ((2 : Int32) ||| (f <<< ((3 : Int32) &&& 31))) 0 c) 1 r
def tRef (t : Int32) : Bool := decide (tKind t = 2) || decide (tKind t = 3)
def tLeast (t a : Int32) : Int32 := tCo t a
def tGreat (t a : Int32) : Int32 := tCo t (if tKind t = 3 then a + 2 else a)
def tCross (t a : Int32) : Int32 :=
  if (tFix t >>> (a &&& 31)) &&& 1 = (tFix t >>> ((a + 2) &&& 31)) &&& 1 then tWith (tWith t a (tCo t (a + 2))) (a + 2) (tCo t a)
  else tWith (tWith t a (tCo t (a + 2))) (a + 2) (tCo t a) ^^^ (((5 : Int32) <<< (a &&& 31)) <<< ((3 : Int32) &&& 31))
def tOrd1 (t a : Int32) : Int32 := if tCo t (a + 2) < tCo t a then tCross t a else t
def tOrd (t : Int32) : Int32 := tOrd1 (tOrd1 t 0) 1
def tOfBl (x y : Int32) : Int32 := tOrd (tWith (tWith (tWith (tWith ((3 : Int32) ||| ((tFix x ||| (tFix y <<< ((2 : Int32) &&& 31))) <<< ((3 : Int32) &&& 31))) 0 (tCo x 0)) 2 (tCo y 0)) 1 (tCo x 1)) 3 (tCo y 1))
def tCome (t ax a n : Int32) : Int32 :=
  if tRef t = false ∨ tGreat t ax < a then t
  else if (6 : Int32) ≤ (if tLeast t ax < a then tLeast t ax else tLeast t ax + n) then 4
  else if tKind t = 2 then tWith t ax (if tLeast t ax < a then tLeast t ax else tLeast t ax + n)
  else tWith (tWith t ax (if tLeast t ax < a then tLeast t ax else tLeast t ax + n)) (ax + 2) (if (5 : Int32) < tGreat t ax + n then 5 else tGreat t ax + n)
def tGoL (t ax a n : Int32) : Int32 := if tLeast t ax < a then tLeast t ax else if tLeast t ax - n < a then a else tLeast t ax - n
def tGoG (t ax a n : Int32) : Int32 := if tGreat t ax - n < a - 1 then a - 1 else tGreat t ax - n
def tGo (t ax a n : Int32) : Int32 :=
  if tRef t = false ∨ tGreat t ax < a then t
  else if tGoG t ax a n < tGoL t ax a n then 4
  else if tKind t = 2 then tWith t ax (tGoL t ax a n) else tWith (tWith t ax (tGoL t ax a n)) (ax + 2) (tGoG t ax a n)
def furX (t cols rows stay : Int32) (i : Nat) : Int32 := tCo t (nI i) + (if (stay >>> (nI i &&& 31)) &&& 1 = 1 then 0 else if i % 2 = 0 then cols else rows)
def furL (t cols rows stay : Int32) : Nat → Nat → Int32 → Int32
  | 0, _, th => if tKind t = 3 then tOrd th else th
  | k + 1, i, th => if xIsW (furX t cols rows stay i) 0 5 = true then furL t cols rows stay k (i + 1) (tWith th (nI i) (furX t cols rows stay i)) else 4
def tFur (t cols rows stay : Int32) : Int32 := if tRef t = false then t else furL t cols rows stay (if tKind t = 3 then 4 else 2) 0 t
def lnOf (cell ax : Int32) : Int32 := if ax = 0 then xCol cell else xRow cell
def lnCome (ln a n : Int32) : Int32 := if ln < a then ln else if (6 : Int32) ≤ ln + n then -1 else ln + n
def lnGo (ln a n : Int32) : Int32 := if ln < a then ln else if ln < a + n then -1 else ln - n
def rFig (b : Int32) : Bool := !decide (b < 48) && !decide (57 < b)
def rCol (b : Int32) : Int32 := if xIsW (if b < 97 then b - 65 else b - 97) 0 5 = true then (if b < 97 then b - 65 else b - 97) else -1
set_option maxHeartbeats 4000000 in
set_option maxRecDepth 100000 in
theorem c_X8_isWithin (l : Launch) (G : GM) (w : va_W) (x : Int32) (a : Int32) (b : Int32) : XCi l G yX8_isWithin cX8_isWithin 3 (some .boolean) 0 [.int x, .int a, .int b] (w) (bI (xIsW x a b)) (w) := by
  refine xi_start (by decide) (nar_bI _) (Nat.le_of_ble_eq_true rfl) ?_
  intro zp ze zs zm zargs zbelow zmeth zc zQ ls F N hl hret
  have hx := F.1
  have hb := F.2.1
  have hl : lv_has ls 3 [(0, .int x), (1, .int a), (2, .int b)] := hl
  refine lv_iload_n hx hb dX8_isWithin_0 rfl (lv_at hl 0 rfl) ?_
  refine lv_iload_n hx hb dX8_isWithin_1 rfl (lv_at hl 1 rfl) ?_
  refine lv_icmp_lt (tgt := 14) hx hb dX8_isWithin_2 (by decide) (fun c_2 => ?_) (fun c_2 => ?_)
  · have c_2v := lt_nle c_2
    refine lv_iconst (v := 0) hx hb dX8_isWithin_14 (by decide) ?_
    exact hret _ _ _ _ _ _ dX8_isWithin_15 (by first | rfl | (simp [bI, xIsW, c_2, c_2v])) (by first | rfl | (simp [bI, xIsW, c_2, c_2v])) N
  · have c_2v := nlt_le c_2
    refine lv_iload_n hx hb dX8_isWithin_5 rfl (lv_at hl 0 rfl) ?_
    refine lv_iload_n hx hb dX8_isWithin_6 rfl (lv_at hl 2 rfl) ?_
    refine lv_icmp_gt (tgt := 14) hx hb dX8_isWithin_7 (by decide) (fun c_7 => ?_) (fun c_7 => ?_)
    · have c_7v := lt_nle c_7
      refine lv_iconst (v := 0) hx hb dX8_isWithin_14 (by decide) ?_
      exact hret _ _ _ _ _ _ dX8_isWithin_15 (by first | rfl | (simp [bI, xIsW, c_2, c_2v, c_7, c_7v])) (by first | rfl | (simp [bI, xIsW, c_2, c_2v, c_7, c_7v])) N
    · have c_7v := nlt_le c_7
      refine lv_iconst (v := 1) hx hb dX8_isWithin_10 (by decide) ?_
      refine lv_goto (tgt := 15) hx hb dX8_isWithin_11 (by decide) ?_
      exact hret _ _ _ _ _ _ dX8_isWithin_15 (by first | rfl | (simp [bI, xIsW, c_2, c_2v, c_7, c_7v])) (by first | rfl | (simp [bI, xIsW, c_2, c_2v, c_7, c_7v])) N
set_option maxHeartbeats 4000000 in
set_option maxRecDepth 100000 in
theorem c_X8_isPlace (l : Launch) (G : GM) (w : va_W) (c : Int32) (r : Int32) : XCi l G yX8_isPlace cX8_isPlace 2 (some .boolean) 1 [.int c, .int r] (w) (bI (xIsPl c r)) (w) := by
  refine xi_start (by decide) (nar_bI _) (Nat.le_of_ble_eq_true rfl) ?_
  intro zp ze zs zm zargs zbelow zmeth zc zQ ls F N hl hret
  have hx := F.1
  have hb := F.2.1
  have hl : lv_has ls 2 [(0, .int c), (1, .int r)] := hl
  refine lv_iload_n hx hb dX8_isPlace_0 rfl (lv_at hl 0 rfl) ?_
  refine lv_iconst (v := 0) hx hb dX8_isPlace_1 (by decide) ?_
  refine lv_iconst (v := 5) hx hb dX8_isPlace_2 (by decide) ?_
  refine cS_i F N (c_X8_isWithin l G _ c 0 5) miX8_isWithin k_234 (by decide) hl.1 rfl (Nat.le_of_ble_eq_true rfl) dX8_isPlace_3 (fun H locs N => ?_)
  refine ifB_eq (tgt := 22) hx hb dX8_isPlace_6 (by decide) (fun c_6 => ?_) (fun c_6 => ?_)
  · refine lv_iconst (v := 0) hx hb dX8_isPlace_22 (by decide) ?_
    exact hret _ _ _ _ _ _ dX8_isPlace_23 (by first | rfl | (simp [bI, xIsPl, c_6])) (by first | rfl | (simp [bI, xIsPl, c_6])) N
  · refine lv_iload_n hx hb dX8_isPlace_9 rfl (lv_at hl 1 rfl) ?_
    refine lv_iconst (v := 0) hx hb dX8_isPlace_10 (by decide) ?_
    refine lv_iconst (v := 5) hx hb dX8_isPlace_11 (by decide) ?_
    refine cS_i F N (c_X8_isWithin l G _ r 0 5) miX8_isWithin k_234 (by decide) hl.1 rfl (Nat.le_of_ble_eq_true rfl) dX8_isPlace_12 (fun H locs N => ?_)
    refine ifB_eq (tgt := 22) hx hb dX8_isPlace_15 (by decide) (fun c_15 => ?_) (fun c_15 => ?_)
    · refine lv_iconst (v := 0) hx hb dX8_isPlace_22 (by decide) ?_
      exact hret _ _ _ _ _ _ dX8_isPlace_23 (by first | rfl | (simp [bI, xIsPl, c_6, c_15])) (by first | rfl | (simp [bI, xIsPl, c_6, c_15])) N
    · refine lv_iconst (v := 1) hx hb dX8_isPlace_18 (by decide) ?_
      refine lv_goto (tgt := 23) hx hb dX8_isPlace_19 (by decide) ?_
      exact hret _ _ _ _ _ _ dX8_isPlace_23 (by first | rfl | (simp [bI, xIsPl, c_6, c_15])) (by first | rfl | (simp [bI, xIsPl, c_6, c_15])) N
set_option maxHeartbeats 4000000 in
set_option maxRecDepth 100000 in
theorem c_X8_isArea (l : Launch) (G : GM) (w : va_W) (c : Int32) (r : Int32) (w2 : Int32) (h : Int32) : XCi l G yX8_isArea cX8_isArea 4 (some .boolean) 2 [.int c, .int r, .int w2, .int h] (w) (bI (xIsAr c r w2 h)) (w) := by
  refine xi_start (by decide) (nar_bI _) (Nat.le_of_ble_eq_true rfl) ?_
  intro zp ze zs zm zargs zbelow zmeth zc zQ ls F N hl hret
  have hx := F.1
  have hb := F.2.1
  have hl : lv_has ls 4 [(0, .int c), (1, .int r), (2, .int w2), (3, .int h)] := hl
  refine lv_iload_n hx hb dX8_isArea_0 rfl (lv_at hl 0 rfl) ?_
  refine lv_iload_n hx hb dX8_isArea_1 rfl (lv_at hl 1 rfl) ?_
  refine cS_i F N (c_X8_isPlace l G _ c r) miX8_isPlace k_261 (by decide) hl.1 rfl (Nat.le_of_ble_eq_true rfl) dX8_isArea_2 (fun H locs N => ?_)
  refine ifB_eq (tgt := 36) hx hb dX8_isArea_5 (by decide) (fun c_5 => ?_) (fun c_5 => ?_)
  · refine lv_iconst (v := 0) hx hb dX8_isArea_36 (by decide) ?_
    exact hret _ _ _ _ _ _ dX8_isArea_37 (by first | rfl | (simp [bI, xIsAr, c_5])) (by first | rfl | (simp [bI, xIsAr, c_5])) N
  · refine lv_iload_n hx hb dX8_isArea_8 rfl (lv_at hl 2 rfl) ?_
    refine lv_iconst (v := 1) hx hb dX8_isArea_9 (by decide) ?_
    refine lv_bipush (v := 6) hx hb dX8_isArea_10 (by decide) ?_
    refine lv_iload_n hx hb dX8_isArea_12 rfl (lv_at hl 0 rfl) ?_
    refine lv_isub hx hb dX8_isArea_13 ?_
    refine cS_i F N (c_X8_isWithin l G _ w2 1 ((6 : Int32) - c)) miX8_isWithin k_234 (by decide) hl.1 rfl (Nat.le_of_ble_eq_true rfl) dX8_isArea_14 (fun H locs N => ?_)
    refine ifB_eq (tgt := 36) hx hb dX8_isArea_17 (by decide) (fun c_17 => ?_) (fun c_17 => ?_)
    · refine lv_iconst (v := 0) hx hb dX8_isArea_36 (by decide) ?_
      exact hret _ _ _ _ _ _ dX8_isArea_37 (by first | rfl | (simp [bI, xIsAr, c_5, c_17])) (by first | rfl | (simp [bI, xIsAr, c_5, c_17])) N
    · refine lv_iload_n hx hb dX8_isArea_20 rfl (lv_at hl 3 rfl) ?_
      refine lv_iconst (v := 1) hx hb dX8_isArea_21 (by decide) ?_
      refine lv_bipush (v := 6) hx hb dX8_isArea_22 (by decide) ?_
      refine lv_iload_n hx hb dX8_isArea_24 rfl (lv_at hl 1 rfl) ?_
      refine lv_isub hx hb dX8_isArea_25 ?_
      refine cS_i F N (c_X8_isWithin l G _ h 1 ((6 : Int32) - r)) miX8_isWithin k_234 (by decide) hl.1 rfl (Nat.le_of_ble_eq_true rfl) dX8_isArea_26 (fun H locs N => ?_)
      refine ifB_eq (tgt := 36) hx hb dX8_isArea_29 (by decide) (fun c_29 => ?_) (fun c_29 => ?_)
      · refine lv_iconst (v := 0) hx hb dX8_isArea_36 (by decide) ?_
        exact hret _ _ _ _ _ _ dX8_isArea_37 (by first | rfl | (simp [bI, xIsAr, c_5, c_17, c_29])) (by first | rfl | (simp [bI, xIsAr, c_5, c_17, c_29])) N
      · refine lv_iconst (v := 1) hx hb dX8_isArea_32 (by decide) ?_
        refine lv_goto (tgt := 37) hx hb dX8_isArea_33 (by decide) ?_
        exact hret _ _ _ _ _ _ dX8_isArea_37 (by first | rfl | (simp [bI, xIsAr, c_5, c_17, c_29])) (by first | rfl | (simp [bI, xIsAr, c_5, c_17, c_29])) N
set_option maxHeartbeats 4000000 in
set_option maxRecDepth 100000 in
theorem c_X8_isCell (l : Launch) (G : GM) (w : va_W) (x : Int32) : XCi l G yX8_isCell cX8_isCell 1 (some .boolean) 0 [.int x] (w) (bI (xIsCe x)) (w) := by
  refine xi_start (by decide) (nar_bI _) (Nat.le_of_ble_eq_true rfl) ?_
  intro zp ze zs zm zargs zbelow zmeth zc zQ ls F N hl hret
  have hx := F.1
  have hb := F.2.1
  have hl : lv_has ls 1 [(0, .int x)] := hl
  refine lv_iload_n hx hb dX8_isCell_0 rfl (lv_at hl 0 rfl) ?_
  refine lv_if_lt (tgt := 14) hx hb dX8_isCell_1 (by decide) (fun c_1 => ?_) (fun c_1 => ?_)
  · have c_1v := lt_nle c_1
    refine lv_iconst (v := 0) hx hb dX8_isCell_14 (by decide) ?_
    exact hret _ _ _ _ _ _ dX8_isCell_15 (by first | rfl | (simp [bI, xIsCe, c_1, c_1v])) (by first | rfl | (simp [bI, xIsCe, c_1, c_1v])) N
  · have c_1v := nlt_le c_1
    refine lv_iload_n hx hb dX8_isCell_4 rfl (lv_at hl 0 rfl) ?_
    refine lv_bipush (v := 36) hx hb dX8_isCell_5 (by decide) ?_
    refine lv_icmp_ge (tgt := 14) hx hb dX8_isCell_7 (by decide) (fun c_7 => ?_) (fun c_7 => ?_)
    · have c_7v := le_nlt c_7
      refine lv_iconst (v := 0) hx hb dX8_isCell_14 (by decide) ?_
      exact hret _ _ _ _ _ _ dX8_isCell_15 (by first | rfl | (simp [bI, xIsCe, c_1, c_1v, c_7, c_7v])) (by first | rfl | (simp [bI, xIsCe, c_1, c_1v, c_7, c_7v])) N
    · have c_7v := nle_lt c_7
      refine lv_iconst (v := 1) hx hb dX8_isCell_10 (by decide) ?_
      refine lv_goto (tgt := 15) hx hb dX8_isCell_11 (by decide) ?_
      exact hret _ _ _ _ _ _ dX8_isCell_15 (by first | rfl | (simp [bI, xIsCe, c_1, c_1v, c_7, c_7v])) (by first | rfl | (simp [bI, xIsCe, c_1, c_1v, c_7, c_7v])) N
set_option maxHeartbeats 4000000 in
set_option maxRecDepth 100000 in
theorem c_X8_cellAt (l : Launch) (G : GM) (w : va_W) (c : Int32) (r : Int32) : XCi l G yX8_cellAt cX8_cellAt 2 (some .int) 0 [.int c, .int r] (w) (xAt c r) (w) := by
  refine xi_start (by decide) rfl (Nat.le_of_ble_eq_true rfl) ?_
  intro zp ze zs zm zargs zbelow zmeth zc zQ ls F N hl hret
  have hx := F.1
  have hb := F.2.1
  have hl : lv_has ls 2 [(0, .int c), (1, .int r)] := hl
  refine lv_iload_n hx hb dX8_cellAt_0 rfl (lv_at hl 1 rfl) ?_
  refine lv_bipush (v := 6) hx hb dX8_cellAt_1 (by decide) ?_
  refine lv_imul hx hb dX8_cellAt_3 ?_
  refine lv_iload_n hx hb dX8_cellAt_4 rfl (lv_at hl 0 rfl) ?_
  refine lv_iadd hx hb dX8_cellAt_5 ?_
  exact hret _ _ _ _ _ _ dX8_cellAt_6 (by first | rfl | (simp [bI, xAt])) (by first | rfl | (simp [bI, xAt])) N
set_option maxHeartbeats 4000000 in
set_option maxRecDepth 100000 in
theorem c_X8_columnOf (l : Launch) (G : GM) (w : va_W) (x : Int32) : XCi l G yX8_columnOf cX8_columnOf 1 (some .int) 0 [.int x] (w) (xCol x) (w) := by
  refine xi_start (by decide) rfl (Nat.le_of_ble_eq_true rfl) ?_
  intro zp ze zs zm zargs zbelow zmeth zc zQ ls F N hl hret
  have hx := F.1
  have hb := F.2.1
  have hl : lv_has ls 1 [(0, .int x)] := hl
  refine lv_iload_n hx hb dX8_columnOf_0 rfl (lv_at hl 0 rfl) ?_
  refine lv_bipush (v := 6) hx hb dX8_columnOf_1 (by decide) ?_
  refine lv_irem hx hb dX8_columnOf_3 (by decide) ?_
  exact hret _ _ _ _ _ _ dX8_columnOf_4 (by first | rfl | (simp [bI, xCol])) (by first | rfl | (simp [bI, xCol])) N
set_option maxHeartbeats 4000000 in
set_option maxRecDepth 100000 in
theorem c_X8_rowOf (l : Launch) (G : GM) (w : va_W) (x : Int32) : XCi l G yX8_rowOf cX8_rowOf 1 (some .int) 0 [.int x] (w) (xRow x) (w) := by
  refine xi_start (by decide) rfl (Nat.le_of_ble_eq_true rfl) ?_
  intro zp ze zs zm zargs zbelow zmeth zc zQ ls F N hl hret
  have hx := F.1
  have hb := F.2.1
  have hl : lv_has ls 1 [(0, .int x)] := hl
  refine lv_iload_n hx hb dX8_rowOf_0 rfl (lv_at hl 0 rfl) ?_
  refine lv_bipush (v := 6) hx hb dX8_rowOf_1 (by decide) ?_
  refine lv_idiv hx hb dX8_rowOf_3 (by decide) ?_
  exact hret _ _ _ _ _ _ dX8_rowOf_4 (by first | rfl | (simp [bI, xRow])) (by first | rfl | (simp [bI, xRow])) N
set_option maxHeartbeats 4000000 in
set_option maxRecDepth 100000 in
theorem c_X8_axisOf (l : Launch) (G : GM) (w : va_W) (way : Int32) : XCi l G yX8_axisOf cX8_axisOf 1 (some .int) 0 [.int way] (w) (xAxis way) (w) := by
  refine xi_start (by decide) rfl (Nat.le_of_ble_eq_true rfl) ?_
  intro zp ze zs zm zargs zbelow zmeth zc zQ ls F N hl hret
  have hx := F.1
  have hb := F.2.1
  have hl : lv_has ls 1 [(0, .int way)] := hl
  refine lv_iload_n hx hb dX8_axisOf_0 rfl (lv_at hl 0 rfl) ?_
  refine lv_if_ne (tgt := 8) hx hb dX8_axisOf_1 (by decide) (fun c_1 => ?_) (fun c_1 => ?_)
  · refine lv_iconst (v := 0) hx hb dX8_axisOf_8 (by decide) ?_
    exact hret _ _ _ _ _ _ dX8_axisOf_9 (by first | rfl | (simp [bI, xAxis, c_1])) (by first | rfl | (simp [bI, xAxis, c_1])) N
  · refine lv_iconst (v := 1) hx hb dX8_axisOf_4 (by decide) ?_
    refine lv_goto (tgt := 9) hx hb dX8_axisOf_5 (by decide) ?_
    exact hret _ _ _ _ _ _ dX8_axisOf_9 (by first | rfl | (simp [bI, xAxis, c_1])) (by first | rfl | (simp [bI, xAxis, c_1])) N
set_option maxHeartbeats 4000000 in
set_option maxRecDepth 100000 in
theorem c_X5_kind (l : Launch) (G : GM) (w : va_W) (t : Int32) : XCi l G yX5_kind cX5_kind 1 (some .int) 0 [.int t] (w) (tKind t) (w) := by
  refine xi_start (by decide) rfl (Nat.le_of_ble_eq_true rfl) ?_
  intro zp ze zs zm zargs zbelow zmeth zc zQ ls F N hl hret
  have hx := F.1
  have hb := F.2.1
  have hl : lv_has ls 1 [(0, .int t)] := hl
  refine lv_iload_n hx hb dX5_kind_0 rfl (lv_at hl 0 rfl) ?_
  refine lv_bipush (v := 7) hx hb dX5_kind_1 (by decide) ?_
  refine lv_iand hx hb dX5_kind_3 ?_
  exact hret _ _ _ _ _ _ dX5_kind_4 (by first | rfl | (simp [bI])) (by first | rfl | (simp [bI])) N
set_option maxHeartbeats 4000000 in
set_option maxRecDepth 100000 in
theorem c_X5_fixed (l : Launch) (G : GM) (w : va_W) (t : Int32) : XCi l G yX5_fixed cX5_fixed 1 (some .int) 0 [.int t] (w) (tFix t) (w) := by
  refine xi_start (by decide) rfl (Nat.le_of_ble_eq_true rfl) ?_
  intro zp ze zs zm zargs zbelow zmeth zc zQ ls F N hl hret
  have hx := F.1
  have hb := F.2.1
  have hl : lv_has ls 1 [(0, .int t)] := hl
  refine lv_iload_n hx hb dX5_fixed_0 rfl (lv_at hl 0 rfl) ?_
  refine lv_iconst (v := 3) hx hb dX5_fixed_1 (by decide) ?_
  refine lv_ishr hx hb dX5_fixed_2 ?_
  refine lv_bipush (v := 15) hx hb dX5_fixed_3 (by decide) ?_
  refine lv_iand hx hb dX5_fixed_5 ?_
  exact hret _ _ _ _ _ _ dX5_fixed_6 (by first | rfl | (simp [bI])) (by first | rfl | (simp [bI])) N
set_option maxHeartbeats 4000000 in
set_option maxRecDepth 100000 in
theorem c_X5_number (l : Launch) (G : GM) (w : va_W) (t : Int32) : XCi l G yX5_number cX5_number 1 (some .int) 0 [.int t] (w) (tNum t) (w) := by
  refine xi_start (by decide) rfl (Nat.le_of_ble_eq_true rfl) ?_
  intro zp ze zs zm zargs zbelow zmeth zc zQ ls F N hl hret
  have hx := F.1
  have hb := F.2.1
  have hl : lv_has ls 1 [(0, .int t)] := hl
  refine lv_iload_n hx hb dX5_number_0 rfl (lv_at hl 0 rfl) ?_
  refine lv_bipush (v := 7) hx hb dX5_number_1 (by decide) ?_
  refine lv_ishr hx hb dX5_number_3 ?_
  exact hret _ _ _ _ _ _ dX5_number_4 (by first | rfl | (simp [bI])) (by first | rfl | (simp [bI])) N
set_option maxHeartbeats 4000000 in
set_option maxRecDepth 100000 in
theorem c_X5_coordinate (l : Launch) (G : GM) (w : va_W) (t : Int32) (i : Int32) : XCi l G yX5_coordinate cX5_coordinate 2 (some .int) 0 [.int t, .int i] (w) (tCo t i) (w) := by
  refine xi_start (by decide) rfl (Nat.le_of_ble_eq_true rfl) ?_
  intro zp ze zs zm zargs zbelow zmeth zc zQ ls F N hl hret
  have hx := F.1
  have hb := F.2.1
  have hl : lv_has ls 2 [(0, .int t), (1, .int i)] := hl
  refine lv_iload_n hx hb dX5_coordinate_0 rfl (lv_at hl 0 rfl) ?_
  refine lv_bipush (v := 7) hx hb dX5_coordinate_1 (by decide) ?_
  refine lv_iconst (v := 3) hx hb dX5_coordinate_3 (by decide) ?_
  refine lv_iload_n hx hb dX5_coordinate_4 rfl (lv_at hl 1 rfl) ?_
  refine lv_imul hx hb dX5_coordinate_5 ?_
  refine lv_iadd hx hb dX5_coordinate_6 ?_
  refine lv_ishr hx hb dX5_coordinate_7 ?_
  refine lv_bipush (v := 7) hx hb dX5_coordinate_8 (by decide) ?_
  refine lv_iand hx hb dX5_coordinate_10 ?_
  exact hret _ _ _ _ _ _ dX5_coordinate_11 (by first | rfl | (simp [bI])) (by first | rfl | (simp [bI])) N
set_option maxHeartbeats 4000000 in
set_option maxRecDepth 100000 in
theorem c_X5_with (l : Launch) (G : GM) (w : va_W) (t : Int32) (i : Int32) (x : Int32) : XCi l G yX5_with cX5_with 4 (some .int) 0 [.int t, .int i, .int x] (w) (tWith t i x) (w) := by
  refine xi_start (by decide) rfl (Nat.le_of_ble_eq_true rfl) ?_
  intro zp ze zs zm zargs zbelow zmeth zc zQ ls F N hl hret
  have hx := F.1
  have hb := F.2.1
  have hl : lv_has ls 4 [(0, .int t), (1, .int i), (2, .int x)] := hl
  refine lv_bipush (v := 7) hx hb dX5_with_0 (by decide) ?_
  refine lv_iconst (v := 3) hx hb dX5_with_2 (by decide) ?_
  refine lv_iload_n hx hb dX5_with_3 rfl (lv_at hl 1 rfl) ?_
  refine lv_imul hx hb dX5_with_4 ?_
  refine lv_iadd hx hb dX5_with_5 ?_
  refine lv_istore_n (lv' := [(3, .int ((7 : Int32) + ((3 : Int32) * i))), (0, .int t), (1, .int i), (2, .int x)]) hx hb dX5_with_6 rfl hl (by decide) rfl (fun ls hl => ?_)
  refine lv_iload_n hx hb dX5_with_7 rfl (lv_at hl 1 rfl) ?_
  refine lv_bipush (v := 7) hx hb dX5_with_8 (by decide) ?_
  refine lv_iload_n hx hb dX5_with_10 rfl (lv_at hl 0 rfl) ?_
  refine lv_ishl hx hb dX5_with_11 ?_
  refine lv_iconst (v := (-1)) hx hb dX5_with_12 (by decide) ?_
  refine lv_ixor hx hb dX5_with_13 ?_
  refine lv_iand hx hb dX5_with_14 ?_
  refine lv_iload_n hx hb dX5_with_15 rfl (lv_at hl 3 rfl) ?_
  refine lv_iload_n hx hb dX5_with_16 rfl (lv_at hl 0 rfl) ?_
  refine lv_ishl hx hb dX5_with_17 ?_
  refine lv_ior hx hb dX5_with_18 ?_
  exact hret _ _ _ _ _ _ dX5_with_19 (by first | rfl | (simp [bI])) (by first | rfl | (simp [bI])) N
set_option maxHeartbeats 4000000 in
set_option maxRecDepth 100000 in
theorem c_X5_ofNumber (l : Launch) (G : GM) (w : va_W) (n : Int32) : XCi l G yX5_ofNumber cX5_ofNumber 1 (some .int) 0 [.int n] (w) (tOfNum n) (w) := by
  refine xi_start (by decide) rfl (Nat.le_of_ble_eq_true rfl) ?_
  intro zp ze zs zm zargs zbelow zmeth zc zQ ls F N hl hret
  have hx := F.1
  have hb := F.2.1
  have hl : lv_has ls 1 [(0, .int n)] := hl
  refine lv_iconst (v := 1) hx hb dX5_ofNumber_0 (by decide) ?_
  refine lv_iload_n hx hb dX5_ofNumber_1 rfl (lv_at hl 0 rfl) ?_
  refine lv_bipush (v := 7) hx hb dX5_ofNumber_2 (by decide) ?_
  refine lv_ishl hx hb dX5_ofNumber_4 ?_
  refine lv_ior hx hb dX5_ofNumber_5 ?_
  exact hret _ _ _ _ _ _ dX5_ofNumber_6 (by first | rfl | (simp [bI])) (by first | rfl | (simp [bI])) N
set_option maxHeartbeats 4000000 in
set_option maxRecDepth 100000 in
theorem c_X5_ofPlace (l : Launch) (G : GM) (w : va_W) (c : Int32) (r : Int32) (f : Int32) : XCi l G yX5_ofPlace cX5_ofPlace 4 (some .int) 1 [.int c, .int r, .int f] (w) (tOfPl c r f) (w) := by
  refine xi_start (by decide) rfl (Nat.le_of_ble_eq_true rfl) ?_
  intro zp ze zs zm zargs zbelow zmeth zc zQ ls F N hl hret
  have hx := F.1
  have hb := F.2.1
  have hl : lv_has ls 4 [(0, .int c), (1, .int r), (2, .int f)] := hl
  refine lv_iconst (v := 2) hx hb dX5_ofPlace_0 (by decide) ?_
  refine lv_iload_n hx hb dX5_ofPlace_1 rfl (lv_at hl 2 rfl) ?_
  refine lv_iconst (v := 3) hx hb dX5_ofPlace_2 (by decide) ?_
  refine lv_ishl hx hb dX5_ofPlace_3 ?_
  refine lv_ior hx hb dX5_ofPlace_4 ?_
  refine lv_istore_n (lv' := [(3, .int ((2 : Int32) ||| (f <<< ((3 : Int32) &&& 31)))), (0, .int c), (1, .int r), (2, .int f)]) hx hb dX5_ofPlace_5 rfl hl (by decide) rfl (fun ls hl => ?_)
  refine lv_iload_n hx hb dX5_ofPlace_6 rfl (lv_at hl 0 rfl) ?_
  refine lv_iconst (v := 0) hx hb dX5_ofPlace_7 (by decide) ?_
  refine lv_iload_n hx hb dX5_ofPlace_8 rfl (lv_at hl 1 rfl) ?_
  refine cS_i F N (c_X5_with l G _ ((2 : Int32) ||| (f <<< ((3 : Int32) &&& 31))) 0 c) miX5_with k_310 (by decide) hl.1 rfl (Nat.le_of_ble_eq_true rfl) dX5_ofPlace_9 (fun H locs N => ?_)
  refine lv_iconst (v := 1) hx hb dX5_ofPlace_12 (by decide) ?_
  refine lv_iload_n hx hb dX5_ofPlace_13 rfl (lv_at hl 2 rfl) ?_
  refine cS_i F N (c_X5_with l G _ (tWith ((2 : Int32) ||| (f <<< ((3 : Int32) &&& 31))) (0 : Int32) c) 1 r) miX5_with k_310 (by decide) hl.1 rfl (Nat.le_of_ble_eq_true rfl) dX5_ofPlace_14 (fun H locs N => ?_)
  exact hret _ _ _ _ _ _ dX5_ofPlace_17 (by first | rfl | (simp [bI])) (by first | rfl | (simp [bI])) N
set_option maxHeartbeats 4000000 in
set_option maxRecDepth 100000 in
theorem c_X5_refers (l : Launch) (G : GM) (w : va_W) (t : Int32) : XCi l G yX5_refers cX5_refers 1 (some .boolean) 1 [.int t] (w) (bI (tRef t)) (w) := by
  refine xi_start (by decide) (nar_bI _) (Nat.le_of_ble_eq_true rfl) ?_
  intro zp ze zs zm zargs zbelow zmeth zc zQ ls F N hl hret
  have hx := F.1
  have hb := F.2.1
  have hl : lv_has ls 1 [(0, .int t)] := hl
  refine lv_iload_n hx hb dX5_refers_0 rfl (lv_at hl 0 rfl) ?_
  refine cS_i F N (c_X5_kind l G _ t) miX5_kind k_428 (by decide) hl.1 rfl (Nat.le_of_ble_eq_true rfl) dX5_refers_1 (fun H locs N => ?_)
  refine lv_iconst (v := 2) hx hb dX5_refers_4 (by decide) ?_
  refine lv_icmp_eq (tgt := 16) hx hb dX5_refers_5 (by decide) (fun c_5 => ?_) (fun c_5 => ?_)
  · refine lv_iconst (v := 1) hx hb dX5_refers_16 (by decide) ?_
    refine lv_goto (tgt := 21) hx hb dX5_refers_17 (by decide) ?_
    exact hret _ _ _ _ _ _ dX5_refers_21 (by first | rfl | (simp [bI, tRef, c_5])) (by first | rfl | (simp [bI, tRef, c_5])) N
  · refine lv_iload_n hx hb dX5_refers_8 rfl (lv_at hl 0 rfl) ?_
    refine cS_i F N (c_X5_kind l G _ t) miX5_kind k_428 (by decide) hl.1 rfl (Nat.le_of_ble_eq_true rfl) dX5_refers_9 (fun H locs N => ?_)
    refine lv_iconst (v := 3) hx hb dX5_refers_12 (by decide) ?_
    refine lv_icmp_ne (tgt := 20) hx hb dX5_refers_13 (by decide) (fun c_13 => ?_) (fun c_13 => ?_)
    · refine lv_iconst (v := 0) hx hb dX5_refers_20 (by decide) ?_
      exact hret _ _ _ _ _ _ dX5_refers_21 (by first | rfl | (simp [bI, tRef, c_5, c_13])) (by first | rfl | (simp [bI, tRef, c_5, c_13])) N
    · refine lv_iconst (v := 1) hx hb dX5_refers_16 (by decide) ?_
      refine lv_goto (tgt := 21) hx hb dX5_refers_17 (by decide) ?_
      exact hret _ _ _ _ _ _ dX5_refers_21 (by first | rfl | (simp [bI, tRef, c_5, c_13])) (by first | rfl | (simp [bI, tRef, c_5, c_13])) N
set_option maxHeartbeats 4000000 in
set_option maxRecDepth 100000 in
theorem c_X5_least (l : Launch) (G : GM) (w : va_W) (t : Int32) (a : Int32) : XCi l G yX5_least cX5_least 2 (some .int) 1 [.int t, .int a] (w) (tLeast t a) (w) := by
  refine xi_start (by decide) rfl (Nat.le_of_ble_eq_true rfl) ?_
  intro zp ze zs zm zargs zbelow zmeth zc zQ ls F N hl hret
  have hx := F.1
  have hb := F.2.1
  have hl : lv_has ls 2 [(0, .int t), (1, .int a)] := hl
  refine lv_iload_n hx hb dX5_least_0 rfl (lv_at hl 0 rfl) ?_
  refine lv_iload_n hx hb dX5_least_1 rfl (lv_at hl 1 rfl) ?_
  refine cS_i F N (c_X5_coordinate l G _ t a) miX5_coordinate k_319 (by decide) hl.1 rfl (Nat.le_of_ble_eq_true rfl) dX5_least_2 (fun H locs N => ?_)
  exact hret _ _ _ _ _ _ dX5_least_5 (by first | rfl | (simp [bI])) (by first | rfl | (simp [bI])) N
set_option maxHeartbeats 4000000 in
set_option maxRecDepth 100000 in
theorem c_X5_greatest (l : Launch) (G : GM) (w : va_W) (t : Int32) (a : Int32) : XCi l G yX5_greatest cX5_greatest 2 (some .int) 1 [.int t, .int a] (w) (tGreat t a) (w) := by
  refine xi_start (by decide) rfl (Nat.le_of_ble_eq_true rfl) ?_
  intro zp ze zs zm zargs zbelow zmeth zc zQ ls F N hl hret
  have hx := F.1
  have hb := F.2.1
  have hl : lv_has ls 2 [(0, .int t), (1, .int a)] := hl
  refine lv_iload_n hx hb dX5_greatest_0 rfl (lv_at hl 0 rfl) ?_
  refine lv_iload_n hx hb dX5_greatest_1 rfl (lv_at hl 0 rfl) ?_
  refine cS_i F N (c_X5_kind l G _ t) miX5_kind k_428 (by decide) hl.1 rfl (Nat.le_of_ble_eq_true rfl) dX5_greatest_2 (fun H locs N => ?_)
  refine lv_iconst (v := 3) hx hb dX5_greatest_5 (by decide) ?_
  refine lv_icmp_ne (tgt := 15) hx hb dX5_greatest_6 (by decide) (fun c_6 => ?_) (fun c_6 => ?_)
  · refine lv_iload_n hx hb dX5_greatest_15 rfl (lv_at hl 1 rfl) ?_
    refine cS_i F N (c_X5_coordinate l G _ t a) miX5_coordinate k_319 (by decide) hl.1 rfl (Nat.le_of_ble_eq_true rfl) dX5_greatest_16 (fun H locs N => ?_)
    exact hret _ _ _ _ _ _ dX5_greatest_19 (by first | rfl | (simp [bI, tGreat, c_6])) (by first | rfl | (simp [bI, tGreat, c_6])) N
  · refine lv_iload_n hx hb dX5_greatest_9 rfl (lv_at hl 1 rfl) ?_
    refine lv_iconst (v := 2) hx hb dX5_greatest_10 (by decide) ?_
    refine lv_iadd hx hb dX5_greatest_11 ?_
    refine lv_goto (tgt := 16) hx hb dX5_greatest_12 (by decide) ?_
    refine cS_i F N (c_X5_coordinate l G _ t (a + (2 : Int32))) miX5_coordinate k_319 (by decide) hl.1 rfl (Nat.le_of_ble_eq_true rfl) dX5_greatest_16 (fun H locs N => ?_)
    exact hret _ _ _ _ _ _ dX5_greatest_19 (by first | rfl | (simp [bI, tGreat, c_6])) (by first | rfl | (simp [bI, tGreat, c_6])) N
set_option maxHeartbeats 4000000 in
set_option maxRecDepth 100000 in
theorem c_X5_crossed (l : Launch) (G : GM) (w : va_W) (t : Int32) (a : Int32) : XCi l G yX5_crossed cX5_crossed 7 (some .int) 1 [.int t, .int a] (w) (tCross t a) (w) := by
  refine xi_start (by decide) rfl (Nat.le_of_ble_eq_true rfl) ?_
  intro zp ze zs zm zargs zbelow zmeth zc zQ ls F N hl hret
  have hx := F.1
  have hb := F.2.1
  have hl : lv_has ls 7 [(0, .int t), (1, .int a)] := hl
  refine lv_iload_n hx hb dX5_crossed_0 rfl (lv_at hl 0 rfl) ?_
  refine lv_iload_n hx hb dX5_crossed_1 rfl (lv_at hl 1 rfl) ?_
  refine cS_i F N (c_X5_coordinate l G _ t a) miX5_coordinate k_319 (by decide) hl.1 rfl (Nat.le_of_ble_eq_true rfl) dX5_crossed_2 (fun H locs N => ?_)
  refine lv_istore_n (lv' := [(2, .int (tCo t a)), (0, .int t), (1, .int a)]) hx hb dX5_crossed_5 rfl hl (by decide) rfl (fun ls hl => ?_)
  refine lv_iload_n hx hb dX5_crossed_6 rfl (lv_at hl 1 rfl) ?_
  refine lv_iload_n hx hb dX5_crossed_7 rfl (lv_at hl 2 rfl) ?_
  refine lv_iconst (v := 2) hx hb dX5_crossed_8 (by decide) ?_
  refine lv_iadd hx hb dX5_crossed_9 ?_
  refine cS_i F N (c_X5_coordinate l G _ t (a + (2 : Int32))) miX5_coordinate k_319 (by decide) hl.1 rfl (Nat.le_of_ble_eq_true rfl) dX5_crossed_10 (fun H locs N => ?_)
  refine lv_istore_n (lv' := [(3, .int (tCo t (a + (2 : Int32)))), (2, .int (tCo t a)), (0, .int t), (1, .int a)]) hx hb dX5_crossed_13 rfl hl (by decide) rfl (fun ls hl => ?_)
  refine lv_iload_n hx hb dX5_crossed_14 rfl (lv_at hl 2 rfl) ?_
  refine lv_iload_n hx hb dX5_crossed_15 rfl (lv_at hl 3 rfl) ?_
  refine lv_iload_n hx hb dX5_crossed_16 rfl (lv_at hl 0 rfl) ?_
  refine cS_i F N (c_X5_with l G _ t a (tCo t (a + (2 : Int32)))) miX5_with k_310 (by decide) hl.1 rfl (Nat.le_of_ble_eq_true rfl) dX5_crossed_17 (fun H locs N => ?_)
  refine lv_iload_n hx hb dX5_crossed_20 rfl (lv_at hl 3 rfl) ?_
  refine lv_iconst (v := 2) hx hb dX5_crossed_21 (by decide) ?_
  refine lv_iadd hx hb dX5_crossed_22 ?_
  refine lv_iload_n hx hb dX5_crossed_23 rfl (lv_at hl 1 rfl) ?_
  refine cS_i F N (c_X5_with l G _ (tWith t a (tCo t (a + (2 : Int32)))) (a + (2 : Int32)) (tCo t a)) miX5_with k_310 (by decide) hl.1 rfl (Nat.le_of_ble_eq_true rfl) dX5_crossed_24 (fun H locs N => ?_)
  refine lv_istore (lv' := [(4, .int (tWith (tWith t a (tCo t (a + (2 : Int32)))) (a + (2 : Int32)) (tCo t a))), (3, .int (tCo t (a + (2 : Int32)))), (2, .int (tCo t a)), (0, .int t), (1, .int a)]) hx hb dX5_crossed_27 hl (by decide) rfl (fun ls hl => ?_)
  refine lv_iload_n hx hb dX5_crossed_29 rfl (lv_at hl 3 rfl) ?_
  refine cS_i F N (c_X5_fixed l G _ t) miX5_fixed k_316 (by decide) hl.1 rfl (Nat.le_of_ble_eq_true rfl) dX5_crossed_30 (fun H locs N => ?_)
  refine lv_iload_n hx hb dX5_crossed_33 rfl (lv_at hl 4 rfl) ?_
  refine lv_ishr hx hb dX5_crossed_34 ?_
  refine lv_iconst (v := 1) hx hb dX5_crossed_35 (by decide) ?_
  refine lv_iand hx hb dX5_crossed_36 ?_
  refine lv_istore (lv' := [(5, .int (((tFix t) >>> (a &&& 31)) &&& (1 : Int32))), (4, .int (tWith (tWith t a (tCo t (a + (2 : Int32)))) (a + (2 : Int32)) (tCo t a))), (3, .int (tCo t (a + (2 : Int32)))), (2, .int (tCo t a)), (0, .int t), (1, .int a)]) hx hb dX5_crossed_37 hl (by decide) rfl (fun ls hl => ?_)
  refine lv_iload_n hx hb dX5_crossed_39 rfl (lv_at hl 4 rfl) ?_
  refine cS_i F N (c_X5_fixed l G _ t) miX5_fixed k_316 (by decide) hl.1 rfl (Nat.le_of_ble_eq_true rfl) dX5_crossed_40 (fun H locs N => ?_)
  refine lv_iload_n hx hb dX5_crossed_43 rfl (lv_at hl 5 rfl) ?_
  refine lv_iconst (v := 2) hx hb dX5_crossed_44 (by decide) ?_
  refine lv_iadd hx hb dX5_crossed_45 ?_
  refine lv_ishr hx hb dX5_crossed_46 ?_
  refine lv_iconst (v := 1) hx hb dX5_crossed_47 (by decide) ?_
  refine lv_iand hx hb dX5_crossed_48 ?_
  refine lv_istore (lv' := [(6, .int (((tFix t) >>> ((a + (2 : Int32)) &&& 31)) &&& (1 : Int32))), (5, .int (((tFix t) >>> (a &&& 31)) &&& (1 : Int32))), (4, .int (tWith (tWith t a (tCo t (a + (2 : Int32)))) (a + (2 : Int32)) (tCo t a))), (3, .int (tCo t (a + (2 : Int32)))), (2, .int (tCo t a)), (0, .int t), (1, .int a)]) hx hb dX5_crossed_49 hl (by decide) rfl (fun ls hl => ?_)
  refine lv_iload hx hb dX5_crossed_51 (lv_at hl 1 rfl) ?_
  refine lv_iload hx hb dX5_crossed_53 (lv_at hl 0 rfl) ?_
  refine lv_icmp_ne (tgt := 63) hx hb dX5_crossed_55 (by decide) (fun c_55 => ?_) (fun c_55 => ?_)
  · refine lv_iload hx hb dX5_crossed_63 (lv_at hl 2 rfl) ?_
    refine lv_iconst (v := 5) hx hb dX5_crossed_65 (by decide) ?_
    refine lv_iload_n hx hb dX5_crossed_66 rfl (lv_at hl 6 rfl) ?_
    refine lv_ishl hx hb dX5_crossed_67 ?_
    refine lv_iconst (v := 3) hx hb dX5_crossed_68 (by decide) ?_
    refine lv_ishl hx hb dX5_crossed_69 ?_
    refine lv_ixor hx hb dX5_crossed_70 ?_
    exact hret _ _ _ _ _ _ dX5_crossed_71 (by first | rfl | (simp [bI, tCross, c_55])) (by first | rfl | (simp [bI, tCross, c_55])) N
  · refine lv_iload hx hb dX5_crossed_58 (lv_at hl 2 rfl) ?_
    refine lv_goto (tgt := 71) hx hb dX5_crossed_60 (by decide) ?_
    exact hret _ _ _ _ _ _ dX5_crossed_71 (by first | rfl | (simp [bI, tCross, c_55])) (by first | rfl | (simp [bI, tCross, c_55])) N
set_option maxHeartbeats 4000000 in
set_option maxRecDepth 100000 in
theorem c_X5_ordered (l : Launch) (G : GM) (w : va_W) (t : Int32) : XCi l G yX5_ordered cX5_ordered 3 (some .int) 2 [.int t] (w) (tOrd t) (w) := by
  refine xi_start (by decide) rfl (Nat.le_of_ble_eq_true rfl) ?_
  intro zp ze zs zm zargs zbelow zmeth zc zQ ls F N hl hret
  have hx := F.1
  have hb := F.2.1
  have hl : lv_has ls 3 [(0, .int t)] := hl
  refine lv_iload_n hx hb dX5_ordered_0 rfl (lv_at hl 0 rfl) ?_
  refine lv_istore_n (lv' := [(1, .int t), (0, .int t)]) hx hb dX5_ordered_1 rfl hl (by decide) rfl (fun ls hl => ?_)
  refine lv_iconst (v := 0) hx hb dX5_ordered_2 (by decide) ?_
  refine lv_istore_n (lv' := [(2, .int 0), (1, .int t), (0, .int t)]) hx hb dX5_ordered_3 rfl hl (by decide) rfl (fun ls hl => ?_)
  refine lv_iload_n hx hb dX5_ordered_4 rfl (lv_at hl 0 rfl) ?_
  refine lv_iconst (v := 1) hx hb dX5_ordered_5 (by decide) ?_
  refine lv_icmp_gt (tgt := 36) hx hb dX5_ordered_6 (by decide) (fun c_6 => ?_) (fun c_6 => ?_)
  · first | exact absurd c_6 (by decide) | exact absurd (by decide) c_6
  refine lv_iload_n hx hb dX5_ordered_9 rfl (lv_at hl 1 rfl) ?_
  refine lv_iload_n hx hb dX5_ordered_10 rfl (lv_at hl 0 rfl) ?_
  refine cS_i F N (c_X5_coordinate l G _ t 0) miX5_coordinate k_319 (by decide) hl.1 rfl (Nat.le_of_ble_eq_true rfl) dX5_ordered_11 (fun H locs N => ?_)
  refine lv_iload_n hx hb dX5_ordered_14 rfl (lv_at hl 1 rfl) ?_
  refine lv_iload_n hx hb dX5_ordered_15 rfl (lv_at hl 0 rfl) ?_
  refine lv_iconst (v := 2) hx hb dX5_ordered_16 (by decide) ?_
  refine lv_iadd hx hb dX5_ordered_17 ?_
  refine toI (y := 2) (by decide) ?_
  refine cS_i F N (c_X5_coordinate l G _ t 2) miX5_coordinate k_319 (by decide) hl.1 rfl (Nat.le_of_ble_eq_true rfl) dX5_ordered_18 (fun H locs N => ?_)
  refine lv_icmp_le (tgt := 30) hx hb dX5_ordered_21 (by decide) (fun c_21 => ?_) (fun c_21 => ?_)
  · have c_21v := le_nlt c_21
    refine lv_iinc (v := 1) (lv' := [(2, .int 1), (1, .int t), (0, .int t)]) hx hb dX5_ordered_30 hl (k := 0) rfl (by decide) (by decide) rfl (fun ls hl => ?_)
    refine lv_goto (tgt := 4) hx hb dX5_ordered_33 (by decide) ?_
    refine lv_iload_n hx hb dX5_ordered_4 rfl (lv_at hl 0 rfl) ?_
    refine lv_iconst (v := 1) hx hb dX5_ordered_5 (by decide) ?_
    refine lv_icmp_gt (tgt := 36) hx hb dX5_ordered_6 (by decide) (fun c_6_2 => ?_) (fun c_6_2 => ?_)
    · first | exact absurd c_6_2 (by decide) | exact absurd (by decide) c_6_2
    refine lv_iload_n hx hb dX5_ordered_9 rfl (lv_at hl 1 rfl) ?_
    refine lv_iload_n hx hb dX5_ordered_10 rfl (lv_at hl 0 rfl) ?_
    refine cS_i F N (c_X5_coordinate l G _ t 1) miX5_coordinate k_319 (by decide) hl.1 rfl (Nat.le_of_ble_eq_true rfl) dX5_ordered_11 (fun H locs N => ?_)
    refine lv_iload_n hx hb dX5_ordered_14 rfl (lv_at hl 1 rfl) ?_
    refine lv_iload_n hx hb dX5_ordered_15 rfl (lv_at hl 0 rfl) ?_
    refine lv_iconst (v := 2) hx hb dX5_ordered_16 (by decide) ?_
    refine lv_iadd hx hb dX5_ordered_17 ?_
    refine toI (y := 3) (by decide) ?_
    refine cS_i F N (c_X5_coordinate l G _ t 3) miX5_coordinate k_319 (by decide) hl.1 rfl (Nat.le_of_ble_eq_true rfl) dX5_ordered_18 (fun H locs N => ?_)
    refine lv_icmp_le (tgt := 30) hx hb dX5_ordered_21 (by decide) (fun c_21_2 => ?_) (fun c_21_2 => ?_)
    · have c_21_2v := le_nlt c_21_2
      refine lv_iinc (v := 2) (lv' := [(2, .int 2), (1, .int t), (0, .int t)]) hx hb dX5_ordered_30 hl (k := 0) rfl (by decide) (by decide) rfl (fun ls hl => ?_)
      refine lv_goto (tgt := 4) hx hb dX5_ordered_33 (by decide) ?_
      refine lv_iload_n hx hb dX5_ordered_4 rfl (lv_at hl 0 rfl) ?_
      refine lv_iconst (v := 1) hx hb dX5_ordered_5 (by decide) ?_
      refine lv_icmp_gt (tgt := 36) hx hb dX5_ordered_6 (by decide) (fun c_6_3 => ?_) (fun c_6_3 => ?_)
      rotate_left
      · first | exact absurd (by decide) c_6_3 | exact absurd c_6_3 (by decide)
      refine lv_iload_n hx hb dX5_ordered_36 rfl (lv_at hl 1 rfl) ?_
      exact hret _ _ _ _ _ _ dX5_ordered_37 (by first | rfl | (simp [bI, tOrd, tOrd1, c_21, c_21v, c_21_2, c_21_2v])) (by first | rfl | (simp [bI, tOrd, tOrd1, c_21, c_21v, c_21_2, c_21_2v])) N
    · have c_21_2v := nle_lt c_21_2
      refine lv_iload_n hx hb dX5_ordered_24 rfl (lv_at hl 1 rfl) ?_
      refine lv_iload_n hx hb dX5_ordered_25 rfl (lv_at hl 0 rfl) ?_
      refine cS_i F N (c_X5_crossed l G _ t 1) miX5_crossed k_325 (by decide) hl.1 rfl (Nat.le_of_ble_eq_true rfl) dX5_ordered_26 (fun H locs N => ?_)
      refine lv_istore_n (lv' := [(1, .int (tCross t (1 : Int32))), (2, .int 1), (0, .int t)]) hx hb dX5_ordered_29 rfl hl (by decide) rfl (fun ls hl => ?_)
      refine lv_iinc (v := 2) (lv' := [(2, .int 2), (1, .int (tCross t (1 : Int32))), (0, .int t)]) hx hb dX5_ordered_30 hl (k := 1) rfl (by decide) (by decide) rfl (fun ls hl => ?_)
      refine lv_goto (tgt := 4) hx hb dX5_ordered_33 (by decide) ?_
      refine lv_iload_n hx hb dX5_ordered_4 rfl (lv_at hl 0 rfl) ?_
      refine lv_iconst (v := 1) hx hb dX5_ordered_5 (by decide) ?_
      refine lv_icmp_gt (tgt := 36) hx hb dX5_ordered_6 (by decide) (fun c_6_3 => ?_) (fun c_6_3 => ?_)
      rotate_left
      · first | exact absurd (by decide) c_6_3 | exact absurd c_6_3 (by decide)
      refine lv_iload_n hx hb dX5_ordered_36 rfl (lv_at hl 1 rfl) ?_
      exact hret _ _ _ _ _ _ dX5_ordered_37 (by first | rfl | (simp [bI, tOrd, tOrd1, c_21, c_21v, c_21_2, c_21_2v])) (by first | rfl | (simp [bI, tOrd, tOrd1, c_21, c_21v, c_21_2, c_21_2v])) N
  · have c_21v := nle_lt c_21
    refine lv_iload_n hx hb dX5_ordered_24 rfl (lv_at hl 1 rfl) ?_
    refine lv_iload_n hx hb dX5_ordered_25 rfl (lv_at hl 0 rfl) ?_
    refine cS_i F N (c_X5_crossed l G _ t 0) miX5_crossed k_325 (by decide) hl.1 rfl (Nat.le_of_ble_eq_true rfl) dX5_ordered_26 (fun H locs N => ?_)
    refine lv_istore_n (lv' := [(1, .int (tCross t (0 : Int32))), (2, .int 0), (0, .int t)]) hx hb dX5_ordered_29 rfl hl (by decide) rfl (fun ls hl => ?_)
    refine lv_iinc (v := 1) (lv' := [(2, .int 1), (1, .int (tCross t (0 : Int32))), (0, .int t)]) hx hb dX5_ordered_30 hl (k := 1) rfl (by decide) (by decide) rfl (fun ls hl => ?_)
    refine lv_goto (tgt := 4) hx hb dX5_ordered_33 (by decide) ?_
    refine lv_iload_n hx hb dX5_ordered_4 rfl (lv_at hl 0 rfl) ?_
    refine lv_iconst (v := 1) hx hb dX5_ordered_5 (by decide) ?_
    refine lv_icmp_gt (tgt := 36) hx hb dX5_ordered_6 (by decide) (fun c_6_2 => ?_) (fun c_6_2 => ?_)
    · first | exact absurd c_6_2 (by decide) | exact absurd (by decide) c_6_2
    refine lv_iload_n hx hb dX5_ordered_9 rfl (lv_at hl 1 rfl) ?_
    refine lv_iload_n hx hb dX5_ordered_10 rfl (lv_at hl 0 rfl) ?_
    refine cS_i F N (c_X5_coordinate l G _ (tCross t (0 : Int32)) 1) miX5_coordinate k_319 (by decide) hl.1 rfl (Nat.le_of_ble_eq_true rfl) dX5_ordered_11 (fun H locs N => ?_)
    refine lv_iload_n hx hb dX5_ordered_14 rfl (lv_at hl 1 rfl) ?_
    refine lv_iload_n hx hb dX5_ordered_15 rfl (lv_at hl 0 rfl) ?_
    refine lv_iconst (v := 2) hx hb dX5_ordered_16 (by decide) ?_
    refine lv_iadd hx hb dX5_ordered_17 ?_
    refine toI (y := 3) (by decide) ?_
    refine cS_i F N (c_X5_coordinate l G _ (tCross t (0 : Int32)) 3) miX5_coordinate k_319 (by decide) hl.1 rfl (Nat.le_of_ble_eq_true rfl) dX5_ordered_18 (fun H locs N => ?_)
    refine lv_icmp_le (tgt := 30) hx hb dX5_ordered_21 (by decide) (fun c_21_2 => ?_) (fun c_21_2 => ?_)
    · have c_21_2v := le_nlt c_21_2
      refine lv_iinc (v := 2) (lv' := [(2, .int 2), (1, .int (tCross t (0 : Int32))), (0, .int t)]) hx hb dX5_ordered_30 hl (k := 0) rfl (by decide) (by decide) rfl (fun ls hl => ?_)
      refine lv_goto (tgt := 4) hx hb dX5_ordered_33 (by decide) ?_
      refine lv_iload_n hx hb dX5_ordered_4 rfl (lv_at hl 0 rfl) ?_
      refine lv_iconst (v := 1) hx hb dX5_ordered_5 (by decide) ?_
      refine lv_icmp_gt (tgt := 36) hx hb dX5_ordered_6 (by decide) (fun c_6_3 => ?_) (fun c_6_3 => ?_)
      rotate_left
      · first | exact absurd (by decide) c_6_3 | exact absurd c_6_3 (by decide)
      refine lv_iload_n hx hb dX5_ordered_36 rfl (lv_at hl 1 rfl) ?_
      exact hret _ _ _ _ _ _ dX5_ordered_37 (by first | rfl | (simp [bI, tOrd, tOrd1, c_21, c_21v, c_21_2, c_21_2v])) (by first | rfl | (simp [bI, tOrd, tOrd1, c_21, c_21v, c_21_2, c_21_2v])) N
    · have c_21_2v := nle_lt c_21_2
      refine lv_iload_n hx hb dX5_ordered_24 rfl (lv_at hl 1 rfl) ?_
      refine lv_iload_n hx hb dX5_ordered_25 rfl (lv_at hl 0 rfl) ?_
      refine cS_i F N (c_X5_crossed l G _ (tCross t (0 : Int32)) 1) miX5_crossed k_325 (by decide) hl.1 rfl (Nat.le_of_ble_eq_true rfl) dX5_ordered_26 (fun H locs N => ?_)
      refine lv_istore_n (lv' := [(1, .int (tCross (tCross t (0 : Int32)) (1 : Int32))), (2, .int 1), (0, .int t)]) hx hb dX5_ordered_29 rfl hl (by decide) rfl (fun ls hl => ?_)
      refine lv_iinc (v := 2) (lv' := [(2, .int 2), (1, .int (tCross (tCross t (0 : Int32)) (1 : Int32))), (0, .int t)]) hx hb dX5_ordered_30 hl (k := 1) rfl (by decide) (by decide) rfl (fun ls hl => ?_)
      refine lv_goto (tgt := 4) hx hb dX5_ordered_33 (by decide) ?_
      refine lv_iload_n hx hb dX5_ordered_4 rfl (lv_at hl 0 rfl) ?_
      refine lv_iconst (v := 1) hx hb dX5_ordered_5 (by decide) ?_
      refine lv_icmp_gt (tgt := 36) hx hb dX5_ordered_6 (by decide) (fun c_6_3 => ?_) (fun c_6_3 => ?_)
      rotate_left
      · first | exact absurd (by decide) c_6_3 | exact absurd c_6_3 (by decide)
      refine lv_iload_n hx hb dX5_ordered_36 rfl (lv_at hl 1 rfl) ?_
      exact hret _ _ _ _ _ _ dX5_ordered_37 (by first | rfl | (simp [bI, tOrd, tOrd1, c_21, c_21v, c_21_2, c_21_2v])) (by first | rfl | (simp [bI, tOrd, tOrd1, c_21, c_21v, c_21_2, c_21_2v])) N
set_option maxHeartbeats 4000000 in
set_option maxRecDepth 100000 in
theorem c_X5_ofBlock (l : Launch) (G : GM) (w : va_W) (x : Int32) (y : Int32) : XCi l G yX5_ofBlock cX5_ofBlock 5 (some .int) 3 [.int x, .int y] (w) (tOfBl x y) (w) := by
  refine xi_start (by decide) rfl (Nat.le_of_ble_eq_true rfl) ?_
  intro zp ze zs zm zargs zbelow zmeth zc zQ ls F N hl hret
  have hx := F.1
  have hb := F.2.1
  have hl : lv_has ls 5 [(0, .int x), (1, .int y)] := hl
  refine lv_iload_n hx hb dX5_ofBlock_0 rfl (lv_at hl 0 rfl) ?_
  refine cS_i F N (c_X5_fixed l G _ x) miX5_fixed k_316 (by decide) hl.1 rfl (Nat.le_of_ble_eq_true rfl) dX5_ofBlock_1 (fun H locs N => ?_)
  refine lv_iload_n hx hb dX5_ofBlock_4 rfl (lv_at hl 1 rfl) ?_
  refine cS_i F N (c_X5_fixed l G _ y) miX5_fixed k_316 (by decide) hl.1 rfl (Nat.le_of_ble_eq_true rfl) dX5_ofBlock_5 (fun H locs N => ?_)
  refine lv_iconst (v := 2) hx hb dX5_ofBlock_8 (by decide) ?_
  refine lv_ishl hx hb dX5_ofBlock_9 ?_
  refine lv_ior hx hb dX5_ofBlock_10 ?_
  refine lv_istore_n (lv' := [(2, .int ((tFix x) ||| ((tFix y) <<< ((2 : Int32) &&& 31)))), (0, .int x), (1, .int y)]) hx hb dX5_ofBlock_11 rfl hl (by decide) rfl (fun ls hl => ?_)
  refine lv_iconst (v := 3) hx hb dX5_ofBlock_12 (by decide) ?_
  refine lv_iload_n hx hb dX5_ofBlock_13 rfl (lv_at hl 0 rfl) ?_
  refine lv_iconst (v := 3) hx hb dX5_ofBlock_14 (by decide) ?_
  refine lv_ishl hx hb dX5_ofBlock_15 ?_
  refine lv_ior hx hb dX5_ofBlock_16 ?_
  refine lv_istore_n (lv' := [(3, .int ((3 : Int32) ||| (((tFix x) ||| ((tFix y) <<< ((2 : Int32) &&& 31))) <<< ((3 : Int32) &&& 31)))), (2, .int ((tFix x) ||| ((tFix y) <<< ((2 : Int32) &&& 31)))), (0, .int x), (1, .int y)]) hx hb dX5_ofBlock_17 rfl hl (by decide) rfl (fun ls hl => ?_)
  refine lv_iconst (v := 0) hx hb dX5_ofBlock_18 (by decide) ?_
  refine lv_istore (lv' := [(4, .int 0), (3, .int ((3 : Int32) ||| (((tFix x) ||| ((tFix y) <<< ((2 : Int32) &&& 31))) <<< ((3 : Int32) &&& 31)))), (2, .int ((tFix x) ||| ((tFix y) <<< ((2 : Int32) &&& 31)))), (0, .int x), (1, .int y)]) hx hb dX5_ofBlock_19 hl (by decide) rfl (fun ls hl => ?_)
  refine lv_iload hx hb dX5_ofBlock_21 (lv_at hl 0 rfl) ?_
  refine lv_iconst (v := 1) hx hb dX5_ofBlock_23 (by decide) ?_
  refine lv_icmp_gt (tgt := 61) hx hb dX5_ofBlock_24 (by decide) (fun c_24 => ?_) (fun c_24 => ?_)
  · first | exact absurd c_24 (by decide) | exact absurd (by decide) c_24
  refine lv_iload_n hx hb dX5_ofBlock_27 rfl (lv_at hl 1 rfl) ?_
  refine lv_iload hx hb dX5_ofBlock_28 (lv_at hl 0 rfl) ?_
  refine lv_iload_n hx hb dX5_ofBlock_30 rfl (lv_at hl 3 rfl) ?_
  refine lv_iload hx hb dX5_ofBlock_31 (lv_at hl 0 rfl) ?_
  refine cS_i F N (c_X5_coordinate l G _ x 0) miX5_coordinate k_319 (by decide) hl.1 rfl (Nat.le_of_ble_eq_true rfl) dX5_ofBlock_33 (fun H locs N => ?_)
  refine cS_i F N (c_X5_with l G _ ((3 : Int32) ||| (((tFix x) ||| ((tFix y) <<< ((2 : Int32) &&& 31))) <<< ((3 : Int32) &&& 31))) 0 (tCo x (0 : Int32))) miX5_with k_310 (by decide) hl.1 rfl (Nat.le_of_ble_eq_true rfl) dX5_ofBlock_36 (fun H locs N => ?_)
  refine lv_istore_n (lv' := [(3, .int (tWith ((3 : Int32) ||| (((tFix x) ||| ((tFix y) <<< ((2 : Int32) &&& 31))) <<< ((3 : Int32) &&& 31))) (0 : Int32) (tCo x (0 : Int32)))), (4, .int 0), (2, .int ((tFix x) ||| ((tFix y) <<< ((2 : Int32) &&& 31)))), (0, .int x), (1, .int y)]) hx hb dX5_ofBlock_39 rfl hl (by decide) rfl (fun ls hl => ?_)
  refine lv_iload_n hx hb dX5_ofBlock_40 rfl (lv_at hl 0 rfl) ?_
  refine lv_iload hx hb dX5_ofBlock_41 (lv_at hl 1 rfl) ?_
  refine lv_iconst (v := 2) hx hb dX5_ofBlock_43 (by decide) ?_
  refine lv_iadd hx hb dX5_ofBlock_44 ?_
  refine toI (y := 2) (by decide) ?_
  refine lv_iload_n hx hb dX5_ofBlock_45 rfl (lv_at hl 4 rfl) ?_
  refine lv_iload hx hb dX5_ofBlock_46 (lv_at hl 1 rfl) ?_
  refine cS_i F N (c_X5_coordinate l G _ y 0) miX5_coordinate k_319 (by decide) hl.1 rfl (Nat.le_of_ble_eq_true rfl) dX5_ofBlock_48 (fun H locs N => ?_)
  refine cS_i F N (c_X5_with l G _ (tWith ((3 : Int32) ||| (((tFix x) ||| ((tFix y) <<< ((2 : Int32) &&& 31))) <<< ((3 : Int32) &&& 31))) (0 : Int32) (tCo x (0 : Int32))) 2 (tCo y (0 : Int32))) miX5_with k_310 (by decide) hl.1 rfl (Nat.le_of_ble_eq_true rfl) dX5_ofBlock_51 (fun H locs N => ?_)
  refine lv_istore_n (lv' := [(3, .int (tWith (tWith ((3 : Int32) ||| (((tFix x) ||| ((tFix y) <<< ((2 : Int32) &&& 31))) <<< ((3 : Int32) &&& 31))) (0 : Int32) (tCo x (0 : Int32))) (2 : Int32) (tCo y (0 : Int32)))), (4, .int 0), (2, .int ((tFix x) ||| ((tFix y) <<< ((2 : Int32) &&& 31)))), (0, .int x), (1, .int y)]) hx hb dX5_ofBlock_54 rfl hl (by decide) rfl (fun ls hl => ?_)
  refine lv_iinc (v := 1) (lv' := [(4, .int 1), (3, .int (tWith (tWith ((3 : Int32) ||| (((tFix x) ||| ((tFix y) <<< ((2 : Int32) &&& 31))) <<< ((3 : Int32) &&& 31))) (0 : Int32) (tCo x (0 : Int32))) (2 : Int32) (tCo y (0 : Int32)))), (2, .int ((tFix x) ||| ((tFix y) <<< ((2 : Int32) &&& 31)))), (0, .int x), (1, .int y)]) hx hb dX5_ofBlock_55 hl (k := 1) rfl (by decide) (by decide) rfl (fun ls hl => ?_)
  refine lv_goto (tgt := 21) hx hb dX5_ofBlock_58 (by decide) ?_
  refine lv_iload hx hb dX5_ofBlock_21 (lv_at hl 0 rfl) ?_
  refine lv_iconst (v := 1) hx hb dX5_ofBlock_23 (by decide) ?_
  refine lv_icmp_gt (tgt := 61) hx hb dX5_ofBlock_24 (by decide) (fun c_24_2 => ?_) (fun c_24_2 => ?_)
  · first | exact absurd c_24_2 (by decide) | exact absurd (by decide) c_24_2
  refine lv_iload_n hx hb dX5_ofBlock_27 rfl (lv_at hl 1 rfl) ?_
  refine lv_iload hx hb dX5_ofBlock_28 (lv_at hl 0 rfl) ?_
  refine lv_iload_n hx hb dX5_ofBlock_30 rfl (lv_at hl 3 rfl) ?_
  refine lv_iload hx hb dX5_ofBlock_31 (lv_at hl 0 rfl) ?_
  refine cS_i F N (c_X5_coordinate l G _ x 1) miX5_coordinate k_319 (by decide) hl.1 rfl (Nat.le_of_ble_eq_true rfl) dX5_ofBlock_33 (fun H locs N => ?_)
  refine cS_i F N (c_X5_with l G _ (tWith (tWith ((3 : Int32) ||| (((tFix x) ||| ((tFix y) <<< ((2 : Int32) &&& 31))) <<< ((3 : Int32) &&& 31))) (0 : Int32) (tCo x (0 : Int32))) (2 : Int32) (tCo y (0 : Int32))) 1 (tCo x (1 : Int32))) miX5_with k_310 (by decide) hl.1 rfl (Nat.le_of_ble_eq_true rfl) dX5_ofBlock_36 (fun H locs N => ?_)
  refine lv_istore_n (lv' := [(3, .int (tWith (tWith (tWith ((3 : Int32) ||| (((tFix x) ||| ((tFix y) <<< ((2 : Int32) &&& 31))) <<< ((3 : Int32) &&& 31))) (0 : Int32) (tCo x (0 : Int32))) (2 : Int32) (tCo y (0 : Int32))) (1 : Int32) (tCo x (1 : Int32)))), (4, .int 1), (2, .int ((tFix x) ||| ((tFix y) <<< ((2 : Int32) &&& 31)))), (0, .int x), (1, .int y)]) hx hb dX5_ofBlock_39 rfl hl (by decide) rfl (fun ls hl => ?_)
  refine lv_iload_n hx hb dX5_ofBlock_40 rfl (lv_at hl 0 rfl) ?_
  refine lv_iload hx hb dX5_ofBlock_41 (lv_at hl 1 rfl) ?_
  refine lv_iconst (v := 2) hx hb dX5_ofBlock_43 (by decide) ?_
  refine lv_iadd hx hb dX5_ofBlock_44 ?_
  refine toI (y := 3) (by decide) ?_
  refine lv_iload_n hx hb dX5_ofBlock_45 rfl (lv_at hl 4 rfl) ?_
  refine lv_iload hx hb dX5_ofBlock_46 (lv_at hl 1 rfl) ?_
  refine cS_i F N (c_X5_coordinate l G _ y 1) miX5_coordinate k_319 (by decide) hl.1 rfl (Nat.le_of_ble_eq_true rfl) dX5_ofBlock_48 (fun H locs N => ?_)
  refine cS_i F N (c_X5_with l G _ (tWith (tWith (tWith ((3 : Int32) ||| (((tFix x) ||| ((tFix y) <<< ((2 : Int32) &&& 31))) <<< ((3 : Int32) &&& 31))) (0 : Int32) (tCo x (0 : Int32))) (2 : Int32) (tCo y (0 : Int32))) (1 : Int32) (tCo x (1 : Int32))) 3 (tCo y (1 : Int32))) miX5_with k_310 (by decide) hl.1 rfl (Nat.le_of_ble_eq_true rfl) dX5_ofBlock_51 (fun H locs N => ?_)
  refine lv_istore_n (lv' := [(3, .int (tWith (tWith (tWith (tWith ((3 : Int32) ||| (((tFix x) ||| ((tFix y) <<< ((2 : Int32) &&& 31))) <<< ((3 : Int32) &&& 31))) (0 : Int32) (tCo x (0 : Int32))) (2 : Int32) (tCo y (0 : Int32))) (1 : Int32) (tCo x (1 : Int32))) (3 : Int32) (tCo y (1 : Int32)))), (4, .int 1), (2, .int ((tFix x) ||| ((tFix y) <<< ((2 : Int32) &&& 31)))), (0, .int x), (1, .int y)]) hx hb dX5_ofBlock_54 rfl hl (by decide) rfl (fun ls hl => ?_)
  refine lv_iinc (v := 2) (lv' := [(4, .int 2), (3, .int (tWith (tWith (tWith (tWith ((3 : Int32) ||| (((tFix x) ||| ((tFix y) <<< ((2 : Int32) &&& 31))) <<< ((3 : Int32) &&& 31))) (0 : Int32) (tCo x (0 : Int32))) (2 : Int32) (tCo y (0 : Int32))) (1 : Int32) (tCo x (1 : Int32))) (3 : Int32) (tCo y (1 : Int32)))), (2, .int ((tFix x) ||| ((tFix y) <<< ((2 : Int32) &&& 31)))), (0, .int x), (1, .int y)]) hx hb dX5_ofBlock_55 hl (k := 1) rfl (by decide) (by decide) rfl (fun ls hl => ?_)
  refine lv_goto (tgt := 21) hx hb dX5_ofBlock_58 (by decide) ?_
  refine lv_iload hx hb dX5_ofBlock_21 (lv_at hl 0 rfl) ?_
  refine lv_iconst (v := 1) hx hb dX5_ofBlock_23 (by decide) ?_
  refine lv_icmp_gt (tgt := 61) hx hb dX5_ofBlock_24 (by decide) (fun c_24_3 => ?_) (fun c_24_3 => ?_)
  rotate_left
  · first | exact absurd (by decide) c_24_3 | exact absurd c_24_3 (by decide)
  refine lv_iload_n hx hb dX5_ofBlock_61 rfl (lv_at hl 1 rfl) ?_
  refine cS_i F N (c_X5_ordered l G _ (tWith (tWith (tWith (tWith ((3 : Int32) ||| (((tFix x) ||| ((tFix y) <<< ((2 : Int32) &&& 31))) <<< ((3 : Int32) &&& 31))) (0 : Int32) (tCo x (0 : Int32))) (2 : Int32) (tCo y (0 : Int32))) (1 : Int32) (tCo x (1 : Int32))) (3 : Int32) (tCo y (1 : Int32)))) miX5_ordered k_322 (by decide) hl.1 rfl (Nat.le_of_ble_eq_true rfl) dX5_ofBlock_62 (fun H locs N => ?_)
  exact hret _ _ _ _ _ _ dX5_ofBlock_65 (by first | rfl | (simp [bI])) (by first | rfl | (simp [bI])) N
set_option maxHeartbeats 4000000 in
set_option maxRecDepth 100000 in
theorem c_X5_whenLinesCome (l : Launch) (G : GM) (w : va_W) (t : Int32) (ax : Int32) (a : Int32) (n : Int32) : XCi l G yX5_whenLinesCome cX5_whenLinesCome 7 (some .int) 2 [.int t, .int ax, .int a, .int n] (w) (tCome t ax a n) (w) := by
  refine xi_start (by decide) rfl (Nat.le_of_ble_eq_true rfl) ?_
  intro zp ze zs zm zargs zbelow zmeth zc zQ ls F N hl hret
  have hx := F.1
  have hb := F.2.1
  have hl : lv_has ls 7 [(0, .int t), (1, .int ax), (2, .int a), (3, .int n)] := hl
  refine lv_iload_n hx hb dX5_whenLinesCome_0 rfl (lv_at hl 0 rfl) ?_
  refine cS_i F N (c_X5_refers l G _ t) miX5_refers k_425 (by decide) hl.1 rfl (Nat.le_of_ble_eq_true rfl) dX5_whenLinesCome_1 (fun H locs N => ?_)
  refine ifB_eq (tgt := 16) hx hb dX5_whenLinesCome_4 (by decide) (fun c_4 => ?_) (fun c_4 => ?_)
  · refine lv_iload_n hx hb dX5_whenLinesCome_16 rfl (lv_at hl 0 rfl) ?_
    exact hret _ _ _ _ _ _ dX5_whenLinesCome_17 (by first | rfl | (simp [bI, tCome, c_4])) (by first | rfl | (simp [bI, tCome, c_4])) N
  · refine lv_iload_n hx hb dX5_whenLinesCome_7 rfl (lv_at hl 0 rfl) ?_
    refine lv_iload_n hx hb dX5_whenLinesCome_8 rfl (lv_at hl 1 rfl) ?_
    refine cS_i F N (c_X5_greatest l G _ t ax) miX5_greatest k_431 (by decide) hl.1 rfl (Nat.le_of_ble_eq_true rfl) dX5_whenLinesCome_9 (fun H locs N => ?_)
    refine lv_iload_n hx hb dX5_whenLinesCome_12 rfl (lv_at hl 2 rfl) ?_
    refine lv_icmp_ge (tgt := 18) hx hb dX5_whenLinesCome_13 (by decide) (fun c_13 => ?_) (fun c_13 => ?_)
    · have c_13v := le_nlt c_13
      refine lv_iload_n hx hb dX5_whenLinesCome_18 rfl (lv_at hl 0 rfl) ?_
      refine lv_iload_n hx hb dX5_whenLinesCome_19 rfl (lv_at hl 1 rfl) ?_
      refine cS_i F N (c_X5_least l G _ t ax) miX5_least k_434 (by decide) hl.1 rfl (Nat.le_of_ble_eq_true rfl) dX5_whenLinesCome_20 (fun H locs N => ?_)
      refine lv_istore (lv' := [(4, .int (tLeast t ax)), (0, .int t), (1, .int ax), (2, .int a), (3, .int n)]) hx hb dX5_whenLinesCome_23 hl (by decide) rfl (fun ls hl => ?_)
      refine lv_iload hx hb dX5_whenLinesCome_25 (lv_at hl 0 rfl) ?_
      refine lv_iload_n hx hb dX5_whenLinesCome_27 rfl (lv_at hl 3 rfl) ?_
      refine lv_icmp_ge (tgt := 36) hx hb dX5_whenLinesCome_28 (by decide) (fun c_28 => ?_) (fun c_28 => ?_)
      · have c_28v := le_nlt c_28
        refine lv_iload hx hb dX5_whenLinesCome_36 (lv_at hl 0 rfl) ?_
        refine lv_iload_n hx hb dX5_whenLinesCome_38 rfl (lv_at hl 4 rfl) ?_
        refine lv_iadd hx hb dX5_whenLinesCome_39 ?_
        refine lv_istore (lv' := [(5, .int ((tLeast t ax) + n)), (4, .int (tLeast t ax)), (0, .int t), (1, .int ax), (2, .int a), (3, .int n)]) hx hb dX5_whenLinesCome_40 hl (by decide) rfl (fun ls hl => ?_)
        refine lv_iload hx hb dX5_whenLinesCome_42 (lv_at hl 0 rfl) ?_
        refine lv_bipush (v := 6) hx hb dX5_whenLinesCome_44 (by decide) ?_
        refine lv_icmp_lt (tgt := 51) hx hb dX5_whenLinesCome_46 (by decide) (fun c_46 => ?_) (fun c_46 => ?_)
        · have c_46v := lt_nle c_46
          refine lv_iload_n hx hb dX5_whenLinesCome_51 rfl (lv_at hl 2 rfl) ?_
          refine lv_iload_n hx hb dX5_whenLinesCome_52 rfl (lv_at hl 3 rfl) ?_
          refine lv_iload hx hb dX5_whenLinesCome_53 (lv_at hl 0 rfl) ?_
          refine cS_i F N (c_X5_with l G _ t ax ((tLeast t ax) + n)) miX5_with k_310 (by decide) hl.1 rfl (Nat.le_of_ble_eq_true rfl) dX5_whenLinesCome_55 (fun H locs N => ?_)
          refine lv_istore (lv' := [(6, .int (tWith t ax ((tLeast t ax) + n))), (5, .int ((tLeast t ax) + n)), (4, .int (tLeast t ax)), (0, .int t), (1, .int ax), (2, .int a), (3, .int n)]) hx hb dX5_whenLinesCome_58 hl (by decide) rfl (fun ls hl => ?_)
          refine lv_iload_n hx hb dX5_whenLinesCome_60 rfl (lv_at hl 3 rfl) ?_
          refine cS_i F N (c_X5_kind l G _ t) miX5_kind k_428 (by decide) hl.1 rfl (Nat.le_of_ble_eq_true rfl) dX5_whenLinesCome_61 (fun H locs N => ?_)
          refine lv_iconst (v := 2) hx hb dX5_whenLinesCome_64 (by decide) ?_
          refine lv_icmp_ne (tgt := 71) hx hb dX5_whenLinesCome_65 (by decide) (fun c_65 => ?_) (fun c_65 => ?_)
          · refine lv_iload hx hb dX5_whenLinesCome_71 (lv_at hl 0 rfl) ?_
            refine lv_iload_n hx hb dX5_whenLinesCome_73 rfl (lv_at hl 4 rfl) ?_
            refine lv_iconst (v := 2) hx hb dX5_whenLinesCome_74 (by decide) ?_
            refine lv_iadd hx hb dX5_whenLinesCome_75 ?_
            refine lv_iload_n hx hb dX5_whenLinesCome_76 rfl (lv_at hl 3 rfl) ?_
            refine lv_iload_n hx hb dX5_whenLinesCome_77 rfl (lv_at hl 4 rfl) ?_
            refine cS_i F N (c_X5_greatest l G _ t ax) miX5_greatest k_431 (by decide) hl.1 rfl (Nat.le_of_ble_eq_true rfl) dX5_whenLinesCome_78 (fun H locs N => ?_)
            refine lv_iload_n hx hb dX5_whenLinesCome_81 rfl (lv_at hl 6 rfl) ?_
            refine lv_iadd hx hb dX5_whenLinesCome_82 ?_
            refine lv_iconst (v := 5) hx hb dX5_whenLinesCome_83 (by decide) ?_
            refine va_mmin hx hb (F.2.2.1.trans hl.1.symm) F.2.2.2.1 (F.2.2.2.2.1 _ k_437) (F.2.2.2.2.1 _ k_344) (F.2.2.2.2.1 _ k_73) (F.2.2.2.2.1 _ k_345) (Nat.le_of_ble_eq_true rfl) (Nat.le_of_ble_eq_true rfl) (Nat.le_of_ble_eq_true rfl) (Nat.le_of_ble_eq_true rfl) dX5_whenLinesCome_84 ?_
            refine cS_i F N (c_X5_with l G _ (tWith t ax ((tLeast t ax) + n)) (ax + (2 : Int32)) (if (5 : Int32) < ((tGreat t ax) + n) then (5 : Int32) else ((tGreat t ax) + n))) miX5_with k_310 (by decide) hl.1 rfl (Nat.le_of_ble_eq_true rfl) dX5_whenLinesCome_87 (fun H locs N => ?_)
            exact hret _ _ _ _ _ _ dX5_whenLinesCome_90 (by first | rfl | (simp [bI, tCome, c_4, c_13, c_13v, c_28, c_28v, c_46, c_46v, c_65])) (by first | rfl | (simp [bI, tCome, c_4, c_13, c_13v, c_28, c_28v, c_46, c_46v, c_65])) N
          · refine lv_iload hx hb dX5_whenLinesCome_68 (lv_at hl 0 rfl) ?_
            exact hret _ _ _ _ _ _ dX5_whenLinesCome_70 (by first | rfl | (simp [bI, tCome, c_4, c_13, c_13v, c_28, c_28v, c_46, c_46v, c_65])) (by first | rfl | (simp [bI, tCome, c_4, c_13, c_13v, c_28, c_28v, c_46, c_46v, c_65])) N
        · have c_46v := nlt_le c_46
          refine lv_iconst (v := 4) hx hb dX5_whenLinesCome_49 (by decide) ?_
          exact hret _ _ _ _ _ _ dX5_whenLinesCome_50 (by first | rfl | (simp [bI, tCome, c_4, c_13, c_13v, c_28, c_28v, c_46, c_46v])) (by first | rfl | (simp [bI, tCome, c_4, c_13, c_13v, c_28, c_28v, c_46, c_46v])) N
      · have c_28v := nle_lt c_28
        refine lv_iload hx hb dX5_whenLinesCome_31 (lv_at hl 0 rfl) ?_
        refine lv_goto (tgt := 40) hx hb dX5_whenLinesCome_33 (by decide) ?_
        refine lv_istore (lv' := [(5, .int (tLeast t ax)), (4, .int (tLeast t ax)), (0, .int t), (1, .int ax), (2, .int a), (3, .int n)]) hx hb dX5_whenLinesCome_40 hl (by decide) rfl (fun ls hl => ?_)
        refine lv_iload hx hb dX5_whenLinesCome_42 (lv_at hl 0 rfl) ?_
        refine lv_bipush (v := 6) hx hb dX5_whenLinesCome_44 (by decide) ?_
        refine lv_icmp_lt (tgt := 51) hx hb dX5_whenLinesCome_46 (by decide) (fun c_46 => ?_) (fun c_46 => ?_)
        · have c_46v := lt_nle c_46
          refine lv_iload_n hx hb dX5_whenLinesCome_51 rfl (lv_at hl 2 rfl) ?_
          refine lv_iload_n hx hb dX5_whenLinesCome_52 rfl (lv_at hl 3 rfl) ?_
          refine lv_iload hx hb dX5_whenLinesCome_53 (lv_at hl 0 rfl) ?_
          refine cS_i F N (c_X5_with l G _ t ax (tLeast t ax)) miX5_with k_310 (by decide) hl.1 rfl (Nat.le_of_ble_eq_true rfl) dX5_whenLinesCome_55 (fun H locs N => ?_)
          refine lv_istore (lv' := [(6, .int (tWith t ax (tLeast t ax))), (5, .int (tLeast t ax)), (4, .int (tLeast t ax)), (0, .int t), (1, .int ax), (2, .int a), (3, .int n)]) hx hb dX5_whenLinesCome_58 hl (by decide) rfl (fun ls hl => ?_)
          refine lv_iload_n hx hb dX5_whenLinesCome_60 rfl (lv_at hl 3 rfl) ?_
          refine cS_i F N (c_X5_kind l G _ t) miX5_kind k_428 (by decide) hl.1 rfl (Nat.le_of_ble_eq_true rfl) dX5_whenLinesCome_61 (fun H locs N => ?_)
          refine lv_iconst (v := 2) hx hb dX5_whenLinesCome_64 (by decide) ?_
          refine lv_icmp_ne (tgt := 71) hx hb dX5_whenLinesCome_65 (by decide) (fun c_65 => ?_) (fun c_65 => ?_)
          · refine lv_iload hx hb dX5_whenLinesCome_71 (lv_at hl 0 rfl) ?_
            refine lv_iload_n hx hb dX5_whenLinesCome_73 rfl (lv_at hl 4 rfl) ?_
            refine lv_iconst (v := 2) hx hb dX5_whenLinesCome_74 (by decide) ?_
            refine lv_iadd hx hb dX5_whenLinesCome_75 ?_
            refine lv_iload_n hx hb dX5_whenLinesCome_76 rfl (lv_at hl 3 rfl) ?_
            refine lv_iload_n hx hb dX5_whenLinesCome_77 rfl (lv_at hl 4 rfl) ?_
            refine cS_i F N (c_X5_greatest l G _ t ax) miX5_greatest k_431 (by decide) hl.1 rfl (Nat.le_of_ble_eq_true rfl) dX5_whenLinesCome_78 (fun H locs N => ?_)
            refine lv_iload_n hx hb dX5_whenLinesCome_81 rfl (lv_at hl 6 rfl) ?_
            refine lv_iadd hx hb dX5_whenLinesCome_82 ?_
            refine lv_iconst (v := 5) hx hb dX5_whenLinesCome_83 (by decide) ?_
            refine va_mmin hx hb (F.2.2.1.trans hl.1.symm) F.2.2.2.1 (F.2.2.2.2.1 _ k_437) (F.2.2.2.2.1 _ k_344) (F.2.2.2.2.1 _ k_73) (F.2.2.2.2.1 _ k_345) (Nat.le_of_ble_eq_true rfl) (Nat.le_of_ble_eq_true rfl) (Nat.le_of_ble_eq_true rfl) (Nat.le_of_ble_eq_true rfl) dX5_whenLinesCome_84 ?_
            refine cS_i F N (c_X5_with l G _ (tWith t ax (tLeast t ax)) (ax + (2 : Int32)) (if (5 : Int32) < ((tGreat t ax) + n) then (5 : Int32) else ((tGreat t ax) + n))) miX5_with k_310 (by decide) hl.1 rfl (Nat.le_of_ble_eq_true rfl) dX5_whenLinesCome_87 (fun H locs N => ?_)
            exact hret _ _ _ _ _ _ dX5_whenLinesCome_90 (by first | rfl | (simp [bI, tCome, c_4, c_13, c_13v, c_28, c_28v, c_46, c_46v, c_65])) (by first | rfl | (simp [bI, tCome, c_4, c_13, c_13v, c_28, c_28v, c_46, c_46v, c_65])) N
          · refine lv_iload hx hb dX5_whenLinesCome_68 (lv_at hl 0 rfl) ?_
            exact hret _ _ _ _ _ _ dX5_whenLinesCome_70 (by first | rfl | (simp [bI, tCome, c_4, c_13, c_13v, c_28, c_28v, c_46, c_46v, c_65])) (by first | rfl | (simp [bI, tCome, c_4, c_13, c_13v, c_28, c_28v, c_46, c_46v, c_65])) N
        · have c_46v := nlt_le c_46
          refine lv_iconst (v := 4) hx hb dX5_whenLinesCome_49 (by decide) ?_
          exact hret _ _ _ _ _ _ dX5_whenLinesCome_50 (by first | rfl | (simp [bI, tCome, c_4, c_13, c_13v, c_28, c_28v, c_46, c_46v])) (by first | rfl | (simp [bI, tCome, c_4, c_13, c_13v, c_28, c_28v, c_46, c_46v])) N
    · have c_13v := nle_lt c_13
      refine lv_iload_n hx hb dX5_whenLinesCome_16 rfl (lv_at hl 0 rfl) ?_
      exact hret _ _ _ _ _ _ dX5_whenLinesCome_17 (by first | rfl | (simp [bI, tCome, c_4, c_13, c_13v])) (by first | rfl | (simp [bI, tCome, c_4, c_13, c_13v])) N
set_option maxHeartbeats 4000000 in
set_option maxRecDepth 100000 in
theorem c_X5_whenLinesGo (l : Launch) (G : GM) (w : va_W) (t : Int32) (ax : Int32) (a : Int32) (n : Int32) : XCi l G yX5_whenLinesGo cX5_whenLinesGo 9 (some .int) 2 [.int t, .int ax, .int a, .int n] (w) (tGo t ax a n) (w) := by
  refine xi_start (by decide) rfl (Nat.le_of_ble_eq_true rfl) ?_
  intro zp ze zs zm zargs zbelow zmeth zc zQ ls F N hl hret
  have hx := F.1
  have hb := F.2.1
  have hl : lv_has ls 9 [(0, .int t), (1, .int ax), (2, .int a), (3, .int n)] := hl
  refine lv_iload_n hx hb dX5_whenLinesGo_0 rfl (lv_at hl 0 rfl) ?_
  refine cS_i F N (c_X5_refers l G _ t) miX5_refers k_425 (by decide) hl.1 rfl (Nat.le_of_ble_eq_true rfl) dX5_whenLinesGo_1 (fun H locs N => ?_)
  refine ifB_eq (tgt := 16) hx hb dX5_whenLinesGo_4 (by decide) (fun c_4 => ?_) (fun c_4 => ?_)
  · refine lv_iload_n hx hb dX5_whenLinesGo_16 rfl (lv_at hl 0 rfl) ?_
    exact hret _ _ _ _ _ _ dX5_whenLinesGo_17 (by first | rfl | (simp [bI, tGo, tGoL, tGoG, c_4])) (by first | rfl | (simp [bI, tGo, tGoL, tGoG, c_4])) N
  · refine lv_iload_n hx hb dX5_whenLinesGo_7 rfl (lv_at hl 0 rfl) ?_
    refine lv_iload_n hx hb dX5_whenLinesGo_8 rfl (lv_at hl 1 rfl) ?_
    refine cS_i F N (c_X5_greatest l G _ t ax) miX5_greatest k_431 (by decide) hl.1 rfl (Nat.le_of_ble_eq_true rfl) dX5_whenLinesGo_9 (fun H locs N => ?_)
    refine lv_iload_n hx hb dX5_whenLinesGo_12 rfl (lv_at hl 2 rfl) ?_
    refine lv_icmp_ge (tgt := 18) hx hb dX5_whenLinesGo_13 (by decide) (fun c_13 => ?_) (fun c_13 => ?_)
    · have c_13v := le_nlt c_13
      refine lv_iload_n hx hb dX5_whenLinesGo_18 rfl (lv_at hl 0 rfl) ?_
      refine lv_iload_n hx hb dX5_whenLinesGo_19 rfl (lv_at hl 1 rfl) ?_
      refine cS_i F N (c_X5_least l G _ t ax) miX5_least k_434 (by decide) hl.1 rfl (Nat.le_of_ble_eq_true rfl) dX5_whenLinesGo_20 (fun H locs N => ?_)
      refine lv_istore (lv' := [(4, .int (tLeast t ax)), (0, .int t), (1, .int ax), (2, .int a), (3, .int n)]) hx hb dX5_whenLinesGo_23 hl (by decide) rfl (fun ls hl => ?_)
      refine lv_iload_n hx hb dX5_whenLinesGo_25 rfl (lv_at hl 1 rfl) ?_
      refine lv_iload_n hx hb dX5_whenLinesGo_26 rfl (lv_at hl 2 rfl) ?_
      refine cS_i F N (c_X5_greatest l G _ t ax) miX5_greatest k_431 (by decide) hl.1 rfl (Nat.le_of_ble_eq_true rfl) dX5_whenLinesGo_27 (fun H locs N => ?_)
      refine lv_istore (lv' := [(5, .int (tGreat t ax)), (4, .int (tLeast t ax)), (0, .int t), (1, .int ax), (2, .int a), (3, .int n)]) hx hb dX5_whenLinesGo_30 hl (by decide) rfl (fun ls hl => ?_)
      refine lv_iload hx hb dX5_whenLinesGo_32 (lv_at hl 1 rfl) ?_
      refine lv_iload_n hx hb dX5_whenLinesGo_34 rfl (lv_at hl 4 rfl) ?_
      refine lv_icmp_ge (tgt := 43) hx hb dX5_whenLinesGo_35 (by decide) (fun c_35 => ?_) (fun c_35 => ?_)
      · have c_35v := le_nlt c_35
        refine lv_iload hx hb dX5_whenLinesGo_43 (lv_at hl 1 rfl) ?_
        refine lv_iload_n hx hb dX5_whenLinesGo_45 rfl (lv_at hl 5 rfl) ?_
        refine lv_isub hx hb dX5_whenLinesGo_46 ?_
        refine lv_iload_n hx hb dX5_whenLinesGo_47 rfl (lv_at hl 4 rfl) ?_
        refine va_mmax hx hb (F.2.2.1.trans hl.1.symm) F.2.2.2.1 (F.2.2.2.2.1 _ k_456) (F.2.2.2.2.1 _ k_457) (F.2.2.2.2.1 _ k_73) (F.2.2.2.2.1 _ k_458) (Nat.le_of_ble_eq_true rfl) (Nat.le_of_ble_eq_true rfl) (Nat.le_of_ble_eq_true rfl) (Nat.le_of_ble_eq_true rfl) dX5_whenLinesGo_48 ?_
        refine lv_istore (lv' := [(6, .int (if ((tLeast t ax) - n) < a then a else ((tLeast t ax) - n))), (5, .int (tGreat t ax)), (4, .int (tLeast t ax)), (0, .int t), (1, .int ax), (2, .int a), (3, .int n)]) hx hb dX5_whenLinesGo_51 hl (by decide) rfl (fun ls hl => ?_)
        refine lv_iload hx hb dX5_whenLinesGo_53 (lv_at hl 1 rfl) ?_
        refine lv_iload_n hx hb dX5_whenLinesGo_55 rfl (lv_at hl 6 rfl) ?_
        refine lv_isub hx hb dX5_whenLinesGo_56 ?_
        refine lv_iload_n hx hb dX5_whenLinesGo_57 rfl (lv_at hl 5 rfl) ?_
        refine lv_iconst (v := 1) hx hb dX5_whenLinesGo_58 (by decide) ?_
        refine lv_isub hx hb dX5_whenLinesGo_59 ?_
        refine va_mmax hx hb (F.2.2.1.trans hl.1.symm) F.2.2.2.1 (F.2.2.2.2.1 _ k_456) (F.2.2.2.2.1 _ k_457) (F.2.2.2.2.1 _ k_73) (F.2.2.2.2.1 _ k_458) (Nat.le_of_ble_eq_true rfl) (Nat.le_of_ble_eq_true rfl) (Nat.le_of_ble_eq_true rfl) (Nat.le_of_ble_eq_true rfl) dX5_whenLinesGo_60 ?_
        refine lv_istore (lv' := [(7, .int (if ((tGreat t ax) - n) < (a - (1 : Int32)) then (a - (1 : Int32)) else ((tGreat t ax) - n))), (6, .int (if ((tLeast t ax) - n) < a then a else ((tLeast t ax) - n))), (5, .int (tGreat t ax)), (4, .int (tLeast t ax)), (0, .int t), (1, .int ax), (2, .int a), (3, .int n)]) hx hb dX5_whenLinesGo_63 hl (by decide) rfl (fun ls hl => ?_)
        refine lv_iload hx hb dX5_whenLinesGo_65 (lv_at hl 0 rfl) ?_
        refine lv_iload hx hb dX5_whenLinesGo_67 (lv_at hl 1 rfl) ?_
        refine lv_icmp_ge (tgt := 74) hx hb dX5_whenLinesGo_69 (by decide) (fun c_69 => ?_) (fun c_69 => ?_)
        · have c_69v := le_nlt c_69
          refine lv_iload_n hx hb dX5_whenLinesGo_74 rfl (lv_at hl 4 rfl) ?_
          refine lv_iload_n hx hb dX5_whenLinesGo_75 rfl (lv_at hl 5 rfl) ?_
          refine lv_iload hx hb dX5_whenLinesGo_76 (lv_at hl 1 rfl) ?_
          refine cS_i F N (c_X5_with l G _ t ax (if ((tLeast t ax) - n) < a then a else ((tLeast t ax) - n))) miX5_with k_310 (by decide) hl.1 rfl (Nat.le_of_ble_eq_true rfl) dX5_whenLinesGo_78 (fun H locs N => ?_)
          refine lv_istore (lv' := [(8, .int (tWith t ax (if ((tLeast t ax) - n) < a then a else ((tLeast t ax) - n)))), (7, .int (if ((tGreat t ax) - n) < (a - (1 : Int32)) then (a - (1 : Int32)) else ((tGreat t ax) - n))), (6, .int (if ((tLeast t ax) - n) < a then a else ((tLeast t ax) - n))), (5, .int (tGreat t ax)), (4, .int (tLeast t ax)), (0, .int t), (1, .int ax), (2, .int a), (3, .int n)]) hx hb dX5_whenLinesGo_81 hl (by decide) rfl (fun ls hl => ?_)
          refine lv_iload_n hx hb dX5_whenLinesGo_83 rfl (lv_at hl 5 rfl) ?_
          refine cS_i F N (c_X5_kind l G _ t) miX5_kind k_428 (by decide) hl.1 rfl (Nat.le_of_ble_eq_true rfl) dX5_whenLinesGo_84 (fun H locs N => ?_)
          refine lv_iconst (v := 2) hx hb dX5_whenLinesGo_87 (by decide) ?_
          refine lv_icmp_ne (tgt := 96) hx hb dX5_whenLinesGo_88 (by decide) (fun c_88 => ?_) (fun c_88 => ?_)
          · refine lv_iload hx hb dX5_whenLinesGo_96 (lv_at hl 0 rfl) ?_
            refine lv_iload_n hx hb dX5_whenLinesGo_98 rfl (lv_at hl 6 rfl) ?_
            refine lv_iconst (v := 2) hx hb dX5_whenLinesGo_99 (by decide) ?_
            refine lv_iadd hx hb dX5_whenLinesGo_100 ?_
            refine lv_iload hx hb dX5_whenLinesGo_101 (lv_at hl 1 rfl) ?_
            refine cS_i F N (c_X5_with l G _ (tWith t ax (if ((tLeast t ax) - n) < a then a else ((tLeast t ax) - n))) (ax + (2 : Int32)) (if ((tGreat t ax) - n) < (a - (1 : Int32)) then (a - (1 : Int32)) else ((tGreat t ax) - n))) miX5_with k_310 (by decide) hl.1 rfl (Nat.le_of_ble_eq_true rfl) dX5_whenLinesGo_103 (fun H locs N => ?_)
            exact hret _ _ _ _ _ _ dX5_whenLinesGo_106 (by first | rfl | (simp [bI, tGo, tGoL, tGoG, c_4, c_13, c_13v, c_35, c_35v, c_69, c_69v, c_88])) (by first | rfl | (simp [bI, tGo, tGoL, tGoG, c_4, c_13, c_13v, c_35, c_35v, c_69, c_69v, c_88])) N
          · refine lv_iload hx hb dX5_whenLinesGo_91 (lv_at hl 0 rfl) ?_
            refine lv_goto (tgt := 106) hx hb dX5_whenLinesGo_93 (by decide) ?_
            exact hret _ _ _ _ _ _ dX5_whenLinesGo_106 (by first | rfl | (simp [bI, tGo, tGoL, tGoG, c_4, c_13, c_13v, c_35, c_35v, c_69, c_69v, c_88])) (by first | rfl | (simp [bI, tGo, tGoL, tGoG, c_4, c_13, c_13v, c_35, c_35v, c_69, c_69v, c_88])) N
        · have c_69v := nle_lt c_69
          refine lv_iconst (v := 4) hx hb dX5_whenLinesGo_72 (by decide) ?_
          exact hret _ _ _ _ _ _ dX5_whenLinesGo_73 (by first | rfl | (simp [bI, tGo, tGoL, tGoG, c_4, c_13, c_13v, c_35, c_35v, c_69, c_69v])) (by first | rfl | (simp [bI, tGo, tGoL, tGoG, c_4, c_13, c_13v, c_35, c_35v, c_69, c_69v])) N
      · have c_35v := nle_lt c_35
        refine lv_iload hx hb dX5_whenLinesGo_38 (lv_at hl 1 rfl) ?_
        refine lv_goto (tgt := 51) hx hb dX5_whenLinesGo_40 (by decide) ?_
        refine lv_istore (lv' := [(6, .int (tLeast t ax)), (5, .int (tGreat t ax)), (4, .int (tLeast t ax)), (0, .int t), (1, .int ax), (2, .int a), (3, .int n)]) hx hb dX5_whenLinesGo_51 hl (by decide) rfl (fun ls hl => ?_)
        refine lv_iload hx hb dX5_whenLinesGo_53 (lv_at hl 1 rfl) ?_
        refine lv_iload_n hx hb dX5_whenLinesGo_55 rfl (lv_at hl 6 rfl) ?_
        refine lv_isub hx hb dX5_whenLinesGo_56 ?_
        refine lv_iload_n hx hb dX5_whenLinesGo_57 rfl (lv_at hl 5 rfl) ?_
        refine lv_iconst (v := 1) hx hb dX5_whenLinesGo_58 (by decide) ?_
        refine lv_isub hx hb dX5_whenLinesGo_59 ?_
        refine va_mmax hx hb (F.2.2.1.trans hl.1.symm) F.2.2.2.1 (F.2.2.2.2.1 _ k_456) (F.2.2.2.2.1 _ k_457) (F.2.2.2.2.1 _ k_73) (F.2.2.2.2.1 _ k_458) (Nat.le_of_ble_eq_true rfl) (Nat.le_of_ble_eq_true rfl) (Nat.le_of_ble_eq_true rfl) (Nat.le_of_ble_eq_true rfl) dX5_whenLinesGo_60 ?_
        refine lv_istore (lv' := [(7, .int (if ((tGreat t ax) - n) < (a - (1 : Int32)) then (a - (1 : Int32)) else ((tGreat t ax) - n))), (6, .int (tLeast t ax)), (5, .int (tGreat t ax)), (4, .int (tLeast t ax)), (0, .int t), (1, .int ax), (2, .int a), (3, .int n)]) hx hb dX5_whenLinesGo_63 hl (by decide) rfl (fun ls hl => ?_)
        refine lv_iload hx hb dX5_whenLinesGo_65 (lv_at hl 0 rfl) ?_
        refine lv_iload hx hb dX5_whenLinesGo_67 (lv_at hl 1 rfl) ?_
        refine lv_icmp_ge (tgt := 74) hx hb dX5_whenLinesGo_69 (by decide) (fun c_69 => ?_) (fun c_69 => ?_)
        · have c_69v := le_nlt c_69
          refine lv_iload_n hx hb dX5_whenLinesGo_74 rfl (lv_at hl 4 rfl) ?_
          refine lv_iload_n hx hb dX5_whenLinesGo_75 rfl (lv_at hl 5 rfl) ?_
          refine lv_iload hx hb dX5_whenLinesGo_76 (lv_at hl 1 rfl) ?_
          refine cS_i F N (c_X5_with l G _ t ax (tLeast t ax)) miX5_with k_310 (by decide) hl.1 rfl (Nat.le_of_ble_eq_true rfl) dX5_whenLinesGo_78 (fun H locs N => ?_)
          refine lv_istore (lv' := [(8, .int (tWith t ax (tLeast t ax))), (7, .int (if ((tGreat t ax) - n) < (a - (1 : Int32)) then (a - (1 : Int32)) else ((tGreat t ax) - n))), (6, .int (tLeast t ax)), (5, .int (tGreat t ax)), (4, .int (tLeast t ax)), (0, .int t), (1, .int ax), (2, .int a), (3, .int n)]) hx hb dX5_whenLinesGo_81 hl (by decide) rfl (fun ls hl => ?_)
          refine lv_iload_n hx hb dX5_whenLinesGo_83 rfl (lv_at hl 5 rfl) ?_
          refine cS_i F N (c_X5_kind l G _ t) miX5_kind k_428 (by decide) hl.1 rfl (Nat.le_of_ble_eq_true rfl) dX5_whenLinesGo_84 (fun H locs N => ?_)
          refine lv_iconst (v := 2) hx hb dX5_whenLinesGo_87 (by decide) ?_
          refine lv_icmp_ne (tgt := 96) hx hb dX5_whenLinesGo_88 (by decide) (fun c_88 => ?_) (fun c_88 => ?_)
          · refine lv_iload hx hb dX5_whenLinesGo_96 (lv_at hl 0 rfl) ?_
            refine lv_iload_n hx hb dX5_whenLinesGo_98 rfl (lv_at hl 6 rfl) ?_
            refine lv_iconst (v := 2) hx hb dX5_whenLinesGo_99 (by decide) ?_
            refine lv_iadd hx hb dX5_whenLinesGo_100 ?_
            refine lv_iload hx hb dX5_whenLinesGo_101 (lv_at hl 1 rfl) ?_
            refine cS_i F N (c_X5_with l G _ (tWith t ax (tLeast t ax)) (ax + (2 : Int32)) (if ((tGreat t ax) - n) < (a - (1 : Int32)) then (a - (1 : Int32)) else ((tGreat t ax) - n))) miX5_with k_310 (by decide) hl.1 rfl (Nat.le_of_ble_eq_true rfl) dX5_whenLinesGo_103 (fun H locs N => ?_)
            exact hret _ _ _ _ _ _ dX5_whenLinesGo_106 (by first | rfl | (simp [bI, tGo, tGoL, tGoG, c_4, c_13, c_13v, c_35, c_35v, c_69, c_69v, c_88])) (by first | rfl | (simp [bI, tGo, tGoL, tGoG, c_4, c_13, c_13v, c_35, c_35v, c_69, c_69v, c_88])) N
          · refine lv_iload hx hb dX5_whenLinesGo_91 (lv_at hl 0 rfl) ?_
            refine lv_goto (tgt := 106) hx hb dX5_whenLinesGo_93 (by decide) ?_
            exact hret _ _ _ _ _ _ dX5_whenLinesGo_106 (by first | rfl | (simp [bI, tGo, tGoL, tGoG, c_4, c_13, c_13v, c_35, c_35v, c_69, c_69v, c_88])) (by first | rfl | (simp [bI, tGo, tGoL, tGoG, c_4, c_13, c_13v, c_35, c_35v, c_69, c_69v, c_88])) N
        · have c_69v := nle_lt c_69
          refine lv_iconst (v := 4) hx hb dX5_whenLinesGo_72 (by decide) ?_
          exact hret _ _ _ _ _ _ dX5_whenLinesGo_73 (by first | rfl | (simp [bI, tGo, tGoL, tGoG, c_4, c_13, c_13v, c_35, c_35v, c_69, c_69v])) (by first | rfl | (simp [bI, tGo, tGoL, tGoG, c_4, c_13, c_13v, c_35, c_35v, c_69, c_69v])) N
    · have c_13v := nle_lt c_13
      refine lv_iload_n hx hb dX5_whenLinesGo_16 rfl (lv_at hl 0 rfl) ?_
      exact hret _ _ _ _ _ _ dX5_whenLinesGo_17 (by first | rfl | (simp [bI, tGo, tGoL, tGoG, c_4, c_13, c_13v])) (by first | rfl | (simp [bI, tGo, tGoL, tGoG, c_4, c_13, c_13v])) N
set_option maxHeartbeats 4000000 in
set_option maxRecDepth 100000 in
theorem c_X4_lineOf (l : Launch) (G : GM) (w : va_W) (cell : Int32) (ax : Int32) : XCi l G yX4_lineOf cX4_lineOf 2 (some .int) 1 [.int cell, .int ax] (w) (lnOf cell ax) (w) := by
  refine xi_start (by decide) rfl (Nat.le_of_ble_eq_true rfl) ?_
  intro zp ze zs zm zargs zbelow zmeth zc zQ ls F N hl hret
  have hx := F.1
  have hb := F.2.1
  have hl : lv_has ls 2 [(0, .int cell), (1, .int ax)] := hl
  refine lv_iload_n hx hb dX4_lineOf_0 rfl (lv_at hl 1 rfl) ?_
  refine lv_if_ne (tgt := 11) hx hb dX4_lineOf_1 (by decide) (fun c_1 => ?_) (fun c_1 => ?_)
  · refine lv_iload_n hx hb dX4_lineOf_11 rfl (lv_at hl 0 rfl) ?_
    refine cN_i F N (c_X8_rowOf l G _ cell) miX8_rowOf k_399 (by decide) hl.1 rfl (Nat.le_of_ble_eq_true rfl) dX4_lineOf_12 (fun H locs N => ?_)
    exact hret _ _ _ _ _ _ dX4_lineOf_15 (by first | rfl | (simp [bI, lnOf, c_1])) (by first | rfl | (simp [bI, lnOf, c_1])) N
  · refine lv_iload_n hx hb dX4_lineOf_4 rfl (lv_at hl 0 rfl) ?_
    refine cN_i F N (c_X8_columnOf l G _ cell) miX8_columnOf k_396 (by decide) hl.1 rfl (Nat.le_of_ble_eq_true rfl) dX4_lineOf_5 (fun H locs N => ?_)
    refine lv_goto (tgt := 15) hx hb dX4_lineOf_8 (by decide) ?_
    exact hret _ _ _ _ _ _ dX4_lineOf_15 (by first | rfl | (simp [bI, lnOf, c_1])) (by first | rfl | (simp [bI, lnOf, c_1])) N
set_option maxHeartbeats 4000000 in
set_option maxRecDepth 100000 in
theorem c_X4_lineAfterComing (l : Launch) (G : GM) (w : va_W) (ln : Int32) (a : Int32) (n : Int32) : XCi l G yX4_lineAfterComing cX4_lineAfterComing 3 (some .int) 0 [.int ln, .int a, .int n] (w) (lnCome ln a n) (w) := by
  refine xi_start (by decide) rfl (Nat.le_of_ble_eq_true rfl) ?_
  intro zp ze zs zm zargs zbelow zmeth zc zQ ls F N hl hret
  have hx := F.1
  have hb := F.2.1
  have hl : lv_has ls 3 [(0, .int ln), (1, .int a), (2, .int n)] := hl
  refine lv_iload_n hx hb dX4_lineAfterComing_0 rfl (lv_at hl 0 rfl) ?_
  refine lv_iload_n hx hb dX4_lineAfterComing_1 rfl (lv_at hl 1 rfl) ?_
  refine lv_icmp_ge (tgt := 7) hx hb dX4_lineAfterComing_2 (by decide) (fun c_2 => ?_) (fun c_2 => ?_)
  · have c_2v := le_nlt c_2
    refine lv_iload_n hx hb dX4_lineAfterComing_7 rfl (lv_at hl 0 rfl) ?_
    refine lv_iload_n hx hb dX4_lineAfterComing_8 rfl (lv_at hl 2 rfl) ?_
    refine lv_iadd hx hb dX4_lineAfterComing_9 ?_
    refine lv_bipush (v := 6) hx hb dX4_lineAfterComing_10 (by decide) ?_
    refine lv_icmp_ge (tgt := 21) hx hb dX4_lineAfterComing_12 (by decide) (fun c_12 => ?_) (fun c_12 => ?_)
    · have c_12v := le_nlt c_12
      refine lv_iconst (v := (-1)) hx hb dX4_lineAfterComing_21 (by decide) ?_
      exact hret _ _ _ _ _ _ dX4_lineAfterComing_22 (by first | rfl | (simp [bI, lnCome, c_2, c_2v, c_12, c_12v])) (by first | rfl | (simp [bI, lnCome, c_2, c_2v, c_12, c_12v])) N
    · have c_12v := nle_lt c_12
      refine lv_iload_n hx hb dX4_lineAfterComing_15 rfl (lv_at hl 0 rfl) ?_
      refine lv_iload_n hx hb dX4_lineAfterComing_16 rfl (lv_at hl 2 rfl) ?_
      refine lv_iadd hx hb dX4_lineAfterComing_17 ?_
      refine lv_goto (tgt := 22) hx hb dX4_lineAfterComing_18 (by decide) ?_
      exact hret _ _ _ _ _ _ dX4_lineAfterComing_22 (by first | rfl | (simp [bI, lnCome, c_2, c_2v, c_12, c_12v])) (by first | rfl | (simp [bI, lnCome, c_2, c_2v, c_12, c_12v])) N
  · have c_2v := nle_lt c_2
    refine lv_iload_n hx hb dX4_lineAfterComing_5 rfl (lv_at hl 0 rfl) ?_
    exact hret _ _ _ _ _ _ dX4_lineAfterComing_6 (by first | rfl | (simp [bI, lnCome, c_2, c_2v])) (by first | rfl | (simp [bI, lnCome, c_2, c_2v])) N
set_option maxHeartbeats 4000000 in
set_option maxRecDepth 100000 in
theorem c_X4_lineAfterGoing (l : Launch) (G : GM) (w : va_W) (ln : Int32) (a : Int32) (n : Int32) : XCi l G yX4_lineAfterGoing cX4_lineAfterGoing 3 (some .int) 0 [.int ln, .int a, .int n] (w) (lnGo ln a n) (w) := by
  refine xi_start (by decide) rfl (Nat.le_of_ble_eq_true rfl) ?_
  intro zp ze zs zm zargs zbelow zmeth zc zQ ls F N hl hret
  have hx := F.1
  have hb := F.2.1
  have hl : lv_has ls 3 [(0, .int ln), (1, .int a), (2, .int n)] := hl
  refine lv_iload_n hx hb dX4_lineAfterGoing_0 rfl (lv_at hl 0 rfl) ?_
  refine lv_iload_n hx hb dX4_lineAfterGoing_1 rfl (lv_at hl 1 rfl) ?_
  refine lv_icmp_ge (tgt := 7) hx hb dX4_lineAfterGoing_2 (by decide) (fun c_2 => ?_) (fun c_2 => ?_)
  · have c_2v := le_nlt c_2
    refine lv_iload_n hx hb dX4_lineAfterGoing_7 rfl (lv_at hl 0 rfl) ?_
    refine lv_iload_n hx hb dX4_lineAfterGoing_8 rfl (lv_at hl 1 rfl) ?_
    refine lv_iload_n hx hb dX4_lineAfterGoing_9 rfl (lv_at hl 2 rfl) ?_
    refine lv_iadd hx hb dX4_lineAfterGoing_10 ?_
    refine lv_icmp_lt (tgt := 20) hx hb dX4_lineAfterGoing_11 (by decide) (fun c_11 => ?_) (fun c_11 => ?_)
    · have c_11v := lt_nle c_11
      refine lv_iconst (v := (-1)) hx hb dX4_lineAfterGoing_20 (by decide) ?_
      exact hret _ _ _ _ _ _ dX4_lineAfterGoing_21 (by first | rfl | (simp [bI, lnGo, c_2, c_2v, c_11, c_11v])) (by first | rfl | (simp [bI, lnGo, c_2, c_2v, c_11, c_11v])) N
    · have c_11v := nlt_le c_11
      refine lv_iload_n hx hb dX4_lineAfterGoing_14 rfl (lv_at hl 0 rfl) ?_
      refine lv_iload_n hx hb dX4_lineAfterGoing_15 rfl (lv_at hl 2 rfl) ?_
      refine lv_isub hx hb dX4_lineAfterGoing_16 ?_
      refine lv_goto (tgt := 21) hx hb dX4_lineAfterGoing_17 (by decide) ?_
      exact hret _ _ _ _ _ _ dX4_lineAfterGoing_21 (by first | rfl | (simp [bI, lnGo, c_2, c_2v, c_11, c_11v])) (by first | rfl | (simp [bI, lnGo, c_2, c_2v, c_11, c_11v])) N
  · have c_2v := nle_lt c_2
    refine lv_iload_n hx hb dX4_lineAfterGoing_5 rfl (lv_at hl 0 rfl) ?_
    exact hret _ _ _ _ _ _ dX4_lineAfterGoing_6 (by first | rfl | (simp [bI, lnGo, c_2, c_2v])) (by first | rfl | (simp [bI, lnGo, c_2, c_2v])) N
set_option maxHeartbeats 4000000 in
set_option maxRecDepth 100000 in
theorem c_X3_isFigure (l : Launch) (G : GM) (w : va_W) (b : Int32) : XCi l G yX3_isFigure cX3_isFigure 1 (some .boolean) 0 [.int b] (w) (bI (rFig b)) (w) := by
  refine xi_start (by decide) (nar_bI _) (Nat.le_of_ble_eq_true rfl) ?_
  intro zp ze zs zm zargs zbelow zmeth zc zQ ls F N hl hret
  have hx := F.1
  have hb := F.2.1
  have hl : lv_has ls 1 [(0, .int b)] := hl
  refine lv_iload_n hx hb dX3_isFigure_0 rfl (lv_at hl 0 rfl) ?_
  refine lv_bipush (v := 48) hx hb dX3_isFigure_1 (by decide) ?_
  refine lv_icmp_lt (tgt := 16) hx hb dX3_isFigure_3 (by decide) (fun c_3 => ?_) (fun c_3 => ?_)
  · have c_3v := lt_nle c_3
    refine lv_iconst (v := 0) hx hb dX3_isFigure_16 (by decide) ?_
    exact hret _ _ _ _ _ _ dX3_isFigure_17 (by first | rfl | (simp [bI, rFig, c_3, c_3v])) (by first | rfl | (simp [bI, rFig, c_3, c_3v])) N
  · have c_3v := nlt_le c_3
    refine lv_iload_n hx hb dX3_isFigure_6 rfl (lv_at hl 0 rfl) ?_
    refine lv_bipush (v := 57) hx hb dX3_isFigure_7 (by decide) ?_
    refine lv_icmp_gt (tgt := 16) hx hb dX3_isFigure_9 (by decide) (fun c_9 => ?_) (fun c_9 => ?_)
    · have c_9v := lt_nle c_9
      refine lv_iconst (v := 0) hx hb dX3_isFigure_16 (by decide) ?_
      exact hret _ _ _ _ _ _ dX3_isFigure_17 (by first | rfl | (simp [bI, rFig, c_3, c_3v, c_9, c_9v])) (by first | rfl | (simp [bI, rFig, c_3, c_3v, c_9, c_9v])) N
    · have c_9v := nlt_le c_9
      refine lv_iconst (v := 1) hx hb dX3_isFigure_12 (by decide) ?_
      refine lv_goto (tgt := 17) hx hb dX3_isFigure_13 (by decide) ?_
      exact hret _ _ _ _ _ _ dX3_isFigure_17 (by first | rfl | (simp [bI, rFig, c_3, c_3v, c_9, c_9v])) (by first | rfl | (simp [bI, rFig, c_3, c_3v, c_9, c_9v])) N
set_option maxHeartbeats 4000000 in
set_option maxRecDepth 100000 in
theorem c_X3_columnNamed (l : Launch) (G : GM) (w : va_W) (b : Int32) : XCi l G yX3_columnNamed cX3_columnNamed 2 (some .int) 1 [.int b] (w) (rCol b) (w) := by
  refine xi_start (by decide) rfl (Nat.le_of_ble_eq_true rfl) ?_
  intro zp ze zs zm zargs zbelow zmeth zc zQ ls F N hl hret
  have hx := F.1
  have hb := F.2.1
  have hl : lv_has ls 2 [(0, .int b)] := hl
  refine lv_iload_n hx hb dX3_columnNamed_0 rfl (lv_at hl 0 rfl) ?_
  refine lv_bipush (v := 97) hx hb dX3_columnNamed_1 (by decide) ?_
  refine lv_icmp_lt (tgt := 13) hx hb dX3_columnNamed_3 (by decide) (fun c_3 => ?_) (fun c_3 => ?_)
  · have c_3v := lt_nle c_3
    refine lv_iload_n hx hb dX3_columnNamed_13 rfl (lv_at hl 0 rfl) ?_
    refine lv_bipush (v := 65) hx hb dX3_columnNamed_14 (by decide) ?_
    refine lv_isub hx hb dX3_columnNamed_16 ?_
    refine lv_istore_n (lv' := [(1, .int (b - (65 : Int32))), (0, .int b)]) hx hb dX3_columnNamed_17 rfl hl (by decide) rfl (fun ls hl => ?_)
    refine lv_iload_n hx hb dX3_columnNamed_18 rfl (lv_at hl 0 rfl) ?_
    refine lv_iconst (v := 0) hx hb dX3_columnNamed_19 (by decide) ?_
    refine lv_iconst (v := 5) hx hb dX3_columnNamed_20 (by decide) ?_
    refine cN_i F N (c_X8_isWithin l G _ (b - (65 : Int32)) 0 5) miX8_isWithin k_306 (by decide) hl.1 rfl (Nat.le_of_ble_eq_true rfl) dX3_columnNamed_21 (fun H locs N => ?_)
    refine ifB_eq (tgt := 31) hx hb dX3_columnNamed_24 (by decide) (fun c_24 => ?_) (fun c_24 => ?_)
    · refine lv_iconst (v := (-1)) hx hb dX3_columnNamed_31 (by decide) ?_
      exact hret _ _ _ _ _ _ dX3_columnNamed_32 (by first | rfl | (simp [bI, rCol, c_3, c_3v, c_24])) (by first | rfl | (simp [bI, rCol, c_3, c_3v, c_24])) N
    · refine lv_iload_n hx hb dX3_columnNamed_27 rfl (lv_at hl 0 rfl) ?_
      refine lv_goto (tgt := 32) hx hb dX3_columnNamed_28 (by decide) ?_
      exact hret _ _ _ _ _ _ dX3_columnNamed_32 (by first | rfl | (simp [bI, rCol, c_3, c_3v, c_24])) (by first | rfl | (simp [bI, rCol, c_3, c_3v, c_24])) N
  · have c_3v := nlt_le c_3
    refine lv_iload_n hx hb dX3_columnNamed_6 rfl (lv_at hl 0 rfl) ?_
    refine lv_bipush (v := 97) hx hb dX3_columnNamed_7 (by decide) ?_
    refine lv_isub hx hb dX3_columnNamed_9 ?_
    refine lv_goto (tgt := 17) hx hb dX3_columnNamed_10 (by decide) ?_
    refine lv_istore_n (lv' := [(1, .int (b - (97 : Int32))), (0, .int b)]) hx hb dX3_columnNamed_17 rfl hl (by decide) rfl (fun ls hl => ?_)
    refine lv_iload_n hx hb dX3_columnNamed_18 rfl (lv_at hl 0 rfl) ?_
    refine lv_iconst (v := 0) hx hb dX3_columnNamed_19 (by decide) ?_
    refine lv_iconst (v := 5) hx hb dX3_columnNamed_20 (by decide) ?_
    refine cN_i F N (c_X8_isWithin l G _ (b - (97 : Int32)) 0 5) miX8_isWithin k_306 (by decide) hl.1 rfl (Nat.le_of_ble_eq_true rfl) dX3_columnNamed_21 (fun H locs N => ?_)
    refine ifB_eq (tgt := 31) hx hb dX3_columnNamed_24 (by decide) (fun c_24 => ?_) (fun c_24 => ?_)
    · refine lv_iconst (v := (-1)) hx hb dX3_columnNamed_31 (by decide) ?_
      exact hret _ _ _ _ _ _ dX3_columnNamed_32 (by first | rfl | (simp [bI, rCol, c_3, c_3v, c_24])) (by first | rfl | (simp [bI, rCol, c_3, c_3v, c_24])) N
    · refine lv_iload_n hx hb dX3_columnNamed_27 rfl (lv_at hl 0 rfl) ?_
      refine lv_goto (tgt := 32) hx hb dX3_columnNamed_28 (by decide) ?_
      exact hret _ _ _ _ _ _ dX3_columnNamed_32 (by first | rfl | (simp [bI, rCol, c_3, c_3v, c_24])) (by first | rfl | (simp [bI, rCol, c_3, c_3v, c_24])) N
