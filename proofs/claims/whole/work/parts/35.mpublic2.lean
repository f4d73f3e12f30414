/-! the reference: moves, copies; what is written -/
theorem i21 : ((2 : Int32) = 1) = False := by simp
theorem mLR_1 (st : ST) (sz : Nat) : (mLR st sz).2.1 1 = mLay st := by simp [mLR, mRem, sI_2, sA_21]
theorem mLR_0 (st : ST) (sz : Nat) : (mLR st sz).2.1 0 = st.2.1 0 := by simp [mLR, mRem, sI_2, sA_21]
theorem mMvF_out {c r p q wd ht ta j : Nat} {x : Nat × (Nat → Int32)} (h : j < ta ∨ ta + 6 ≤ j) : (mMvF c r p q wd ht ta x).2 j = x.2 j := by
  unfold mMvF
  split
  · split
    · exact mPu_out h
    · split
      · exact mBrk_out h
      · rfl
  · rfl
theorem mCyF_out {c r p q ta j : Nat} {x : Nat × (Nat → Int32)} (h : j < ta ∨ ta + 6 ≤ j) : (mCyF c r p q ta x).2 j = x.2 j := by
  unfold mCyF
  split
  · exact mGo_out h
  · rfl
theorem mCyF_1 (c r p q ta : Nat) (x : Nat × (Nat → Int32)) : (mCyF c r p q ta x).1 = if (mCyF c r p q ta x).2 (ta + 0) = 3 then x.1 + 1 else x.1 := by
  unfold mCyF
  split <;> rfl
def mRf (g : Nat → Int32) (c r : Nat) (ta : Nat) : Bool :=
  if g (ta + 0) = 1 then (decide (g (ta + 1) = nI c) && decide (g (ta + 2) = nI r))
  else (decide (g (ta + 0) = 2) && (xIsW (nI c) (g (ta + 1)) (g (ta + 3)) && xIsW (nI r) (g (ta + 2)) (g (ta + 4))))
def mUsI (g : Nat → Int32) (c r k : Nat) (i n : Nat) : Nat := if mRf g c r (25 * k + 1 + 6 * i) = true then n + 1 else n
def mUs (g : Nat → Int32) (c r : Nat) (cn : Nat → Nat) : Nat := lp (fun k n => lp (mUsI g c r k) (cn k) 0 n) 36 0 0
def sQ (st : ST) (x : PG) : ST := sI (sA st 6 x.2) 4 (nI x.1)
theorem sQ_sQ (st : ST) (x y : PG) : sQ (sQ st x) y = sQ st y := by
  unfold sQ
  rw [sA_sI, sI_sI, sA_sA]
theorem sQ_1 (st : ST) (x : PG) : (sQ st x).1 4 = nI x.1 := rfl
theorem sQ_21 (st : ST) (x : PG) (k : Nat) : (sQ st x).2.1 k = if k = 6 then x.2 else st.2.1 k := rfl
theorem sQ_self {st : ST} {q : Nat} {g : Nat → Int32} (h : st.1 4 = nI q) (h2 : st.2.1 6 = g) : sQ st (q, g) = st := by
  unfold sQ
  dsimp only
  rw [sA_self h2, sI_self h]
def mw (x : PG) (v : Int32) : PG := (x.1 + 1, upd x.2 x.1 v)
def mwP1 (fx : Int32) (x : PG) : PG := if fx &&& 1 = 1 then mw x 36 else x
def mwP2 (col fx : Int32) (x : PG) : PG := mw (mwP1 fx x) (65 + col)
def mwP3 (col fx : Int32) (x : PG) : PG := if fx &&& 2 = 2 then mw (mwP2 col fx x) 36 else mwP2 col fx x
def mwPl (col row fx : Int32) (x : PG) : PG := mw (mwP3 col fx x) (49 + row)
def mwN1 (v : Int32) (x : PG) : PG := if v ≤ 99 then x else mw x (48 + v / 100)
def mwN2 (v : Int32) (x : PG) : PG := if v ≤ 9 then mwN1 v x else mw (mwN1 v x) (48 + (v / 10 - v / 10 / 10 * 10))
def mwNum (v : Int32) (x : PG) : PG := mw (mwN2 v x) (48 + (v - v / 10 * 10))
def mwT (g : Nat → Int32) (ta : Nat) (x : PG) : PG :=
  if g (ta + 0) = 0 then mwNum (g (ta + 1)) x else if g (ta + 0) = 1 then mwPl (g (ta + 1)) (g (ta + 2)) (g (ta + 5)) x
  else if g (ta + 0) = 2 then mwPl (g (ta + 3)) (g (ta + 4)) (g (ta + 5) >>> ((2 : Int32) &&& 31)) (mw (mwPl (g (ta + 1)) (g (ta + 2)) (g (ta + 5)) x) 58) else mw x 35
def mwL (g : Nat → Int32) (ce : Nat) (i : Nat) (x : PG) : PG := mwT g (ce + 1 + 6 * i) (if i = 0 then x else mw x 43)
def mwW (st : ST) (ce m : Nat) : PG := lp (mwL (st.2.1 0) ce) m 0 (0, st.2.1 6)
theorem mwP1_le (fx : Int32) (x : PG) : (mwP1 fx x).1 ≤ x.1 + 1 := by
  unfold mwP1
  split
  · exact Nat.le_refl _
  · exact Nat.le_succ _
theorem mwP2_le (col fx : Int32) (x : PG) : (mwP2 col fx x).1 ≤ x.1 + 2 := Nat.succ_le_succ (mwP1_le fx x)
theorem mwP3_le (col fx : Int32) (x : PG) : (mwP3 col fx x).1 ≤ x.1 + 3 := by
  unfold mwP3
  split
  · exact Nat.succ_le_succ (mwP2_le col fx x)
  · exact Nat.le_trans (mwP2_le col fx x) (Nat.le_succ _)
theorem mwPl_le (col row fx : Int32) (x : PG) : (mwPl col row fx x).1 ≤ x.1 + 4 := Nat.succ_le_succ (mwP3_le col fx x)
theorem mwN1_le (v : Int32) (x : PG) : (mwN1 v x).1 ≤ x.1 + 1 := by
  unfold mwN1
  split
  · exact Nat.le_succ _
  · exact Nat.le_refl _
theorem mwN2_le (v : Int32) (x : PG) : (mwN2 v x).1 ≤ x.1 + 2 := by
  unfold mwN2
  split
  · exact Nat.le_trans (mwN1_le v x) (Nat.le_succ _)
  · exact Nat.succ_le_succ (mwN1_le v x)
theorem mwNum_le (v : Int32) (x : PG) : (mwNum v x).1 ≤ x.1 + 3 := Nat.succ_le_succ (mwN2_le v x)
theorem mwT_le (g : Nat → Int32) (ta : Nat) (x : PG) : (mwT g ta x).1 ≤ x.1 + 9 := by
  unfold mwT
  split
  · exact Nat.le_trans (mwNum_le _ x) (by omega)
  · split
    · exact Nat.le_trans (mwPl_le _ _ _ x) (by omega)
    · split
      · have h1 := mwPl_le (g (ta + 1)) (g (ta + 2)) (g (ta + 5)) x
        have h2 := mwPl_le (g (ta + 3)) (g (ta + 4)) (g (ta + 5) >>> ((2 : Int32) &&& 31)) (mw (mwPl (g (ta + 1)) (g (ta + 2)) (g (ta + 5)) x) 58)
        have h3 : (mw (mwPl (g (ta + 1)) (g (ta + 2)) (g (ta + 5)) x) 58).1 = (mwPl (g (ta + 1)) (g (ta + 2)) (g (ta + 5)) x).1 + 1 := rfl
        omega
      · show x.1 + 1 ≤ x.1 + 9; omega
theorem mwL_le (g : Nat → Int32) (ce i : Nat) (x : PG) (h : x.1 ≤ 10 * i) : (mwL g ce i x).1 ≤ 10 * (i + 1) := by
  unfold mwL
  have h1 := mwT_le g (ce + 1 + 6 * i) (if i = 0 then x else mw x 43)
  by_cases h0 : i = 0
  · rw [if_pos h0] at h1 ⊢; omega
  · rw [if_neg h0] at h1 ⊢
    have h2 : (mw x 43).1 = x.1 + 1 := rfl
    omega
def mTold (st : ST) (what : Nat) : Int32 := if 3 ≤ what then (if what = 3 then st.1 1 else st.1 0) else st.2.1 3 what
set_option maxHeartbeats 4000000 in
set_option maxRecDepth 100000 in
theorem c_X9_moves_bad (l : Launch) (G : GM) (ad : Nat → Nat) (ex : va_W) (st : ST) (c : Int32) (r : Int32) (wd : Int32) (ht : Int32) (p : Int32) (q : Int32) (hbad : (xIsAr c r wd ht && xIsAr p q wd ht) = false) : MMi l G yX9_moves cX9_moves 12 (some .int) 3 [.ref (ad 0), .int c, .int r, .int wd, .int ht, .int p, .int q] ad ex st (-2) (mBad st) := by
  refine xi_start (by decide) rfl (Nat.le_of_ble_eq_true rfl) ?_
  intro zp ze zs zm zargs zbelow zmeth zc zQ ls F N hl hret
  have hx := F.1
  have hb := F.2.1
  have hl : lv_has ls 12 [(0, .ref (ad 0)), (1, .int c), (2, .int r), (3, .int wd), (4, .int ht), (5, .int p), (6, .int q)] := hl
  refine lv_iload_n hx hb dX9_moves_0 rfl (lv_at hl 1 rfl) ?_
  refine lv_iload_n hx hb dX9_moves_1 rfl (lv_at hl 2 rfl) ?_
  refine lv_iload_n hx hb dX9_moves_2 rfl (lv_at hl 3 rfl) ?_
  refine lv_iload hx hb dX9_moves_3 (lv_at hl 4 rfl) ?_
  refine cS_i F N (c_X9_isWithin l G _ c r wd ht) miX9_isWithin k_885 (by decide) hl.1 rfl (Nat.le_of_ble_eq_true rfl) dX9_moves_5 (fun H locs N => ?_)
  refine ifB_eq (tgt := 24) hx hb dX9_moves_8 (by decide) (fun c_8 => ?_) (fun c_8 => ?_)
  · refine lv_aload_n hx hb dX9_moves_24 rfl (lv_at hl 0 rfl) ?_
    refine mV_i F N (c_X9_bad l G ad ex st ) miX9_bad k_763 (by decide) hl.1 rfl (Nat.le_of_ble_eq_true rfl) (q0 := 0) (ci := 8) rfl rfl dX9_moves_25 (fun st_25 est_25 H locs N => ?_)
    exact hret _ _ _ _ _ _ dX9_moves_28 (by first | rfl | (subst est_25; rfl) | (subst est_25; simp [bI, c_8])) (by first | rfl | (subst est_25; rfl) | (subst est_25; simp [bI, c_8])) N
  · refine lv_iload hx hb dX9_moves_11 (lv_at hl 5 rfl) ?_
    refine lv_iload hx hb dX9_moves_13 (lv_at hl 6 rfl) ?_
    refine lv_iload_n hx hb dX9_moves_15 rfl (lv_at hl 3 rfl) ?_
    refine lv_iload hx hb dX9_moves_16 (lv_at hl 4 rfl) ?_
    refine cS_i F N (c_X9_isWithin l G _ p q wd ht) miX9_isWithin k_885 (by decide) hl.1 rfl (Nat.le_of_ble_eq_true rfl) dX9_moves_18 (fun H locs N => ?_)
    refine ifB_ne (tgt := 29) hx hb dX9_moves_21 (by decide) (fun c_21 => ?_) (fun c_21 => ?_)
    · exact absurd hbad (by simp [c_8, c_21])
    · refine lv_aload_n hx hb dX9_moves_24 rfl (lv_at hl 0 rfl) ?_
      refine mV_i F N (c_X9_bad l G ad ex st ) miX9_bad k_763 (by decide) hl.1 rfl (Nat.le_of_ble_eq_true rfl) (q0 := 0) (ci := 8) rfl rfl dX9_moves_25 (fun st_25 est_25 H locs N => ?_)
      exact hret _ _ _ _ _ _ dX9_moves_28 (by first | rfl | (subst est_25; rfl) | (subst est_25; simp [bI, c_8, c_21])) (by first | rfl | (subst est_25; rfl) | (subst est_25; simp [bI, c_8, c_21])) N
set_option maxHeartbeats 4000000 in
set_option maxRecDepth 100000 in
theorem c_X9_copies_bad (l : Launch) (G : GM) (ad : Nat → Nat) (ex : va_W) (st : ST) (c : Int32) (r : Int32) (wd : Int32) (ht : Int32) (p : Int32) (q : Int32) (hbad : (xIsAr c r wd ht && xIsAr p q wd ht) = false) : MMi l G yX9_copies cX9_copies 12 (some .int) 3 [.ref (ad 0), .int c, .int r, .int wd, .int ht, .int p, .int q] ad ex st (-2) (mBad st) := by
  refine xi_start (by decide) rfl (Nat.le_of_ble_eq_true rfl) ?_
  intro zp ze zs zm zargs zbelow zmeth zc zQ ls F N hl hret
  have hx := F.1
  have hb := F.2.1
  have hl : lv_has ls 12 [(0, .ref (ad 0)), (1, .int c), (2, .int r), (3, .int wd), (4, .int ht), (5, .int p), (6, .int q)] := hl
  refine lv_iload_n hx hb dX9_copies_0 rfl (lv_at hl 1 rfl) ?_
  refine lv_iload_n hx hb dX9_copies_1 rfl (lv_at hl 2 rfl) ?_
  refine lv_iload_n hx hb dX9_copies_2 rfl (lv_at hl 3 rfl) ?_
  refine lv_iload hx hb dX9_copies_3 (lv_at hl 4 rfl) ?_
  refine cS_i F N (c_X9_isWithin l G _ c r wd ht) miX9_isWithin k_885 (by decide) hl.1 rfl (Nat.le_of_ble_eq_true rfl) dX9_copies_5 (fun H locs N => ?_)
  refine ifB_eq (tgt := 24) hx hb dX9_copies_8 (by decide) (fun c_8 => ?_) (fun c_8 => ?_)
  · refine lv_aload_n hx hb dX9_copies_24 rfl (lv_at hl 0 rfl) ?_
    refine mV_i F N (c_X9_bad l G ad ex st ) miX9_bad k_763 (by decide) hl.1 rfl (Nat.le_of_ble_eq_true rfl) (q0 := 0) (ci := 8) rfl rfl dX9_copies_25 (fun st_25 est_25 H locs N => ?_)
    exact hret _ _ _ _ _ _ dX9_copies_28 (by first | rfl | (subst est_25; rfl) | (subst est_25; simp [bI, c_8])) (by first | rfl | (subst est_25; rfl) | (subst est_25; simp [bI, c_8])) N
  · refine lv_iload hx hb dX9_copies_11 (lv_at hl 5 rfl) ?_
    refine lv_iload hx hb dX9_copies_13 (lv_at hl 6 rfl) ?_
    refine lv_iload_n hx hb dX9_copies_15 rfl (lv_at hl 3 rfl) ?_
    refine lv_iload hx hb dX9_copies_16 (lv_at hl 4 rfl) ?_
    refine cS_i F N (c_X9_isWithin l G _ p q wd ht) miX9_isWithin k_885 (by decide) hl.1 rfl (Nat.le_of_ble_eq_true rfl) dX9_copies_18 (fun H locs N => ?_)
    refine ifB_ne (tgt := 29) hx hb dX9_copies_21 (by decide) (fun c_21 => ?_) (fun c_21 => ?_)
    · exact absurd hbad (by simp [c_8, c_21])
    · refine lv_aload_n hx hb dX9_copies_24 rfl (lv_at hl 0 rfl) ?_
      refine mV_i F N (c_X9_bad l G ad ex st ) miX9_bad k_763 (by decide) hl.1 rfl (Nat.le_of_ble_eq_true rfl) (q0 := 0) (ci := 8) rfl rfl dX9_copies_25 (fun st_25 est_25 H locs N => ?_)
      exact hret _ _ _ _ _ _ dX9_copies_28 (by first | rfl | (subst est_25; rfl) | (subst est_25; simp [bI, c_8, c_21])) (by first | rfl | (subst est_25; rfl) | (subst est_25; simp [bI, c_8, c_21])) N
theorem xIsAr_nI {c r wd ht : Nat} (hw : 0 < wd) (hh : 0 < ht) (hc : c + wd ≤ 6) (hr : r + ht ≤ 6) : xIsAr (nI c) (nI r) (nI wd) (nI ht) = true := by
  have h1 : xIsPl (nI c) (nI r) = true := xIsPl_nI (by omega) (by omega)
  have e1 : (6 : Int32) - nI c = nI (6 - c) := nI_sub (a := 6) (by omega)
  have e2 : (6 : Int32) - nI r = nI (6 - r) := nI_sub (a := 6) (by omega)
  have h2 : xIsW (nI wd) 1 (6 - nI c) = true := by rw [e1]; exact xIsW_nI (a := 1) (by omega) (by omega) (by omega)
  have h3 : xIsW (nI ht) 1 (6 - nI r) = true := by rw [e2]; exact xIsW_nI (a := 1) (by omega) (by omega) (by omega)
  simp [xIsAr, h1, h2, h3]
set_option maxHeartbeats 4000000 in
set_option maxRecDepth 100000 in
theorem c_X9_moves (l : Launch) (G : GM) (ad : Nat → Nat) (ex : va_W) (st : ST) (c : Nat) (r : Nat) (wd : Nat) (ht : Nat) (p : Nat) (q : Nat) (sz : Nat) (cn : Nat → Nat) (hsz : st.1 0 = nI sz) (hsz2 : sz ≤ 6) (hw : 0 < wd) (hh : 0 < ht) (hcw : c + wd ≤ 6) (hrh : r + ht ≤ 6) (hpw : p + wd ≤ 6) (hqh : q + ht ≤ 6) (hcn : mCn (mMvG st c r p q wd ht) cn) : MMi l G yX9_moves cX9_moves 12 (some .int) 3 [.ref (ad 0), .int (nI c), .int (nI r), .int (nI wd), .int (nI ht), .int (nI p), .int (nI q)] ad ex st (nI ((mMvR st c r p q wd ht cn).1)) (sA (mLR st sz) 0 (mMvR st c r p q wd ht cn).2) := by
  refine xi_start (by decide) rfl (Nat.le_of_ble_eq_true rfl) ?_
  intro zp ze zs zm zargs zbelow zmeth zc zQ ls F N hl hret
  have hx := F.1
  have hb := F.2.1
  have hl : lv_has ls 12 [(0, .ref (ad 0)), (1, .int (nI c)), (2, .int (nI r)), (3, .int (nI wd)), (4, .int (nI ht)), (5, .int (nI p)), (6, .int (nI q))] := hl
  have hm : wd * ht ≤ 36 := ar_mul (by omega) (by omega)
  refine lv_iload_n hx hb dX9_moves_0 rfl (lv_at hl 1 rfl) ?_
  refine lv_iload_n hx hb dX9_moves_1 rfl (lv_at hl 2 rfl) ?_
  refine lv_iload_n hx hb dX9_moves_2 rfl (lv_at hl 3 rfl) ?_
  refine lv_iload hx hb dX9_moves_3 (lv_at hl 4 rfl) ?_
  refine cS_i F N (c_X9_isWithin l G _ (nI c) (nI r) (nI wd) (nI ht)) miX9_isWithin k_885 (by decide) hl.1 rfl (Nat.le_of_ble_eq_true rfl) dX9_moves_5 (fun H locs N => ?_)
  refine toI (y := 1) (by rw [xIsAr_nI hw hh hcw hrh]; rfl) ?_
  refine lv_if_eq (tgt := 24) hx hb dX9_moves_8 (by decide) (fun c_8 => ?_) (fun c_8 => ?_)
  · first | exact absurd c_8 (by decide) | exact absurd (by decide) c_8
  refine lv_iload hx hb dX9_moves_11 (lv_at hl 5 rfl) ?_
  refine lv_iload hx hb dX9_moves_13 (lv_at hl 6 rfl) ?_
  refine lv_iload_n hx hb dX9_moves_15 rfl (lv_at hl 3 rfl) ?_
  refine lv_iload hx hb dX9_moves_16 (lv_at hl 4 rfl) ?_
  refine cS_i F N (c_X9_isWithin l G _ (nI p) (nI q) (nI wd) (nI ht)) miX9_isWithin k_885 (by decide) hl.1 rfl (Nat.le_of_ble_eq_true rfl) dX9_moves_18 (fun H locs N => ?_)
  refine toI (y := 1) (by rw [xIsAr_nI hw hh hpw hqh]; rfl) ?_
  refine lv_if_ne (tgt := 29) hx hb dX9_moves_21 (by decide) (fun c_21 => ?_) (fun c_21 => ?_)
  rotate_left
  · first | exact absurd (by decide) c_21 | exact absurd c_21 (by decide)
  refine lv_aload_n hx hb dX9_moves_29 rfl (lv_at hl 0 rfl) ?_
  refine mV_v F N (c_X9_laysAside l G ad ex st ) miX9_laysAside k_813 (by decide) hl.1 rfl (Nat.le_of_ble_eq_true rfl) (q0 := 0) (ci := 8) rfl rfl dX9_moves_30 (fun st_30 est_30 H locs N => ?_)
  refine lv_aload_n hx hb dX9_moves_33 rfl (lv_at hl 0 rfl) ?_
  refine mV_v F N (c_X9_remembers l G ad ex st_30 sz (by rw [est_30]; exact hsz) hsz2) miX9_remembers k_817 (by decide) hl.1 rfl (Nat.le_of_ble_eq_true rfl) (q0 := 0) (ci := 8) rfl rfl dX9_moves_34 (fun st_34 est_34 H locs N => ?_)
  refine lv_iconst (v := 0) hx hb dX9_moves_37 (by decide) ?_
  refine lv_istore (lv' := [(7, .int 0), (0, .ref (ad 0)), (1, .int (nI c)), (2, .int (nI r)), (3, .int (nI wd)), (4, .int (nI ht)), (5, .int (nI p)), (6, .int (nI q))]) hx hb dX9_moves_38 hl (by decide) rfl (fun ls hl => ?_)
  have cut_40 : ∀ (k : Nat) (i : Nat) (g2 : Nat → Int32) (s1 : ST), i + k = wd * ht → s1 = sA (mLR st sz) 0 g2 → lp (fun i g => mEmp g (mPo c r wd i)) k i g2 = lp (fun i g => mEmp g (mPo c r wd i)) (wd * ht) 0 (st.2.1 0) → ∀ (H : Heap) (locs : List Loc) (ls : Array Slot), Now G zs (MW G ad s1 ++ ex) H locs → lv_has ls 12 [(0, .ref (ad 0)), (1, .int (nI c)), (2, .int (nI r)), (3, .int (nI wd)), (4, .int (nI ht)), (5, .int (nI p)), (6, .int (nI q)), (7, .int (nI i))] → W zp l ze (RM 3) zs zm zargs zbelow zmeth zc H locs 0 0 zQ (F0 zm 40 ls []) := by
    intro k
    induction k with
    | zero =>
      intro i g2 s1 hk hs hI H locs ls N hl
      refine lv_iload hx hb dX9_moves_40 (lv_at hl 7 rfl) ?_
      refine lv_iload_n hx hb dX9_moves_42 rfl (lv_at hl 3 rfl) ?_
      refine lv_iload hx hb dX9_moves_43 (lv_at hl 4 rfl) ?_
      refine imulN (a := wd) (b := ht) hx hb dX9_moves_45 ?_
      refine cmpN_ge (a := i) (b := (wd * ht)) (tgt := 74) hx hb dX9_moves_46 (by decide) (by omega) (by omega) (fun c_46 => ?_) (fun c_46 => ?_)
      · have c_46v := Nat.not_lt.mpr c_46
        refine lv_iconst (v := 0) hx hb dX9_moves_74 (by decide) ?_
        refine lv_istore (lv' := [(7, .int 0), (0, .ref (ad 0)), (1, .int (nI c)), (2, .int (nI r)), (3, .int (nI wd)), (4, .int (nI ht)), (5, .int (nI p)), (6, .int (nI q))]) hx hb dX9_moves_75 hl (by decide) rfl (fun ls hl => ?_)
        have cut_77 : ∀ (k : Nat) (i : Nat) (g2 : Nat → Int32) (s1 : ST), i + k = wd * ht → s1 = sA (mLR st sz) 0 g2 → lp (fun i g => mTak (mLay st) g (mPo p q wd i) (mPo c r wd i)) k i g2 = mMvG st c r p q wd ht → ∀ (H : Heap) (locs : List Loc) (ls : Array Slot), Now G zs (MW G ad s1 ++ ex) H locs → lv_has ls 12 [(0, .ref (ad 0)), (1, .int (nI c)), (2, .int (nI r)), (3, .int (nI wd)), (4, .int (nI ht)), (5, .int (nI p)), (6, .int (nI q)), (7, .int (nI i))] → W zp l ze (RM 3) zs zm zargs zbelow zmeth zc H locs 0 0 zQ (F0 zm 77 ls []) := by
          intro k
          induction k with
          | zero =>
            intro i g2 s1 hk hs hI H locs ls N hl
            refine lv_iload hx hb dX9_moves_77 (lv_at hl 7 rfl) ?_
            refine lv_iload_n hx hb dX9_moves_79 rfl (lv_at hl 3 rfl) ?_
            refine lv_iload hx hb dX9_moves_80 (lv_at hl 4 rfl) ?_
            refine imulN (a := wd) (b := ht) hx hb dX9_moves_82 ?_
            refine cmpN_ge (a := i) (b := (wd * ht)) (tgt := 128) hx hb dX9_moves_83 (by decide) (by omega) (by omega) (fun c_83 => ?_) (fun c_83 => ?_)
            · have c_83v := Nat.not_lt.mpr c_83
              refine lv_iconst (v := 0) hx hb dX9_moves_128 (by decide) ?_
              refine lv_istore (lv' := [(7, .int 0), (0, .ref (ad 0)), (1, .int (nI c)), (2, .int (nI r)), (3, .int (nI wd)), (4, .int (nI ht)), (5, .int (nI p)), (6, .int (nI q))]) hx hb dX9_moves_129 hl (by decide) rfl (fun ls hl => ?_)
              refine lv_iconst (v := 0) hx hb dX9_moves_131 (by decide) ?_
              refine lv_istore (lv' := [(8, .int 0), (7, .int 0), (0, .ref (ad 0)), (1, .int (nI c)), (2, .int (nI r)), (3, .int (nI wd)), (4, .int (nI ht)), (5, .int (nI p)), (6, .int (nI q))]) hx hb dX9_moves_132 hl (by decide) rfl (fun ls hl => ?_)
              have cut_134 : ∀ (k : Nat) (n : Nat) (i : Nat) (g3 : Nat → Int32) (s1 : ST), i + k = 36 → s1 = sA (mLR st sz) 0 g3 → mCn g3 cn → lp (mMvW c r p q wd ht cn) k i (n, g3) = mMvR st c r p q wd ht cn → ∀ (H : Heap) (locs : List Loc) (ls : Array Slot), Now G zs (MW G ad s1 ++ ex) H locs → lv_has ls 12 [(0, .ref (ad 0)), (1, .int (nI c)), (2, .int (nI r)), (3, .int (nI wd)), (4, .int (nI ht)), (5, .int (nI p)), (6, .int (nI q)), (7, .int (nI n)), (8, .int (nI i))] → W zp l ze (RM 3) zs zm zargs zbelow zmeth zc H locs 0 0 zQ (F0 zm 134 ls []) := by
                intro k
                induction k with
                | zero =>
                  intro n i g3 s1 hk hs hc3 hI H locs ls N hl
                  refine lv_iload hx hb dX9_moves_134 (lv_at hl 8 rfl) ?_
                  refine lv_bipush (v := 36) hx hb dX9_moves_136 (by decide) ?_
                  refine cmpN_ge (a := i) (b := 36) (tgt := 282) hx hb dX9_moves_138 (by decide) (by omega) (by omega) (fun c_138 => ?_) (fun c_138 => ?_)
                  · have c_138v := Nat.not_lt.mpr c_138
                    refine lv_iload hx hb dX9_moves_282 (lv_at hl 7 rfl) ?_
                    exact hret _ _ _ _ _ _ dX9_moves_284 (by rw [← hI]; rfl) (by rw [hs, ← hI]; rfl) N
                  · exfalso; omega
                | succ k ih_134 =>
                  intro n i g3 s1 hk hs hc3 hI H locs ls N hl
                  refine lv_iload hx hb dX9_moves_134 (lv_at hl 8 rfl) ?_
                  refine lv_bipush (v := 36) hx hb dX9_moves_136 (by decide) ?_
                  refine cmpN_ge (a := i) (b := 36) (tgt := 282) hx hb dX9_moves_138 (by decide) (by omega) (by omega) (fun c_138 => ?_) (fun c_138 => ?_)
                  · exfalso; omega
                  · have c_138v := Nat.not_le.mp c_138
                    refine lv_iconst (v := 0) hx hb dX9_moves_141 (by decide) ?_
                    refine lv_istore (lv' := [(9, .int 0), (0, .ref (ad 0)), (1, .int (nI c)), (2, .int (nI r)), (3, .int (nI wd)), (4, .int (nI ht)), (5, .int (nI p)), (6, .int (nI q)), (7, .int (nI n)), (8, .int (nI i))]) hx hb dX9_moves_142 hl (by decide) rfl (fun ls hl => ?_)
                    have cut_144 : ∀ (k2 : Nat) (n2 : Nat) (j : Nat) (g4 : Nat → Int32) (s2 : ST), j + k2 = cn i → s2 = sA (mLR st sz) 0 g4 → mCn g4 cn → lp (fun i2 x => mMvF c r p q wd ht (25 * i + 1 + 6 * i2) x) k2 j (n2, g4) = mMvW c r p q wd ht cn i (n, g3) → ∀ (H : Heap) (locs : List Loc) (ls : Array Slot), Now G zs (MW G ad s2 ++ ex) H locs → lv_has ls 12 [(0, .ref (ad 0)), (1, .int (nI c)), (2, .int (nI r)), (3, .int (nI wd)), (4, .int (nI ht)), (5, .int (nI p)), (6, .int (nI q)), (7, .int (nI n2)), (8, .int (nI i)), (9, .int (nI j))] → W zp l ze (RM 3) zs zm zargs zbelow zmeth zc H locs 0 0 zQ (F0 zm 144 ls []) := by
                      intro k2
                      induction k2 with
                      | zero =>
                        intro n2 j g4 s2 hk2 hs2 hc4 hJ H locs ls N hl
                        have hci := (hc4 i (by omega)).2
                        refine lv_iload hx hb dX9_moves_144 (lv_at hl 9 rfl) ?_
                        refine lv_aload_n hx hb dX9_moves_146 rfl (lv_at hl 0 rfl) ?_
                        refine gm_0_now F N k_682 dX9_moves_147 ?_
                        refine lv_bipush (v := 25) hx hb dX9_moves_150 (by decide) ?_
                        refine lv_iload hx hb dX9_moves_152 (lv_at hl 8 rfl) ?_
                        refine imulN (a := 25) (b := i) hx hb dX9_moves_154 ?_
                        refine amN_0 (j := (25 * i)) F N (by omega) dX9_moves_155 ?_
                        refine toN (a := cn i) (by rw [hs2]; exact (hc4 i (by omega)).1) ?_
                        refine cmpN_ge (a := j) (b := (cn i)) (tgt := 276) hx hb dX9_moves_156 (by decide) (by omega) (by omega) (fun c_156 => ?_) (fun c_156 => ?_)
                        · have c_156v := Nat.not_lt.mpr c_156
                          refine lv_iinc (v := (nI (i + 1))) (lv' := [(8, .int (nI (i + 1))), (0, .ref (ad 0)), (1, .int (nI c)), (2, .int (nI r)), (3, .int (nI wd)), (4, .int (nI ht)), (5, .int (nI p)), (6, .int (nI q)), (7, .int (nI n2)), (9, .int (nI j))]) hx hb dX9_moves_276 hl (k := 8) rfl (nI_1 i) (by decide) rfl (fun ls hl => ?_)
                          refine lv_goto (tgt := 134) hx hb dX9_moves_279 (by decide) ?_
                          exact ih_134 n2 (i + 1) g4 s2 (by omega) hs2 hc4 (by rw [← hI, lp_s]; exact congrArg _ hJ) _ _ _ N (lv_sub hl [1, 2, 3, 4, 5, 6, 7, 8, 0] rfl)
                        · exfalso; omega
                      | succ k2 ih_144 =>
                        intro n2 j g4 s2 hk2 hs2 hc4 hJ H locs ls N hl
                        have hci := (hc4 i (by omega)).2
                        refine lv_iload hx hb dX9_moves_144 (lv_at hl 9 rfl) ?_
                        refine lv_aload_n hx hb dX9_moves_146 rfl (lv_at hl 0 rfl) ?_
                        refine gm_0_now F N k_682 dX9_moves_147 ?_
                        refine lv_bipush (v := 25) hx hb dX9_moves_150 (by decide) ?_
                        refine lv_iload hx hb dX9_moves_152 (lv_at hl 8 rfl) ?_
                        refine imulN (a := 25) (b := i) hx hb dX9_moves_154 ?_
                        refine amN_0 (j := (25 * i)) F N (by omega) dX9_moves_155 ?_
                        refine toN (a := cn i) (by rw [hs2]; exact (hc4 i (by omega)).1) ?_
                        refine cmpN_ge (a := j) (b := (cn i)) (tgt := 276) hx hb dX9_moves_156 (by decide) (by omega) (by omega) (fun c_156 => ?_) (fun c_156 => ?_)
                        · exfalso; omega
                        · have c_156v := Nat.not_le.mp c_156
                          refine lv_bipush (v := 25) hx hb dX9_moves_159 (by decide) ?_
                          refine lv_iload hx hb dX9_moves_161 (lv_at hl 8 rfl) ?_
                          refine imulN (a := 25) (b := i) hx hb dX9_moves_163 ?_
                          refine lv_iload hx hb dX9_moves_164 (lv_at hl 9 rfl) ?_
                          refine cS_i F N (c_X9_termPlace l G _ (25 * i) j) miX9_termPlace k_858 (by decide) hl.1 rfl (Nat.le_of_ble_eq_true rfl) dX9_moves_166 (fun H locs N => ?_)
                          refine lv_istore (lv' := [(10, .int (nI ((25 * i) + 1 + 6 * j))), (0, .ref (ad 0)), (1, .int (nI c)), (2, .int (nI r)), (3, .int (nI wd)), (4, .int (nI ht)), (5, .int (nI p)), (6, .int (nI q)), (7, .int (nI n2)), (8, .int (nI i)), (9, .int (nI j))]) hx hb dX9_moves_169 hl (by decide) rfl (fun ls hl => ?_)
                          refine lv_aload_n hx hb dX9_moves_171 rfl (lv_at hl 1 rfl) ?_
                          refine gm_0_now F N k_682 dX9_moves_172 ?_
                          refine lv_iload hx hb dX9_moves_175 (lv_at hl 0 rfl) ?_
                          refine lv_iconst (v := 0) hx hb dX9_moves_177 (by decide) ?_
                          refine iaddN (a := ((25 * i) + 1 + 6 * j)) (b := 0) hx hb dX9_moves_178 ?_
                          refine amN_0 (j := (((25 * i) + 1 + 6 * j) + 0)) F N (by omega) dX9_moves_179 ?_
                          refine toI (y := g4 (25 * i + 1 + 6 * j + 0)) (by rw [hs2]; rfl) ?_
                          refine lv_iconst (v := 1) hx hb dX9_moves_180 (by decide) ?_
                          refine lv_icmp_eq (tgt := 197) hx hb dX9_moves_181 (by decide) (fun c_181 => ?_) (fun c_181 => ?_)
                          · refine lv_iconst (v := 1) hx hb dX9_moves_197 (by decide) ?_
                            refine lv_goto (tgt := 202) hx hb dX9_moves_198 (by decide) ?_
                            refine lv_istore (lv' := [(11, .int 1), (10, .int (nI ((25 * i) + 1 + 6 * j))), (0, .ref (ad 0)), (1, .int (nI c)), (2, .int (nI r)), (3, .int (nI wd)), (4, .int (nI ht)), (5, .int (nI p)), (6, .int (nI q)), (7, .int (nI n2)), (8, .int (nI i)), (9, .int (nI j))]) hx hb dX9_moves_202 hl (by decide) rfl (fun ls hl => ?_)
                            refine lv_iload hx hb dX9_moves_204 (lv_at hl 0 rfl) ?_
                            refine lv_if_eq (tgt := 240) hx hb dX9_moves_206 (by decide) (fun c_206 => ?_) (fun c_206 => ?_)
                            · first | exact absurd c_206 (by decide) | exact absurd (by decide) c_206
                            refine lv_aload_n hx hb dX9_moves_209 rfl (lv_at hl 2 rfl) ?_
                            refine lv_iload hx hb dX9_moves_210 (lv_at hl 1 rfl) ?_
                            refine lv_iload_n hx hb dX9_moves_212 rfl (lv_at hl 3 rfl) ?_
                            refine lv_iload_n hx hb dX9_moves_213 rfl (lv_at hl 4 rfl) ?_
                            refine lv_iload_n hx hb dX9_moves_214 rfl (lv_at hl 5 rfl) ?_
                            refine lv_iload hx hb dX9_moves_215 (lv_at hl 6 rfl) ?_
                            refine cV_i F N (c_X9_liesIn_st l G ad ex s2 ((25 * i) + 1 + 6 * j) c r wd ht (by omega)) miX9_liesIn k_888 (by decide) hl.1 rfl (Nat.le_of_ble_eq_true rfl) (q0 := 0) (ci := 8) rfl rfl dX9_moves_217 (fun H locs N => ?_)
                            refine toI (y := bI (mLi g4 (25 * i + 1 + 6 * j) c r wd ht)) (by rw [hs2]; rfl) ?_
                            refine ifB_eq (tgt := 240) hx hb dX9_moves_220 (by decide) (fun c_220 => ?_) (fun c_220 => ?_)
                            · refine lv_iload hx hb dX9_moves_240 (lv_at hl 0 rfl) ?_
                              refine lv_if_eq (tgt := 270) hx hb dX9_moves_242 (by decide) (fun c_242 => ?_) (fun c_242 => ?_)
                              · first | exact absurd c_242 (by decide) | exact absurd (by decide) c_242
                              refine lv_aload_n hx hb dX9_moves_245 rfl (lv_at hl 2 rfl) ?_
                              refine lv_iload hx hb dX9_moves_246 (lv_at hl 1 rfl) ?_
                              refine lv_iload hx hb dX9_moves_248 (lv_at hl 7 rfl) ?_
                              refine lv_iload hx hb dX9_moves_250 (lv_at hl 8 rfl) ?_
                              refine lv_iload_n hx hb dX9_moves_252 rfl (lv_at hl 5 rfl) ?_
                              refine lv_iload hx hb dX9_moves_253 (lv_at hl 6 rfl) ?_
                              refine cV_i F N (c_X9_liesIn_st l G ad ex s2 ((25 * i) + 1 + 6 * j) p q wd ht (by omega)) miX9_liesIn k_888 (by decide) hl.1 rfl (Nat.le_of_ble_eq_true rfl) (q0 := 0) (ci := 8) rfl rfl dX9_moves_255 (fun H locs N => ?_)
                              refine toI (y := bI (mLi g4 (25 * i + 1 + 6 * j) p q wd ht)) (by rw [hs2]; rfl) ?_
                              refine ifB_eq (tgt := 270) hx hb dX9_moves_258 (by decide) (fun c_258 => ?_) (fun c_258 => ?_)
                              · refine lv_iinc (v := (nI (j + 1))) (lv' := [(9, .int (nI (j + 1))), (11, .int 1), (10, .int (nI ((25 * i) + 1 + 6 * j))), (0, .ref (ad 0)), (1, .int (nI c)), (2, .int (nI r)), (3, .int (nI wd)), (4, .int (nI ht)), (5, .int (nI p)), (6, .int (nI q)), (7, .int (nI n2)), (8, .int (nI i))]) hx hb dX9_moves_270 hl (k := 11) rfl (nI_1 j) (by decide) rfl (fun ls hl => ?_)
                                refine lv_goto (tgt := 144) hx hb dX9_moves_273 (by decide) ?_
                                exact ih_144 n2 (j + 1) ((mMvF c r p q wd ht (25 * i + 1 + 6 * j) (n2, g4)).2) s2 (by omega) (by simp only [mMvF, c_156, c_156v, c_181, c_220, c_258, hs2, sA_21, sA_sA, if_true, if_false, true_or, or_true, or_self, Bool.false_eq_true, eq_self, reduceCtorEq]) (mCn_T (F := fun g => (mMvF c r p q wd ht (25 * i + 1 + 6 * j) (n2, g)).2) hc4 (by omega) (fun j2 h9 => mMvF_out h9)) (by rw [← hJ, lp_s]; exact congrArg _ (Prod.ext (by simp only [mMvF, c_156, c_156v, c_181, c_220, c_258, if_true, if_false, true_or, or_true, or_self, Bool.false_eq_true, eq_self, reduceCtorEq]) rfl)) _ _ _ N (lv_sub hl [3, 4, 5, 6, 7, 8, 9, 10, 11, 0] rfl)
                              · refine lv_aload_n hx hb dX9_moves_261 rfl (lv_at hl 2 rfl) ?_
                                refine lv_iload hx hb dX9_moves_262 (lv_at hl 1 rfl) ?_
                                refine mV_v F N (c_X9_breaks_st l G ad ex s2 ((25 * i) + 1 + 6 * j) (by omega)) miX9_breaks k_865 (by decide) hl.1 rfl (Nat.le_of_ble_eq_true rfl) (q0 := 0) (ci := 8) rfl rfl dX9_moves_264 (fun st_264 est_264 H locs N => ?_)
                                refine lv_iinc (v := (nI (n2 + 1))) (lv' := [(7, .int (nI (n2 + 1))), (11, .int 1), (10, .int (nI ((25 * i) + 1 + 6 * j))), (0, .ref (ad 0)), (1, .int (nI c)), (2, .int (nI r)), (3, .int (nI wd)), (4, .int (nI ht)), (5, .int (nI p)), (6, .int (nI q)), (8, .int (nI i)), (9, .int (nI j))]) hx hb dX9_moves_267 hl (k := 9) rfl (nI_1 n2) (by decide) rfl (fun ls hl => ?_)
                                refine lv_iinc (v := (nI (j + 1))) (lv' := [(9, .int (nI (j + 1))), (7, .int (nI (n2 + 1))), (11, .int 1), (10, .int (nI ((25 * i) + 1 + 6 * j))), (0, .ref (ad 0)), (1, .int (nI c)), (2, .int (nI r)), (3, .int (nI wd)), (4, .int (nI ht)), (5, .int (nI p)), (6, .int (nI q)), (8, .int (nI i))]) hx hb dX9_moves_270 hl (k := 11) rfl (nI_1 j) (by decide) rfl (fun ls hl => ?_)
                                refine lv_goto (tgt := 144) hx hb dX9_moves_273 (by decide) ?_
                                exact ih_144 (n2 + 1) (j + 1) ((mMvF c r p q wd ht (25 * i + 1 + 6 * j) (n2, g4)).2) st_264 (by omega) (by simp only [mMvF, c_156, c_156v, c_181, c_220, c_258, est_264, hs2, sA_21, sA_sA, if_true, if_false, true_or, or_true, or_self, Bool.false_eq_true, eq_self, reduceCtorEq]) (mCn_T (F := fun g => (mMvF c r p q wd ht (25 * i + 1 + 6 * j) (n2, g)).2) hc4 (by omega) (fun j2 h9 => mMvF_out h9)) (by rw [← hJ, lp_s]; exact congrArg _ (Prod.ext (by simp only [mMvF, c_156, c_156v, c_181, c_220, c_258, if_true, if_false, true_or, or_true, or_self, Bool.false_eq_true, eq_self, reduceCtorEq]) rfl)) _ _ _ N (lv_sub hl [4, 5, 6, 7, 8, 9, 10, 1, 11, 0] rfl)
                            · refine lv_aload_n hx hb dX9_moves_223 rfl (lv_at hl 2 rfl) ?_
                              refine lv_iload hx hb dX9_moves_224 (lv_at hl 1 rfl) ?_
                              refine lv_iload hx hb dX9_moves_226 (lv_at hl 7 rfl) ?_
                              refine lv_iload_n hx hb dX9_moves_228 rfl (lv_at hl 3 rfl) ?_
                              refine lv_isub hx hb dX9_moves_229 ?_
                              refine lv_iload hx hb dX9_moves_230 (lv_at hl 8 rfl) ?_
                              refine lv_iload_n hx hb dX9_moves_232 rfl (lv_at hl 4 rfl) ?_
                              refine lv_isub hx hb dX9_moves_233 ?_
                              refine mV_v F N (c_X9_pushes_st l G ad ex s2 ((25 * i) + 1 + 6 * j) ((nI p) - (nI c)) ((nI q) - (nI r)) (by omega)) miX9_pushes k_892 (by decide) hl.1 rfl (Nat.le_of_ble_eq_true rfl) (q0 := 0) (ci := 8) rfl rfl dX9_moves_234 (fun st_234 est_234 H locs N => ?_)
                              refine lv_goto (tgt := 270) hx hb dX9_moves_237 (by decide) ?_
                              refine lv_iinc (v := (nI (j + 1))) (lv' := [(9, .int (nI (j + 1))), (11, .int 1), (10, .int (nI ((25 * i) + 1 + 6 * j))), (0, .ref (ad 0)), (1, .int (nI c)), (2, .int (nI r)), (3, .int (nI wd)), (4, .int (nI ht)), (5, .int (nI p)), (6, .int (nI q)), (7, .int (nI n2)), (8, .int (nI i))]) hx hb dX9_moves_270 hl (k := 11) rfl (nI_1 j) (by decide) rfl (fun ls hl => ?_)
                              refine lv_goto (tgt := 144) hx hb dX9_moves_273 (by decide) ?_
                              exact ih_144 n2 (j + 1) ((mMvF c r p q wd ht (25 * i + 1 + 6 * j) (n2, g4)).2) st_234 (by omega) (by simp only [mMvF, c_156, c_156v, c_181, c_220, est_234, hs2, sA_21, sA_sA, if_true, if_false, true_or, or_true, or_self, Bool.false_eq_true, eq_self, reduceCtorEq]) (mCn_T (F := fun g => (mMvF c r p q wd ht (25 * i + 1 + 6 * j) (n2, g)).2) hc4 (by omega) (fun j2 h9 => mMvF_out h9)) (by rw [← hJ, lp_s]; exact congrArg _ (Prod.ext (by simp only [mMvF, c_156, c_156v, c_181, c_220, if_true, if_false, true_or, or_true, or_self, Bool.false_eq_true, eq_self, reduceCtorEq]) rfl)) _ _ _ N (lv_sub hl [3, 4, 5, 6, 7, 8, 9, 10, 11, 0] rfl)
                          · refine lv_aload_n hx hb dX9_moves_184 rfl (lv_at hl 1 rfl) ?_
                            refine gm_0_now F N k_682 dX9_moves_185 ?_
                            refine lv_iload hx hb dX9_moves_188 (lv_at hl 0 rfl) ?_
                            refine lv_iconst (v := 0) hx hb dX9_moves_190 (by decide) ?_
                            refine iaddN (a := ((25 * i) + 1 + 6 * j)) (b := 0) hx hb dX9_moves_191 ?_
                            refine amN_0 (j := (((25 * i) + 1 + 6 * j) + 0)) F N (by omega) dX9_moves_192 ?_
                            refine toI (y := g4 (25 * i + 1 + 6 * j + 0)) (by rw [hs2]; rfl) ?_
                            refine lv_iconst (v := 2) hx hb dX9_moves_193 (by decide) ?_
                            refine lv_icmp_ne (tgt := 201) hx hb dX9_moves_194 (by decide) (fun c_194 => ?_) (fun c_194 => ?_)
                            · refine lv_iconst (v := 0) hx hb dX9_moves_201 (by decide) ?_
                              refine lv_istore (lv' := [(11, .int 0), (10, .int (nI ((25 * i) + 1 + 6 * j))), (0, .ref (ad 0)), (1, .int (nI c)), (2, .int (nI r)), (3, .int (nI wd)), (4, .int (nI ht)), (5, .int (nI p)), (6, .int (nI q)), (7, .int (nI n2)), (8, .int (nI i)), (9, .int (nI j))]) hx hb dX9_moves_202 hl (by decide) rfl (fun ls hl => ?_)
                              refine lv_iload hx hb dX9_moves_204 (lv_at hl 0 rfl) ?_
                              refine lv_if_eq (tgt := 240) hx hb dX9_moves_206 (by decide) (fun c_206 => ?_) (fun c_206 => ?_)
                              rotate_left
                              · first | exact absurd (by decide) c_206 | exact absurd c_206 (by decide)
                              refine lv_iload hx hb dX9_moves_240 (lv_at hl 0 rfl) ?_
                              refine lv_if_eq (tgt := 270) hx hb dX9_moves_242 (by decide) (fun c_242 => ?_) (fun c_242 => ?_)
                              rotate_left
                              · first | exact absurd (by decide) c_242 | exact absurd c_242 (by decide)
                              refine lv_iinc (v := (nI (j + 1))) (lv' := [(9, .int (nI (j + 1))), (11, .int 0), (10, .int (nI ((25 * i) + 1 + 6 * j))), (0, .ref (ad 0)), (1, .int (nI c)), (2, .int (nI r)), (3, .int (nI wd)), (4, .int (nI ht)), (5, .int (nI p)), (6, .int (nI q)), (7, .int (nI n2)), (8, .int (nI i))]) hx hb dX9_moves_270 hl (k := 11) rfl (nI_1 j) (by decide) rfl (fun ls hl => ?_)
                              refine lv_goto (tgt := 144) hx hb dX9_moves_273 (by decide) ?_
                              exact ih_144 n2 (j + 1) ((mMvF c r p q wd ht (25 * i + 1 + 6 * j) (n2, g4)).2) s2 (by omega) (by simp only [mMvF, c_156, c_156v, c_181, c_194, hs2, sA_21, sA_sA, if_true, if_false, true_or, or_true, or_self, Bool.false_eq_true, eq_self, reduceCtorEq]) (mCn_T (F := fun g => (mMvF c r p q wd ht (25 * i + 1 + 6 * j) (n2, g)).2) hc4 (by omega) (fun j2 h9 => mMvF_out h9)) (by rw [← hJ, lp_s]; exact congrArg _ (Prod.ext (by simp only [mMvF, c_156, c_156v, c_181, c_194, if_true, if_false, true_or, or_true, or_self, Bool.false_eq_true, eq_self, reduceCtorEq]) rfl)) _ _ _ N (lv_sub hl [3, 4, 5, 6, 7, 8, 9, 10, 11, 0] rfl)
                            · refine lv_iconst (v := 1) hx hb dX9_moves_197 (by decide) ?_
                              refine lv_goto (tgt := 202) hx hb dX9_moves_198 (by decide) ?_
                              refine lv_istore (lv' := [(11, .int 1), (10, .int (nI ((25 * i) + 1 + 6 * j))), (0, .ref (ad 0)), (1, .int (nI c)), (2, .int (nI r)), (3, .int (nI wd)), (4, .int (nI ht)), (5, .int (nI p)), (6, .int (nI q)), (7, .int (nI n2)), (8, .int (nI i)), (9, .int (nI j))]) hx hb dX9_moves_202 hl (by decide) rfl (fun ls hl => ?_)
                              refine lv_iload hx hb dX9_moves_204 (lv_at hl 0 rfl) ?_
                              refine lv_if_eq (tgt := 240) hx hb dX9_moves_206 (by decide) (fun c_206 => ?_) (fun c_206 => ?_)
                              · first | exact absurd c_206 (by decide) | exact absurd (by decide) c_206
                              refine lv_aload_n hx hb dX9_moves_209 rfl (lv_at hl 2 rfl) ?_
                              refine lv_iload hx hb dX9_moves_210 (lv_at hl 1 rfl) ?_
                              refine lv_iload_n hx hb dX9_moves_212 rfl (lv_at hl 3 rfl) ?_
                              refine lv_iload_n hx hb dX9_moves_213 rfl (lv_at hl 4 rfl) ?_
                              refine lv_iload_n hx hb dX9_moves_214 rfl (lv_at hl 5 rfl) ?_
                              refine lv_iload hx hb dX9_moves_215 (lv_at hl 6 rfl) ?_
                              refine cV_i F N (c_X9_liesIn_st l G ad ex s2 ((25 * i) + 1 + 6 * j) c r wd ht (by omega)) miX9_liesIn k_888 (by decide) hl.1 rfl (Nat.le_of_ble_eq_true rfl) (q0 := 0) (ci := 8) rfl rfl dX9_moves_217 (fun H locs N => ?_)
                              refine toI (y := bI (mLi g4 (25 * i + 1 + 6 * j) c r wd ht)) (by rw [hs2]; rfl) ?_
                              refine ifB_eq (tgt := 240) hx hb dX9_moves_220 (by decide) (fun c_220 => ?_) (fun c_220 => ?_)
                              · refine lv_iload hx hb dX9_moves_240 (lv_at hl 0 rfl) ?_
                                refine lv_if_eq (tgt := 270) hx hb dX9_moves_242 (by decide) (fun c_242 => ?_) (fun c_242 => ?_)
                                · first | exact absurd c_242 (by decide) | exact absurd (by decide) c_242
                                refine lv_aload_n hx hb dX9_moves_245 rfl (lv_at hl 2 rfl) ?_
                                refine lv_iload hx hb dX9_moves_246 (lv_at hl 1 rfl) ?_
                                refine lv_iload hx hb dX9_moves_248 (lv_at hl 7 rfl) ?_
                                refine lv_iload hx hb dX9_moves_250 (lv_at hl 8 rfl) ?_
                                refine lv_iload_n hx hb dX9_moves_252 rfl (lv_at hl 5 rfl) ?_
                                refine lv_iload hx hb dX9_moves_253 (lv_at hl 6 rfl) ?_
                                refine cV_i F N (c_X9_liesIn_st l G ad ex s2 ((25 * i) + 1 + 6 * j) p q wd ht (by omega)) miX9_liesIn k_888 (by decide) hl.1 rfl (Nat.le_of_ble_eq_true rfl) (q0 := 0) (ci := 8) rfl rfl dX9_moves_255 (fun H locs N => ?_)
                                refine toI (y := bI (mLi g4 (25 * i + 1 + 6 * j) p q wd ht)) (by rw [hs2]; rfl) ?_
                                refine ifB_eq (tgt := 270) hx hb dX9_moves_258 (by decide) (fun c_258 => ?_) (fun c_258 => ?_)
                                · refine lv_iinc (v := (nI (j + 1))) (lv' := [(9, .int (nI (j + 1))), (11, .int 1), (10, .int (nI ((25 * i) + 1 + 6 * j))), (0, .ref (ad 0)), (1, .int (nI c)), (2, .int (nI r)), (3, .int (nI wd)), (4, .int (nI ht)), (5, .int (nI p)), (6, .int (nI q)), (7, .int (nI n2)), (8, .int (nI i))]) hx hb dX9_moves_270 hl (k := 11) rfl (nI_1 j) (by decide) rfl (fun ls hl => ?_)
                                  refine lv_goto (tgt := 144) hx hb dX9_moves_273 (by decide) ?_
                                  exact ih_144 n2 (j + 1) ((mMvF c r p q wd ht (25 * i + 1 + 6 * j) (n2, g4)).2) s2 (by omega) (by simp only [mMvF, c_156, c_156v, c_181, c_194, c_220, c_258, hs2, sA_21, sA_sA, if_true, if_false, true_or, or_true, or_self, Bool.false_eq_true, eq_self, reduceCtorEq]) (mCn_T (F := fun g => (mMvF c r p q wd ht (25 * i + 1 + 6 * j) (n2, g)).2) hc4 (by omega) (fun j2 h9 => mMvF_out h9)) (by rw [← hJ, lp_s]; exact congrArg _ (Prod.ext (by simp only [mMvF, c_156, c_156v, c_181, c_194, c_220, c_258, if_true, if_false, true_or, or_true, or_self, Bool.false_eq_true, eq_self, reduceCtorEq]) rfl)) _ _ _ N (lv_sub hl [3, 4, 5, 6, 7, 8, 9, 10, 11, 0] rfl)
                                · refine lv_aload_n hx hb dX9_moves_261 rfl (lv_at hl 2 rfl) ?_
                                  refine lv_iload hx hb dX9_moves_262 (lv_at hl 1 rfl) ?_
                                  refine mV_v F N (c_X9_breaks_st l G ad ex s2 ((25 * i) + 1 + 6 * j) (by omega)) miX9_breaks k_865 (by decide) hl.1 rfl (Nat.le_of_ble_eq_true rfl) (q0 := 0) (ci := 8) rfl rfl dX9_moves_264 (fun st_264 est_264 H locs N => ?_)
                                  refine lv_iinc (v := (nI (n2 + 1))) (lv' := [(7, .int (nI (n2 + 1))), (11, .int 1), (10, .int (nI ((25 * i) + 1 + 6 * j))), (0, .ref (ad 0)), (1, .int (nI c)), (2, .int (nI r)), (3, .int (nI wd)), (4, .int (nI ht)), (5, .int (nI p)), (6, .int (nI q)), (8, .int (nI i)), (9, .int (nI j))]) hx hb dX9_moves_267 hl (k := 9) rfl (nI_1 n2) (by decide) rfl (fun ls hl => ?_)
                                  refine lv_iinc (v := (nI (j + 1))) (lv' := [(9, .int (nI (j + 1))), (7, .int (nI (n2 + 1))), (11, .int 1), (10, .int (nI ((25 * i) + 1 + 6 * j))), (0, .ref (ad 0)), (1, .int (nI c)), (2, .int (nI r)), (3, .int (nI wd)), (4, .int (nI ht)), (5, .int (nI p)), (6, .int (nI q)), (8, .int (nI i))]) hx hb dX9_moves_270 hl (k := 11) rfl (nI_1 j) (by decide) rfl (fun ls hl => ?_)
                                  refine lv_goto (tgt := 144) hx hb dX9_moves_273 (by decide) ?_
                                  exact ih_144 (n2 + 1) (j + 1) ((mMvF c r p q wd ht (25 * i + 1 + 6 * j) (n2, g4)).2) st_264 (by omega) (by simp only [mMvF, c_156, c_156v, c_181, c_194, c_220, c_258, est_264, hs2, sA_21, sA_sA, if_true, if_false, true_or, or_true, or_self, Bool.false_eq_true, eq_self, reduceCtorEq]) (mCn_T (F := fun g => (mMvF c r p q wd ht (25 * i + 1 + 6 * j) (n2, g)).2) hc4 (by omega) (fun j2 h9 => mMvF_out h9)) (by rw [← hJ, lp_s]; exact congrArg _ (Prod.ext (by simp only [mMvF, c_156, c_156v, c_181, c_194, c_220, c_258, if_true, if_false, true_or, or_true, or_self, Bool.false_eq_true, eq_self, reduceCtorEq]) rfl)) _ _ _ N (lv_sub hl [4, 5, 6, 7, 8, 9, 10, 1, 11, 0] rfl)
                              · refine lv_aload_n hx hb dX9_moves_223 rfl (lv_at hl 2 rfl) ?_
                                refine lv_iload hx hb dX9_moves_224 (lv_at hl 1 rfl) ?_
                                refine lv_iload hx hb dX9_moves_226 (lv_at hl 7 rfl) ?_
                                refine lv_iload_n hx hb dX9_moves_228 rfl (lv_at hl 3 rfl) ?_
                                refine lv_isub hx hb dX9_moves_229 ?_
                                refine lv_iload hx hb dX9_moves_230 (lv_at hl 8 rfl) ?_
                                refine lv_iload_n hx hb dX9_moves_232 rfl (lv_at hl 4 rfl) ?_
                                refine lv_isub hx hb dX9_moves_233 ?_
                                refine mV_v F N (c_X9_pushes_st l G ad ex s2 ((25 * i) + 1 + 6 * j) ((nI p) - (nI c)) ((nI q) - (nI r)) (by omega)) miX9_pushes k_892 (by decide) hl.1 rfl (Nat.le_of_ble_eq_true rfl) (q0 := 0) (ci := 8) rfl rfl dX9_moves_234 (fun st_234 est_234 H locs N => ?_)
                                refine lv_goto (tgt := 270) hx hb dX9_moves_237 (by decide) ?_
                                refine lv_iinc (v := (nI (j + 1))) (lv' := [(9, .int (nI (j + 1))), (11, .int 1), (10, .int (nI ((25 * i) + 1 + 6 * j))), (0, .ref (ad 0)), (1, .int (nI c)), (2, .int (nI r)), (3, .int (nI wd)), (4, .int (nI ht)), (5, .int (nI p)), (6, .int (nI q)), (7, .int (nI n2)), (8, .int (nI i))]) hx hb dX9_moves_270 hl (k := 11) rfl (nI_1 j) (by decide) rfl (fun ls hl => ?_)
                                refine lv_goto (tgt := 144) hx hb dX9_moves_273 (by decide) ?_
                                exact ih_144 n2 (j + 1) ((mMvF c r p q wd ht (25 * i + 1 + 6 * j) (n2, g4)).2) st_234 (by omega) (by simp only [mMvF, c_156, c_156v, c_181, c_194, c_220, est_234, hs2, sA_21, sA_sA, if_true, if_false, true_or, or_true, or_self, Bool.false_eq_true, eq_self, reduceCtorEq]) (mCn_T (F := fun g => (mMvF c r p q wd ht (25 * i + 1 + 6 * j) (n2, g)).2) hc4 (by omega) (fun j2 h9 => mMvF_out h9)) (by rw [← hJ, lp_s]; exact congrArg _ (Prod.ext (by simp only [mMvF, c_156, c_156v, c_181, c_194, c_220, if_true, if_false, true_or, or_true, or_self, Bool.false_eq_true, eq_self, reduceCtorEq]) rfl)) _ _ _ N (lv_sub hl [3, 4, 5, 6, 7, 8, 9, 10, 11, 0] rfl)
                    exact cut_144 (cn i) n 0 g3 s1 (by omega) hs hc3 rfl _ _ _ N (lv_sub hl [1, 2, 3, 4, 5, 6, 7, 8, 9, 0] rfl)
              exact cut_134 36 0 0 g2 s1 (by omega) hs (by rw [show g2 = mMvG st c r p q wd ht from hI]; exact hcn) (by unfold mMvR; rw [← hI]; rfl) _ _ _ N (lv_sub hl [2, 3, 4, 5, 6, 7, 8, 1, 0] rfl)
            · exfalso; omega
          | succ k ih_77 =>
            intro i g2 s1 hk hs hI H locs ls N hl
            refine lv_iload hx hb dX9_moves_77 (lv_at hl 7 rfl) ?_
            refine lv_iload_n hx hb dX9_moves_79 rfl (lv_at hl 3 rfl) ?_
            refine lv_iload hx hb dX9_moves_80 (lv_at hl 4 rfl) ?_
            refine imulN (a := wd) (b := ht) hx hb dX9_moves_82 ?_
            refine cmpN_ge (a := i) (b := (wd * ht)) (tgt := 128) hx hb dX9_moves_83 (by decide) (by omega) (by omega) (fun c_83 => ?_) (fun c_83 => ?_)
            · exfalso; omega
            · have c_83v := Nat.not_le.mp c_83
              refine lv_aload_n hx hb dX9_moves_86 rfl (lv_at hl 0 rfl) ?_
              refine lv_iload hx hb dX9_moves_87 (lv_at hl 5 rfl) ?_
              refine lv_iload hx hb dX9_moves_89 (lv_at hl 7 rfl) ?_
              refine lv_iload_n hx hb dX9_moves_91 rfl (lv_at hl 3 rfl) ?_
              refine iremN (a := i) (b := wd) hx hb dX9_moves_92 (by omega) (by omega) (by omega) ?_
              refine iaddN (a := p) (b := (i % wd)) hx hb dX9_moves_93 ?_
              refine lv_iload hx hb dX9_moves_94 (lv_at hl 6 rfl) ?_
              refine lv_iload hx hb dX9_moves_96 (lv_at hl 7 rfl) ?_
              refine lv_iload_n hx hb dX9_moves_98 rfl (lv_at hl 3 rfl) ?_
              refine idivN (a := i) (b := wd) hx hb dX9_moves_99 (by omega) (by omega) (by omega) ?_
              refine iaddN (a := q) (b := (i / wd)) hx hb dX9_moves_100 ?_
              refine cS_i F N (c_X9_placeOf l G _ (p + (i % wd)) (q + (i / wd))) miX9_placeOf k_821 (by decide) hl.1 rfl (Nat.le_of_ble_eq_true rfl) dX9_moves_101 (fun H locs N => ?_)
              refine lv_iload_n hx hb dX9_moves_104 rfl (lv_at hl 1 rfl) ?_
              refine lv_iload hx hb dX9_moves_105 (lv_at hl 7 rfl) ?_
              refine lv_iload_n hx hb dX9_moves_107 rfl (lv_at hl 3 rfl) ?_
              refine iremN (a := i) (b := wd) hx hb dX9_moves_108 (by omega) (by omega) (by omega) ?_
              refine iaddN (a := c) (b := (i % wd)) hx hb dX9_moves_109 ?_
              refine lv_iload_n hx hb dX9_moves_110 rfl (lv_at hl 2 rfl) ?_
              refine lv_iload hx hb dX9_moves_111 (lv_at hl 7 rfl) ?_
              refine lv_iload_n hx hb dX9_moves_113 rfl (lv_at hl 3 rfl) ?_
              refine idivN (a := i) (b := wd) hx hb dX9_moves_114 (by omega) (by omega) (by omega) ?_
              refine iaddN (a := r) (b := (i / wd)) hx hb dX9_moves_115 ?_
              refine cS_i F N (c_X9_placeOf l G _ (c + (i % wd)) (r + (i / wd))) miX9_placeOf k_821 (by decide) hl.1 rfl (Nat.le_of_ble_eq_true rfl) dX9_moves_116 (fun H locs N => ?_)
              refine mV_v F N (c_X9_takes_st l G ad ex s1 (25 * (6 * (q + (i / wd)) + (p + (i % wd)))) (25 * (6 * (r + (i / wd)) + (c + (i % wd)))) (mPo_le (by omega) hw hpw hqh) (mPo_le (by omega) hw hcw hrh)) miX9_takes k_854 (by decide) hl.1 rfl (Nat.le_of_ble_eq_true rfl) (q0 := 0) (ci := 8) rfl rfl dX9_moves_119 (fun st_119 est_119 H locs N => ?_)
              refine lv_iinc (v := (nI (i + 1))) (lv' := [(7, .int (nI (i + 1))), (0, .ref (ad 0)), (1, .int (nI c)), (2, .int (nI r)), (3, .int (nI wd)), (4, .int (nI ht)), (5, .int (nI p)), (6, .int (nI q))]) hx hb dX9_moves_122 hl (k := 7) rfl (nI_1 i) (by decide) rfl (fun ls hl => ?_)
              refine lv_goto (tgt := 77) hx hb dX9_moves_125 (by decide) ?_
              exact ih_77 (i + 1) (mTak (mLay st) g2 (mPo p q wd i) (mPo c r wd i)) st_119 (by omega) (by rw [est_119, hs]; simp [sA_21, sA_sA, mPo, mLR_1]) hI _ _ _ N (lv_sub hl [1, 2, 3, 4, 5, 6, 7, 0] rfl)
        exact cut_77 (wd * ht) 0 g2 s1 (by omega) hs (by unfold mMvG; rw [← hI]; rfl) _ _ _ N (lv_sub hl [1, 2, 3, 4, 5, 6, 7, 0] rfl)
      · exfalso; omega
    | succ k ih_40 =>
      intro i g2 s1 hk hs hI H locs ls N hl
      refine lv_iload hx hb dX9_moves_40 (lv_at hl 7 rfl) ?_
      refine lv_iload_n hx hb dX9_moves_42 rfl (lv_at hl 3 rfl) ?_
      refine lv_iload hx hb dX9_moves_43 (lv_at hl 4 rfl) ?_
      refine imulN (a := wd) (b := ht) hx hb dX9_moves_45 ?_
      refine cmpN_ge (a := i) (b := (wd * ht)) (tgt := 74) hx hb dX9_moves_46 (by decide) (by omega) (by omega) (fun c_46 => ?_) (fun c_46 => ?_)
      · exfalso; omega
      · have c_46v := Nat.not_le.mp c_46
        refine lv_aload_n hx hb dX9_moves_49 rfl (lv_at hl 0 rfl) ?_
        refine lv_iload_n hx hb dX9_moves_50 rfl (lv_at hl 1 rfl) ?_
        refine lv_iload hx hb dX9_moves_51 (lv_at hl 7 rfl) ?_
        refine lv_iload_n hx hb dX9_moves_53 rfl (lv_at hl 3 rfl) ?_
        refine iremN (a := i) (b := wd) hx hb dX9_moves_54 (by omega) (by omega) (by omega) ?_
        refine iaddN (a := c) (b := (i % wd)) hx hb dX9_moves_55 ?_
        refine lv_iload_n hx hb dX9_moves_56 rfl (lv_at hl 2 rfl) ?_
        refine lv_iload hx hb dX9_moves_57 (lv_at hl 7 rfl) ?_
        refine lv_iload_n hx hb dX9_moves_59 rfl (lv_at hl 3 rfl) ?_
        refine idivN (a := i) (b := wd) hx hb dX9_moves_60 (by omega) (by omega) (by omega) ?_
        refine iaddN (a := r) (b := (i / wd)) hx hb dX9_moves_61 ?_
        refine cS_i F N (c_X9_placeOf l G _ (c + (i % wd)) (r + (i / wd))) miX9_placeOf k_821 (by decide) hl.1 rfl (Nat.le_of_ble_eq_true rfl) dX9_moves_62 (fun H locs N => ?_)
        refine mV_v F N (c_X9_empty_st l G ad ex s1 (25 * (6 * (r + (i / wd)) + (c + (i % wd)))) (mPo_le (by omega) hw hcw hrh)) miX9_empty k_828 (by decide) hl.1 rfl (Nat.le_of_ble_eq_true rfl) (q0 := 0) (ci := 8) rfl rfl dX9_moves_65 (fun st_65 est_65 H locs N => ?_)
        refine lv_iinc (v := (nI (i + 1))) (lv' := [(7, .int (nI (i + 1))), (0, .ref (ad 0)), (1, .int (nI c)), (2, .int (nI r)), (3, .int (nI wd)), (4, .int (nI ht)), (5, .int (nI p)), (6, .int (nI q))]) hx hb dX9_moves_68 hl (k := 7) rfl (nI_1 i) (by decide) rfl (fun ls hl => ?_)
        refine lv_goto (tgt := 40) hx hb dX9_moves_71 (by decide) ?_
        exact ih_40 (i + 1) (mEmp g2 (mPo c r wd i)) st_65 (by omega) (by rw [est_65, hs]; simp [sA_21, sA_sA, mPo]) hI _ _ _ N (lv_sub hl [1, 2, 3, 4, 5, 6, 7, 0] rfl)
  exact cut_40 (wd * ht) 0 (st.2.1 0) st_34 (by omega) (by rw [est_34, est_30]; exact (sA_self rfl).symm) rfl _ _ _ N (lv_sub hl [1, 2, 3, 4, 5, 6, 7, 0] rfl)
set_option maxHeartbeats 4000000 in
set_option maxRecDepth 100000 in
theorem c_X9_copies (l : Launch) (G : GM) (ad : Nat → Nat) (ex : va_W) (st : ST) (c : Nat) (r : Nat) (wd : Nat) (ht : Nat) (p : Nat) (q : Nat) (sz : Nat) (cn : Nat → Nat) (hsz : st.1 0 = nI sz) (hsz2 : sz ≤ 6) (hw : 0 < wd) (hh : 0 < ht) (hcw : c + wd ≤ 6) (hrh : r + ht ≤ 6) (hpw : p + wd ≤ 6) (hqh : q + ht ≤ 6) (hcn : ∀ i, i < wd * ht → mLay st (mPo c r wd i) = nI (cn i) ∧ cn i ≤ 4) : MMi l G yX9_copies cX9_copies 12 (some .int) 3 [.ref (ad 0), .int (nI c), .int (nI r), .int (nI wd), .int (nI ht), .int (nI p), .int (nI q)] ad ex st (nI ((mCyR st c r p q wd ht cn).1)) (sA (mLR st sz) 0 (mCyR st c r p q wd ht cn).2) := by
  refine xi_start (by decide) rfl (Nat.le_of_ble_eq_true rfl) ?_
  intro zp ze zs zm zargs zbelow zmeth zc zQ ls F N hl hret
  have hx := F.1
  have hb := F.2.1
  have hl : lv_has ls 12 [(0, .ref (ad 0)), (1, .int (nI c)), (2, .int (nI r)), (3, .int (nI wd)), (4, .int (nI ht)), (5, .int (nI p)), (6, .int (nI q))] := hl
  have hm : wd * ht ≤ 36 := ar_mul (by omega) (by omega)
  refine lv_iload_n hx hb dX9_copies_0 rfl (lv_at hl 1 rfl) ?_
  refine lv_iload_n hx hb dX9_copies_1 rfl (lv_at hl 2 rfl) ?_
  refine lv_iload_n hx hb dX9_copies_2 rfl (lv_at hl 3 rfl) ?_
  refine lv_iload hx hb dX9_copies_3 (lv_at hl 4 rfl) ?_
  refine cS_i F N (c_X9_isWithin l G _ (nI c) (nI r) (nI wd) (nI ht)) miX9_isWithin k_885 (by decide) hl.1 rfl (Nat.le_of_ble_eq_true rfl) dX9_copies_5 (fun H locs N => ?_)
  refine toI (y := 1) (by rw [xIsAr_nI hw hh hcw hrh]; rfl) ?_
  refine lv_if_eq (tgt := 24) hx hb dX9_copies_8 (by decide) (fun c_8 => ?_) (fun c_8 => ?_)
  · first | exact absurd c_8 (by decide) | exact absurd (by decide) c_8
  refine lv_iload hx hb dX9_copies_11 (lv_at hl 5 rfl) ?_
  refine lv_iload hx hb dX9_copies_13 (lv_at hl 6 rfl) ?_
  refine lv_iload_n hx hb dX9_copies_15 rfl (lv_at hl 3 rfl) ?_
  refine lv_iload hx hb dX9_copies_16 (lv_at hl 4 rfl) ?_
  refine cS_i F N (c_X9_isWithin l G _ (nI p) (nI q) (nI wd) (nI ht)) miX9_isWithin k_885 (by decide) hl.1 rfl (Nat.le_of_ble_eq_true rfl) dX9_copies_18 (fun H locs N => ?_)
  refine toI (y := 1) (by rw [xIsAr_nI hw hh hpw hqh]; rfl) ?_
  refine lv_if_ne (tgt := 29) hx hb dX9_copies_21 (by decide) (fun c_21 => ?_) (fun c_21 => ?_)
  rotate_left
  · first | exact absurd (by decide) c_21 | exact absurd c_21 (by decide)
  refine lv_aload_n hx hb dX9_copies_29 rfl (lv_at hl 0 rfl) ?_
  refine mV_v F N (c_X9_laysAside l G ad ex st ) miX9_laysAside k_813 (by decide) hl.1 rfl (Nat.le_of_ble_eq_true rfl) (q0 := 0) (ci := 8) rfl rfl dX9_copies_30 (fun st_30 est_30 H locs N => ?_)
  refine lv_aload_n hx hb dX9_copies_33 rfl (lv_at hl 0 rfl) ?_
  refine mV_v F N (c_X9_remembers l G ad ex st_30 sz (by rw [est_30]; exact hsz) hsz2) miX9_remembers k_817 (by decide) hl.1 rfl (Nat.le_of_ble_eq_true rfl) (q0 := 0) (ci := 8) rfl rfl dX9_copies_34 (fun st_34 est_34 H locs N => ?_)
  refine lv_iconst (v := 0) hx hb dX9_copies_37 (by decide) ?_
  refine lv_istore (lv' := [(7, .int 0), (0, .ref (ad 0)), (1, .int (nI c)), (2, .int (nI r)), (3, .int (nI wd)), (4, .int (nI ht)), (5, .int (nI p)), (6, .int (nI q))]) hx hb dX9_copies_38 hl (by decide) rfl (fun ls hl => ?_)
  refine lv_iconst (v := 0) hx hb dX9_copies_40 (by decide) ?_
  refine lv_istore (lv' := [(8, .int 0), (7, .int 0), (0, .ref (ad 0)), (1, .int (nI c)), (2, .int (nI r)), (3, .int (nI wd)), (4, .int (nI ht)), (5, .int (nI p)), (6, .int (nI q))]) hx hb dX9_copies_41 hl (by decide) rfl (fun ls hl => ?_)
  have cut_43 : ∀ (k : Nat) (n : Nat) (i : Nat) (g3 : Nat → Int32) (s1 : ST), i + k = wd * ht → s1 = sA (mLR st sz) 0 g3 → lp (mCyW (mLay st) c r p q wd cn) k i (n, g3) = mCyR st c r p q wd ht cn → ∀ (H : Heap) (locs : List Loc) (ls : Array Slot), Now G zs (MW G ad s1 ++ ex) H locs → lv_has ls 12 [(0, .ref (ad 0)), (1, .int (nI c)), (2, .int (nI r)), (3, .int (nI wd)), (4, .int (nI ht)), (5, .int (nI p)), (6, .int (nI q)), (7, .int (nI n)), (8, .int (nI i))] → W zp l ze (RM 3) zs zm zargs zbelow zmeth zc H locs 0 0 zQ (F0 zm 43 ls []) := by
    intro k
    induction k with
    | zero =>
      intro n i g3 s1 hk hs hI H locs ls N hl
      refine lv_iload hx hb dX9_copies_43 (lv_at hl 8 rfl) ?_
      refine lv_iload_n hx hb dX9_copies_45 rfl (lv_at hl 3 rfl) ?_
      refine lv_iload hx hb dX9_copies_46 (lv_at hl 4 rfl) ?_
      refine imulN (a := wd) (b := ht) hx hb dX9_copies_48 ?_
      refine cmpN_ge (a := i) (b := (wd * ht)) (tgt := 191) hx hb dX9_copies_49 (by decide) (by omega) (by omega) (fun c_49 => ?_) (fun c_49 => ?_)
      · have c_49v := Nat.not_lt.mpr c_49
        refine lv_iload hx hb dX9_copies_191 (lv_at hl 7 rfl) ?_
        exact hret _ _ _ _ _ _ dX9_copies_193 (by rw [← hI]; rfl) (by rw [hs, ← hI]; rfl) N
      · exfalso; omega
    | succ k ih_43 =>
      intro n i g3 s1 hk hs hI H locs ls N hl
      refine lv_iload hx hb dX9_copies_43 (lv_at hl 8 rfl) ?_
      refine lv_iload_n hx hb dX9_copies_45 rfl (lv_at hl 3 rfl) ?_
      refine lv_iload hx hb dX9_copies_46 (lv_at hl 4 rfl) ?_
      refine imulN (a := wd) (b := ht) hx hb dX9_copies_48 ?_
      refine cmpN_ge (a := i) (b := (wd * ht)) (tgt := 191) hx hb dX9_copies_49 (by decide) (by omega) (by omega) (fun c_49 => ?_) (fun c_49 => ?_)
      · exfalso; omega
      · have c_49v := Nat.not_le.mp c_49
        refine lv_iload hx hb dX9_copies_52 (lv_at hl 5 rfl) ?_
        refine lv_iload hx hb dX9_copies_54 (lv_at hl 8 rfl) ?_
        refine lv_iload_n hx hb dX9_copies_56 rfl (lv_at hl 3 rfl) ?_
        refine iremN (a := i) (b := wd) hx hb dX9_copies_57 (by omega) (by omega) (by omega) ?_
        refine iaddN (a := p) (b := (i % wd)) hx hb dX9_copies_58 ?_
        refine lv_iload hx hb dX9_copies_59 (lv_at hl 6 rfl) ?_
        refine lv_iload hx hb dX9_copies_61 (lv_at hl 8 rfl) ?_
        refine lv_iload_n hx hb dX9_copies_63 rfl (lv_at hl 3 rfl) ?_
        refine idivN (a := i) (b := wd) hx hb dX9_copies_64 (by omega) (by omega) (by omega) ?_
        refine iaddN (a := q) (b := (i / wd)) hx hb dX9_copies_65 ?_
        refine cS_i F N (c_X9_placeOf l G _ (p + (i % wd)) (q + (i / wd))) miX9_placeOf k_821 (by decide) hl.1 rfl (Nat.le_of_ble_eq_true rfl) dX9_copies_66 (fun H locs N => ?_)
        refine lv_istore (lv' := [(9, .int (nI (25 * (6 * (q + (i / wd)) + (p + (i % wd)))))), (0, .ref (ad 0)), (1, .int (nI c)), (2, .int (nI r)), (3, .int (nI wd)), (4, .int (nI ht)), (5, .int (nI p)), (6, .int (nI q)), (7, .int (nI n)), (8, .int (nI i))]) hx hb dX9_copies_69 hl (by decide) rfl (fun ls hl => ?_)
        refine lv_aload_n hx hb dX9_copies_71 rfl (lv_at hl 1 rfl) ?_
        refine lv_iload hx hb dX9_copies_72 (lv_at hl 0 rfl) ?_
        refine lv_iload_n hx hb dX9_copies_74 rfl (lv_at hl 2 rfl) ?_
        refine lv_iload hx hb dX9_copies_75 (lv_at hl 9 rfl) ?_
        refine lv_iload_n hx hb dX9_copies_77 rfl (lv_at hl 4 rfl) ?_
        refine iremN (a := i) (b := wd) hx hb dX9_copies_78 (by omega) (by omega) (by omega) ?_
        refine iaddN (a := c) (b := (i % wd)) hx hb dX9_copies_79 ?_
        refine lv_iload_n hx hb dX9_copies_80 rfl (lv_at hl 3 rfl) ?_
        refine lv_iload hx hb dX9_copies_81 (lv_at hl 9 rfl) ?_
        refine lv_iload_n hx hb dX9_copies_83 rfl (lv_at hl 4 rfl) ?_
        refine idivN (a := i) (b := wd) hx hb dX9_copies_84 (by omega) (by omega) (by omega) ?_
        refine iaddN (a := r) (b := (i / wd)) hx hb dX9_copies_85 ?_
        refine cS_i F N (c_X9_placeOf l G _ (c + (i % wd)) (r + (i / wd))) miX9_placeOf k_821 (by decide) hl.1 rfl (Nat.le_of_ble_eq_true rfl) dX9_copies_86 (fun H locs N => ?_)
        refine mV_v F N (c_X9_takes_st l G ad ex s1 (25 * (6 * (q + (i / wd)) + (p + (i % wd)))) (25 * (6 * (r + (i / wd)) + (c + (i % wd)))) (mPo_le (by omega) hw hpw hqh) (mPo_le (by omega) hw hcw hrh)) miX9_takes k_854 (by decide) hl.1 rfl (Nat.le_of_ble_eq_true rfl) (q0 := 0) (ci := 8) rfl rfl dX9_copies_89 (fun st_89 est_89 H locs N => ?_)
        refine lv_iconst (v := 0) hx hb dX9_copies_92 (by decide) ?_
        refine lv_istore (lv' := [(10, .int 0), (9, .int (nI (25 * (6 * (q + (i / wd)) + (p + (i % wd)))))), (0, .ref (ad 0)), (1, .int (nI c)), (2, .int (nI r)), (3, .int (nI wd)), (4, .int (nI ht)), (5, .int (nI p)), (6, .int (nI q)), (7, .int (nI n)), (8, .int (nI i))]) hx hb dX9_copies_93 hl (by decide) rfl (fun ls hl => ?_)
        have cut_95 : ∀ (k2 : Nat) (n2 : Nat) (j : Nat) (g4 : Nat → Int32) (s2 : ST), j + k2 = cn i → s2 = sA (mLR st sz) 0 g4 → g4 (mPo p q wd i) = nI (cn i) → lp (fun i2 x => mCyF c r p q (mPo p q wd i + 1 + 6 * i2) x) k2 j (n2, g4) = mCyW (mLay st) c r p q wd cn i (n, g3) → ∀ (H : Heap) (locs : List Loc) (ls : Array Slot), Now G zs (MW G ad s2 ++ ex) H locs → lv_has ls 12 [(0, .ref (ad 0)), (1, .int (nI c)), (2, .int (nI r)), (3, .int (nI wd)), (4, .int (nI ht)), (5, .int (nI p)), (6, .int (nI q)), (8, .int (nI i)), (9, .int (nI (mPo p q wd i))), (10, .int (nI j)), (7, .int (nI n2))] → W zp l ze (RM 3) zs zm zargs zbelow zmeth zc H locs 0 0 zQ (F0 zm 95 ls []) := by
          intro k2
          induction k2 with
          | zero =>
            intro n2 j g4 s2 hk2 hs2 h0 hJ H locs ls N hl
            have hci := (hcn i (by omega)).2
            have hpo := mPo_le (i := i) (by omega) hw hpw hqh
            refine lv_iload hx hb dX9_copies_95 (lv_at hl 9 rfl) ?_
            refine lv_aload_n hx hb dX9_copies_97 rfl (lv_at hl 0 rfl) ?_
            refine gm_0_now F N k_682 dX9_copies_98 ?_
            refine lv_iload hx hb dX9_copies_101 (lv_at hl 8 rfl) ?_
            refine amN_0 (j := (mPo p q wd i)) F N (by omega) dX9_copies_103 ?_
            refine toN (a := cn i) (by rw [hs2]; exact h0) ?_
            refine cmpN_ge (a := j) (b := (cn i)) (tgt := 185) hx hb dX9_copies_104 (by decide) (by omega) (by omega) (fun c_104 => ?_) (fun c_104 => ?_)
            · have c_104v := Nat.not_lt.mpr c_104
              refine lv_iinc (v := (nI (i + 1))) (lv' := [(8, .int (nI (i + 1))), (0, .ref (ad 0)), (1, .int (nI c)), (2, .int (nI r)), (3, .int (nI wd)), (4, .int (nI ht)), (5, .int (nI p)), (6, .int (nI q)), (9, .int (nI (mPo p q wd i))), (10, .int (nI j)), (7, .int (nI n2))]) hx hb dX9_copies_185 hl (k := 7) rfl (nI_1 i) (by decide) rfl (fun ls hl => ?_)
              refine lv_goto (tgt := 43) hx hb dX9_copies_188 (by decide) ?_
              exact ih_43 n2 (i + 1) g4 s2 (by omega) hs2 (by rw [← hI, lp_s]; exact congrArg _ hJ) _ _ _ N (lv_sub hl [1, 2, 3, 4, 5, 6, 7, 10, 0] rfl)
            · exfalso; omega
          | succ k2 ih_95 =>
            intro n2 j g4 s2 hk2 hs2 h0 hJ H locs ls N hl
            have hci := (hcn i (by omega)).2
            have hpo := mPo_le (i := i) (by omega) hw hpw hqh
            refine lv_iload hx hb dX9_copies_95 (lv_at hl 9 rfl) ?_
            refine lv_aload_n hx hb dX9_copies_97 rfl (lv_at hl 0 rfl) ?_
            refine gm_0_now F N k_682 dX9_copies_98 ?_
            refine lv_iload hx hb dX9_copies_101 (lv_at hl 8 rfl) ?_
            refine amN_0 (j := (mPo p q wd i)) F N (by omega) dX9_copies_103 ?_
            refine toN (a := cn i) (by rw [hs2]; exact h0) ?_
            refine cmpN_ge (a := j) (b := (cn i)) (tgt := 185) hx hb dX9_copies_104 (by decide) (by omega) (by omega) (fun c_104 => ?_) (fun c_104 => ?_)
            · exfalso; omega
            · have c_104v := Nat.not_le.mp c_104
              have cut_156 : ∀ (g5 : Nat → Int32) (s3 : ST), s3 = sA (mLR st sz) 0 g5 → g5 = (mCyF c r p q (mPo p q wd i + 1 + 6 * j) (n2, g4)).2 → ∀ (H : Heap) (locs : List Loc) (ls : Array Slot), Now G zs (MW G ad s3 ++ ex) H locs → lv_has ls 12 [(0, .ref (ad 0)), (1, .int (nI c)), (2, .int (nI r)), (3, .int (nI wd)), (4, .int (nI ht)), (5, .int (nI p)), (6, .int (nI q)), (8, .int (nI i)), (9, .int (nI (mPo p q wd i))), (10, .int (nI j)), (7, .int (nI n2)), (11, .int (nI (mPo p q wd i + 1 + 6 * j)))] → W zp l ze (RM 3) zs zm zargs zbelow zmeth zc H locs 0 0 zQ (F0 zm 156 ls []) := by
                intro g5 s3 hs3 hg5 H locs ls N hl
                refine lv_iload hx hb dX9_copies_156 (lv_at hl 10 rfl) ?_
                refine lv_aload_n hx hb dX9_copies_158 rfl (lv_at hl 0 rfl) ?_
                refine gm_0_now F N k_682 dX9_copies_159 ?_
                refine lv_iload hx hb dX9_copies_162 (lv_at hl 11 rfl) ?_
                refine lv_iconst (v := 0) hx hb dX9_copies_164 (by decide) ?_
                refine iaddN (a := (mPo p q wd i + 1 + 6 * j)) (b := 0) hx hb dX9_copies_165 ?_
                refine amN_0 (j := ((mPo p q wd i + 1 + 6 * j) + 0)) F N (by omega) dX9_copies_166 ?_
                refine toI (y := g5 (mPo p q wd i + 1 + 6 * j + 0)) (by rw [hs3]; rfl) ?_
                refine lv_iconst (v := 3) hx hb dX9_copies_167 (by decide) ?_
                refine lv_icmp_ne (tgt := 175) hx hb dX9_copies_168 (by decide) (fun c_168 => ?_) (fun c_168 => ?_)
                · refine lv_iconst (v := 0) hx hb dX9_copies_175 (by decide) ?_
                  refine iaddN (a := n2) (b := 0) hx hb dX9_copies_176 ?_
                  refine lv_istore (lv' := [(7, .int (nI (n2 + 0))), (0, .ref (ad 0)), (1, .int (nI c)), (2, .int (nI r)), (3, .int (nI wd)), (4, .int (nI ht)), (5, .int (nI p)), (6, .int (nI q)), (8, .int (nI i)), (9, .int (nI (mPo p q wd i))), (10, .int (nI j)), (11, .int (nI (mPo p q wd i + 1 + 6 * j)))]) hx hb dX9_copies_177 hl (by decide) rfl (fun ls hl => ?_)
                  refine lv_iinc (v := (nI (j + 1))) (lv' := [(10, .int (nI (j + 1))), (7, .int (nI (n2 + 0))), (0, .ref (ad 0)), (1, .int (nI c)), (2, .int (nI r)), (3, .int (nI wd)), (4, .int (nI ht)), (5, .int (nI p)), (6, .int (nI q)), (8, .int (nI i)), (9, .int (nI (mPo p q wd i))), (11, .int (nI (mPo p q wd i + 1 + 6 * j)))]) hx hb dX9_copies_179 hl (k := 10) rfl (nI_1 j) (by decide) rfl (fun ls hl => ?_)
                  refine lv_goto (tgt := 95) hx hb dX9_copies_182 (by decide) ?_
                  exact ih_95 (n2 + 0) (j + 1) g5 s3 (by omega) hs3 (by rw [hg5]; exact (mCyF_out (by omega)).trans h0) (by rw [← hJ, lp_s]; exact congrArg _ (Prod.ext (by rw [mCyF_1, ← hg5]; first | rw [if_pos c_168] | rw [if_neg c_168]; try rfl) hg5)) _ _ _ N (lv_sub hl [2, 3, 4, 5, 6, 7, 8, 9, 10, 0, 1] rfl)
                · refine lv_iconst (v := 1) hx hb dX9_copies_171 (by decide) ?_
                  refine lv_goto (tgt := 176) hx hb dX9_copies_172 (by decide) ?_
                  refine iaddN (a := n2) (b := 1) hx hb dX9_copies_176 ?_
                  refine lv_istore (lv' := [(7, .int (nI (n2 + 1))), (0, .ref (ad 0)), (1, .int (nI c)), (2, .int (nI r)), (3, .int (nI wd)), (4, .int (nI ht)), (5, .int (nI p)), (6, .int (nI q)), (8, .int (nI i)), (9, .int (nI (mPo p q wd i))), (10, .int (nI j)), (11, .int (nI (mPo p q wd i + 1 + 6 * j)))]) hx hb dX9_copies_177 hl (by decide) rfl (fun ls hl => ?_)
                  refine lv_iinc (v := (nI (j + 1))) (lv' := [(10, .int (nI (j + 1))), (7, .int (nI (n2 + 1))), (0, .ref (ad 0)), (1, .int (nI c)), (2, .int (nI r)), (3, .int (nI wd)), (4, .int (nI ht)), (5, .int (nI p)), (6, .int (nI q)), (8, .int (nI i)), (9, .int (nI (mPo p q wd i))), (11, .int (nI (mPo p q wd i + 1 + 6 * j)))]) hx hb dX9_copies_179 hl (k := 10) rfl (nI_1 j) (by decide) rfl (fun ls hl => ?_)
                  refine lv_goto (tgt := 95) hx hb dX9_copies_182 (by decide) ?_
                  exact ih_95 (n2 + 1) (j + 1) g5 s3 (by omega) hs3 (by rw [hg5]; exact (mCyF_out (by omega)).trans h0) (by rw [← hJ, lp_s]; exact congrArg _ (Prod.ext (by rw [mCyF_1, ← hg5]; first | rw [if_pos c_168] | rw [if_neg c_168]; try rfl) hg5)) _ _ _ N (lv_sub hl [2, 3, 4, 5, 6, 7, 8, 9, 10, 0, 1] rfl)
              refine lv_iload hx hb dX9_copies_107 (lv_at hl 8 rfl) ?_
              refine lv_iload hx hb dX9_copies_109 (lv_at hl 9 rfl) ?_
              refine cS_i F N (c_X9_termPlace l G _ (mPo p q wd i) j) miX9_termPlace k_858 (by decide) hl.1 rfl (Nat.le_of_ble_eq_true rfl) dX9_copies_111 (fun H locs N => ?_)
              refine lv_istore (lv' := [(11, .int (nI ((mPo p q wd i) + 1 + 6 * j))), (0, .ref (ad 0)), (1, .int (nI c)), (2, .int (nI r)), (3, .int (nI wd)), (4, .int (nI ht)), (5, .int (nI p)), (6, .int (nI q)), (8, .int (nI i)), (9, .int (nI (mPo p q wd i))), (10, .int (nI j)), (7, .int (nI n2))]) hx hb dX9_copies_114 hl (by decide) rfl (fun ls hl => ?_)
              refine lv_aload_n hx hb dX9_copies_116 rfl (lv_at hl 1 rfl) ?_
              refine gm_0_now F N k_682 dX9_copies_117 ?_
              refine lv_iload hx hb dX9_copies_120 (lv_at hl 0 rfl) ?_
              refine lv_iconst (v := 0) hx hb dX9_copies_122 (by decide) ?_
              refine iaddN (a := ((mPo p q wd i) + 1 + 6 * j)) (b := 0) hx hb dX9_copies_123 ?_
              refine amN_0 (j := (((mPo p q wd i) + 1 + 6 * j) + 0)) F N (by omega) dX9_copies_124 ?_
              refine toI (y := g4 (mPo p q wd i + 1 + 6 * j + 0)) (by rw [hs2]; rfl) ?_
              refine lv_iconst (v := 1) hx hb dX9_copies_125 (by decide) ?_
              refine lv_icmp_eq (tgt := 142) hx hb dX9_copies_126 (by decide) (fun c_126 => ?_) (fun c_126 => ?_)
              · refine lv_aload_n hx hb dX9_copies_142 rfl (lv_at hl 1 rfl) ?_
                refine lv_iload hx hb dX9_copies_143 (lv_at hl 0 rfl) ?_
                refine lv_iload hx hb dX9_copies_145 (lv_at hl 6 rfl) ?_
                refine lv_iload_n hx hb dX9_copies_147 rfl (lv_at hl 2 rfl) ?_
                refine lv_isub hx hb dX9_copies_148 ?_
                refine lv_iload hx hb dX9_copies_149 (lv_at hl 7 rfl) ?_
                refine lv_iload_n hx hb dX9_copies_151 rfl (lv_at hl 3 rfl) ?_
                refine lv_isub hx hb dX9_copies_152 ?_
                refine mV_v F N (c_X9_goesOn_st l G ad ex s2 ((mPo p q wd i) + 1 + 6 * j) ((nI p) - (nI c)) ((nI q) - (nI r)) (by omega)) miX9_goesOn k_900 (by decide) hl.1 rfl (Nat.le_of_ble_eq_true rfl) (q0 := 0) (ci := 8) rfl rfl dX9_copies_153 (fun st_153 est_153 H locs N => ?_)
                exact cut_156 ((mCyF c r p q (mPo p q wd i + 1 + 6 * j) (n2, g4)).2) st_153 (by simp only [mCyF, c_104, c_104v, c_126, est_153, hs2, sA_21, sA_sA, if_true, if_false, true_or, or_true, or_self, Bool.false_eq_true, eq_self, reduceCtorEq]) rfl _ _ _ N (lv_sub hl [1, 2, 3, 4, 5, 6, 7, 8, 9, 10, 11, 0] rfl)
              · refine lv_aload_n hx hb dX9_copies_129 rfl (lv_at hl 1 rfl) ?_
                refine gm_0_now F N k_682 dX9_copies_130 ?_
                refine lv_iload hx hb dX9_copies_133 (lv_at hl 0 rfl) ?_
                refine lv_iconst (v := 0) hx hb dX9_copies_135 (by decide) ?_
                refine iaddN (a := ((mPo p q wd i) + 1 + 6 * j)) (b := 0) hx hb dX9_copies_136 ?_
                refine amN_0 (j := (((mPo p q wd i) + 1 + 6 * j) + 0)) F N (by omega) dX9_copies_137 ?_
                refine toI (y := g4 (mPo p q wd i + 1 + 6 * j + 0)) (by rw [hs2]; rfl) ?_
                refine lv_iconst (v := 2) hx hb dX9_copies_138 (by decide) ?_
                refine lv_icmp_ne (tgt := 156) hx hb dX9_copies_139 (by decide) (fun c_139 => ?_) (fun c_139 => ?_)
                · exact cut_156 ((mCyF c r p q (mPo p q wd i + 1 + 6 * j) (n2, g4)).2) s2 (by simp only [mCyF, c_104, c_104v, c_126, c_139, hs2, sA_21, sA_sA, if_true, if_false, true_or, or_true, or_self, Bool.false_eq_true, eq_self, reduceCtorEq]) rfl _ _ _ N (lv_sub hl [1, 2, 3, 4, 5, 6, 7, 8, 9, 10, 11, 0] rfl)
                · refine lv_aload_n hx hb dX9_copies_142 rfl (lv_at hl 1 rfl) ?_
                  refine lv_iload hx hb dX9_copies_143 (lv_at hl 0 rfl) ?_
                  refine lv_iload hx hb dX9_copies_145 (lv_at hl 6 rfl) ?_
                  refine lv_iload_n hx hb dX9_copies_147 rfl (lv_at hl 2 rfl) ?_
                  refine lv_isub hx hb dX9_copies_148 ?_
                  refine lv_iload hx hb dX9_copies_149 (lv_at hl 7 rfl) ?_
                  refine lv_iload_n hx hb dX9_copies_151 rfl (lv_at hl 3 rfl) ?_
                  refine lv_isub hx hb dX9_copies_152 ?_
                  refine mV_v F N (c_X9_goesOn_st l G ad ex s2 ((mPo p q wd i) + 1 + 6 * j) ((nI p) - (nI c)) ((nI q) - (nI r)) (by omega)) miX9_goesOn k_900 (by decide) hl.1 rfl (Nat.le_of_ble_eq_true rfl) (q0 := 0) (ci := 8) rfl rfl dX9_copies_153 (fun st_153 est_153 H locs N => ?_)
                  exact cut_156 ((mCyF c r p q (mPo p q wd i + 1 + 6 * j) (n2, g4)).2) st_153 (by simp only [mCyF, c_104, c_104v, c_126, c_139, est_153, hs2, sA_21, sA_sA, if_true, if_false, true_or, or_true, or_self, Bool.false_eq_true, eq_self, reduceCtorEq]) rfl _ _ _ N (lv_sub hl [1, 2, 3, 4, 5, 6, 7, 8, 9, 10, 11, 0] rfl)
        exact cut_95 (cn i) n 0 (mTak (mLay st) g3 (mPo p q wd i) (mPo c r wd i)) st_89 (by omega) (by rw [est_89, hs]; simp [sA_21, sA_sA, mPo, mLR_1]) (mTak_0.trans (hcn i (by omega)).1) rfl _ _ _ N (lv_sub hl [2, 3, 4, 5, 6, 7, 8, 10, 1, 0, 9] rfl)
  exact cut_43 (wd * ht) 0 0 (st.2.1 0) st_34 (by omega) (by rw [est_34, est_30]; exact (sA_self rfl).symm) rfl _ _ _ N (lv_sub hl [2, 3, 4, 5, 6, 7, 8, 1, 0] rfl)
set_option maxHeartbeats 4000000 in
set_option maxRecDepth 100000 in
theorem c_X9_refersTo (l : Launch) (G : GM) (ad : Nat → Nat) (ex : va_W) (st : ST) (ta : Nat) (c : Nat) (r : Nat) (hta : ta + 6 ≤ 900) : XCi l G yX9_refersTo cX9_refersTo 4 (some .boolean) 1 [.ref (ad 0), .int (nI ta), .int (nI c), .int (nI r)] (MW G ad st ++ ex) (bI (mRf (st.2.1 0) c r ta)) (MW G ad st ++ ex) := by
  refine xi_start (by decide) (nar_bI _) (Nat.le_of_ble_eq_true rfl) ?_
  intro zp ze zs zm zargs zbelow zmeth zc zQ ls F N hl hret
  have hx := F.1
  have hb := F.2.1
  have hl : lv_has ls 4 [(0, .ref (ad 0)), (1, .int (nI ta)), (2, .int (nI c)), (3, .int (nI r))] := hl
  refine lv_aload_n hx hb dX9_refersTo_0 rfl (lv_at hl 0 rfl) ?_
  refine gm_0_now F N k_682 dX9_refersTo_1 ?_
  refine lv_iload_n hx hb dX9_refersTo_4 rfl (lv_at hl 1 rfl) ?_
  refine lv_iconst (v := 0) hx hb dX9_refersTo_5 (by decide) ?_
  refine iaddN (a := ta) (b := 0) hx hb dX9_refersTo_6 ?_
  refine amN_0 (j := (ta + 0)) F N (by omega) dX9_refersTo_7 ?_
  refine lv_iconst (v := 1) hx hb dX9_refersTo_8 (by decide) ?_
  refine lv_icmp_ne (tgt := 42) hx hb dX9_refersTo_9 (by decide) (fun c_9 => ?_) (fun c_9 => ?_)
  · refine lv_aload_n hx hb dX9_refersTo_42 rfl (lv_at hl 0 rfl) ?_
    refine gm_0_now F N k_682 dX9_refersTo_43 ?_
    refine lv_iload_n hx hb dX9_refersTo_46 rfl (lv_at hl 1 rfl) ?_
    refine lv_iconst (v := 0) hx hb dX9_refersTo_47 (by decide) ?_
    refine iaddN (a := ta) (b := 0) hx hb dX9_refersTo_48 ?_
    refine amN_0 (j := (ta + 0)) F N (by omega) dX9_refersTo_49 ?_
    refine lv_iconst (v := 2) hx hb dX9_refersTo_50 (by decide) ?_
    refine lv_icmp_ne (tgt := 104) hx hb dX9_refersTo_51 (by decide) (fun c_51 => ?_) (fun c_51 => ?_)
    · refine lv_iconst (v := 0) hx hb dX9_refersTo_104 (by decide) ?_
      exact hret _ _ _ _ _ _ dX9_refersTo_105 (by simp only [mRf, bI, c_9, c_51, if_true, if_false, Bool.not_true, Bool.not_false, Bool.true_and, Bool.false_and, Bool.and_true, Bool.and_false, decide_true, decide_false, Bool.false_eq_true, eq_self, reduceCtorEq, i21]) (by rfl) N
    · refine lv_iload_n hx hb dX9_refersTo_54 rfl (lv_at hl 2 rfl) ?_
      refine lv_aload_n hx hb dX9_refersTo_55 rfl (lv_at hl 0 rfl) ?_
      refine gm_0_now F N k_682 dX9_refersTo_56 ?_
      refine lv_iload_n hx hb dX9_refersTo_59 rfl (lv_at hl 1 rfl) ?_
      refine lv_iconst (v := 1) hx hb dX9_refersTo_60 (by decide) ?_
      refine iaddN (a := ta) (b := 1) hx hb dX9_refersTo_61 ?_
      refine amN_0 (j := (ta + 1)) F N (by omega) dX9_refersTo_62 ?_
      refine lv_aload_n hx hb dX9_refersTo_63 rfl (lv_at hl 0 rfl) ?_
      refine gm_0_now F N k_682 dX9_refersTo_64 ?_
      refine lv_iload_n hx hb dX9_refersTo_67 rfl (lv_at hl 1 rfl) ?_
      refine lv_iconst (v := 3) hx hb dX9_refersTo_68 (by decide) ?_
      refine iaddN (a := ta) (b := 3) hx hb dX9_refersTo_69 ?_
      refine amN_0 (j := (ta + 3)) F N (by omega) dX9_refersTo_70 ?_
      refine cS_i F N (c_X9_in l G _ (nI c) (st.2.1 0 (ta + 1)) (st.2.1 0 (ta + 3))) miX9_in k_760 (by decide) hl.1 rfl (Nat.le_of_ble_eq_true rfl) dX9_refersTo_71 (fun H locs N => ?_)
      refine ifB_eq (tgt := 104) hx hb dX9_refersTo_74 (by decide) (fun c_74 => ?_) (fun c_74 => ?_)
      · refine lv_iconst (v := 0) hx hb dX9_refersTo_104 (by decide) ?_
        exact hret _ _ _ _ _ _ dX9_refersTo_105 (by simp only [mRf, bI, c_9, c_51, c_74, if_true, if_false, Bool.not_true, Bool.not_false, Bool.true_and, Bool.false_and, Bool.and_true, Bool.and_false, decide_true, decide_false, Bool.false_eq_true, eq_self, reduceCtorEq, i21]) (by rfl) N
      · refine lv_iload_n hx hb dX9_refersTo_77 rfl (lv_at hl 3 rfl) ?_
        refine lv_aload_n hx hb dX9_refersTo_78 rfl (lv_at hl 0 rfl) ?_
        refine gm_0_now F N k_682 dX9_refersTo_79 ?_
        refine lv_iload_n hx hb dX9_refersTo_82 rfl (lv_at hl 1 rfl) ?_
        refine lv_iconst (v := 2) hx hb dX9_refersTo_83 (by decide) ?_
        refine iaddN (a := ta) (b := 2) hx hb dX9_refersTo_84 ?_
        refine amN_0 (j := (ta + 2)) F N (by omega) dX9_refersTo_85 ?_
        refine lv_aload_n hx hb dX9_refersTo_86 rfl (lv_at hl 0 rfl) ?_
        refine gm_0_now F N k_682 dX9_refersTo_87 ?_
        refine lv_iload_n hx hb dX9_refersTo_90 rfl (lv_at hl 1 rfl) ?_
        refine lv_iconst (v := 4) hx hb dX9_refersTo_91 (by decide) ?_
        refine iaddN (a := ta) (b := 4) hx hb dX9_refersTo_92 ?_
        refine amN_0 (j := (ta + 4)) F N (by omega) dX9_refersTo_93 ?_
        refine cS_i F N (c_X9_in l G _ (nI r) (st.2.1 0 (ta + 2)) (st.2.1 0 (ta + 4))) miX9_in k_760 (by decide) hl.1 rfl (Nat.le_of_ble_eq_true rfl) dX9_refersTo_94 (fun H locs N => ?_)
        refine ifB_eq (tgt := 104) hx hb dX9_refersTo_97 (by decide) (fun c_97 => ?_) (fun c_97 => ?_)
        · refine lv_iconst (v := 0) hx hb dX9_refersTo_104 (by decide) ?_
          exact hret _ _ _ _ _ _ dX9_refersTo_105 (by simp only [mRf, bI, c_9, c_51, c_74, c_97, if_true, if_false, Bool.not_true, Bool.not_false, Bool.true_and, Bool.false_and, Bool.and_true, Bool.and_false, decide_true, decide_false, Bool.false_eq_true, eq_self, reduceCtorEq, i21]) (by rfl) N
        · refine lv_iconst (v := 1) hx hb dX9_refersTo_100 (by decide) ?_
          refine lv_goto (tgt := 105) hx hb dX9_refersTo_101 (by decide) ?_
          exact hret _ _ _ _ _ _ dX9_refersTo_105 (by simp only [mRf, bI, c_9, c_51, c_74, c_97, if_true, if_false, Bool.not_true, Bool.not_false, Bool.true_and, Bool.false_and, Bool.and_true, Bool.and_false, decide_true, decide_false, Bool.false_eq_true, eq_self, reduceCtorEq, i21]) (by rfl) N
  · refine lv_aload_n hx hb dX9_refersTo_12 rfl (lv_at hl 0 rfl) ?_
    refine gm_0_now F N k_682 dX9_refersTo_13 ?_
    refine lv_iload_n hx hb dX9_refersTo_16 rfl (lv_at hl 1 rfl) ?_
    refine lv_iconst (v := 1) hx hb dX9_refersTo_17 (by decide) ?_
    refine iaddN (a := ta) (b := 1) hx hb dX9_refersTo_18 ?_
    refine amN_0 (j := (ta + 1)) F N (by omega) dX9_refersTo_19 ?_
    refine lv_iload_n hx hb dX9_refersTo_20 rfl (lv_at hl 2 rfl) ?_
    refine lv_icmp_ne (tgt := 40) hx hb dX9_refersTo_21 (by decide) (fun c_21 => ?_) (fun c_21 => ?_)
    · refine lv_iconst (v := 0) hx hb dX9_refersTo_40 (by decide) ?_
      exact hret _ _ _ _ _ _ dX9_refersTo_41 (by simp only [mRf, bI, c_9, c_21, if_true, if_false, Bool.not_true, Bool.not_false, Bool.true_and, Bool.false_and, Bool.and_true, Bool.and_false, decide_true, decide_false, Bool.false_eq_true, eq_self, reduceCtorEq, i21]) (by rfl) N
    · refine lv_aload_n hx hb dX9_refersTo_24 rfl (lv_at hl 0 rfl) ?_
      refine gm_0_now F N k_682 dX9_refersTo_25 ?_
      refine lv_iload_n hx hb dX9_refersTo_28 rfl (lv_at hl 1 rfl) ?_
      refine lv_iconst (v := 2) hx hb dX9_refersTo_29 (by decide) ?_
      refine iaddN (a := ta) (b := 2) hx hb dX9_refersTo_30 ?_
      refine amN_0 (j := (ta + 2)) F N (by omega) dX9_refersTo_31 ?_
      refine lv_iload_n hx hb dX9_refersTo_32 rfl (lv_at hl 3 rfl) ?_
      refine lv_icmp_ne (tgt := 40) hx hb dX9_refersTo_33 (by decide) (fun c_33 => ?_) (fun c_33 => ?_)
      · refine lv_iconst (v := 0) hx hb dX9_refersTo_40 (by decide) ?_
        exact hret _ _ _ _ _ _ dX9_refersTo_41 (by simp only [mRf, bI, c_9, c_21, c_33, if_true, if_false, Bool.not_true, Bool.not_false, Bool.true_and, Bool.false_and, Bool.and_true, Bool.and_false, decide_true, decide_false, Bool.false_eq_true, eq_self, reduceCtorEq, i21]) (by rfl) N
      · refine lv_iconst (v := 1) hx hb dX9_refersTo_36 (by decide) ?_
        refine lv_goto (tgt := 41) hx hb dX9_refersTo_37 (by decide) ?_
        exact hret _ _ _ _ _ _ dX9_refersTo_41 (by simp only [mRf, bI, c_9, c_21, c_33, if_true, if_false, Bool.not_true, Bool.not_false, Bool.true_and, Bool.false_and, Bool.and_true, Bool.and_false, decide_true, decide_false, Bool.false_eq_true, eq_self, reduceCtorEq, i21]) (by rfl) N
set_option maxHeartbeats 4000000 in
set_option maxRecDepth 100000 in
theorem c_X9_users_bad (l : Launch) (G : GM) (ad : Nat → Nat) (ex : va_W) (st : ST) (c : Int32) (r : Int32) (hbad : xIsPl c r = false) : MMi l G yX9_users cX9_users 6 (some .int) 2 [.ref (ad 0), .int c, .int r] ad ex st (-2) (mBad st) := by
  refine xi_start (by decide) rfl (Nat.le_of_ble_eq_true rfl) ?_
  intro zp ze zs zm zargs zbelow zmeth zc zQ ls F N hl hret
  have hx := F.1
  have hb := F.2.1
  have hl : lv_has ls 6 [(0, .ref (ad 0)), (1, .int c), (2, .int r)] := hl
  refine lv_iload_n hx hb dX9_users_0 rfl (lv_at hl 1 rfl) ?_
  refine lv_iload_n hx hb dX9_users_1 rfl (lv_at hl 2 rfl) ?_
  refine cS_i F N (c_X9_isCell l G _ c r) miX9_isCell k_775 (by decide) hl.1 rfl (Nat.le_of_ble_eq_true rfl) dX9_users_2 (fun H locs N => ?_)
  refine toI (y := 0) (by rw [hbad]; rfl) ?_
  refine lv_if_ne (tgt := 13) hx hb dX9_users_5 (by decide) (fun c_5 => ?_) (fun c_5 => ?_)
  · first | exact absurd c_5 (by decide) | exact absurd (by decide) c_5
  refine lv_aload_n hx hb dX9_users_8 rfl (lv_at hl 0 rfl) ?_
  refine mV_i F N (c_X9_bad l G ad ex st ) miX9_bad k_763 (by decide) hl.1 rfl (Nat.le_of_ble_eq_true rfl) (q0 := 0) (ci := 8) rfl rfl dX9_users_9 (fun st_9 est_9 H locs N => ?_)
  exact hret _ _ _ _ _ _ dX9_users_12 (by first | rfl | (subst est_9; rfl) | (subst est_9; simp [bI])) (by first | rfl | (subst est_9; rfl) | (subst est_9; simp [bI])) N
set_option maxHeartbeats 4000000 in
set_option maxRecDepth 100000 in
theorem c_X9_users (l : Launch) (G : GM) (ad : Nat → Nat) (ex : va_W) (st : ST) (c : Nat) (r : Nat) (cn : Nat → Nat) (hc : c < 6) (hr : r < 6) (hcn : mCn (st.2.1 0) cn) : XCi l G yX9_users cX9_users 6 (some .int) 2 [.ref (ad 0), .int (nI c), .int (nI r)] (MW G ad st ++ ex) (nI (mUs (st.2.1 0) c r cn)) (MW G ad st ++ ex) := by
  refine xi_start (by decide) rfl (Nat.le_of_ble_eq_true rfl) ?_
  intro zp ze zs zm zargs zbelow zmeth zc zQ ls F N hl hret
  have hx := F.1
  have hb := F.2.1
  have hl : lv_has ls 6 [(0, .ref (ad 0)), (1, .int (nI c)), (2, .int (nI r))] := hl
  refine lv_iload_n hx hb dX9_users_0 rfl (lv_at hl 1 rfl) ?_
  refine lv_iload_n hx hb dX9_users_1 rfl (lv_at hl 2 rfl) ?_
  refine cS_i F N (c_X9_isCell l G _ (nI c) (nI r)) miX9_isCell k_775 (by decide) hl.1 rfl (Nat.le_of_ble_eq_true rfl) dX9_users_2 (fun H locs N => ?_)
  refine toI (y := 1) (by rw [xIsPl_nI hc hr]; rfl) ?_
  refine lv_if_ne (tgt := 13) hx hb dX9_users_5 (by decide) (fun c_5 => ?_) (fun c_5 => ?_)
  rotate_left
  · first | exact absurd (by decide) c_5 | exact absurd c_5 (by decide)
  refine lv_iconst (v := 0) hx hb dX9_users_13 (by decide) ?_
  refine lv_istore_n (lv' := [(3, .int 0), (0, .ref (ad 0)), (1, .int (nI c)), (2, .int (nI r))]) hx hb dX9_users_14 rfl hl (by decide) rfl (fun ls hl => ?_)
  refine lv_iconst (v := 0) hx hb dX9_users_15 (by decide) ?_
  refine lv_istore (lv' := [(4, .int 0), (3, .int 0), (0, .ref (ad 0)), (1, .int (nI c)), (2, .int (nI r))]) hx hb dX9_users_16 hl (by decide) rfl (fun ls hl => ?_)
  have cut_18 : ∀ (k : Nat) (n : Nat) (i : Nat), i + k = 36 → lp (fun k n => lp (mUsI (st.2.1 0) c r k) (cn k) 0 n) k i n = mUs (st.2.1 0) c r cn → ∀ (H : Heap) (locs : List Loc) (ls : Array Slot), Now G zs (MW G ad st ++ ex) H locs → lv_has ls 6 [(0, .ref (ad 0)), (1, .int (nI c)), (2, .int (nI r)), (3, .int (nI n)), (4, .int (nI i))] → W zp l ze (RM 2) zs zm zargs zbelow zmeth zc H locs 0 0 zQ (F0 zm 18 ls []) := by
    intro k
    induction k with
    | zero =>
      intro n i hk hI H locs ls N hl
      refine lv_iload hx hb dX9_users_18 (lv_at hl 4 rfl) ?_
      refine lv_bipush (v := 36) hx hb dX9_users_20 (by decide) ?_
      refine cmpN_ge (a := i) (b := 36) (tgt := 82) hx hb dX9_users_22 (by decide) (by omega) (by omega) (fun c_22 => ?_) (fun c_22 => ?_)
      · have c_22v := Nat.not_lt.mpr c_22
        refine lv_iload_n hx hb dX9_users_82 rfl (lv_at hl 3 rfl) ?_
        exact hret _ _ _ _ _ _ dX9_users_83 (by rw [← hI]; rfl) (by rfl) N
      · exfalso; omega
    | succ k ih_18 =>
      intro n i hk hI H locs ls N hl
      refine lv_iload hx hb dX9_users_18 (lv_at hl 4 rfl) ?_
      refine lv_bipush (v := 36) hx hb dX9_users_20 (by decide) ?_
      refine cmpN_ge (a := i) (b := 36) (tgt := 82) hx hb dX9_users_22 (by decide) (by omega) (by omega) (fun c_22 => ?_) (fun c_22 => ?_)
      · exfalso; omega
      · have c_22v := Nat.not_le.mp c_22
        refine lv_iconst (v := 0) hx hb dX9_users_25 (by decide) ?_
        refine lv_istore (lv' := [(5, .int 0), (0, .ref (ad 0)), (1, .int (nI c)), (2, .int (nI r)), (3, .int (nI n)), (4, .int (nI i))]) hx hb dX9_users_26 hl (by decide) rfl (fun ls hl => ?_)
        have cut_28 : ∀ (k2 : Nat) (n2 : Nat) (j : Nat), j + k2 = cn i → lp (mUsI (st.2.1 0) c r i) k2 j n2 = lp (mUsI (st.2.1 0) c r i) (cn i) 0 n → ∀ (H : Heap) (locs : List Loc) (ls : Array Slot), Now G zs (MW G ad st ++ ex) H locs → lv_has ls 6 [(0, .ref (ad 0)), (1, .int (nI c)), (2, .int (nI r)), (3, .int (nI n2)), (4, .int (nI i)), (5, .int (nI j))] → W zp l ze (RM 2) zs zm zargs zbelow zmeth zc H locs 0 0 zQ (F0 zm 28 ls []) := by
          intro k2
          induction k2 with
          | zero =>
            intro n2 j hk2 hJ H locs ls N hl
            have hci := (hcn i (by omega)).2
            refine lv_iload hx hb dX9_users_28 (lv_at hl 5 rfl) ?_
            refine lv_aload_n hx hb dX9_users_30 rfl (lv_at hl 0 rfl) ?_
            refine gm_0_now F N k_682 dX9_users_31 ?_
            refine lv_bipush (v := 25) hx hb dX9_users_34 (by decide) ?_
            refine lv_iload hx hb dX9_users_36 (lv_at hl 4 rfl) ?_
            refine imulN (a := 25) (b := i) hx hb dX9_users_38 ?_
            refine amN_0 (j := (25 * i)) F N (by omega) dX9_users_39 ?_
            refine toN (a := cn i) (hcn i (by omega)).1 ?_
            refine cmpN_ge (a := j) (b := (cn i)) (tgt := 76) hx hb dX9_users_40 (by decide) (by omega) (by omega) (fun c_40 => ?_) (fun c_40 => ?_)
            · have c_40v := Nat.not_lt.mpr c_40
              refine lv_iinc (v := (nI (i + 1))) (lv' := [(4, .int (nI (i + 1))), (0, .ref (ad 0)), (1, .int (nI c)), (2, .int (nI r)), (3, .int (nI n2)), (5, .int (nI j))]) hx hb dX9_users_76 hl (k := 4) rfl (nI_1 i) (by decide) rfl (fun ls hl => ?_)
              refine lv_goto (tgt := 18) hx hb dX9_users_79 (by decide) ?_
              exact ih_18 n2 (i + 1) (by omega) (by rw [← hI, lp_s]; exact congrArg _ hJ) _ _ _ N (lv_sub hl [1, 2, 3, 4, 0] rfl)
            · exfalso; omega
          | succ k2 ih_28 =>
            intro n2 j hk2 hJ H locs ls N hl
            have hci := (hcn i (by omega)).2
            refine lv_iload hx hb dX9_users_28 (lv_at hl 5 rfl) ?_
            refine lv_aload_n hx hb dX9_users_30 rfl (lv_at hl 0 rfl) ?_
            refine gm_0_now F N k_682 dX9_users_31 ?_
            refine lv_bipush (v := 25) hx hb dX9_users_34 (by decide) ?_
            refine lv_iload hx hb dX9_users_36 (lv_at hl 4 rfl) ?_
            refine imulN (a := 25) (b := i) hx hb dX9_users_38 ?_
            refine amN_0 (j := (25 * i)) F N (by omega) dX9_users_39 ?_
            refine toN (a := cn i) (hcn i (by omega)).1 ?_
            refine cmpN_ge (a := j) (b := (cn i)) (tgt := 76) hx hb dX9_users_40 (by decide) (by omega) (by omega) (fun c_40 => ?_) (fun c_40 => ?_)
            · exfalso; omega
            · have c_40v := Nat.not_le.mp c_40
              refine lv_iload_n hx hb dX9_users_43 rfl (lv_at hl 3 rfl) ?_
              refine lv_aload_n hx hb dX9_users_44 rfl (lv_at hl 0 rfl) ?_
              refine lv_bipush (v := 25) hx hb dX9_users_45 (by decide) ?_
              refine lv_iload hx hb dX9_users_47 (lv_at hl 4 rfl) ?_
              refine imulN (a := 25) (b := i) hx hb dX9_users_49 ?_
              refine lv_iload hx hb dX9_users_50 (lv_at hl 5 rfl) ?_
              refine cS_i F N (c_X9_termPlace l G _ (25 * i) j) miX9_termPlace k_858 (by decide) hl.1 rfl (Nat.le_of_ble_eq_true rfl) dX9_users_52 (fun H locs N => ?_)
              refine lv_iload_n hx hb dX9_users_55 rfl (lv_at hl 1 rfl) ?_
              refine lv_iload_n hx hb dX9_users_56 rfl (lv_at hl 2 rfl) ?_
              refine cV_i F N (c_X9_refersTo l G ad ex st ((25 * i) + 1 + 6 * j) c r (by omega)) miX9_refersTo k_985 (by decide) hl.1 rfl (Nat.le_of_ble_eq_true rfl) (q0 := 0) (ci := 8) rfl rfl dX9_users_57 (fun H locs N => ?_)
              refine ifB_eq (tgt := 67) hx hb dX9_users_60 (by decide) (fun c_60 => ?_) (fun c_60 => ?_)
              · refine lv_iconst (v := 0) hx hb dX9_users_67 (by decide) ?_
                refine iaddN (a := n2) (b := 0) hx hb dX9_users_68 ?_
                refine lv_istore_n (lv' := [(3, .int (nI (n2 + 0))), (0, .ref (ad 0)), (1, .int (nI c)), (2, .int (nI r)), (4, .int (nI i)), (5, .int (nI j))]) hx hb dX9_users_69 rfl hl (by decide) rfl (fun ls hl => ?_)
                refine lv_iinc (v := (nI (j + 1))) (lv' := [(5, .int (nI (j + 1))), (3, .int (nI (n2 + 0))), (0, .ref (ad 0)), (1, .int (nI c)), (2, .int (nI r)), (4, .int (nI i))]) hx hb dX9_users_70 hl (k := 5) rfl (nI_1 j) (by decide) rfl (fun ls hl => ?_)
                refine lv_goto (tgt := 28) hx hb dX9_users_73 (by decide) ?_
                exact ih_28 (n2 + 0) (j + 1) (by omega) (by rw [← hJ, lp_s]; exact congrArg _ (by simp [mUsI, c_40, c_40v, c_60])) _ _ _ N (lv_sub hl [2, 3, 4, 1, 5, 0] rfl)
              · refine lv_iconst (v := 1) hx hb dX9_users_63 (by decide) ?_
                refine lv_goto (tgt := 68) hx hb dX9_users_64 (by decide) ?_
                refine iaddN (a := n2) (b := 1) hx hb dX9_users_68 ?_
                refine lv_istore_n (lv' := [(3, .int (nI (n2 + 1))), (0, .ref (ad 0)), (1, .int (nI c)), (2, .int (nI r)), (4, .int (nI i)), (5, .int (nI j))]) hx hb dX9_users_69 rfl hl (by decide) rfl (fun ls hl => ?_)
                refine lv_iinc (v := (nI (j + 1))) (lv' := [(5, .int (nI (j + 1))), (3, .int (nI (n2 + 1))), (0, .ref (ad 0)), (1, .int (nI c)), (2, .int (nI r)), (4, .int (nI i))]) hx hb dX9_users_70 hl (k := 5) rfl (nI_1 j) (by decide) rfl (fun ls hl => ?_)
                refine lv_goto (tgt := 28) hx hb dX9_users_73 (by decide) ?_
                exact ih_28 (n2 + 1) (j + 1) (by omega) (by rw [← hJ, lp_s]; exact congrArg _ (by simp [mUsI, c_40, c_40v, c_60])) _ _ _ N (lv_sub hl [2, 3, 4, 1, 5, 0] rfl)
        exact cut_28 (cn i) n 0 (by omega) rfl _ _ _ N (lv_sub hl [1, 2, 3, 4, 5, 0] rfl)
  exact cut_18 36 0 0 (by omega) rfl _ _ _ N (lv_sub hl [2, 3, 4, 1, 0] rfl)
set_option maxHeartbeats 4000000 in
set_option maxRecDepth 100000 in
theorem c_X9_toldOf (l : Launch) (G : GM) (ad : Nat → Nat) (ex : va_W) (st : ST) (what : Nat) (hw : what < 5) : XCi l G yX9_toldOf cX9_toldOf 2 (some .int) 0 [.ref (ad 0), .int (nI what)] (MW G ad st ++ ex) (mTold st what) (MW G ad st ++ ex) := by
  refine xi_start (by decide) rfl (Nat.le_of_ble_eq_true rfl) ?_
  intro zp ze zs zm zargs zbelow zmeth zc zQ ls F N hl hret
  have hx := F.1
  have hb := F.2.1
  have hl : lv_has ls 2 [(0, .ref (ad 0)), (1, .int (nI what))] := hl
  refine lv_iload_n hx hb dX9_toldOf_0 rfl (lv_at hl 1 rfl) ?_
  refine lv_iconst (v := 3) hx hb dX9_toldOf_1 (by decide) ?_
  refine cmpN_ge (a := what) (b := 3) (tgt := 14) hx hb dX9_toldOf_2 (by decide) (by omega) (by omega) (fun c_2 => ?_) (fun c_2 => ?_)
  · have c_2v := Nat.not_lt.mpr c_2
    refine lv_iload_n hx hb dX9_toldOf_14 rfl (lv_at hl 1 rfl) ?_
    refine lv_iconst (v := 3) hx hb dX9_toldOf_15 (by decide) ?_
    refine cmpN_ne (a := what) (b := 3) (tgt := 26) hx hb dX9_toldOf_16 (by decide) (by omega) (by omega) (fun c_16 => ?_) (fun c_16 => ?_)
    · refine lv_aload_n hx hb dX9_toldOf_26 rfl (lv_at hl 0 rfl) ?_
      refine gm_0_states F N k_685 dX9_toldOf_27 ?_
      exact hret _ _ _ _ _ _ dX9_toldOf_30 (by simp [mTold, c_2, c_2v, c_16]) (by rfl) N
    · refine lv_aload_n hx hb dX9_toldOf_19 rfl (lv_at hl 0 rfl) ?_
      refine gm_0_bytes F N k_688 dX9_toldOf_20 ?_
      refine lv_goto (tgt := 30) hx hb dX9_toldOf_23 (by decide) ?_
      exact hret _ _ _ _ _ _ dX9_toldOf_30 (by simp [mTold, c_2, c_2v, c_16]) (by rfl) N
  · have c_2v := Nat.not_le.mp c_2
    refine lv_aload_n hx hb dX9_toldOf_5 rfl (lv_at hl 0 rfl) ?_
    refine gm_0_refused F N k_686 dX9_toldOf_6 ?_
    refine lv_iload_n hx hb dX9_toldOf_9 rfl (lv_at hl 1 rfl) ?_
    refine amN_3 (j := what) F N (by omega) dX9_toldOf_10 ?_
    refine lv_goto (tgt := 30) hx hb dX9_toldOf_11 (by decide) ?_
    exact hret _ _ _ _ _ _ dX9_toldOf_30 (by simp [mTold, c_2, c_2v]) (by rfl) N
set_option maxHeartbeats 4000000 in
set_option maxRecDepth 100000 in
theorem c_X9_told_bad (l : Launch) (G : GM) (ad : Nat → Nat) (ex : va_W) (st : ST) (what : Int32) (hbad : xIsW what 0 4 = false) : MMi l G yX9_told cX9_told 2 (some .int) 1 [.ref (ad 0), .int what] ad ex st (-2) (mBad st) := by
  refine xi_start (by decide) rfl (Nat.le_of_ble_eq_true rfl) ?_
  intro zp ze zs zm zargs zbelow zmeth zc zQ ls F N hl hret
  have hx := F.1
  have hb := F.2.1
  have hl : lv_has ls 2 [(0, .ref (ad 0)), (1, .int what)] := hl
  refine lv_iload_n hx hb dX9_told_0 rfl (lv_at hl 1 rfl) ?_
  refine lv_iconst (v := 0) hx hb dX9_told_1 (by decide) ?_
  refine lv_iconst (v := 4) hx hb dX9_told_2 (by decide) ?_
  refine cS_i F N (c_X9_in l G _ what 0 4) miX9_in k_760 (by decide) hl.1 rfl (Nat.le_of_ble_eq_true rfl) dX9_told_3 (fun H locs N => ?_)
  refine toI (y := 0) (by rw [hbad]; rfl) ?_
  refine lv_if_eq (tgt := 17) hx hb dX9_told_6 (by decide) (fun c_6 => ?_) (fun c_6 => ?_)
  rotate_left
  · first | exact absurd (by decide) c_6 | exact absurd c_6 (by decide)
  refine lv_aload_n hx hb dX9_told_17 rfl (lv_at hl 0 rfl) ?_
  refine mV_i F N (c_X9_bad l G ad ex st ) miX9_bad k_763 (by decide) hl.1 rfl (Nat.le_of_ble_eq_true rfl) (q0 := 0) (ci := 8) rfl rfl dX9_told_18 (fun st_18 est_18 H locs N => ?_)
  exact hret _ _ _ _ _ _ dX9_told_21 (by first | rfl | (subst est_18; rfl) | (subst est_18; simp [bI])) (by first | rfl | (subst est_18; rfl) | (subst est_18; simp [bI])) N
set_option maxHeartbeats 4000000 in
set_option maxRecDepth 100000 in
theorem c_X9_told (l : Launch) (G : GM) (ad : Nat → Nat) (ex : va_W) (st : ST) (what : Nat) (hw : what < 5) : XCi l G yX9_told cX9_told 2 (some .int) 1 [.ref (ad 0), .int (nI what)] (MW G ad st ++ ex) (mTold st what) (MW G ad st ++ ex) := by
  refine xi_start (by decide) rfl (Nat.le_of_ble_eq_true rfl) ?_
  intro zp ze zs zm zargs zbelow zmeth zc zQ ls F N hl hret
  have hx := F.1
  have hb := F.2.1
  have hl : lv_has ls 2 [(0, .ref (ad 0)), (1, .int (nI what))] := hl
  refine lv_iload_n hx hb dX9_told_0 rfl (lv_at hl 1 rfl) ?_
  refine lv_iconst (v := 0) hx hb dX9_told_1 (by decide) ?_
  refine lv_iconst (v := 4) hx hb dX9_told_2 (by decide) ?_
  refine cS_i F N (c_X9_in l G _ (nI what) 0 4) miX9_in k_760 (by decide) hl.1 rfl (Nat.le_of_ble_eq_true rfl) dX9_told_3 (fun H locs N => ?_)
  refine toI (y := 1) (by rw [show xIsW (nI what) 0 4 = true from xIsW_nI (a := 0) (b := 4) (by omega) (by omega) (by decide)]; rfl) ?_
  refine lv_if_eq (tgt := 17) hx hb dX9_told_6 (by decide) (fun c_6 => ?_) (fun c_6 => ?_)
  · first | exact absurd c_6 (by decide) | exact absurd (by decide) c_6
  refine lv_aload_n hx hb dX9_told_9 rfl (lv_at hl 0 rfl) ?_
  refine lv_iload_n hx hb dX9_told_10 rfl (lv_at hl 1 rfl) ?_
  refine cV_i F N (c_X9_toldOf l G ad ex st what (by omega)) miX9_toldOf k_1001 (by decide) hl.1 rfl (Nat.le_of_ble_eq_true rfl) (q0 := 0) (ci := 8) rfl rfl dX9_told_11 (fun H locs N => ?_)
  refine lv_goto (tgt := 21) hx hb dX9_told_14 (by decide) ?_
  exact hret _ _ _ _ _ _ dX9_told_21 (by first | rfl | (simp [bI])) (by first | rfl | (simp [bI])) N
set_option maxHeartbeats 4000000 in
set_option maxRecDepth 100000 in
theorem c_X9_mix (l : Launch) (G : GM) (ad : Nat → Nat) (ex : va_W) (st : ST) (v : Int64) : MMv l G yX9_mix cX9_mix 3 none 0 [.ref (ad 0), .long v] ad ex st (sL st (31 * st.2.2 + v)) := by
  refine xv_start (by decide) (Nat.le_of_ble_eq_true rfl) ?_
  intro zp ze zs zm zargs zbelow zmeth zc zQ ls F N hl hret
  have hx := F.1
  have hb := F.2.1
  have hl : lv_has ls 3 [(0, .ref (ad 0)), (1, .long v)] := hl
  refine lv_aload_n hx hb dX9_mix_0 rfl (lv_at hl 0 rfl) ?_
  refine lv_ldc2 (v := 31) hx hb F.2.2.2.1 (F.2.2.2.2.1 _ k_1014) dX9_mix_1 ?_
  refine lv_aload_n hx hb dX9_mix_4 rfl (lv_at hl 0 rfl) ?_
  refine gm_0_hash F N k_704 dX9_mix_5 ?_
  refine lv_lmul hx hb dX9_mix_8 ?_
  refine lv_lload_n hx hb dX9_mix_9 rfl (lv_at hl 1 rfl) ?_
  refine lv_ladd hx hb dX9_mix_10 ?_
  refine pm_0_hash F N k_704 dX9_mix_11 (fun st_11 est_11 H locs N => ?_)
  exact hret _ _ _ _ _ dX9_mix_14 (by first | rfl | (subst est_11; rfl) | (subst est_11; simp [bI])) N
set_option maxHeartbeats 4000000 in
set_option maxRecDepth 100000 in
theorem c_X9_writes (l : Launch) (G : GM) (ad : Nat → Nat) (ex : va_W) (st : ST) (v : Int32) (x : PG) (hQ : st.1 4 = nI x.1) (hg : st.2.1 6 = x.2) (hQ2 : x.1 < 60) : MMv l G yX9_writes cX9_writes 2 none 0 [.ref (ad 0), .int v] ad ex st (sQ st (mw x v)) := by
  refine xv_start (by decide) (Nat.le_of_ble_eq_true rfl) ?_
  intro zp ze zs zm zargs zbelow zmeth zc zQ ls F N hl hret
  have hx := F.1
  have hb := F.2.1
  have hl : lv_has ls 2 [(0, .ref (ad 0)), (1, .int v)] := hl
  refine lv_aload_n hx hb dX9_writes_0 rfl (lv_at hl 0 rfl) ?_
  refine gm_0_written F N k_692 dX9_writes_1 ?_
  refine lv_aload_n hx hb dX9_writes_4 rfl (lv_at hl 0 rfl) ?_
  refine gm_0_length F N k_693 dX9_writes_5 ?_
  refine toN (a := x.1) hQ ?_
  refine lv_iload_n hx hb dX9_writes_8 rfl (lv_at hl 1 rfl) ?_
  refine smN_6 (j := x.1) F N (by omega) dX9_writes_9 (fun st_9 est_9 H locs N => ?_)
  refine lv_aload_n hx hb dX9_writes_10 rfl (lv_at hl 0 rfl) ?_
  refine lv_dup hx hb dX9_writes_11 rfl ?_
  refine gm_0_length F N k_693 dX9_writes_12 ?_
  refine toN (a := x.1) (by simp [est_9, sA_1, hQ]) ?_
  refine lv_iconst (v := 1) hx hb dX9_writes_15 (by decide) ?_
  refine iaddN (a := x.1) (b := 1) hx hb dX9_writes_16 ?_
  refine pm_0_length F N k_693 dX9_writes_17 (fun st_17 est_17 H locs N => ?_)
  exact hret _ _ _ _ _ dX9_writes_20 (by rw [est_17, est_9, hg]; rfl) N
set_option maxHeartbeats 4000000 in
set_option maxRecDepth 100000 in
theorem c_X9_writesPlace (l : Launch) (G : GM) (ad : Nat → Nat) (ex : va_W) (st : ST) (col : Int32) (row : Int32) (fx : Int32) (x : PG) (hQ : st.1 4 = nI x.1) (hg : st.2.1 6 = x.2) (hQ2 : x.1 + 4 ≤ 60) : MMv l G yX9_writesPlace cX9_writesPlace 4 none 1 [.ref (ad 0), .int col, .int row, .int fx] ad ex st (sQ st (mwPl col row fx x)) := by
  refine xv_start (by decide) (Nat.le_of_ble_eq_true rfl) ?_
  intro zp ze zs zm zargs zbelow zmeth zc zQ ls F N hl hret
  have hx := F.1
  have hb := F.2.1
  have hl : lv_has ls 4 [(0, .ref (ad 0)), (1, .int col), (2, .int row), (3, .int fx)] := hl
  have h1 := mwP1_le fx x
  have h2 := mwP2_le col fx x
  have h3 := mwP3_le col fx x
  have cut_13 : ∀ (s1 : ST), s1 = sQ st (mwP1 fx x) → ∀ (H : Heap) (locs : List Loc) (ls : Array Slot), Now G zs (MW G ad s1 ++ ex) H locs → lv_has ls 4 [(0, .ref (ad 0)), (1, .int col), (2, .int row), (3, .int fx)] → W zp l ze (RM 1) zs zm zargs zbelow zmeth zc H locs 0 0 zQ (F0 zm 13 ls []) := by
    intro s1 hs H locs ls N hl
    refine lv_aload_n hx hb dX9_writesPlace_13 rfl (lv_at hl 0 rfl) ?_
    refine lv_bipush (v := 65) hx hb dX9_writesPlace_14 (by decide) ?_
    refine lv_iload_n hx hb dX9_writesPlace_16 rfl (lv_at hl 1 rfl) ?_
    refine lv_iadd hx hb dX9_writesPlace_17 ?_
    refine mV_v F N (c_X9_writes l G ad ex s1 ((65 : Int32) + col) (mwP1 fx x) (by simp [hs, sQ_1, hQ]) (by simp [hs, sQ_21, hg]) (by omega)) miX9_writes k_916 (by decide) hl.1 rfl (Nat.le_of_ble_eq_true rfl) (q0 := 0) (ci := 8) rfl rfl dX9_writesPlace_18 (fun st_18 est_18 H locs N => ?_)
    have cut_34 : ∀ (s2 : ST), s2 = sQ st (mwP3 col fx x) → ∀ (H : Heap) (locs : List Loc) (ls : Array Slot), Now G zs (MW G ad s2 ++ ex) H locs → lv_has ls 4 [(0, .ref (ad 0)), (1, .int col), (2, .int row), (3, .int fx)] → W zp l ze (RM 1) zs zm zargs zbelow zmeth zc H locs 0 0 zQ (F0 zm 34 ls []) := by
      intro s2 hs2 H locs ls N hl
      refine lv_aload_n hx hb dX9_writesPlace_34 rfl (lv_at hl 0 rfl) ?_
      refine lv_bipush (v := 49) hx hb dX9_writesPlace_35 (by decide) ?_
      refine lv_iload_n hx hb dX9_writesPlace_37 rfl (lv_at hl 2 rfl) ?_
      refine lv_iadd hx hb dX9_writesPlace_38 ?_
      refine mV_v F N (c_X9_writes l G ad ex s2 ((49 : Int32) + row) (mwP3 col fx x) (by simp [hs2, sQ_1, hQ]) (by simp [hs2, sQ_21, hg]) (by omega)) miX9_writes k_916 (by decide) hl.1 rfl (Nat.le_of_ble_eq_true rfl) (q0 := 0) (ci := 8) rfl rfl dX9_writesPlace_39 (fun st_39 est_39 H locs N => ?_)
      exact hret _ _ _ _ _ dX9_writesPlace_42 (by rw [est_39, hs2, sQ_sQ]; rfl) N
    refine lv_iload_n hx hb dX9_writesPlace_21 rfl (lv_at hl 3 rfl) ?_
    refine lv_iconst (v := 2) hx hb dX9_writesPlace_22 (by decide) ?_
    refine lv_iand hx hb dX9_writesPlace_23 ?_
    refine lv_iconst (v := 2) hx hb dX9_writesPlace_24 (by decide) ?_
    refine lv_icmp_ne (tgt := 34) hx hb dX9_writesPlace_25 (by decide) (fun c_25 => ?_) (fun c_25 => ?_)
    · exact cut_34 st_18 (by first | (rw [mwP3, if_neg c_25, est_18, hs, sQ_sQ, mwP2]; done) | (rw [mwP3, if_pos c_25, est_18, hs, sQ_sQ, sQ_sQ, mwP2]; done) | (rw [mwP3, if_pos c_25, est_18, hs, sQ_sQ, sQ_sQ]; rfl)) _ _ _ N (lv_sub hl [0, 1, 2, 3] rfl)
    · refine lv_aload_n hx hb dX9_writesPlace_28 rfl (lv_at hl 0 rfl) ?_
      refine lv_bipush (v := 36) hx hb dX9_writesPlace_29 (by decide) ?_
      refine mV_v F N (c_X9_writes l G ad ex st_18 36 (mwP2 col fx x) (by simp [est_18, hs, mwP2, sQ_1, hQ]) (by simp [est_18, hs, mwP2, sQ_21, hg]) (by omega)) miX9_writes k_916 (by decide) hl.1 rfl (Nat.le_of_ble_eq_true rfl) (q0 := 0) (ci := 8) rfl rfl dX9_writesPlace_31 (fun st_31 est_31 H locs N => ?_)
      exact cut_34 st_31 (by first | (rw [mwP3, if_neg c_25, est_31, est_18, hs, sQ_sQ, mwP2]; done) | (rw [mwP3, if_pos c_25, est_31, est_18, hs, sQ_sQ, sQ_sQ, mwP2]; done) | (rw [mwP3, if_pos c_25, est_31, est_18, hs, sQ_sQ, sQ_sQ]; rfl)) _ _ _ N (lv_sub hl [0, 1, 2, 3] rfl)
  refine lv_iload_n hx hb dX9_writesPlace_0 rfl (lv_at hl 3 rfl) ?_
  refine lv_iconst (v := 1) hx hb dX9_writesPlace_1 (by decide) ?_
  refine lv_iand hx hb dX9_writesPlace_2 ?_
  refine lv_iconst (v := 1) hx hb dX9_writesPlace_3 (by decide) ?_
  refine lv_icmp_ne (tgt := 13) hx hb dX9_writesPlace_4 (by decide) (fun c_4 => ?_) (fun c_4 => ?_)
  · exact cut_13 st (by first | (rw [mwP1, if_neg c_4]; exact (sQ_self hQ hg).symm) | (rw [mwP1, if_pos c_4]; exact est_10)) _ _ _ N (lv_sub hl [0, 1, 2, 3] rfl)
  · refine lv_aload_n hx hb dX9_writesPlace_7 rfl (lv_at hl 0 rfl) ?_
    refine lv_bipush (v := 36) hx hb dX9_writesPlace_8 (by decide) ?_
    refine mV_v F N (c_X9_writes l G ad ex st 36 x (by simp [sQ_1, hQ]) (by simp [sQ_21, hg]) (by omega)) miX9_writes k_916 (by decide) hl.1 rfl (Nat.le_of_ble_eq_true rfl) (q0 := 0) (ci := 8) rfl rfl dX9_writesPlace_10 (fun st_10 est_10 H locs N => ?_)
    exact cut_13 st_10 (by first | (rw [mwP1, if_neg c_4]; exact (sQ_self hQ hg).symm) | (rw [mwP1, if_pos c_4]; exact est_10)) _ _ _ N (lv_sub hl [0, 1, 2, 3] rfl)
set_option maxHeartbeats 4000000 in
set_option maxRecDepth 100000 in
theorem c_X9_writesNumber (l : Launch) (G : GM) (ad : Nat → Nat) (ex : va_W) (st : ST) (v : Int32) (x : PG) (hQ : st.1 4 = nI x.1) (hg : st.2.1 6 = x.2) (hQ2 : x.1 + 3 ≤ 60) : MMv l G yX9_writesNumber cX9_writesNumber 2 none 1 [.ref (ad 0), .int v] ad ex st (sQ st (mwNum v x)) := by
  refine xv_start (by decide) (Nat.le_of_ble_eq_true rfl) ?_
  intro zp ze zs zm zargs zbelow zmeth zc zQ ls F N hl hret
  have hx := F.1
  have hb := F.2.1
  have hl : lv_has ls 2 [(0, .ref (ad 0)), (1, .int v)] := hl
  have h1 := mwN1_le v x
  have h2 := mwN2_le v x
  have cut_17 : ∀ (s1 : ST), s1 = sQ st (mwN1 v x) → ∀ (H : Heap) (locs : List Loc) (ls : Array Slot), Now G zs (MW G ad s1 ++ ex) H locs → lv_has ls 2 [(0, .ref (ad 0)), (1, .int v)] → W zp l ze (RM 1) zs zm zargs zbelow zmeth zc H locs 0 0 zQ (F0 zm 17 ls []) := by
    intro s1 hs H locs ls N hl
    have cut_37 : ∀ (s2 : ST), s2 = sQ st (mwN2 v x) → ∀ (H : Heap) (locs : List Loc) (ls : Array Slot), Now G zs (MW G ad s2 ++ ex) H locs → lv_has ls 2 [(0, .ref (ad 0)), (1, .int v)] → W zp l ze (RM 1) zs zm zargs zbelow zmeth zc H locs 0 0 zQ (F0 zm 37 ls []) := by
      intro s2 hs2 H locs ls N hl
      refine lv_aload_n hx hb dX9_writesNumber_37 rfl (lv_at hl 0 rfl) ?_
      refine lv_bipush (v := 48) hx hb dX9_writesNumber_38 (by decide) ?_
      refine lv_iload_n hx hb dX9_writesNumber_40 rfl (lv_at hl 1 rfl) ?_
      refine lv_bipush (v := 10) hx hb dX9_writesNumber_41 (by decide) ?_
      refine lv_irem hx hb dX9_writesNumber_43 (by decide) ?_
      refine lv_iadd hx hb dX9_writesNumber_44 ?_
      refine mV_v F N (c_X9_writes l G ad ex s2 ((48 : Int32) + (v - v / (10 : Int32) * (10 : Int32))) (mwN2 v x) (by simp [hs2, sQ_1, hQ]) (by simp [hs2, sQ_21, hg]) (by omega)) miX9_writes k_916 (by decide) hl.1 rfl (Nat.le_of_ble_eq_true rfl) (q0 := 0) (ci := 8) rfl rfl dX9_writesNumber_45 (fun st_45 est_45 H locs N => ?_)
      exact hret _ _ _ _ _ dX9_writesNumber_48 (by rw [est_45, hs2, sQ_sQ]; rfl) N
    refine lv_iload_n hx hb dX9_writesNumber_17 rfl (lv_at hl 1 rfl) ?_
    refine lv_bipush (v := 9) hx hb dX9_writesNumber_18 (by decide) ?_
    refine lv_icmp_le (tgt := 37) hx hb dX9_writesNumber_20 (by decide) (fun c_20 => ?_) (fun c_20 => ?_)
    · have c_20v := le_nlt c_20
      exact cut_37 s1 (by first | (rw [mwN2, if_pos c_20, hs]) | (rw [mwN2, if_neg c_20, hs, sQ_sQ])) _ _ _ N (lv_sub hl [0, 1] rfl)
    · have c_20v := nle_lt c_20
      refine lv_aload_n hx hb dX9_writesNumber_23 rfl (lv_at hl 0 rfl) ?_
      refine lv_bipush (v := 48) hx hb dX9_writesNumber_24 (by decide) ?_
      refine lv_iload_n hx hb dX9_writesNumber_26 rfl (lv_at hl 1 rfl) ?_
      refine lv_bipush (v := 10) hx hb dX9_writesNumber_27 (by decide) ?_
      refine lv_idiv hx hb dX9_writesNumber_29 (by decide) ?_
      refine lv_bipush (v := 10) hx hb dX9_writesNumber_30 (by decide) ?_
      refine lv_irem hx hb dX9_writesNumber_32 (by decide) ?_
      refine lv_iadd hx hb dX9_writesNumber_33 ?_
      refine mV_v F N (c_X9_writes l G ad ex s1 ((48 : Int32) + ((v / (10 : Int32)) - (v / (10 : Int32)) / (10 : Int32) * (10 : Int32))) (mwN1 v x) (by simp [hs, sQ_1, hQ]) (by simp [hs, sQ_21, hg]) (by omega)) miX9_writes k_916 (by decide) hl.1 rfl (Nat.le_of_ble_eq_true rfl) (q0 := 0) (ci := 8) rfl rfl dX9_writesNumber_34 (fun st_34 est_34 H locs N => ?_)
      exact cut_37 st_34 (by first | (rw [mwN2, if_pos c_20, hs]) | (rw [mwN2, if_neg c_20, est_34, hs, sQ_sQ])) _ _ _ N (lv_sub hl [0, 1] rfl)
  refine lv_iload_n hx hb dX9_writesNumber_0 rfl (lv_at hl 1 rfl) ?_
  refine lv_bipush (v := 99) hx hb dX9_writesNumber_1 (by decide) ?_
  refine lv_icmp_le (tgt := 17) hx hb dX9_writesNumber_3 (by decide) (fun c_3 => ?_) (fun c_3 => ?_)
  · have c_3v := le_nlt c_3
    have cut_37 : ∀ (s2 : ST), s2 = sQ st (mwN2 v x) → ∀ (H : Heap) (locs : List Loc) (ls : Array Slot), Now G zs (MW G ad s2 ++ ex) H locs → lv_has ls 2 [(0, .ref (ad 0)), (1, .int v)] → W zp l ze (RM 1) zs zm zargs zbelow zmeth zc H locs 0 0 zQ (F0 zm 37 ls []) := by
      intro s2 hs2 H locs ls N hl
      refine lv_aload_n hx hb dX9_writesNumber_37 rfl (lv_at hl 0 rfl) ?_
      refine lv_bipush (v := 48) hx hb dX9_writesNumber_38 (by decide) ?_
      refine lv_iload_n hx hb dX9_writesNumber_40 rfl (lv_at hl 1 rfl) ?_
      refine lv_bipush (v := 10) hx hb dX9_writesNumber_41 (by decide) ?_
      refine lv_irem hx hb dX9_writesNumber_43 (by decide) ?_
      refine lv_iadd hx hb dX9_writesNumber_44 ?_
      refine mV_v F N (c_X9_writes l G ad ex s2 ((48 : Int32) + (v - v / (10 : Int32) * (10 : Int32))) (mwN2 v x) (by simp [hs2, sQ_1, hQ]) (by simp [hs2, sQ_21, hg]) (by omega)) miX9_writes k_916 (by decide) hl.1 rfl (Nat.le_of_ble_eq_true rfl) (q0 := 0) (ci := 8) rfl rfl dX9_writesNumber_45 (fun st_45 est_45 H locs N => ?_)
      exact hret _ _ _ _ _ dX9_writesNumber_48 (by rw [est_45, hs2, sQ_sQ]; rfl) N
    exact cut_17 st (by first | (rw [mwN1, if_pos c_3]; exact (sQ_self hQ hg).symm) | (rw [mwN1, if_neg c_3]; exact est_14)) _ _ _ N (lv_sub hl [0, 1] rfl)
  · have c_3v := nle_lt c_3
    refine lv_aload_n hx hb dX9_writesNumber_6 rfl (lv_at hl 0 rfl) ?_
    refine lv_bipush (v := 48) hx hb dX9_writesNumber_7 (by decide) ?_
    refine lv_iload_n hx hb dX9_writesNumber_9 rfl (lv_at hl 1 rfl) ?_
    refine lv_bipush (v := 100) hx hb dX9_writesNumber_10 (by decide) ?_
    refine lv_idiv hx hb dX9_writesNumber_12 (by decide) ?_
    refine lv_iadd hx hb dX9_writesNumber_13 ?_
    refine mV_v F N (c_X9_writes l G ad ex st ((48 : Int32) + (v / (100 : Int32))) x (by simp [sQ_1, hQ]) (by simp [sQ_21, hg]) (by omega)) miX9_writes k_916 (by decide) hl.1 rfl (Nat.le_of_ble_eq_true rfl) (q0 := 0) (ci := 8) rfl rfl dX9_writesNumber_14 (fun st_14 est_14 H locs N => ?_)
    have cut_37 : ∀ (s2 : ST), s2 = sQ st (mwN2 v x) → ∀ (H : Heap) (locs : List Loc) (ls : Array Slot), Now G zs (MW G ad s2 ++ ex) H locs → lv_has ls 2 [(0, .ref (ad 0)), (1, .int v)] → W zp l ze (RM 1) zs zm zargs zbelow zmeth zc H locs 0 0 zQ (F0 zm 37 ls []) := by
      intro s2 hs2 H locs ls N hl
      refine lv_aload_n hx hb dX9_writesNumber_37 rfl (lv_at hl 0 rfl) ?_
      refine lv_bipush (v := 48) hx hb dX9_writesNumber_38 (by decide) ?_
      refine lv_iload_n hx hb dX9_writesNumber_40 rfl (lv_at hl 1 rfl) ?_
      refine lv_bipush (v := 10) hx hb dX9_writesNumber_41 (by decide) ?_
      refine lv_irem hx hb dX9_writesNumber_43 (by decide) ?_
      refine lv_iadd hx hb dX9_writesNumber_44 ?_
      refine mV_v F N (c_X9_writes l G ad ex s2 ((48 : Int32) + (v - v / (10 : Int32) * (10 : Int32))) (mwN2 v x) (by simp [hs2, sQ_1, hQ]) (by simp [hs2, sQ_21, hg]) (by omega)) miX9_writes k_916 (by decide) hl.1 rfl (Nat.le_of_ble_eq_true rfl) (q0 := 0) (ci := 8) rfl rfl dX9_writesNumber_45 (fun st_45 est_45 H locs N => ?_)
      exact hret _ _ _ _ _ dX9_writesNumber_48 (by rw [est_45, hs2, sQ_sQ]; rfl) N
    exact cut_17 st_14 (by first | (rw [mwN1, if_pos c_3]; exact (sQ_self hQ hg).symm) | (rw [mwN1, if_neg c_3]; exact est_14)) _ _ _ N (lv_sub hl [0, 1] rfl)
set_option maxHeartbeats 4000000 in
set_option maxRecDepth 100000 in
theorem c_X9_writesTerm (l : Launch) (G : GM) (ad : Nat → Nat) (ex : va_W) (st : ST) (ta : Nat) (x : PG) (hQ : st.1 4 = nI x.1) (hg : st.2.1 6 = x.2) (hta : ta + 6 ≤ 900) (hQ2 : x.1 + 9 ≤ 60) : MMv l G yX9_writesTerm cX9_writesTerm 2 none 2 [.ref (ad 0), .int (nI ta)] ad ex st (sQ st (mwT (st.2.1 0) ta x)) := by
  refine xv_start (by decide) (Nat.le_of_ble_eq_true rfl) ?_
  intro zp ze zs zm zargs zbelow zmeth zc zQ ls F N hl hret
  have hx := F.1
  have hb := F.2.1
  have hl : lv_has ls 2 [(0, .ref (ad 0)), (1, .int (nI ta))] := hl
  have h1 := mwPl_le (st.2.1 0 (ta + 1)) (st.2.1 0 (ta + 2)) (st.2.1 0 (ta + 5)) x
  refine lv_aload_n hx hb dX9_writesTerm_0 rfl (lv_at hl 0 rfl) ?_
  refine gm_0_now F N k_682 dX9_writesTerm_1 ?_
  refine lv_iload_n hx hb dX9_writesTerm_4 rfl (lv_at hl 1 rfl) ?_
  refine lv_iconst (v := 0) hx hb dX9_writesTerm_5 (by decide) ?_
  refine iaddN (a := ta) (b := 0) hx hb dX9_writesTerm_6 ?_
  refine amN_0 (j := (ta + 0)) F N (by omega) dX9_writesTerm_7 ?_
  by_cases c_8_0 : (st.2.1 0 (ta + 0)) = 0
  · refine lv_tableIn (off := 28) (tgt := 36) hx hb dX9_writesTerm_8 (by rw [c_8_0]; decide) (by rw [c_8_0]; decide) (by rw [c_8_0]; decide) (by decide) ?_
    refine lv_aload_n hx hb dX9_writesTerm_36 rfl (lv_at hl 0 rfl) ?_
    refine lv_aload_n hx hb dX9_writesTerm_37 rfl (lv_at hl 0 rfl) ?_
    refine gm_0_now F N k_682 dX9_writesTerm_38 ?_
    refine lv_iload_n hx hb dX9_writesTerm_41 rfl (lv_at hl 1 rfl) ?_
    refine lv_iconst (v := 1) hx hb dX9_writesTerm_42 (by decide) ?_
    refine iaddN (a := ta) (b := 1) hx hb dX9_writesTerm_43 ?_
    refine amN_0 (j := (ta + 1)) F N (by omega) dX9_writesTerm_44 ?_
    refine mV_v F N (c_X9_writesNumber l G ad ex st (st.2.1 0 (ta + 1)) x (by simp [sQ_1, hQ]) (by simp [sQ_21, hg]) (by omega)) miX9_writesNumber k_924 (by decide) hl.1 rfl (Nat.le_of_ble_eq_true rfl) (q0 := 0) (ci := 8) rfl rfl dX9_writesTerm_45 (fun st_45 est_45 H locs N => ?_)
    refine lv_goto (tgt := 155) hx hb dX9_writesTerm_48 (by decide) ?_
    exact hret _ _ _ _ _ dX9_writesTerm_155 (by rw [est_45]; unfold mwT; first | rw [if_pos c_8_0] | rw [if_neg c_8_0, if_pos c_8_1] | rw [if_neg c_8_0, if_neg c_8_1, if_pos c_8_2, sQ_sQ, sQ_sQ] | rw [if_neg c_8_0, if_neg c_8_1, if_neg c_8_2]) N
  by_cases c_8_1 : (st.2.1 0 (ta + 0)) = 1
  · refine lv_tableIn (off := 43) (tgt := 51) hx hb dX9_writesTerm_8 (by rw [c_8_1]; decide) (by rw [c_8_1]; decide) (by rw [c_8_1]; decide) (by decide) ?_
    refine lv_aload_n hx hb dX9_writesTerm_51 rfl (lv_at hl 0 rfl) ?_
    refine lv_aload_n hx hb dX9_writesTerm_52 rfl (lv_at hl 0 rfl) ?_
    refine gm_0_now F N k_682 dX9_writesTerm_53 ?_
    refine lv_iload_n hx hb dX9_writesTerm_56 rfl (lv_at hl 1 rfl) ?_
    refine lv_iconst (v := 1) hx hb dX9_writesTerm_57 (by decide) ?_
    refine iaddN (a := ta) (b := 1) hx hb dX9_writesTerm_58 ?_
    refine amN_0 (j := (ta + 1)) F N (by omega) dX9_writesTerm_59 ?_
    refine lv_aload_n hx hb dX9_writesTerm_60 rfl (lv_at hl 0 rfl) ?_
    refine gm_0_now F N k_682 dX9_writesTerm_61 ?_
    refine lv_iload_n hx hb dX9_writesTerm_64 rfl (lv_at hl 1 rfl) ?_
    refine lv_iconst (v := 2) hx hb dX9_writesTerm_65 (by decide) ?_
    refine iaddN (a := ta) (b := 2) hx hb dX9_writesTerm_66 ?_
    refine amN_0 (j := (ta + 2)) F N (by omega) dX9_writesTerm_67 ?_
    refine lv_aload_n hx hb dX9_writesTerm_68 rfl (lv_at hl 0 rfl) ?_
    refine gm_0_now F N k_682 dX9_writesTerm_69 ?_
    refine lv_iload_n hx hb dX9_writesTerm_72 rfl (lv_at hl 1 rfl) ?_
    refine lv_iconst (v := 5) hx hb dX9_writesTerm_73 (by decide) ?_
    refine iaddN (a := ta) (b := 5) hx hb dX9_writesTerm_74 ?_
    refine amN_0 (j := (ta + 5)) F N (by omega) dX9_writesTerm_75 ?_
    refine mV_v F N (c_X9_writesPlace l G ad ex st (st.2.1 0 (ta + 1)) (st.2.1 0 (ta + 2)) (st.2.1 0 (ta + 5)) x (by simp [sQ_1, hQ]) (by simp [sQ_21, hg]) (by omega)) miX9_writesPlace k_928 (by decide) hl.1 rfl (Nat.le_of_ble_eq_true rfl) (q0 := 0) (ci := 8) rfl rfl dX9_writesTerm_76 (fun st_76 est_76 H locs N => ?_)
    refine lv_goto (tgt := 155) hx hb dX9_writesTerm_79 (by decide) ?_
    exact hret _ _ _ _ _ dX9_writesTerm_155 (by rw [est_76]; unfold mwT; first | rw [if_pos c_8_0] | rw [if_neg c_8_0, if_pos c_8_1] | rw [if_neg c_8_0, if_neg c_8_1, if_pos c_8_2, sQ_sQ, sQ_sQ] | rw [if_neg c_8_0, if_neg c_8_1, if_neg c_8_2]) N
  by_cases c_8_2 : (st.2.1 0 (ta + 0)) = 2
  · refine lv_tableIn (off := 74) (tgt := 82) hx hb dX9_writesTerm_8 (by rw [c_8_2]; decide) (by rw [c_8_2]; decide) (by rw [c_8_2]; decide) (by decide) ?_
    refine lv_aload_n hx hb dX9_writesTerm_82 rfl (lv_at hl 0 rfl) ?_
    refine lv_aload_n hx hb dX9_writesTerm_83 rfl (lv_at hl 0 rfl) ?_
    refine gm_0_now F N k_682 dX9_writesTerm_84 ?_
    refine lv_iload_n hx hb dX9_writesTerm_87 rfl (lv_at hl 1 rfl) ?_
    refine lv_iconst (v := 1) hx hb dX9_writesTerm_88 (by decide) ?_
    refine iaddN (a := ta) (b := 1) hx hb dX9_writesTerm_89 ?_
    refine amN_0 (j := (ta + 1)) F N (by omega) dX9_writesTerm_90 ?_
    refine lv_aload_n hx hb dX9_writesTerm_91 rfl (lv_at hl 0 rfl) ?_
    refine gm_0_now F N k_682 dX9_writesTerm_92 ?_
    refine lv_iload_n hx hb dX9_writesTerm_95 rfl (lv_at hl 1 rfl) ?_
    refine lv_iconst (v := 2) hx hb dX9_writesTerm_96 (by decide) ?_
    refine iaddN (a := ta) (b := 2) hx hb dX9_writesTerm_97 ?_
    refine amN_0 (j := (ta + 2)) F N (by omega) dX9_writesTerm_98 ?_
    refine lv_aload_n hx hb dX9_writesTerm_99 rfl (lv_at hl 0 rfl) ?_
    refine gm_0_now F N k_682 dX9_writesTerm_100 ?_
    refine lv_iload_n hx hb dX9_writesTerm_103 rfl (lv_at hl 1 rfl) ?_
    refine lv_iconst (v := 5) hx hb dX9_writesTerm_104 (by decide) ?_
    refine iaddN (a := ta) (b := 5) hx hb dX9_writesTerm_105 ?_
    refine amN_0 (j := (ta + 5)) F N (by omega) dX9_writesTerm_106 ?_
    refine mV_v F N (c_X9_writesPlace l G ad ex st (st.2.1 0 (ta + 1)) (st.2.1 0 (ta + 2)) (st.2.1 0 (ta + 5)) x (by simp [sQ_1, hQ]) (by simp [sQ_21, hg]) (by omega)) miX9_writesPlace k_928 (by decide) hl.1 rfl (Nat.le_of_ble_eq_true rfl) (q0 := 0) (ci := 8) rfl rfl dX9_writesTerm_107 (fun st_107 est_107 H locs N => ?_)
    refine lv_aload_n hx hb dX9_writesTerm_110 rfl (lv_at hl 0 rfl) ?_
    refine lv_bipush (v := 58) hx hb dX9_writesTerm_111 (by decide) ?_
    refine mV_v F N (c_X9_writes l G ad ex st_107 58 (mwPl (st.2.1 0 (ta + 1)) (st.2.1 0 (ta + 2)) (st.2.1 0 (ta + 5)) x) (by simp [est_107, sQ_1, hQ]) (by simp [est_107, sQ_21, hg]) (by omega)) miX9_writes k_916 (by decide) hl.1 rfl (Nat.le_of_ble_eq_true rfl) (q0 := 0) (ci := 8) rfl rfl dX9_writesTerm_113 (fun st_113 est_113 H locs N => ?_)
    refine lv_aload_n hx hb dX9_writesTerm_116 rfl (lv_at hl 0 rfl) ?_
    refine lv_aload_n hx hb dX9_writesTerm_117 rfl (lv_at hl 0 rfl) ?_
    refine gm_0_now F N k_682 dX9_writesTerm_118 ?_
    refine lv_iload_n hx hb dX9_writesTerm_121 rfl (lv_at hl 1 rfl) ?_
    refine lv_iconst (v := 3) hx hb dX9_writesTerm_122 (by decide) ?_
    refine iaddN (a := ta) (b := 3) hx hb dX9_writesTerm_123 ?_
    refine amN_0 (j := (ta + 3)) F N (by omega) dX9_writesTerm_124 ?_
    refine toI (y := st.2.1 0 (ta + 3)) (by rw [est_113, est_107]; rfl) ?_
    refine lv_aload_n hx hb dX9_writesTerm_125 rfl (lv_at hl 0 rfl) ?_
    refine gm_0_now F N k_682 dX9_writesTerm_126 ?_
    refine lv_iload_n hx hb dX9_writesTerm_129 rfl (lv_at hl 1 rfl) ?_
    refine lv_iconst (v := 4) hx hb dX9_writesTerm_130 (by decide) ?_
    refine iaddN (a := ta) (b := 4) hx hb dX9_writesTerm_131 ?_
    refine amN_0 (j := (ta + 4)) F N (by omega) dX9_writesTerm_132 ?_
    refine toI (y := st.2.1 0 (ta + 4)) (by rw [est_113, est_107]; rfl) ?_
    refine lv_aload_n hx hb dX9_writesTerm_133 rfl (lv_at hl 0 rfl) ?_
    refine gm_0_now F N k_682 dX9_writesTerm_134 ?_
    refine lv_iload_n hx hb dX9_writesTerm_137 rfl (lv_at hl 1 rfl) ?_
    refine lv_iconst (v := 5) hx hb dX9_writesTerm_138 (by decide) ?_
    refine iaddN (a := ta) (b := 5) hx hb dX9_writesTerm_139 ?_
    refine amN_0 (j := (ta + 5)) F N (by omega) dX9_writesTerm_140 ?_
    refine toI (y := st.2.1 0 (ta + 5)) (by rw [est_113, est_107]; rfl) ?_
    refine lv_iconst (v := 2) hx hb dX9_writesTerm_141 (by decide) ?_
    refine lv_ishr hx hb dX9_writesTerm_142 ?_
    refine mV_v F N (c_X9_writesPlace l G ad ex st_113 (st.2.1 0 (ta + 3)) (st.2.1 0 (ta + 4)) ((st.2.1 0 (ta + 5)) >>> ((2 : Int32) &&& 31)) (mw (mwPl (st.2.1 0 (ta + 1)) (st.2.1 0 (ta + 2)) (st.2.1 0 (ta + 5)) x) 58) (by simp [est_113, est_107, sQ_1, hQ]) (by simp [est_113, est_107, sQ_21, hg]) (by show (mwPl _ _ _ x).1 + 1 + 4 ≤ 60; omega)) miX9_writesPlace k_928 (by decide) hl.1 rfl (Nat.le_of_ble_eq_true rfl) (q0 := 0) (ci := 8) rfl rfl dX9_writesTerm_143 (fun st_143 est_143 H locs N => ?_)
    refine lv_goto (tgt := 155) hx hb dX9_writesTerm_146 (by decide) ?_
    exact hret _ _ _ _ _ dX9_writesTerm_155 (by rw [est_143, est_113, est_107]; unfold mwT; first | rw [if_pos c_8_0] | rw [if_neg c_8_0, if_pos c_8_1] | rw [if_neg c_8_0, if_neg c_8_1, if_pos c_8_2, sQ_sQ, sQ_sQ] | rw [if_neg c_8_0, if_neg c_8_1, if_neg c_8_2]) N
  refine lv_tableOut (tgt := 149) hx hb dX9_writesTerm_8 (tblOut_0_2 c_8_0 c_8_1 c_8_2) (by decide) ?_
  refine lv_aload_n hx hb dX9_writesTerm_149 rfl (lv_at hl 0 rfl) ?_
  refine lv_bipush (v := 35) hx hb dX9_writesTerm_150 (by decide) ?_
  refine mV_v F N (c_X9_writes l G ad ex st 35 x (by simp [sQ_1, hQ]) (by simp [sQ_21, hg]) (by omega)) miX9_writes k_916 (by decide) hl.1 rfl (Nat.le_of_ble_eq_true rfl) (q0 := 0) (ci := 8) rfl rfl dX9_writesTerm_152 (fun st_152 est_152 H locs N => ?_)
  exact hret _ _ _ _ _ dX9_writesTerm_155 (by rw [est_152]; unfold mwT; first | rw [if_pos c_8_0] | rw [if_neg c_8_0, if_pos c_8_1] | rw [if_neg c_8_0, if_neg c_8_1, if_pos c_8_2, sQ_sQ, sQ_sQ] | rw [if_neg c_8_0, if_neg c_8_1, if_neg c_8_2]) N
set_option maxHeartbeats 4000000 in
set_option maxRecDepth 100000 in
theorem c_X9_shown_bad (l : Launch) (G : GM) (ad : Nat → Nat) (ex : va_W) (st : ST) (c : Int32) (r : Int32) (k : Int32) (hbad : (xIsPl c r && decide (0 ≤ k)) = false) : MMi l G yX9_shown cX9_shown 6 (some .int) 2 [.ref (ad 0), .int c, .int r, .int k] ad ex st (-2) (mBad st) := by
  refine xi_start (by decide) rfl (Nat.le_of_ble_eq_true rfl) ?_
  intro zp ze zs zm zargs zbelow zmeth zc zQ ls F N hl hret
  have hx := F.1
  have hb := F.2.1
  have hl : lv_has ls 6 [(0, .ref (ad 0)), (1, .int c), (2, .int r), (3, .int k)] := hl
  refine lv_iload_n hx hb dX9_shown_0 rfl (lv_at hl 1 rfl) ?_
  refine lv_iload_n hx hb dX9_shown_1 rfl (lv_at hl 2 rfl) ?_
  refine cS_i F N (c_X9_isCell l G _ c r) miX9_isCell k_775 (by decide) hl.1 rfl (Nat.le_of_ble_eq_true rfl) dX9_shown_2 (fun H locs N => ?_)
  refine ifB_eq (tgt := 12) hx hb dX9_shown_5 (by decide) (fun c_5 => ?_) (fun c_5 => ?_)
  · refine lv_aload_n hx hb dX9_shown_12 rfl (lv_at hl 0 rfl) ?_
    refine mV_i F N (c_X9_bad l G ad ex st ) miX9_bad k_763 (by decide) hl.1 rfl (Nat.le_of_ble_eq_true rfl) (q0 := 0) (ci := 8) rfl rfl dX9_shown_13 (fun st_13 est_13 H locs N => ?_)
    exact hret _ _ _ _ _ _ dX9_shown_16 (by first | rfl | (subst est_13; rfl) | (subst est_13; simp [bI, c_5])) (by first | rfl | (subst est_13; rfl) | (subst est_13; simp [bI, c_5])) N
  · refine lv_iload_n hx hb dX9_shown_8 rfl (lv_at hl 3 rfl) ?_
    refine lv_if_ge (tgt := 17) hx hb dX9_shown_9 (by decide) (fun c_9 => ?_) (fun c_9 => ?_)
    · exact absurd hbad (by simp [c_5, c_9])
    · have c_9v := nle_lt c_9
      refine lv_aload_n hx hb dX9_shown_12 rfl (lv_at hl 0 rfl) ?_
      refine mV_i F N (c_X9_bad l G ad ex st ) miX9_bad k_763 (by decide) hl.1 rfl (Nat.le_of_ble_eq_true rfl) (q0 := 0) (ci := 8) rfl rfl dX9_shown_13 (fun st_13 est_13 H locs N => ?_)
      exact hret _ _ _ _ _ _ dX9_shown_16 (by first | rfl | (subst est_13; rfl) | (subst est_13; simp [bI, c_5, c_9, c_9v])) (by first | rfl | (subst est_13; rfl) | (subst est_13; simp [bI, c_5, c_9, c_9v])) N
set_option maxHeartbeats 4000000 in
set_option maxRecDepth 100000 in
theorem c_X9_shown (l : Launch) (G : GM) (ad : Nat → Nat) (ex : va_W) (st : ST) (c : Nat) (r : Nat) (kk : Nat) (m : Nat) (hc : c < 6) (hr : r < 6) (hk : kk < 2 ^ 31) (hm : st.2.1 0 (25 * (6 * r + c)) = nI m) (hm4 : m ≤ 4) : MMi l G yX9_shown cX9_shown 6 (some .int) 3 [.ref (ad 0), .int (nI c), .int (nI r), .int (nI kk)] ad ex st (if (mwW st (25 * (6 * r + c)) m).1 ≤ kk then -1 else (mwW st (25 * (6 * r + c)) m).2 kk) (sQ st (mwW st (25 * (6 * r + c)) m)) := by
  refine xi_start (by decide) rfl (Nat.le_of_ble_eq_true rfl) ?_
  intro zp ze zs zm zargs zbelow zmeth zc zQ ls F N hl hret
  have hx := F.1
  have hb := F.2.1
  have hl : lv_has ls 6 [(0, .ref (ad 0)), (1, .int (nI c)), (2, .int (nI r)), (3, .int (nI kk))] := hl
  refine lv_iload_n hx hb dX9_shown_0 rfl (lv_at hl 1 rfl) ?_
  refine lv_iload_n hx hb dX9_shown_1 rfl (lv_at hl 2 rfl) ?_
  refine cS_i F N (c_X9_isCell l G _ (nI c) (nI r)) miX9_isCell k_775 (by decide) hl.1 rfl (Nat.le_of_ble_eq_true rfl) dX9_shown_2 (fun H locs N => ?_)
  refine toI (y := 1) (by rw [xIsPl_nI hc hr]; rfl) ?_
  refine lv_if_eq (tgt := 12) hx hb dX9_shown_5 (by decide) (fun c_5 => ?_) (fun c_5 => ?_)
  · first | exact absurd c_5 (by decide) | exact absurd (by decide) c_5
  refine lv_iload_n hx hb dX9_shown_8 rfl (lv_at hl 3 rfl) ?_
  refine ifN_ge (a := kk) (tgt := 17) hx hb dX9_shown_9 (by decide) (by omega) ?_
  refine lv_aload_n hx hb dX9_shown_17 rfl (lv_at hl 0 rfl) ?_
  refine lv_iconst (v := 0) hx hb dX9_shown_18 (by decide) ?_
  refine pm_0_length F N k_693 dX9_shown_19 (fun st_19 est_19 H locs N => ?_)
  refine lv_iload_n hx hb dX9_shown_22 rfl (lv_at hl 1 rfl) ?_
  refine lv_iload_n hx hb dX9_shown_23 rfl (lv_at hl 2 rfl) ?_
  refine cS_i F N (c_X9_placeOf l G _ c r) miX9_placeOf k_821 (by decide) hl.1 rfl (Nat.le_of_ble_eq_true rfl) dX9_shown_24 (fun H locs N => ?_)
  refine lv_istore (lv' := [(4, .int (nI (25 * (6 * r + c)))), (0, .ref (ad 0)), (1, .int (nI c)), (2, .int (nI r)), (3, .int (nI kk))]) hx hb dX9_shown_27 hl (by decide) rfl (fun ls hl => ?_)
  refine lv_iconst (v := 0) hx hb dX9_shown_29 (by decide) ?_
  refine lv_istore (lv' := [(5, .int 0), (4, .int (nI (25 * (6 * r + c)))), (0, .ref (ad 0)), (1, .int (nI c)), (2, .int (nI r)), (3, .int (nI kk))]) hx hb dX9_shown_30 hl (by decide) rfl (fun ls hl => ?_)
  have cut_32 : ∀ (k : Nat) (i : Nat) (x : PG) (s1 : ST), i + k = m → s1 = sQ st x → x.1 ≤ 10 * i → lp (mwL (st.2.1 0) (25 * (6 * r + c))) k i x = mwW st (25 * (6 * r + c)) m → ∀ (H : Heap) (locs : List Loc) (ls : Array Slot), Now G zs (MW G ad s1 ++ ex) H locs → lv_has ls 6 [(0, .ref (ad 0)), (1, .int (nI c)), (2, .int (nI r)), (3, .int (nI kk)), (4, .int (nI (25 * (6 * r + c)))), (5, .int (nI i))] → W zp l ze (RM 3) zs zm zargs zbelow zmeth zc H locs 0 0 zQ (F0 zm 32 ls []) := by
    intro k
    induction k with
    | zero =>
      intro i x s1 hkk hs hx9 hI H locs ls N hl
      refine lv_iload hx hb dX9_shown_32 (lv_at hl 5 rfl) ?_
      refine lv_aload_n hx hb dX9_shown_34 rfl (lv_at hl 0 rfl) ?_
      refine gm_0_now F N k_682 dX9_shown_35 ?_
      refine lv_iload hx hb dX9_shown_38 (lv_at hl 4 rfl) ?_
      refine amN_0 (j := (25 * (6 * r + c))) F N (by omega) dX9_shown_40 ?_
      refine toN (a := m) (by rw [hs]; exact hm) ?_
      refine cmpN_ge (a := i) (b := m) (tgt := 72) hx hb dX9_shown_41 (by decide) (by omega) (by omega) (fun c_41 => ?_) (fun c_41 => ?_)
      · have c_41v := Nat.not_lt.mpr c_41
        refine lv_iload_n hx hb dX9_shown_72 rfl (lv_at hl 3 rfl) ?_
        refine lv_aload_n hx hb dX9_shown_73 rfl (lv_at hl 0 rfl) ?_
        refine gm_0_length F N k_693 dX9_shown_74 ?_
        refine toN (a := x.1) (by rw [hs]; rfl) ?_
        refine cmpN_ge (a := kk) (b := x.1) (tgt := 89) hx hb dX9_shown_77 (by decide) (by omega) (by omega) (fun c_77 => ?_) (fun c_77 => ?_)
        · have c_77v := Nat.not_lt.mpr c_77
          refine lv_iconst (v := (-1)) hx hb dX9_shown_89 (by decide) ?_
          exact hret _ _ _ _ _ _ dX9_shown_90 (by rw [← hI]; simp [lp, c_41, c_41v, c_77, c_77v]) (by rw [hs, ← hI]; rfl) N
        · have c_77v := Nat.not_le.mp c_77
          refine lv_aload_n hx hb dX9_shown_80 rfl (lv_at hl 0 rfl) ?_
          refine gm_0_written F N k_692 dX9_shown_81 ?_
          refine lv_iload_n hx hb dX9_shown_84 rfl (lv_at hl 3 rfl) ?_
          refine amN_6 (j := kk) F N (by omega) dX9_shown_85 ?_
          refine toI (y := x.2 kk) (by rw [hs]; rfl) ?_
          refine lv_goto (tgt := 90) hx hb dX9_shown_86 (by decide) ?_
          exact hret _ _ _ _ _ _ dX9_shown_90 (by rw [← hI]; simp [lp, c_41, c_41v, c_77, c_77v]) (by rw [hs, ← hI]; rfl) N
      · exfalso; omega
    | succ k ih_32 =>
      intro i x s1 hkk hs hx9 hI H locs ls N hl
      refine lv_iload hx hb dX9_shown_32 (lv_at hl 5 rfl) ?_
      refine lv_aload_n hx hb dX9_shown_34 rfl (lv_at hl 0 rfl) ?_
      refine gm_0_now F N k_682 dX9_shown_35 ?_
      refine lv_iload hx hb dX9_shown_38 (lv_at hl 4 rfl) ?_
      refine amN_0 (j := (25 * (6 * r + c))) F N (by omega) dX9_shown_40 ?_
      refine toN (a := m) (by rw [hs]; exact hm) ?_
      refine cmpN_ge (a := i) (b := m) (tgt := 72) hx hb dX9_shown_41 (by decide) (by omega) (by omega) (fun c_41 => ?_) (fun c_41 => ?_)
      · exfalso; omega
      · have c_41v := Nat.not_le.mp c_41
        refine lv_iload hx hb dX9_shown_44 (lv_at hl 5 rfl) ?_
        refine ifN_le (a := i) (tgt := 55) hx hb dX9_shown_46 (by decide) (by omega) (fun c_46 => ?_) (fun c_46 => ?_)
        · refine lv_aload_n hx hb dX9_shown_55 rfl (lv_at hl 0 rfl) ?_
          refine lv_iload hx hb dX9_shown_56 (lv_at hl 4 rfl) ?_
          refine lv_iload hx hb dX9_shown_58 (lv_at hl 5 rfl) ?_
          refine cS_i F N (c_X9_termPlace l G _ (25 * (6 * r + c)) i) miX9_termPlace k_858 (by decide) hl.1 rfl (Nat.le_of_ble_eq_true rfl) dX9_shown_60 (fun H locs N => ?_)
          refine mV_v F N (c_X9_writesTerm l G ad ex s1 ((25 * (6 * r + c)) + 1 + 6 * i) (if i = 0 then x else mw x 43) (by simp [hs, sQ_1, c_46]) (by simp [hs, sQ_21, c_46]) (by omega) (by first | (rw [if_pos c_46]; omega) | (rw [if_neg c_46]; show x.1 + 1 + 9 ≤ 60; omega))) miX9_writesTerm k_920 (by decide) hl.1 rfl (Nat.le_of_ble_eq_true rfl) (q0 := 0) (ci := 8) rfl rfl dX9_shown_63 (fun st_63 est_63 H locs N => ?_)
          refine lv_iinc (v := (nI (i + 1))) (lv' := [(5, .int (nI (i + 1))), (0, .ref (ad 0)), (1, .int (nI c)), (2, .int (nI r)), (3, .int (nI kk)), (4, .int (nI (25 * (6 * r + c))))]) hx hb dX9_shown_66 hl (k := 5) rfl (nI_1 i) (by decide) rfl (fun ls hl => ?_)
          refine lv_goto (tgt := 32) hx hb dX9_shown_69 (by decide) ?_
          exact ih_32 (i + 1) (mwL (st.2.1 0) (25 * (6 * r + c)) i x) st_63 (by omega) (by rw [est_63, hs]; simp [sQ_sQ, sQ_21, mwL]) (mwL_le _ _ _ _ hx9) hI _ _ _ N (lv_sub hl [1, 2, 3, 4, 5, 0] rfl)
        · refine lv_aload_n hx hb dX9_shown_49 rfl (lv_at hl 0 rfl) ?_
          refine lv_bipush (v := 43) hx hb dX9_shown_50 (by decide) ?_
          refine mV_v F N (c_X9_writes l G ad ex s1 43 x (by simp [hs, sQ_1]) (by simp [hs, sQ_21]) (by omega)) miX9_writes k_916 (by decide) hl.1 rfl (Nat.le_of_ble_eq_true rfl) (q0 := 0) (ci := 8) rfl rfl dX9_shown_52 (fun st_52 est_52 H locs N => ?_)
          refine lv_aload_n hx hb dX9_shown_55 rfl (lv_at hl 0 rfl) ?_
          refine lv_iload hx hb dX9_shown_56 (lv_at hl 4 rfl) ?_
          refine lv_iload hx hb dX9_shown_58 (lv_at hl 5 rfl) ?_
          refine cS_i F N (c_X9_termPlace l G _ (25 * (6 * r + c)) i) miX9_termPlace k_858 (by decide) hl.1 rfl (Nat.le_of_ble_eq_true rfl) dX9_shown_60 (fun H locs N => ?_)
          refine mV_v F N (c_X9_writesTerm l G ad ex st_52 ((25 * (6 * r + c)) + 1 + 6 * i) (if i = 0 then x else mw x 43) (by simp [est_52, hs, sQ_1, c_46]) (by simp [est_52, hs, sQ_21, c_46]) (by omega) (by first | (rw [if_pos c_46]; omega) | (rw [if_neg c_46]; show x.1 + 1 + 9 ≤ 60; omega))) miX9_writesTerm k_920 (by decide) hl.1 rfl (Nat.le_of_ble_eq_true rfl) (q0 := 0) (ci := 8) rfl rfl dX9_shown_63 (fun st_63 est_63 H locs N => ?_)
          refine lv_iinc (v := (nI (i + 1))) (lv' := [(5, .int (nI (i + 1))), (0, .ref (ad 0)), (1, .int (nI c)), (2, .int (nI r)), (3, .int (nI kk)), (4, .int (nI (25 * (6 * r + c))))]) hx hb dX9_shown_66 hl (k := 5) rfl (nI_1 i) (by decide) rfl (fun ls hl => ?_)
          refine lv_goto (tgt := 32) hx hb dX9_shown_69 (by decide) ?_
          exact ih_32 (i + 1) (mwL (st.2.1 0) (25 * (6 * r + c)) i x) st_63 (by omega) (by rw [est_63, est_52, hs]; simp [sQ_sQ, sQ_21, mwL]) (mwL_le _ _ _ _ hx9) hI _ _ _ N (lv_sub hl [1, 2, 3, 4, 5, 0] rfl)
  exact cut_32 m 0 (0, st.2.1 6) st_19 (by omega) (by rw [est_19]; unfold sQ; dsimp only; rw [sA_self rfl]; rfl) (Nat.le_refl 0) rfl _ _ _ N (lv_sub hl [2, 3, 4, 5, 1, 0] rfl)
