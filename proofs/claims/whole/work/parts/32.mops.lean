/-! the reference's row of cells, g: 25 numbers a cell -/
def mBrk (g : Nat → Int32) (ta : Nat) : Nat → Int32 := lp (fun k g => upd g (ta + k) (if k = 0 then 3 else 0)) 6 0 g
def mEmp (g : Nat → Int32) (ce : Nat) : Nat → Int32 := lp (fun k g => upd g (ce + k) 0) 25 0 g
def mTak (h g : Nat → Int32) (to fr : Nat) : Nat → Int32 := lp (fun k g => upd g (to + k) (h (fr + k))) 25 0 g
def mFil (g : Nat → Int32) : Nat := cnt (fun k => decide (¬ g (25 * k) = 0)) 36 0 0
def mLb (ln a n : Int32) : Int32 :=
  if n ≤ 0 then (if a ≤ ln then (if a - n ≤ ln then ln + n else -1) else ln) else (if a ≤ ln then (if ln + n ≤ 5 then ln + n else -1) else ln)
def mCb (way line ot : Nat) : Nat := if way = 0 then 25 * (6 * line + ot) else 25 * (6 * ot + line)
theorem mCb_le {way line ot : Nat} (h : line < 6) (h2 : ot < 6) : mCb way line ot ≤ 875 := by unfold mCb; split <;> omega
def mShI (h : Nat → Int32) (way : Nat) (o : Nat → Option Nat) (line ot : Nat) (g : Nat → Int32) : Nat → Int32 := mTak h g (mCb way ((o line).getD 0) ot) (mCb way line ot)
def mShL (h : Nat → Int32) (way : Nat) (o : Nat → Option Nat) (line : Nat) (g : Nat → Int32) : Nat → Int32 := if oI (o line) = -1 then g else lp (mShI h way o line) 6 0 g
def mShC (h : Nat → Int32) (way : Nat) (o : Nat → Option Nat) (g : Nat → Int32) : Nat → Int32 := lp (mShL h way o) 6 0 (lp (fun k g => mEmp g (25 * k)) 36 0 g)
def mShP (g : Nat → Int32) (ta pl : Nat) (a n : Int32) : Nat → Int32 := if mLb (g (ta + pl)) a n = -1 then mBrk g ta else upd g (ta + pl) (mLb (g (ta + pl)) a n)
def mBL (x a n : Int32) : Int32 := if n ≤ 0 then (if a ≤ x then (if a - n ≤ x then x + n else a) else x) else x + (if x < a then 0 else n)
def mBM0 (x a n : Int32) : Int32 := x + (if x < a then 0 else n)
def mBM (x a n : Int32) : Int32 := if n ≤ 0 then (if a ≤ x then (if a - n ≤ x then x + n else a - 1) else x) else (if mBM0 x a n ≤ 5 then mBM0 x a n else 5)
def mShB (g : Nat → Int32) (ta pl : Nat) (a n : Int32) : Nat → Int32 :=
  if 5 < mBL (g (ta + pl)) a n then mBrk g ta else if mBL (g (ta + pl)) a n ≤ mBM (g (ta + pl + 2)) a n then upd (upd g (ta + pl) (mBL (g (ta + pl)) a n)) (ta + pl + 2) (mBM (g (ta + pl + 2)) a n) else mBrk g ta
def mShT (pl : Nat) (a n : Int32) (ta : Nat) (g : Nat → Int32) : Nat → Int32 := if g (ta + 0) = 1 then mShP g ta pl a n else if g (ta + 0) = 2 then mShB g ta pl a n else g
def mShW (pl : Nat) (a n : Int32) (cn : Nat → Nat) (k : Nat) (g : Nat → Int32) : Nat → Int32 := lp (fun i g => mShT pl a n (25 * k + 1 + 6 * i) g) (cn k) 0 g
def mSh (h : Nat → Int32) (way : Nat) (a n : Int32) (o : Nat → Option Nat) (cn : Nat → Nat) (g : Nat → Int32) : Nat → Int32 := lp (mShW (if way = 0 then 2 else 1) a n cn) 36 0 (mShC h way o g)
def mWF (g : Nat → Int32) (way n line ot : Nat) (b : Bool) : Bool := if b = true then true else if line + n ≤ 5 then false else if g (mCb way line ot) ≤ 0 then false else true
def mWl (g : Nat → Int32) (way a n : Nat) : Bool := lp (fun line b => lp (mWF g way n line) 6 0 b) (6 - a) a false
/-- the counts of the cells' terms -/
def mCn (g : Nat → Int32) (cn : Nat → Nat) : Prop := ∀ k, k < 36 → g (25 * k) = nI (cn k) ∧ cn k ≤ 4
theorem lp_out {F : Nat → (Nat → Int32) → Nat → Int32} {j : Nat} (hF : ∀ k g, F k g j = g j) : ∀ n i g, lp F n i g j = g j
  | 0, _, _ => rfl
  | n + 1, i, g => by rw [lp_s, lp_out hF n (i + 1) (F i g), hF]
theorem lp_out2 {F : Nat → (Nat → Int32) → Nat → Int32} {j : Nat} : ∀ n i g, (∀ k g, i ≤ k → k < i + n → F k g j = g j) → lp F n i g j = g j
  | 0, _, _, _ => rfl
  | n + 1, i, g, h => by rw [lp_s, lp_out2 n (i + 1) (F i g) (fun k g h1 h2 => h k g (by omega) (by omega)), h i g (Nat.le_refl i) (by omega)]
theorem mBrk_out {g : Nat → Int32} {ta j : Nat} (h : j < ta ∨ ta + 6 ≤ j) : mBrk g ta j = g j := lp_out2 6 0 g (fun k g _ h2 => upd_other _ _ (by omega))
theorem mShP_out {g : Nat → Int32} {ta pl j : Nat} {a n : Int32} (h : j < ta ∨ ta + 6 ≤ j) (hp : pl < 6) : mShP g ta pl a n j = g j := by
  unfold mShP
  split
  · exact mBrk_out h
  · exact upd_other _ _ (by omega)
theorem mShB_out {g : Nat → Int32} {ta pl j : Nat} {a n : Int32} (h : j < ta ∨ ta + 6 ≤ j) (hp : pl < 4) : mShB g ta pl a n j = g j := by
  unfold mShB
  split
  · exact mBrk_out h
  · split
    · rw [upd_other _ _ (by omega), upd_other _ _ (by omega)]
    · exact mBrk_out h
theorem mShT_out {g : Nat → Int32} {ta pl j : Nat} {a n : Int32} (h : j < ta ∨ ta + 6 ≤ j) (hp : pl < 4) : mShT pl a n ta g j = g j := by
  unfold mShT
  split
  · exact mShP_out h (by omega)
  · split
    · exact mShB_out h hp
    · rfl
theorem mCn_T {F : (Nat → Int32) → Nat → Int32} {g : Nat → Int32} {cn : Nat → Nat} {k i : Nat} (h : mCn g cn) (hi : i ≤ 3) (hF : ∀ j, (j < 25 * k + 1 + 6 * i ∨ 25 * k + 1 + 6 * i + 6 ≤ j) → F g j = g j) : mCn (F g) cn := by
  intro k2 hk2
  refine ⟨?_, (h k2 hk2).2⟩
  rw [hF (25 * k2) (by
    rcases Nat.lt_trichotomy k2 k with h1 | h1 | h1
    · omega
    · omega
    · omega)]
  exact (h k2 hk2).1
set_option maxHeartbeats 4000000 in
set_option maxRecDepth 100000 in
theorem c_X9_breaks (l : Launch) (G : GM) (ad : Nat → Nat) (ex : va_W) (st : ST) (g : Nat → Int32) (ta : Nat) (hta : ta + 6 ≤ 900) : MMv l G yX9_breaks cX9_breaks 3 none 0 [.ref (ad 0), .int (nI ta)] ad ex (sA st 0 g) (sA st 0 (mBrk g ta)) := by
  refine xv_start (by decide) (Nat.le_of_ble_eq_true rfl) ?_
  intro zp ze zs zm zargs zbelow zmeth zc zQ ls F N hl hret
  have hx := F.1
  have hb := F.2.1
  have hl : lv_has ls 3 [(0, .ref (ad 0)), (1, .int (nI ta))] := hl
  refine lv_iconst (v := 0) hx hb dX9_breaks_0 (by decide) ?_
  refine lv_istore_n (lv' := [(2, .int 0), (0, .ref (ad 0)), (1, .int (nI ta))]) hx hb dX9_breaks_1 rfl hl (by decide) rfl (fun ls hl => ?_)
  have cut_2 : ∀ (k : Nat) (i : Nat) (g2 : Nat → Int32), i + k = 6 → lp (fun k g => upd g (ta + k) (if k = 0 then 3 else 0)) k i g2 = mBrk g ta → ∀ (H : Heap) (locs : List Loc) (ls : Array Slot), Now G zs (MW G ad (sA st 0 g2) ++ ex) H locs → lv_has ls 3 [(0, .ref (ad 0)), (1, .int (nI ta)), (2, .int (nI i))] → W zp l ze (RM 0) zs zm zargs zbelow zmeth zc H locs 0 0 zQ (F0 zm 2 ls []) := by
    intro k
    induction k with
    | zero =>
      intro i g2 hk hI H locs ls N hl
      refine lv_iload_n hx hb dX9_breaks_2 rfl (lv_at hl 2 rfl) ?_
      refine lv_bipush (v := 6) hx hb dX9_breaks_3 (by decide) ?_
      refine cmpN_ge (a := i) (b := 6) (tgt := 31) hx hb dX9_breaks_5 (by decide) (by omega) (by omega) (fun c_5 => ?_) (fun c_5 => ?_)
      · have c_5v := Nat.not_lt.mpr c_5
        exact hret _ _ _ _ _ dX9_breaks_31 (by rw [← hI]; rfl) N
      · exfalso; omega
    | succ k ih_2 =>
      intro i g2 hk hI H locs ls N hl
      refine lv_iload_n hx hb dX9_breaks_2 rfl (lv_at hl 2 rfl) ?_
      refine lv_bipush (v := 6) hx hb dX9_breaks_3 (by decide) ?_
      refine cmpN_ge (a := i) (b := 6) (tgt := 31) hx hb dX9_breaks_5 (by decide) (by omega) (by omega) (fun c_5 => ?_) (fun c_5 => ?_)
      · exfalso; omega
      · have c_5v := Nat.not_le.mp c_5
        refine lv_aload_n hx hb dX9_breaks_8 rfl (lv_at hl 0 rfl) ?_
        refine gm_0_now F N k_682 dX9_breaks_9 ?_
        refine lv_iload_n hx hb dX9_breaks_12 rfl (lv_at hl 1 rfl) ?_
        refine lv_iload_n hx hb dX9_breaks_13 rfl (lv_at hl 2 rfl) ?_
        refine iaddN (a := ta) (b := i) hx hb dX9_breaks_14 ?_
        refine lv_iload_n hx hb dX9_breaks_15 rfl (lv_at hl 2 rfl) ?_
        refine ifN_ne (a := i) (tgt := 23) hx hb dX9_breaks_16 (by decide) (by omega) (fun c_16 => ?_) (fun c_16 => ?_)
        · refine lv_iconst (v := 0) hx hb dX9_breaks_23 (by decide) ?_
          refine smN_0 (j := (ta + i)) F N (by omega) dX9_breaks_24 (fun st_24 est_24 H locs N => ?_)
          replace N := eqM N (est_24.trans (sA_sA st 0 g2 (upd g2 (ta + i) 0)))
          refine lv_iinc (v := (nI (i + 1))) (lv' := [(2, .int (nI (i + 1))), (0, .ref (ad 0)), (1, .int (nI ta))]) hx hb dX9_breaks_25 hl (k := 2) rfl (nI_1 i) (by decide) rfl (fun ls hl => ?_)
          refine lv_goto (tgt := 2) hx hb dX9_breaks_28 (by decide) ?_
          exact ih_2 (i + 1) (upd g2 (ta + i) 0) (by omega) (by rw [← hI, lp_s]; simp [c_5, c_5v, c_16]) _ _ _ N (lv_sub hl [1, 2, 0] rfl)
        · refine lv_iconst (v := 3) hx hb dX9_breaks_19 (by decide) ?_
          refine lv_goto (tgt := 24) hx hb dX9_breaks_20 (by decide) ?_
          refine smN_0 (j := (ta + i)) F N (by omega) dX9_breaks_24 (fun st_24 est_24 H locs N => ?_)
          replace N := eqM N (est_24.trans (sA_sA st 0 g2 (upd g2 (ta + i) 3)))
          refine lv_iinc (v := (nI (i + 1))) (lv' := [(2, .int (nI (i + 1))), (0, .ref (ad 0)), (1, .int (nI ta))]) hx hb dX9_breaks_25 hl (k := 2) rfl (nI_1 i) (by decide) rfl (fun ls hl => ?_)
          refine lv_goto (tgt := 2) hx hb dX9_breaks_28 (by decide) ?_
          exact ih_2 (i + 1) (upd g2 (ta + i) 3) (by omega) (by rw [← hI, lp_s]; simp [c_5, c_5v, c_16]) _ _ _ N (lv_sub hl [1, 2, 0] rfl)
  exact cut_2 6 0 g (by omega) rfl _ _ _ N (lv_sub hl [1, 2, 0] rfl)
set_option maxHeartbeats 4000000 in
set_option maxRecDepth 100000 in
theorem c_X9_empty (l : Launch) (G : GM) (ad : Nat → Nat) (ex : va_W) (st : ST) (g : Nat → Int32) (ce : Nat) (hce : ce + 25 ≤ 900) : MMv l G yX9_empty cX9_empty 3 none 0 [.ref (ad 0), .int (nI ce)] ad ex (sA st 0 g) (sA st 0 (mEmp g ce)) := by
  refine xv_start (by decide) (Nat.le_of_ble_eq_true rfl) ?_
  intro zp ze zs zm zargs zbelow zmeth zc zQ ls F N hl hret
  have hx := F.1
  have hb := F.2.1
  have hl : lv_has ls 3 [(0, .ref (ad 0)), (1, .int (nI ce))] := hl
  refine lv_iconst (v := 0) hx hb dX9_empty_0 (by decide) ?_
  refine lv_istore_n (lv' := [(2, .int 0), (0, .ref (ad 0)), (1, .int (nI ce))]) hx hb dX9_empty_1 rfl hl (by decide) rfl (fun ls hl => ?_)
  have cut_2 : ∀ (k : Nat) (i : Nat) (g2 : Nat → Int32), i + k = 25 → lp (fun k g => upd g (ce + k) 0) k i g2 = mEmp g ce → ∀ (H : Heap) (locs : List Loc) (ls : Array Slot), Now G zs (MW G ad (sA st 0 g2) ++ ex) H locs → lv_has ls 3 [(0, .ref (ad 0)), (1, .int (nI ce)), (2, .int (nI i))] → W zp l ze (RM 0) zs zm zargs zbelow zmeth zc H locs 0 0 zQ (F0 zm 2 ls []) := by
    intro k
    induction k with
    | zero =>
      intro i g2 hk hI H locs ls N hl
      refine lv_iload_n hx hb dX9_empty_2 rfl (lv_at hl 2 rfl) ?_
      refine lv_bipush (v := 25) hx hb dX9_empty_3 (by decide) ?_
      refine cmpN_ge (a := i) (b := 25) (tgt := 23) hx hb dX9_empty_5 (by decide) (by omega) (by omega) (fun c_5 => ?_) (fun c_5 => ?_)
      · have c_5v := Nat.not_lt.mpr c_5
        exact hret _ _ _ _ _ dX9_empty_23 (by rw [← hI]; rfl) N
      · exfalso; omega
    | succ k ih_2 =>
      intro i g2 hk hI H locs ls N hl
      refine lv_iload_n hx hb dX9_empty_2 rfl (lv_at hl 2 rfl) ?_
      refine lv_bipush (v := 25) hx hb dX9_empty_3 (by decide) ?_
      refine cmpN_ge (a := i) (b := 25) (tgt := 23) hx hb dX9_empty_5 (by decide) (by omega) (by omega) (fun c_5 => ?_) (fun c_5 => ?_)
      · exfalso; omega
      · have c_5v := Nat.not_le.mp c_5
        refine lv_aload_n hx hb dX9_empty_8 rfl (lv_at hl 0 rfl) ?_
        refine gm_0_now F N k_682 dX9_empty_9 ?_
        refine lv_iload_n hx hb dX9_empty_12 rfl (lv_at hl 1 rfl) ?_
        refine lv_iload_n hx hb dX9_empty_13 rfl (lv_at hl 2 rfl) ?_
        refine iaddN (a := ce) (b := i) hx hb dX9_empty_14 ?_
        refine lv_iconst (v := 0) hx hb dX9_empty_15 (by decide) ?_
        refine smN_0 (j := (ce + i)) F N (by omega) dX9_empty_16 (fun st_16 est_16 H locs N => ?_)
        replace N := eqM N (est_16.trans (sA_sA st 0 g2 (upd g2 (ce + i) 0)))
        refine lv_iinc (v := (nI (i + 1))) (lv' := [(2, .int (nI (i + 1))), (0, .ref (ad 0)), (1, .int (nI ce))]) hx hb dX9_empty_17 hl (k := 2) rfl (nI_1 i) (by decide) rfl (fun ls hl => ?_)
        refine lv_goto (tgt := 2) hx hb dX9_empty_20 (by decide) ?_
        exact ih_2 (i + 1) (upd g2 (ce + i) 0) (by omega) hI _ _ _ N (lv_sub hl [1, 2, 0] rfl)
  exact cut_2 25 0 g (by omega) rfl _ _ _ N (lv_sub hl [1, 2, 0] rfl)
set_option maxHeartbeats 4000000 in
set_option maxRecDepth 100000 in
theorem c_X9_takes (l : Launch) (G : GM) (ad : Nat → Nat) (ex : va_W) (st : ST) (g : Nat → Int32) (to : Nat) (fr : Nat) (hto : to + 25 ≤ 900) (hfr : fr + 25 ≤ 900) : MMv l G yX9_takes cX9_takes 4 none 0 [.ref (ad 0), .int (nI to), .int (nI fr)] ad ex (sA st 0 g) (sA st 0 (mTak (st.2.1 1) g to fr)) := by
  refine xv_start (by decide) (Nat.le_of_ble_eq_true rfl) ?_
  intro zp ze zs zm zargs zbelow zmeth zc zQ ls F N hl hret
  have hx := F.1
  have hb := F.2.1
  have hl : lv_has ls 4 [(0, .ref (ad 0)), (1, .int (nI to)), (2, .int (nI fr))] := hl
  refine lv_iconst (v := 0) hx hb dX9_takes_0 (by decide) ?_
  refine lv_istore_n (lv' := [(3, .int 0), (0, .ref (ad 0)), (1, .int (nI to)), (2, .int (nI fr))]) hx hb dX9_takes_1 rfl hl (by decide) rfl (fun ls hl => ?_)
  have cut_2 : ∀ (k : Nat) (i : Nat) (g2 : Nat → Int32), i + k = 25 → lp (fun k g => upd g (to + k) (st.2.1 1 (fr + k))) k i g2 = mTak (st.2.1 1) g to fr → ∀ (H : Heap) (locs : List Loc) (ls : Array Slot), Now G zs (MW G ad (sA st 0 g2) ++ ex) H locs → lv_has ls 4 [(0, .ref (ad 0)), (1, .int (nI to)), (2, .int (nI fr)), (3, .int (nI i))] → W zp l ze (RM 0) zs zm zargs zbelow zmeth zc H locs 0 0 zQ (F0 zm 2 ls []) := by
    intro k
    induction k with
    | zero =>
      intro i g2 hk hI H locs ls N hl
      refine lv_iload_n hx hb dX9_takes_2 rfl (lv_at hl 3 rfl) ?_
      refine lv_bipush (v := 25) hx hb dX9_takes_3 (by decide) ?_
      refine cmpN_ge (a := i) (b := 25) (tgt := 30) hx hb dX9_takes_5 (by decide) (by omega) (by omega) (fun c_5 => ?_) (fun c_5 => ?_)
      · have c_5v := Nat.not_lt.mpr c_5
        exact hret _ _ _ _ _ dX9_takes_30 (by rw [← hI]; rfl) N
      · exfalso; omega
    | succ k ih_2 =>
      intro i g2 hk hI H locs ls N hl
      refine lv_iload_n hx hb dX9_takes_2 rfl (lv_at hl 3 rfl) ?_
      refine lv_bipush (v := 25) hx hb dX9_takes_3 (by decide) ?_
      refine cmpN_ge (a := i) (b := 25) (tgt := 30) hx hb dX9_takes_5 (by decide) (by omega) (by omega) (fun c_5 => ?_) (fun c_5 => ?_)
      · exfalso; omega
      · have c_5v := Nat.not_le.mp c_5
        refine lv_aload_n hx hb dX9_takes_8 rfl (lv_at hl 0 rfl) ?_
        refine gm_0_now F N k_682 dX9_takes_9 ?_
        refine lv_iload_n hx hb dX9_takes_12 rfl (lv_at hl 1 rfl) ?_
        refine lv_iload_n hx hb dX9_takes_13 rfl (lv_at hl 3 rfl) ?_
        refine iaddN (a := to) (b := i) hx hb dX9_takes_14 ?_
        refine lv_aload_n hx hb dX9_takes_15 rfl (lv_at hl 0 rfl) ?_
        refine gm_0_aside F N k_683 dX9_takes_16 ?_
        refine lv_iload_n hx hb dX9_takes_19 rfl (lv_at hl 2 rfl) ?_
        refine lv_iload_n hx hb dX9_takes_20 rfl (lv_at hl 3 rfl) ?_
        refine iaddN (a := fr) (b := i) hx hb dX9_takes_21 ?_
        refine amN_1 (j := (fr + i)) F N (by omega) dX9_takes_22 ?_
        refine toI (y := st.2.1 1 (fr + i)) rfl ?_
        refine smN_0 (j := (to + i)) F N (by omega) dX9_takes_23 (fun st_23 est_23 H locs N => ?_)
        replace N := eqM N (est_23.trans (sA_sA st 0 g2 (upd g2 (to + i) (st.2.1 1 (fr + i)))))
        refine lv_iinc (v := (nI (i + 1))) (lv' := [(3, .int (nI (i + 1))), (0, .ref (ad 0)), (1, .int (nI to)), (2, .int (nI fr))]) hx hb dX9_takes_24 hl (k := 3) rfl (nI_1 i) (by decide) rfl (fun ls hl => ?_)
        refine lv_goto (tgt := 2) hx hb dX9_takes_27 (by decide) ?_
        exact ih_2 (i + 1) (upd g2 (to + i) (st.2.1 1 (fr + i))) (by omega) hI _ _ _ N (lv_sub hl [1, 2, 3, 0] rfl)
  exact cut_2 25 0 g (by omega) rfl _ _ _ N (lv_sub hl [1, 2, 3, 0] rfl)
set_option maxHeartbeats 4000000 in
set_option maxRecDepth 100000 in
theorem c_X9_filled (l : Launch) (G : GM) (ad : Nat → Nat) (ex : va_W) (st : ST) (g : Nat → Int32) : MMi l G yX9_filled cX9_filled 3 (some .int) 0 [.ref (ad 0)] ad ex (sA st 0 g) (nI (mFil g)) (sA st 0 g) := by
  refine xi_start (by decide) rfl (Nat.le_of_ble_eq_true rfl) ?_
  intro zp ze zs zm zargs zbelow zmeth zc zQ ls F N hl hret
  have hx := F.1
  have hb := F.2.1
  have hl : lv_has ls 3 [(0, .ref (ad 0))] := hl
  refine lv_iconst (v := 0) hx hb dX9_filled_0 (by decide) ?_
  refine lv_istore_n (lv' := [(1, .int 0), (0, .ref (ad 0))]) hx hb dX9_filled_1 rfl hl (by decide) rfl (fun ls hl => ?_)
  refine lv_iconst (v := 0) hx hb dX9_filled_2 (by decide) ?_
  refine lv_istore_n (lv' := [(2, .int 0), (1, .int 0), (0, .ref (ad 0))]) hx hb dX9_filled_3 rfl hl (by decide) rfl (fun ls hl => ?_)
  have cut_4 : ∀ (k : Nat) (n : Nat) (i : Nat), i + k = 36 → cnt (fun k => decide (¬ g (25 * k) = 0)) k i n = mFil g → ∀ (H : Heap) (locs : List Loc) (ls : Array Slot), Now G zs (MW G ad (sA st 0 g) ++ ex) H locs → lv_has ls 3 [(0, .ref (ad 0)), (1, .int (nI n)), (2, .int (nI i))] → W zp l ze (RM 0) zs zm zargs zbelow zmeth zc H locs 0 0 zQ (F0 zm 4 ls []) := by
    intro k
    induction k with
    | zero =>
      intro n i hk hI H locs ls N hl
      refine lv_iload_n hx hb dX9_filled_4 rfl (lv_at hl 2 rfl) ?_
      refine lv_bipush (v := 36) hx hb dX9_filled_5 (by decide) ?_
      refine cmpN_ge (a := i) (b := 36) (tgt := 36) hx hb dX9_filled_7 (by decide) (by omega) (by omega) (fun c_7 => ?_) (fun c_7 => ?_)
      · have c_7v := Nat.not_lt.mpr c_7
        refine lv_iload_n hx hb dX9_filled_36 rfl (lv_at hl 1 rfl) ?_
        exact hret _ _ _ _ _ _ dX9_filled_37 (by rw [← hI]; rfl) (by rfl) N
      · exfalso; omega
    | succ k ih_4 =>
      intro n i hk hI H locs ls N hl
      refine lv_iload_n hx hb dX9_filled_4 rfl (lv_at hl 2 rfl) ?_
      refine lv_bipush (v := 36) hx hb dX9_filled_5 (by decide) ?_
      refine cmpN_ge (a := i) (b := 36) (tgt := 36) hx hb dX9_filled_7 (by decide) (by omega) (by omega) (fun c_7 => ?_) (fun c_7 => ?_)
      · exfalso; omega
      · have c_7v := Nat.not_le.mp c_7
        refine lv_iload_n hx hb dX9_filled_10 rfl (lv_at hl 1 rfl) ?_
        refine lv_aload_n hx hb dX9_filled_11 rfl (lv_at hl 0 rfl) ?_
        refine gm_0_now F N k_682 dX9_filled_12 ?_
        refine lv_bipush (v := 25) hx hb dX9_filled_15 (by decide) ?_
        refine lv_iload_n hx hb dX9_filled_17 rfl (lv_at hl 2 rfl) ?_
        refine imulN (a := 25) (b := i) hx hb dX9_filled_18 ?_
        refine amN_0 (j := (25 * i)) F N (by omega) dX9_filled_19 ?_
        refine toI (y := g (25 * i)) rfl ?_
        refine lv_if_ne (tgt := 27) hx hb dX9_filled_20 (by decide) (fun c_20 => ?_) (fun c_20 => ?_)
        · refine lv_iconst (v := 1) hx hb dX9_filled_27 (by decide) ?_
          refine iaddN (a := n) (b := 1) hx hb dX9_filled_28 ?_
          refine lv_istore_n (lv' := [(1, .int (nI (n + 1))), (0, .ref (ad 0)), (2, .int (nI i))]) hx hb dX9_filled_29 rfl hl (by decide) rfl (fun ls hl => ?_)
          refine lv_iinc (v := (nI (i + 1))) (lv' := [(2, .int (nI (i + 1))), (1, .int (nI (n + 1))), (0, .ref (ad 0))]) hx hb dX9_filled_30 hl (k := 2) rfl (nI_1 i) (by decide) rfl (fun ls hl => ?_)
          refine lv_goto (tgt := 4) hx hb dX9_filled_33 (by decide) ?_
          exact ih_4 (n + 1) (i + 1) (by omega) (by rw [← hI]; simp [cnt, c_7, c_7v, c_20]) _ _ _ N (lv_sub hl [2, 1, 0] rfl)
        · refine lv_iconst (v := 0) hx hb dX9_filled_23 (by decide) ?_
          refine lv_goto (tgt := 28) hx hb dX9_filled_24 (by decide) ?_
          refine iaddN (a := n) (b := 0) hx hb dX9_filled_28 ?_
          refine lv_istore_n (lv' := [(1, .int (nI (n + 0))), (0, .ref (ad 0)), (2, .int (nI i))]) hx hb dX9_filled_29 rfl hl (by decide) rfl (fun ls hl => ?_)
          refine lv_iinc (v := (nI (i + 1))) (lv' := [(2, .int (nI (i + 1))), (1, .int (nI (n + 0))), (0, .ref (ad 0))]) hx hb dX9_filled_30 hl (k := 2) rfl (nI_1 i) (by decide) rfl (fun ls hl => ?_)
          refine lv_goto (tgt := 4) hx hb dX9_filled_33 (by decide) ?_
          exact ih_4 (n + 0) (i + 1) (by omega) (by rw [← hI]; simp [cnt, c_7, c_7v, c_20]) _ _ _ N (lv_sub hl [2, 1, 0] rfl)
  exact cut_4 36 0 0 (by omega) rfl _ _ _ N (lv_sub hl [2, 1, 0] rfl)
set_option maxHeartbeats 4000000 in
set_option maxRecDepth 100000 in
theorem c_X9_sorts_now (l : Launch) (G : GM) (ad : Nat → Nat) (ex : va_W) (st : ST) (g : Nat → Int32) (ta : Nat) (one : Nat) (two : Nat) (bit : Nat) (hta : ta + 6 ≤ 900) (h1 : one ≤ 4) (h2 : two ≤ 4) : MMv l G yX9_sorts cX9_sorts 8 none 0 [.ref (ad 1), .int (nI ta), .int (nI one), .int (nI two), .int (nI bit)] ad ex (sA st 0 g) (sA st 0 (mSort g ta one two bit)) := by
  refine xv_start (by decide) (Nat.le_of_ble_eq_true rfl) ?_
  intro zp ze zs zm zargs zbelow zmeth zc zQ ls F N hl hret
  have hx := F.1
  have hb := F.2.1
  have hl : lv_has ls 8 [(0, .ref (ad 1)), (1, .int (nI ta)), (2, .int (nI one)), (3, .int (nI two)), (4, .int (nI bit))] := hl
  refine lv_aload_n hx hb dX9_sorts_0 rfl (lv_at hl 0 rfl) ?_
  refine lv_iload_n hx hb dX9_sorts_1 rfl (lv_at hl 1 rfl) ?_
  refine lv_iload_n hx hb dX9_sorts_2 rfl (lv_at hl 2 rfl) ?_
  refine iaddN (a := ta) (b := one) hx hb dX9_sorts_3 ?_
  refine amN_0 (j := (ta + one)) F N (by omega) dX9_sorts_4 ?_
  refine toI (y := g (ta + one)) rfl ?_
  refine lv_aload_n hx hb dX9_sorts_5 rfl (lv_at hl 0 rfl) ?_
  refine lv_iload_n hx hb dX9_sorts_6 rfl (lv_at hl 1 rfl) ?_
  refine lv_iload_n hx hb dX9_sorts_7 rfl (lv_at hl 3 rfl) ?_
  refine iaddN (a := ta) (b := two) hx hb dX9_sorts_8 ?_
  refine amN_0 (j := (ta + two)) F N (by omega) dX9_sorts_9 ?_
  refine toI (y := g (ta + two)) rfl ?_
  refine lv_icmp_gt (tgt := 14) hx hb dX9_sorts_10 (by decide) (fun c_10 => ?_) (fun c_10 => ?_)
  · have c_10v := lt_nle c_10
    refine lv_aload_n hx hb dX9_sorts_14 rfl (lv_at hl 0 rfl) ?_
    refine lv_iload_n hx hb dX9_sorts_15 rfl (lv_at hl 1 rfl) ?_
    refine lv_iload_n hx hb dX9_sorts_16 rfl (lv_at hl 2 rfl) ?_
    refine iaddN (a := ta) (b := one) hx hb dX9_sorts_17 ?_
    refine amN_0 (j := (ta + one)) F N (by omega) dX9_sorts_18 ?_
    refine toI (y := g (ta + one)) rfl ?_
    refine lv_istore (lv' := [(5, .int (g (ta + one))), (0, .ref (ad 1)), (1, .int (nI ta)), (2, .int (nI one)), (3, .int (nI two)), (4, .int (nI bit))]) hx hb dX9_sorts_19 hl (by decide) rfl (fun ls hl => ?_)
    refine lv_aload_n hx hb dX9_sorts_21 rfl (lv_at hl 1 rfl) ?_
    refine lv_iload_n hx hb dX9_sorts_22 rfl (lv_at hl 2 rfl) ?_
    refine lv_iload_n hx hb dX9_sorts_23 rfl (lv_at hl 3 rfl) ?_
    refine iaddN (a := ta) (b := one) hx hb dX9_sorts_24 ?_
    refine lv_aload_n hx hb dX9_sorts_25 rfl (lv_at hl 1 rfl) ?_
    refine lv_iload_n hx hb dX9_sorts_26 rfl (lv_at hl 2 rfl) ?_
    refine lv_iload_n hx hb dX9_sorts_27 rfl (lv_at hl 4 rfl) ?_
    refine iaddN (a := ta) (b := two) hx hb dX9_sorts_28 ?_
    refine amN_0 (j := (ta + two)) F N (by omega) dX9_sorts_29 ?_
    refine toI (y := g (ta + two)) rfl ?_
    refine smN_0 (j := (ta + one)) F N (by omega) dX9_sorts_30 (fun st_30 est_30 H locs N => ?_)
    replace N := eqM N (est_30.trans (sA_sA st 0 g (upd g (ta + one) (g (ta + two)))))
    refine lv_aload_n hx hb dX9_sorts_31 rfl (lv_at hl 1 rfl) ?_
    refine lv_iload_n hx hb dX9_sorts_32 rfl (lv_at hl 2 rfl) ?_
    refine lv_iload_n hx hb dX9_sorts_33 rfl (lv_at hl 4 rfl) ?_
    refine iaddN (a := ta) (b := two) hx hb dX9_sorts_34 ?_
    refine lv_iload hx hb dX9_sorts_35 (lv_at hl 0 rfl) ?_
    refine smN_0 (j := (ta + two)) F N (by omega) dX9_sorts_37 (fun st_37 est_37 H locs N => ?_)
    replace N := eqM N (est_37.trans (sA_sA st 0 (upd g (ta + one) (g (ta + two))) (upd (upd g (ta + one) (g (ta + two))) (ta + two) (g (ta + one)))))
    refine lv_aload_n hx hb dX9_sorts_38 rfl (lv_at hl 1 rfl) ?_
    refine lv_iload_n hx hb dX9_sorts_39 rfl (lv_at hl 2 rfl) ?_
    refine lv_iconst (v := 5) hx hb dX9_sorts_40 (by decide) ?_
    refine iaddN (a := ta) (b := 5) hx hb dX9_sorts_41 ?_
    refine amN_0 (j := (ta + 5)) F N (by omega) dX9_sorts_42 ?_
    refine toI (y := (upd (upd g (ta + one) (g (ta + two))) (ta + two) (g (ta + one))) (ta + 5)) rfl ?_
    refine lv_iload hx hb dX9_sorts_43 (lv_at hl 5 rfl) ?_
    refine lv_iand hx hb dX9_sorts_45 ?_
    refine lv_istore (lv' := [(6, .int (((upd (upd g (ta + one) (g (ta + two))) (ta + two) (g (ta + one))) (ta + 5)) &&& (nI bit))), (5, .int (g (ta + one))), (0, .ref (ad 1)), (1, .int (nI ta)), (2, .int (nI one)), (3, .int (nI two)), (4, .int (nI bit))]) hx hb dX9_sorts_46 hl (by decide) rfl (fun ls hl => ?_)
    refine lv_aload_n hx hb dX9_sorts_48 rfl (lv_at hl 2 rfl) ?_
    refine lv_iload_n hx hb dX9_sorts_49 rfl (lv_at hl 3 rfl) ?_
    refine lv_iconst (v := 5) hx hb dX9_sorts_50 (by decide) ?_
    refine iaddN (a := ta) (b := 5) hx hb dX9_sorts_51 ?_
    refine amN_0 (j := (ta + 5)) F N (by omega) dX9_sorts_52 ?_
    refine toI (y := (upd (upd g (ta + one) (g (ta + two))) (ta + two) (g (ta + one))) (ta + 5)) rfl ?_
    refine lv_iconst (v := 4) hx hb dX9_sorts_53 (by decide) ?_
    refine lv_iload hx hb dX9_sorts_54 (lv_at hl 6 rfl) ?_
    refine imulN (a := 4) (b := bit) hx hb dX9_sorts_56 ?_
    refine lv_iand hx hb dX9_sorts_57 ?_
    refine lv_istore (lv' := [(7, .int (((upd (upd g (ta + one) (g (ta + two))) (ta + two) (g (ta + one))) (ta + 5)) &&& (nI (4 * bit)))), (6, .int (((upd (upd g (ta + one) (g (ta + two))) (ta + two) (g (ta + one))) (ta + 5)) &&& (nI bit))), (5, .int (g (ta + one))), (0, .ref (ad 1)), (1, .int (nI ta)), (2, .int (nI one)), (3, .int (nI two)), (4, .int (nI bit))]) hx hb dX9_sorts_58 hl (by decide) rfl (fun ls hl => ?_)
    refine lv_aload_n hx hb dX9_sorts_60 rfl (lv_at hl 3 rfl) ?_
    refine lv_iload_n hx hb dX9_sorts_61 rfl (lv_at hl 4 rfl) ?_
    refine lv_iconst (v := 5) hx hb dX9_sorts_62 (by decide) ?_
    refine iaddN (a := ta) (b := 5) hx hb dX9_sorts_63 ?_
    refine lv_aload_n hx hb dX9_sorts_64 rfl (lv_at hl 3 rfl) ?_
    refine lv_iload_n hx hb dX9_sorts_65 rfl (lv_at hl 4 rfl) ?_
    refine lv_iconst (v := 5) hx hb dX9_sorts_66 (by decide) ?_
    refine iaddN (a := ta) (b := 5) hx hb dX9_sorts_67 ?_
    refine amN_0 (j := (ta + 5)) F N (by omega) dX9_sorts_68 ?_
    refine toI (y := (upd (upd g (ta + one) (g (ta + two))) (ta + two) (g (ta + one))) (ta + 5)) rfl ?_
    refine lv_iload hx hb dX9_sorts_69 (lv_at hl 1 rfl) ?_
    refine lv_isub hx hb dX9_sorts_71 ?_
    refine lv_iload hx hb dX9_sorts_72 (lv_at hl 0 rfl) ?_
    refine lv_isub hx hb dX9_sorts_74 ?_
    refine lv_iconst (v := 4) hx hb dX9_sorts_75 (by decide) ?_
    refine lv_iload hx hb dX9_sorts_76 (lv_at hl 1 rfl) ?_
    refine lv_imul hx hb dX9_sorts_78 ?_
    refine lv_iadd hx hb dX9_sorts_79 ?_
    refine lv_iload hx hb dX9_sorts_80 (lv_at hl 0 rfl) ?_
    refine lv_iconst (v := 4) hx hb dX9_sorts_82 (by decide) ?_
    refine lv_idiv hx hb dX9_sorts_83 (by decide) ?_
    refine lv_iadd hx hb dX9_sorts_84 ?_
    refine smN_0 (j := (ta + 5)) F N (by omega) dX9_sorts_85 (fun st_85 est_85 H locs N => ?_)
    replace N := eqM N (est_85.trans (sA_sA st 0 (upd (upd g (ta + one) (g (ta + two))) (ta + two) (g (ta + one))) (upd (upd (upd g (ta + one) (g (ta + two))) (ta + two) (g (ta + one))) (ta + 5) ((((((upd (upd g (ta + one) (g (ta + two))) (ta + two) (g (ta + one))) (ta + 5)) - (((upd (upd g (ta + one) (g (ta + two))) (ta + two) (g (ta + one))) (ta + 5)) &&& (nI bit))) - (((upd (upd g (ta + one) (g (ta + two))) (ta + two) (g (ta + one))) (ta + 5)) &&& (nI (4 * bit)))) + ((4 : Int32) * (((upd (upd g (ta + one) (g (ta + two))) (ta + two) (g (ta + one))) (ta + 5)) &&& (nI bit)))) + ((((upd (upd g (ta + one) (g (ta + two))) (ta + two) (g (ta + one))) (ta + 5)) &&& (nI (4 * bit))) / (4 : Int32))))))
    exact hret _ _ _ _ _ dX9_sorts_86 (by simp [mSort, mSort1, c_10, c_10v]) N
  · have c_10v := nlt_le c_10
    exact hret _ _ _ _ _ dX9_sorts_13 (by simp [mSort, mSort1, c_10, c_10v]) N
set_option maxHeartbeats 4000000 in
set_option maxRecDepth 100000 in
theorem c_X9_cellBy (l : Launch) (G : GM) (w : va_W) (way : Nat) (line : Nat) (ot : Nat) (hw : way < 2) : XCi l G yX9_cellBy cX9_cellBy 3 (some .int) 1 [.int (nI way), .int (nI line), .int (nI ot)] (w) (nI (mCb way line ot)) (w) := by
  refine xi_start (by decide) rfl (Nat.le_of_ble_eq_true rfl) ?_
  intro zp ze zs zm zargs zbelow zmeth zc zQ ls F N hl hret
  have hx := F.1
  have hb := F.2.1
  have hl : lv_has ls 3 [(0, .int (nI way)), (1, .int (nI line)), (2, .int (nI ot))] := hl
  refine lv_iload_n hx hb dX9_cellBy_0 rfl (lv_at hl 0 rfl) ?_
  refine ifN_ne (a := way) (tgt := 12) hx hb dX9_cellBy_1 (by decide) (by omega) (fun c_1 => ?_) (fun c_1 => ?_)
  · refine lv_iload_n hx hb dX9_cellBy_12 rfl (lv_at hl 1 rfl) ?_
    refine lv_iload_n hx hb dX9_cellBy_13 rfl (lv_at hl 2 rfl) ?_
    refine cS_i F N (c_X9_placeOf l G _ line ot) miX9_placeOf k_821 (by decide) hl.1 rfl (Nat.le_of_ble_eq_true rfl) dX9_cellBy_14 (fun H locs N => ?_)
    exact hret _ _ _ _ _ _ dX9_cellBy_17 (by simp [mCb, c_1]) (by rfl) N
  · refine lv_iload_n hx hb dX9_cellBy_4 rfl (lv_at hl 2 rfl) ?_
    refine lv_iload_n hx hb dX9_cellBy_5 rfl (lv_at hl 1 rfl) ?_
    refine cS_i F N (c_X9_placeOf l G _ ot line) miX9_placeOf k_821 (by decide) hl.1 rfl (Nat.le_of_ble_eq_true rfl) dX9_cellBy_6 (fun H locs N => ?_)
    refine lv_goto (tgt := 17) hx hb dX9_cellBy_9 (by decide) ?_
    exact hret _ _ _ _ _ _ dX9_cellBy_17 (by simp [mCb, c_1]) (by rfl) N
set_option maxHeartbeats 4000000 in
set_option maxRecDepth 100000 in
theorem c_X9_lineBehind (l : Launch) (G : GM) (w : va_W) (ln : Int32) (a : Int32) (n : Int32) : XCi l G yX9_lineBehind cX9_lineBehind 3 (some .int) 0 [.int ln, .int a, .int n] (w) (mLb ln a n) (w) := by
  refine xi_start (by decide) rfl (Nat.le_of_ble_eq_true rfl) ?_
  intro zp ze zs zm zargs zbelow zmeth zc zQ ls F N hl hret
  have hx := F.1
  have hb := F.2.1
  have hl : lv_has ls 3 [(0, .int ln), (1, .int a), (2, .int n)] := hl
  refine lv_iload_n hx hb dX9_lineBehind_0 rfl (lv_at hl 2 rfl) ?_
  refine lv_if_le (tgt := 28) hx hb dX9_lineBehind_1 (by decide) (fun c_1 => ?_) (fun c_1 => ?_)
  · have c_1v := le_nlt c_1
    refine lv_iload_n hx hb dX9_lineBehind_28 rfl (lv_at hl 0 rfl) ?_
    refine lv_iload_n hx hb dX9_lineBehind_29 rfl (lv_at hl 1 rfl) ?_
    refine lv_icmp_ge (tgt := 37) hx hb dX9_lineBehind_30 (by decide) (fun c_30 => ?_) (fun c_30 => ?_)
    · have c_30v := le_nlt c_30
      refine lv_iload_n hx hb dX9_lineBehind_37 rfl (lv_at hl 0 rfl) ?_
      refine lv_iload_n hx hb dX9_lineBehind_38 rfl (lv_at hl 1 rfl) ?_
      refine lv_iload_n hx hb dX9_lineBehind_39 rfl (lv_at hl 2 rfl) ?_
      refine lv_isub hx hb dX9_lineBehind_40 ?_
      refine lv_icmp_ge (tgt := 48) hx hb dX9_lineBehind_41 (by decide) (fun c_41 => ?_) (fun c_41 => ?_)
      · have c_41v := le_nlt c_41
        refine lv_iload_n hx hb dX9_lineBehind_48 rfl (lv_at hl 0 rfl) ?_
        refine lv_iload_n hx hb dX9_lineBehind_49 rfl (lv_at hl 2 rfl) ?_
        refine lv_iadd hx hb dX9_lineBehind_50 ?_
        exact hret _ _ _ _ _ _ dX9_lineBehind_51 (by first | rfl | (simp [bI, mLb, c_1, c_1v, c_30, c_30v, c_41, c_41v])) (by first | rfl | (simp [bI, mLb, c_1, c_1v, c_30, c_30v, c_41, c_41v])) N
      · have c_41v := nle_lt c_41
        refine lv_iconst (v := (-1)) hx hb dX9_lineBehind_44 (by decide) ?_
        refine lv_goto (tgt := 51) hx hb dX9_lineBehind_45 (by decide) ?_
        exact hret _ _ _ _ _ _ dX9_lineBehind_51 (by first | rfl | (simp [bI, mLb, c_1, c_1v, c_30, c_30v, c_41, c_41v])) (by first | rfl | (simp [bI, mLb, c_1, c_1v, c_30, c_30v, c_41, c_41v])) N
    · have c_30v := nle_lt c_30
      refine lv_iload_n hx hb dX9_lineBehind_33 rfl (lv_at hl 0 rfl) ?_
      refine lv_goto (tgt := 51) hx hb dX9_lineBehind_34 (by decide) ?_
      exact hret _ _ _ _ _ _ dX9_lineBehind_51 (by first | rfl | (simp [bI, mLb, c_1, c_1v, c_30, c_30v])) (by first | rfl | (simp [bI, mLb, c_1, c_1v, c_30, c_30v])) N
  · have c_1v := nle_lt c_1
    refine lv_iload_n hx hb dX9_lineBehind_4 rfl (lv_at hl 0 rfl) ?_
    refine lv_iload_n hx hb dX9_lineBehind_5 rfl (lv_at hl 1 rfl) ?_
    refine lv_icmp_ge (tgt := 13) hx hb dX9_lineBehind_6 (by decide) (fun c_6 => ?_) (fun c_6 => ?_)
    · have c_6v := le_nlt c_6
      refine lv_iload_n hx hb dX9_lineBehind_13 rfl (lv_at hl 0 rfl) ?_
      refine lv_iload_n hx hb dX9_lineBehind_14 rfl (lv_at hl 2 rfl) ?_
      refine lv_iadd hx hb dX9_lineBehind_15 ?_
      refine lv_iconst (v := 5) hx hb dX9_lineBehind_16 (by decide) ?_
      refine lv_icmp_le (tgt := 24) hx hb dX9_lineBehind_17 (by decide) (fun c_17 => ?_) (fun c_17 => ?_)
      · have c_17v := le_nlt c_17
        refine lv_iload_n hx hb dX9_lineBehind_24 rfl (lv_at hl 0 rfl) ?_
        refine lv_iload_n hx hb dX9_lineBehind_25 rfl (lv_at hl 2 rfl) ?_
        refine lv_iadd hx hb dX9_lineBehind_26 ?_
        exact hret _ _ _ _ _ _ dX9_lineBehind_27 (by first | rfl | (simp [bI, mLb, c_1, c_1v, c_6, c_6v, c_17, c_17v])) (by first | rfl | (simp [bI, mLb, c_1, c_1v, c_6, c_6v, c_17, c_17v])) N
      · have c_17v := nle_lt c_17
        refine lv_iconst (v := (-1)) hx hb dX9_lineBehind_20 (by decide) ?_
        refine lv_goto (tgt := 27) hx hb dX9_lineBehind_21 (by decide) ?_
        exact hret _ _ _ _ _ _ dX9_lineBehind_27 (by first | rfl | (simp [bI, mLb, c_1, c_1v, c_6, c_6v, c_17, c_17v])) (by first | rfl | (simp [bI, mLb, c_1, c_1v, c_6, c_6v, c_17, c_17v])) N
    · have c_6v := nle_lt c_6
      refine lv_iload_n hx hb dX9_lineBehind_9 rfl (lv_at hl 0 rfl) ?_
      refine lv_goto (tgt := 27) hx hb dX9_lineBehind_10 (by decide) ?_
      exact hret _ _ _ _ _ _ dX9_lineBehind_27 (by first | rfl | (simp [bI, mLb, c_1, c_1v, c_6, c_6v])) (by first | rfl | (simp [bI, mLb, c_1, c_1v, c_6, c_6v])) N
set_option maxHeartbeats 4000000 in
set_option maxRecDepth 100000 in
theorem c_X9_shiftsCells (l : Launch) (G : GM) (ad : Nat → Nat) (ex : va_W) (st : ST) (g : Nat → Int32) (way : Nat) (a : Nat) (n : Int32) (o : Nat → Option Nat) (hw : way < 2) (ho : ∀ x, x < 6 → mLb (nI x) (nI a) n = oI (o x)) (ho6 : ∀ x, x < 6 → (o x).getD 0 < 6) : MMv l G yX9_shiftsCells cX9_shiftsCells 7 none 2 [.ref (ad 0), .int (nI way), .int (nI a), .int n] ad ex (sA st 0 g) (sA st 0 (mShC (st.2.1 1) way o g)) := by
  refine xv_start (by decide) (Nat.le_of_ble_eq_true rfl) ?_
  intro zp ze zs zm zargs zbelow zmeth zc zQ ls F N hl hret
  have hx := F.1
  have hb := F.2.1
  have hl : lv_has ls 7 [(0, .ref (ad 0)), (1, .int (nI way)), (2, .int (nI a)), (3, .int n)] := hl
  refine lv_iconst (v := 0) hx hb dX9_shiftsCells_0 (by decide) ?_
  refine lv_istore (lv' := [(4, .int 0), (0, .ref (ad 0)), (1, .int (nI way)), (2, .int (nI a)), (3, .int n)]) hx hb dX9_shiftsCells_1 hl (by decide) rfl (fun ls hl => ?_)
  have cut_3 : ∀ (k : Nat) (i : Nat) (g2 : Nat → Int32), i + k = 36 → lp (fun k g => mEmp g (25 * k)) k i g2 = lp (fun k g => mEmp g (25 * k)) 36 0 g → ∀ (H : Heap) (locs : List Loc) (ls : Array Slot), Now G zs (MW G ad (sA st 0 g2) ++ ex) H locs → lv_has ls 7 [(0, .ref (ad 0)), (1, .int (nI way)), (2, .int (nI a)), (3, .int n), (4, .int (nI i))] → W zp l ze (RM 2) zs zm zargs zbelow zmeth zc H locs 0 0 zQ (F0 zm 3 ls []) := by
    intro k
    induction k with
    | zero =>
      intro i g2 hk hI H locs ls N hl
      refine lv_iload hx hb dX9_shiftsCells_3 (lv_at hl 4 rfl) ?_
      refine lv_bipush (v := 36) hx hb dX9_shiftsCells_5 (by decide) ?_
      refine cmpN_ge (a := i) (b := 36) (tgt := 25) hx hb dX9_shiftsCells_7 (by decide) (by omega) (by omega) (fun c_7 => ?_) (fun c_7 => ?_)
      · have c_7v := Nat.not_lt.mpr c_7
        refine lv_iconst (v := 0) hx hb dX9_shiftsCells_25 (by decide) ?_
        refine lv_istore (lv' := [(4, .int 0), (0, .ref (ad 0)), (1, .int (nI way)), (2, .int (nI a)), (3, .int n)]) hx hb dX9_shiftsCells_26 hl (by decide) rfl (fun ls hl => ?_)
        have cut_28 : ∀ (k : Nat) (i : Nat) (g3 : Nat → Int32), i + k = 6 → lp (mShL (st.2.1 1) way o) k i g3 = mShC (st.2.1 1) way o g → ∀ (H : Heap) (locs : List Loc) (ls : Array Slot), Now G zs (MW G ad (sA st 0 g3) ++ ex) H locs → lv_has ls 7 [(0, .ref (ad 0)), (1, .int (nI way)), (2, .int (nI a)), (3, .int n), (4, .int (nI i))] → W zp l ze (RM 2) zs zm zargs zbelow zmeth zc H locs 0 0 zQ (F0 zm 28 ls []) := by
          intro k
          induction k with
          | zero =>
            intro i g3 hk hJ H locs ls N hl
            refine lv_iload hx hb dX9_shiftsCells_28 (lv_at hl 4 rfl) ?_
            refine lv_bipush (v := 6) hx hb dX9_shiftsCells_30 (by decide) ?_
            refine cmpN_ge (a := i) (b := 6) (tgt := 92) hx hb dX9_shiftsCells_32 (by decide) (by omega) (by omega) (fun c_32 => ?_) (fun c_32 => ?_)
            · have c_32v := Nat.not_lt.mpr c_32
              exact hret _ _ _ _ _ dX9_shiftsCells_92 (by rw [← hJ]; rfl) N
            · exfalso; omega
          | succ k ih_28 =>
            intro i g3 hk hJ H locs ls N hl
            refine lv_iload hx hb dX9_shiftsCells_28 (lv_at hl 4 rfl) ?_
            refine lv_bipush (v := 6) hx hb dX9_shiftsCells_30 (by decide) ?_
            refine cmpN_ge (a := i) (b := 6) (tgt := 92) hx hb dX9_shiftsCells_32 (by decide) (by omega) (by omega) (fun c_32 => ?_) (fun c_32 => ?_)
            · exfalso; omega
            · have c_32v := Nat.not_le.mp c_32
              refine lv_iload hx hb dX9_shiftsCells_35 (lv_at hl 4 rfl) ?_
              refine lv_iload_n hx hb dX9_shiftsCells_37 rfl (lv_at hl 2 rfl) ?_
              refine lv_iload_n hx hb dX9_shiftsCells_38 rfl (lv_at hl 3 rfl) ?_
              refine cS_i F N (c_X9_lineBehind l G _ (nI i) (nI a) n) miX9_lineBehind k_851 (by decide) hl.1 rfl (Nat.le_of_ble_eq_true rfl) dX9_shiftsCells_39 (fun H locs N => ?_)
              refine toI (y := oI (o i)) (ho i (by omega)) ?_
              refine lv_istore (lv' := [(5, .int (oI (o i))), (0, .ref (ad 0)), (1, .int (nI way)), (2, .int (nI a)), (3, .int n), (4, .int (nI i))]) hx hb dX9_shiftsCells_42 hl (by decide) rfl (fun ls hl => ?_)
              refine lv_iconst (v := 0) hx hb dX9_shiftsCells_44 (by decide) ?_
              refine lv_istore (lv' := [(6, .int 0), (5, .int (oI (o i))), (0, .ref (ad 0)), (1, .int (nI way)), (2, .int (nI a)), (3, .int n), (4, .int (nI i))]) hx hb dX9_shiftsCells_45 hl (by decide) rfl (fun ls hl => ?_)
              have cut_47 : ∀ (k2 : Nat) (j : Nat) (g4 : Nat → Int32), j + k2 = 6 → (if oI (o i) = -1 then g4 else lp (mShI (st.2.1 1) way o i) k2 j g4) = mShL (st.2.1 1) way o i g3 → ∀ (H : Heap) (locs : List Loc) (ls : Array Slot), Now G zs (MW G ad (sA st 0 g4) ++ ex) H locs → lv_has ls 7 [(0, .ref (ad 0)), (1, .int (nI way)), (2, .int (nI a)), (3, .int n), (4, .int (nI i)), (5, .int (oI (o i))), (6, .int (nI j))] → W zp l ze (RM 2) zs zm zargs zbelow zmeth zc H locs 0 0 zQ (F0 zm 47 ls []) := by
                intro k2
                induction k2 with
                | zero =>
                  intro j g4 hk2 hK H locs ls N hl
                  refine lv_iload hx hb dX9_shiftsCells_47 (lv_at hl 6 rfl) ?_
                  refine lv_bipush (v := 6) hx hb dX9_shiftsCells_49 (by decide) ?_
                  refine cmpN_ge (a := j) (b := 6) (tgt := 86) hx hb dX9_shiftsCells_51 (by decide) (by omega) (by omega) (fun c_51 => ?_) (fun c_51 => ?_)
                  · have c_51v := Nat.not_lt.mpr c_51
                    refine lv_iinc (v := (nI (i + 1))) (lv' := [(4, .int (nI (i + 1))), (0, .ref (ad 0)), (1, .int (nI way)), (2, .int (nI a)), (3, .int n), (5, .int (oI (o i))), (6, .int (nI j))]) hx hb dX9_shiftsCells_86 hl (k := 4) rfl (nI_1 i) (by decide) rfl (fun ls hl => ?_)
                    refine lv_goto (tgt := 28) hx hb dX9_shiftsCells_89 (by decide) ?_
                    exact ih_28 (i + 1) g4 (by omega) (by rw [← hJ, lp_s]; exact congrArg _ (by first | (rw [← hK, if_pos c_57]; done) | (rw [← hK]; split <;> rfl))) _ _ _ N (lv_sub hl [1, 2, 3, 4, 0] rfl)
                  · exfalso; omega
                | succ k2 ih_47 =>
                  intro j g4 hk2 hK H locs ls N hl
                  refine lv_iload hx hb dX9_shiftsCells_47 (lv_at hl 6 rfl) ?_
                  refine lv_bipush (v := 6) hx hb dX9_shiftsCells_49 (by decide) ?_
                  refine cmpN_ge (a := j) (b := 6) (tgt := 86) hx hb dX9_shiftsCells_51 (by decide) (by omega) (by omega) (fun c_51 => ?_) (fun c_51 => ?_)
                  · exfalso; omega
                  · have c_51v := Nat.not_le.mp c_51
                    refine lv_iload hx hb dX9_shiftsCells_54 (lv_at hl 5 rfl) ?_
                    refine lv_iconst (v := (-1)) hx hb dX9_shiftsCells_56 (by decide) ?_
                    refine lv_icmp_eq (tgt := 86) hx hb dX9_shiftsCells_57 (by decide) (fun c_57 => ?_) (fun c_57 => ?_)
                    · refine lv_iinc (v := (nI (i + 1))) (lv' := [(4, .int (nI (i + 1))), (0, .ref (ad 0)), (1, .int (nI way)), (2, .int (nI a)), (3, .int n), (5, .int (oI (o i))), (6, .int (nI j))]) hx hb dX9_shiftsCells_86 hl (k := 4) rfl (nI_1 i) (by decide) rfl (fun ls hl => ?_)
                      refine lv_goto (tgt := 28) hx hb dX9_shiftsCells_89 (by decide) ?_
                      exact ih_28 (i + 1) g4 (by omega) (by rw [← hJ, lp_s]; exact congrArg _ (by first | (rw [← hK, if_pos c_57]; done) | (rw [← hK]; split <;> rfl))) _ _ _ N (lv_sub hl [1, 2, 3, 4, 0] rfl)
                    · refine lv_aload_n hx hb dX9_shiftsCells_60 rfl (lv_at hl 0 rfl) ?_
                      refine lv_iload_n hx hb dX9_shiftsCells_61 rfl (lv_at hl 1 rfl) ?_
                      refine lv_iload hx hb dX9_shiftsCells_62 (lv_at hl 5 rfl) ?_
                      refine toN (a := (o i).getD 0) ((oI_or (o i)).resolve_left c_57) ?_
                      refine lv_iload hx hb dX9_shiftsCells_64 (lv_at hl 6 rfl) ?_
                      refine cS_i F N (c_X9_cellBy l G _ way ((o i).getD 0) j hw) miX9_cellBy k_840 (by decide) hl.1 rfl (Nat.le_of_ble_eq_true rfl) dX9_shiftsCells_66 (fun H locs N => ?_)
                      refine lv_iload_n hx hb dX9_shiftsCells_69 rfl (lv_at hl 1 rfl) ?_
                      refine lv_iload hx hb dX9_shiftsCells_70 (lv_at hl 4 rfl) ?_
                      refine lv_iload hx hb dX9_shiftsCells_72 (lv_at hl 6 rfl) ?_
                      refine cS_i F N (c_X9_cellBy l G _ way i j hw) miX9_cellBy k_840 (by decide) hl.1 rfl (Nat.le_of_ble_eq_true rfl) dX9_shiftsCells_74 (fun H locs N => ?_)
                      refine cV_v F N (c_X9_takes l G ad ex st g4 (mCb way ((o i).getD 0) j) (mCb way i j) (by have h9 := mCb_le (way := way) (ho6 i (by omega)) (show j < 6 by omega); omega) (by have h9 := mCb_le (way := way) (show i < 6 by omega) (show j < 6 by omega); omega)) miX9_takes k_854 (by decide) hl.1 rfl (Nat.le_of_ble_eq_true rfl) (q0 := 0) (ci := 8) rfl rfl dX9_shiftsCells_77 (fun H locs N => ?_)
                      refine lv_iinc (v := (nI (j + 1))) (lv' := [(6, .int (nI (j + 1))), (0, .ref (ad 0)), (1, .int (nI way)), (2, .int (nI a)), (3, .int n), (4, .int (nI i)), (5, .int (oI (o i)))]) hx hb dX9_shiftsCells_80 hl (k := 6) rfl (nI_1 j) (by decide) rfl (fun ls hl => ?_)
                      refine lv_goto (tgt := 47) hx hb dX9_shiftsCells_83 (by decide) ?_
                      exact ih_47 (j + 1) (mTak (st.2.1 1) g4 (mCb way ((o i).getD 0) j) (mCb way i j)) (by omega) (by rw [← hK, if_neg c_57, if_neg c_57]; rfl) _ _ _ N (lv_sub hl [1, 2, 3, 4, 5, 6, 0] rfl)
              exact cut_47 6 0 g3 (by omega) rfl _ _ _ N (lv_sub hl [2, 3, 4, 5, 6, 1, 0] rfl)
        exact cut_28 6 0 g2 (by omega) (by unfold mShC; rw [← hI]; rfl) _ _ _ N (lv_sub hl [1, 2, 3, 4, 0] rfl)
      · exfalso; omega
    | succ k ih_3 =>
      intro i g2 hk hI H locs ls N hl
      refine lv_iload hx hb dX9_shiftsCells_3 (lv_at hl 4 rfl) ?_
      refine lv_bipush (v := 36) hx hb dX9_shiftsCells_5 (by decide) ?_
      refine cmpN_ge (a := i) (b := 36) (tgt := 25) hx hb dX9_shiftsCells_7 (by decide) (by omega) (by omega) (fun c_7 => ?_) (fun c_7 => ?_)
      · exfalso; omega
      · have c_7v := Nat.not_le.mp c_7
        refine lv_aload_n hx hb dX9_shiftsCells_10 rfl (lv_at hl 0 rfl) ?_
        refine lv_bipush (v := 25) hx hb dX9_shiftsCells_11 (by decide) ?_
        refine lv_iload hx hb dX9_shiftsCells_13 (lv_at hl 4 rfl) ?_
        refine imulN (a := 25) (b := i) hx hb dX9_shiftsCells_15 ?_
        refine cV_v F N (c_X9_empty l G ad ex st g2 (25 * i) (by omega)) miX9_empty k_828 (by decide) hl.1 rfl (Nat.le_of_ble_eq_true rfl) (q0 := 0) (ci := 8) rfl rfl dX9_shiftsCells_16 (fun H locs N => ?_)
        refine lv_iinc (v := (nI (i + 1))) (lv' := [(4, .int (nI (i + 1))), (0, .ref (ad 0)), (1, .int (nI way)), (2, .int (nI a)), (3, .int n)]) hx hb dX9_shiftsCells_19 hl (k := 4) rfl (nI_1 i) (by decide) rfl (fun ls hl => ?_)
        refine lv_goto (tgt := 3) hx hb dX9_shiftsCells_22 (by decide) ?_
        exact ih_3 (i + 1) (mEmp g2 (25 * i)) (by omega) hI _ _ _ N (lv_sub hl [1, 2, 3, 4, 0] rfl)
  exact cut_3 36 0 g (by omega) rfl _ _ _ N (lv_sub hl [1, 2, 3, 4, 0] rfl)
