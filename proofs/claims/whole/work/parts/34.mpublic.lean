/-! the reference's public calls, first half -/
def mBad (st : ST) : ST := sA st 3 (upd (st.2.1 3) 0 (st.2.1 3 0 + 1))
def mNo (st : ST) : ST := sA st 3 (upd (st.2.1 3) 1 (st.2.1 3 1 + 1))
def mFull (st : ST) : ST := sA st 3 (upd (st.2.1 3) 2 (st.2.1 3 2 + 1))
def mLay (st : ST) : Nat → Int32 := lp (fun i h => upd h i (st.2.1 0 i)) 900 0 (st.2.1 1)
def mRemN (sz : Nat) : Nat := if sz = 6 then 5 else sz
theorem mRemN_le {sz : Nat} (h : sz ≤ 6) : mRemN sz ≤ 5 := by unfold mRemN; split <;> omega
def mRemQ (st : ST) (sz : Nat) : Nat → Int32 := if sz = 6 then lp (fun i p => upd p i (p (i + 900))) 4500 0 (st.2.1 2) else st.2.1 2
def mRemP (st : ST) (sz : Nat) : Nat → Int32 := lp (fun i p => upd p (900 * mRemN sz + i) (st.2.1 1 i)) 900 0 (mRemQ st sz)
def mRem (st : ST) (sz : Nat) : ST := sI (sA st 2 (mRemP st sz)) 0 (nI (mRemN sz + 1))
def mLR (st : ST) (sz : Nat) : ST := mRem (sA st 1 (mLay st)) sz
def mBackG (st : ST) (sz : Nat) : Nat → Int32 := lp (fun i g => upd g i (st.2.1 2 (900 * (sz - 1) + i))) 900 0 (st.2.1 0)
def mBack (st : ST) (sz : Nat) : Int32 × ST := if sz = 0 then (-3, mNo st) else (nI (sz - 1), sA (sI st 0 (nI (sz - 1))) 0 (mBackG st sz))
def mType (st : ST) (L : Nat) (c : Int32) : Int32 × ST := if xIsW c 0 127 = false then (-2, mBad st) else if L = 60 then (-4, mFull st) else (nI (L + 1), sI (sA st 4 (upd (st.2.1 4) L c)) 1 (nI (L + 1)))
def mPutG (st : ST) (f : Nat → Int32) (L ce : Nat) : Nat → Int32 := lp (fun i g => upd g (ce + i) ((mRd st f L).2.2.1 i)) 25 0 (st.2.1 0)
def mPut (st : ST) (f : Nat → Int32) (L sz ce : Nat) : Int32 × ST :=
  if (mRd st f L).1 = true then ((mRd st f L).2.2.1 0, sA (mLR (mS st (mRd st f L).2) sz) 0 (mPutG st f L ce)) else (-10 - (mRd st f L).2.2.2, mS st (mRd st f L).2)
def mComes (st : ST) (sz way a n : Nat) (cn : Nat → Nat) : Int32 × ST :=
  if mWl (st.2.1 0) way a n = true then (-3, mNo st)
  else (nI (mFil (mSh (mLay st) way (nI a) (nI n) (fun x => cmN x a n) cn (st.2.1 0))), sA (mLR st sz) 0 (mSh (mLay st) way (nI a) (nI n) (fun x => cmN x a n) cn (st.2.1 0)))
def mGoesG (st : ST) (way a n : Nat) (cn : Nat → Nat) : Nat → Int32 := mSh (mLay st) way (nI a) (-(nI n)) (fun x => goN x a n) cn (st.2.1 0)
theorem mLb_come {a n : Nat} (ha : a < 6) (hn1 : 1 ≤ n) (hn : n ≤ 6) : ∀ x, x < 6 → mLb (nI x) (nI a) (nI n) = oI (cmN x a n) := by
  intro x hx
  have h0 : ¬ nI n ≤ 0 := nI_nle (by omega) (by omega)
  unfold mLb cmN
  rw [if_neg h0]
  by_cases h1 : x < a
  · rw [if_neg (nI_ge h1 (by omega)), if_pos h1]; rfl
  · rw [if_pos (nI_le (by omega) (by omega)), if_neg h1, nI_add]
    by_cases h2 : 6 ≤ x + n
    · rw [if_neg (show ¬ nI (x + n) ≤ (5 : Int32) from nI_ge (a := 5) (by omega) (by omega)), if_pos h2]; rfl
    · rw [if_pos (show nI (x + n) ≤ (5 : Int32) from nI_le (b := 5) (by omega) (by decide)), if_neg h2]; rfl
theorem i_neg (a b : Int32) : a - -b = a + b := by grind
theorem i_neg2 (a b : Int32) : a + -b = a - b := by grind
theorem mLb_go {a n : Nat} (ha : a < 6) (hn1 : 1 ≤ n) (hn : a + n ≤ 6) : ∀ x, x < 6 → mLb (nI x) (nI a) (-(nI n)) = oI (goN x a n) := by
  intro x hx
  have h0 : -(nI n) ≤ 0 := by
    have hn2 : n = 1 ∨ n = 2 ∨ n = 3 ∨ n = 4 ∨ n = 5 ∨ n = 6 := by omega
    rcases hn2 with rfl | rfl | rfl | rfl | rfl | rfl <;> decide
  unfold mLb goN
  rw [if_pos h0, i_neg, i_neg2, nI_add]
  by_cases h1 : x < a
  · rw [if_neg (nI_ge h1 (by omega)), if_pos h1]; rfl
  · rw [if_pos (nI_le (by omega) (by omega)), if_neg h1]
    by_cases h2 : x < a + n
    · rw [if_neg (nI_ge h2 (by omega)), if_pos h2]; rfl
    · rw [if_pos (nI_le (by omega) (by omega)), if_neg h2, nI_sub (by omega)]; rfl
def mMvF (c r p q wd ht : Nat) (ta : Nat) (x : Nat × (Nat → Int32)) : Nat × (Nat → Int32) :=
  if x.2 (ta + 0) = 1 ∨ x.2 (ta + 0) = 2 then
    (if mLi x.2 ta c r wd ht = true then (x.1, mPu x.2 ta (nI p - nI c) (nI q - nI r)) else if mLi x.2 ta p q wd ht = true then (x.1 + 1, mBrk x.2 ta) else x)
  else x
def mPo (c r wd i : Nat) : Nat := 25 * (6 * (r + i / wd) + (c + i % wd))
theorem mPo_le {c r wd ht i : Nat} (hi : i < wd * ht) (hw : 0 < wd) (hc : c + wd ≤ 6) (hr : r + ht ≤ 6) : mPo c r wd i + 25 ≤ 900 := by
  have h1 : i % wd < wd := Nat.mod_lt i hw
  have h2 : i / wd < ht := Nat.div_lt_of_lt_mul hi
  unfold mPo
  omega
def mMvG (st : ST) (c r p q wd ht : Nat) : Nat → Int32 := lp (fun i g => mTak (mLay st) g (mPo p q wd i) (mPo c r wd i)) (wd * ht) 0 (lp (fun i g => mEmp g (mPo c r wd i)) (wd * ht) 0 (st.2.1 0))
def mMvW (c r p q wd ht : Nat) (cn : Nat → Nat) (k : Nat) (x : Nat × (Nat → Int32)) : Nat × (Nat → Int32) := lp (fun i x => mMvF c r p q wd ht (25 * k + 1 + 6 * i) x) (cn k) 0 x
def mMvR (st : ST) (c r p q wd ht : Nat) (cn : Nat → Nat) : Nat × (Nat → Int32) := lp (mMvW c r p q wd ht cn) 36 0 (0, mMvG st c r p q wd ht)
def mCyF (c r p q : Nat) (ta : Nat) (x : Nat × (Nat → Int32)) : Nat × (Nat → Int32) :=
  if x.2 (ta + 0) = 1 ∨ x.2 (ta + 0) = 2 then (if mGo x.2 ta (nI p - nI c) (nI q - nI r) (ta + 0) = 3 then x.1 + 1 else x.1, mGo x.2 ta (nI p - nI c) (nI q - nI r))
  else (if x.2 (ta + 0) = 3 then x.1 + 1 else x.1, x.2)
def mCyW (h : Nat → Int32) (c r p q wd : Nat) (cn : Nat → Nat) (k : Nat) (x : Nat × (Nat → Int32)) : Nat × (Nat → Int32) :=
  lp (fun i x => mCyF c r p q (mPo p q wd k + 1 + 6 * i) x) (cn k) 0 (x.1, mTak h x.2 (mPo p q wd k) (mPo c r wd k))
def mCyR (st : ST) (c r p q wd ht : Nat) (cn : Nat → Nat) : Nat × (Nat → Int32) := lp (mCyW (mLay st) c r p q wd cn) (wd * ht) 0 (0, st.2.1 0)
theorem mTak_0 {h g : Nat → Int32} {to fr : Nat} : mTak h g to fr to = h fr := by
  unfold mTak
  rw [lp_s, lp_out2 24 1 _ (fun k g h1 _ => upd_other _ _ (by omega))]
  exact upd_same _ _ _
set_option maxHeartbeats 4000000 in
set_option maxRecDepth 100000 in
theorem c_X9_bad (l : Launch) (G : GM) (ad : Nat → Nat) (ex : va_W) (st : ST) : MMi l G yX9_bad cX9_bad 1 (some .int) 0 [.ref (ad 0)] ad ex st (-2) (mBad st) := by
  refine xi_start (by decide) rfl (Nat.le_of_ble_eq_true rfl) ?_
  intro zp ze zs zm zargs zbelow zmeth zc zQ ls F N hl hret
  have hx := F.1
  have hb := F.2.1
  have hl : lv_has ls 1 [(0, .ref (ad 0))] := hl
  refine lv_aload_n hx hb dX9_bad_0 rfl (lv_at hl 0 rfl) ?_
  refine gm_0_refused F N k_686 dX9_bad_1 ?_
  refine lv_iconst (v := 0) hx hb dX9_bad_4 (by decide) ?_
  refine lv_dup2_11 hx hb dX9_bad_5 rfl rfl ?_
  refine amN_3 (j := 0) F N (by omega) dX9_bad_6 ?_
  refine lv_iconst (v := 1) hx hb dX9_bad_7 (by decide) ?_
  refine lv_iadd hx hb dX9_bad_8 ?_
  refine smN_3 (j := 0) F N (by omega) dX9_bad_9 (fun st_9 est_9 H locs N => ?_)
  refine lv_bipush (v := (-2)) hx hb dX9_bad_10 (by decide) ?_
  exact hret _ _ _ _ _ _ dX9_bad_12 (by first | rfl | (subst est_9; rfl) | (subst est_9; simp [bI])) (by first | rfl | (subst est_9; rfl) | (subst est_9; simp [bI])) N
set_option maxHeartbeats 4000000 in
set_option maxRecDepth 100000 in
theorem c_X9_laysAside (l : Launch) (G : GM) (ad : Nat → Nat) (ex : va_W) (st : ST) : MMv l G yX9_laysAside cX9_laysAside 2 none 0 [.ref (ad 0)] ad ex st (sA st 1 (mLay st)) := by
  refine xv_start (by decide) (Nat.le_of_ble_eq_true rfl) ?_
  intro zp ze zs zm zargs zbelow zmeth zc zQ ls F N hl hret
  have hx := F.1
  have hb := F.2.1
  have hl : lv_has ls 2 [(0, .ref (ad 0))] := hl
  refine lv_iconst (v := 0) hx hb dX9_laysAside_0 (by decide) ?_
  refine lv_istore_n (lv' := [(1, .int 0), (0, .ref (ad 0))]) hx hb dX9_laysAside_1 rfl hl (by decide) rfl (fun ls hl => ?_)
  have cut_2 : ∀ (k : Nat) (i : Nat) (g2 : Nat → Int32) (s1 : ST), i + k = 900 → s1 = sA st 1 g2 → lp (fun i h => upd h i (st.2.1 0 i)) k i g2 = mLay st → ∀ (H : Heap) (locs : List Loc) (ls : Array Slot), Now G zs (MW G ad s1 ++ ex) H locs → lv_has ls 2 [(0, .ref (ad 0)), (1, .int (nI i))] → W zp l ze (RM 0) zs zm zargs zbelow zmeth zc H locs 0 0 zQ (F0 zm 2 ls []) := by
    intro k
    induction k with
    | zero =>
      intro i g2 s1 hk hs hI H locs ls N hl
      refine lv_iload_n hx hb dX9_laysAside_2 rfl (lv_at hl 1 rfl) ?_
      refine lv_sipush (v := 900) hx hb dX9_laysAside_3 (by decide) ?_
      refine cmpN_ge (a := i) (b := 900) (tgt := 27) hx hb dX9_laysAside_6 (by decide) (by omega) (by omega) (fun c_6 => ?_) (fun c_6 => ?_)
      · have c_6v := Nat.not_lt.mpr c_6
        exact hret _ _ _ _ _ dX9_laysAside_27 (by rw [hs, ← hI]; rfl) N
      · exfalso; omega
    | succ k ih_2 =>
      intro i g2 s1 hk hs hI H locs ls N hl
      refine lv_iload_n hx hb dX9_laysAside_2 rfl (lv_at hl 1 rfl) ?_
      refine lv_sipush (v := 900) hx hb dX9_laysAside_3 (by decide) ?_
      refine cmpN_ge (a := i) (b := 900) (tgt := 27) hx hb dX9_laysAside_6 (by decide) (by omega) (by omega) (fun c_6 => ?_) (fun c_6 => ?_)
      · exfalso; omega
      · have c_6v := Nat.not_le.mp c_6
        refine lv_aload_n hx hb dX9_laysAside_9 rfl (lv_at hl 0 rfl) ?_
        refine gm_0_aside F N k_683 dX9_laysAside_10 ?_
        refine lv_iload_n hx hb dX9_laysAside_13 rfl (lv_at hl 1 rfl) ?_
        refine lv_aload_n hx hb dX9_laysAside_14 rfl (lv_at hl 0 rfl) ?_
        refine gm_0_now F N k_682 dX9_laysAside_15 ?_
        refine lv_iload_n hx hb dX9_laysAside_18 rfl (lv_at hl 1 rfl) ?_
        refine amN_0 (j := i) F N (by omega) dX9_laysAside_19 ?_
        refine toI (y := st.2.1 0 i) (by rw [hs]; rfl) ?_
        refine smN_1 (j := i) F N (by omega) dX9_laysAside_20 (fun st_20 est_20 H locs N => ?_)
        refine lv_iinc (v := (nI (i + 1))) (lv' := [(1, .int (nI (i + 1))), (0, .ref (ad 0))]) hx hb dX9_laysAside_21 hl (k := 1) rfl (nI_1 i) (by decide) rfl (fun ls hl => ?_)
        refine lv_goto (tgt := 2) hx hb dX9_laysAside_24 (by decide) ?_
        exact ih_2 (i + 1) (upd g2 i (st.2.1 0 i)) st_20 (by omega) (by rw [est_20, hs]; simp [sA_21, sA_sA]) hI _ _ _ N (lv_sub hl [1, 0] rfl)
  exact cut_2 900 0 (st.2.1 1) st (by omega) (sA_self rfl).symm rfl _ _ _ N (lv_sub hl [1, 0] rfl)
set_option maxHeartbeats 4000000 in
set_option maxRecDepth 100000 in
theorem c_X9_remembers (l : Launch) (G : GM) (ad : Nat → Nat) (ex : va_W) (st : ST) (sz : Nat) (hsz : st.1 0 = nI sz) (hsz2 : sz ≤ 6) : MMv l G yX9_remembers cX9_remembers 2 none 0 [.ref (ad 0)] ad ex st (mRem st sz) := by
  refine xv_start (by decide) (Nat.le_of_ble_eq_true rfl) ?_
  intro zp ze zs zm zargs zbelow zmeth zc zQ ls F N hl hret
  have hx := F.1
  have hb := F.2.1
  have hl : lv_has ls 2 [(0, .ref (ad 0))] := hl
  have hrn := mRemN_le hsz2
  have cut_50 : ∀ (s1 : ST), s1 = sI (sA st 2 (mRemQ st sz)) 0 (nI (mRemN sz)) → ∀ (H : Heap) (locs : List Loc) (ls : Array Slot), Now G zs (MW G ad s1 ++ ex) H locs → lv_has ls 2 [(0, .ref (ad 0))] → W zp l ze (RM 0) zs zm zargs zbelow zmeth zc H locs 0 0 zQ (F0 zm 50 ls []) := by
    intro s1 hs H locs ls N hl
    refine lv_iconst (v := 0) hx hb dX9_remembers_50 (by decide) ?_
    refine lv_istore_n (lv' := [(1, .int 0), (0, .ref (ad 0))]) hx hb dX9_remembers_51 rfl hl (by decide) rfl (fun ls hl => ?_)
    have cut_52 : ∀ (k : Nat) (i : Nat) (g3 : Nat → Int32) (s2 : ST), i + k = 900 → s2 = sI (sA st 2 g3) 0 (nI (mRemN sz)) → lp (fun i p => upd p (900 * mRemN sz + i) (st.2.1 1 i)) k i g3 = mRemP st sz → ∀ (H : Heap) (locs : List Loc) (ls : Array Slot), Now G zs (MW G ad s2 ++ ex) H locs → lv_has ls 2 [(0, .ref (ad 0)), (1, .int (nI i))] → W zp l ze (RM 0) zs zm zargs zbelow zmeth zc H locs 0 0 zQ (F0 zm 52 ls []) := by
      intro k
      induction k with
      | zero =>
        intro i g3 s2 hk hs2 hJ H locs ls N hl
        refine lv_iload_n hx hb dX9_remembers_52 rfl (lv_at hl 1 rfl) ?_
        refine lv_sipush (v := 900) hx hb dX9_remembers_53 (by decide) ?_
        refine cmpN_ge (a := i) (b := 900) (tgt := 86) hx hb dX9_remembers_56 (by decide) (by omega) (by omega) (fun c_56 => ?_) (fun c_56 => ?_)
        · have c_56v := Nat.not_lt.mpr c_56
          refine lv_aload_n hx hb dX9_remembers_86 rfl (lv_at hl 0 rfl) ?_
          refine lv_dup hx hb dX9_remembers_87 rfl ?_
          refine gm_0_states F N k_685 dX9_remembers_88 ?_
          refine toN (a := mRemN sz) (by rw [hs2]; rfl) ?_
          refine lv_iconst (v := 1) hx hb dX9_remembers_91 (by decide) ?_
          refine iaddN (a := (mRemN sz)) (b := 1) hx hb dX9_remembers_92 ?_
          refine pm_0_states F N k_685 dX9_remembers_93 (fun st_93 est_93 H locs N => ?_)
          exact hret _ _ _ _ _ dX9_remembers_96 (by rw [mRem, est_93, hs2, ← hJ, sI_sI]; rfl) N
        · exfalso; omega
      | succ k ih_52 =>
        intro i g3 s2 hk hs2 hJ H locs ls N hl
        refine lv_iload_n hx hb dX9_remembers_52 rfl (lv_at hl 1 rfl) ?_
        refine lv_sipush (v := 900) hx hb dX9_remembers_53 (by decide) ?_
        refine cmpN_ge (a := i) (b := 900) (tgt := 86) hx hb dX9_remembers_56 (by decide) (by omega) (by omega) (fun c_56 => ?_) (fun c_56 => ?_)
        · exfalso; omega
        · have c_56v := Nat.not_le.mp c_56
          refine lv_aload_n hx hb dX9_remembers_59 rfl (lv_at hl 0 rfl) ?_
          refine gm_0_past F N k_684 dX9_remembers_60 ?_
          refine lv_sipush (v := 900) hx hb dX9_remembers_63 (by decide) ?_
          refine lv_aload_n hx hb dX9_remembers_66 rfl (lv_at hl 0 rfl) ?_
          refine gm_0_states F N k_685 dX9_remembers_67 ?_
          refine toN (a := mRemN sz) (by rw [hs2]; rfl) ?_
          refine imulN (a := 900) (b := (mRemN sz)) hx hb dX9_remembers_70 ?_
          refine lv_iload_n hx hb dX9_remembers_71 rfl (lv_at hl 1 rfl) ?_
          refine iaddN (a := (900 * (mRemN sz))) (b := i) hx hb dX9_remembers_72 ?_
          refine lv_aload_n hx hb dX9_remembers_73 rfl (lv_at hl 0 rfl) ?_
          refine gm_0_aside F N k_683 dX9_remembers_74 ?_
          refine lv_iload_n hx hb dX9_remembers_77 rfl (lv_at hl 1 rfl) ?_
          refine amN_1 (j := i) F N (by omega) dX9_remembers_78 ?_
          refine toI (y := st.2.1 1 i) (by rw [hs2]; rfl) ?_
          refine smN_2 (j := ((900 * (mRemN sz)) + i)) F N (by omega) dX9_remembers_79 (fun st_79 est_79 H locs N => ?_)
          refine lv_iinc (v := (nI (i + 1))) (lv' := [(1, .int (nI (i + 1))), (0, .ref (ad 0))]) hx hb dX9_remembers_80 hl (k := 1) rfl (nI_1 i) (by decide) rfl (fun ls hl => ?_)
          refine lv_goto (tgt := 52) hx hb dX9_remembers_83 (by decide) ?_
          exact ih_52 (i + 1) (upd g3 (900 * mRemN sz + i) (st.2.1 1 i)) st_79 (by omega) (by rw [est_79, hs2, sA_sI, sA_sA]; rfl) hJ _ _ _ N (lv_sub hl [1, 0] rfl)
    exact cut_52 900 0 (mRemQ st sz) s1 (by omega) hs rfl _ _ _ N (lv_sub hl [1, 0] rfl)
  refine lv_aload_n hx hb dX9_remembers_0 rfl (lv_at hl 0 rfl) ?_
  refine gm_0_states F N k_685 dX9_remembers_1 ?_
  refine toN (a := sz) hsz ?_
  refine lv_bipush (v := 6) hx hb dX9_remembers_4 (by decide) ?_
  refine cmpN_ne (a := sz) (b := 6) (tgt := 50) hx hb dX9_remembers_6 (by decide) (by omega) (by omega) (fun c_6 => ?_) (fun c_6 => ?_)
  · exact cut_50 st (by rw [mRemQ, mRemN]; first | rw [if_neg c_6, if_neg c_6, sA_self rfl, sI_self hsz] | (rw [if_pos c_6, if_pos c_6, hs, ← hI]; try rfl)) _ _ _ N (lv_sub hl [0] rfl)
  · refine lv_iconst (v := 0) hx hb dX9_remembers_9 (by decide) ?_
    refine lv_istore_n (lv' := [(1, .int 0), (0, .ref (ad 0))]) hx hb dX9_remembers_10 rfl hl (by decide) rfl (fun ls hl => ?_)
    have cut_11 : ∀ (k : Nat) (i : Nat) (g2 : Nat → Int32) (s1 : ST), i + k = 4500 → s1 = sA st 2 g2 → lp (fun i p => upd p i (p (i + 900))) k i g2 = lp (fun i p => upd p i (p (i + 900))) 4500 0 (st.2.1 2) → ∀ (H : Heap) (locs : List Loc) (ls : Array Slot), Now G zs (MW G ad s1 ++ ex) H locs → lv_has ls 2 [(0, .ref (ad 0)), (1, .int (nI i))] → W zp l ze (RM 0) zs zm zargs zbelow zmeth zc H locs 0 0 zQ (F0 zm 11 ls []) := by
      intro k
      induction k with
      | zero =>
        intro i g2 s1 hk hs hI H locs ls N hl
        refine lv_iload_n hx hb dX9_remembers_11 rfl (lv_at hl 1 rfl) ?_
        refine lv_sipush (v := 4500) hx hb dX9_remembers_12 (by decide) ?_
        refine cmpN_ge (a := i) (b := 4500) (tgt := 40) hx hb dX9_remembers_15 (by decide) (by omega) (by omega) (fun c_15 => ?_) (fun c_15 => ?_)
        · have c_15v := Nat.not_lt.mpr c_15
          refine lv_aload_n hx hb dX9_remembers_40 rfl (lv_at hl 0 rfl) ?_
          refine lv_dup hx hb dX9_remembers_41 rfl ?_
          refine gm_0_states F N k_685 dX9_remembers_42 ?_
          refine toN (a := 6) (by rw [hs]; exact hsz.trans (by rw [c_6])) ?_
          refine lv_iconst (v := 1) hx hb dX9_remembers_45 (by decide) ?_
          refine isubN (a := 6) (b := 1) hx hb dX9_remembers_46 (by omega) ?_
          refine pm_0_states F N k_685 dX9_remembers_47 (fun st_47 est_47 H locs N => ?_)
          exact cut_50 st_47 (by rw [mRemQ, mRemN]; first | rw [if_neg c_6, if_neg c_6, sA_self rfl, sI_self hsz] | (rw [if_pos c_6, if_pos c_6, est_47, hs, ← hI]; try rfl)) _ _ _ N (lv_sub hl [0] rfl)
        · exfalso; omega
      | succ k ih_11 =>
        intro i g2 s1 hk hs hI H locs ls N hl
        refine lv_iload_n hx hb dX9_remembers_11 rfl (lv_at hl 1 rfl) ?_
        refine lv_sipush (v := 4500) hx hb dX9_remembers_12 (by decide) ?_
        refine cmpN_ge (a := i) (b := 4500) (tgt := 40) hx hb dX9_remembers_15 (by decide) (by omega) (by omega) (fun c_15 => ?_) (fun c_15 => ?_)
        · exfalso; omega
        · have c_15v := Nat.not_le.mp c_15
          refine lv_aload_n hx hb dX9_remembers_18 rfl (lv_at hl 0 rfl) ?_
          refine gm_0_past F N k_684 dX9_remembers_19 ?_
          refine lv_iload_n hx hb dX9_remembers_22 rfl (lv_at hl 1 rfl) ?_
          refine lv_aload_n hx hb dX9_remembers_23 rfl (lv_at hl 0 rfl) ?_
          refine gm_0_past F N k_684 dX9_remembers_24 ?_
          refine lv_iload_n hx hb dX9_remembers_27 rfl (lv_at hl 1 rfl) ?_
          refine lv_sipush (v := 900) hx hb dX9_remembers_28 (by decide) ?_
          refine iaddN (a := i) (b := 900) hx hb dX9_remembers_31 ?_
          refine amN_2 (j := (i + 900)) F N (by omega) dX9_remembers_32 ?_
          refine toI (y := g2 (i + 900)) (by rw [hs]; rfl) ?_
          refine smN_2 (j := i) F N (by omega) dX9_remembers_33 (fun st_33 est_33 H locs N => ?_)
          refine lv_iinc (v := (nI (i + 1))) (lv' := [(1, .int (nI (i + 1))), (0, .ref (ad 0))]) hx hb dX9_remembers_34 hl (k := 1) rfl (nI_1 i) (by decide) rfl (fun ls hl => ?_)
          refine lv_goto (tgt := 11) hx hb dX9_remembers_37 (by decide) ?_
          exact ih_11 (i + 1) (upd g2 i (g2 (i + 900))) st_33 (by omega) (by rw [est_33, hs]; simp [sA_21, sA_sA]) hI _ _ _ N (lv_sub hl [1, 0] rfl)
    exact cut_11 4500 0 (st.2.1 2) st (by omega) (sA_self rfl).symm rfl _ _ _ N (lv_sub hl [1, 0] rfl)
set_option maxHeartbeats 4000000 in
set_option maxRecDepth 100000 in
theorem c_X9_back (l : Launch) (G : GM) (ad : Nat → Nat) (ex : va_W) (st : ST) (sz : Nat) (hsz : st.1 0 = nI sz) (hsz2 : sz ≤ 6) : MMi l G yX9_back cX9_back 2 (some .int) 0 [.ref (ad 0)] ad ex st ((mBack st sz).1) ((mBack st sz).2) := by
  refine xi_start (by decide) rfl (Nat.le_of_ble_eq_true rfl) ?_
  intro zp ze zs zm zargs zbelow zmeth zc zQ ls F N hl hret
  have hx := F.1
  have hb := F.2.1
  have hl : lv_has ls 2 [(0, .ref (ad 0))] := hl
  refine lv_aload_n hx hb dX9_back_0 rfl (lv_at hl 0 rfl) ?_
  refine gm_0_states F N k_685 dX9_back_1 ?_
  refine toN (a := sz) hsz ?_
  refine ifN_ne (a := sz) (tgt := 20) hx hb dX9_back_4 (by decide) (by omega) (fun c_4 => ?_) (fun c_4 => ?_)
  · refine lv_aload_n hx hb dX9_back_20 rfl (lv_at hl 0 rfl) ?_
    refine lv_dup hx hb dX9_back_21 rfl ?_
    refine gm_0_states F N k_685 dX9_back_22 ?_
    refine toN (a := sz) hsz ?_
    refine lv_iconst (v := 1) hx hb dX9_back_25 (by decide) ?_
    refine isubN (a := sz) (b := 1) hx hb dX9_back_26 (by omega) ?_
    refine pm_0_states F N k_685 dX9_back_27 (fun st_27 est_27 H locs N => ?_)
    refine lv_iconst (v := 0) hx hb dX9_back_30 (by decide) ?_
    refine lv_istore_n (lv' := [(1, .int 0), (0, .ref (ad 0))]) hx hb dX9_back_31 rfl hl (by decide) rfl (fun ls hl => ?_)
    have cut_32 : ∀ (k : Nat) (i : Nat) (g2 : Nat → Int32) (s1 : ST), i + k = 900 → s1 = sA (sI st 0 (nI (sz - 1))) 0 g2 → lp (fun i g => upd g i (st.2.1 2 (900 * (sz - 1) + i))) k i g2 = mBackG st sz → ∀ (H : Heap) (locs : List Loc) (ls : Array Slot), Now G zs (MW G ad s1 ++ ex) H locs → lv_has ls 2 [(0, .ref (ad 0)), (1, .int (nI i))] → W zp l ze (RM 0) zs zm zargs zbelow zmeth zc H locs 0 0 zQ (F0 zm 32 ls []) := by
      intro k
      induction k with
      | zero =>
        intro i g2 s1 hk hs hI H locs ls N hl
        refine lv_iload_n hx hb dX9_back_32 rfl (lv_at hl 1 rfl) ?_
        refine lv_sipush (v := 900) hx hb dX9_back_33 (by decide) ?_
        refine cmpN_ge (a := i) (b := 900) (tgt := 66) hx hb dX9_back_36 (by decide) (by omega) (by omega) (fun c_36 => ?_) (fun c_36 => ?_)
        · have c_36v := Nat.not_lt.mpr c_36
          refine lv_aload_n hx hb dX9_back_66 rfl (lv_at hl 0 rfl) ?_
          refine gm_0_states F N k_685 dX9_back_67 ?_
          refine toN (a := sz - 1) (by rw [hs]; rfl) ?_
          exact hret _ _ _ _ _ _ dX9_back_70 (by rw [mBack, if_neg c_4]) (by rw [mBack, if_neg c_4, hs, ← hI]; rfl) N
        · exfalso; omega
      | succ k ih_32 =>
        intro i g2 s1 hk hs hI H locs ls N hl
        refine lv_iload_n hx hb dX9_back_32 rfl (lv_at hl 1 rfl) ?_
        refine lv_sipush (v := 900) hx hb dX9_back_33 (by decide) ?_
        refine cmpN_ge (a := i) (b := 900) (tgt := 66) hx hb dX9_back_36 (by decide) (by omega) (by omega) (fun c_36 => ?_) (fun c_36 => ?_)
        · exfalso; omega
        · have c_36v := Nat.not_le.mp c_36
          refine lv_aload_n hx hb dX9_back_39 rfl (lv_at hl 0 rfl) ?_
          refine gm_0_now F N k_682 dX9_back_40 ?_
          refine lv_iload_n hx hb dX9_back_43 rfl (lv_at hl 1 rfl) ?_
          refine lv_aload_n hx hb dX9_back_44 rfl (lv_at hl 0 rfl) ?_
          refine gm_0_past F N k_684 dX9_back_45 ?_
          refine lv_sipush (v := 900) hx hb dX9_back_48 (by decide) ?_
          refine lv_aload_n hx hb dX9_back_51 rfl (lv_at hl 0 rfl) ?_
          refine gm_0_states F N k_685 dX9_back_52 ?_
          refine toN (a := sz - 1) (by rw [hs]; rfl) ?_
          refine imulN (a := 900) (b := (sz - 1)) hx hb dX9_back_55 ?_
          refine lv_iload_n hx hb dX9_back_56 rfl (lv_at hl 1 rfl) ?_
          refine iaddN (a := (900 * (sz - 1))) (b := i) hx hb dX9_back_57 ?_
          refine amN_2 (j := ((900 * (sz - 1)) + i)) F N (by omega) dX9_back_58 ?_
          refine toI (y := st.2.1 2 (900 * (sz - 1) + i)) (by rw [hs]; rfl) ?_
          refine smN_0 (j := i) F N (by omega) dX9_back_59 (fun st_59 est_59 H locs N => ?_)
          refine lv_iinc (v := (nI (i + 1))) (lv' := [(1, .int (nI (i + 1))), (0, .ref (ad 0))]) hx hb dX9_back_60 hl (k := 1) rfl (nI_1 i) (by decide) rfl (fun ls hl => ?_)
          refine lv_goto (tgt := 32) hx hb dX9_back_63 (by decide) ?_
          exact ih_32 (i + 1) (upd g2 i (st.2.1 2 (900 * (sz - 1) + i))) st_59 (by omega) (by rw [est_59, hs]; simp [sA_21, sA_sA]) hI _ _ _ N (lv_sub hl [1, 0] rfl)
    exact cut_32 900 0 (st.2.1 0) st_27 (by omega) (by rw [est_27]; exact (sA_self rfl).symm) rfl _ _ _ N (lv_sub hl [1, 0] rfl)
  · refine lv_aload_n hx hb dX9_back_7 rfl (lv_at hl 0 rfl) ?_
    refine gm_0_refused F N k_686 dX9_back_8 ?_
    refine lv_iconst (v := 1) hx hb dX9_back_11 (by decide) ?_
    refine lv_dup2_11 hx hb dX9_back_12 rfl rfl ?_
    refine amN_3 (j := 1) F N (by omega) dX9_back_13 ?_
    refine lv_iconst (v := 1) hx hb dX9_back_14 (by decide) ?_
    refine lv_iadd hx hb dX9_back_15 ?_
    refine smN_3 (j := 1) F N (by omega) dX9_back_16 (fun st_16 est_16 H locs N => ?_)
    refine lv_bipush (v := (-3)) hx hb dX9_back_17 (by decide) ?_
    exact hret _ _ _ _ _ _ dX9_back_19 (by rw [mBack, if_pos c_4]) (by rw [mBack, if_pos c_4, est_16]; rfl) N
set_option maxHeartbeats 4000000 in
set_option maxRecDepth 100000 in
theorem c_X9_type (l : Launch) (G : GM) (ad : Nat → Nat) (ex : va_W) (st : ST) (c : Int32) (L : Nat) (hL : st.1 1 = nI L) (hL2 : L ≤ 60) : MMi l G yX9_type cX9_type 2 (some .int) 1 [.ref (ad 0), .int c] ad ex st ((mType st L c).1) ((mType st L c).2) := by
  refine xi_start (by decide) rfl (Nat.le_of_ble_eq_true rfl) ?_
  intro zp ze zs zm zargs zbelow zmeth zc zQ ls F N hl hret
  have hx := F.1
  have hb := F.2.1
  have hl : lv_has ls 2 [(0, .ref (ad 0)), (1, .int c)] := hl
  refine lv_iload_n hx hb dX9_type_0 rfl (lv_at hl 1 rfl) ?_
  refine lv_iconst (v := 0) hx hb dX9_type_1 (by decide) ?_
  refine lv_bipush (v := 127) hx hb dX9_type_2 (by decide) ?_
  refine cS_i F N (c_X9_in l G _ c 0 127) miX9_in k_760 (by decide) hl.1 rfl (Nat.le_of_ble_eq_true rfl) dX9_type_4 (fun H locs N => ?_)
  refine ifB_ne (tgt := 15) hx hb dX9_type_7 (by decide) (fun c_7 => ?_) (fun c_7 => ?_)
  · refine lv_aload_n hx hb dX9_type_15 rfl (lv_at hl 0 rfl) ?_
    refine gm_0_bytes F N k_688 dX9_type_16 ?_
    refine toN (a := L) hL ?_
    refine lv_bipush (v := 60) hx hb dX9_type_19 (by decide) ?_
    refine cmpN_ne (a := L) (b := 60) (tgt := 37) hx hb dX9_type_21 (by decide) (by omega) (by omega) (fun c_21 => ?_) (fun c_21 => ?_)
    · refine lv_aload_n hx hb dX9_type_37 rfl (lv_at hl 0 rfl) ?_
      refine gm_0_text F N k_687 dX9_type_38 ?_
      refine lv_aload_n hx hb dX9_type_41 rfl (lv_at hl 0 rfl) ?_
      refine gm_0_bytes F N k_688 dX9_type_42 ?_
      refine toN (a := L) hL ?_
      refine lv_iload_n hx hb dX9_type_45 rfl (lv_at hl 1 rfl) ?_
      refine smN_4 (j := L) F N (by omega) dX9_type_46 (fun st_46 est_46 H locs N => ?_)
      refine lv_aload_n hx hb dX9_type_47 rfl (lv_at hl 0 rfl) ?_
      refine lv_dup hx hb dX9_type_48 rfl ?_
      refine gm_0_bytes F N k_688 dX9_type_49 ?_
      refine toN (a := L) (by rw [est_46]; exact hL) ?_
      refine lv_iconst (v := 1) hx hb dX9_type_52 (by decide) ?_
      refine iaddN (a := L) (b := 1) hx hb dX9_type_53 ?_
      refine pm_0_bytes F N k_688 dX9_type_54 (fun st_54 est_54 H locs N => ?_)
      refine lv_aload_n hx hb dX9_type_57 rfl (lv_at hl 0 rfl) ?_
      refine gm_0_bytes F N k_688 dX9_type_58 ?_
      refine toN (a := L + 1) (by rw [est_54, est_46]; rfl) ?_
      exact hret _ _ _ _ _ _ dX9_type_61 (by rw [mType, if_neg (by rw [c_7]; decide), if_neg c_21]) (by rw [mType, if_neg (by rw [c_7]; decide), if_neg c_21, est_54, est_46]; try rfl) N
    · refine lv_aload_n hx hb dX9_type_24 rfl (lv_at hl 0 rfl) ?_
      refine gm_0_refused F N k_686 dX9_type_25 ?_
      refine lv_iconst (v := 2) hx hb dX9_type_28 (by decide) ?_
      refine lv_dup2_11 hx hb dX9_type_29 rfl rfl ?_
      refine amN_3 (j := 2) F N (by omega) dX9_type_30 ?_
      refine lv_iconst (v := 1) hx hb dX9_type_31 (by decide) ?_
      refine lv_iadd hx hb dX9_type_32 ?_
      refine smN_3 (j := 2) F N (by omega) dX9_type_33 (fun st_33 est_33 H locs N => ?_)
      refine lv_bipush (v := (-4)) hx hb dX9_type_34 (by decide) ?_
      exact hret _ _ _ _ _ _ dX9_type_36 (by rw [mType, if_neg (by rw [c_7]; decide), if_pos c_21]) (by rw [mType, if_neg (by rw [c_7]; decide), if_pos c_21, est_33]; rfl) N
  · refine lv_aload_n hx hb dX9_type_10 rfl (lv_at hl 0 rfl) ?_
    refine mV_i F N (c_X9_bad l G ad ex st ) miX9_bad k_763 (by decide) hl.1 rfl (Nat.le_of_ble_eq_true rfl) (q0 := 0) (ci := 8) rfl rfl dX9_type_11 (fun st_11 est_11 H locs N => ?_)
    exact hret _ _ _ _ _ _ dX9_type_14 (by rw [mType, if_pos c_7]) (by rw [mType, if_pos c_7, est_11]) N
set_option maxHeartbeats 4000000 in
set_option maxRecDepth 100000 in
theorem c_X9_clear (l : Launch) (G : GM) (ad : Nat → Nat) (ex : va_W) (st : ST) : MMi l G yX9_clear cX9_clear 2 (some .int) 0 [.ref (ad 0)] ad ex st (st.1 1) (sI st 1 0) := by
  refine xi_start (by decide) rfl (Nat.le_of_ble_eq_true rfl) ?_
  intro zp ze zs zm zargs zbelow zmeth zc zQ ls F N hl hret
  have hx := F.1
  have hb := F.2.1
  have hl : lv_has ls 2 [(0, .ref (ad 0))] := hl
  refine lv_aload_n hx hb dX9_clear_0 rfl (lv_at hl 0 rfl) ?_
  refine gm_0_bytes F N k_688 dX9_clear_1 ?_
  refine lv_istore_n (lv' := [(1, .int (st.1 1)), (0, .ref (ad 0))]) hx hb dX9_clear_4 rfl hl (by decide) rfl (fun ls hl => ?_)
  refine lv_aload_n hx hb dX9_clear_5 rfl (lv_at hl 1 rfl) ?_
  refine lv_iconst (v := 0) hx hb dX9_clear_6 (by decide) ?_
  refine pm_0_bytes F N k_688 dX9_clear_7 (fun st_7 est_7 H locs N => ?_)
  refine lv_iload_n hx hb dX9_clear_10 rfl (lv_at hl 0 rfl) ?_
  exact hret _ _ _ _ _ _ dX9_clear_11 (by first | rfl | (subst est_7; rfl) | (subst est_7; simp [bI])) (by first | rfl | (subst est_7; rfl) | (subst est_7; simp [bI])) N
set_option maxHeartbeats 4000000 in
set_option maxRecDepth 100000 in
theorem c_X9_put_bad (l : Launch) (G : GM) (ad : Nat → Nat) (ex : va_W) (st : ST) (c : Int32) (r : Int32) (hbad : xIsPl c r = false) : MMi l G yX9_put cX9_put 4 (some .int) 2 [.ref (ad 0), .int c, .int r] ad ex st (-2) (mBad st) := by
  refine xi_start (by decide) rfl (Nat.le_of_ble_eq_true rfl) ?_
  intro zp ze zs zm zargs zbelow zmeth zc zQ ls F N hl hret
  have hx := F.1
  have hb := F.2.1
  have hl : lv_has ls 4 [(0, .ref (ad 0)), (1, .int c), (2, .int r)] := hl
  refine lv_iload_n hx hb dX9_put_0 rfl (lv_at hl 1 rfl) ?_
  refine lv_iload_n hx hb dX9_put_1 rfl (lv_at hl 2 rfl) ?_
  refine cS_i F N (c_X9_isCell l G _ c r) miX9_isCell k_775 (by decide) hl.1 rfl (Nat.le_of_ble_eq_true rfl) dX9_put_2 (fun H locs N => ?_)
  refine toI (y := 0) (by rw [hbad]; rfl) ?_
  refine lv_if_ne (tgt := 13) hx hb dX9_put_5 (by decide) (fun c_5 => ?_) (fun c_5 => ?_)
  · first | exact absurd c_5 (by decide) | exact absurd (by decide) c_5
  refine lv_aload_n hx hb dX9_put_8 rfl (lv_at hl 0 rfl) ?_
  refine mV_i F N (c_X9_bad l G ad ex st ) miX9_bad k_763 (by decide) hl.1 rfl (Nat.le_of_ble_eq_true rfl) (q0 := 0) (ci := 8) rfl rfl dX9_put_9 (fun st_9 est_9 H locs N => ?_)
  exact hret _ _ _ _ _ _ dX9_put_12 (by first | rfl | (subst est_9; rfl) | (subst est_9; simp [bI])) (by first | rfl | (subst est_9; rfl) | (subst est_9; simp [bI])) N
set_option maxHeartbeats 4000000 in
set_option maxRecDepth 100000 in
theorem c_X9_empties_bad (l : Launch) (G : GM) (ad : Nat → Nat) (ex : va_W) (st : ST) (c : Int32) (r : Int32) (hbad : xIsPl c r = false) : MMi l G yX9_empties cX9_empties 4 (some .int) 2 [.ref (ad 0), .int c, .int r] ad ex st (-2) (mBad st) := by
  refine xi_start (by decide) rfl (Nat.le_of_ble_eq_true rfl) ?_
  intro zp ze zs zm zargs zbelow zmeth zc zQ ls F N hl hret
  have hx := F.1
  have hb := F.2.1
  have hl : lv_has ls 4 [(0, .ref (ad 0)), (1, .int c), (2, .int r)] := hl
  refine lv_iload_n hx hb dX9_empties_0 rfl (lv_at hl 1 rfl) ?_
  refine lv_iload_n hx hb dX9_empties_1 rfl (lv_at hl 2 rfl) ?_
  refine cS_i F N (c_X9_isCell l G _ c r) miX9_isCell k_775 (by decide) hl.1 rfl (Nat.le_of_ble_eq_true rfl) dX9_empties_2 (fun H locs N => ?_)
  refine toI (y := 0) (by rw [hbad]; rfl) ?_
  refine lv_if_ne (tgt := 13) hx hb dX9_empties_5 (by decide) (fun c_5 => ?_) (fun c_5 => ?_)
  · first | exact absurd c_5 (by decide) | exact absurd (by decide) c_5
  refine lv_aload_n hx hb dX9_empties_8 rfl (lv_at hl 0 rfl) ?_
  refine mV_i F N (c_X9_bad l G ad ex st ) miX9_bad k_763 (by decide) hl.1 rfl (Nat.le_of_ble_eq_true rfl) (q0 := 0) (ci := 8) rfl rfl dX9_empties_9 (fun st_9 est_9 H locs N => ?_)
  exact hret _ _ _ _ _ _ dX9_empties_12 (by first | rfl | (subst est_9; rfl) | (subst est_9; simp [bI])) (by first | rfl | (subst est_9; rfl) | (subst est_9; simp [bI])) N
set_option maxHeartbeats 4000000 in
set_option maxRecDepth 100000 in
theorem c_X9_terms_bad (l : Launch) (G : GM) (ad : Nat → Nat) (ex : va_W) (st : ST) (c : Int32) (r : Int32) (hbad : xIsPl c r = false) : MMi l G yX9_terms cX9_terms 3 (some .int) 2 [.ref (ad 0), .int c, .int r] ad ex st (-2) (mBad st) := by
  refine xi_start (by decide) rfl (Nat.le_of_ble_eq_true rfl) ?_
  intro zp ze zs zm zargs zbelow zmeth zc zQ ls F N hl hret
  have hx := F.1
  have hb := F.2.1
  have hl : lv_has ls 3 [(0, .ref (ad 0)), (1, .int c), (2, .int r)] := hl
  refine lv_iload_n hx hb dX9_terms_0 rfl (lv_at hl 1 rfl) ?_
  refine lv_iload_n hx hb dX9_terms_1 rfl (lv_at hl 2 rfl) ?_
  refine cS_i F N (c_X9_isCell l G _ c r) miX9_isCell k_775 (by decide) hl.1 rfl (Nat.le_of_ble_eq_true rfl) dX9_terms_2 (fun H locs N => ?_)
  refine toI (y := 0) (by rw [hbad]; rfl) ?_
  refine lv_if_eq (tgt := 21) hx hb dX9_terms_5 (by decide) (fun c_5 => ?_) (fun c_5 => ?_)
  rotate_left
  · first | exact absurd (by decide) c_5 | exact absurd c_5 (by decide)
  refine lv_aload_n hx hb dX9_terms_21 rfl (lv_at hl 0 rfl) ?_
  refine mV_i F N (c_X9_bad l G ad ex st ) miX9_bad k_763 (by decide) hl.1 rfl (Nat.le_of_ble_eq_true rfl) (q0 := 0) (ci := 8) rfl rfl dX9_terms_22 (fun st_22 est_22 H locs N => ?_)
  exact hret _ _ _ _ _ _ dX9_terms_25 (by first | rfl | (subst est_22; rfl) | (subst est_22; simp [bI])) (by first | rfl | (subst est_22; rfl) | (subst est_22; simp [bI])) N
set_option maxHeartbeats 4000000 in
set_option maxRecDepth 100000 in
theorem c_X9_put (l : Launch) (G : GM) (ad : Nat → Nat) (ex : va_W) (st : ST) (c : Nat) (r : Nat) (f : Nat → Int32) (L : Nat) (sz : Nat) (hf : st.2.1 4 = f) (hL : st.1 1 = nI L) (hL2 : L ≤ 60) (hsz : st.1 0 = nI sz) (hsz2 : sz ≤ 6) (hc : c < 6) (hr : r < 6) : MMi l G yX9_put cX9_put 4 (some .int) 6 [.ref (ad 0), .int (nI c), .int (nI r)] ad ex st ((mPut st f L sz (25 * (6 * r + c))).1) ((mPut st f L sz (25 * (6 * r + c))).2) := by
  refine xi_start (by decide) rfl (Nat.le_of_ble_eq_true rfl) ?_
  intro zp ze zs zm zargs zbelow zmeth zc zQ ls F N hl hret
  have hx := F.1
  have hb := F.2.1
  have hl : lv_has ls 4 [(0, .ref (ad 0)), (1, .int (nI c)), (2, .int (nI r))] := hl
  refine lv_iload_n hx hb dX9_put_0 rfl (lv_at hl 1 rfl) ?_
  refine lv_iload_n hx hb dX9_put_1 rfl (lv_at hl 2 rfl) ?_
  refine cS_i F N (c_X9_isCell l G _ (nI c) (nI r)) miX9_isCell k_775 (by decide) hl.1 rfl (Nat.le_of_ble_eq_true rfl) dX9_put_2 (fun H locs N => ?_)
  refine toI (y := 1) (by rw [xIsPl_nI hc hr]; rfl) ?_
  refine lv_if_ne (tgt := 13) hx hb dX9_put_5 (by decide) (fun c_5 => ?_) (fun c_5 => ?_)
  rotate_left
  · first | exact absurd (by decide) c_5 | exact absurd c_5 (by decide)
  refine lv_aload_n hx hb dX9_put_13 rfl (lv_at hl 0 rfl) ?_
  refine mV_i F N (c_X9_isRead_st l G ad ex st f L hf hL hL2) miX9_isRead k_778 (by decide) hl.1 rfl (Nat.le_of_ble_eq_true rfl) (q0 := 0) (ci := 8) rfl rfl dX9_put_14 (fun st_14 est_14 H locs N => ?_)
  refine ifB_ne (tgt := 28) hx hb dX9_put_17 (by decide) (fun c_17 => ?_) (fun c_17 => ?_)
  · refine lv_aload_n hx hb dX9_put_28 rfl (lv_at hl 0 rfl) ?_
    refine mV_v F N (c_X9_laysAside l G ad ex st_14 ) miX9_laysAside k_813 (by decide) hl.1 rfl (Nat.le_of_ble_eq_true rfl) (q0 := 0) (ci := 8) rfl rfl dX9_put_29 (fun st_29 est_29 H locs N => ?_)
    refine lv_aload_n hx hb dX9_put_32 rfl (lv_at hl 0 rfl) ?_
    refine mV_v F N (c_X9_remembers l G ad ex st_29 sz (by rw [est_29, est_14]; exact hsz) hsz2) miX9_remembers k_817 (by decide) hl.1 rfl (Nat.le_of_ble_eq_true rfl) (q0 := 0) (ci := 8) rfl rfl dX9_put_33 (fun st_33 est_33 H locs N => ?_)
    refine lv_iconst (v := 0) hx hb dX9_put_36 (by decide) ?_
    refine lv_istore_n (lv' := [(3, .int 0), (0, .ref (ad 0)), (1, .int (nI c)), (2, .int (nI r))]) hx hb dX9_put_37 rfl hl (by decide) rfl (fun ls hl => ?_)
    have cut_38 : ∀ (k : Nat) (i : Nat) (g2 : Nat → Int32) (s1 : ST), i + k = 25 → s1 = sA (mLR (mS st (mRd st f L).2) sz) 0 g2 → lp (fun i g => upd g (25 * (6 * r + c) + i) ((mRd st f L).2.2.1 i)) k i g2 = mPutG st f L (25 * (6 * r + c)) → ∀ (H : Heap) (locs : List Loc) (ls : Array Slot), Now G zs (MW G ad s1 ++ ex) H locs → lv_has ls 4 [(0, .ref (ad 0)), (1, .int (nI c)), (2, .int (nI r)), (3, .int (nI i))] → W zp l ze (RM 6) zs zm zargs zbelow zmeth zc H locs 0 0 zQ (F0 zm 38 ls []) := by
      intro k
      induction k with
      | zero =>
        intro i g2 s1 hk hs hI H locs ls N hl
        refine lv_iload_n hx hb dX9_put_38 rfl (lv_at hl 3 rfl) ?_
        refine lv_bipush (v := 25) hx hb dX9_put_39 (by decide) ?_
        refine cmpN_ge (a := i) (b := 25) (tgt := 68) hx hb dX9_put_41 (by decide) (by omega) (by omega) (fun c_41 => ?_) (fun c_41 => ?_)
        · have c_41v := Nat.not_lt.mpr c_41
          refine lv_aload_n hx hb dX9_put_68 rfl (lv_at hl 0 rfl) ?_
          refine gm_0_read F N k_689 dX9_put_69 ?_
          refine lv_iconst (v := 0) hx hb dX9_put_72 (by decide) ?_
          refine amN_5 (j := 0) F N (by omega) dX9_put_73 ?_
          refine toI (y := (mRd st f L).2.2.1 0) (by rw [hs]; rfl) ?_
          exact hret _ _ _ _ _ _ dX9_put_74 (by rw [mPut, if_pos c_17]) (by rw [mPut, if_pos c_17, hs, ← hI]; rfl) N
        · exfalso; omega
      | succ k ih_38 =>
        intro i g2 s1 hk hs hI H locs ls N hl
        refine lv_iload_n hx hb dX9_put_38 rfl (lv_at hl 3 rfl) ?_
        refine lv_bipush (v := 25) hx hb dX9_put_39 (by decide) ?_
        refine cmpN_ge (a := i) (b := 25) (tgt := 68) hx hb dX9_put_41 (by decide) (by omega) (by omega) (fun c_41 => ?_) (fun c_41 => ?_)
        · exfalso; omega
        · have c_41v := Nat.not_le.mp c_41
          refine lv_aload_n hx hb dX9_put_44 rfl (lv_at hl 0 rfl) ?_
          refine gm_0_now F N k_682 dX9_put_45 ?_
          refine lv_iload_n hx hb dX9_put_48 rfl (lv_at hl 1 rfl) ?_
          refine lv_iload_n hx hb dX9_put_49 rfl (lv_at hl 2 rfl) ?_
          refine cS_i F N (c_X9_placeOf l G _ c r) miX9_placeOf k_821 (by decide) hl.1 rfl (Nat.le_of_ble_eq_true rfl) dX9_put_50 (fun H locs N => ?_)
          refine lv_iload_n hx hb dX9_put_53 rfl (lv_at hl 3 rfl) ?_
          refine iaddN (a := (25 * (6 * r + c))) (b := i) hx hb dX9_put_54 ?_
          refine lv_aload_n hx hb dX9_put_55 rfl (lv_at hl 0 rfl) ?_
          refine gm_0_read F N k_689 dX9_put_56 ?_
          refine lv_iload_n hx hb dX9_put_59 rfl (lv_at hl 3 rfl) ?_
          refine amN_5 (j := i) F N (by omega) dX9_put_60 ?_
          refine toI (y := (mRd st f L).2.2.1 i) (by rw [hs]; rfl) ?_
          refine smN_0 (j := ((25 * (6 * r + c)) + i)) F N (by omega) dX9_put_61 (fun st_61 est_61 H locs N => ?_)
          refine lv_iinc (v := (nI (i + 1))) (lv' := [(3, .int (nI (i + 1))), (0, .ref (ad 0)), (1, .int (nI c)), (2, .int (nI r))]) hx hb dX9_put_62 hl (k := 3) rfl (nI_1 i) (by decide) rfl (fun ls hl => ?_)
          refine lv_goto (tgt := 38) hx hb dX9_put_65 (by decide) ?_
          exact ih_38 (i + 1) (upd g2 (25 * (6 * r + c) + i) ((mRd st f L).2.2.1 i)) st_61 (by omega) (by rw [est_61, hs]; simp [sA_21, sA_sA]) hI _ _ _ N (lv_sub hl [1, 2, 3, 0] rfl)
    exact cut_38 25 0 (st.2.1 0) st_33 (by omega) (by rw [est_33, est_29, est_14]; exact (sA_self rfl).symm) rfl _ _ _ N (lv_sub hl [1, 2, 3, 0] rfl)
  · refine lv_bipush (v := (-10)) hx hb dX9_put_20 (by decide) ?_
    refine lv_aload_n hx hb dX9_put_22 rfl (lv_at hl 0 rfl) ?_
    refine gm_0_wrongAt F N k_691 dX9_put_23 ?_
    refine toI (y := (mRd st f L).2.2.2) (by rw [est_14]; rfl) ?_
    refine lv_isub hx hb dX9_put_26 ?_
    exact hret _ _ _ _ _ _ dX9_put_27 (by rw [mPut, if_neg (by rw [c_17]; decide)]) (by rw [mPut, if_neg (by rw [c_17]; decide), est_14]) N
set_option maxHeartbeats 4000000 in
set_option maxRecDepth 100000 in
theorem c_X9_empties (l : Launch) (G : GM) (ad : Nat → Nat) (ex : va_W) (st : ST) (c : Nat) (r : Nat) (sz : Nat) (hsz : st.1 0 = nI sz) (hsz2 : sz ≤ 6) (hc : c < 6) (hr : r < 6) : MMi l G yX9_empties cX9_empties 4 (some .int) 2 [.ref (ad 0), .int (nI c), .int (nI r)] ad ex st (st.2.1 0 (25 * (6 * r + c))) (sA (mLR st sz) 0 (mEmp (st.2.1 0) (25 * (6 * r + c)))) := by
  refine xi_start (by decide) rfl (Nat.le_of_ble_eq_true rfl) ?_
  intro zp ze zs zm zargs zbelow zmeth zc zQ ls F N hl hret
  have hx := F.1
  have hb := F.2.1
  have hl : lv_has ls 4 [(0, .ref (ad 0)), (1, .int (nI c)), (2, .int (nI r))] := hl
  refine lv_iload_n hx hb dX9_empties_0 rfl (lv_at hl 1 rfl) ?_
  refine lv_iload_n hx hb dX9_empties_1 rfl (lv_at hl 2 rfl) ?_
  refine cS_i F N (c_X9_isCell l G _ (nI c) (nI r)) miX9_isCell k_775 (by decide) hl.1 rfl (Nat.le_of_ble_eq_true rfl) dX9_empties_2 (fun H locs N => ?_)
  refine toI (y := 1) (by rw [xIsPl_nI hc hr]; rfl) ?_
  refine lv_if_ne (tgt := 13) hx hb dX9_empties_5 (by decide) (fun c_5 => ?_) (fun c_5 => ?_)
  rotate_left
  · first | exact absurd (by decide) c_5 | exact absurd c_5 (by decide)
  refine lv_aload_n hx hb dX9_empties_13 rfl (lv_at hl 0 rfl) ?_
  refine mV_v F N (c_X9_laysAside l G ad ex st ) miX9_laysAside k_813 (by decide) hl.1 rfl (Nat.le_of_ble_eq_true rfl) (q0 := 0) (ci := 8) rfl rfl dX9_empties_14 (fun st_14 est_14 H locs N => ?_)
  refine lv_aload_n hx hb dX9_empties_17 rfl (lv_at hl 0 rfl) ?_
  refine mV_v F N (c_X9_remembers l G ad ex st_14 sz (by rw [est_14]; exact hsz) hsz2) miX9_remembers k_817 (by decide) hl.1 rfl (Nat.le_of_ble_eq_true rfl) (q0 := 0) (ci := 8) rfl rfl dX9_empties_18 (fun st_18 est_18 H locs N => ?_)
  refine lv_aload_n hx hb dX9_empties_21 rfl (lv_at hl 0 rfl) ?_
  refine gm_0_now F N k_682 dX9_empties_22 ?_
  refine lv_iload_n hx hb dX9_empties_25 rfl (lv_at hl 1 rfl) ?_
  refine lv_iload_n hx hb dX9_empties_26 rfl (lv_at hl 2 rfl) ?_
  refine cS_i F N (c_X9_placeOf l G _ c r) miX9_placeOf k_821 (by decide) hl.1 rfl (Nat.le_of_ble_eq_true rfl) dX9_empties_27 (fun H locs N => ?_)
  refine amN_0 (j := (25 * (6 * r + c))) F N (by omega) dX9_empties_30 ?_
  refine toI (y := st.2.1 0 (25 * (6 * r + c))) (by rw [est_18, est_14]; rfl) ?_
  refine lv_istore_n (lv' := [(3, .int (st.2.1 0 (25 * (6 * r + c)))), (0, .ref (ad 0)), (1, .int (nI c)), (2, .int (nI r))]) hx hb dX9_empties_31 rfl hl (by decide) rfl (fun ls hl => ?_)
  refine lv_aload_n hx hb dX9_empties_32 rfl (lv_at hl 1 rfl) ?_
  refine lv_iload_n hx hb dX9_empties_33 rfl (lv_at hl 2 rfl) ?_
  refine lv_iload_n hx hb dX9_empties_34 rfl (lv_at hl 3 rfl) ?_
  refine cS_i F N (c_X9_placeOf l G _ c r) miX9_placeOf k_821 (by decide) hl.1 rfl (Nat.le_of_ble_eq_true rfl) dX9_empties_35 (fun H locs N => ?_)
  refine mV_v F N (c_X9_empty_st l G ad ex st_18 (25 * (6 * r + c)) (by omega)) miX9_empty k_828 (by decide) hl.1 rfl (Nat.le_of_ble_eq_true rfl) (q0 := 0) (ci := 8) rfl rfl dX9_empties_38 (fun st_38 est_38 H locs N => ?_)
  refine lv_iload_n hx hb dX9_empties_41 rfl (lv_at hl 0 rfl) ?_
  exact hret _ _ _ _ _ _ dX9_empties_42 (by rfl) (by rw [est_38, est_18, est_14]; rfl) N
set_option maxHeartbeats 4000000 in
set_option maxRecDepth 100000 in
theorem c_X9_comes_bad (l : Launch) (G : GM) (ad : Nat → Nat) (ex : va_W) (st : ST) (way : Int32) (a : Int32) (n : Int32) (hbad : xOkC way a n = false) : MMi l G yX9_comes cX9_comes 4 (some .int) 1 [.ref (ad 0), .int way, .int a, .int n] ad ex st (-2) (mBad st) := by
  refine xi_start (by decide) rfl (Nat.le_of_ble_eq_true rfl) ?_
  intro zp ze zs zm zargs zbelow zmeth zc zQ ls F N hl hret
  have hx := F.1
  have hb := F.2.1
  have hl : lv_has ls 4 [(0, .ref (ad 0)), (1, .int way), (2, .int a), (3, .int n)] := hl
  refine lv_iload_n hx hb dX9_comes_0 rfl (lv_at hl 1 rfl) ?_
  refine lv_iconst (v := 0) hx hb dX9_comes_1 (by decide) ?_
  refine lv_iconst (v := 1) hx hb dX9_comes_2 (by decide) ?_
  refine cS_i F N (c_X9_in l G _ way 0 1) miX9_in k_760 (by decide) hl.1 rfl (Nat.le_of_ble_eq_true rfl) dX9_comes_3 (fun H locs N => ?_)
  refine ifB_eq (tgt := 28) hx hb dX9_comes_6 (by decide) (fun c_6 => ?_) (fun c_6 => ?_)
  · refine lv_aload_n hx hb dX9_comes_28 rfl (lv_at hl 0 rfl) ?_
    refine mV_i F N (c_X9_bad l G ad ex st ) miX9_bad k_763 (by decide) hl.1 rfl (Nat.le_of_ble_eq_true rfl) (q0 := 0) (ci := 8) rfl rfl dX9_comes_29 (fun st_29 est_29 H locs N => ?_)
    exact hret _ _ _ _ _ _ dX9_comes_32 (by first | rfl | (subst est_29; rfl) | (subst est_29; simp [bI, c_6])) (by first | rfl | (subst est_29; rfl) | (subst est_29; simp [bI, c_6])) N
  · refine lv_iload_n hx hb dX9_comes_9 rfl (lv_at hl 2 rfl) ?_
    refine lv_iconst (v := 0) hx hb dX9_comes_10 (by decide) ?_
    refine lv_iconst (v := 5) hx hb dX9_comes_11 (by decide) ?_
    refine cS_i F N (c_X9_in l G _ a 0 5) miX9_in k_760 (by decide) hl.1 rfl (Nat.le_of_ble_eq_true rfl) dX9_comes_12 (fun H locs N => ?_)
    refine ifB_eq (tgt := 28) hx hb dX9_comes_15 (by decide) (fun c_15 => ?_) (fun c_15 => ?_)
    · refine lv_aload_n hx hb dX9_comes_28 rfl (lv_at hl 0 rfl) ?_
      refine mV_i F N (c_X9_bad l G ad ex st ) miX9_bad k_763 (by decide) hl.1 rfl (Nat.le_of_ble_eq_true rfl) (q0 := 0) (ci := 8) rfl rfl dX9_comes_29 (fun st_29 est_29 H locs N => ?_)
      exact hret _ _ _ _ _ _ dX9_comes_32 (by first | rfl | (subst est_29; rfl) | (subst est_29; simp [bI, c_6, c_15])) (by first | rfl | (subst est_29; rfl) | (subst est_29; simp [bI, c_6, c_15])) N
    · refine lv_iload_n hx hb dX9_comes_18 rfl (lv_at hl 3 rfl) ?_
      refine lv_iconst (v := 1) hx hb dX9_comes_19 (by decide) ?_
      refine lv_bipush (v := 6) hx hb dX9_comes_20 (by decide) ?_
      refine cS_i F N (c_X9_in l G _ n 1 6) miX9_in k_760 (by decide) hl.1 rfl (Nat.le_of_ble_eq_true rfl) dX9_comes_22 (fun H locs N => ?_)
      refine ifB_ne (tgt := 33) hx hb dX9_comes_25 (by decide) (fun c_25 => ?_) (fun c_25 => ?_)
      · exact absurd hbad (by simp [xOkC, c_6, c_15, c_25])
      · refine lv_aload_n hx hb dX9_comes_28 rfl (lv_at hl 0 rfl) ?_
        refine mV_i F N (c_X9_bad l G ad ex st ) miX9_bad k_763 (by decide) hl.1 rfl (Nat.le_of_ble_eq_true rfl) (q0 := 0) (ci := 8) rfl rfl dX9_comes_29 (fun st_29 est_29 H locs N => ?_)
        exact hret _ _ _ _ _ _ dX9_comes_32 (by first | rfl | (subst est_29; rfl) | (subst est_29; simp [bI, c_6, c_15, c_25])) (by first | rfl | (subst est_29; rfl) | (subst est_29; simp [bI, c_6, c_15, c_25])) N
set_option maxHeartbeats 4000000 in
set_option maxRecDepth 100000 in
theorem c_X9_goes_bad (l : Launch) (G : GM) (ad : Nat → Nat) (ex : va_W) (st : ST) (way : Int32) (a : Int32) (n : Int32) (hbad : xOkG way a n = false) : MMi l G yX9_goes cX9_goes 4 (some .int) 1 [.ref (ad 0), .int way, .int a, .int n] ad ex st (-2) (mBad st) := by
  refine xi_start (by decide) rfl (Nat.le_of_ble_eq_true rfl) ?_
  intro zp ze zs zm zargs zbelow zmeth zc zQ ls F N hl hret
  have hx := F.1
  have hb := F.2.1
  have hl : lv_has ls 4 [(0, .ref (ad 0)), (1, .int way), (2, .int a), (3, .int n)] := hl
  refine lv_iload_n hx hb dX9_goes_0 rfl (lv_at hl 1 rfl) ?_
  refine lv_iconst (v := 0) hx hb dX9_goes_1 (by decide) ?_
  refine lv_iconst (v := 1) hx hb dX9_goes_2 (by decide) ?_
  refine cS_i F N (c_X9_in l G _ way 0 1) miX9_in k_760 (by decide) hl.1 rfl (Nat.le_of_ble_eq_true rfl) dX9_goes_3 (fun H locs N => ?_)
  refine ifB_eq (tgt := 30) hx hb dX9_goes_6 (by decide) (fun c_6 => ?_) (fun c_6 => ?_)
  · refine lv_aload_n hx hb dX9_goes_30 rfl (lv_at hl 0 rfl) ?_
    refine mV_i F N (c_X9_bad l G ad ex st ) miX9_bad k_763 (by decide) hl.1 rfl (Nat.le_of_ble_eq_true rfl) (q0 := 0) (ci := 8) rfl rfl dX9_goes_31 (fun st_31 est_31 H locs N => ?_)
    exact hret _ _ _ _ _ _ dX9_goes_34 (by first | rfl | (subst est_31; rfl) | (subst est_31; simp [bI, c_6])) (by first | rfl | (subst est_31; rfl) | (subst est_31; simp [bI, c_6])) N
  · refine lv_iload_n hx hb dX9_goes_9 rfl (lv_at hl 2 rfl) ?_
    refine lv_iconst (v := 0) hx hb dX9_goes_10 (by decide) ?_
    refine lv_iconst (v := 5) hx hb dX9_goes_11 (by decide) ?_
    refine cS_i F N (c_X9_in l G _ a 0 5) miX9_in k_760 (by decide) hl.1 rfl (Nat.le_of_ble_eq_true rfl) dX9_goes_12 (fun H locs N => ?_)
    refine ifB_eq (tgt := 30) hx hb dX9_goes_15 (by decide) (fun c_15 => ?_) (fun c_15 => ?_)
    · refine lv_aload_n hx hb dX9_goes_30 rfl (lv_at hl 0 rfl) ?_
      refine mV_i F N (c_X9_bad l G ad ex st ) miX9_bad k_763 (by decide) hl.1 rfl (Nat.le_of_ble_eq_true rfl) (q0 := 0) (ci := 8) rfl rfl dX9_goes_31 (fun st_31 est_31 H locs N => ?_)
      exact hret _ _ _ _ _ _ dX9_goes_34 (by first | rfl | (subst est_31; rfl) | (subst est_31; simp [bI, c_6, c_15])) (by first | rfl | (subst est_31; rfl) | (subst est_31; simp [bI, c_6, c_15])) N
    · refine lv_iload_n hx hb dX9_goes_18 rfl (lv_at hl 3 rfl) ?_
      refine lv_iconst (v := 1) hx hb dX9_goes_19 (by decide) ?_
      refine lv_bipush (v := 6) hx hb dX9_goes_20 (by decide) ?_
      refine lv_iload_n hx hb dX9_goes_22 rfl (lv_at hl 2 rfl) ?_
      refine lv_isub hx hb dX9_goes_23 ?_
      refine cS_i F N (c_X9_in l G _ n 1 ((6 : Int32) - a)) miX9_in k_760 (by decide) hl.1 rfl (Nat.le_of_ble_eq_true rfl) dX9_goes_24 (fun H locs N => ?_)
      refine ifB_ne (tgt := 35) hx hb dX9_goes_27 (by decide) (fun c_27 => ?_) (fun c_27 => ?_)
      · exact absurd hbad (by simp [xOkG, c_6, c_15, c_27])
      · refine lv_aload_n hx hb dX9_goes_30 rfl (lv_at hl 0 rfl) ?_
        refine mV_i F N (c_X9_bad l G ad ex st ) miX9_bad k_763 (by decide) hl.1 rfl (Nat.le_of_ble_eq_true rfl) (q0 := 0) (ci := 8) rfl rfl dX9_goes_31 (fun st_31 est_31 H locs N => ?_)
        exact hret _ _ _ _ _ _ dX9_goes_34 (by first | rfl | (subst est_31; rfl) | (subst est_31; simp [bI, c_6, c_15, c_27])) (by first | rfl | (subst est_31; rfl) | (subst est_31; simp [bI, c_6, c_15, c_27])) N
set_option maxHeartbeats 4000000 in
set_option maxRecDepth 100000 in
theorem c_X9_comes (l : Launch) (G : GM) (ad : Nat → Nat) (ex : va_W) (st : ST) (way : Nat) (a : Nat) (n : Nat) (sz : Nat) (cn : Nat → Nat) (hsz : st.1 0 = nI sz) (hsz2 : sz ≤ 6) (hway : way < 2) (ha : a < 6) (hn1 : 1 ≤ n) (hn : n ≤ 6) (hcn : mCn (mShC (mLay st) way (fun x => cmN x a n) (st.2.1 0)) cn) : MMi l G yX9_comes cX9_comes 4 (some .int) 4 [.ref (ad 0), .int (nI way), .int (nI a), .int (nI n)] ad ex st ((mComes st sz way a n cn).1) ((mComes st sz way a n cn).2) := by
  refine xi_start (by decide) rfl (Nat.le_of_ble_eq_true rfl) ?_
  intro zp ze zs zm zargs zbelow zmeth zc zQ ls F N hl hret
  have hx := F.1
  have hb := F.2.1
  have hl : lv_has ls 4 [(0, .ref (ad 0)), (1, .int (nI way)), (2, .int (nI a)), (3, .int (nI n))] := hl
  refine lv_iload_n hx hb dX9_comes_0 rfl (lv_at hl 1 rfl) ?_
  refine lv_iconst (v := 0) hx hb dX9_comes_1 (by decide) ?_
  refine lv_iconst (v := 1) hx hb dX9_comes_2 (by decide) ?_
  refine cS_i F N (c_X9_in l G _ (nI way) 0 1) miX9_in k_760 (by decide) hl.1 rfl (Nat.le_of_ble_eq_true rfl) dX9_comes_3 (fun H locs N => ?_)
  refine toI (y := 1) (by rw [show xIsW (nI way) 0 1 = true from xIsW_nI (a := 0) (b := 1) (by omega) (by omega) (by decide)]; rfl) ?_
  refine lv_if_eq (tgt := 28) hx hb dX9_comes_6 (by decide) (fun c_6 => ?_) (fun c_6 => ?_)
  · first | exact absurd c_6 (by decide) | exact absurd (by decide) c_6
  refine lv_iload_n hx hb dX9_comes_9 rfl (lv_at hl 2 rfl) ?_
  refine lv_iconst (v := 0) hx hb dX9_comes_10 (by decide) ?_
  refine lv_iconst (v := 5) hx hb dX9_comes_11 (by decide) ?_
  refine cS_i F N (c_X9_in l G _ (nI a) 0 5) miX9_in k_760 (by decide) hl.1 rfl (Nat.le_of_ble_eq_true rfl) dX9_comes_12 (fun H locs N => ?_)
  refine toI (y := 1) (by rw [show xIsW (nI a) 0 5 = true from xIsW_nI (a := 0) (b := 5) (by omega) (by omega) (by decide)]; rfl) ?_
  refine lv_if_eq (tgt := 28) hx hb dX9_comes_15 (by decide) (fun c_15 => ?_) (fun c_15 => ?_)
  · first | exact absurd c_15 (by decide) | exact absurd (by decide) c_15
  refine lv_iload_n hx hb dX9_comes_18 rfl (lv_at hl 3 rfl) ?_
  refine lv_iconst (v := 1) hx hb dX9_comes_19 (by decide) ?_
  refine lv_bipush (v := 6) hx hb dX9_comes_20 (by decide) ?_
  refine cS_i F N (c_X9_in l G _ (nI n) 1 6) miX9_in k_760 (by decide) hl.1 rfl (Nat.le_of_ble_eq_true rfl) dX9_comes_22 (fun H locs N => ?_)
  refine toI (y := 1) (by rw [show xIsW (nI n) 1 6 = true from xIsW_nI (a := 1) (b := 6) (by omega) (by omega) (by decide)]; rfl) ?_
  refine lv_if_ne (tgt := 33) hx hb dX9_comes_25 (by decide) (fun c_25 => ?_) (fun c_25 => ?_)
  rotate_left
  · first | exact absurd (by decide) c_25 | exact absurd c_25 (by decide)
  refine lv_aload_n hx hb dX9_comes_33 rfl (lv_at hl 0 rfl) ?_
  refine lv_iload_n hx hb dX9_comes_34 rfl (lv_at hl 1 rfl) ?_
  refine lv_iload_n hx hb dX9_comes_35 rfl (lv_at hl 2 rfl) ?_
  refine lv_iload_n hx hb dX9_comes_36 rfl (lv_at hl 3 rfl) ?_
  refine cV_i F N (c_X9_wouldLose_st l G ad ex st way a n hway ha hn) miX9_wouldLose k_836 (by decide) hl.1 rfl (Nat.le_of_ble_eq_true rfl) (q0 := 0) (ci := 8) rfl rfl dX9_comes_37 (fun H locs N => ?_)
  refine ifB_eq (tgt := 56) hx hb dX9_comes_40 (by decide) (fun c_40 => ?_) (fun c_40 => ?_)
  · refine lv_aload_n hx hb dX9_comes_56 rfl (lv_at hl 0 rfl) ?_
    refine mV_v F N (c_X9_laysAside l G ad ex st ) miX9_laysAside k_813 (by decide) hl.1 rfl (Nat.le_of_ble_eq_true rfl) (q0 := 0) (ci := 8) rfl rfl dX9_comes_57 (fun st_57 est_57 H locs N => ?_)
    refine lv_aload_n hx hb dX9_comes_60 rfl (lv_at hl 0 rfl) ?_
    refine mV_v F N (c_X9_remembers l G ad ex st_57 sz (by rw [est_57]; exact hsz) hsz2) miX9_remembers k_817 (by decide) hl.1 rfl (Nat.le_of_ble_eq_true rfl) (q0 := 0) (ci := 8) rfl rfl dX9_comes_61 (fun st_61 est_61 H locs N => ?_)
    refine lv_aload_n hx hb dX9_comes_64 rfl (lv_at hl 0 rfl) ?_
    refine lv_iload_n hx hb dX9_comes_65 rfl (lv_at hl 1 rfl) ?_
    refine lv_iload_n hx hb dX9_comes_66 rfl (lv_at hl 2 rfl) ?_
    refine lv_iload_n hx hb dX9_comes_67 rfl (lv_at hl 3 rfl) ?_
    refine mV_v F N (c_X9_shifts_st l G ad ex st_61 way a (nI n) (fun x => cmN x a n) cn hway (mLb_come ha hn1 hn) (fun x hx => cmN_lt hx) (by rw [est_61, est_57]; exact hcn)) miX9_shifts k_843 (by decide) hl.1 rfl (Nat.le_of_ble_eq_true rfl) (q0 := 0) (ci := 8) rfl rfl dX9_comes_68 (fun st_68 est_68 H locs N => ?_)
    refine lv_aload_n hx hb dX9_comes_71 rfl (lv_at hl 0 rfl) ?_
    refine cV_i F N (c_X9_filled_st l G ad ex st_68 ) miX9_filled k_873 (by decide) hl.1 rfl (Nat.le_of_ble_eq_true rfl) (q0 := 0) (ci := 8) rfl rfl dX9_comes_72 (fun H locs N => ?_)
    exact hret _ _ _ _ _ _ dX9_comes_75 (by rw [mComes, if_neg (by rw [c_40]; decide), est_68, est_61, est_57]; rfl) (by rw [mComes, if_neg (by rw [c_40]; decide), est_68, est_61, est_57]; rfl) N
  · refine lv_aload_n hx hb dX9_comes_43 rfl (lv_at hl 0 rfl) ?_
    refine gm_0_refused F N k_686 dX9_comes_44 ?_
    refine lv_iconst (v := 1) hx hb dX9_comes_47 (by decide) ?_
    refine lv_dup2_11 hx hb dX9_comes_48 rfl rfl ?_
    refine amN_3 (j := 1) F N (by omega) dX9_comes_49 ?_
    refine lv_iconst (v := 1) hx hb dX9_comes_50 (by decide) ?_
    refine lv_iadd hx hb dX9_comes_51 ?_
    refine smN_3 (j := 1) F N (by omega) dX9_comes_52 (fun st_52 est_52 H locs N => ?_)
    refine lv_bipush (v := (-3)) hx hb dX9_comes_53 (by decide) ?_
    exact hret _ _ _ _ _ _ dX9_comes_55 (by rw [mComes, if_pos c_40]) (by rw [mComes, if_pos c_40, est_52]; rfl) N
set_option maxHeartbeats 4000000 in
set_option maxRecDepth 100000 in
theorem c_X9_goes (l : Launch) (G : GM) (ad : Nat → Nat) (ex : va_W) (st : ST) (way : Nat) (a : Nat) (n : Nat) (sz : Nat) (cn : Nat → Nat) (hsz : st.1 0 = nI sz) (hsz2 : sz ≤ 6) (hway : way < 2) (ha : a < 6) (hn1 : 1 ≤ n) (hn : a + n ≤ 6) (hcn : mCn (mShC (mLay st) way (fun x => goN x a n) (st.2.1 0)) cn) : MMi l G yX9_goes cX9_goes 4 (some .int) 4 [.ref (ad 0), .int (nI way), .int (nI a), .int (nI n)] ad ex st (nI (mFil (mGoesG st way a n cn))) (sA (mLR st sz) 0 (mGoesG st way a n cn)) := by
  refine xi_start (by decide) rfl (Nat.le_of_ble_eq_true rfl) ?_
  intro zp ze zs zm zargs zbelow zmeth zc zQ ls F N hl hret
  have hx := F.1
  have hb := F.2.1
  have hl : lv_has ls 4 [(0, .ref (ad 0)), (1, .int (nI way)), (2, .int (nI a)), (3, .int (nI n))] := hl
  refine lv_iload_n hx hb dX9_goes_0 rfl (lv_at hl 1 rfl) ?_
  refine lv_iconst (v := 0) hx hb dX9_goes_1 (by decide) ?_
  refine lv_iconst (v := 1) hx hb dX9_goes_2 (by decide) ?_
  refine cS_i F N (c_X9_in l G _ (nI way) 0 1) miX9_in k_760 (by decide) hl.1 rfl (Nat.le_of_ble_eq_true rfl) dX9_goes_3 (fun H locs N => ?_)
  refine toI (y := 1) (by rw [show xIsW (nI way) 0 1 = true from xIsW_nI (a := 0) (b := 1) (by omega) (by omega) (by decide)]; rfl) ?_
  refine lv_if_eq (tgt := 30) hx hb dX9_goes_6 (by decide) (fun c_6 => ?_) (fun c_6 => ?_)
  · first | exact absurd c_6 (by decide) | exact absurd (by decide) c_6
  refine lv_iload_n hx hb dX9_goes_9 rfl (lv_at hl 2 rfl) ?_
  refine lv_iconst (v := 0) hx hb dX9_goes_10 (by decide) ?_
  refine lv_iconst (v := 5) hx hb dX9_goes_11 (by decide) ?_
  refine cS_i F N (c_X9_in l G _ (nI a) 0 5) miX9_in k_760 (by decide) hl.1 rfl (Nat.le_of_ble_eq_true rfl) dX9_goes_12 (fun H locs N => ?_)
  refine toI (y := 1) (by rw [show xIsW (nI a) 0 5 = true from xIsW_nI (a := 0) (b := 5) (by omega) (by omega) (by decide)]; rfl) ?_
  refine lv_if_eq (tgt := 30) hx hb dX9_goes_15 (by decide) (fun c_15 => ?_) (fun c_15 => ?_)
  · first | exact absurd c_15 (by decide) | exact absurd (by decide) c_15
  refine lv_iload_n hx hb dX9_goes_18 rfl (lv_at hl 3 rfl) ?_
  refine lv_iconst (v := 1) hx hb dX9_goes_19 (by decide) ?_
  refine lv_bipush (v := 6) hx hb dX9_goes_20 (by decide) ?_
  refine lv_iload_n hx hb dX9_goes_22 rfl (lv_at hl 2 rfl) ?_
  refine isubN (a := 6) (b := a) hx hb dX9_goes_23 (by omega) ?_
  refine cS_i F N (c_X9_in l G _ (nI n) 1 (nI (6 - a))) miX9_in k_760 (by decide) hl.1 rfl (Nat.le_of_ble_eq_true rfl) dX9_goes_24 (fun H locs N => ?_)
  refine toI (y := 1) (by rw [show xIsW (nI n) 1 (nI (6 - a)) = true from xIsW_nI (a := 1) (by omega) (by omega) (by omega)]; rfl) ?_
  refine lv_if_ne (tgt := 35) hx hb dX9_goes_27 (by decide) (fun c_27 => ?_) (fun c_27 => ?_)
  rotate_left
  · first | exact absurd (by decide) c_27 | exact absurd c_27 (by decide)
  refine lv_aload_n hx hb dX9_goes_35 rfl (lv_at hl 0 rfl) ?_
  refine mV_v F N (c_X9_laysAside l G ad ex st ) miX9_laysAside k_813 (by decide) hl.1 rfl (Nat.le_of_ble_eq_true rfl) (q0 := 0) (ci := 8) rfl rfl dX9_goes_36 (fun st_36 est_36 H locs N => ?_)
  refine lv_aload_n hx hb dX9_goes_39 rfl (lv_at hl 0 rfl) ?_
  refine mV_v F N (c_X9_remembers l G ad ex st_36 sz (by rw [est_36]; exact hsz) hsz2) miX9_remembers k_817 (by decide) hl.1 rfl (Nat.le_of_ble_eq_true rfl) (q0 := 0) (ci := 8) rfl rfl dX9_goes_40 (fun st_40 est_40 H locs N => ?_)
  refine lv_aload_n hx hb dX9_goes_43 rfl (lv_at hl 0 rfl) ?_
  refine lv_iload_n hx hb dX9_goes_44 rfl (lv_at hl 1 rfl) ?_
  refine lv_iload_n hx hb dX9_goes_45 rfl (lv_at hl 2 rfl) ?_
  refine lv_iload_n hx hb dX9_goes_46 rfl (lv_at hl 3 rfl) ?_
  refine lv_ineg hx hb dX9_goes_47 ?_
  refine mV_v F N (c_X9_shifts_st l G ad ex st_40 way a (-(nI n)) (fun x => goN x a n) cn hway (mLb_go ha hn1 hn) (fun x hx => goN_lt hx) (by rw [est_40, est_36]; exact hcn)) miX9_shifts k_843 (by decide) hl.1 rfl (Nat.le_of_ble_eq_true rfl) (q0 := 0) (ci := 8) rfl rfl dX9_goes_48 (fun st_48 est_48 H locs N => ?_)
  refine lv_aload_n hx hb dX9_goes_51 rfl (lv_at hl 0 rfl) ?_
  refine cV_i F N (c_X9_filled_st l G ad ex st_48 ) miX9_filled k_873 (by decide) hl.1 rfl (Nat.le_of_ble_eq_true rfl) (q0 := 0) (ci := 8) rfl rfl dX9_goes_52 (fun H locs N => ?_)
  exact hret _ _ _ _ _ _ dX9_goes_55 (by rw [est_48, est_40, est_36]; rfl) (by rw [est_48, est_40, est_36]; rfl) N
set_option maxHeartbeats 4000000 in
set_option maxRecDepth 100000 in
theorem c_X9_isWithin (l : Launch) (G : GM) (w : va_W) (c : Int32) (r : Int32) (w2 : Int32) (h : Int32) : XCi l G yX9_isWithin cX9_isWithin 4 (some .boolean) 2 [.int c, .int r, .int w2, .int h] (w) (bI (xIsAr c r w2 h)) (w) := by
  refine xi_start (by decide) (nar_bI _) (Nat.le_of_ble_eq_true rfl) ?_
  intro zp ze zs zm zargs zbelow zmeth zc zQ ls F N hl hret
  have hx := F.1
  have hb := F.2.1
  have hl : lv_has ls 4 [(0, .int c), (1, .int r), (2, .int w2), (3, .int h)] := hl
  refine lv_iload_n hx hb dX9_isWithin_0 rfl (lv_at hl 0 rfl) ?_
  refine lv_iload_n hx hb dX9_isWithin_1 rfl (lv_at hl 1 rfl) ?_
  refine cS_i F N (c_X9_isCell l G _ c r) miX9_isCell k_775 (by decide) hl.1 rfl (Nat.le_of_ble_eq_true rfl) dX9_isWithin_2 (fun H locs N => ?_)
  refine ifB_eq (tgt := 36) hx hb dX9_isWithin_5 (by decide) (fun c_5 => ?_) (fun c_5 => ?_)
  · refine lv_iconst (v := 0) hx hb dX9_isWithin_36 (by decide) ?_
    exact hret _ _ _ _ _ _ dX9_isWithin_37 (by first | rfl | (simp [bI, xIsAr, c_5])) (by first | rfl | (simp [bI, xIsAr, c_5])) N
  · refine lv_iload_n hx hb dX9_isWithin_8 rfl (lv_at hl 2 rfl) ?_
    refine lv_iconst (v := 1) hx hb dX9_isWithin_9 (by decide) ?_
    refine lv_bipush (v := 6) hx hb dX9_isWithin_10 (by decide) ?_
    refine lv_iload_n hx hb dX9_isWithin_12 rfl (lv_at hl 0 rfl) ?_
    refine lv_isub hx hb dX9_isWithin_13 ?_
    refine cS_i F N (c_X9_in l G _ w2 1 ((6 : Int32) - c)) miX9_in k_760 (by decide) hl.1 rfl (Nat.le_of_ble_eq_true rfl) dX9_isWithin_14 (fun H locs N => ?_)
    refine ifB_eq (tgt := 36) hx hb dX9_isWithin_17 (by decide) (fun c_17 => ?_) (fun c_17 => ?_)
    · refine lv_iconst (v := 0) hx hb dX9_isWithin_36 (by decide) ?_
      exact hret _ _ _ _ _ _ dX9_isWithin_37 (by first | rfl | (simp [bI, xIsAr, c_5, c_17])) (by first | rfl | (simp [bI, xIsAr, c_5, c_17])) N
    · refine lv_iload_n hx hb dX9_isWithin_20 rfl (lv_at hl 3 rfl) ?_
      refine lv_iconst (v := 1) hx hb dX9_isWithin_21 (by decide) ?_
      refine lv_bipush (v := 6) hx hb dX9_isWithin_22 (by decide) ?_
      refine lv_iload_n hx hb dX9_isWithin_24 rfl (lv_at hl 1 rfl) ?_
      refine lv_isub hx hb dX9_isWithin_25 ?_
      refine cS_i F N (c_X9_in l G _ h 1 ((6 : Int32) - r)) miX9_in k_760 (by decide) hl.1 rfl (Nat.le_of_ble_eq_true rfl) dX9_isWithin_26 (fun H locs N => ?_)
      refine ifB_eq (tgt := 36) hx hb dX9_isWithin_29 (by decide) (fun c_29 => ?_) (fun c_29 => ?_)
      · refine lv_iconst (v := 0) hx hb dX9_isWithin_36 (by decide) ?_
        exact hret _ _ _ _ _ _ dX9_isWithin_37 (by first | rfl | (simp [bI, xIsAr, c_5, c_17, c_29])) (by first | rfl | (simp [bI, xIsAr, c_5, c_17, c_29])) N
      · refine lv_iconst (v := 1) hx hb dX9_isWithin_32 (by decide) ?_
        refine lv_goto (tgt := 37) hx hb dX9_isWithin_33 (by decide) ?_
        exact hret _ _ _ _ _ _ dX9_isWithin_37 (by first | rfl | (simp [bI, xIsAr, c_5, c_17, c_29])) (by first | rfl | (simp [bI, xIsAr, c_5, c_17, c_29])) N
set_option maxHeartbeats 4000000 in
set_option maxRecDepth 100000 in
theorem c_X9_terms (l : Launch) (G : GM) (ad : Nat → Nat) (ex : va_W) (st : ST) (c : Nat) (r : Nat) (hc : c < 6) (hr : r < 6) : XCi l G yX9_terms cX9_terms 3 (some .int) 2 [.ref (ad 0), .int (nI c), .int (nI r)] (MW G ad st ++ ex) (st.2.1 0 (25 * (6 * r + c))) (MW G ad st ++ ex) := by
  refine xi_start (by decide) rfl (Nat.le_of_ble_eq_true rfl) ?_
  intro zp ze zs zm zargs zbelow zmeth zc zQ ls F N hl hret
  have hx := F.1
  have hb := F.2.1
  have hl : lv_has ls 3 [(0, .ref (ad 0)), (1, .int (nI c)), (2, .int (nI r))] := hl
  refine lv_iload_n hx hb dX9_terms_0 rfl (lv_at hl 1 rfl) ?_
  refine lv_iload_n hx hb dX9_terms_1 rfl (lv_at hl 2 rfl) ?_
  refine cS_i F N (c_X9_isCell l G _ (nI c) (nI r)) miX9_isCell k_775 (by decide) hl.1 rfl (Nat.le_of_ble_eq_true rfl) dX9_terms_2 (fun H locs N => ?_)
  refine toI (y := 1) (by rw [xIsPl_nI hc hr]; rfl) ?_
  refine lv_if_eq (tgt := 21) hx hb dX9_terms_5 (by decide) (fun c_5 => ?_) (fun c_5 => ?_)
  · first | exact absurd c_5 (by decide) | exact absurd (by decide) c_5
  refine lv_aload_n hx hb dX9_terms_8 rfl (lv_at hl 0 rfl) ?_
  refine gm_0_now F N k_682 dX9_terms_9 ?_
  refine lv_iload_n hx hb dX9_terms_12 rfl (lv_at hl 1 rfl) ?_
  refine lv_iload_n hx hb dX9_terms_13 rfl (lv_at hl 2 rfl) ?_
  refine cS_i F N (c_X9_placeOf l G _ c r) miX9_placeOf k_821 (by decide) hl.1 rfl (Nat.le_of_ble_eq_true rfl) dX9_terms_14 (fun H locs N => ?_)
  refine amN_0 (j := (25 * (6 * r + c))) F N (by omega) dX9_terms_17 ?_
  refine lv_goto (tgt := 25) hx hb dX9_terms_18 (by decide) ?_
  exact hret _ _ _ _ _ _ dX9_terms_25 (by first | rfl | (simp [bI])) (by first | rfl | (simp [bI])) N
set_option maxHeartbeats 4000000 in
set_option maxRecDepth 100000 in
theorem c_X9_term_bad (l : Launch) (G : GM) (ad : Nat → Nat) (ex : va_W) (st : ST) (c : Int32) (r : Int32) (i : Int32) (what : Int32) (hbad : (xIsPl c r && xIsW what 0 5) = false) : MMi l G yX9_term cX9_term 6 (some .int) 2 [.ref (ad 0), .int c, .int r, .int i, .int what] ad ex st (-2) (mBad st) := by
  refine xi_start (by decide) rfl (Nat.le_of_ble_eq_true rfl) ?_
  intro zp ze zs zm zargs zbelow zmeth zc zQ ls F N hl hret
  have hx := F.1
  have hb := F.2.1
  have hl : lv_has ls 6 [(0, .ref (ad 0)), (1, .int c), (2, .int r), (3, .int i), (4, .int what)] := hl
  refine lv_iload_n hx hb dX9_term_0 rfl (lv_at hl 1 rfl) ?_
  refine lv_iload_n hx hb dX9_term_1 rfl (lv_at hl 2 rfl) ?_
  refine cS_i F N (c_X9_isCell l G _ c r) miX9_isCell k_775 (by decide) hl.1 rfl (Nat.le_of_ble_eq_true rfl) dX9_term_2 (fun H locs N => ?_)
  refine ifB_eq (tgt := 42) hx hb dX9_term_5 (by decide) (fun c_5 => ?_) (fun c_5 => ?_)
  · refine lv_iconst (v := 0) hx hb dX9_term_42 (by decide) ?_
    refine lv_istore (lv' := [(5, .int 0), (0, .ref (ad 0)), (1, .int c), (2, .int r), (3, .int i), (4, .int what)]) hx hb dX9_term_43 hl (by decide) rfl (fun ls hl => ?_)
    refine lv_iload hx hb dX9_term_45 (lv_at hl 0 rfl) ?_
    refine lv_if_eq (tgt := 70) hx hb dX9_term_47 (by decide) (fun c_47 => ?_) (fun c_47 => ?_)
    rotate_left
    · first | exact absurd (by decide) c_47 | exact absurd c_47 (by decide)
    refine lv_aload_n hx hb dX9_term_70 rfl (lv_at hl 1 rfl) ?_
    refine mV_i F N (c_X9_bad l G ad ex st ) miX9_bad k_763 (by decide) hl.1 rfl (Nat.le_of_ble_eq_true rfl) (q0 := 0) (ci := 8) rfl rfl dX9_term_71 (fun st_71 est_71 H locs N => ?_)
    exact hret _ _ _ _ _ _ dX9_term_74 (by first | rfl | (subst est_71; rfl) | (subst est_71; simp [bI, c_5])) (by first | rfl | (subst est_71; rfl) | (subst est_71; simp [bI, c_5])) N
  · refine lv_iload hx hb dX9_term_8 (lv_at hl 4 rfl) ?_
    refine lv_iconst (v := 0) hx hb dX9_term_10 (by decide) ?_
    refine lv_iconst (v := 5) hx hb dX9_term_11 (by decide) ?_
    refine cS_i F N (c_X9_in l G _ what 0 5) miX9_in k_760 (by decide) hl.1 rfl (Nat.le_of_ble_eq_true rfl) dX9_term_12 (fun H locs N => ?_)
    refine ifB_eq (tgt := 42) hx hb dX9_term_15 (by decide) (fun c_15 => ?_) (fun c_15 => ?_)
    · refine lv_iconst (v := 0) hx hb dX9_term_42 (by decide) ?_
      refine lv_istore (lv' := [(5, .int 0), (0, .ref (ad 0)), (1, .int c), (2, .int r), (3, .int i), (4, .int what)]) hx hb dX9_term_43 hl (by decide) rfl (fun ls hl => ?_)
      refine lv_iload hx hb dX9_term_45 (lv_at hl 0 rfl) ?_
      refine lv_if_eq (tgt := 70) hx hb dX9_term_47 (by decide) (fun c_47 => ?_) (fun c_47 => ?_)
      rotate_left
      · first | exact absurd (by decide) c_47 | exact absurd c_47 (by decide)
      refine lv_aload_n hx hb dX9_term_70 rfl (lv_at hl 1 rfl) ?_
      refine mV_i F N (c_X9_bad l G ad ex st ) miX9_bad k_763 (by decide) hl.1 rfl (Nat.le_of_ble_eq_true rfl) (q0 := 0) (ci := 8) rfl rfl dX9_term_71 (fun st_71 est_71 H locs N => ?_)
      exact hret _ _ _ _ _ _ dX9_term_74 (by first | rfl | (subst est_71; rfl) | (subst est_71; simp [bI, c_5, c_15])) (by first | rfl | (subst est_71; rfl) | (subst est_71; simp [bI, c_5, c_15])) N
    · exact absurd hbad (by simp [c_5, c_15])
set_option maxHeartbeats 4000000 in
set_option maxRecDepth 100000 in
theorem c_X9_term_no (l : Launch) (G : GM) (ad : Nat → Nat) (ex : va_W) (st : ST) (c : Nat) (r : Nat) (i : Int32) (what : Nat) (hc : c < 6) (hr : r < 6) (hw : what < 6) (hi : xIsW i 0 (st.2.1 0 (25 * (6 * r + c)) - 1) = false) : MMi l G yX9_term cX9_term 6 (some .int) 2 [.ref (ad 0), .int (nI c), .int (nI r), .int i, .int (nI what)] ad ex st (-2) (mBad st) := by
  refine xi_start (by decide) rfl (Nat.le_of_ble_eq_true rfl) ?_
  intro zp ze zs zm zargs zbelow zmeth zc zQ ls F N hl hret
  have hx := F.1
  have hb := F.2.1
  have hl : lv_has ls 6 [(0, .ref (ad 0)), (1, .int (nI c)), (2, .int (nI r)), (3, .int i), (4, .int (nI what))] := hl
  refine lv_iload_n hx hb dX9_term_0 rfl (lv_at hl 1 rfl) ?_
  refine lv_iload_n hx hb dX9_term_1 rfl (lv_at hl 2 rfl) ?_
  refine cS_i F N (c_X9_isCell l G _ (nI c) (nI r)) miX9_isCell k_775 (by decide) hl.1 rfl (Nat.le_of_ble_eq_true rfl) dX9_term_2 (fun H locs N => ?_)
  refine toI (y := 1) (by rw [xIsPl_nI hc hr]; rfl) ?_
  refine lv_if_eq (tgt := 42) hx hb dX9_term_5 (by decide) (fun c_5 => ?_) (fun c_5 => ?_)
  · first | exact absurd c_5 (by decide) | exact absurd (by decide) c_5
  refine lv_iload hx hb dX9_term_8 (lv_at hl 4 rfl) ?_
  refine lv_iconst (v := 0) hx hb dX9_term_10 (by decide) ?_
  refine lv_iconst (v := 5) hx hb dX9_term_11 (by decide) ?_
  refine cS_i F N (c_X9_in l G _ (nI what) 0 5) miX9_in k_760 (by decide) hl.1 rfl (Nat.le_of_ble_eq_true rfl) dX9_term_12 (fun H locs N => ?_)
  refine toI (y := 1) (by rw [show xIsW (nI what) 0 5 = true from xIsW_nI (a := 0) (b := 5) (by omega) (by omega) (by decide)]; rfl) ?_
  refine lv_if_eq (tgt := 42) hx hb dX9_term_15 (by decide) (fun c_15 => ?_) (fun c_15 => ?_)
  · first | exact absurd c_15 (by decide) | exact absurd (by decide) c_15
  refine lv_iload_n hx hb dX9_term_18 rfl (lv_at hl 3 rfl) ?_
  refine lv_iconst (v := 0) hx hb dX9_term_19 (by decide) ?_
  refine lv_aload_n hx hb dX9_term_20 rfl (lv_at hl 0 rfl) ?_
  refine gm_0_now F N k_682 dX9_term_21 ?_
  refine lv_iload_n hx hb dX9_term_24 rfl (lv_at hl 1 rfl) ?_
  refine lv_iload_n hx hb dX9_term_25 rfl (lv_at hl 2 rfl) ?_
  refine cS_i F N (c_X9_placeOf l G _ c r) miX9_placeOf k_821 (by decide) hl.1 rfl (Nat.le_of_ble_eq_true rfl) dX9_term_26 (fun H locs N => ?_)
  refine amN_0 (j := (25 * (6 * r + c))) F N (by omega) dX9_term_29 ?_
  refine lv_iconst (v := 1) hx hb dX9_term_30 (by decide) ?_
  refine lv_isub hx hb dX9_term_31 ?_
  refine cS_i F N (c_X9_in l G _ i 0 ((st.2.1 0 (25 * (6 * r + c))) - (1 : Int32))) miX9_in k_760 (by decide) hl.1 rfl (Nat.le_of_ble_eq_true rfl) dX9_term_32 (fun H locs N => ?_)
  refine toI (y := 0) (by rw [hi]; rfl) ?_
  refine lv_if_eq (tgt := 42) hx hb dX9_term_35 (by decide) (fun c_35 => ?_) (fun c_35 => ?_)
  rotate_left
  · first | exact absurd (by decide) c_35 | exact absurd c_35 (by decide)
  refine lv_iconst (v := 0) hx hb dX9_term_42 (by decide) ?_
  refine lv_istore (lv' := [(5, .int 0), (0, .ref (ad 0)), (1, .int (nI c)), (2, .int (nI r)), (3, .int i), (4, .int (nI what))]) hx hb dX9_term_43 hl (by decide) rfl (fun ls hl => ?_)
  refine lv_iload hx hb dX9_term_45 (lv_at hl 0 rfl) ?_
  refine lv_if_eq (tgt := 70) hx hb dX9_term_47 (by decide) (fun c_47 => ?_) (fun c_47 => ?_)
  rotate_left
  · first | exact absurd (by decide) c_47 | exact absurd c_47 (by decide)
  refine lv_aload_n hx hb dX9_term_70 rfl (lv_at hl 1 rfl) ?_
  refine mV_i F N (c_X9_bad l G ad ex st ) miX9_bad k_763 (by decide) hl.1 rfl (Nat.le_of_ble_eq_true rfl) (q0 := 0) (ci := 8) rfl rfl dX9_term_71 (fun st_71 est_71 H locs N => ?_)
  exact hret _ _ _ _ _ _ dX9_term_74 (by first | rfl | (subst est_71; rfl) | (subst est_71; simp [bI])) (by first | rfl | (subst est_71; rfl) | (subst est_71; simp [bI])) N
set_option maxHeartbeats 4000000 in
set_option maxRecDepth 100000 in
theorem c_X9_term (l : Launch) (G : GM) (ad : Nat → Nat) (ex : va_W) (st : ST) (c : Nat) (r : Nat) (i : Nat) (what : Nat) (hc : c < 6) (hr : r < 6) (hw : what < 6) (hi4 : i < 4) (hi : xIsW (nI i) 0 (st.2.1 0 (25 * (6 * r + c)) - 1) = true) : XCi l G yX9_term cX9_term 6 (some .int) 2 [.ref (ad 0), .int (nI c), .int (nI r), .int (nI i), .int (nI what)] (MW G ad st ++ ex) (st.2.1 0 (25 * (6 * r + c) + 1 + 6 * i + what)) (MW G ad st ++ ex) := by
  refine xi_start (by decide) rfl (Nat.le_of_ble_eq_true rfl) ?_
  intro zp ze zs zm zargs zbelow zmeth zc zQ ls F N hl hret
  have hx := F.1
  have hb := F.2.1
  have hl : lv_has ls 6 [(0, .ref (ad 0)), (1, .int (nI c)), (2, .int (nI r)), (3, .int (nI i)), (4, .int (nI what))] := hl
  refine lv_iload_n hx hb dX9_term_0 rfl (lv_at hl 1 rfl) ?_
  refine lv_iload_n hx hb dX9_term_1 rfl (lv_at hl 2 rfl) ?_
  refine cS_i F N (c_X9_isCell l G _ (nI c) (nI r)) miX9_isCell k_775 (by decide) hl.1 rfl (Nat.le_of_ble_eq_true rfl) dX9_term_2 (fun H locs N => ?_)
  refine toI (y := 1) (by rw [xIsPl_nI hc hr]; rfl) ?_
  refine lv_if_eq (tgt := 42) hx hb dX9_term_5 (by decide) (fun c_5 => ?_) (fun c_5 => ?_)
  · first | exact absurd c_5 (by decide) | exact absurd (by decide) c_5
  refine lv_iload hx hb dX9_term_8 (lv_at hl 4 rfl) ?_
  refine lv_iconst (v := 0) hx hb dX9_term_10 (by decide) ?_
  refine lv_iconst (v := 5) hx hb dX9_term_11 (by decide) ?_
  refine cS_i F N (c_X9_in l G _ (nI what) 0 5) miX9_in k_760 (by decide) hl.1 rfl (Nat.le_of_ble_eq_true rfl) dX9_term_12 (fun H locs N => ?_)
  refine toI (y := 1) (by rw [show xIsW (nI what) 0 5 = true from xIsW_nI (a := 0) (b := 5) (by omega) (by omega) (by decide)]; rfl) ?_
  refine lv_if_eq (tgt := 42) hx hb dX9_term_15 (by decide) (fun c_15 => ?_) (fun c_15 => ?_)
  · first | exact absurd c_15 (by decide) | exact absurd (by decide) c_15
  refine lv_iload_n hx hb dX9_term_18 rfl (lv_at hl 3 rfl) ?_
  refine lv_iconst (v := 0) hx hb dX9_term_19 (by decide) ?_
  refine lv_aload_n hx hb dX9_term_20 rfl (lv_at hl 0 rfl) ?_
  refine gm_0_now F N k_682 dX9_term_21 ?_
  refine lv_iload_n hx hb dX9_term_24 rfl (lv_at hl 1 rfl) ?_
  refine lv_iload_n hx hb dX9_term_25 rfl (lv_at hl 2 rfl) ?_
  refine cS_i F N (c_X9_placeOf l G _ c r) miX9_placeOf k_821 (by decide) hl.1 rfl (Nat.le_of_ble_eq_true rfl) dX9_term_26 (fun H locs N => ?_)
  refine amN_0 (j := (25 * (6 * r + c))) F N (by omega) dX9_term_29 ?_
  refine lv_iconst (v := 1) hx hb dX9_term_30 (by decide) ?_
  refine lv_isub hx hb dX9_term_31 ?_
  refine cS_i F N (c_X9_in l G _ (nI i) 0 ((st.2.1 0 (25 * (6 * r + c))) - (1 : Int32))) miX9_in k_760 (by decide) hl.1 rfl (Nat.le_of_ble_eq_true rfl) dX9_term_32 (fun H locs N => ?_)
  refine toI (y := 1) (by rw [hi]; rfl) ?_
  refine lv_if_eq (tgt := 42) hx hb dX9_term_35 (by decide) (fun c_35 => ?_) (fun c_35 => ?_)
  · first | exact absurd c_35 (by decide) | exact absurd (by decide) c_35
  refine lv_iconst (v := 1) hx hb dX9_term_38 (by decide) ?_
  refine lv_goto (tgt := 43) hx hb dX9_term_39 (by decide) ?_
  refine lv_istore (lv' := [(5, .int 1), (0, .ref (ad 0)), (1, .int (nI c)), (2, .int (nI r)), (3, .int (nI i)), (4, .int (nI what))]) hx hb dX9_term_43 hl (by decide) rfl (fun ls hl => ?_)
  refine lv_iload hx hb dX9_term_45 (lv_at hl 0 rfl) ?_
  refine lv_if_eq (tgt := 70) hx hb dX9_term_47 (by decide) (fun c_47 => ?_) (fun c_47 => ?_)
  · first | exact absurd c_47 (by decide) | exact absurd (by decide) c_47
  refine lv_aload_n hx hb dX9_term_50 rfl (lv_at hl 1 rfl) ?_
  refine gm_0_now F N k_682 dX9_term_51 ?_
  refine lv_iload_n hx hb dX9_term_54 rfl (lv_at hl 2 rfl) ?_
  refine lv_iload_n hx hb dX9_term_55 rfl (lv_at hl 3 rfl) ?_
  refine cS_i F N (c_X9_placeOf l G _ c r) miX9_placeOf k_821 (by decide) hl.1 rfl (Nat.le_of_ble_eq_true rfl) dX9_term_56 (fun H locs N => ?_)
  refine lv_iload_n hx hb dX9_term_59 rfl (lv_at hl 4 rfl) ?_
  refine cS_i F N (c_X9_termPlace l G _ (25 * (6 * r + c)) i) miX9_termPlace k_858 (by decide) hl.1 rfl (Nat.le_of_ble_eq_true rfl) dX9_term_60 (fun H locs N => ?_)
  refine lv_iload hx hb dX9_term_63 (lv_at hl 5 rfl) ?_
  refine iaddN (a := ((25 * (6 * r + c)) + 1 + 6 * i)) (b := what) hx hb dX9_term_65 ?_
  refine amN_0 (j := (((25 * (6 * r + c)) + 1 + 6 * i) + what)) F N (by omega) dX9_term_66 ?_
  refine lv_goto (tgt := 74) hx hb dX9_term_67 (by decide) ?_
  exact hret _ _ _ _ _ _ dX9_term_74 (by first | rfl | (simp [bI])) (by first | rfl | (simp [bI])) N
