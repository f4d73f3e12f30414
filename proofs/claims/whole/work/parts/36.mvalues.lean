/-! the reference's values: a stack of cells that are being asked; d its depth -/
def cl (x : Int32) : Nat := x.toNatClampNeg
def mMeet (st : ST) (w c : Int32) : ST := sI (sI (sI st 6 w) 7 c) 8 (st.1 5 - 1)
def mAdd1 (st : ST) (d : Nat) (v : Int32) : ST := sA st 12 (upd (st.2.1 12) (d - 1) (st.2.1 12 (d - 1) + v))
def mAdds (st : ST) (d : Nat) (v : Int32) : ST := if st.2.1 12 (d - 1) + v ≤ 99999 then mAdd1 st d v else mMeet (mAdd1 st d v) 3 (st.2.1 9 (d - 1))
def mPush (st : ST) (d ce : Nat) : ST := sI (sA (sA (sA (sA (sA st 7 (upd (st.2.1 7) ce 1)) 9 (upd (st.2.1 9) d (nI ce))) 10 (upd (st.2.1 10) d 0)) 11 (upd (st.2.1 11) d 0)) 12 (upd (st.2.1 12) d 0)) 5 (nI (d + 1))
def mAsks (st : ST) (d ce : Nat) : ST := if st.2.1 7 ce = 1 then mMeet st 2 (nI ce) else if st.2.1 7 ce = 2 then mAdds st d (st.2.1 8 ce) else mPush st d ce
def mABc (kk a b c : Nat) : Nat := 6 * (b + kk / (c - a + 1)) + a + kk % (c - a + 1)
def mABl (st : ST) (d top kk a b c e : Nat) : ST :=
  if kk = (c - a + 1) * (e - b + 1) then sA (sA st 11 (upd (st.2.1 11) top 0)) 10 (upd (st.2.1 10) top (st.2.1 10 top + 1))
  else mAsks (sA st 11 (upd (st.2.1 11) top (nI (kk + 1)))) d (mABc kk a b c)
theorem mABc_lt {kk a b c e : Nat} (h : kk < (c - a + 1) * (e - b + 1)) (hc : c < 6) (he : e < 6) (hac : a ≤ c) (hbe : b ≤ e) : mABc kk a b c < 36 := by
  have h1 : kk % (c - a + 1) < c - a + 1 := Nat.mod_lt _ (by omega)
  have h2 : kk / (c - a + 1) < e - b + 1 := Nat.div_lt_of_lt_mul h
  unfold mABc
  omega
def mPop1 (st : ST) (d ce : Nat) : ST := sI (sA (sA st 7 (upd (st.2.1 7) ce 2)) 8 (upd (st.2.1 8) ce (st.2.1 12 (d - 1)))) 5 (nI (d - 1))
def mPop (st : ST) (d ce : Nat) : ST := if d - 1 = 0 then mPop1 st d ce else mAdds (mPop1 st d ce) (d - 1) (st.2.1 12 (d - 1))
def mNxt (st : ST) (d ti : Nat) : ST := sA st 10 (upd (st.2.1 10) (d - 1) (nI (ti + 1)))
def mStpG (st : ST) (d ce ti m a b c e kk : Nat) : ST :=
  if ti = m then mPop st d ce
  else if st.2.1 0 (25 * ce + 1 + 6 * ti + 0) = 0 then mAdds (mNxt st d ti) d (st.2.1 0 (25 * ce + 1 + 6 * ti + 1))
  else if st.2.1 0 (25 * ce + 1 + 6 * ti + 0) = 1 then mAsks (mNxt st d ti) d (6 * b + a)
  else if st.2.1 0 (25 * ce + 1 + 6 * ti + 0) = 2 then mABl st d (d - 1) kk a b c e
  else mMeet st 1 (nI ce)
/-- what one step more needs -/
def GaP (st : ST) (d ce ti m a b c e kk : Nat) : Prop :=
  st.1 5 = nI d ∧ 1 ≤ d ∧ d ≤ 36 ∧ st.2.1 9 (d - 1) = nI ce ∧ ce < 36 ∧ st.2.1 10 (d - 1) = nI ti ∧ st.2.1 0 (25 * ce) = nI m ∧ ti ≤ m ∧ m ≤ 4 ∧ (∀ x, x < 36 → ¬ st.2.1 7 x = 1 → ¬ st.2.1 7 x = 2 → d < 36) ∧
  (¬ ti = m → (st.2.1 0 (25 * ce + 1 + 6 * ti + 0) = 1 → st.2.1 0 (25 * ce + 1 + 6 * ti + 1) = nI a ∧ st.2.1 0 (25 * ce + 1 + 6 * ti + 2) = nI b ∧ a < 6 ∧ b < 6) ∧
    (st.2.1 0 (25 * ce + 1 + 6 * ti + 0) = 2 → st.2.1 0 (25 * ce + 1 + 6 * ti + 1) = nI a ∧ st.2.1 0 (25 * ce + 1 + 6 * ti + 2) = nI b ∧ st.2.1 0 (25 * ce + 1 + 6 * ti + 3) = nI c ∧ st.2.1 0 (25 * ce + 1 + 6 * ti + 4) = nI e ∧ a ≤ c ∧ b ≤ e ∧ c < 6 ∧ e < 6 ∧ st.2.1 11 (d - 1) = nI kk ∧ kk ≤ (c - a + 1) * (e - b + 1)))
def mStp (st : ST) : ST :=
  mStpG st (cl (st.1 5)) (cl (st.2.1 9 (cl (st.1 5) - 1))) (cl (st.2.1 10 (cl (st.1 5) - 1))) (cl (st.2.1 0 (25 * cl (st.2.1 9 (cl (st.1 5) - 1)))))
    (cl (st.2.1 0 (25 * cl (st.2.1 9 (cl (st.1 5) - 1)) + 1 + 6 * cl (st.2.1 10 (cl (st.1 5) - 1)) + 1))) (cl (st.2.1 0 (25 * cl (st.2.1 9 (cl (st.1 5) - 1)) + 1 + 6 * cl (st.2.1 10 (cl (st.1 5) - 1)) + 2)))
    (cl (st.2.1 0 (25 * cl (st.2.1 9 (cl (st.1 5) - 1)) + 1 + 6 * cl (st.2.1 10 (cl (st.1 5) - 1)) + 3))) (cl (st.2.1 0 (25 * cl (st.2.1 9 (cl (st.1 5) - 1)) + 1 + 6 * cl (st.2.1 10 (cl (st.1 5) - 1)) + 4))) (cl (st.2.1 11 (cl (st.1 5) - 1)))
def mRun : Nat → ST → ST
  | 0, s => s
  | n + 1, s => if s.1 5 ≤ 0 then s else if s.1 6 = 0 then mRun n (mStp s) else s
def zk (st : ST) : Nat → Int32 := lp (fun i h => upd h i 0) 36 0 (st.2.1 7)
theorem zk_0 (st : ST) {k : Nat} (hk : k < 36) : zk st k = 0 := by
  have h := lp_inv (f := fun i g => upd g i 0) (fun i g => k < i → g k = 0) 36 0 (st.2.1 7) (fun h => absurd h (by omega)) (fun j b _ _ hb hj => by
    show upd b j 0 k = 0
    by_cases e : k = j
    · rw [e]; exact upd_same b j 0
    · rw [upd_other b 0 e]
      exact hb (by omega))
  exact h hk
def mF00 (st : ST) : ST := sI (sI (sA st 7 (zk st)) 5 0) 6 0
def mF0 (st : ST) (ce : Nat) : ST := mPush (mF00 st) 0 ce
theorem mF0_eq (st : ST) {ce : Nat} (hce : ce < 36) : mAsks (sI (sI (sA st 7 (zk st)) 5 0) 6 0) 0 ce = mF0 st ce := by
  have h : (sI (sI (sA st 7 (zk st)) 5 0) 6 0).2.1 7 ce = 0 := zk_0 st hce
  rw [mAsks, if_neg (by rw [h]; decide), if_neg (by rw [h]; decide)]
  rfl
def mFin (st : ST) (ce n : Nat) : ST := mRun n (mF0 st ce)
def FindOk (st : ST) (ce n : Nat) : Prop :=
  ∃ Pv : ST → Prop, Pv (mF0 st ce) ∧ (∀ s, Pv s → ¬ s.1 5 ≤ 0 → s.1 6 = 0 → (∃ d ce ti m a b c e kk, GaP s d ce ti m a b c e kk ∧ mStp s = mStpG s d ce ti m a b c e kk) ∧ Pv (mStp s)) ∧ ¬ (¬ (mFin st ce n).1 5 ≤ 0 ∧ (mFin st ce n).1 6 = 0)
def mVal (st : ST) (ce n : Nat) : Int32 := if (mFin st ce n).1 6 = 0 then (mFin st ce n).2.1 8 ce else -10 - (mFin st ce n).1 6
def mWhy (st : ST) (ce n : Nat) : Int32 := if (mFin st ce n).1 6 = 0 then -1 else 10 * xCol ((mFin st ce n).1 7) + xRow ((mFin st ce n).1 7)
def mDeep (st : ST) (ce n : Nat) : Int32 := if (mFin st ce n).1 6 = 0 then -1 else (mFin st ce n).1 8
set_option maxHeartbeats 4000000 in
set_option maxRecDepth 100000 in
theorem c_X9_meets (l : Launch) (G : GM) (ad : Nat → Nat) (ex : va_W) (st : ST) (w2 : Int32) (c : Int32) : MMv l G yX9_meets cX9_meets 3 none 0 [.ref (ad 0), .int w2, .int c] ad ex st (mMeet st w2 c) := by
  refine xv_start (by decide) (Nat.le_of_ble_eq_true rfl) ?_
  intro zp ze zs zm zargs zbelow zmeth zc zQ ls F N hl hret
  have hx := F.1
  have hb := F.2.1
  have hl : lv_has ls 3 [(0, .ref (ad 0)), (1, .int w2), (2, .int c)] := hl
  refine lv_aload_n hx hb dX9_meets_0 rfl (lv_at hl 0 rfl) ?_
  refine lv_iload_n hx hb dX9_meets_1 rfl (lv_at hl 1 rfl) ?_
  refine pm_0_fault F N k_701 dX9_meets_2 (fun st_2 est_2 H locs N => ?_)
  refine lv_aload_n hx hb dX9_meets_5 rfl (lv_at hl 0 rfl) ?_
  refine lv_iload_n hx hb dX9_meets_6 rfl (lv_at hl 2 rfl) ?_
  refine pm_0_faultCell F N k_702 dX9_meets_7 (fun st_7 est_7 H locs N => ?_)
  refine lv_aload_n hx hb dX9_meets_10 rfl (lv_at hl 0 rfl) ?_
  refine lv_aload_n hx hb dX9_meets_11 rfl (lv_at hl 0 rfl) ?_
  refine gm_0_depth F N k_700 dX9_meets_12 ?_
  refine toI (y := st.1 5) (by rw [est_7, est_2]; rfl) ?_
  refine lv_iconst (v := 1) hx hb dX9_meets_15 (by decide) ?_
  refine lv_isub hx hb dX9_meets_16 ?_
  refine pm_0_faultDeep F N k_703 dX9_meets_17 (fun st_17 est_17 H locs N => ?_)
  exact hret _ _ _ _ _ dX9_meets_20 (by rw [est_17, est_7, est_2]; rfl) N
set_option maxHeartbeats 4000000 in
set_option maxRecDepth 100000 in
theorem c_X9_adds (l : Launch) (G : GM) (ad : Nat → Nat) (ex : va_W) (st : ST) (v : Int32) (d : Nat) (hd : st.1 5 = nI d) (h1 : 1 ≤ d) (h36 : d ≤ 36) : MMv l G yX9_adds cX9_adds 2 none 1 [.ref (ad 0), .int v] ad ex st (mAdds st d v) := by
  refine xv_start (by decide) (Nat.le_of_ble_eq_true rfl) ?_
  intro zp ze zs zm zargs zbelow zmeth zc zQ ls F N hl hret
  have hx := F.1
  have hb := F.2.1
  have hl : lv_has ls 2 [(0, .ref (ad 0)), (1, .int v)] := hl
  refine lv_aload_n hx hb dX9_adds_0 rfl (lv_at hl 0 rfl) ?_
  refine gm_0_sums F N k_699 dX9_adds_1 ?_
  refine lv_aload_n hx hb dX9_adds_4 rfl (lv_at hl 0 rfl) ?_
  refine gm_0_depth F N k_700 dX9_adds_5 ?_
  refine toN (a := d) hd ?_
  refine lv_iconst (v := 1) hx hb dX9_adds_8 (by decide) ?_
  refine isubN (a := d) (b := 1) hx hb dX9_adds_9 (by omega) ?_
  refine lv_dup2_11 hx hb dX9_adds_10 rfl rfl ?_
  refine amN_12 (j := (d - 1)) F N (by omega) dX9_adds_11 ?_
  refine lv_iload_n hx hb dX9_adds_12 rfl (lv_at hl 1 rfl) ?_
  refine lv_iadd hx hb dX9_adds_13 ?_
  refine smN_12 (j := (d - 1)) F N (by omega) dX9_adds_14 (fun st_14 est_14 H locs N => ?_)
  refine lv_aload_n hx hb dX9_adds_15 rfl (lv_at hl 0 rfl) ?_
  refine gm_0_sums F N k_699 dX9_adds_16 ?_
  refine lv_aload_n hx hb dX9_adds_19 rfl (lv_at hl 0 rfl) ?_
  refine gm_0_depth F N k_700 dX9_adds_20 ?_
  refine toN (a := d) (by rw [est_14]; exact hd) ?_
  refine lv_iconst (v := 1) hx hb dX9_adds_23 (by decide) ?_
  refine isubN (a := d) (b := 1) hx hb dX9_adds_24 (by omega) ?_
  refine amN_12 (j := (d - 1)) F N (by omega) dX9_adds_25 ?_
  refine toI (y := st.2.1 12 (d - 1) + v) (by rw [est_14]; exact upd_same _ _ _) ?_
  refine lv_ldc (v := 99999) hx hb F.2.2.2.1 (F.2.2.2.2.1 _ k_956) dX9_adds_26 ?_
  refine lv_icmp_le (tgt := 47) hx hb dX9_adds_28 (by decide) (fun c_28 => ?_) (fun c_28 => ?_)
  · have c_28v := le_nlt c_28
    exact hret _ _ _ _ _ dX9_adds_47 (by first | (rw [mAdds, if_pos c_28, est_14]; rfl) | (rw [mAdds, if_neg c_28, est_14]; rfl)) N
  · have c_28v := nle_lt c_28
    refine lv_aload_n hx hb dX9_adds_31 rfl (lv_at hl 0 rfl) ?_
    refine lv_iconst (v := 3) hx hb dX9_adds_32 (by decide) ?_
    refine lv_aload_n hx hb dX9_adds_33 rfl (lv_at hl 0 rfl) ?_
    refine gm_0_asked F N k_696 dX9_adds_34 ?_
    refine lv_aload_n hx hb dX9_adds_37 rfl (lv_at hl 0 rfl) ?_
    refine gm_0_depth F N k_700 dX9_adds_38 ?_
    refine toN (a := d) (by rw [est_14]; exact hd) ?_
    refine lv_iconst (v := 1) hx hb dX9_adds_41 (by decide) ?_
    refine isubN (a := d) (b := 1) hx hb dX9_adds_42 (by omega) ?_
    refine amN_9 (j := (d - 1)) F N (by omega) dX9_adds_43 ?_
    refine toI (y := st.2.1 9 (d - 1)) (by rw [est_14]; rfl) ?_
    refine mV_v F N (c_X9_meets l G ad ex st_14 3 (st.2.1 9 (d - 1))) miX9_meets k_948 (by decide) hl.1 rfl (Nat.le_of_ble_eq_true rfl) (q0 := 0) (ci := 8) rfl rfl dX9_adds_44 (fun st_44 est_44 H locs N => ?_)
    exact hret _ _ _ _ _ dX9_adds_47 (by first | (rw [mAdds, if_pos c_28, est_44, est_14]; rfl) | (rw [mAdds, if_neg c_28, est_44, est_14]; rfl)) N
set_option maxHeartbeats 4000000 in
set_option maxRecDepth 100000 in
theorem c_X9_asks (l : Launch) (G : GM) (ad : Nat → Nat) (ex : va_W) (st : ST) (ce : Nat) (d : Nat) (hd : st.1 5 = nI d) (h36 : d ≤ 36) (hc : ce < 36) (h2 : st.2.1 7 ce = 2 → 1 ≤ d) (h3 : ¬ st.2.1 7 ce = 1 → ¬ st.2.1 7 ce = 2 → d < 36) : MMv l G yX9_asks cX9_asks 2 none 2 [.ref (ad 0), .int (nI ce)] ad ex st (mAsks st d ce) := by
  refine xv_start (by decide) (Nat.le_of_ble_eq_true rfl) ?_
  intro zp ze zs zm zargs zbelow zmeth zc zQ ls F N hl hret
  have hx := F.1
  have hb := F.2.1
  have hl : lv_has ls 2 [(0, .ref (ad 0)), (1, .int (nI ce))] := hl
  refine lv_aload_n hx hb dX9_asks_0 rfl (lv_at hl 0 rfl) ?_
  refine gm_0_isKnown F N k_694 dX9_asks_1 ?_
  refine lv_iload_n hx hb dX9_asks_4 rfl (lv_at hl 1 rfl) ?_
  refine amN_7 (j := ce) F N (by omega) dX9_asks_5 ?_
  refine lv_iconst (v := 1) hx hb dX9_asks_6 (by decide) ?_
  refine lv_icmp_ne (tgt := 19) hx hb dX9_asks_7 (by decide) (fun c_7 => ?_) (fun c_7 => ?_)
  · refine lv_aload_n hx hb dX9_asks_19 rfl (lv_at hl 0 rfl) ?_
    refine gm_0_isKnown F N k_694 dX9_asks_20 ?_
    refine lv_iload_n hx hb dX9_asks_23 rfl (lv_at hl 1 rfl) ?_
    refine amN_7 (j := ce) F N (by omega) dX9_asks_24 ?_
    refine lv_iconst (v := 2) hx hb dX9_asks_25 (by decide) ?_
    refine lv_icmp_ne (tgt := 42) hx hb dX9_asks_26 (by decide) (fun c_26 => ?_) (fun c_26 => ?_)
    · refine lv_aload_n hx hb dX9_asks_42 rfl (lv_at hl 0 rfl) ?_
      refine gm_0_isKnown F N k_694 dX9_asks_43 ?_
      refine lv_iload_n hx hb dX9_asks_46 rfl (lv_at hl 1 rfl) ?_
      refine lv_iconst (v := 1) hx hb dX9_asks_47 (by decide) ?_
      refine smN_7 (j := ce) F N (by omega) dX9_asks_48 (fun st_48 est_48 H locs N => ?_)
      refine lv_aload_n hx hb dX9_asks_49 rfl (lv_at hl 0 rfl) ?_
      refine gm_0_asked F N k_696 dX9_asks_50 ?_
      refine lv_aload_n hx hb dX9_asks_53 rfl (lv_at hl 0 rfl) ?_
      refine gm_0_depth F N k_700 dX9_asks_54 ?_
      refine toN (a := d) (by first | exact hd | (rw [est_48]; exact hd)) ?_
      refine lv_iload_n hx hb dX9_asks_57 rfl (lv_at hl 1 rfl) ?_
      refine smN_9 (j := d) F N (h3 c_7 c_26) dX9_asks_58 (fun st_58 est_58 H locs N => ?_)
      refine lv_aload_n hx hb dX9_asks_59 rfl (lv_at hl 0 rfl) ?_
      refine gm_0_termAt F N k_697 dX9_asks_60 ?_
      refine lv_aload_n hx hb dX9_asks_63 rfl (lv_at hl 0 rfl) ?_
      refine gm_0_depth F N k_700 dX9_asks_64 ?_
      refine toN (a := d) (by first | exact hd | (rw [est_58, est_48]; exact hd)) ?_
      refine lv_iconst (v := 0) hx hb dX9_asks_67 (by decide) ?_
      refine smN_10 (j := d) F N (h3 c_7 c_26) dX9_asks_68 (fun st_68 est_68 H locs N => ?_)
      refine lv_aload_n hx hb dX9_asks_69 rfl (lv_at hl 0 rfl) ?_
      refine gm_0_cellAt F N k_698 dX9_asks_70 ?_
      refine lv_aload_n hx hb dX9_asks_73 rfl (lv_at hl 0 rfl) ?_
      refine gm_0_depth F N k_700 dX9_asks_74 ?_
      refine toN (a := d) (by first | exact hd | (rw [est_68, est_58, est_48]; exact hd)) ?_
      refine lv_iconst (v := 0) hx hb dX9_asks_77 (by decide) ?_
      refine smN_11 (j := d) F N (h3 c_7 c_26) dX9_asks_78 (fun st_78 est_78 H locs N => ?_)
      refine lv_aload_n hx hb dX9_asks_79 rfl (lv_at hl 0 rfl) ?_
      refine gm_0_sums F N k_699 dX9_asks_80 ?_
      refine lv_aload_n hx hb dX9_asks_83 rfl (lv_at hl 0 rfl) ?_
      refine gm_0_depth F N k_700 dX9_asks_84 ?_
      refine toN (a := d) (by first | exact hd | (rw [est_78, est_68, est_58, est_48]; exact hd)) ?_
      refine lv_iconst (v := 0) hx hb dX9_asks_87 (by decide) ?_
      refine smN_12 (j := d) F N (h3 c_7 c_26) dX9_asks_88 (fun st_88 est_88 H locs N => ?_)
      refine lv_aload_n hx hb dX9_asks_89 rfl (lv_at hl 0 rfl) ?_
      refine lv_dup hx hb dX9_asks_90 rfl ?_
      refine gm_0_depth F N k_700 dX9_asks_91 ?_
      refine toN (a := d) (by first | exact hd | (rw [est_88, est_78, est_68, est_58, est_48]; exact hd)) ?_
      refine lv_iconst (v := 1) hx hb dX9_asks_94 (by decide) ?_
      refine iaddN (a := d) (b := 1) hx hb dX9_asks_95 ?_
      refine pm_0_depth F N k_700 dX9_asks_96 (fun st_96 est_96 H locs N => ?_)
      exact hret _ _ _ _ _ dX9_asks_99 (by first | (rw [mAsks, if_pos c_7, est_96, est_88, est_78, est_68, est_58, est_48]; done) | (rw [mAsks, if_neg c_7, if_pos c_26, est_96, est_88, est_78, est_68, est_58, est_48]; done) | (rw [mAsks, if_neg c_7, if_neg c_26, est_96, est_88, est_78, est_68, est_58, est_48]; rfl)) N
    · refine lv_aload_n hx hb dX9_asks_29 rfl (lv_at hl 0 rfl) ?_
      refine lv_aload_n hx hb dX9_asks_30 rfl (lv_at hl 0 rfl) ?_
      refine gm_0_values F N k_695 dX9_asks_31 ?_
      refine lv_iload_n hx hb dX9_asks_34 rfl (lv_at hl 1 rfl) ?_
      refine amN_8 (j := ce) F N (by omega) dX9_asks_35 ?_
      refine mV_v F N (c_X9_adds l G ad ex st (st.2.1 8 ce) d hd (h2 c_26) h36) miX9_adds k_952 (by decide) hl.1 rfl (Nat.le_of_ble_eq_true rfl) (q0 := 0) (ci := 8) rfl rfl dX9_asks_36 (fun st_36 est_36 H locs N => ?_)
      refine lv_goto (tgt := 99) hx hb dX9_asks_39 (by decide) ?_
      exact hret _ _ _ _ _ dX9_asks_99 (by first | (rw [mAsks, if_pos c_7, est_36]; done) | (rw [mAsks, if_neg c_7, if_pos c_26, est_36]; done) | (rw [mAsks, if_neg c_7, if_neg c_26, est_36]; rfl)) N
  · refine lv_aload_n hx hb dX9_asks_10 rfl (lv_at hl 0 rfl) ?_
    refine lv_iconst (v := 2) hx hb dX9_asks_11 (by decide) ?_
    refine lv_iload_n hx hb dX9_asks_12 rfl (lv_at hl 1 rfl) ?_
    refine mV_v F N (c_X9_meets l G ad ex st 2 (nI ce)) miX9_meets k_948 (by decide) hl.1 rfl (Nat.le_of_ble_eq_true rfl) (q0 := 0) (ci := 8) rfl rfl dX9_asks_13 (fun st_13 est_13 H locs N => ?_)
    refine lv_goto (tgt := 99) hx hb dX9_asks_16 (by decide) ?_
    exact hret _ _ _ _ _ dX9_asks_99 (by first | (rw [mAsks, if_pos c_7, est_13]; done) | (rw [mAsks, if_neg c_7, if_pos c_26, est_13]; done) | (rw [mAsks, if_neg c_7, if_neg c_26, est_13]; rfl)) N
set_option maxHeartbeats 4000000 in
set_option maxRecDepth 100000 in
theorem c_X9_asksOfBlock (l : Launch) (G : GM) (ad : Nat → Nat) (ex : va_W) (st : ST) (top : Nat) (ta : Nat) (d : Nat) (a : Nat) (b : Nat) (c : Nat) (e : Nat) (kk : Nat) (hd : st.1 5 = nI d) (h1 : 1 ≤ d) (h36 : d ≤ 36) (htop : top < 36) (hta : ta + 6 ≤ 900) (ga1 : st.2.1 0 (ta + 1) = nI a) (ga2 : st.2.1 0 (ta + 2) = nI b) (ga3 : st.2.1 0 (ta + 3) = nI c) (ga4 : st.2.1 0 (ta + 4) = nI e) (hac : a ≤ c) (hbe : b ≤ e) (hc6 : c < 6) (he6 : e < 6) (hkk : st.2.1 11 top = nI kk) (hk2 : kk ≤ (c - a + 1) * (e - b + 1)) (hroom : ∀ x, x < 36 → ¬ st.2.1 7 x = 1 → ¬ st.2.1 7 x = 2 → d < 36) : MMv l G yX9_asksOfBlock cX9_asksOfBlock 6 none 3 [.ref (ad 0), .int (nI top), .int (nI ta)] ad ex st (mABl st d top kk a b c e) := by
  refine xv_start (by decide) (Nat.le_of_ble_eq_true rfl) ?_
  intro zp ze zs zm zargs zbelow zmeth zc zQ ls F N hl hret
  have hx := F.1
  have hb := F.2.1
  have hl : lv_has ls 6 [(0, .ref (ad 0)), (1, .int (nI top)), (2, .int (nI ta))] := hl
  have hwh : (c - a + 1) * (e - b + 1) ≤ 36 := Nat.mul_le_mul (show c - a + 1 ≤ 6 by omega) (show e - b + 1 ≤ 6 by omega)
  refine lv_aload_n hx hb dX9_asksOfBlock_0 rfl (lv_at hl 0 rfl) ?_
  refine gm_0_now F N k_682 dX9_asksOfBlock_1 ?_
  refine lv_iload_n hx hb dX9_asksOfBlock_4 rfl (lv_at hl 2 rfl) ?_
  refine lv_iconst (v := 3) hx hb dX9_asksOfBlock_5 (by decide) ?_
  refine iaddN (a := ta) (b := 3) hx hb dX9_asksOfBlock_6 ?_
  refine amN_0 (j := (ta + 3)) F N (by omega) dX9_asksOfBlock_7 ?_
  refine toN (a := c) ga3 ?_
  refine lv_aload_n hx hb dX9_asksOfBlock_8 rfl (lv_at hl 0 rfl) ?_
  refine gm_0_now F N k_682 dX9_asksOfBlock_9 ?_
  refine lv_iload_n hx hb dX9_asksOfBlock_12 rfl (lv_at hl 2 rfl) ?_
  refine lv_iconst (v := 1) hx hb dX9_asksOfBlock_13 (by decide) ?_
  refine iaddN (a := ta) (b := 1) hx hb dX9_asksOfBlock_14 ?_
  refine amN_0 (j := (ta + 1)) F N (by omega) dX9_asksOfBlock_15 ?_
  refine toN (a := a) ga1 ?_
  refine isubN (a := c) (b := a) hx hb dX9_asksOfBlock_16 (by omega) ?_
  refine lv_iconst (v := 1) hx hb dX9_asksOfBlock_17 (by decide) ?_
  refine iaddN (a := (c - a)) (b := 1) hx hb dX9_asksOfBlock_18 ?_
  refine lv_istore_n (lv' := [(3, .int (nI ((c - a) + 1))), (0, .ref (ad 0)), (1, .int (nI top)), (2, .int (nI ta))]) hx hb dX9_asksOfBlock_19 rfl hl (by decide) rfl (fun ls hl => ?_)
  refine lv_aload_n hx hb dX9_asksOfBlock_20 rfl (lv_at hl 1 rfl) ?_
  refine gm_0_now F N k_682 dX9_asksOfBlock_21 ?_
  refine lv_iload_n hx hb dX9_asksOfBlock_24 rfl (lv_at hl 3 rfl) ?_
  refine lv_iconst (v := 4) hx hb dX9_asksOfBlock_25 (by decide) ?_
  refine iaddN (a := ta) (b := 4) hx hb dX9_asksOfBlock_26 ?_
  refine amN_0 (j := (ta + 4)) F N (by omega) dX9_asksOfBlock_27 ?_
  refine toN (a := e) ga4 ?_
  refine lv_aload_n hx hb dX9_asksOfBlock_28 rfl (lv_at hl 1 rfl) ?_
  refine gm_0_now F N k_682 dX9_asksOfBlock_29 ?_
  refine lv_iload_n hx hb dX9_asksOfBlock_32 rfl (lv_at hl 3 rfl) ?_
  refine lv_iconst (v := 2) hx hb dX9_asksOfBlock_33 (by decide) ?_
  refine iaddN (a := ta) (b := 2) hx hb dX9_asksOfBlock_34 ?_
  refine amN_0 (j := (ta + 2)) F N (by omega) dX9_asksOfBlock_35 ?_
  refine toN (a := b) ga2 ?_
  refine isubN (a := e) (b := b) hx hb dX9_asksOfBlock_36 (by omega) ?_
  refine lv_iconst (v := 1) hx hb dX9_asksOfBlock_37 (by decide) ?_
  refine iaddN (a := (e - b)) (b := 1) hx hb dX9_asksOfBlock_38 ?_
  refine lv_istore (lv' := [(4, .int (nI ((e - b) + 1))), (3, .int (nI ((c - a) + 1))), (0, .ref (ad 0)), (1, .int (nI top)), (2, .int (nI ta))]) hx hb dX9_asksOfBlock_39 hl (by decide) rfl (fun ls hl => ?_)
  refine lv_aload_n hx hb dX9_asksOfBlock_41 rfl (lv_at hl 2 rfl) ?_
  refine gm_0_cellAt F N k_698 dX9_asksOfBlock_42 ?_
  refine lv_iload_n hx hb dX9_asksOfBlock_45 rfl (lv_at hl 3 rfl) ?_
  refine amN_11 (j := top) F N (by omega) dX9_asksOfBlock_46 ?_
  refine toN (a := kk) hkk ?_
  refine lv_istore (lv' := [(5, .int (nI kk)), (4, .int (nI ((e - b) + 1))), (3, .int (nI ((c - a) + 1))), (0, .ref (ad 0)), (1, .int (nI top)), (2, .int (nI ta))]) hx hb dX9_asksOfBlock_47 hl (by decide) rfl (fun ls hl => ?_)
  refine lv_iload hx hb dX9_asksOfBlock_49 (lv_at hl 0 rfl) ?_
  refine lv_iload_n hx hb dX9_asksOfBlock_51 rfl (lv_at hl 2 rfl) ?_
  refine lv_iload hx hb dX9_asksOfBlock_52 (lv_at hl 1 rfl) ?_
  refine imulN (a := ((c - a) + 1)) (b := ((e - b) + 1)) hx hb dX9_asksOfBlock_54 ?_
  refine cmpN_ne (a := kk) (b := (((c - a) + 1) * ((e - b) + 1))) (tgt := 78) hx hb dX9_asksOfBlock_55 (by decide) (by omega) (by omega) (fun c_55 => ?_) (fun c_55 => ?_)
  · refine lv_aload_n hx hb dX9_asksOfBlock_78 rfl (lv_at hl 3 rfl) ?_
    refine gm_0_cellAt F N k_698 dX9_asksOfBlock_79 ?_
    refine lv_iload_n hx hb dX9_asksOfBlock_82 rfl (lv_at hl 4 rfl) ?_
    refine lv_dup2_11 hx hb dX9_asksOfBlock_83 rfl rfl ?_
    refine amN_11 (j := top) F N (by omega) dX9_asksOfBlock_84 ?_
    refine toN (a := kk) hkk ?_
    refine lv_iconst (v := 1) hx hb dX9_asksOfBlock_85 (by decide) ?_
    refine iaddN (a := kk) (b := 1) hx hb dX9_asksOfBlock_86 ?_
    refine smN_11 (j := top) F N (by omega) dX9_asksOfBlock_87 (fun st_87 est_87 H locs N => ?_)
    refine lv_aload_n hx hb dX9_asksOfBlock_88 rfl (lv_at hl 3 rfl) ?_
    refine lv_bipush (v := 6) hx hb dX9_asksOfBlock_89 (by decide) ?_
    refine lv_aload_n hx hb dX9_asksOfBlock_91 rfl (lv_at hl 3 rfl) ?_
    refine gm_0_now F N k_682 dX9_asksOfBlock_92 ?_
    refine lv_iload_n hx hb dX9_asksOfBlock_95 rfl (lv_at hl 5 rfl) ?_
    refine lv_iconst (v := 2) hx hb dX9_asksOfBlock_96 (by decide) ?_
    refine iaddN (a := ta) (b := 2) hx hb dX9_asksOfBlock_97 ?_
    refine amN_0 (j := (ta + 2)) F N (by omega) dX9_asksOfBlock_98 ?_
    refine toN (a := b) (by rw [est_87]; exact ga2) ?_
    refine lv_iload hx hb dX9_asksOfBlock_99 (lv_at hl 0 rfl) ?_
    refine lv_iload_n hx hb dX9_asksOfBlock_101 rfl (lv_at hl 2 rfl) ?_
    refine idivN (a := kk) (b := ((c - a) + 1)) hx hb dX9_asksOfBlock_102 (by omega) (by omega) (by omega) ?_
    refine iaddN (a := b) (b := (kk / ((c - a) + 1))) hx hb dX9_asksOfBlock_103 ?_
    refine imulN (a := 6) (b := (b + (kk / ((c - a) + 1)))) hx hb dX9_asksOfBlock_104 ?_
    refine lv_aload_n hx hb dX9_asksOfBlock_105 rfl (lv_at hl 3 rfl) ?_
    refine gm_0_now F N k_682 dX9_asksOfBlock_106 ?_
    refine lv_iload_n hx hb dX9_asksOfBlock_109 rfl (lv_at hl 5 rfl) ?_
    refine lv_iconst (v := 1) hx hb dX9_asksOfBlock_110 (by decide) ?_
    refine iaddN (a := ta) (b := 1) hx hb dX9_asksOfBlock_111 ?_
    refine amN_0 (j := (ta + 1)) F N (by omega) dX9_asksOfBlock_112 ?_
    refine toN (a := a) (by rw [est_87]; exact ga1) ?_
    refine iaddN (a := (6 * (b + (kk / ((c - a) + 1))))) (b := a) hx hb dX9_asksOfBlock_113 ?_
    refine lv_iload hx hb dX9_asksOfBlock_114 (lv_at hl 0 rfl) ?_
    refine lv_iload_n hx hb dX9_asksOfBlock_116 rfl (lv_at hl 2 rfl) ?_
    refine iremN (a := kk) (b := ((c - a) + 1)) hx hb dX9_asksOfBlock_117 (by omega) (by omega) (by omega) ?_
    refine iaddN (a := ((6 * (b + (kk / ((c - a) + 1)))) + a)) (b := (kk % ((c - a) + 1))) hx hb dX9_asksOfBlock_118 ?_
    refine mV_v F N (c_X9_asks l G ad ex st_87 (((6 * (b + (kk / ((c - a) + 1)))) + a) + (kk % ((c - a) + 1))) d (by rw [est_87]; exact hd) h36 (mABc_lt (by omega) hc6 he6 hac hbe) (fun _ => h1) (by rw [est_87]; exact hroom _ (mABc_lt (by omega) hc6 he6 hac hbe))) miX9_asks k_944 (by decide) hl.1 rfl (Nat.le_of_ble_eq_true rfl) (q0 := 0) (ci := 8) rfl rfl dX9_asksOfBlock_119 (fun st_119 est_119 H locs N => ?_)
    exact hret _ _ _ _ _ dX9_asksOfBlock_122 (by first | (rw [mABl, if_pos c_55, est_119, est_87]; rfl) | (rw [mABl, if_neg c_55, est_119, est_87]; rfl)) N
  · refine lv_aload_n hx hb dX9_asksOfBlock_58 rfl (lv_at hl 3 rfl) ?_
    refine gm_0_cellAt F N k_698 dX9_asksOfBlock_59 ?_
    refine lv_iload_n hx hb dX9_asksOfBlock_62 rfl (lv_at hl 4 rfl) ?_
    refine lv_iconst (v := 0) hx hb dX9_asksOfBlock_63 (by decide) ?_
    refine smN_11 (j := top) F N (by omega) dX9_asksOfBlock_64 (fun st_64 est_64 H locs N => ?_)
    refine lv_aload_n hx hb dX9_asksOfBlock_65 rfl (lv_at hl 3 rfl) ?_
    refine gm_0_termAt F N k_697 dX9_asksOfBlock_66 ?_
    refine lv_iload_n hx hb dX9_asksOfBlock_69 rfl (lv_at hl 4 rfl) ?_
    refine lv_dup2_11 hx hb dX9_asksOfBlock_70 rfl rfl ?_
    refine amN_10 (j := top) F N (by omega) dX9_asksOfBlock_71 ?_
    refine lv_iconst (v := 1) hx hb dX9_asksOfBlock_72 (by decide) ?_
    refine lv_iadd hx hb dX9_asksOfBlock_73 ?_
    refine smN_10 (j := top) F N (by omega) dX9_asksOfBlock_74 (fun st_74 est_74 H locs N => ?_)
    refine lv_goto (tgt := 122) hx hb dX9_asksOfBlock_75 (by decide) ?_
    exact hret _ _ _ _ _ dX9_asksOfBlock_122 (by first | (rw [mABl, if_pos c_55, est_74, est_64]; rfl) | (rw [mABl, if_neg c_55, est_74, est_64]; rfl)) N
set_option maxHeartbeats 4000000 in
set_option maxRecDepth 100000 in
theorem c_X9_goesOnAsking (l : Launch) (G : GM) (ad : Nat → Nat) (ex : va_W) (st : ST) (d : Nat) (ce : Nat) (ti : Nat) (m : Nat) (a : Nat) (b : Nat) (c : Nat) (e : Nat) (kk : Nat) (hG : GaP st d ce ti m a b c e kk) : MMv l G yX9_goesOnAsking cX9_goesOnAsking 4 none 4 [.ref (ad 0)] ad ex st (mStpG st d ce ti m a b c e kk) := by
  refine xv_start (by decide) (Nat.le_of_ble_eq_true rfl) ?_
  intro zp ze zs zm zargs zbelow zmeth zc zQ ls F N hl hret
  have hx := F.1
  have hb := F.2.1
  have hl : lv_has ls 4 [(0, .ref (ad 0))] := hl
  obtain ⟨hd, h1, h36, hce, hce36, hti, hm, htm, hm4, hroom, hT⟩ := hG
  refine lv_aload_n hx hb dX9_goesOnAsking_0 rfl (lv_at hl 0 rfl) ?_
  refine gm_0_depth F N k_700 dX9_goesOnAsking_1 ?_
  refine toN (a := d) hd ?_
  refine lv_iconst (v := 1) hx hb dX9_goesOnAsking_4 (by decide) ?_
  refine isubN (a := d) (b := 1) hx hb dX9_goesOnAsking_5 (by omega) ?_
  refine lv_istore_n (lv' := [(1, .int (nI (d - 1))), (0, .ref (ad 0))]) hx hb dX9_goesOnAsking_6 rfl hl (by decide) rfl (fun ls hl => ?_)
  refine lv_aload_n hx hb dX9_goesOnAsking_7 rfl (lv_at hl 1 rfl) ?_
  refine gm_0_asked F N k_696 dX9_goesOnAsking_8 ?_
  refine lv_iload_n hx hb dX9_goesOnAsking_11 rfl (lv_at hl 0 rfl) ?_
  refine amN_9 (j := (d - 1)) F N (by omega) dX9_goesOnAsking_12 ?_
  refine toN (a := ce) hce ?_
  refine lv_istore_n (lv' := [(2, .int (nI ce)), (1, .int (nI (d - 1))), (0, .ref (ad 0))]) hx hb dX9_goesOnAsking_13 rfl hl (by decide) rfl (fun ls hl => ?_)
  refine lv_aload_n hx hb dX9_goesOnAsking_14 rfl (lv_at hl 2 rfl) ?_
  refine gm_0_termAt F N k_697 dX9_goesOnAsking_15 ?_
  refine lv_iload_n hx hb dX9_goesOnAsking_18 rfl (lv_at hl 1 rfl) ?_
  refine amN_10 (j := (d - 1)) F N (by omega) dX9_goesOnAsking_19 ?_
  refine toN (a := ti) hti ?_
  refine lv_aload_n hx hb dX9_goesOnAsking_20 rfl (lv_at hl 2 rfl) ?_
  refine gm_0_now F N k_682 dX9_goesOnAsking_21 ?_
  refine lv_bipush (v := 25) hx hb dX9_goesOnAsking_24 (by decide) ?_
  refine lv_iload_n hx hb dX9_goesOnAsking_26 rfl (lv_at hl 0 rfl) ?_
  refine imulN (a := 25) (b := ce) hx hb dX9_goesOnAsking_27 ?_
  refine amN_0 (j := (25 * ce)) F N (by omega) dX9_goesOnAsking_28 ?_
  refine toN (a := m) hm ?_
  refine cmpN_ne (a := ti) (b := m) (tgt := 79) hx hb dX9_goesOnAsking_29 (by decide) (by omega) (by omega) (fun c_29 => ?_) (fun c_29 => ?_)
  · refine lv_bipush (v := 25) hx hb dX9_goesOnAsking_79 (by decide) ?_
    refine lv_iload_n hx hb dX9_goesOnAsking_81 rfl (lv_at hl 0 rfl) ?_
    refine imulN (a := 25) (b := ce) hx hb dX9_goesOnAsking_82 ?_
    refine lv_aload_n hx hb dX9_goesOnAsking_83 rfl (lv_at hl 2 rfl) ?_
    refine gm_0_termAt F N k_697 dX9_goesOnAsking_84 ?_
    refine lv_iload_n hx hb dX9_goesOnAsking_87 rfl (lv_at hl 1 rfl) ?_
    refine amN_10 (j := (d - 1)) F N (by omega) dX9_goesOnAsking_88 ?_
    refine toN (a := ti) hti ?_
    refine cS_i F N (c_X9_termPlace l G _ (25 * ce) ti) miX9_termPlace k_858 (by decide) hl.1 rfl (Nat.le_of_ble_eq_true rfl) dX9_goesOnAsking_89 (fun H locs N => ?_)
    refine lv_istore_n (lv' := [(3, .int (nI ((25 * ce) + 1 + 6 * ti))), (2, .int (nI ce)), (1, .int (nI (d - 1))), (0, .ref (ad 0))]) hx hb dX9_goesOnAsking_92 rfl hl (by decide) rfl (fun ls hl => ?_)
    refine lv_aload_n hx hb dX9_goesOnAsking_93 rfl (lv_at hl 3 rfl) ?_
    refine gm_0_now F N k_682 dX9_goesOnAsking_94 ?_
    refine lv_iload_n hx hb dX9_goesOnAsking_97 rfl (lv_at hl 0 rfl) ?_
    refine lv_iconst (v := 0) hx hb dX9_goesOnAsking_98 (by decide) ?_
    refine iaddN (a := ((25 * ce) + 1 + 6 * ti)) (b := 0) hx hb dX9_goesOnAsking_99 ?_
    refine amN_0 (j := (((25 * ce) + 1 + 6 * ti) + 0)) F N (by omega) dX9_goesOnAsking_100 ?_
    by_cases c_101_0 : (st.2.1 0 (((25 * ce) + 1 + 6 * ti) + 0)) = 0
    · refine lv_tableIn (off := 27) (tgt := 128) hx hb dX9_goesOnAsking_101 (by rw [c_101_0]; decide) (by rw [c_101_0]; decide) (by rw [c_101_0]; decide) (by decide) ?_
      refine lv_aload_n hx hb dX9_goesOnAsking_128 rfl (lv_at hl 3 rfl) ?_
      refine gm_0_termAt F N k_697 dX9_goesOnAsking_129 ?_
      refine lv_iload_n hx hb dX9_goesOnAsking_132 rfl (lv_at hl 2 rfl) ?_
      refine lv_dup2_11 hx hb dX9_goesOnAsking_133 rfl rfl ?_
      refine amN_10 (j := (d - 1)) F N (by omega) dX9_goesOnAsking_134 ?_
      refine toN (a := ti) hti ?_
      refine lv_iconst (v := 1) hx hb dX9_goesOnAsking_135 (by decide) ?_
      refine iaddN (a := ti) (b := 1) hx hb dX9_goesOnAsking_136 ?_
      refine smN_10 (j := (d - 1)) F N (by omega) dX9_goesOnAsking_137 (fun st_137 est_137 H locs N => ?_)
      refine lv_aload_n hx hb dX9_goesOnAsking_138 rfl (lv_at hl 3 rfl) ?_
      refine lv_aload_n hx hb dX9_goesOnAsking_139 rfl (lv_at hl 3 rfl) ?_
      refine gm_0_now F N k_682 dX9_goesOnAsking_140 ?_
      refine lv_iload_n hx hb dX9_goesOnAsking_143 rfl (lv_at hl 0 rfl) ?_
      refine lv_iconst (v := 1) hx hb dX9_goesOnAsking_144 (by decide) ?_
      refine iaddN (a := ((25 * ce) + 1 + 6 * ti)) (b := 1) hx hb dX9_goesOnAsking_145 ?_
      refine amN_0 (j := (((25 * ce) + 1 + 6 * ti) + 1)) F N (by omega) dX9_goesOnAsking_146 ?_
      refine toI (y := st.2.1 0 (25 * ce + 1 + 6 * ti + 1)) (by rw [est_137]; rfl) ?_
      refine mV_v F N (c_X9_adds l G ad ex st_137 (st.2.1 0 (25 * ce + 1 + 6 * ti + 1)) d (by rw [est_137]; exact hd) h1 h36) miX9_adds k_952 (by decide) hl.1 rfl (Nat.le_of_ble_eq_true rfl) (q0 := 0) (ci := 8) rfl rfl dX9_goesOnAsking_147 (fun st_147 est_147 H locs N => ?_)
      refine lv_goto (tgt := 205) hx hb dX9_goesOnAsking_150 (by decide) ?_
      exact hret _ _ _ _ _ dX9_goesOnAsking_205 (by rw [mStpG, if_neg c_29]; first | (rw [if_pos c_101_0, est_147, est_137]; rfl) | (rw [if_neg c_101_0, if_pos c_101_1, est_147, est_137]; rfl) | (rw [if_neg c_101_0, if_neg c_101_1, if_pos c_101_2, est_147, est_137]; done) | (rw [if_neg c_101_0, if_neg c_101_1, if_neg c_101_2, est_147, est_137]; done)) N
    by_cases c_101_1 : (st.2.1 0 (((25 * ce) + 1 + 6 * ti) + 0)) = 1
    · refine lv_tableIn (off := 52) (tgt := 153) hx hb dX9_goesOnAsking_101 (by rw [c_101_1]; decide) (by rw [c_101_1]; decide) (by rw [c_101_1]; decide) (by decide) ?_
      refine lv_aload_n hx hb dX9_goesOnAsking_153 rfl (lv_at hl 3 rfl) ?_
      refine gm_0_termAt F N k_697 dX9_goesOnAsking_154 ?_
      refine lv_iload_n hx hb dX9_goesOnAsking_157 rfl (lv_at hl 2 rfl) ?_
      refine lv_dup2_11 hx hb dX9_goesOnAsking_158 rfl rfl ?_
      refine amN_10 (j := (d - 1)) F N (by omega) dX9_goesOnAsking_159 ?_
      refine toN (a := ti) hti ?_
      refine lv_iconst (v := 1) hx hb dX9_goesOnAsking_160 (by decide) ?_
      refine iaddN (a := ti) (b := 1) hx hb dX9_goesOnAsking_161 ?_
      refine smN_10 (j := (d - 1)) F N (by omega) dX9_goesOnAsking_162 (fun st_162 est_162 H locs N => ?_)
      refine lv_aload_n hx hb dX9_goesOnAsking_163 rfl (lv_at hl 3 rfl) ?_
      refine lv_bipush (v := 6) hx hb dX9_goesOnAsking_164 (by decide) ?_
      refine lv_aload_n hx hb dX9_goesOnAsking_166 rfl (lv_at hl 3 rfl) ?_
      refine gm_0_now F N k_682 dX9_goesOnAsking_167 ?_
      refine lv_iload_n hx hb dX9_goesOnAsking_170 rfl (lv_at hl 0 rfl) ?_
      refine lv_iconst (v := 2) hx hb dX9_goesOnAsking_171 (by decide) ?_
      refine iaddN (a := ((25 * ce) + 1 + 6 * ti)) (b := 2) hx hb dX9_goesOnAsking_172 ?_
      refine amN_0 (j := (((25 * ce) + 1 + 6 * ti) + 2)) F N (by omega) dX9_goesOnAsking_173 ?_
      refine toN (a := b) (by rw [est_162]; exact ((hT c_29).1 c_101_1).2.1) ?_
      refine imulN (a := 6) (b := b) hx hb dX9_goesOnAsking_174 ?_
      refine lv_aload_n hx hb dX9_goesOnAsking_175 rfl (lv_at hl 3 rfl) ?_
      refine gm_0_now F N k_682 dX9_goesOnAsking_176 ?_
      refine lv_iload_n hx hb dX9_goesOnAsking_179 rfl (lv_at hl 0 rfl) ?_
      refine lv_iconst (v := 1) hx hb dX9_goesOnAsking_180 (by decide) ?_
      refine iaddN (a := ((25 * ce) + 1 + 6 * ti)) (b := 1) hx hb dX9_goesOnAsking_181 ?_
      refine amN_0 (j := (((25 * ce) + 1 + 6 * ti) + 1)) F N (by omega) dX9_goesOnAsking_182 ?_
      refine toN (a := a) (by rw [est_162]; exact ((hT c_29).1 c_101_1).1) ?_
      refine iaddN (a := (6 * b)) (b := a) hx hb dX9_goesOnAsking_183 ?_
      refine mV_v F N (c_X9_asks l G ad ex st_162 ((6 * b) + a) d (by rw [est_162]; exact hd) h36 (by have h9 := ((hT c_29).1 c_101_1).2.2; omega) (fun _ => h1) (by rw [est_162]; exact hroom _ (by have h9 := ((hT c_29).1 c_101_1).2.2; omega))) miX9_asks k_944 (by decide) hl.1 rfl (Nat.le_of_ble_eq_true rfl) (q0 := 0) (ci := 8) rfl rfl dX9_goesOnAsking_184 (fun st_184 est_184 H locs N => ?_)
      refine lv_goto (tgt := 205) hx hb dX9_goesOnAsking_187 (by decide) ?_
      exact hret _ _ _ _ _ dX9_goesOnAsking_205 (by rw [mStpG, if_neg c_29]; first | (rw [if_pos c_101_0, est_184, est_162]; rfl) | (rw [if_neg c_101_0, if_pos c_101_1, est_184, est_162]; rfl) | (rw [if_neg c_101_0, if_neg c_101_1, if_pos c_101_2, est_184, est_162]; done) | (rw [if_neg c_101_0, if_neg c_101_1, if_neg c_101_2, est_184, est_162]; done)) N
    by_cases c_101_2 : (st.2.1 0 (((25 * ce) + 1 + 6 * ti) + 0)) = 2
    · refine lv_tableIn (off := 89) (tgt := 190) hx hb dX9_goesOnAsking_101 (by rw [c_101_2]; decide) (by rw [c_101_2]; decide) (by rw [c_101_2]; decide) (by decide) ?_
      refine lv_aload_n hx hb dX9_goesOnAsking_190 rfl (lv_at hl 3 rfl) ?_
      refine lv_iload_n hx hb dX9_goesOnAsking_191 rfl (lv_at hl 2 rfl) ?_
      refine lv_iload_n hx hb dX9_goesOnAsking_192 rfl (lv_at hl 0 rfl) ?_
      refine mV_v F N (c_X9_asksOfBlock l G ad ex st (d - 1) ((25 * ce) + 1 + 6 * ti) d a b c e kk hd h1 h36 (by omega) (by omega) ((hT c_29).2 c_101_2).1 ((hT c_29).2 c_101_2).2.1 ((hT c_29).2 c_101_2).2.2.1 ((hT c_29).2 c_101_2).2.2.2.1 ((hT c_29).2 c_101_2).2.2.2.2.1 ((hT c_29).2 c_101_2).2.2.2.2.2.1 ((hT c_29).2 c_101_2).2.2.2.2.2.2.1 ((hT c_29).2 c_101_2).2.2.2.2.2.2.2.1 ((hT c_29).2 c_101_2).2.2.2.2.2.2.2.2.1 ((hT c_29).2 c_101_2).2.2.2.2.2.2.2.2.2 hroom) miX9_asksOfBlock k_961 (by decide) hl.1 rfl (Nat.le_of_ble_eq_true rfl) (q0 := 0) (ci := 8) rfl rfl dX9_goesOnAsking_193 (fun st_193 est_193 H locs N => ?_)
      refine lv_goto (tgt := 205) hx hb dX9_goesOnAsking_196 (by decide) ?_
      exact hret _ _ _ _ _ dX9_goesOnAsking_205 (by rw [mStpG, if_neg c_29]; first | (rw [if_pos c_101_0, est_193]; rfl) | (rw [if_neg c_101_0, if_pos c_101_1, est_193]; rfl) | (rw [if_neg c_101_0, if_neg c_101_1, if_pos c_101_2, est_193]; done) | (rw [if_neg c_101_0, if_neg c_101_1, if_neg c_101_2, est_193]; done)) N
    refine lv_tableOut (tgt := 199) hx hb dX9_goesOnAsking_101 (tblOut_0_2 c_101_0 c_101_1 c_101_2) (by decide) ?_
    refine lv_aload_n hx hb dX9_goesOnAsking_199 rfl (lv_at hl 3 rfl) ?_
    refine lv_iconst (v := 1) hx hb dX9_goesOnAsking_200 (by decide) ?_
    refine lv_iload_n hx hb dX9_goesOnAsking_201 rfl (lv_at hl 1 rfl) ?_
    refine mV_v F N (c_X9_meets l G ad ex st 1 (nI ce)) miX9_meets k_948 (by decide) hl.1 rfl (Nat.le_of_ble_eq_true rfl) (q0 := 0) (ci := 8) rfl rfl dX9_goesOnAsking_202 (fun st_202 est_202 H locs N => ?_)
    exact hret _ _ _ _ _ dX9_goesOnAsking_205 (by rw [mStpG, if_neg c_29]; first | (rw [if_pos c_101_0, est_202]; rfl) | (rw [if_neg c_101_0, if_pos c_101_1, est_202]; rfl) | (rw [if_neg c_101_0, if_neg c_101_1, if_pos c_101_2, est_202]; done) | (rw [if_neg c_101_0, if_neg c_101_1, if_neg c_101_2, est_202]; done)) N
  · refine lv_aload_n hx hb dX9_goesOnAsking_32 rfl (lv_at hl 2 rfl) ?_
    refine gm_0_isKnown F N k_694 dX9_goesOnAsking_33 ?_
    refine lv_iload_n hx hb dX9_goesOnAsking_36 rfl (lv_at hl 0 rfl) ?_
    refine lv_iconst (v := 2) hx hb dX9_goesOnAsking_37 (by decide) ?_
    refine smN_7 (j := ce) F N (by omega) dX9_goesOnAsking_38 (fun st_38 est_38 H locs N => ?_)
    refine lv_aload_n hx hb dX9_goesOnAsking_39 rfl (lv_at hl 2 rfl) ?_
    refine gm_0_values F N k_695 dX9_goesOnAsking_40 ?_
    refine lv_iload_n hx hb dX9_goesOnAsking_43 rfl (lv_at hl 0 rfl) ?_
    refine lv_aload_n hx hb dX9_goesOnAsking_44 rfl (lv_at hl 2 rfl) ?_
    refine gm_0_sums F N k_699 dX9_goesOnAsking_45 ?_
    refine lv_iload_n hx hb dX9_goesOnAsking_48 rfl (lv_at hl 1 rfl) ?_
    refine amN_12 (j := (d - 1)) F N (by omega) dX9_goesOnAsking_49 ?_
    refine smN_8 (j := ce) F N (by omega) dX9_goesOnAsking_50 (fun st_50 est_50 H locs N => ?_)
    refine lv_aload_n hx hb dX9_goesOnAsking_51 rfl (lv_at hl 2 rfl) ?_
    refine lv_dup hx hb dX9_goesOnAsking_52 rfl ?_
    refine gm_0_depth F N k_700 dX9_goesOnAsking_53 ?_
    refine toN (a := d) (by rw [est_50, est_38]; exact hd) ?_
    refine lv_iconst (v := 1) hx hb dX9_goesOnAsking_56 (by decide) ?_
    refine isubN (a := d) (b := 1) hx hb dX9_goesOnAsking_57 (by omega) ?_
    refine pm_0_depth F N k_700 dX9_goesOnAsking_58 (fun st_58 est_58 H locs N => ?_)
    refine lv_aload_n hx hb dX9_goesOnAsking_61 rfl (lv_at hl 2 rfl) ?_
    refine gm_0_depth F N k_700 dX9_goesOnAsking_62 ?_
    refine toN (a := d - 1) (by rw [est_58, est_50, est_38]; rfl) ?_
    refine ifN_le (a := (d - 1)) (tgt := 78) hx hb dX9_goesOnAsking_65 (by decide) (by omega) (fun c_65 => ?_) (fun c_65 => ?_)
    · exact hret _ _ _ _ _ dX9_goesOnAsking_78 (by rw [mStpG, if_pos c_29, mPop]; first | (rw [if_pos c_65, est_58, est_50, est_38]; rfl) | (rw [if_neg c_65, est_58, est_50, est_38]; rfl)) N
    · refine lv_aload_n hx hb dX9_goesOnAsking_68 rfl (lv_at hl 2 rfl) ?_
      refine lv_aload_n hx hb dX9_goesOnAsking_69 rfl (lv_at hl 2 rfl) ?_
      refine gm_0_values F N k_695 dX9_goesOnAsking_70 ?_
      refine lv_iload_n hx hb dX9_goesOnAsking_73 rfl (lv_at hl 0 rfl) ?_
      refine amN_8 (j := ce) F N (by omega) dX9_goesOnAsking_74 ?_
      refine toI (y := st.2.1 12 (d - 1)) (by rw [est_58, est_50, est_38]; exact upd_same _ _ _) ?_
      refine mV_v F N (c_X9_adds l G ad ex st_58 (st.2.1 12 (d - 1)) (d - 1) (by rw [est_58, est_50, est_38]; rfl) (by omega) (by omega)) miX9_adds k_952 (by decide) hl.1 rfl (Nat.le_of_ble_eq_true rfl) (q0 := 0) (ci := 8) rfl rfl dX9_goesOnAsking_75 (fun st_75 est_75 H locs N => ?_)
      exact hret _ _ _ _ _ dX9_goesOnAsking_78 (by rw [mStpG, if_pos c_29, mPop]; first | (rw [if_pos c_65, est_75, est_58, est_50, est_38]; rfl) | (rw [if_neg c_65, est_75, est_58, est_50, est_38]; rfl)) N
set_option maxHeartbeats 4000000 in
set_option maxRecDepth 100000 in
theorem c_X9_finds (l : Launch) (G : GM) (ad : Nat → Nat) (ex : va_W) (st : ST) (ce : Nat) (n : Nat) (hce : ce < 36) (hF : FindOk st ce n) : MMv l G yX9_finds cX9_finds 3 none 5 [.ref (ad 0), .int (nI ce)] ad ex st (mFin st ce n) := by
  refine xv_start (by decide) (Nat.le_of_ble_eq_true rfl) ?_
  intro zp ze zs zm zargs zbelow zmeth zc zQ ls F N hl hret
  have hx := F.1
  have hb := F.2.1
  have hl : lv_has ls 3 [(0, .ref (ad 0)), (1, .int (nI ce))] := hl
  obtain ⟨Pv, hP0, hst, hend⟩ := hF
  refine lv_iconst (v := 0) hx hb dX9_finds_0 (by decide) ?_
  refine lv_istore_n (lv' := [(2, .int 0), (0, .ref (ad 0)), (1, .int (nI ce))]) hx hb dX9_finds_1 rfl hl (by decide) rfl (fun ls hl => ?_)
  have cut_2 : ∀ (k : Nat) (i : Nat) (g2 : Nat → Int32) (s0 : ST), i + k = 36 → s0 = sA st 7 g2 → lp (fun i h => upd h i 0) k i g2 = zk st → ∀ (H : Heap) (locs : List Loc) (ls : Array Slot), Now G zs (MW G ad s0 ++ ex) H locs → lv_has ls 3 [(0, .ref (ad 0)), (1, .int (nI ce)), (2, .int (nI i))] → W zp l ze (RM 5) zs zm zargs zbelow zmeth zc H locs 0 0 zQ (F0 zm 2 ls []) := by
    intro k
    induction k with
    | zero =>
      intro i g2 s0 hk hs hI H locs ls N hl
      refine lv_iload_n hx hb dX9_finds_2 rfl (lv_at hl 2 rfl) ?_
      refine lv_bipush (v := 36) hx hb dX9_finds_3 (by decide) ?_
      refine cmpN_ge (a := i) (b := 36) (tgt := 21) hx hb dX9_finds_5 (by decide) (by omega) (by omega) (fun c_5 => ?_) (fun c_5 => ?_)
      · have c_5v := Nat.not_lt.mpr c_5
        refine lv_aload_n hx hb dX9_finds_21 rfl (lv_at hl 0 rfl) ?_
        refine lv_iconst (v := 0) hx hb dX9_finds_22 (by decide) ?_
        refine pm_0_depth F N k_700 dX9_finds_23 (fun st_23 est_23 H locs N => ?_)
        refine lv_aload_n hx hb dX9_finds_26 rfl (lv_at hl 0 rfl) ?_
        refine lv_iconst (v := 0) hx hb dX9_finds_27 (by decide) ?_
        refine pm_0_fault F N k_701 dX9_finds_28 (fun st_28 est_28 H locs N => ?_)
        refine lv_aload_n hx hb dX9_finds_31 rfl (lv_at hl 0 rfl) ?_
        refine lv_iload_n hx hb dX9_finds_32 rfl (lv_at hl 1 rfl) ?_
        refine mV_v F N (c_X9_asks l G ad ex st_28 ce 0 (by rw [est_28, est_23]; rfl) (by decide) hce (by rw [est_28, est_23, hs, show g2 = zk st from hI]; intro h9; exact absurd ((show zk st ce = 2 from h9).symm.trans (zk_0 st hce)) (by decide)) (fun _ _ => by decide)) miX9_asks k_944 (by decide) hl.1 rfl (Nat.le_of_ble_eq_true rfl) (q0 := 0) (ci := 8) rfl rfl dX9_finds_33 (fun st_33 est_33 H locs N => ?_)
        have hF0 : st_33 = mF0 st ce := by rw [est_33, est_28, est_23, hs, show g2 = zk st from hI]; exact mF0_eq st hce
        have cut_36 : ∀ (j : Nat) (s1 : ST), Pv s1 → ¬ (¬ (mRun j s1).1 5 ≤ 0 ∧ (mRun j s1).1 6 = 0) → mRun j s1 = mFin st ce n → ∀ (H : Heap) (locs : List Loc) (ls : Array Slot), Now G zs (MW G ad s1 ++ ex) H locs → lv_has ls 3 [(0, .ref (ad 0)), (1, .int (nI ce))] → W zp l ze (RM 5) zs zm zargs zbelow zmeth zc H locs 0 0 zQ (F0 zm 36 ls []) := by
          intro j
          induction j with
          | zero =>
            intro s1 hPv hend2 hJ H locs ls N hl
            refine lv_aload_n hx hb dX9_finds_36 rfl (lv_at hl 0 rfl) ?_
            refine gm_0_depth F N k_700 dX9_finds_37 ?_
            refine lv_if_le (tgt := 57) hx hb dX9_finds_40 (by decide) (fun c_40 => ?_) (fun c_40 => ?_)
            · have c_40v := le_nlt c_40
              exact hret _ _ _ _ _ dX9_finds_57 (by rw [← hJ]; first | rfl | (rw [mRun, if_pos c_40]) | (rw [mRun, if_neg c_40, if_neg c_47])) N
            · have c_40v := nle_lt c_40
              refine lv_aload_n hx hb dX9_finds_43 rfl (lv_at hl 0 rfl) ?_
              refine gm_0_fault F N k_701 dX9_finds_44 ?_
              refine lv_if_ne (tgt := 57) hx hb dX9_finds_47 (by decide) (fun c_47 => ?_) (fun c_47 => ?_)
              · exact hret _ _ _ _ _ dX9_finds_57 (by rw [← hJ]; first | rfl | (rw [mRun, if_pos c_40]) | (rw [mRun, if_neg c_40, if_neg c_47])) N
              · exact absurd ⟨c_40, c_47⟩ hend2
          | succ j ih_36 =>
            intro s1 hPv hend2 hJ H locs ls N hl
            refine lv_aload_n hx hb dX9_finds_36 rfl (lv_at hl 0 rfl) ?_
            refine gm_0_depth F N k_700 dX9_finds_37 ?_
            refine lv_if_le (tgt := 57) hx hb dX9_finds_40 (by decide) (fun c_40 => ?_) (fun c_40 => ?_)
            · have c_40v := le_nlt c_40
              exact hret _ _ _ _ _ dX9_finds_57 (by rw [← hJ]; first | rfl | (rw [mRun, if_pos c_40]) | (rw [mRun, if_neg c_40, if_neg c_47])) N
            · have c_40v := nle_lt c_40
              refine lv_aload_n hx hb dX9_finds_43 rfl (lv_at hl 0 rfl) ?_
              refine gm_0_fault F N k_701 dX9_finds_44 ?_
              refine lv_if_ne (tgt := 57) hx hb dX9_finds_47 (by decide) (fun c_47 => ?_) (fun c_47 => ?_)
              · exact hret _ _ _ _ _ dX9_finds_57 (by rw [← hJ]; first | rfl | (rw [mRun, if_pos c_40]) | (rw [mRun, if_neg c_40, if_neg c_47])) N
              · obtain ⟨⟨d, cq, ti, m, a, b, c, e, kk, hG, hEq⟩, hPn⟩ := hst s1 hPv c_40 c_47
                refine lv_aload_n hx hb dX9_finds_50 rfl (lv_at hl 0 rfl) ?_
                refine mV_v F N (c_X9_goesOnAsking l G ad ex s1 d cq ti m a b c e kk hG) miX9_goesOnAsking k_957 (by decide) hl.1 rfl (Nat.le_of_ble_eq_true rfl) (q0 := 0) (ci := 8) rfl rfl dX9_finds_51 (fun st_51 est_51 H locs N => ?_)
                refine lv_goto (tgt := 36) hx hb dX9_finds_54 (by decide) ?_
                replace N := eqM N (est_51.trans hEq.symm)
                exact ih_36 (mStp s1) hPn (by rw [mRun, if_neg c_40, if_pos c_47] at hend2; exact hend2) (by rw [← hJ, mRun, if_neg c_40, if_pos c_47]) _ _ _ N (lv_sub hl [0, 1] rfl)
        exact cut_36 n st_33 (by rw [hF0]; exact hP0) (by rw [hF0]; exact hend) (by rw [hF0]; rfl) _ _ _ N (lv_sub hl [0, 1] rfl)
      · exfalso; omega
    | succ k ih_2 =>
      intro i g2 s0 hk hs hI H locs ls N hl
      refine lv_iload_n hx hb dX9_finds_2 rfl (lv_at hl 2 rfl) ?_
      refine lv_bipush (v := 36) hx hb dX9_finds_3 (by decide) ?_
      refine cmpN_ge (a := i) (b := 36) (tgt := 21) hx hb dX9_finds_5 (by decide) (by omega) (by omega) (fun c_5 => ?_) (fun c_5 => ?_)
      · exfalso; omega
      · have c_5v := Nat.not_le.mp c_5
        refine lv_aload_n hx hb dX9_finds_8 rfl (lv_at hl 0 rfl) ?_
        refine gm_0_isKnown F N k_694 dX9_finds_9 ?_
        refine lv_iload_n hx hb dX9_finds_12 rfl (lv_at hl 2 rfl) ?_
        refine lv_iconst (v := 0) hx hb dX9_finds_13 (by decide) ?_
        refine smN_7 (j := i) F N (by omega) dX9_finds_14 (fun st_14 est_14 H locs N => ?_)
        refine lv_iinc (v := (nI (i + 1))) (lv' := [(2, .int (nI (i + 1))), (0, .ref (ad 0)), (1, .int (nI ce))]) hx hb dX9_finds_15 hl (k := 2) rfl (nI_1 i) (by decide) rfl (fun ls hl => ?_)
        refine lv_goto (tgt := 2) hx hb dX9_finds_18 (by decide) ?_
        exact ih_2 (i + 1) (upd g2 i 0) st_14 (by omega) (by rw [est_14, hs]; simp [sA_21, sA_sA]) hI _ _ _ N (lv_sub hl [1, 2, 0] rfl)
  exact cut_2 36 0 (st.2.1 7) st (by omega) (sA_self rfl).symm rfl _ _ _ N (lv_sub hl [1, 2, 0] rfl)
set_option maxHeartbeats 4000000 in
set_option maxRecDepth 100000 in
theorem c_X9_valueOf (l : Launch) (G : GM) (ad : Nat → Nat) (ex : va_W) (st : ST) (ce : Nat) (n : Nat) (hce : ce < 36) (hF : FindOk st ce n) : MMi l G yX9_valueOf cX9_valueOf 2 (some .int) 6 [.ref (ad 0), .int (nI ce)] ad ex st (mVal st ce n) (mFin st ce n) := by
  refine xi_start (by decide) rfl (Nat.le_of_ble_eq_true rfl) ?_
  intro zp ze zs zm zargs zbelow zmeth zc zQ ls F N hl hret
  have hx := F.1
  have hb := F.2.1
  have hl : lv_has ls 2 [(0, .ref (ad 0)), (1, .int (nI ce))] := hl
  refine lv_aload_n hx hb dX9_valueOf_0 rfl (lv_at hl 0 rfl) ?_
  refine lv_iload_n hx hb dX9_valueOf_1 rfl (lv_at hl 1 rfl) ?_
  refine mV_v F N (c_X9_finds l G ad ex st ce n hce hF) miX9_finds k_940 (by decide) hl.1 rfl (Nat.le_of_ble_eq_true rfl) (q0 := 0) (ci := 8) rfl rfl dX9_valueOf_2 (fun st_2 est_2 H locs N => ?_)
  refine lv_aload_n hx hb dX9_valueOf_5 rfl (lv_at hl 0 rfl) ?_
  refine gm_0_fault F N k_701 dX9_valueOf_6 ?_
  refine lv_if_ne (tgt := 21) hx hb dX9_valueOf_9 (by decide) (fun c_9 => ?_) (fun c_9 => ?_)
  · refine lv_bipush (v := (-10)) hx hb dX9_valueOf_21 (by decide) ?_
    refine lv_aload_n hx hb dX9_valueOf_23 rfl (lv_at hl 0 rfl) ?_
    refine gm_0_fault F N k_701 dX9_valueOf_24 ?_
    refine lv_isub hx hb dX9_valueOf_27 ?_
    exact hret _ _ _ _ _ _ dX9_valueOf_28 (by rw [est_2] at c_9 ⊢; first | rw [mVal, if_pos c_9] | rw [mVal, if_neg c_9]) (by rw [est_2]) N
  · refine lv_aload_n hx hb dX9_valueOf_12 rfl (lv_at hl 0 rfl) ?_
    refine gm_0_values F N k_695 dX9_valueOf_13 ?_
    refine lv_iload_n hx hb dX9_valueOf_16 rfl (lv_at hl 1 rfl) ?_
    refine amN_8 (j := ce) F N (by omega) dX9_valueOf_17 ?_
    refine lv_goto (tgt := 28) hx hb dX9_valueOf_18 (by decide) ?_
    exact hret _ _ _ _ _ _ dX9_valueOf_28 (by rw [est_2] at c_9 ⊢; first | rw [mVal, if_pos c_9] | rw [mVal, if_neg c_9]) (by rw [est_2]) N
set_option maxHeartbeats 4000000 in
set_option maxRecDepth 100000 in
theorem c_X9_whyOf (l : Launch) (G : GM) (ad : Nat → Nat) (ex : va_W) (st : ST) (ce : Nat) (n : Nat) (hce : ce < 36) (hF : FindOk st ce n) : MMi l G yX9_whyOf cX9_whyOf 2 (some .int) 6 [.ref (ad 0), .int (nI ce)] ad ex st (mWhy st ce n) (mFin st ce n) := by
  refine xi_start (by decide) rfl (Nat.le_of_ble_eq_true rfl) ?_
  intro zp ze zs zm zargs zbelow zmeth zc zQ ls F N hl hret
  have hx := F.1
  have hb := F.2.1
  have hl : lv_has ls 2 [(0, .ref (ad 0)), (1, .int (nI ce))] := hl
  refine lv_aload_n hx hb dX9_whyOf_0 rfl (lv_at hl 0 rfl) ?_
  refine lv_iload_n hx hb dX9_whyOf_1 rfl (lv_at hl 1 rfl) ?_
  refine mV_v F N (c_X9_finds l G ad ex st ce n hce hF) miX9_finds k_940 (by decide) hl.1 rfl (Nat.le_of_ble_eq_true rfl) (q0 := 0) (ci := 8) rfl rfl dX9_whyOf_2 (fun st_2 est_2 H locs N => ?_)
  refine lv_aload_n hx hb dX9_whyOf_5 rfl (lv_at hl 0 rfl) ?_
  refine gm_0_fault F N k_701 dX9_whyOf_6 ?_
  refine lv_if_ne (tgt := 16) hx hb dX9_whyOf_9 (by decide) (fun c_9 => ?_) (fun c_9 => ?_)
  · refine lv_bipush (v := 10) hx hb dX9_whyOf_16 (by decide) ?_
    refine lv_aload_n hx hb dX9_whyOf_18 rfl (lv_at hl 0 rfl) ?_
    refine gm_0_faultCell F N k_702 dX9_whyOf_19 ?_
    refine lv_bipush (v := 6) hx hb dX9_whyOf_22 (by decide) ?_
    refine lv_irem hx hb dX9_whyOf_24 (by decide) ?_
    refine lv_imul hx hb dX9_whyOf_25 ?_
    refine lv_aload_n hx hb dX9_whyOf_26 rfl (lv_at hl 0 rfl) ?_
    refine gm_0_faultCell F N k_702 dX9_whyOf_27 ?_
    refine lv_bipush (v := 6) hx hb dX9_whyOf_30 (by decide) ?_
    refine lv_idiv hx hb dX9_whyOf_32 (by decide) ?_
    refine lv_iadd hx hb dX9_whyOf_33 ?_
    exact hret _ _ _ _ _ _ dX9_whyOf_34 (by rw [est_2] at c_9; first | rw [mWhy, if_pos c_9] | (rw [mWhy, if_neg c_9, est_2]; rfl)) (by rw [est_2]) N
  · refine lv_iconst (v := (-1)) hx hb dX9_whyOf_12 (by decide) ?_
    refine lv_goto (tgt := 34) hx hb dX9_whyOf_13 (by decide) ?_
    exact hret _ _ _ _ _ _ dX9_whyOf_34 (by rw [est_2] at c_9; first | rw [mWhy, if_pos c_9] | (rw [mWhy, if_neg c_9, est_2]; rfl)) (by rw [est_2]) N
set_option maxHeartbeats 4000000 in
set_option maxRecDepth 100000 in
theorem c_X9_deepOf (l : Launch) (G : GM) (ad : Nat → Nat) (ex : va_W) (st : ST) (ce : Nat) (n : Nat) (hce : ce < 36) (hF : FindOk st ce n) : MMi l G yX9_deepOf cX9_deepOf 2 (some .int) 6 [.ref (ad 0), .int (nI ce)] ad ex st (mDeep st ce n) (mFin st ce n) := by
  refine xi_start (by decide) rfl (Nat.le_of_ble_eq_true rfl) ?_
  intro zp ze zs zm zargs zbelow zmeth zc zQ ls F N hl hret
  have hx := F.1
  have hb := F.2.1
  have hl : lv_has ls 2 [(0, .ref (ad 0)), (1, .int (nI ce))] := hl
  refine lv_aload_n hx hb dX9_deepOf_0 rfl (lv_at hl 0 rfl) ?_
  refine lv_iload_n hx hb dX9_deepOf_1 rfl (lv_at hl 1 rfl) ?_
  refine mV_v F N (c_X9_finds l G ad ex st ce n hce hF) miX9_finds k_940 (by decide) hl.1 rfl (Nat.le_of_ble_eq_true rfl) (q0 := 0) (ci := 8) rfl rfl dX9_deepOf_2 (fun st_2 est_2 H locs N => ?_)
  refine lv_aload_n hx hb dX9_deepOf_5 rfl (lv_at hl 0 rfl) ?_
  refine gm_0_fault F N k_701 dX9_deepOf_6 ?_
  refine lv_if_ne (tgt := 16) hx hb dX9_deepOf_9 (by decide) (fun c_9 => ?_) (fun c_9 => ?_)
  · refine lv_aload_n hx hb dX9_deepOf_16 rfl (lv_at hl 0 rfl) ?_
    refine gm_0_faultDeep F N k_703 dX9_deepOf_17 ?_
    exact hret _ _ _ _ _ _ dX9_deepOf_20 (by rw [est_2] at c_9; first | rw [mDeep, if_pos c_9] | rw [mDeep, if_neg c_9, est_2]) (by rw [est_2]) N
  · refine lv_iconst (v := (-1)) hx hb dX9_deepOf_12 (by decide) ?_
    refine lv_goto (tgt := 20) hx hb dX9_deepOf_13 (by decide) ?_
    exact hret _ _ _ _ _ _ dX9_deepOf_20 (by rw [est_2] at c_9; first | rw [mDeep, if_pos c_9] | rw [mDeep, if_neg c_9, est_2]) (by rw [est_2]) N
set_option maxHeartbeats 4000000 in
set_option maxRecDepth 100000 in
theorem c_X9_value_bad (l : Launch) (G : GM) (ad : Nat → Nat) (ex : va_W) (st : ST) (c : Int32) (r : Int32) (hbad : xIsPl c r = false) : MMi l G yX9_value cX9_value 3 (some .int) 2 [.ref (ad 0), .int c, .int r] ad ex st (-2) (mBad st) := by
  refine xi_start (by decide) rfl (Nat.le_of_ble_eq_true rfl) ?_
  intro zp ze zs zm zargs zbelow zmeth zc zQ ls F N hl hret
  have hx := F.1
  have hb := F.2.1
  have hl : lv_has ls 3 [(0, .ref (ad 0)), (1, .int c), (2, .int r)] := hl
  refine lv_iload_n hx hb dX9_value_0 rfl (lv_at hl 1 rfl) ?_
  refine lv_iload_n hx hb dX9_value_1 rfl (lv_at hl 2 rfl) ?_
  refine cS_i F N (c_X9_isCell l G _ c r) miX9_isCell k_775 (by decide) hl.1 rfl (Nat.le_of_ble_eq_true rfl) dX9_value_2 (fun H locs N => ?_)
  refine toI (y := 0) (by rw [hbad]; rfl) ?_
  refine lv_if_eq (tgt := 21) hx hb dX9_value_5 (by decide) (fun c_5 => ?_) (fun c_5 => ?_)
  rotate_left
  · first | exact absurd (by decide) c_5 | exact absurd c_5 (by decide)
  refine lv_aload_n hx hb dX9_value_21 rfl (lv_at hl 0 rfl) ?_
  refine mV_i F N (c_X9_bad l G ad ex st ) miX9_bad k_763 (by decide) hl.1 rfl (Nat.le_of_ble_eq_true rfl) (q0 := 0) (ci := 8) rfl rfl dX9_value_22 (fun st_22 est_22 H locs N => ?_)
  exact hret _ _ _ _ _ _ dX9_value_25 (by first | rfl | (subst est_22; rfl) | (subst est_22; simp [bI])) (by first | rfl | (subst est_22; rfl) | (subst est_22; simp [bI])) N
set_option maxHeartbeats 4000000 in
set_option maxRecDepth 100000 in
theorem c_X9_value (l : Launch) (G : GM) (ad : Nat → Nat) (ex : va_W) (st : ST) (c : Nat) (r : Nat) (n : Nat) (hc : c < 6) (hr : r < 6) (hF : FindOk st (6 * r + c) n) : MMi l G yX9_value cX9_value 3 (some .int) 7 [.ref (ad 0), .int (nI c), .int (nI r)] ad ex st (mVal st (6 * r + c) n) (mFin st (6 * r + c) n) := by
  refine xi_start (by decide) rfl (Nat.le_of_ble_eq_true rfl) ?_
  intro zp ze zs zm zargs zbelow zmeth zc zQ ls F N hl hret
  have hx := F.1
  have hb := F.2.1
  have hl : lv_has ls 3 [(0, .ref (ad 0)), (1, .int (nI c)), (2, .int (nI r))] := hl
  refine lv_iload_n hx hb dX9_value_0 rfl (lv_at hl 1 rfl) ?_
  refine lv_iload_n hx hb dX9_value_1 rfl (lv_at hl 2 rfl) ?_
  refine cS_i F N (c_X9_isCell l G _ (nI c) (nI r)) miX9_isCell k_775 (by decide) hl.1 rfl (Nat.le_of_ble_eq_true rfl) dX9_value_2 (fun H locs N => ?_)
  refine toI (y := 1) (by rw [xIsPl_nI hc hr]; rfl) ?_
  refine lv_if_eq (tgt := 21) hx hb dX9_value_5 (by decide) (fun c_5 => ?_) (fun c_5 => ?_)
  · first | exact absurd c_5 (by decide) | exact absurd (by decide) c_5
  refine lv_aload_n hx hb dX9_value_8 rfl (lv_at hl 0 rfl) ?_
  refine lv_bipush (v := 6) hx hb dX9_value_9 (by decide) ?_
  refine lv_iload_n hx hb dX9_value_11 rfl (lv_at hl 2 rfl) ?_
  refine imulN (a := 6) (b := r) hx hb dX9_value_12 ?_
  refine lv_iload_n hx hb dX9_value_13 rfl (lv_at hl 1 rfl) ?_
  refine iaddN (a := (6 * r)) (b := c) hx hb dX9_value_14 ?_
  refine mV_i F N (c_X9_valueOf l G ad ex st ((6 * r) + c) n (by omega) hF) miX9_valueOf k_936 (by decide) hl.1 rfl (Nat.le_of_ble_eq_true rfl) (q0 := 0) (ci := 8) rfl rfl dX9_value_15 (fun st_15 est_15 H locs N => ?_)
  refine lv_goto (tgt := 25) hx hb dX9_value_18 (by decide) ?_
  exact hret _ _ _ _ _ _ dX9_value_25 (by first | rfl | (subst est_15; rfl) | (subst est_15; simp [bI])) (by first | rfl | (subst est_15; rfl) | (subst est_15; simp [bI])) N
set_option maxHeartbeats 4000000 in
set_option maxRecDepth 100000 in
theorem c_X9_why_bad (l : Launch) (G : GM) (ad : Nat → Nat) (ex : va_W) (st : ST) (c : Int32) (r : Int32) (hbad : xIsPl c r = false) : MMi l G yX9_why cX9_why 3 (some .int) 2 [.ref (ad 0), .int c, .int r] ad ex st (-2) (mBad st) := by
  refine xi_start (by decide) rfl (Nat.le_of_ble_eq_true rfl) ?_
  intro zp ze zs zm zargs zbelow zmeth zc zQ ls F N hl hret
  have hx := F.1
  have hb := F.2.1
  have hl : lv_has ls 3 [(0, .ref (ad 0)), (1, .int c), (2, .int r)] := hl
  refine lv_iload_n hx hb dX9_why_0 rfl (lv_at hl 1 rfl) ?_
  refine lv_iload_n hx hb dX9_why_1 rfl (lv_at hl 2 rfl) ?_
  refine cS_i F N (c_X9_isCell l G _ c r) miX9_isCell k_775 (by decide) hl.1 rfl (Nat.le_of_ble_eq_true rfl) dX9_why_2 (fun H locs N => ?_)
  refine toI (y := 0) (by rw [hbad]; rfl) ?_
  refine lv_if_eq (tgt := 21) hx hb dX9_why_5 (by decide) (fun c_5 => ?_) (fun c_5 => ?_)
  rotate_left
  · first | exact absurd (by decide) c_5 | exact absurd c_5 (by decide)
  refine lv_aload_n hx hb dX9_why_21 rfl (lv_at hl 0 rfl) ?_
  refine mV_i F N (c_X9_bad l G ad ex st ) miX9_bad k_763 (by decide) hl.1 rfl (Nat.le_of_ble_eq_true rfl) (q0 := 0) (ci := 8) rfl rfl dX9_why_22 (fun st_22 est_22 H locs N => ?_)
  exact hret _ _ _ _ _ _ dX9_why_25 (by first | rfl | (subst est_22; rfl) | (subst est_22; simp [bI])) (by first | rfl | (subst est_22; rfl) | (subst est_22; simp [bI])) N
set_option maxHeartbeats 4000000 in
set_option maxRecDepth 100000 in
theorem c_X9_why (l : Launch) (G : GM) (ad : Nat → Nat) (ex : va_W) (st : ST) (c : Nat) (r : Nat) (n : Nat) (hc : c < 6) (hr : r < 6) (hF : FindOk st (6 * r + c) n) : MMi l G yX9_why cX9_why 3 (some .int) 7 [.ref (ad 0), .int (nI c), .int (nI r)] ad ex st (mWhy st (6 * r + c) n) (mFin st (6 * r + c) n) := by
  refine xi_start (by decide) rfl (Nat.le_of_ble_eq_true rfl) ?_
  intro zp ze zs zm zargs zbelow zmeth zc zQ ls F N hl hret
  have hx := F.1
  have hb := F.2.1
  have hl : lv_has ls 3 [(0, .ref (ad 0)), (1, .int (nI c)), (2, .int (nI r))] := hl
  refine lv_iload_n hx hb dX9_why_0 rfl (lv_at hl 1 rfl) ?_
  refine lv_iload_n hx hb dX9_why_1 rfl (lv_at hl 2 rfl) ?_
  refine cS_i F N (c_X9_isCell l G _ (nI c) (nI r)) miX9_isCell k_775 (by decide) hl.1 rfl (Nat.le_of_ble_eq_true rfl) dX9_why_2 (fun H locs N => ?_)
  refine toI (y := 1) (by rw [xIsPl_nI hc hr]; rfl) ?_
  refine lv_if_eq (tgt := 21) hx hb dX9_why_5 (by decide) (fun c_5 => ?_) (fun c_5 => ?_)
  · first | exact absurd c_5 (by decide) | exact absurd (by decide) c_5
  refine lv_aload_n hx hb dX9_why_8 rfl (lv_at hl 0 rfl) ?_
  refine lv_bipush (v := 6) hx hb dX9_why_9 (by decide) ?_
  refine lv_iload_n hx hb dX9_why_11 rfl (lv_at hl 2 rfl) ?_
  refine imulN (a := 6) (b := r) hx hb dX9_why_12 ?_
  refine lv_iload_n hx hb dX9_why_13 rfl (lv_at hl 1 rfl) ?_
  refine iaddN (a := (6 * r)) (b := c) hx hb dX9_why_14 ?_
  refine mV_i F N (c_X9_whyOf l G ad ex st ((6 * r) + c) n (by omega) hF) miX9_whyOf k_969 (by decide) hl.1 rfl (Nat.le_of_ble_eq_true rfl) (q0 := 0) (ci := 8) rfl rfl dX9_why_15 (fun st_15 est_15 H locs N => ?_)
  refine lv_goto (tgt := 25) hx hb dX9_why_18 (by decide) ?_
  exact hret _ _ _ _ _ _ dX9_why_25 (by first | rfl | (subst est_15; rfl) | (subst est_15; simp [bI])) (by first | rfl | (subst est_15; rfl) | (subst est_15; simp [bI])) N
set_option maxHeartbeats 4000000 in
set_option maxRecDepth 100000 in
theorem c_X9_deep_bad (l : Launch) (G : GM) (ad : Nat → Nat) (ex : va_W) (st : ST) (c : Int32) (r : Int32) (hbad : xIsPl c r = false) : MMi l G yX9_deep cX9_deep 3 (some .int) 2 [.ref (ad 0), .int c, .int r] ad ex st (-2) (mBad st) := by
  refine xi_start (by decide) rfl (Nat.le_of_ble_eq_true rfl) ?_
  intro zp ze zs zm zargs zbelow zmeth zc zQ ls F N hl hret
  have hx := F.1
  have hb := F.2.1
  have hl : lv_has ls 3 [(0, .ref (ad 0)), (1, .int c), (2, .int r)] := hl
  refine lv_iload_n hx hb dX9_deep_0 rfl (lv_at hl 1 rfl) ?_
  refine lv_iload_n hx hb dX9_deep_1 rfl (lv_at hl 2 rfl) ?_
  refine cS_i F N (c_X9_isCell l G _ c r) miX9_isCell k_775 (by decide) hl.1 rfl (Nat.le_of_ble_eq_true rfl) dX9_deep_2 (fun H locs N => ?_)
  refine toI (y := 0) (by rw [hbad]; rfl) ?_
  refine lv_if_eq (tgt := 21) hx hb dX9_deep_5 (by decide) (fun c_5 => ?_) (fun c_5 => ?_)
  rotate_left
  · first | exact absurd (by decide) c_5 | exact absurd c_5 (by decide)
  refine lv_aload_n hx hb dX9_deep_21 rfl (lv_at hl 0 rfl) ?_
  refine mV_i F N (c_X9_bad l G ad ex st ) miX9_bad k_763 (by decide) hl.1 rfl (Nat.le_of_ble_eq_true rfl) (q0 := 0) (ci := 8) rfl rfl dX9_deep_22 (fun st_22 est_22 H locs N => ?_)
  exact hret _ _ _ _ _ _ dX9_deep_25 (by first | rfl | (subst est_22; rfl) | (subst est_22; simp [bI])) (by first | rfl | (subst est_22; rfl) | (subst est_22; simp [bI])) N
set_option maxHeartbeats 4000000 in
set_option maxRecDepth 100000 in
theorem c_X9_deep (l : Launch) (G : GM) (ad : Nat → Nat) (ex : va_W) (st : ST) (c : Nat) (r : Nat) (n : Nat) (hc : c < 6) (hr : r < 6) (hF : FindOk st (6 * r + c) n) : MMi l G yX9_deep cX9_deep 3 (some .int) 7 [.ref (ad 0), .int (nI c), .int (nI r)] ad ex st (mDeep st (6 * r + c) n) (mFin st (6 * r + c) n) := by
  refine xi_start (by decide) rfl (Nat.le_of_ble_eq_true rfl) ?_
  intro zp ze zs zm zargs zbelow zmeth zc zQ ls F N hl hret
  have hx := F.1
  have hb := F.2.1
  have hl : lv_has ls 3 [(0, .ref (ad 0)), (1, .int (nI c)), (2, .int (nI r))] := hl
  refine lv_iload_n hx hb dX9_deep_0 rfl (lv_at hl 1 rfl) ?_
  refine lv_iload_n hx hb dX9_deep_1 rfl (lv_at hl 2 rfl) ?_
  refine cS_i F N (c_X9_isCell l G _ (nI c) (nI r)) miX9_isCell k_775 (by decide) hl.1 rfl (Nat.le_of_ble_eq_true rfl) dX9_deep_2 (fun H locs N => ?_)
  refine toI (y := 1) (by rw [xIsPl_nI hc hr]; rfl) ?_
  refine lv_if_eq (tgt := 21) hx hb dX9_deep_5 (by decide) (fun c_5 => ?_) (fun c_5 => ?_)
  · first | exact absurd c_5 (by decide) | exact absurd (by decide) c_5
  refine lv_aload_n hx hb dX9_deep_8 rfl (lv_at hl 0 rfl) ?_
  refine lv_bipush (v := 6) hx hb dX9_deep_9 (by decide) ?_
  refine lv_iload_n hx hb dX9_deep_11 rfl (lv_at hl 2 rfl) ?_
  refine imulN (a := 6) (b := r) hx hb dX9_deep_12 ?_
  refine lv_iload_n hx hb dX9_deep_13 rfl (lv_at hl 1 rfl) ?_
  refine iaddN (a := (6 * r)) (b := c) hx hb dX9_deep_14 ?_
  refine mV_i F N (c_X9_deepOf l G ad ex st ((6 * r) + c) n (by omega) hF) miX9_deepOf k_977 (by decide) hl.1 rfl (Nat.le_of_ble_eq_true rfl) (q0 := 0) (ci := 8) rfl rfl dX9_deep_15 (fun st_15 est_15 H locs N => ?_)
  refine lv_goto (tgt := 25) hx hb dX9_deep_18 (by decide) ?_
  exact hret _ _ _ _ _ _ dX9_deep_25 (by first | rfl | (subst est_15; rfl) | (subst est_15; simp [bI])) (by first | rfl | (subst est_15; rfl) | (subst est_15; simp [bI])) N
def mCt1 (k : Nat) (cn : Nat → Nat) (n : Nat) : Nat := lp (fun _ n => n + 1) (cn k) 0 n
def mCt2I (g : Nat → Int32) (k : Nat) (i n : Nat) : Nat := if g (25 * k + 1 + 6 * i + 0) = 3 then n + 1 else n
def mCount1 (cn : Nat → Nat) : Nat := lp (fun k n => mCt1 k cn n) 36 0 0
def mCount2 (g : Nat → Int32) (cn : Nat → Nat) : Nat := lp (fun k n => lp (mCt2I g k) (cn k) 0 n) 36 0 0
def mCt3 (N : Nat) (k : Nat) (x : Nat × ST) : Nat × ST := (if 0 ≤ mVal x.2 k N then x.1 else x.1 + 1, mFin x.2 k N)
def mCount3 (st : ST) (N : Nat) : Nat × ST := lp (mCt3 N) 36 0 (0, st)
theorem mMeet_0 (st : ST) (w c : Int32) : (mMeet st w c).2.1 0 = st.2.1 0 := rfl
theorem mAdds_0 (st : ST) (d : Nat) (v : Int32) : (mAdds st d v).2.1 0 = st.2.1 0 := by unfold mAdds; split <;> rfl
theorem mPush_0 (st : ST) (d ce : Nat) : (mPush st d ce).2.1 0 = st.2.1 0 := rfl
theorem mAsks_0 (st : ST) (d ce : Nat) : (mAsks st d ce).2.1 0 = st.2.1 0 := by
  unfold mAsks
  split
  · rfl
  · split
    · exact mAdds_0 _ _ _
    · rfl
theorem mABl_0 (st : ST) (d top kk a b c e : Nat) : (mABl st d top kk a b c e).2.1 0 = st.2.1 0 := by
  unfold mABl
  split
  · rfl
  · exact mAsks_0 _ _ _
theorem mPop_0 (st : ST) (d ce : Nat) : (mPop st d ce).2.1 0 = st.2.1 0 := by
  unfold mPop
  split
  · rfl
  · exact mAdds_0 _ _ _
theorem mStpG_0 (st : ST) (d ce ti m a b c e kk : Nat) : (mStpG st d ce ti m a b c e kk).2.1 0 = st.2.1 0 := by
  unfold mStpG
  split
  · exact mPop_0 _ _ _
  · split
    · exact mAdds_0 _ _ _
    · split
      · exact mAsks_0 _ _ _
      · split
        · exact mABl_0 _ _ _ _ _ _ _ _
        · rfl
theorem mRun_0 : ∀ (n : Nat) (s : ST), (mRun n s).2.1 0 = s.2.1 0
  | 0, _ => rfl
  | n + 1, s => by
    unfold mRun
    split
    · rfl
    · split
      · rw [mRun_0 n (mStp s)]; exact mStpG_0 _ _ _ _ _ _ _ _ _ _
      · rfl
theorem mFin_0 (st : ST) (ce n : Nat) : (mFin st ce n).2.1 0 = st.2.1 0 := mRun_0 n _
set_option maxHeartbeats 4000000 in
set_option maxRecDepth 100000 in
theorem c_X9_countOf_0 (l : Launch) (G : GM) (ad : Nat → Nat) (ex : va_W) (st : ST) : XCi l G yX9_countOf cX9_countOf 5 (some .int) 1 [.ref (ad 0), .int 0] (MW G ad st ++ ex) (nI (mFil (st.2.1 0))) (MW G ad st ++ ex) := by
  refine xi_start (by decide) rfl (Nat.le_of_ble_eq_true rfl) ?_
  intro zp ze zs zm zargs zbelow zmeth zc zQ ls F N hl hret
  have hx := F.1
  have hb := F.2.1
  have hl : lv_has ls 5 [(0, .ref (ad 0)), (1, .int 0)] := hl
  refine lv_iload_n hx hb dX9_countOf_0 rfl (lv_at hl 1 rfl) ?_
  refine lv_if_ne (tgt := 9) hx hb dX9_countOf_1 (by decide) (fun c_1 => ?_) (fun c_1 => ?_)
  · first | exact absurd c_1 (by decide) | exact absurd (by decide) c_1
  refine lv_aload_n hx hb dX9_countOf_4 rfl (lv_at hl 0 rfl) ?_
  refine cV_i F N (c_X9_filled_st l G ad ex st ) miX9_filled k_873 (by decide) hl.1 rfl (Nat.le_of_ble_eq_true rfl) (q0 := 0) (ci := 8) rfl rfl dX9_countOf_5 (fun H locs N => ?_)
  exact hret _ _ _ _ _ _ dX9_countOf_8 (by first | rfl | (simp [bI])) (by first | rfl | (simp [bI])) N
set_option maxHeartbeats 4000000 in
set_option maxRecDepth 100000 in
theorem c_X9_countOf_1 (l : Launch) (G : GM) (ad : Nat → Nat) (ex : va_W) (st : ST) (cn : Nat → Nat) (hcn : mCn (st.2.1 0) cn) : XCi l G yX9_countOf cX9_countOf 5 (some .int) 0 [.ref (ad 0), .int 1] (MW G ad st ++ ex) (nI (mCount1 cn)) (MW G ad st ++ ex) := by
  refine xi_start (by decide) rfl (Nat.le_of_ble_eq_true rfl) ?_
  intro zp ze zs zm zargs zbelow zmeth zc zQ ls F N hl hret
  have hx := F.1
  have hb := F.2.1
  have hl : lv_has ls 5 [(0, .ref (ad 0)), (1, .int 1)] := hl
  refine lv_iload_n hx hb dX9_countOf_0 rfl (lv_at hl 1 rfl) ?_
  refine lv_if_ne (tgt := 9) hx hb dX9_countOf_1 (by decide) (fun c_1 => ?_) (fun c_1 => ?_)
  rotate_left
  · first | exact absurd (by decide) c_1 | exact absurd c_1 (by decide)
  refine lv_iconst (v := 0) hx hb dX9_countOf_9 (by decide) ?_
  refine lv_istore_n (lv' := [(2, .int 0), (0, .ref (ad 0)), (1, .int 1)]) hx hb dX9_countOf_10 rfl hl (by decide) rfl (fun ls hl => ?_)
  refine lv_iconst (v := 0) hx hb dX9_countOf_11 (by decide) ?_
  refine lv_istore_n (lv' := [(3, .int 0), (2, .int 0), (0, .ref (ad 0)), (1, .int 1)]) hx hb dX9_countOf_12 rfl hl (by decide) rfl (fun ls hl => ?_)
  have cut_13 : ∀ (k : Nat) (n2 : Nat) (i : Nat), i + k = 36 → lp (fun k n => mCt1 k cn n) k i n2 = mCount1 cn → ∀ (H : Heap) (locs : List Loc) (ls : Array Slot), Now G zs (MW G ad st ++ ex) H locs → lv_has ls 5 [(0, .ref (ad 0)), (1, .int 1), (2, .int (nI n2)), (3, .int (nI i))] → W zp l ze (RM 0) zs zm zargs zbelow zmeth zc H locs 0 0 zQ (F0 zm 13 ls []) := by
    intro k
    induction k with
    | zero =>
      intro n2 i hk hI H locs ls N hl
      refine lv_iload_n hx hb dX9_countOf_13 rfl (lv_at hl 3 rfl) ?_
      refine lv_bipush (v := 36) hx hb dX9_countOf_14 (by decide) ?_
      refine cmpN_ge (a := i) (b := 36) (tgt := 107) hx hb dX9_countOf_16 (by decide) (by omega) (by omega) (fun c_16 => ?_) (fun c_16 => ?_)
      · have c_16v := Nat.not_lt.mpr c_16
        refine lv_iload_n hx hb dX9_countOf_107 rfl (lv_at hl 2 rfl) ?_
        exact hret _ _ _ _ _ _ dX9_countOf_108 (by rw [← hI]; rfl) (by rfl) N
      · exfalso; omega
    | succ k ih_13 =>
      intro n2 i hk hI H locs ls N hl
      refine lv_iload_n hx hb dX9_countOf_13 rfl (lv_at hl 3 rfl) ?_
      refine lv_bipush (v := 36) hx hb dX9_countOf_14 (by decide) ?_
      refine cmpN_ge (a := i) (b := 36) (tgt := 107) hx hb dX9_countOf_16 (by decide) (by omega) (by omega) (fun c_16 => ?_) (fun c_16 => ?_)
      · exfalso; omega
      · have c_16v := Nat.not_le.mp c_16
        refine lv_iload_n hx hb dX9_countOf_19 rfl (lv_at hl 1 rfl) ?_
        refine lv_iconst (v := 3) hx hb dX9_countOf_20 (by decide) ?_
        refine lv_icmp_ne (tgt := 40) hx hb dX9_countOf_21 (by decide) (fun c_21 => ?_) (fun c_21 => ?_)
        rotate_left
        · first | exact absurd (by decide) c_21 | exact absurd c_21 (by decide)
        refine lv_iconst (v := 0) hx hb dX9_countOf_40 (by decide) ?_
        refine lv_istore (lv' := [(4, .int 0), (0, .ref (ad 0)), (1, .int 1), (2, .int (nI n2)), (3, .int (nI i))]) hx hb dX9_countOf_41 hl (by decide) rfl (fun ls hl => ?_)
        have cut_43 : ∀ (k2 : Nat) (n3 : Nat) (j : Nat), j + k2 = cn i → lp (fun _ n => n + 1) k2 j n3 = lp (fun _ n => n + 1) (cn i) 0 n2 → ∀ (H : Heap) (locs : List Loc) (ls : Array Slot), Now G zs (MW G ad st ++ ex) H locs → lv_has ls 5 [(0, .ref (ad 0)), (1, .int 1), (2, .int (nI n3)), (3, .int (nI i)), (4, .int (nI j))] → W zp l ze (RM 0) zs zm zargs zbelow zmeth zc H locs 0 0 zQ (F0 zm 43 ls []) := by
          intro k2
          induction k2 with
          | zero =>
            intro n3 j hk2 hJ H locs ls N hl
            have hci := (hcn i (by omega)).2
            refine lv_iload hx hb dX9_countOf_43 (lv_at hl 4 rfl) ?_
            refine lv_aload_n hx hb dX9_countOf_45 rfl (lv_at hl 0 rfl) ?_
            refine gm_0_now F N k_682 dX9_countOf_46 ?_
            refine lv_bipush (v := 25) hx hb dX9_countOf_49 (by decide) ?_
            refine lv_iload_n hx hb dX9_countOf_51 rfl (lv_at hl 3 rfl) ?_
            refine imulN (a := 25) (b := i) hx hb dX9_countOf_52 ?_
            refine amN_0 (j := (25 * i)) F N (by omega) dX9_countOf_53 ?_
            refine toN (a := cn i) (hcn i (by omega)).1 ?_
            refine cmpN_ge (a := j) (b := (cn i)) (tgt := 101) hx hb dX9_countOf_54 (by decide) (by omega) (by omega) (fun c_54 => ?_) (fun c_54 => ?_)
            · have c_54v := Nat.not_lt.mpr c_54
              refine lv_iinc (v := (nI (i + 1))) (lv' := [(3, .int (nI (i + 1))), (0, .ref (ad 0)), (1, .int 1), (2, .int (nI n3)), (4, .int (nI j))]) hx hb dX9_countOf_101 hl (k := 3) rfl (nI_1 i) (by decide) rfl (fun ls hl => ?_)
              refine lv_goto (tgt := 13) hx hb dX9_countOf_104 (by decide) ?_
              exact ih_13 n3 (i + 1) (by omega) (by rw [← hI, lp_s]; exact congrArg _ hJ) _ _ _ N (lv_sub hl [1, 2, 3, 0] rfl)
            · exfalso; omega
          | succ k2 ih_43 =>
            intro n3 j hk2 hJ H locs ls N hl
            have hci := (hcn i (by omega)).2
            refine lv_iload hx hb dX9_countOf_43 (lv_at hl 4 rfl) ?_
            refine lv_aload_n hx hb dX9_countOf_45 rfl (lv_at hl 0 rfl) ?_
            refine gm_0_now F N k_682 dX9_countOf_46 ?_
            refine lv_bipush (v := 25) hx hb dX9_countOf_49 (by decide) ?_
            refine lv_iload_n hx hb dX9_countOf_51 rfl (lv_at hl 3 rfl) ?_
            refine imulN (a := 25) (b := i) hx hb dX9_countOf_52 ?_
            refine amN_0 (j := (25 * i)) F N (by omega) dX9_countOf_53 ?_
            refine toN (a := cn i) (hcn i (by omega)).1 ?_
            refine cmpN_ge (a := j) (b := (cn i)) (tgt := 101) hx hb dX9_countOf_54 (by decide) (by omega) (by omega) (fun c_54 => ?_) (fun c_54 => ?_)
            · exfalso; omega
            · have c_54v := Nat.not_le.mp c_54
              refine lv_iload_n hx hb dX9_countOf_57 rfl (lv_at hl 1 rfl) ?_
              refine lv_iconst (v := 3) hx hb dX9_countOf_58 (by decide) ?_
              refine lv_icmp_ge (tgt := 101) hx hb dX9_countOf_59 (by decide) (fun c_59 => ?_) (fun c_59 => ?_)
              · first | exact absurd c_59 (by decide) | exact absurd (by decide) c_59
              refine lv_iload_n hx hb dX9_countOf_62 rfl (lv_at hl 2 rfl) ?_
              refine lv_iload_n hx hb dX9_countOf_63 rfl (lv_at hl 1 rfl) ?_
              refine lv_iconst (v := 1) hx hb dX9_countOf_64 (by decide) ?_
              refine lv_icmp_eq (tgt := 88) hx hb dX9_countOf_65 (by decide) (fun c_65 => ?_) (fun c_65 => ?_)
              rotate_left
              · first | exact absurd (by decide) c_65 | exact absurd c_65 (by decide)
              refine lv_iconst (v := 1) hx hb dX9_countOf_88 (by decide) ?_
              refine lv_goto (tgt := 93) hx hb dX9_countOf_89 (by decide) ?_
              refine iaddN (a := n3) (b := 1) hx hb dX9_countOf_93 ?_
              refine lv_istore_n (lv' := [(2, .int (nI (n3 + 1))), (0, .ref (ad 0)), (1, .int 1), (3, .int (nI i)), (4, .int (nI j))]) hx hb dX9_countOf_94 rfl hl (by decide) rfl (fun ls hl => ?_)
              refine lv_iinc (v := (nI (j + 1))) (lv' := [(4, .int (nI (j + 1))), (2, .int (nI (n3 + 1))), (0, .ref (ad 0)), (1, .int 1), (3, .int (nI i))]) hx hb dX9_countOf_95 hl (k := 4) rfl (nI_1 j) (by decide) rfl (fun ls hl => ?_)
              refine lv_goto (tgt := 43) hx hb dX9_countOf_98 (by decide) ?_
              exact ih_43 (n3 + 1) (j + 1) (by omega) hJ _ _ _ N (lv_sub hl [2, 3, 1, 4, 0] rfl)
        exact cut_43 (cn i) n2 0 (by omega) rfl _ _ _ N (lv_sub hl [1, 2, 3, 4, 0] rfl)
  exact cut_13 36 0 0 (by omega) rfl _ _ _ N (lv_sub hl [2, 3, 1, 0] rfl)
set_option maxHeartbeats 4000000 in
set_option maxRecDepth 100000 in
theorem c_X9_countOf_2 (l : Launch) (G : GM) (ad : Nat → Nat) (ex : va_W) (st : ST) (cn : Nat → Nat) (hcn : mCn (st.2.1 0) cn) : XCi l G yX9_countOf cX9_countOf 5 (some .int) 1 [.ref (ad 0), .int 2] (MW G ad st ++ ex) (nI (mCount2 (st.2.1 0) cn)) (MW G ad st ++ ex) := by
  refine xi_start (by decide) rfl (Nat.le_of_ble_eq_true rfl) ?_
  intro zp ze zs zm zargs zbelow zmeth zc zQ ls F N hl hret
  have hx := F.1
  have hb := F.2.1
  have hl : lv_has ls 5 [(0, .ref (ad 0)), (1, .int 2)] := hl
  refine lv_iload_n hx hb dX9_countOf_0 rfl (lv_at hl 1 rfl) ?_
  refine lv_if_ne (tgt := 9) hx hb dX9_countOf_1 (by decide) (fun c_1 => ?_) (fun c_1 => ?_)
  rotate_left
  · first | exact absurd (by decide) c_1 | exact absurd c_1 (by decide)
  refine lv_iconst (v := 0) hx hb dX9_countOf_9 (by decide) ?_
  refine lv_istore_n (lv' := [(2, .int 0), (0, .ref (ad 0)), (1, .int 2)]) hx hb dX9_countOf_10 rfl hl (by decide) rfl (fun ls hl => ?_)
  refine lv_iconst (v := 0) hx hb dX9_countOf_11 (by decide) ?_
  refine lv_istore_n (lv' := [(3, .int 0), (2, .int 0), (0, .ref (ad 0)), (1, .int 2)]) hx hb dX9_countOf_12 rfl hl (by decide) rfl (fun ls hl => ?_)
  have cut_13 : ∀ (k : Nat) (n2 : Nat) (i : Nat), i + k = 36 → lp (fun k n => lp (mCt2I (st.2.1 0) k) (cn k) 0 n) k i n2 = mCount2 (st.2.1 0) cn → ∀ (H : Heap) (locs : List Loc) (ls : Array Slot), Now G zs (MW G ad st ++ ex) H locs → lv_has ls 5 [(0, .ref (ad 0)), (1, .int 2), (2, .int (nI n2)), (3, .int (nI i))] → W zp l ze (RM 1) zs zm zargs zbelow zmeth zc H locs 0 0 zQ (F0 zm 13 ls []) := by
    intro k
    induction k with
    | zero =>
      intro n2 i hk hI H locs ls N hl
      refine lv_iload_n hx hb dX9_countOf_13 rfl (lv_at hl 3 rfl) ?_
      refine lv_bipush (v := 36) hx hb dX9_countOf_14 (by decide) ?_
      refine cmpN_ge (a := i) (b := 36) (tgt := 107) hx hb dX9_countOf_16 (by decide) (by omega) (by omega) (fun c_16 => ?_) (fun c_16 => ?_)
      · have c_16v := Nat.not_lt.mpr c_16
        refine lv_iload_n hx hb dX9_countOf_107 rfl (lv_at hl 2 rfl) ?_
        exact hret _ _ _ _ _ _ dX9_countOf_108 (by rw [← hI]; rfl) (by rfl) N
      · exfalso; omega
    | succ k ih_13 =>
      intro n2 i hk hI H locs ls N hl
      refine lv_iload_n hx hb dX9_countOf_13 rfl (lv_at hl 3 rfl) ?_
      refine lv_bipush (v := 36) hx hb dX9_countOf_14 (by decide) ?_
      refine cmpN_ge (a := i) (b := 36) (tgt := 107) hx hb dX9_countOf_16 (by decide) (by omega) (by omega) (fun c_16 => ?_) (fun c_16 => ?_)
      · exfalso; omega
      · have c_16v := Nat.not_le.mp c_16
        refine lv_iload_n hx hb dX9_countOf_19 rfl (lv_at hl 1 rfl) ?_
        refine lv_iconst (v := 3) hx hb dX9_countOf_20 (by decide) ?_
        refine lv_icmp_ne (tgt := 40) hx hb dX9_countOf_21 (by decide) (fun c_21 => ?_) (fun c_21 => ?_)
        rotate_left
        · first | exact absurd (by decide) c_21 | exact absurd c_21 (by decide)
        refine lv_iconst (v := 0) hx hb dX9_countOf_40 (by decide) ?_
        refine lv_istore (lv' := [(4, .int 0), (0, .ref (ad 0)), (1, .int 2), (2, .int (nI n2)), (3, .int (nI i))]) hx hb dX9_countOf_41 hl (by decide) rfl (fun ls hl => ?_)
        have cut_43 : ∀ (k2 : Nat) (n3 : Nat) (j : Nat), j + k2 = cn i → lp (mCt2I (st.2.1 0) i) k2 j n3 = lp (mCt2I (st.2.1 0) i) (cn i) 0 n2 → ∀ (H : Heap) (locs : List Loc) (ls : Array Slot), Now G zs (MW G ad st ++ ex) H locs → lv_has ls 5 [(0, .ref (ad 0)), (1, .int 2), (2, .int (nI n3)), (3, .int (nI i)), (4, .int (nI j))] → W zp l ze (RM 1) zs zm zargs zbelow zmeth zc H locs 0 0 zQ (F0 zm 43 ls []) := by
          intro k2
          induction k2 with
          | zero =>
            intro n3 j hk2 hJ H locs ls N hl
            have hci := (hcn i (by omega)).2
            refine lv_iload hx hb dX9_countOf_43 (lv_at hl 4 rfl) ?_
            refine lv_aload_n hx hb dX9_countOf_45 rfl (lv_at hl 0 rfl) ?_
            refine gm_0_now F N k_682 dX9_countOf_46 ?_
            refine lv_bipush (v := 25) hx hb dX9_countOf_49 (by decide) ?_
            refine lv_iload_n hx hb dX9_countOf_51 rfl (lv_at hl 3 rfl) ?_
            refine imulN (a := 25) (b := i) hx hb dX9_countOf_52 ?_
            refine amN_0 (j := (25 * i)) F N (by omega) dX9_countOf_53 ?_
            refine toN (a := cn i) (hcn i (by omega)).1 ?_
            refine cmpN_ge (a := j) (b := (cn i)) (tgt := 101) hx hb dX9_countOf_54 (by decide) (by omega) (by omega) (fun c_54 => ?_) (fun c_54 => ?_)
            · have c_54v := Nat.not_lt.mpr c_54
              refine lv_iinc (v := (nI (i + 1))) (lv' := [(3, .int (nI (i + 1))), (0, .ref (ad 0)), (1, .int 2), (2, .int (nI n3)), (4, .int (nI j))]) hx hb dX9_countOf_101 hl (k := 3) rfl (nI_1 i) (by decide) rfl (fun ls hl => ?_)
              refine lv_goto (tgt := 13) hx hb dX9_countOf_104 (by decide) ?_
              exact ih_13 n3 (i + 1) (by omega) (by rw [← hI, lp_s]; exact congrArg _ hJ) _ _ _ N (lv_sub hl [1, 2, 3, 0] rfl)
            · exfalso; omega
          | succ k2 ih_43 =>
            intro n3 j hk2 hJ H locs ls N hl
            have hci := (hcn i (by omega)).2
            refine lv_iload hx hb dX9_countOf_43 (lv_at hl 4 rfl) ?_
            refine lv_aload_n hx hb dX9_countOf_45 rfl (lv_at hl 0 rfl) ?_
            refine gm_0_now F N k_682 dX9_countOf_46 ?_
            refine lv_bipush (v := 25) hx hb dX9_countOf_49 (by decide) ?_
            refine lv_iload_n hx hb dX9_countOf_51 rfl (lv_at hl 3 rfl) ?_
            refine imulN (a := 25) (b := i) hx hb dX9_countOf_52 ?_
            refine amN_0 (j := (25 * i)) F N (by omega) dX9_countOf_53 ?_
            refine toN (a := cn i) (hcn i (by omega)).1 ?_
            refine cmpN_ge (a := j) (b := (cn i)) (tgt := 101) hx hb dX9_countOf_54 (by decide) (by omega) (by omega) (fun c_54 => ?_) (fun c_54 => ?_)
            · exfalso; omega
            · have c_54v := Nat.not_le.mp c_54
              refine lv_iload_n hx hb dX9_countOf_57 rfl (lv_at hl 1 rfl) ?_
              refine lv_iconst (v := 3) hx hb dX9_countOf_58 (by decide) ?_
              refine lv_icmp_ge (tgt := 101) hx hb dX9_countOf_59 (by decide) (fun c_59 => ?_) (fun c_59 => ?_)
              · first | exact absurd c_59 (by decide) | exact absurd (by decide) c_59
              refine lv_iload_n hx hb dX9_countOf_62 rfl (lv_at hl 2 rfl) ?_
              refine lv_iload_n hx hb dX9_countOf_63 rfl (lv_at hl 1 rfl) ?_
              refine lv_iconst (v := 1) hx hb dX9_countOf_64 (by decide) ?_
              refine lv_icmp_eq (tgt := 88) hx hb dX9_countOf_65 (by decide) (fun c_65 => ?_) (fun c_65 => ?_)
              · first | exact absurd c_65 (by decide) | exact absurd (by decide) c_65
              refine lv_aload_n hx hb dX9_countOf_68 rfl (lv_at hl 0 rfl) ?_
              refine gm_0_now F N k_682 dX9_countOf_69 ?_
              refine lv_bipush (v := 25) hx hb dX9_countOf_72 (by decide) ?_
              refine lv_iload_n hx hb dX9_countOf_74 rfl (lv_at hl 3 rfl) ?_
              refine imulN (a := 25) (b := i) hx hb dX9_countOf_75 ?_
              refine lv_iload hx hb dX9_countOf_76 (lv_at hl 4 rfl) ?_
              refine cS_i F N (c_X9_termPlace l G _ (25 * i) j) miX9_termPlace k_858 (by decide) hl.1 rfl (Nat.le_of_ble_eq_true rfl) dX9_countOf_78 (fun H locs N => ?_)
              refine lv_iconst (v := 0) hx hb dX9_countOf_81 (by decide) ?_
              refine iaddN (a := ((25 * i) + 1 + 6 * j)) (b := 0) hx hb dX9_countOf_82 ?_
              refine amN_0 (j := (((25 * i) + 1 + 6 * j) + 0)) F N (by omega) dX9_countOf_83 ?_
              refine lv_iconst (v := 3) hx hb dX9_countOf_84 (by decide) ?_
              refine lv_icmp_ne (tgt := 92) hx hb dX9_countOf_85 (by decide) (fun c_85 => ?_) (fun c_85 => ?_)
              · refine lv_iconst (v := 0) hx hb dX9_countOf_92 (by decide) ?_
                refine iaddN (a := n3) (b := 0) hx hb dX9_countOf_93 ?_
                refine lv_istore_n (lv' := [(2, .int (nI (n3 + 0))), (0, .ref (ad 0)), (1, .int 2), (3, .int (nI i)), (4, .int (nI j))]) hx hb dX9_countOf_94 rfl hl (by decide) rfl (fun ls hl => ?_)
                refine lv_iinc (v := (nI (j + 1))) (lv' := [(4, .int (nI (j + 1))), (2, .int (nI (n3 + 0))), (0, .ref (ad 0)), (1, .int 2), (3, .int (nI i))]) hx hb dX9_countOf_95 hl (k := 4) rfl (nI_1 j) (by decide) rfl (fun ls hl => ?_)
                refine lv_goto (tgt := 43) hx hb dX9_countOf_98 (by decide) ?_
                exact ih_43 (n3 + 0) (j + 1) (by omega) (by rw [← hJ, lp_s]; exact congrArg _ (by unfold mCt2I; first | (rw [if_pos c_85]; done) | (rw [if_neg c_85]; rfl))) _ _ _ N (lv_sub hl [2, 3, 1, 4, 0] rfl)
              · refine lv_iconst (v := 1) hx hb dX9_countOf_88 (by decide) ?_
                refine lv_goto (tgt := 93) hx hb dX9_countOf_89 (by decide) ?_
                refine iaddN (a := n3) (b := 1) hx hb dX9_countOf_93 ?_
                refine lv_istore_n (lv' := [(2, .int (nI (n3 + 1))), (0, .ref (ad 0)), (1, .int 2), (3, .int (nI i)), (4, .int (nI j))]) hx hb dX9_countOf_94 rfl hl (by decide) rfl (fun ls hl => ?_)
                refine lv_iinc (v := (nI (j + 1))) (lv' := [(4, .int (nI (j + 1))), (2, .int (nI (n3 + 1))), (0, .ref (ad 0)), (1, .int 2), (3, .int (nI i))]) hx hb dX9_countOf_95 hl (k := 4) rfl (nI_1 j) (by decide) rfl (fun ls hl => ?_)
                refine lv_goto (tgt := 43) hx hb dX9_countOf_98 (by decide) ?_
                exact ih_43 (n3 + 1) (j + 1) (by omega) (by rw [← hJ, lp_s]; exact congrArg _ (by unfold mCt2I; first | (rw [if_pos c_85]; done) | (rw [if_neg c_85]; rfl))) _ _ _ N (lv_sub hl [2, 3, 1, 4, 0] rfl)
        exact cut_43 (cn i) n2 0 (by omega) rfl _ _ _ N (lv_sub hl [1, 2, 3, 4, 0] rfl)
  exact cut_13 36 0 0 (by omega) rfl _ _ _ N (lv_sub hl [2, 3, 1, 0] rfl)
set_option maxHeartbeats 4000000 in
set_option maxRecDepth 100000 in
theorem c_X9_countOf_3 (l : Launch) (G : GM) (ad : Nat → Nat) (ex : va_W) (st : ST) (n : Nat) (hF : ∀ (s : ST) (k : Nat), s.2.1 0 = st.2.1 0 → k < 36 → FindOk s k n) : MMi l G yX9_countOf cX9_countOf 5 (some .int) 7 [.ref (ad 0), .int 3] ad ex st (nI ((mCount3 st n).1)) ((mCount3 st n).2) := by
  refine xi_start (by decide) rfl (Nat.le_of_ble_eq_true rfl) ?_
  intro zp ze zs zm zargs zbelow zmeth zc zQ ls F N hl hret
  have hx := F.1
  have hb := F.2.1
  have hl : lv_has ls 5 [(0, .ref (ad 0)), (1, .int 3)] := hl
  refine lv_iload_n hx hb dX9_countOf_0 rfl (lv_at hl 1 rfl) ?_
  refine lv_if_ne (tgt := 9) hx hb dX9_countOf_1 (by decide) (fun c_1 => ?_) (fun c_1 => ?_)
  rotate_left
  · first | exact absurd (by decide) c_1 | exact absurd c_1 (by decide)
  refine lv_iconst (v := 0) hx hb dX9_countOf_9 (by decide) ?_
  refine lv_istore_n (lv' := [(2, .int 0), (0, .ref (ad 0)), (1, .int 3)]) hx hb dX9_countOf_10 rfl hl (by decide) rfl (fun ls hl => ?_)
  refine lv_iconst (v := 0) hx hb dX9_countOf_11 (by decide) ?_
  refine lv_istore_n (lv' := [(3, .int 0), (2, .int 0), (0, .ref (ad 0)), (1, .int 3)]) hx hb dX9_countOf_12 rfl hl (by decide) rfl (fun ls hl => ?_)
  have cut_13 : ∀ (k : Nat) (n2 : Nat) (i : Nat) (s1 : ST), i + k = 36 → s1.2.1 0 = st.2.1 0 → lp (mCt3 n) k i (n2, s1) = mCount3 st n → ∀ (H : Heap) (locs : List Loc) (ls : Array Slot), Now G zs (MW G ad s1 ++ ex) H locs → lv_has ls 5 [(0, .ref (ad 0)), (1, .int 3), (2, .int (nI n2)), (3, .int (nI i))] → W zp l ze (RM 7) zs zm zargs zbelow zmeth zc H locs 0 0 zQ (F0 zm 13 ls []) := by
    intro k
    induction k with
    | zero =>
      intro n2 i s1 hk hs0 hI H locs ls N hl
      refine lv_iload_n hx hb dX9_countOf_13 rfl (lv_at hl 3 rfl) ?_
      refine lv_bipush (v := 36) hx hb dX9_countOf_14 (by decide) ?_
      refine cmpN_ge (a := i) (b := 36) (tgt := 107) hx hb dX9_countOf_16 (by decide) (by omega) (by omega) (fun c_16 => ?_) (fun c_16 => ?_)
      · have c_16v := Nat.not_lt.mpr c_16
        refine lv_iload_n hx hb dX9_countOf_107 rfl (lv_at hl 2 rfl) ?_
        exact hret _ _ _ _ _ _ dX9_countOf_108 (by rw [← hI]; rfl) (by rw [← hI]; rfl) N
      · exfalso; omega
    | succ k ih_13 =>
      intro n2 i s1 hk hs0 hI H locs ls N hl
      refine lv_iload_n hx hb dX9_countOf_13 rfl (lv_at hl 3 rfl) ?_
      refine lv_bipush (v := 36) hx hb dX9_countOf_14 (by decide) ?_
      refine cmpN_ge (a := i) (b := 36) (tgt := 107) hx hb dX9_countOf_16 (by decide) (by omega) (by omega) (fun c_16 => ?_) (fun c_16 => ?_)
      · exfalso; omega
      · have c_16v := Nat.not_le.mp c_16
        refine lv_iload_n hx hb dX9_countOf_19 rfl (lv_at hl 1 rfl) ?_
        refine lv_iconst (v := 3) hx hb dX9_countOf_20 (by decide) ?_
        refine lv_icmp_ne (tgt := 40) hx hb dX9_countOf_21 (by decide) (fun c_21 => ?_) (fun c_21 => ?_)
        · first | exact absurd c_21 (by decide) | exact absurd (by decide) c_21
        refine lv_iload_n hx hb dX9_countOf_24 rfl (lv_at hl 2 rfl) ?_
        refine lv_aload_n hx hb dX9_countOf_25 rfl (lv_at hl 0 rfl) ?_
        refine lv_iload_n hx hb dX9_countOf_26 rfl (lv_at hl 3 rfl) ?_
        refine mV_i F N (c_X9_valueOf l G ad ex s1 i n (by omega) (hF s1 i hs0 (by omega))) miX9_valueOf k_936 (by decide) hl.1 rfl (Nat.le_of_ble_eq_true rfl) (q0 := 0) (ci := 8) rfl rfl dX9_countOf_27 (fun st_27 est_27 H locs N => ?_)
        have cut_38 : ∀ (b1 : Nat), (n2 + b1 = if 0 ≤ mVal s1 i n then n2 else n2 + 1) → ∀ (H : Heap) (locs : List Loc) (ls : Array Slot), Now G zs (MW G ad st_27 ++ ex) H locs → lv_has ls 5 [(0, .ref (ad 0)), (1, .int 3), (2, .int (nI n2)), (3, .int (nI i))] → W zp l ze (RM 7) zs zm zargs zbelow zmeth zc H locs 0 0 zQ (F0 zm 38 ls [.int (nI b1), .int (nI n2)]) := by
          intro b1 hb1 H locs ls N hl
          refine iaddN (a := n2) (b := b1) hx hb dX9_countOf_38 ?_
          refine lv_istore_n (lv' := [(2, .int (nI (n2 + b1))), (0, .ref (ad 0)), (1, .int 3), (3, .int (nI i))]) hx hb dX9_countOf_39 rfl hl (by decide) rfl (fun ls hl => ?_)
          refine lv_iconst (v := 0) hx hb dX9_countOf_40 (by decide) ?_
          refine lv_istore (lv' := [(4, .int 0), (2, .int (nI (n2 + b1))), (0, .ref (ad 0)), (1, .int 3), (3, .int (nI i))]) hx hb dX9_countOf_41 hl (by decide) rfl (fun ls hl => ?_)
          refine lv_iload hx hb dX9_countOf_43 (lv_at hl 0 rfl) ?_
          refine lv_aload_n hx hb dX9_countOf_45 rfl (lv_at hl 2 rfl) ?_
          refine gm_0_now F N k_682 dX9_countOf_46 ?_
          refine lv_bipush (v := 25) hx hb dX9_countOf_49 (by decide) ?_
          refine lv_iload_n hx hb dX9_countOf_51 rfl (lv_at hl 4 rfl) ?_
          refine imulN (a := 25) (b := i) hx hb dX9_countOf_52 ?_
          refine amN_0 (j := (25 * i)) F N (by omega) dX9_countOf_53 ?_
          refine lv_icmp_ge (tgt := 101) hx hb dX9_countOf_54 (by decide) (fun c_54 => ?_) (fun c_54 => ?_)
          · have c_54v := le_nlt c_54
            refine lv_iinc (v := (nI (i + 1))) (lv' := [(3, .int (nI (i + 1))), (4, .int 0), (2, .int (nI (n2 + b1))), (0, .ref (ad 0)), (1, .int 3)]) hx hb dX9_countOf_101 hl (k := 4) rfl (nI_1 i) (by decide) rfl (fun ls hl => ?_)
            refine lv_goto (tgt := 13) hx hb dX9_countOf_104 (by decide) ?_
            exact ih_13 (n2 + b1) (i + 1) st_27 (by omega) (by rw [est_27]; exact (mFin_0 _ _ _).trans hs0) (by rw [← hI, lp_s, mCt3]; dsimp only; rw [est_27, ← hb1]) _ _ _ N (lv_sub hl [3, 4, 2, 0] rfl)
          · have c_54v := nle_lt c_54
            refine lv_iload_n hx hb dX9_countOf_57 rfl (lv_at hl 3 rfl) ?_
            refine lv_iconst (v := 3) hx hb dX9_countOf_58 (by decide) ?_
            refine lv_icmp_ge (tgt := 101) hx hb dX9_countOf_59 (by decide) (fun c_59 => ?_) (fun c_59 => ?_)
            rotate_left
            · first | exact absurd (by decide) c_59 | exact absurd c_59 (by decide)
            refine lv_iinc (v := (nI (i + 1))) (lv' := [(3, .int (nI (i + 1))), (4, .int 0), (2, .int (nI (n2 + b1))), (0, .ref (ad 0)), (1, .int 3)]) hx hb dX9_countOf_101 hl (k := 4) rfl (nI_1 i) (by decide) rfl (fun ls hl => ?_)
            refine lv_goto (tgt := 13) hx hb dX9_countOf_104 (by decide) ?_
            exact ih_13 (n2 + b1) (i + 1) st_27 (by omega) (by rw [est_27]; exact (mFin_0 _ _ _).trans hs0) (by rw [← hI, lp_s, mCt3]; dsimp only; rw [est_27, ← hb1]) _ _ _ N (lv_sub hl [3, 4, 2, 0] rfl)
        refine lv_if_ge (tgt := 37) hx hb dX9_countOf_30 (by decide) (fun c_30 => ?_) (fun c_30 => ?_)
        · have c_30v := le_nlt c_30
          refine lv_iconst (v := 0) hx hb dX9_countOf_37 (by decide) ?_
          exact cut_38 0 (by first | (rw [if_pos c_30]; rfl) | (rw [if_neg c_30]; done)) _ _ _ N (lv_sub hl [0, 1, 2, 3] rfl)
        · have c_30v := nle_lt c_30
          refine lv_iconst (v := 1) hx hb dX9_countOf_33 (by decide) ?_
          refine lv_goto (tgt := 38) hx hb dX9_countOf_34 (by decide) ?_
          exact cut_38 1 (by first | (rw [if_pos c_30]; rfl) | (rw [if_neg c_30]; done)) _ _ _ N (lv_sub hl [0, 1, 2, 3] rfl)
  exact cut_13 36 0 0 st (by omega) rfl rfl _ _ _ N (lv_sub hl [2, 3, 1, 0] rfl)
theorem mCount3_0 (st : ST) (N : Nat) : (mCount3 st N).2.2.1 0 = st.2.1 0 :=
  lp_inv (f := mCt3 N) (fun _ x => x.2.2.1 0 = st.2.1 0) 36 0 (0, st) rfl (fun j b _ _ hb => (mFin_0 b.2 j N).trans hb)
def mixS (st : ST) (v : Int64) : ST := sL st (31 * st.2.2 + v)
theorem mixS_0 (st : ST) (v : Int64) : (mixS st v).2.1 0 = st.2.1 0 := rfl
def mDgT (i : Nat) (s : ST) : ST := mixS s (mTold s i).toInt64
def mDgC (s : ST) (cn : Nat → Nat) (N : Nat) : ST :=
  mixS (mCount3 (mixS (mixS (mixS s (nI (mFil (s.2.1 0))).toInt64) (nI (mCount1 cn)).toInt64) (nI (mCount2 (s.2.1 0) cn)).toInt64) N).2
    (nI (mCount3 (mixS (mixS (mixS s (nI (mFil (s.2.1 0))).toInt64) (nI (mCount1 cn)).toInt64) (nI (mCount2 (s.2.1 0) cn)).toInt64) N).1).toInt64
def mDgJ (i : Nat) (j : Nat) (s : ST) : ST := mixS s (s.2.1 0 (25 * i + 1 + j)).toInt64
def mDgA (cn : Nat → Nat) (i : Nat) (s : ST) : ST := lp (mDgJ i) (6 * cn i) 0 (mixS s (s.2.1 0 (25 * i)).toInt64)
def mDgV (N i : Nat) (s : ST) : ST := mixS (mFin s i N) (mVal s i N).toInt64
def mDgY (N i : Nat) (s : ST) : ST := mixS (mFin s i N) (mWhy s i N).toInt64
def mDgK (cn : Nat → Nat) (N : Nat) (i : Nat) (s : ST) : ST := mDgY N i (mDgV N i (mDgA cn i s))
def mDig (st : ST) (cn : Nat → Nat) (N : Nat) : ST := lp (mDgK cn N) 36 0 (mDgC (lp mDgT 5 0 (sL st 1626)) cn N)
set_option maxHeartbeats 4000000 in
set_option maxRecDepth 100000 in
theorem c_X9_count_bad (l : Launch) (G : GM) (ad : Nat → Nat) (ex : va_W) (st : ST) (what : Int32) (hbad : xIsW what 0 3 = false) : MMi l G yX9_count cX9_count 2 (some .int) 1 [.ref (ad 0), .int what] ad ex st (-2) (mBad st) := by
  refine xi_start (by decide) rfl (Nat.le_of_ble_eq_true rfl) ?_
  intro zp ze zs zm zargs zbelow zmeth zc zQ ls F N hl hret
  have hx := F.1
  have hb := F.2.1
  have hl : lv_has ls 2 [(0, .ref (ad 0)), (1, .int what)] := hl
  refine lv_iload_n hx hb dX9_count_0 rfl (lv_at hl 1 rfl) ?_
  refine lv_iconst (v := 0) hx hb dX9_count_1 (by decide) ?_
  refine lv_iconst (v := 3) hx hb dX9_count_2 (by decide) ?_
  refine cS_i F N (c_X9_in l G _ what 0 3) miX9_in k_760 (by decide) hl.1 rfl (Nat.le_of_ble_eq_true rfl) dX9_count_3 (fun H locs N => ?_)
  refine toI (y := 0) (by rw [hbad]; rfl) ?_
  refine lv_if_eq (tgt := 17) hx hb dX9_count_6 (by decide) (fun c_6 => ?_) (fun c_6 => ?_)
  rotate_left
  · first | exact absurd (by decide) c_6 | exact absurd c_6 (by decide)
  refine lv_aload_n hx hb dX9_count_17 rfl (lv_at hl 0 rfl) ?_
  refine mV_i F N (c_X9_bad l G ad ex st ) miX9_bad k_763 (by decide) hl.1 rfl (Nat.le_of_ble_eq_true rfl) (q0 := 0) (ci := 8) rfl rfl dX9_count_18 (fun st_18 est_18 H locs N => ?_)
  exact hret _ _ _ _ _ _ dX9_count_21 (by first | rfl | (subst est_18; rfl) | (subst est_18; simp [bI])) (by first | rfl | (subst est_18; rfl) | (subst est_18; simp [bI])) N
set_option maxHeartbeats 4000000 in
set_option maxRecDepth 100000 in
theorem c_X9_count_0 (l : Launch) (G : GM) (ad : Nat → Nat) (ex : va_W) (st : ST) : XCi l G yX9_count cX9_count 2 (some .int) 2 [.ref (ad 0), .int 0] (MW G ad st ++ ex) (nI (mFil (st.2.1 0))) (MW G ad st ++ ex) := by
  refine xi_start (by decide) rfl (Nat.le_of_ble_eq_true rfl) ?_
  intro zp ze zs zm zargs zbelow zmeth zc zQ ls F N hl hret
  have hx := F.1
  have hb := F.2.1
  have hl : lv_has ls 2 [(0, .ref (ad 0)), (1, .int 0)] := hl
  refine lv_iload_n hx hb dX9_count_0 rfl (lv_at hl 1 rfl) ?_
  refine lv_iconst (v := 0) hx hb dX9_count_1 (by decide) ?_
  refine lv_iconst (v := 3) hx hb dX9_count_2 (by decide) ?_
  refine cS_i F N (c_X9_in l G _ 0 0 3) miX9_in k_760 (by decide) hl.1 rfl (Nat.le_of_ble_eq_true rfl) dX9_count_3 (fun H locs N => ?_)
  refine toI (y := 1) (by decide) ?_
  refine lv_if_eq (tgt := 17) hx hb dX9_count_6 (by decide) (fun c_6 => ?_) (fun c_6 => ?_)
  · first | exact absurd c_6 (by decide) | exact absurd (by decide) c_6
  refine lv_aload_n hx hb dX9_count_9 rfl (lv_at hl 0 rfl) ?_
  refine lv_iload_n hx hb dX9_count_10 rfl (lv_at hl 1 rfl) ?_
  refine cV_i F N (c_X9_countOf_0 l G ad ex st ) miX9_countOf k_993 (by decide) hl.1 rfl (Nat.le_of_ble_eq_true rfl) (q0 := 0) (ci := 8) rfl rfl dX9_count_11 (fun H locs N => ?_)
  refine lv_goto (tgt := 21) hx hb dX9_count_14 (by decide) ?_
  exact hret _ _ _ _ _ _ dX9_count_21 (by first | rfl | (simp [bI])) (by first | rfl | (simp [bI])) N
set_option maxHeartbeats 4000000 in
set_option maxRecDepth 100000 in
theorem c_X9_count_1 (l : Launch) (G : GM) (ad : Nat → Nat) (ex : va_W) (st : ST) (cn : Nat → Nat) (hcn : mCn (st.2.1 0) cn) : XCi l G yX9_count cX9_count 2 (some .int) 1 [.ref (ad 0), .int 1] (MW G ad st ++ ex) (nI (mCount1 cn)) (MW G ad st ++ ex) := by
  refine xi_start (by decide) rfl (Nat.le_of_ble_eq_true rfl) ?_
  intro zp ze zs zm zargs zbelow zmeth zc zQ ls F N hl hret
  have hx := F.1
  have hb := F.2.1
  have hl : lv_has ls 2 [(0, .ref (ad 0)), (1, .int 1)] := hl
  refine lv_iload_n hx hb dX9_count_0 rfl (lv_at hl 1 rfl) ?_
  refine lv_iconst (v := 0) hx hb dX9_count_1 (by decide) ?_
  refine lv_iconst (v := 3) hx hb dX9_count_2 (by decide) ?_
  refine cS_i F N (c_X9_in l G _ 1 0 3) miX9_in k_760 (by decide) hl.1 rfl (Nat.le_of_ble_eq_true rfl) dX9_count_3 (fun H locs N => ?_)
  refine toI (y := 1) (by decide) ?_
  refine lv_if_eq (tgt := 17) hx hb dX9_count_6 (by decide) (fun c_6 => ?_) (fun c_6 => ?_)
  · first | exact absurd c_6 (by decide) | exact absurd (by decide) c_6
  refine lv_aload_n hx hb dX9_count_9 rfl (lv_at hl 0 rfl) ?_
  refine lv_iload_n hx hb dX9_count_10 rfl (lv_at hl 1 rfl) ?_
  refine cV_i F N (c_X9_countOf_1 l G ad ex st cn hcn) miX9_countOf k_993 (by decide) hl.1 rfl (Nat.le_of_ble_eq_true rfl) (q0 := 0) (ci := 8) rfl rfl dX9_count_11 (fun H locs N => ?_)
  refine lv_goto (tgt := 21) hx hb dX9_count_14 (by decide) ?_
  exact hret _ _ _ _ _ _ dX9_count_21 (by first | rfl | (simp [bI])) (by first | rfl | (simp [bI])) N
set_option maxHeartbeats 4000000 in
set_option maxRecDepth 100000 in
theorem c_X9_count_2 (l : Launch) (G : GM) (ad : Nat → Nat) (ex : va_W) (st : ST) (cn : Nat → Nat) (hcn : mCn (st.2.1 0) cn) : XCi l G yX9_count cX9_count 2 (some .int) 2 [.ref (ad 0), .int 2] (MW G ad st ++ ex) (nI (mCount2 (st.2.1 0) cn)) (MW G ad st ++ ex) := by
  refine xi_start (by decide) rfl (Nat.le_of_ble_eq_true rfl) ?_
  intro zp ze zs zm zargs zbelow zmeth zc zQ ls F N hl hret
  have hx := F.1
  have hb := F.2.1
  have hl : lv_has ls 2 [(0, .ref (ad 0)), (1, .int 2)] := hl
  refine lv_iload_n hx hb dX9_count_0 rfl (lv_at hl 1 rfl) ?_
  refine lv_iconst (v := 0) hx hb dX9_count_1 (by decide) ?_
  refine lv_iconst (v := 3) hx hb dX9_count_2 (by decide) ?_
  refine cS_i F N (c_X9_in l G _ 2 0 3) miX9_in k_760 (by decide) hl.1 rfl (Nat.le_of_ble_eq_true rfl) dX9_count_3 (fun H locs N => ?_)
  refine toI (y := 1) (by decide) ?_
  refine lv_if_eq (tgt := 17) hx hb dX9_count_6 (by decide) (fun c_6 => ?_) (fun c_6 => ?_)
  · first | exact absurd c_6 (by decide) | exact absurd (by decide) c_6
  refine lv_aload_n hx hb dX9_count_9 rfl (lv_at hl 0 rfl) ?_
  refine lv_iload_n hx hb dX9_count_10 rfl (lv_at hl 1 rfl) ?_
  refine cV_i F N (c_X9_countOf_2 l G ad ex st cn hcn) miX9_countOf k_993 (by decide) hl.1 rfl (Nat.le_of_ble_eq_true rfl) (q0 := 0) (ci := 8) rfl rfl dX9_count_11 (fun H locs N => ?_)
  refine lv_goto (tgt := 21) hx hb dX9_count_14 (by decide) ?_
  exact hret _ _ _ _ _ _ dX9_count_21 (by first | rfl | (simp [bI])) (by first | rfl | (simp [bI])) N
set_option maxHeartbeats 4000000 in
set_option maxRecDepth 100000 in
theorem c_X9_count_3 (l : Launch) (G : GM) (ad : Nat → Nat) (ex : va_W) (st : ST) (n : Nat) (hF : ∀ (s : ST) (k : Nat), s.2.1 0 = st.2.1 0 → k < 36 → FindOk s k n) : MMi l G yX9_count cX9_count 2 (some .int) 8 [.ref (ad 0), .int 3] ad ex st (nI ((mCount3 st n).1)) ((mCount3 st n).2) := by
  refine xi_start (by decide) rfl (Nat.le_of_ble_eq_true rfl) ?_
  intro zp ze zs zm zargs zbelow zmeth zc zQ ls F N hl hret
  have hx := F.1
  have hb := F.2.1
  have hl : lv_has ls 2 [(0, .ref (ad 0)), (1, .int 3)] := hl
  refine lv_iload_n hx hb dX9_count_0 rfl (lv_at hl 1 rfl) ?_
  refine lv_iconst (v := 0) hx hb dX9_count_1 (by decide) ?_
  refine lv_iconst (v := 3) hx hb dX9_count_2 (by decide) ?_
  refine cS_i F N (c_X9_in l G _ 3 0 3) miX9_in k_760 (by decide) hl.1 rfl (Nat.le_of_ble_eq_true rfl) dX9_count_3 (fun H locs N => ?_)
  refine toI (y := 1) (by decide) ?_
  refine lv_if_eq (tgt := 17) hx hb dX9_count_6 (by decide) (fun c_6 => ?_) (fun c_6 => ?_)
  · first | exact absurd c_6 (by decide) | exact absurd (by decide) c_6
  refine lv_aload_n hx hb dX9_count_9 rfl (lv_at hl 0 rfl) ?_
  refine lv_iload_n hx hb dX9_count_10 rfl (lv_at hl 1 rfl) ?_
  refine mV_i F N (c_X9_countOf_3 l G ad ex st n hF) miX9_countOf k_993 (by decide) hl.1 rfl (Nat.le_of_ble_eq_true rfl) (q0 := 0) (ci := 8) rfl rfl dX9_count_11 (fun st_11 est_11 H locs N => ?_)
  refine lv_goto (tgt := 21) hx hb dX9_count_14 (by decide) ?_
  exact hret _ _ _ _ _ _ dX9_count_21 (by first | rfl | (subst est_11; rfl) | (subst est_11; simp [bI])) (by first | rfl | (subst est_11; rfl) | (subst est_11; simp [bI])) N
set_option maxHeartbeats 4000000 in
set_option maxRecDepth 100000 in
theorem c_X9_digest (l : Launch) (G : GM) (ad : Nat → Nat) (ex : va_W) (st : ST) (cn : Nat → Nat) (n : Nat) (hcn : mCn (st.2.1 0) cn) (hF : ∀ (s : ST) (k : Nat), s.2.1 0 = st.2.1 0 → k < 36 → FindOk s k n) : MMl l G yX9_digest cX9_digest 4 (some .long) 8 [.ref (ad 0)] ad ex st ((mDig st cn n).2.2) (mDig st cn n) := by
  refine xl_start (by decide) (Nat.le_of_ble_eq_true rfl) ?_
  intro zp ze zs zm zargs zbelow zmeth zc zQ ls F N hl hret
  have hx := F.1
  have hb := F.2.1
  have hl : lv_has ls 4 [(0, .ref (ad 0))] := hl
  refine lv_aload_n hx hb dX9_digest_0 rfl (lv_at hl 0 rfl) ?_
  refine lv_ldc2 (v := 1626) hx hb F.2.2.2.1 (F.2.2.2.2.1 _ k_1009) dX9_digest_1 ?_
  refine pm_0_hash F N k_704 dX9_digest_4 (fun st_4 est_4 H locs N => ?_)
  refine lv_iconst (v := 0) hx hb dX9_digest_7 (by decide) ?_
  refine lv_istore_n (lv' := [(1, .int 0), (0, .ref (ad 0))]) hx hb dX9_digest_8 rfl hl (by decide) rfl (fun ls hl => ?_)
  have cut_9 : ∀ (k : Nat) (i : Nat) (s1 : ST), i + k = 5 → s1.2.1 0 = st.2.1 0 → lp mDgT k i s1 = lp mDgT 5 0 (sL st 1626) → ∀ (H : Heap) (locs : List Loc) (ls : Array Slot), Now G zs (MW G ad s1 ++ ex) H locs → lv_has ls 4 [(0, .ref (ad 0)), (1, .int (nI i))] → W zp l ze (RM 8) zs zm zargs zbelow zmeth zc H locs 0 0 zQ (F0 zm 9 ls []) := by
    intro k
    induction k with
    | zero =>
      intro i s1 hk hs0 hI H locs ls N hl
      refine lv_iload_n hx hb dX9_digest_9 rfl (lv_at hl 1 rfl) ?_
      refine lv_iconst (v := 5) hx hb dX9_digest_10 (by decide) ?_
      refine cmpN_ge (a := i) (b := 5) (tgt := 30) hx hb dX9_digest_11 (by decide) (by omega) (by omega) (fun c_11 => ?_) (fun c_11 => ?_)
      · have c_11v := Nat.not_lt.mpr c_11
        refine lv_iconst (v := 0) hx hb dX9_digest_30 (by decide) ?_
        refine lv_istore_n (lv' := [(1, .int 0), (0, .ref (ad 0))]) hx hb dX9_digest_31 rfl hl (by decide) rfl (fun ls hl => ?_)
        refine lv_iload_n hx hb dX9_digest_32 rfl (lv_at hl 0 rfl) ?_
        refine lv_iconst (v := 4) hx hb dX9_digest_33 (by decide) ?_
        refine lv_icmp_ge (tgt := 53) hx hb dX9_digest_34 (by decide) (fun c_34 => ?_) (fun c_34 => ?_)
        · first | exact absurd c_34 (by decide) | exact absurd (by decide) c_34
        refine lv_aload_n hx hb dX9_digest_37 rfl (lv_at hl 1 rfl) ?_
        refine lv_aload_n hx hb dX9_digest_38 rfl (lv_at hl 1 rfl) ?_
        refine lv_iload_n hx hb dX9_digest_39 rfl (lv_at hl 0 rfl) ?_
        refine cV_i F N (c_X9_countOf_0 l G ad ex s1 ) miX9_countOf k_993 (by decide) hl.1 rfl (Nat.le_of_ble_eq_true rfl) (q0 := 0) (ci := 8) rfl rfl dX9_digest_40 (fun H locs N => ?_)
        refine lv_i2l hx hb dX9_digest_43 rfl ?_
        refine mV_v F N (c_X9_mix l G ad ex s1 ((nI (mFil (s1.2.1 0))).toInt64)) miX9_mix k_1010 (by decide) hl.1 rfl (Nat.le_of_ble_eq_true rfl) (q0 := 0) (ci := 8) rfl rfl dX9_digest_44 (fun st_44 est_44 H locs N => ?_)
        refine lv_iinc (v := 1) (lv' := [(1, .int 1), (0, .ref (ad 0))]) hx hb dX9_digest_47 hl (k := 0) rfl (by decide) (by decide) rfl (fun ls hl => ?_)
        refine lv_goto (tgt := 32) hx hb dX9_digest_50 (by decide) ?_
        refine lv_iload_n hx hb dX9_digest_32 rfl (lv_at hl 0 rfl) ?_
        refine lv_iconst (v := 4) hx hb dX9_digest_33 (by decide) ?_
        refine lv_icmp_ge (tgt := 53) hx hb dX9_digest_34 (by decide) (fun c_34_2 => ?_) (fun c_34_2 => ?_)
        · first | exact absurd c_34_2 (by decide) | exact absurd (by decide) c_34_2
        refine lv_aload_n hx hb dX9_digest_37 rfl (lv_at hl 1 rfl) ?_
        refine lv_aload_n hx hb dX9_digest_38 rfl (lv_at hl 1 rfl) ?_
        refine lv_iload_n hx hb dX9_digest_39 rfl (lv_at hl 0 rfl) ?_
        refine cV_i F N (c_X9_countOf_1 l G ad ex st_44 cn (by simp only [est_44, sL_21, mCount3_0, hs0]; exact hcn)) miX9_countOf k_993 (by decide) hl.1 rfl (Nat.le_of_ble_eq_true rfl) (q0 := 0) (ci := 8) rfl rfl dX9_digest_40 (fun H locs N => ?_)
        refine lv_i2l hx hb dX9_digest_43 rfl ?_
        refine mV_v F N (c_X9_mix l G ad ex st_44 ((nI (mCount1 cn)).toInt64)) miX9_mix k_1010 (by decide) hl.1 rfl (Nat.le_of_ble_eq_true rfl) (q0 := 0) (ci := 8) rfl rfl dX9_digest_44 (fun st_44_2 est_44_2 H locs N => ?_)
        refine lv_iinc (v := 2) (lv' := [(1, .int 2), (0, .ref (ad 0))]) hx hb dX9_digest_47 hl (k := 0) rfl (by decide) (by decide) rfl (fun ls hl => ?_)
        refine lv_goto (tgt := 32) hx hb dX9_digest_50 (by decide) ?_
        refine lv_iload_n hx hb dX9_digest_32 rfl (lv_at hl 0 rfl) ?_
        refine lv_iconst (v := 4) hx hb dX9_digest_33 (by decide) ?_
        refine lv_icmp_ge (tgt := 53) hx hb dX9_digest_34 (by decide) (fun c_34_3 => ?_) (fun c_34_3 => ?_)
        · first | exact absurd c_34_3 (by decide) | exact absurd (by decide) c_34_3
        refine lv_aload_n hx hb dX9_digest_37 rfl (lv_at hl 1 rfl) ?_
        refine lv_aload_n hx hb dX9_digest_38 rfl (lv_at hl 1 rfl) ?_
        refine lv_iload_n hx hb dX9_digest_39 rfl (lv_at hl 0 rfl) ?_
        refine cV_i F N (c_X9_countOf_2 l G ad ex st_44_2 cn (by simp only [est_44_2, est_44, sL_21, mCount3_0, hs0]; exact hcn)) miX9_countOf k_993 (by decide) hl.1 rfl (Nat.le_of_ble_eq_true rfl) (q0 := 0) (ci := 8) rfl rfl dX9_digest_40 (fun H locs N => ?_)
        refine lv_i2l hx hb dX9_digest_43 rfl ?_
        refine mV_v F N (c_X9_mix l G ad ex st_44_2 ((nI (mCount2 (st_44_2.2.1 0) cn)).toInt64)) miX9_mix k_1010 (by decide) hl.1 rfl (Nat.le_of_ble_eq_true rfl) (q0 := 0) (ci := 8) rfl rfl dX9_digest_44 (fun st_44_3 est_44_3 H locs N => ?_)
        refine lv_iinc (v := 3) (lv' := [(1, .int 3), (0, .ref (ad 0))]) hx hb dX9_digest_47 hl (k := 0) rfl (by decide) (by decide) rfl (fun ls hl => ?_)
        refine lv_goto (tgt := 32) hx hb dX9_digest_50 (by decide) ?_
        refine lv_iload_n hx hb dX9_digest_32 rfl (lv_at hl 0 rfl) ?_
        refine lv_iconst (v := 4) hx hb dX9_digest_33 (by decide) ?_
        refine lv_icmp_ge (tgt := 53) hx hb dX9_digest_34 (by decide) (fun c_34_4 => ?_) (fun c_34_4 => ?_)
        · first | exact absurd c_34_4 (by decide) | exact absurd (by decide) c_34_4
        refine lv_aload_n hx hb dX9_digest_37 rfl (lv_at hl 1 rfl) ?_
        refine lv_aload_n hx hb dX9_digest_38 rfl (lv_at hl 1 rfl) ?_
        refine lv_iload_n hx hb dX9_digest_39 rfl (lv_at hl 0 rfl) ?_
        refine mV_i F N (c_X9_countOf_3 l G ad ex st_44_3 n (fun s k h9 h8 => hF s k (h9.trans (by simp only [est_44_3, est_44_2, est_44, sL_21, mCount3_0, hs0])) h8)) miX9_countOf k_993 (by decide) hl.1 rfl (Nat.le_of_ble_eq_true rfl) (q0 := 0) (ci := 8) rfl rfl dX9_digest_40 (fun st_40 est_40 H locs N => ?_)
        refine lv_i2l hx hb dX9_digest_43 rfl ?_
        refine mV_v F N (c_X9_mix l G ad ex st_40 ((nI ((mCount3 st_44_3 n).1)).toInt64)) miX9_mix k_1010 (by decide) hl.1 rfl (Nat.le_of_ble_eq_true rfl) (q0 := 0) (ci := 8) rfl rfl dX9_digest_44 (fun st_44_4 est_44_4 H locs N => ?_)
        refine lv_iinc (v := 4) (lv' := [(1, .int 4), (0, .ref (ad 0))]) hx hb dX9_digest_47 hl (k := 0) rfl (by decide) (by decide) rfl (fun ls hl => ?_)
        refine lv_goto (tgt := 32) hx hb dX9_digest_50 (by decide) ?_
        refine lv_iload_n hx hb dX9_digest_32 rfl (lv_at hl 0 rfl) ?_
        refine lv_iconst (v := 4) hx hb dX9_digest_33 (by decide) ?_
        refine lv_icmp_ge (tgt := 53) hx hb dX9_digest_34 (by decide) (fun c_34_5 => ?_) (fun c_34_5 => ?_)
        rotate_left
        · first | exact absurd (by decide) c_34_5 | exact absurd c_34_5 (by decide)
        refine lv_iconst (v := 0) hx hb dX9_digest_53 (by decide) ?_
        refine lv_istore_n (lv' := [(1, .int 0), (0, .ref (ad 0))]) hx hb dX9_digest_54 rfl hl (by decide) rfl (fun ls hl => ?_)
        have cut_55 : ∀ (k : Nat) (i : Nat) (s2 : ST), i + k = 36 → s2.2.1 0 = st.2.1 0 → lp (mDgK cn n) k i s2 = mDig st cn n → ∀ (H : Heap) (locs : List Loc) (ls : Array Slot), Now G zs (MW G ad s2 ++ ex) H locs → lv_has ls 4 [(0, .ref (ad 0)), (1, .int (nI i))] → W zp l ze (RM 8) zs zm zargs zbelow zmeth zc H locs 0 0 zQ (F0 zm 55 ls []) := by
          intro k
          induction k with
          | zero =>
            intro i s2 hk hs2 hK H locs ls N hl
            refine lv_iload_n hx hb dX9_digest_55 rfl (lv_at hl 1 rfl) ?_
            refine lv_bipush (v := 36) hx hb dX9_digest_56 (by decide) ?_
            refine cmpN_ge (a := i) (b := 36) (tgt := 139) hx hb dX9_digest_58 (by decide) (by omega) (by omega) (fun c_58 => ?_) (fun c_58 => ?_)
            · have c_58v := Nat.not_lt.mpr c_58
              refine lv_aload_n hx hb dX9_digest_139 rfl (lv_at hl 0 rfl) ?_
              refine gm_0_hash F N k_704 dX9_digest_140 ?_
              exact hret _ _ _ _ _ _ dX9_digest_143 (by rw [← hK]; rfl) (by rw [← hK]; rfl) N
            · exfalso; omega
          | succ k ih_55 =>
            intro i s2 hk hs2 hK H locs ls N hl
            refine lv_iload_n hx hb dX9_digest_55 rfl (lv_at hl 1 rfl) ?_
            refine lv_bipush (v := 36) hx hb dX9_digest_56 (by decide) ?_
            refine cmpN_ge (a := i) (b := 36) (tgt := 139) hx hb dX9_digest_58 (by decide) (by omega) (by omega) (fun c_58 => ?_) (fun c_58 => ?_)
            · exfalso; omega
            · have c_58v := Nat.not_le.mp c_58
              refine lv_bipush (v := 25) hx hb dX9_digest_61 (by decide) ?_
              refine lv_iload_n hx hb dX9_digest_63 rfl (lv_at hl 1 rfl) ?_
              refine imulN (a := 25) (b := i) hx hb dX9_digest_64 ?_
              refine lv_istore_n (lv' := [(2, .int (nI (25 * i))), (0, .ref (ad 0)), (1, .int (nI i))]) hx hb dX9_digest_65 rfl hl (by decide) rfl (fun ls hl => ?_)
              refine lv_aload_n hx hb dX9_digest_66 rfl (lv_at hl 1 rfl) ?_
              refine lv_aload_n hx hb dX9_digest_67 rfl (lv_at hl 1 rfl) ?_
              refine gm_0_now F N k_682 dX9_digest_68 ?_
              refine lv_iload_n hx hb dX9_digest_71 rfl (lv_at hl 0 rfl) ?_
              refine amN_0 (j := (25 * i)) F N (by omega) dX9_digest_72 ?_
              refine lv_i2l hx hb dX9_digest_73 rfl ?_
              refine mV_v F N (c_X9_mix l G ad ex s2 ((s2.2.1 0 (25 * i)).toInt64)) miX9_mix k_1010 (by decide) hl.1 rfl (Nat.le_of_ble_eq_true rfl) (q0 := 0) (ci := 8) rfl rfl dX9_digest_74 (fun st_74 est_74 H locs N => ?_)
              refine lv_iconst (v := 0) hx hb dX9_digest_77 (by decide) ?_
              refine lv_istore_n (lv' := [(3, .int 0), (2, .int (nI (25 * i))), (0, .ref (ad 0)), (1, .int (nI i))]) hx hb dX9_digest_78 rfl hl (by decide) rfl (fun ls hl => ?_)
              have cut_79 : ∀ (k2 : Nat) (j : Nat) (s3 : ST), j + k2 = 6 * cn i → s3.2.1 0 = st.2.1 0 → lp (mDgJ i) k2 j s3 = mDgA cn i s2 → ∀ (H : Heap) (locs : List Loc) (ls : Array Slot), Now G zs (MW G ad s3 ++ ex) H locs → lv_has ls 4 [(0, .ref (ad 0)), (1, .int (nI i)), (2, .int (nI (25 * i))), (3, .int (nI j))] → W zp l ze (RM 8) zs zm zargs zbelow zmeth zc H locs 0 0 zQ (F0 zm 79 ls []) := by
                intro k2
                induction k2 with
                | zero =>
                  intro j s3 hk2 hs3 hJ H locs ls N hl
                  have hci := (hcn i (by omega)).2
                  refine lv_iload_n hx hb dX9_digest_79 rfl (lv_at hl 3 rfl) ?_
                  refine lv_bipush (v := 6) hx hb dX9_digest_80 (by decide) ?_
                  refine lv_aload_n hx hb dX9_digest_82 rfl (lv_at hl 0 rfl) ?_
                  refine gm_0_now F N k_682 dX9_digest_83 ?_
                  refine lv_iload_n hx hb dX9_digest_86 rfl (lv_at hl 2 rfl) ?_
                  refine amN_0 (j := (25 * i)) F N (by omega) dX9_digest_87 ?_
                  refine toN (a := cn i) (by rw [hs3]; exact (hcn i (by omega)).1) ?_
                  refine imulN (a := 6) (b := (cn i)) hx hb dX9_digest_88 ?_
                  refine cmpN_ge (a := j) (b := (6 * (cn i))) (tgt := 113) hx hb dX9_digest_89 (by decide) (by omega) (by omega) (fun c_89 => ?_) (fun c_89 => ?_)
                  · have c_89v := Nat.not_lt.mpr c_89
                    refine lv_aload_n hx hb dX9_digest_113 rfl (lv_at hl 0 rfl) ?_
                    refine lv_aload_n hx hb dX9_digest_114 rfl (lv_at hl 0 rfl) ?_
                    refine lv_iload_n hx hb dX9_digest_115 rfl (lv_at hl 1 rfl) ?_
                    refine mV_i F N (c_X9_valueOf l G ad ex s3 i n (by omega) (hF _ i hs3 (by omega))) miX9_valueOf k_936 (by decide) hl.1 rfl (Nat.le_of_ble_eq_true rfl) (q0 := 0) (ci := 8) rfl rfl dX9_digest_116 (fun st_116 est_116 H locs N => ?_)
                    refine lv_i2l hx hb dX9_digest_119 rfl ?_
                    refine mV_v F N (c_X9_mix l G ad ex st_116 ((mVal s3 i n).toInt64)) miX9_mix k_1010 (by decide) hl.1 rfl (Nat.le_of_ble_eq_true rfl) (q0 := 0) (ci := 8) rfl rfl dX9_digest_120 (fun st_120 est_120 H locs N => ?_)
                    refine lv_aload_n hx hb dX9_digest_123 rfl (lv_at hl 0 rfl) ?_
                    refine lv_aload_n hx hb dX9_digest_124 rfl (lv_at hl 0 rfl) ?_
                    refine lv_iload_n hx hb dX9_digest_125 rfl (lv_at hl 1 rfl) ?_
                    refine mV_i F N (c_X9_whyOf l G ad ex st_120 i n (by omega) (hF _ i (by simp only [est_120, est_116, sL_21, mFin_0, hs3]) (by omega))) miX9_whyOf k_969 (by decide) hl.1 rfl (Nat.le_of_ble_eq_true rfl) (q0 := 0) (ci := 8) rfl rfl dX9_digest_126 (fun st_126 est_126 H locs N => ?_)
                    refine lv_i2l hx hb dX9_digest_129 rfl ?_
                    refine mV_v F N (c_X9_mix l G ad ex st_126 ((mWhy st_120 i n).toInt64)) miX9_mix k_1010 (by decide) hl.1 rfl (Nat.le_of_ble_eq_true rfl) (q0 := 0) (ci := 8) rfl rfl dX9_digest_130 (fun st_130 est_130 H locs N => ?_)
                    refine lv_iinc (v := (nI (i + 1))) (lv' := [(1, .int (nI (i + 1))), (0, .ref (ad 0)), (2, .int (nI (25 * i))), (3, .int (nI j))]) hx hb dX9_digest_133 hl (k := 1) rfl (nI_1 i) (by decide) rfl (fun ls hl => ?_)
                    refine lv_goto (tgt := 55) hx hb dX9_digest_136 (by decide) ?_
                    exact ih_55 (i + 1) st_130 (by omega) (by simp only [est_130, est_126, est_120, est_116, sL_21, mFin_0, hs3]) (by rw [← hK, lp_s, mDgK, ← hJ, est_130, est_126, est_120, est_116]; rfl) _ _ _ N (lv_sub hl [1, 0] rfl)
                  · exfalso; omega
                | succ k2 ih_79 =>
                  intro j s3 hk2 hs3 hJ H locs ls N hl
                  have hci := (hcn i (by omega)).2
                  refine lv_iload_n hx hb dX9_digest_79 rfl (lv_at hl 3 rfl) ?_
                  refine lv_bipush (v := 6) hx hb dX9_digest_80 (by decide) ?_
                  refine lv_aload_n hx hb dX9_digest_82 rfl (lv_at hl 0 rfl) ?_
                  refine gm_0_now F N k_682 dX9_digest_83 ?_
                  refine lv_iload_n hx hb dX9_digest_86 rfl (lv_at hl 2 rfl) ?_
                  refine amN_0 (j := (25 * i)) F N (by omega) dX9_digest_87 ?_
                  refine toN (a := cn i) (by rw [hs3]; exact (hcn i (by omega)).1) ?_
                  refine imulN (a := 6) (b := (cn i)) hx hb dX9_digest_88 ?_
                  refine cmpN_ge (a := j) (b := (6 * (cn i))) (tgt := 113) hx hb dX9_digest_89 (by decide) (by omega) (by omega) (fun c_89 => ?_) (fun c_89 => ?_)
                  · exfalso; omega
                  · have c_89v := Nat.not_le.mp c_89
                    refine lv_aload_n hx hb dX9_digest_92 rfl (lv_at hl 0 rfl) ?_
                    refine lv_aload_n hx hb dX9_digest_93 rfl (lv_at hl 0 rfl) ?_
                    refine gm_0_now F N k_682 dX9_digest_94 ?_
                    refine lv_iload_n hx hb dX9_digest_97 rfl (lv_at hl 2 rfl) ?_
                    refine lv_iconst (v := 1) hx hb dX9_digest_98 (by decide) ?_
                    refine iaddN (a := (25 * i)) (b := 1) hx hb dX9_digest_99 ?_
                    refine lv_iload_n hx hb dX9_digest_100 rfl (lv_at hl 3 rfl) ?_
                    refine iaddN (a := ((25 * i) + 1)) (b := j) hx hb dX9_digest_101 ?_
                    refine amN_0 (j := (((25 * i) + 1) + j)) F N (by omega) dX9_digest_102 ?_
                    refine lv_i2l hx hb dX9_digest_103 rfl ?_
                    refine mV_v F N (c_X9_mix l G ad ex s3 ((s3.2.1 0 (((25 * i) + 1) + j)).toInt64)) miX9_mix k_1010 (by decide) hl.1 rfl (Nat.le_of_ble_eq_true rfl) (q0 := 0) (ci := 8) rfl rfl dX9_digest_104 (fun st_104 est_104 H locs N => ?_)
                    refine lv_iinc (v := (nI (j + 1))) (lv' := [(3, .int (nI (j + 1))), (0, .ref (ad 0)), (1, .int (nI i)), (2, .int (nI (25 * i)))]) hx hb dX9_digest_107 hl (k := 3) rfl (nI_1 j) (by decide) rfl (fun ls hl => ?_)
                    refine lv_goto (tgt := 79) hx hb dX9_digest_110 (by decide) ?_
                    exact ih_79 (j + 1) st_104 (by omega) (by rw [est_104]; exact hs3) (by rw [← hJ, lp_s, est_104]; rfl) _ _ _ N (lv_sub hl [1, 2, 3, 0] rfl)
              exact cut_79 (6 * cn i) 0 st_74 (by omega) (by rw [est_74]; exact hs2) (by rw [est_74]; rfl) _ _ _ N (lv_sub hl [2, 3, 1, 0] rfl)
        exact cut_55 36 0 st_44_4 (by omega) (by simp only [est_44_4, est_40, est_44_3, est_44_2, est_44, sL_21, mCount3_0, hs0]) (by unfold mDig mDgC; rw [← hI, est_44_4, est_40, est_44_3, est_44_2, est_44]; rfl) _ _ _ N (lv_sub hl [1, 0] rfl)
      · exfalso; omega
    | succ k ih_9 =>
      intro i s1 hk hs0 hI H locs ls N hl
      refine lv_iload_n hx hb dX9_digest_9 rfl (lv_at hl 1 rfl) ?_
      refine lv_iconst (v := 5) hx hb dX9_digest_10 (by decide) ?_
      refine cmpN_ge (a := i) (b := 5) (tgt := 30) hx hb dX9_digest_11 (by decide) (by omega) (by omega) (fun c_11 => ?_) (fun c_11 => ?_)
      · exfalso; omega
      · have c_11v := Nat.not_le.mp c_11
        refine lv_aload_n hx hb dX9_digest_14 rfl (lv_at hl 0 rfl) ?_
        refine lv_aload_n hx hb dX9_digest_15 rfl (lv_at hl 0 rfl) ?_
        refine lv_iload_n hx hb dX9_digest_16 rfl (lv_at hl 1 rfl) ?_
        refine cV_i F N (c_X9_toldOf l G ad ex s1 i (by omega)) miX9_toldOf k_1001 (by decide) hl.1 rfl (Nat.le_of_ble_eq_true rfl) (q0 := 0) (ci := 8) rfl rfl dX9_digest_17 (fun H locs N => ?_)
        refine lv_i2l hx hb dX9_digest_20 rfl ?_
        refine mV_v F N (c_X9_mix l G ad ex s1 ((mTold s1 i).toInt64)) miX9_mix k_1010 (by decide) hl.1 rfl (Nat.le_of_ble_eq_true rfl) (q0 := 0) (ci := 8) rfl rfl dX9_digest_21 (fun st_21 est_21 H locs N => ?_)
        refine lv_iinc (v := (nI (i + 1))) (lv' := [(1, .int (nI (i + 1))), (0, .ref (ad 0))]) hx hb dX9_digest_24 hl (k := 1) rfl (nI_1 i) (by decide) rfl (fun ls hl => ?_)
        refine lv_goto (tgt := 9) hx hb dX9_digest_27 (by decide) ?_
        exact ih_9 (i + 1) st_21 (by omega) (by rw [est_21]; exact hs0) (by rw [← hI, lp_s, est_21]; rfl) _ _ _ N (lv_sub hl [1, 0] rfl)
  exact cut_9 5 0 st_4 (by omega) (by rw [est_4]; rfl) (by rw [est_4]) _ _ _ N (lv_sub hl [1, 0] rfl)
