theorem upd_0 {g : Nat → Int32} {k : Nat} {v : Int32} (h : 1 ≤ k) : upd g k v 0 = g 0 := if_neg (by omega)
theorem mPlA_0 {f : Nat → Int32} {L ta bit : Nat} {x : RS} : (mPlA f L ta bit x).2.1 0 = x.2.1 0 := by
  unfold mPlA
  dsimp only
  rw [upd_0 (by omega)]
theorem mPlB_0 {f : Nat → Int32} {L ta col bit : Nat} {sm : Int32} {x : RS} (h : 1 ≤ ta) : (mPlB f L ta col bit sm x).2.1 0 = x.2.1 0 := by
  unfold mPlB
  dsimp only
  rw [upd_0 (by omega), upd_0 (by omega)]
theorem mPlC_0 {f : Nat → Int32} {L ta col : Nat} {x : RS} : (mPlC f L ta col x).2.2.1 0 = x.2.1 0 := by
  unfold mPlC
  split
  · dsimp only
    rw [upd_0 (by omega)]
  · rfl
theorem mPl_0 {f : Nat → Int32} {L ta col bit : Nat} {x : RS} (h : 1 ≤ ta) : (mPl f L ta col bit x).2.2.1 0 = x.2.1 0 := by
  unfold mPl
  split
  · rw [mPlC_0, mPlB_0 h, mPlA_0]
  · split
    · rw [mPlC_0, mPlB_0 h, mPlA_0]
    · dsimp only
      rw [mPlA_0]
theorem mSort1_0 {g : Nat → Int32} {ta one two : Nat} (h : 1 ≤ ta) : mSort1 g ta one two 0 = g 0 := by
  unfold mSort1
  rw [upd_0 (by omega), upd_0 (by omega)]
theorem mSort_0 {g : Nat → Int32} {ta one two bit : Nat} (h : 1 ≤ ta) : mSort g ta one two bit 0 = g 0 := by
  unfold mSort
  split
  · rw [upd_0 (by omega)]; exact mSort1_0 h
  · rfl
theorem mNum_0 {f : Nat → Int32} {L ta : Nat} {x : RS} (h : 1 ≤ ta) : (mNum f L ta x).2.2.1 0 = x.2.1 0 := by
  unfold mNum
  split
  · dsimp only
    rw [upd_0 (by omega), upd_0 (by omega)]
  · rfl
theorem mTermB_0 {f : Nat → Int32} {L ta : Nat} {x : RS} (h : 1 ≤ ta) : (mTermB f L ta x).2.2.1 0 = x.2.1 0 := by
  unfold mTermB
  split
  · have h1 : (mPl f L ta 3 4 (rNx f L x.1 + 1, upd x.2.1 (ta + 0) 2, x.2.2)).2.2.1 0 = x.2.1 0 := (mPl_0 h).trans (upd_0 (by omega))
    split
    · exact (mSort_0 h).trans ((mSort_0 h).trans h1)
    · exact h1
  · rfl
theorem mTerm_0 {f : Nat → Int32} {L ta : Nat} {x : RS} (h : 1 ≤ ta) : (mTerm f L ta x).2.2.1 0 = x.2.1 0 := by
  unfold mTerm
  split
  · dsimp only
    rw [upd_0 (by omega)]
  · split
    · exact mNum_0 h
    · have h1 : (mPl f L ta 1 1 (rNx f L x.1, upd x.2.1 (ta + 0) 1, x.2.2)).2.2.1 0 = x.2.1 0 := (mPl_0 h).trans (upd_0 (by omega))
      split
      · exact (mTermB_0 h).trans h1
      · exact h1
def zr (g : Nat → Int32) : Nat → Int32 := lp (fun i g => upd g i 0) 25 0 g
theorem zr_0 (g : Nat → Int32) : zr g 0 = 0 := by
  have h := lp_inv (f := fun i g => upd g i 0) (fun i g => 0 < i → g 0 = 0) 25 0 g (fun h => absurd h (by decide)) (fun j b _ _ hb _ => by
    show upd b j 0 0 = 0
    by_cases hj : j = 0
    · rw [hj]; exact upd_same b 0 0
    · rw [upd_other b 0 (Ne.symm hj)]
      exact hb (by omega))
  exact h (by decide)
theorem i32_nI (x : Int32) : ∃ n : Nat, x = nI n := by
  refine ⟨x.toBitVec.toNat, ?_⟩
  apply Int32.toBitVec_inj.mp
  show x.toBitVec = BitVec.ofNat 32 x.toBitVec.toNat
  simp
set_option maxHeartbeats 4000000 in
set_option maxRecDepth 100000 in
theorem c_X9_sorts (l : Launch) (G : GM) (ad : Nat → Nat) (ex : va_W) (st : ST) (f : Nat → Int32) (L : Nat) (P : Nat) (g : Nat → Int32) (wr : Int32) (ta : Nat) (one : Nat) (two : Nat) (bit : Nat) (hf : st.2.1 4 = f) (hL : st.1 1 = nI L) (hL2 : L ≤ 60) (hta : ta ≤ 19) (h1 : one ≤ 4) (h2 : two ≤ 4) : MMv l G yX9_sorts cX9_sorts 8 none 0 [.ref (ad 6), .int (nI ta), .int (nI one), .int (nI two), .int (nI bit)] ad ex (mS st (P, g, wr)) (mS st (P, mSort g ta one two bit, wr)) := by
  refine xv_start (by decide) (Nat.le_of_ble_eq_true rfl) ?_
  intro zp ze zs zm zargs zbelow zmeth zc zQ ls F N hl hret
  have hx := F.1
  have hb := F.2.1
  have hl : lv_has ls 8 [(0, .ref (ad 6)), (1, .int (nI ta)), (2, .int (nI one)), (3, .int (nI two)), (4, .int (nI bit))] := hl
  refine lv_aload_n hx hb dX9_sorts_0 rfl (lv_at hl 0 rfl) ?_
  refine lv_iload_n hx hb dX9_sorts_1 rfl (lv_at hl 1 rfl) ?_
  refine lv_iload_n hx hb dX9_sorts_2 rfl (lv_at hl 2 rfl) ?_
  refine iaddN (a := ta) (b := one) hx hb dX9_sorts_3 ?_
  refine amN_5 (j := (ta + one)) F N (by omega) dX9_sorts_4 ?_
  refine toI (y := g (ta + one)) rfl ?_
  refine lv_aload_n hx hb dX9_sorts_5 rfl (lv_at hl 0 rfl) ?_
  refine lv_iload_n hx hb dX9_sorts_6 rfl (lv_at hl 1 rfl) ?_
  refine lv_iload_n hx hb dX9_sorts_7 rfl (lv_at hl 3 rfl) ?_
  refine iaddN (a := ta) (b := two) hx hb dX9_sorts_8 ?_
  refine amN_5 (j := (ta + two)) F N (by omega) dX9_sorts_9 ?_
  refine toI (y := g (ta + two)) rfl ?_
  refine lv_icmp_gt (tgt := 14) hx hb dX9_sorts_10 (by decide) (fun c_10 => ?_) (fun c_10 => ?_)
  · have c_10v := lt_nle c_10
    refine lv_aload_n hx hb dX9_sorts_14 rfl (lv_at hl 0 rfl) ?_
    refine lv_iload_n hx hb dX9_sorts_15 rfl (lv_at hl 1 rfl) ?_
    refine lv_iload_n hx hb dX9_sorts_16 rfl (lv_at hl 2 rfl) ?_
    refine iaddN (a := ta) (b := one) hx hb dX9_sorts_17 ?_
    refine amN_5 (j := (ta + one)) F N (by omega) dX9_sorts_18 ?_
    refine toI (y := g (ta + one)) rfl ?_
    refine lv_istore (lv' := [(5, .int (g (ta + one))), (0, .ref (ad 6)), (1, .int (nI ta)), (2, .int (nI one)), (3, .int (nI two)), (4, .int (nI bit))]) hx hb dX9_sorts_19 hl (by decide) rfl (fun ls hl => ?_)
    refine lv_aload_n hx hb dX9_sorts_21 rfl (lv_at hl 1 rfl) ?_
    refine lv_iload_n hx hb dX9_sorts_22 rfl (lv_at hl 2 rfl) ?_
    refine lv_iload_n hx hb dX9_sorts_23 rfl (lv_at hl 3 rfl) ?_
    refine iaddN (a := ta) (b := one) hx hb dX9_sorts_24 ?_
    refine lv_aload_n hx hb dX9_sorts_25 rfl (lv_at hl 1 rfl) ?_
    refine lv_iload_n hx hb dX9_sorts_26 rfl (lv_at hl 2 rfl) ?_
    refine lv_iload_n hx hb dX9_sorts_27 rfl (lv_at hl 4 rfl) ?_
    refine iaddN (a := ta) (b := two) hx hb dX9_sorts_28 ?_
    refine amN_5 (j := (ta + two)) F N (by omega) dX9_sorts_29 ?_
    refine toI (y := g (ta + two)) rfl ?_
    refine smN_5 (j := (ta + one)) F N (by omega) dX9_sorts_30 (fun st_30 est_30 H locs N => ?_)
    replace N := eqM N (est_30.trans (mS_5 st P g wr (upd g (ta + one) (g (ta + two)))))
    refine lv_aload_n hx hb dX9_sorts_31 rfl (lv_at hl 1 rfl) ?_
    refine lv_iload_n hx hb dX9_sorts_32 rfl (lv_at hl 2 rfl) ?_
    refine lv_iload_n hx hb dX9_sorts_33 rfl (lv_at hl 4 rfl) ?_
    refine iaddN (a := ta) (b := two) hx hb dX9_sorts_34 ?_
    refine lv_iload hx hb dX9_sorts_35 (lv_at hl 0 rfl) ?_
    refine smN_5 (j := (ta + two)) F N (by omega) dX9_sorts_37 (fun st_37 est_37 H locs N => ?_)
    replace N := eqM N (est_37.trans (mS_5 st P (upd g (ta + one) (g (ta + two))) wr (upd (upd g (ta + one) (g (ta + two))) (ta + two) (g (ta + one)))))
    refine lv_aload_n hx hb dX9_sorts_38 rfl (lv_at hl 1 rfl) ?_
    refine lv_iload_n hx hb dX9_sorts_39 rfl (lv_at hl 2 rfl) ?_
    refine lv_iconst (v := 5) hx hb dX9_sorts_40 (by decide) ?_
    refine iaddN (a := ta) (b := 5) hx hb dX9_sorts_41 ?_
    refine amN_5 (j := (ta + 5)) F N (by omega) dX9_sorts_42 ?_
    refine toI (y := (upd (upd g (ta + one) (g (ta + two))) (ta + two) (g (ta + one))) (ta + 5)) rfl ?_
    refine lv_iload hx hb dX9_sorts_43 (lv_at hl 5 rfl) ?_
    refine lv_iand hx hb dX9_sorts_45 ?_
    refine lv_istore (lv' := [(6, .int (((upd (upd g (ta + one) (g (ta + two))) (ta + two) (g (ta + one))) (ta + 5)) &&& (nI bit))), (5, .int (g (ta + one))), (0, .ref (ad 6)), (1, .int (nI ta)), (2, .int (nI one)), (3, .int (nI two)), (4, .int (nI bit))]) hx hb dX9_sorts_46 hl (by decide) rfl (fun ls hl => ?_)
    refine lv_aload_n hx hb dX9_sorts_48 rfl (lv_at hl 2 rfl) ?_
    refine lv_iload_n hx hb dX9_sorts_49 rfl (lv_at hl 3 rfl) ?_
    refine lv_iconst (v := 5) hx hb dX9_sorts_50 (by decide) ?_
    refine iaddN (a := ta) (b := 5) hx hb dX9_sorts_51 ?_
    refine amN_5 (j := (ta + 5)) F N (by omega) dX9_sorts_52 ?_
    refine toI (y := (upd (upd g (ta + one) (g (ta + two))) (ta + two) (g (ta + one))) (ta + 5)) rfl ?_
    refine lv_iconst (v := 4) hx hb dX9_sorts_53 (by decide) ?_
    refine lv_iload hx hb dX9_sorts_54 (lv_at hl 6 rfl) ?_
    refine imulN (a := 4) (b := bit) hx hb dX9_sorts_56 ?_
    refine lv_iand hx hb dX9_sorts_57 ?_
    refine lv_istore (lv' := [(7, .int (((upd (upd g (ta + one) (g (ta + two))) (ta + two) (g (ta + one))) (ta + 5)) &&& (nI (4 * bit)))), (6, .int (((upd (upd g (ta + one) (g (ta + two))) (ta + two) (g (ta + one))) (ta + 5)) &&& (nI bit))), (5, .int (g (ta + one))), (0, .ref (ad 6)), (1, .int (nI ta)), (2, .int (nI one)), (3, .int (nI two)), (4, .int (nI bit))]) hx hb dX9_sorts_58 hl (by decide) rfl (fun ls hl => ?_)
    refine lv_aload_n hx hb dX9_sorts_60 rfl (lv_at hl 3 rfl) ?_
    refine lv_iload_n hx hb dX9_sorts_61 rfl (lv_at hl 4 rfl) ?_
    refine lv_iconst (v := 5) hx hb dX9_sorts_62 (by decide) ?_
    refine iaddN (a := ta) (b := 5) hx hb dX9_sorts_63 ?_
    refine lv_aload_n hx hb dX9_sorts_64 rfl (lv_at hl 3 rfl) ?_
    refine lv_iload_n hx hb dX9_sorts_65 rfl (lv_at hl 4 rfl) ?_
    refine lv_iconst (v := 5) hx hb dX9_sorts_66 (by decide) ?_
    refine iaddN (a := ta) (b := 5) hx hb dX9_sorts_67 ?_
    refine amN_5 (j := (ta + 5)) F N (by omega) dX9_sorts_68 ?_
    refine toI (y := (upd (upd g (ta + one) (g (ta + two))) (ta + two) (g (ta + one))) (ta + 5)) rfl ?_
    refine lv_iload hx hb dX9_sorts_69 (lv_at hl 1 rfl) ?_
    refine lv_isub hx hb dX9_sorts_71 ?_
    refine lv_iload hx hb dX9_sorts_72 (lv_at hl 0 rfl) ?_
    refine lv_isub hx hb dX9_sorts_74 ?_
    refine lv_iconst (v := 4) hx hb dX9_sorts_75 (by decide) ?_
    refine lv_iload hx hb dX9_sorts_76 (lv_at hl 1 rfl) ?_
    refine lv_imul hx hb dX9_sorts_78 ?_
    refine lv_iadd hx hb dX9_sorts_79 ?_
    refine lv_iload hx hb dX9_sorts_80 (lv_at hl 0 rfl) ?_
    refine lv_iconst (v := 4) hx hb dX9_sorts_82 (by decide) ?_
    refine lv_idiv hx hb dX9_sorts_83 (by decide) ?_
    refine lv_iadd hx hb dX9_sorts_84 ?_
    refine smN_5 (j := (ta + 5)) F N (by omega) dX9_sorts_85 (fun st_85 est_85 H locs N => ?_)
    replace N := eqM N (est_85.trans (mS_5 st P (upd (upd g (ta + one) (g (ta + two))) (ta + two) (g (ta + one))) wr (upd (upd (upd g (ta + one) (g (ta + two))) (ta + two) (g (ta + one))) (ta + 5) ((((((upd (upd g (ta + one) (g (ta + two))) (ta + two) (g (ta + one))) (ta + 5)) - (((upd (upd g (ta + one) (g (ta + two))) (ta + two) (g (ta + one))) (ta + 5)) &&& (nI bit))) - (((upd (upd g (ta + one) (g (ta + two))) (ta + two) (g (ta + one))) (ta + 5)) &&& (nI (4 * bit)))) + ((4 : Int32) * (((upd (upd g (ta + one) (g (ta + two))) (ta + two) (g (ta + one))) (ta + 5)) &&& (nI bit)))) + ((((upd (upd g (ta + one) (g (ta + two))) (ta + two) (g (ta + one))) (ta + 5)) &&& (nI (4 * bit))) / (4 : Int32))))))
    exact hret _ _ _ _ _ dX9_sorts_86 (by simp [mSort, mSort1, c_10, c_10v]) N
  · have c_10v := nlt_le c_10
    exact hret _ _ _ _ _ dX9_sorts_13 (by simp [mSort, mSort1, c_10, c_10v]) N
set_option maxHeartbeats 4000000 in
set_option maxRecDepth 100000 in
theorem c_X9_takesTerm (l : Launch) (G : GM) (ad : Nat → Nat) (ex : va_W) (st : ST) (f : Nat → Int32) (L : Nat) (P : Nat) (g : Nat → Int32) (wr : Int32) (ta : Nat) (hf : st.2.1 4 = f) (hL : st.1 1 = nI L) (hL2 : L ≤ 60) (hP2 : P ≤ L) (hta : ta ≤ 19) : MMi l G yX9_takesTerm cX9_takesTerm 2 (some .boolean) 4 [.ref (ad 0), .int (nI ta)] ad ex (mS st (P, g, wr)) (bI ((mTerm f L ta (P, g, wr)).1)) (mS st ((mTerm f L ta (P, g, wr)).2.1, (mTerm f L ta (P, g, wr)).2.2.1, (mTerm f L ta (P, g, wr)).2.2.2)) := by
  refine xi_start (by decide) (nar_bI _) (Nat.le_of_ble_eq_true rfl) ?_
  intro zp ze zs zm zargs zbelow zmeth zc zQ ls F N hl hret
  have hx := F.1
  have hb := F.2.1
  have hl : lv_has ls 2 [(0, .ref (ad 0)), (1, .int (nI ta))] := hl
  refine lv_aload_n hx hb dX9_takesTerm_0 rfl (lv_at hl 0 rfl) ?_
  refine cV_v F N (c_X9_blanks l G ad ex st f L P g wr hf hL hL2 hP2) miX9_blanks k_782 (by decide) hl.1 rfl (Nat.le_of_ble_eq_true rfl) (q0 := 0) (ci := 8) rfl rfl dX9_takesTerm_1 (fun H locs N => ?_)
  refine lv_aload_n hx hb dX9_takesTerm_4 rfl (lv_at hl 0 rfl) ?_
  refine lv_bipush (v := 35) hx hb dX9_takesTerm_5 (by decide) ?_
  refine lv_bipush (v := 35) hx hb dX9_takesTerm_7 (by decide) ?_
  refine cV_i F N (c_X9_isAt l G ad ex st f L (rNx f L P) g wr 35 35 hf hL hL2 (rNx_le hP2)) miX9_isAt k_790 (by decide) hl.1 rfl (Nat.le_of_ble_eq_true rfl) (q0 := 0) (ci := 8) rfl rfl dX9_takesTerm_9 (fun H locs N => ?_)
  refine ifB_eq (tgt := 36) hx hb dX9_takesTerm_12 (by decide) (fun c_12 => ?_) (fun c_12 => ?_)
  · refine lv_aload_n hx hb dX9_takesTerm_36 rfl (lv_at hl 0 rfl) ?_
    refine lv_bipush (v := 48) hx hb dX9_takesTerm_37 (by decide) ?_
    refine lv_bipush (v := 57) hx hb dX9_takesTerm_39 (by decide) ?_
    refine cV_i F N (c_X9_isAt l G ad ex st f L (rNx f L P) g wr 48 57 hf hL hL2 (rNx_le hP2)) miX9_isAt k_790 (by decide) hl.1 rfl (Nat.le_of_ble_eq_true rfl) (q0 := 0) (ci := 8) rfl rfl dX9_takesTerm_41 (fun H locs N => ?_)
    refine ifB_eq (tgt := 53) hx hb dX9_takesTerm_44 (by decide) (fun c_44 => ?_) (fun c_44 => ?_)
    · refine lv_aload_n hx hb dX9_takesTerm_53 rfl (lv_at hl 0 rfl) ?_
      refine gm_0_read F N k_689 dX9_takesTerm_54 ?_
      refine lv_iload_n hx hb dX9_takesTerm_57 rfl (lv_at hl 1 rfl) ?_
      refine lv_iconst (v := 0) hx hb dX9_takesTerm_58 (by decide) ?_
      refine iaddN (a := ta) (b := 0) hx hb dX9_takesTerm_59 ?_
      refine lv_iconst (v := 1) hx hb dX9_takesTerm_60 (by decide) ?_
      refine smN_5 (j := (ta + 0)) F N (by omega) dX9_takesTerm_61 (fun st_61 est_61 H locs N => ?_)
      replace N := eqM N (est_61.trans (mS_5 st (rNx f L P) g wr (upd g (ta + 0) 1)))
      refine lv_aload_n hx hb dX9_takesTerm_62 rfl (lv_at hl 0 rfl) ?_
      refine lv_iload_n hx hb dX9_takesTerm_63 rfl (lv_at hl 1 rfl) ?_
      refine lv_iconst (v := 1) hx hb dX9_takesTerm_64 (by decide) ?_
      refine lv_iconst (v := 1) hx hb dX9_takesTerm_65 (by decide) ?_
      refine cV_i F N (c_X9_takesPlace l G ad ex st f L (rNx f L P) (upd g (ta + 0) 1) wr ta 1 1 hf hL hL2 (rNx_le hP2) hta (by decide)) miX9_takesPlace k_802 (by decide) hl.1 rfl (Nat.le_of_ble_eq_true rfl) (q0 := 0) (ci := 8) rfl rfl dX9_takesTerm_66 (fun H locs N => ?_)
      refine ifB_ne (tgt := 74) hx hb dX9_takesTerm_69 (by decide) (fun c_69 => ?_) (fun c_69 => ?_)
      · refine lv_aload_n hx hb dX9_takesTerm_74 rfl (lv_at hl 0 rfl) ?_
        refine cV_v F N (c_X9_blanks l G ad ex st f L ((mPl f L ta 1 1 ((rNx f L P), (upd g (ta + 0) 1), wr)).2.1) ((mPl f L ta 1 1 ((rNx f L P), (upd g (ta + 0) 1), wr)).2.2.1) ((mPl f L ta 1 1 ((rNx f L P), (upd g (ta + 0) 1), wr)).2.2.2) hf hL hL2 (mPl_le (rNx_le hP2))) miX9_blanks k_782 (by decide) hl.1 rfl (Nat.le_of_ble_eq_true rfl) (q0 := 0) (ci := 8) rfl rfl dX9_takesTerm_75 (fun H locs N => ?_)
        refine lv_aload_n hx hb dX9_takesTerm_78 rfl (lv_at hl 0 rfl) ?_
        refine lv_bipush (v := 58) hx hb dX9_takesTerm_79 (by decide) ?_
        refine lv_bipush (v := 58) hx hb dX9_takesTerm_81 (by decide) ?_
        refine cV_i F N (c_X9_isAt l G ad ex st f L (rNx f L ((mPl f L ta 1 1 ((rNx f L P), (upd g (ta + 0) 1), wr)).2.1)) ((mPl f L ta 1 1 ((rNx f L P), (upd g (ta + 0) 1), wr)).2.2.1) ((mPl f L ta 1 1 ((rNx f L P), (upd g (ta + 0) 1), wr)).2.2.2) 58 58 hf hL hL2 (rNx_le (mPl_le (rNx_le hP2)))) miX9_isAt k_790 (by decide) hl.1 rfl (Nat.le_of_ble_eq_true rfl) (q0 := 0) (ci := 8) rfl rfl dX9_takesTerm_83 (fun H locs N => ?_)
        refine ifB_ne (tgt := 91) hx hb dX9_takesTerm_86 (by decide) (fun c_86 => ?_) (fun c_86 => ?_)
        · refine lv_aload_n hx hb dX9_takesTerm_91 rfl (lv_at hl 0 rfl) ?_
          refine lv_dup hx hb dX9_takesTerm_92 rfl ?_
          refine gm_0_spot F N k_690 dX9_takesTerm_93 ?_
          refine toN (a := rNx f L ((mPl f L ta 1 1 ((rNx f L P), (upd g (ta + 0) 1), wr)).2.1)) rfl ?_
          refine lv_iconst (v := 1) hx hb dX9_takesTerm_96 (by decide) ?_
          refine iaddN (a := (rNx f L ((mPl f L ta 1 1 ((rNx f L P), (upd g (ta + 0) 1), wr)).2.1))) (b := 1) hx hb dX9_takesTerm_97 ?_
          refine pm_0_spot F N k_690 dX9_takesTerm_98 (fun st_98 est_98 H locs N => ?_)
          replace N := eqM N (est_98.trans (mS_2 st (rNx f L ((mPl f L ta 1 1 ((rNx f L P), (upd g (ta + 0) 1), wr)).2.1)) ((mPl f L ta 1 1 ((rNx f L P), (upd g (ta + 0) 1), wr)).2.2.1) ((mPl f L ta 1 1 ((rNx f L P), (upd g (ta + 0) 1), wr)).2.2.2) ((rNx f L ((mPl f L ta 1 1 ((rNx f L P), (upd g (ta + 0) 1), wr)).2.1)) + 1)))
          refine lv_aload_n hx hb dX9_takesTerm_101 rfl (lv_at hl 0 rfl) ?_
          refine gm_0_read F N k_689 dX9_takesTerm_102 ?_
          refine lv_iload_n hx hb dX9_takesTerm_105 rfl (lv_at hl 1 rfl) ?_
          refine lv_iconst (v := 0) hx hb dX9_takesTerm_106 (by decide) ?_
          refine iaddN (a := ta) (b := 0) hx hb dX9_takesTerm_107 ?_
          refine lv_iconst (v := 2) hx hb dX9_takesTerm_108 (by decide) ?_
          refine smN_5 (j := (ta + 0)) F N (by omega) dX9_takesTerm_109 (fun st_109 est_109 H locs N => ?_)
          replace N := eqM N (est_109.trans (mS_5 st ((rNx f L ((mPl f L ta 1 1 ((rNx f L P), (upd g (ta + 0) 1), wr)).2.1)) + 1) ((mPl f L ta 1 1 ((rNx f L P), (upd g (ta + 0) 1), wr)).2.2.1) ((mPl f L ta 1 1 ((rNx f L P), (upd g (ta + 0) 1), wr)).2.2.2) (upd ((mPl f L ta 1 1 ((rNx f L P), (upd g (ta + 0) 1), wr)).2.2.1) (ta + 0) 2)))
          refine lv_aload_n hx hb dX9_takesTerm_110 rfl (lv_at hl 0 rfl) ?_
          refine lv_iload_n hx hb dX9_takesTerm_111 rfl (lv_at hl 1 rfl) ?_
          refine lv_iconst (v := 3) hx hb dX9_takesTerm_112 (by decide) ?_
          refine lv_iconst (v := 4) hx hb dX9_takesTerm_113 (by decide) ?_
          refine cV_i F N (c_X9_takesPlace l G ad ex st f L ((rNx f L ((mPl f L ta 1 1 ((rNx f L P), (upd g (ta + 0) 1), wr)).2.1)) + 1) (upd ((mPl f L ta 1 1 ((rNx f L P), (upd g (ta + 0) 1), wr)).2.2.1) (ta + 0) 2) ((mPl f L ta 1 1 ((rNx f L P), (upd g (ta + 0) 1), wr)).2.2.2) ta 3 4 hf hL hL2 (mAt_lt c_86) hta (by decide)) miX9_takesPlace k_802 (by decide) hl.1 rfl (Nat.le_of_ble_eq_true rfl) (q0 := 0) (ci := 8) rfl rfl dX9_takesTerm_114 (fun H locs N => ?_)
          refine ifB_ne (tgt := 122) hx hb dX9_takesTerm_117 (by decide) (fun c_117 => ?_) (fun c_117 => ?_)
          · refine lv_aload_n hx hb dX9_takesTerm_122 rfl (lv_at hl 0 rfl) ?_
            refine gm_0_read F N k_689 dX9_takesTerm_123 ?_
            refine lv_iload_n hx hb dX9_takesTerm_126 rfl (lv_at hl 1 rfl) ?_
            refine lv_iconst (v := 1) hx hb dX9_takesTerm_127 (by decide) ?_
            refine lv_iconst (v := 3) hx hb dX9_takesTerm_128 (by decide) ?_
            refine lv_iconst (v := 1) hx hb dX9_takesTerm_129 (by decide) ?_
            refine cS_v F N (c_X9_sorts l G ad ex st f L ((mPl f L ta 3 4 (((rNx f L ((mPl f L ta 1 1 ((rNx f L P), (upd g (ta + 0) 1), wr)).2.1)) + 1), (upd ((mPl f L ta 1 1 ((rNx f L P), (upd g (ta + 0) 1), wr)).2.2.1) (ta + 0) 2), ((mPl f L ta 1 1 ((rNx f L P), (upd g (ta + 0) 1), wr)).2.2.2))).2.1) ((mPl f L ta 3 4 (((rNx f L ((mPl f L ta 1 1 ((rNx f L P), (upd g (ta + 0) 1), wr)).2.1)) + 1), (upd ((mPl f L ta 1 1 ((rNx f L P), (upd g (ta + 0) 1), wr)).2.2.1) (ta + 0) 2), ((mPl f L ta 1 1 ((rNx f L P), (upd g (ta + 0) 1), wr)).2.2.2))).2.2.1) ((mPl f L ta 3 4 (((rNx f L ((mPl f L ta 1 1 ((rNx f L P), (upd g (ta + 0) 1), wr)).2.1)) + 1), (upd ((mPl f L ta 1 1 ((rNx f L P), (upd g (ta + 0) 1), wr)).2.2.1) (ta + 0) 2), ((mPl f L ta 1 1 ((rNx f L P), (upd g (ta + 0) 1), wr)).2.2.2))).2.2.2) ta 1 3 1 hf hL hL2 hta (by decide) (by decide)) miX9_sorts k_810 (by decide) hl.1 rfl (Nat.le_of_ble_eq_true rfl) dX9_takesTerm_130 (fun H locs N => ?_)
            refine lv_aload_n hx hb dX9_takesTerm_133 rfl (lv_at hl 0 rfl) ?_
            refine gm_0_read F N k_689 dX9_takesTerm_134 ?_
            refine lv_iload_n hx hb dX9_takesTerm_137 rfl (lv_at hl 1 rfl) ?_
            refine lv_iconst (v := 2) hx hb dX9_takesTerm_138 (by decide) ?_
            refine lv_iconst (v := 4) hx hb dX9_takesTerm_139 (by decide) ?_
            refine lv_iconst (v := 2) hx hb dX9_takesTerm_140 (by decide) ?_
            refine cS_v F N (c_X9_sorts l G ad ex st f L ((mPl f L ta 3 4 (((rNx f L ((mPl f L ta 1 1 ((rNx f L P), (upd g (ta + 0) 1), wr)).2.1)) + 1), (upd ((mPl f L ta 1 1 ((rNx f L P), (upd g (ta + 0) 1), wr)).2.2.1) (ta + 0) 2), ((mPl f L ta 1 1 ((rNx f L P), (upd g (ta + 0) 1), wr)).2.2.2))).2.1) (mSort ((mPl f L ta 3 4 (((rNx f L ((mPl f L ta 1 1 ((rNx f L P), (upd g (ta + 0) 1), wr)).2.1)) + 1), (upd ((mPl f L ta 1 1 ((rNx f L P), (upd g (ta + 0) 1), wr)).2.2.1) (ta + 0) 2), ((mPl f L ta 1 1 ((rNx f L P), (upd g (ta + 0) 1), wr)).2.2.2))).2.2.1) ta 1 3 1) ((mPl f L ta 3 4 (((rNx f L ((mPl f L ta 1 1 ((rNx f L P), (upd g (ta + 0) 1), wr)).2.1)) + 1), (upd ((mPl f L ta 1 1 ((rNx f L P), (upd g (ta + 0) 1), wr)).2.2.1) (ta + 0) 2), ((mPl f L ta 1 1 ((rNx f L P), (upd g (ta + 0) 1), wr)).2.2.2))).2.2.2) ta 2 4 2 hf hL hL2 hta (by decide) (by decide)) miX9_sorts k_810 (by decide) hl.1 rfl (Nat.le_of_ble_eq_true rfl) dX9_takesTerm_141 (fun H locs N => ?_)
            refine lv_iconst (v := 1) hx hb dX9_takesTerm_144 (by decide) ?_
            exact hret _ _ _ _ _ _ dX9_takesTerm_145 (by simp only [bI, mTerm, mTermB, c_12, c_44, c_69, c_86, c_117, Bool.false_eq_true, if_true, if_false, eq_self]) (by simp only [mTerm, mTermB, c_12, c_44, c_69, c_86, c_117, Bool.false_eq_true, if_true, if_false, eq_self]) N
          · refine lv_iconst (v := 0) hx hb dX9_takesTerm_120 (by decide) ?_
            exact hret _ _ _ _ _ _ dX9_takesTerm_121 (by simp only [bI, mTerm, mTermB, c_12, c_44, c_69, c_86, c_117, Bool.false_eq_true, if_true, if_false, eq_self]) (by simp only [mTerm, mTermB, c_12, c_44, c_69, c_86, c_117, Bool.false_eq_true, if_true, if_false, eq_self]) N
        · refine lv_iconst (v := 1) hx hb dX9_takesTerm_89 (by decide) ?_
          exact hret _ _ _ _ _ _ dX9_takesTerm_90 (by simp only [bI, mTerm, mTermB, c_12, c_44, c_69, c_86, Bool.false_eq_true, if_true, if_false, eq_self]) (by simp only [mTerm, mTermB, c_12, c_44, c_69, c_86, Bool.false_eq_true, if_true, if_false, eq_self]) N
      · refine lv_iconst (v := 0) hx hb dX9_takesTerm_72 (by decide) ?_
        exact hret _ _ _ _ _ _ dX9_takesTerm_73 (by simp only [bI, mTerm, mTermB, c_12, c_44, c_69, Bool.false_eq_true, if_true, if_false, eq_self]) (by simp only [mTerm, mTermB, c_12, c_44, c_69, Bool.false_eq_true, if_true, if_false, eq_self]) N
    · refine lv_aload_n hx hb dX9_takesTerm_47 rfl (lv_at hl 0 rfl) ?_
      refine lv_iload_n hx hb dX9_takesTerm_48 rfl (lv_at hl 1 rfl) ?_
      refine cV_i F N (c_X9_takesNumber l G ad ex st f L (rNx f L P) g wr ta hf hL hL2 (rNx_le hP2) hta) miX9_takesNumber k_794 (by decide) hl.1 rfl (Nat.le_of_ble_eq_true rfl) (q0 := 0) (ci := 8) rfl rfl dX9_takesTerm_49 (fun H locs N => ?_)
      exact hret _ _ _ _ _ _ dX9_takesTerm_52 (by simp only [bI, mTerm, mTermB, c_12, c_44, Bool.false_eq_true, if_true, if_false, eq_self]) (by simp only [mTerm, mTermB, c_12, c_44, Bool.false_eq_true, if_true, if_false, eq_self]) N
  · refine lv_aload_n hx hb dX9_takesTerm_15 rfl (lv_at hl 0 rfl) ?_
    refine gm_0_read F N k_689 dX9_takesTerm_16 ?_
    refine lv_iload_n hx hb dX9_takesTerm_19 rfl (lv_at hl 1 rfl) ?_
    refine lv_iconst (v := 0) hx hb dX9_takesTerm_20 (by decide) ?_
    refine iaddN (a := ta) (b := 0) hx hb dX9_takesTerm_21 ?_
    refine lv_iconst (v := 3) hx hb dX9_takesTerm_22 (by decide) ?_
    refine smN_5 (j := (ta + 0)) F N (by omega) dX9_takesTerm_23 (fun st_23 est_23 H locs N => ?_)
    replace N := eqM N (est_23.trans (mS_5 st (rNx f L P) g wr (upd g (ta + 0) 3)))
    refine lv_aload_n hx hb dX9_takesTerm_24 rfl (lv_at hl 0 rfl) ?_
    refine lv_dup hx hb dX9_takesTerm_25 rfl ?_
    refine gm_0_spot F N k_690 dX9_takesTerm_26 ?_
    refine toN (a := rNx f L P) rfl ?_
    refine lv_iconst (v := 1) hx hb dX9_takesTerm_29 (by decide) ?_
    refine iaddN (a := (rNx f L P)) (b := 1) hx hb dX9_takesTerm_30 ?_
    refine pm_0_spot F N k_690 dX9_takesTerm_31 (fun st_31 est_31 H locs N => ?_)
    replace N := eqM N (est_31.trans (mS_2 st (rNx f L P) (upd g (ta + 0) 3) wr ((rNx f L P) + 1)))
    refine lv_iconst (v := 1) hx hb dX9_takesTerm_34 (by decide) ?_
    exact hret _ _ _ _ _ _ dX9_takesTerm_35 (by simp only [bI, mTerm, mTermB, c_12, Bool.false_eq_true, if_true, if_false, eq_self]) (by simp only [mTerm, mTermB, c_12, Bool.false_eq_true, if_true, if_false, eq_self]) N
set_option maxHeartbeats 4000000 in
set_option maxRecDepth 100000 in
theorem c_X9_isRead (l : Launch) (G : GM) (ad : Nat → Nat) (ex : va_W) (st : ST) (f : Nat → Int32) (L : Nat) (P : Nat) (g : Nat → Int32) (wr : Int32) (hf : st.2.1 4 = f) (hL : st.1 1 = nI L) (hL2 : L ≤ 60) : MMi l G yX9_isRead cX9_isRead 2 (some .boolean) 5 [.ref (ad 0)] ad ex (mS st (P, g, wr)) (bI ((mRdL f L 4 0 true (0, zr g, wr)).1)) (mS st ((mRdL f L 4 0 true (0, zr g, wr)).2.1, (mRdL f L 4 0 true (0, zr g, wr)).2.2.1, (mRdL f L 4 0 true (0, zr g, wr)).2.2.2)) := by
  refine xi_start (by decide) (nar_bI _) (Nat.le_of_ble_eq_true rfl) ?_
  intro zp ze zs zm zargs zbelow zmeth zc zQ ls F N hl hret
  have hx := F.1
  have hb := F.2.1
  have hl : lv_has ls 2 [(0, .ref (ad 0))] := hl
  refine lv_iconst (v := 0) hx hb dX9_isRead_0 (by decide) ?_
  refine lv_istore_n (lv' := [(1, .int 0), (0, .ref (ad 0))]) hx hb dX9_isRead_1 rfl hl (by decide) rfl (fun ls hl => ?_)
  have cut_2 : ∀ (k : Nat) (i : Nat) (g2 : Nat → Int32), i + k = 25 → lp (fun i g => upd g i 0) k i g2 = zr g → ∀ (H : Heap) (locs : List Loc) (ls : Array Slot), Now G zs (MW G ad (mS st (P, g2, wr)) ++ ex) H locs → lv_has ls 2 [(0, .ref (ad 0)), (1, .int (nI i))] → W zp l ze (RM 5) zs zm zargs zbelow zmeth zc H locs 0 0 zQ (F0 zm 2 ls []) := by
    intro k
    induction k with
    | zero =>
      intro i g2 hk hI H locs ls N hl
      refine lv_iload_n hx hb dX9_isRead_2 rfl (lv_at hl 1 rfl) ?_
      refine lv_bipush (v := 25) hx hb dX9_isRead_3 (by decide) ?_
      refine cmpN_ge (a := i) (b := 25) (tgt := 21) hx hb dX9_isRead_5 (by decide) (by omega) (by omega) (fun c_5 => ?_) (fun c_5 => ?_)
      · have c_5v := Nat.not_lt.mpr c_5
        refine lv_aload_n hx hb dX9_isRead_21 rfl (lv_at hl 0 rfl) ?_
        refine lv_iconst (v := 0) hx hb dX9_isRead_22 (by decide) ?_
        refine pm_0_spot F N k_690 dX9_isRead_23 (fun st_23 est_23 H locs N => ?_)
        replace N := eqM N (est_23.trans (mS_2 st P g2 wr 0))
        refine lv_iconst (v := 1) hx hb dX9_isRead_26 (by decide) ?_
        refine lv_istore_n (lv' := [(1, .int 1), (0, .ref (ad 0))]) hx hb dX9_isRead_27 rfl hl (by decide) rfl (fun ls hl => ?_)
        have cut_28 : ∀ (k : Nat) (n : Nat) (more : Bool) (q : Nat) (g3 : Nat → Int32) (w3 : Int32), n + k = 4 → q ≤ L → g3 0 = nI n → mRdL f L k n more (q, g3, w3) = mRdL f L 4 0 true (0, zr g, wr) → ∀ (H : Heap) (locs : List Loc) (ls : Array Slot), Now G zs (MW G ad (mS st (q, g3, w3)) ++ ex) H locs → lv_has ls 2 [(0, .ref (ad 0)), (1, .int (bI more))] → W zp l ze (RM 5) zs zm zargs zbelow zmeth zc H locs 0 0 zQ (F0 zm 28 ls []) := by
          intro k
          induction k with
          | zero =>
            intro n more q g3 w3 hk hq h0 hJ H locs ls N hl
            refine lv_iload_n hx hb dX9_isRead_28 rfl (lv_at hl 1 rfl) ?_
            refine ifB_eq (tgt := 118) hx hb dX9_isRead_29 (by decide) (fun c_29 => ?_) (fun c_29 => ?_)
            · refine lv_aload_n hx hb dX9_isRead_118 rfl (lv_at hl 0 rfl) ?_
              refine gm_0_spot F N k_690 dX9_isRead_119 ?_
              refine toN (a := q) rfl ?_
              refine lv_aload_n hx hb dX9_isRead_122 rfl (lv_at hl 0 rfl) ?_
              refine gm_0_bytes F N k_688 dX9_isRead_123 ?_
              refine toN (a := L) hL ?_
              refine cmpN_eq (a := q) (b := L) (tgt := 136) hx hb dX9_isRead_126 (by decide) (by omega) (by omega) (fun c_126 => ?_) (fun c_126 => ?_)
              · refine lv_iconst (v := 1) hx hb dX9_isRead_136 (by decide) ?_
                refine lv_goto (tgt := 141) hx hb dX9_isRead_137 (by decide) ?_
                exact hret _ _ _ _ _ _ dX9_isRead_141 (by rw [← hJ]; subst c_29; simp [mRdL, c_126, bI]) (by rw [← hJ]; subst c_29; simp [mRdL, c_126]) N
              · refine lv_aload_n hx hb dX9_isRead_129 rfl (lv_at hl 0 rfl) ?_
                refine cV_i F N (c_X9_fails l G ad ex st f L q g3 w3 hf hL hL2 hq) miX9_fails k_798 (by decide) hl.1 rfl (Nat.le_of_ble_eq_true rfl) (q0 := 0) (ci := 8) rfl rfl dX9_isRead_130 (fun H locs N => ?_)
                refine lv_if_eq (tgt := 140) hx hb dX9_isRead_133 (by decide) (fun c_133 => ?_) (fun c_133 => ?_)
                rotate_left
                · first | exact absurd (by decide) c_133 | exact absurd c_133 (by decide)
                refine lv_iconst (v := 0) hx hb dX9_isRead_140 (by decide) ?_
                exact hret _ _ _ _ _ _ dX9_isRead_141 (by rw [← hJ]; subst c_29; simp [mRdL, c_126, bI]) (by rw [← hJ]; subst c_29; simp [mRdL, c_126]) N
            · refine lv_aload_n hx hb dX9_isRead_32 rfl (lv_at hl 0 rfl) ?_
              refine cV_v F N (c_X9_blanks l G ad ex st f L q g3 w3 hf hL hL2 hq) miX9_blanks k_782 (by decide) hl.1 rfl (Nat.le_of_ble_eq_true rfl) (q0 := 0) (ci := 8) rfl rfl dX9_isRead_33 (fun H locs N => ?_)
              refine lv_aload_n hx hb dX9_isRead_36 rfl (lv_at hl 0 rfl) ?_
              refine gm_0_read F N k_689 dX9_isRead_37 ?_
              refine lv_iconst (v := 0) hx hb dX9_isRead_40 (by decide) ?_
              refine amN_5 (j := 0) F N (by omega) dX9_isRead_41 ?_
              refine toI (y := g3 0) rfl ?_
              refine toN (a := n) h0 ?_
              refine lv_iconst (v := 4) hx hb dX9_isRead_42 (by decide) ?_
              refine cmpN_eq (a := n) (b := 4) (tgt := 64) hx hb dX9_isRead_43 (by decide) (by omega) (by omega) (fun c_43 => ?_) (fun c_43 => ?_)
              · refine lv_aload_n hx hb dX9_isRead_64 rfl (lv_at hl 0 rfl) ?_
                refine lv_aload_n hx hb dX9_isRead_65 rfl (lv_at hl 0 rfl) ?_
                refine gm_0_spot F N k_690 dX9_isRead_66 ?_
                refine toN (a := rNx f L q) rfl ?_
                refine pm_0_wrongAt F N k_691 dX9_isRead_69 (fun st_69 est_69 H locs N => ?_)
                replace N := eqM N (est_69.trans (mS_3 st (rNx f L q) g3 w3 (nI (rNx f L q))))
                refine lv_iconst (v := 0) hx hb dX9_isRead_72 (by decide) ?_
                exact hret _ _ _ _ _ _ dX9_isRead_73 (by rw [← hJ]; subst c_29; first | rfl | (rw [mRdL, if_neg (by rw [c_61]; decide)]; rfl)) (by rw [← hJ]; subst c_29; first | rfl | (rw [mRdL, if_neg (by rw [c_61]; decide)])) N
              · exfalso; omega
          | succ k ih_28 =>
            intro n more q g3 w3 hk hq h0 hJ H locs ls N hl
            refine lv_iload_n hx hb dX9_isRead_28 rfl (lv_at hl 1 rfl) ?_
            refine ifB_eq (tgt := 118) hx hb dX9_isRead_29 (by decide) (fun c_29 => ?_) (fun c_29 => ?_)
            · refine lv_aload_n hx hb dX9_isRead_118 rfl (lv_at hl 0 rfl) ?_
              refine gm_0_spot F N k_690 dX9_isRead_119 ?_
              refine toN (a := q) rfl ?_
              refine lv_aload_n hx hb dX9_isRead_122 rfl (lv_at hl 0 rfl) ?_
              refine gm_0_bytes F N k_688 dX9_isRead_123 ?_
              refine toN (a := L) hL ?_
              refine cmpN_eq (a := q) (b := L) (tgt := 136) hx hb dX9_isRead_126 (by decide) (by omega) (by omega) (fun c_126 => ?_) (fun c_126 => ?_)
              · refine lv_iconst (v := 1) hx hb dX9_isRead_136 (by decide) ?_
                refine lv_goto (tgt := 141) hx hb dX9_isRead_137 (by decide) ?_
                exact hret _ _ _ _ _ _ dX9_isRead_141 (by rw [← hJ]; subst c_29; simp [mRdL, c_126, bI]) (by rw [← hJ]; subst c_29; simp [mRdL, c_126]) N
              · refine lv_aload_n hx hb dX9_isRead_129 rfl (lv_at hl 0 rfl) ?_
                refine cV_i F N (c_X9_fails l G ad ex st f L q g3 w3 hf hL hL2 hq) miX9_fails k_798 (by decide) hl.1 rfl (Nat.le_of_ble_eq_true rfl) (q0 := 0) (ci := 8) rfl rfl dX9_isRead_130 (fun H locs N => ?_)
                refine lv_if_eq (tgt := 140) hx hb dX9_isRead_133 (by decide) (fun c_133 => ?_) (fun c_133 => ?_)
                rotate_left
                · first | exact absurd (by decide) c_133 | exact absurd c_133 (by decide)
                refine lv_iconst (v := 0) hx hb dX9_isRead_140 (by decide) ?_
                exact hret _ _ _ _ _ _ dX9_isRead_141 (by rw [← hJ]; subst c_29; simp [mRdL, c_126, bI]) (by rw [← hJ]; subst c_29; simp [mRdL, c_126]) N
            · refine lv_aload_n hx hb dX9_isRead_32 rfl (lv_at hl 0 rfl) ?_
              refine cV_v F N (c_X9_blanks l G ad ex st f L q g3 w3 hf hL hL2 hq) miX9_blanks k_782 (by decide) hl.1 rfl (Nat.le_of_ble_eq_true rfl) (q0 := 0) (ci := 8) rfl rfl dX9_isRead_33 (fun H locs N => ?_)
              refine lv_aload_n hx hb dX9_isRead_36 rfl (lv_at hl 0 rfl) ?_
              refine gm_0_read F N k_689 dX9_isRead_37 ?_
              refine lv_iconst (v := 0) hx hb dX9_isRead_40 (by decide) ?_
              refine amN_5 (j := 0) F N (by omega) dX9_isRead_41 ?_
              refine toI (y := g3 0) rfl ?_
              refine toN (a := n) h0 ?_
              refine lv_iconst (v := 4) hx hb dX9_isRead_42 (by decide) ?_
              refine cmpN_eq (a := n) (b := 4) (tgt := 64) hx hb dX9_isRead_43 (by decide) (by omega) (by omega) (fun c_43 => ?_) (fun c_43 => ?_)
              · exfalso; omega
              · refine lv_aload_n hx hb dX9_isRead_46 rfl (lv_at hl 0 rfl) ?_
                refine lv_iconst (v := 1) hx hb dX9_isRead_47 (by decide) ?_
                refine lv_bipush (v := 6) hx hb dX9_isRead_48 (by decide) ?_
                refine lv_aload_n hx hb dX9_isRead_50 rfl (lv_at hl 0 rfl) ?_
                refine gm_0_read F N k_689 dX9_isRead_51 ?_
                refine lv_iconst (v := 0) hx hb dX9_isRead_54 (by decide) ?_
                refine amN_5 (j := 0) F N (by omega) dX9_isRead_55 ?_
                refine toI (y := g3 0) rfl ?_
                refine toN (a := n) h0 ?_
                refine imulN (a := 6) (b := n) hx hb dX9_isRead_56 ?_
                refine iaddN (a := 1) (b := (6 * n)) hx hb dX9_isRead_57 ?_
                refine cV_i F N (c_X9_takesTerm l G ad ex st f L (rNx f L q) g3 w3 (1 + (6 * n)) hf hL hL2 (rNx_le hq) (by omega)) miX9_takesTerm k_786 (by decide) hl.1 rfl (Nat.le_of_ble_eq_true rfl) (q0 := 0) (ci := 8) rfl rfl dX9_isRead_58 (fun H locs N => ?_)
                refine ifB_ne (tgt := 74) hx hb dX9_isRead_61 (by decide) (fun c_61 => ?_) (fun c_61 => ?_)
                · refine lv_aload_n hx hb dX9_isRead_74 rfl (lv_at hl 0 rfl) ?_
                  refine gm_0_read F N k_689 dX9_isRead_75 ?_
                  refine lv_iconst (v := 0) hx hb dX9_isRead_78 (by decide) ?_
                  refine lv_dup2_11 hx hb dX9_isRead_79 rfl rfl ?_
                  refine amN_5 (j := 0) F N (by omega) dX9_isRead_80 ?_
                  refine toI (y := ((mTerm f L (1 + (6 * n)) ((rNx f L q), g3, w3)).2.2.1) 0) rfl ?_
                  refine toN (a := n) ((mTerm_0 (by omega)).trans h0) ?_
                  refine lv_iconst (v := 1) hx hb dX9_isRead_81 (by decide) ?_
                  refine iaddN (a := n) (b := 1) hx hb dX9_isRead_82 ?_
                  refine smN_5 (j := 0) F N (by omega) dX9_isRead_83 (fun st_83 est_83 H locs N => ?_)
                  replace N := eqM N (est_83.trans (mS_5 st ((mTerm f L (1 + (6 * n)) ((rNx f L q), g3, w3)).2.1) ((mTerm f L (1 + (6 * n)) ((rNx f L q), g3, w3)).2.2.1) ((mTerm f L (1 + (6 * n)) ((rNx f L q), g3, w3)).2.2.2) (upd ((mTerm f L (1 + (6 * n)) ((rNx f L q), g3, w3)).2.2.1) 0 (nI (n + 1)))))
                  refine lv_aload_n hx hb dX9_isRead_84 rfl (lv_at hl 0 rfl) ?_
                  refine cV_v F N (c_X9_blanks l G ad ex st f L ((mTerm f L (1 + (6 * n)) ((rNx f L q), g3, w3)).2.1) (upd ((mTerm f L (1 + (6 * n)) ((rNx f L q), g3, w3)).2.2.1) 0 (nI (n + 1))) ((mTerm f L (1 + (6 * n)) ((rNx f L q), g3, w3)).2.2.2) hf hL hL2 (mTerm_le (rNx_le hq))) miX9_blanks k_782 (by decide) hl.1 rfl (Nat.le_of_ble_eq_true rfl) (q0 := 0) (ci := 8) rfl rfl dX9_isRead_85 (fun H locs N => ?_)
                  refine lv_aload_n hx hb dX9_isRead_88 rfl (lv_at hl 0 rfl) ?_
                  refine lv_bipush (v := 43) hx hb dX9_isRead_89 (by decide) ?_
                  refine lv_bipush (v := 43) hx hb dX9_isRead_91 (by decide) ?_
                  refine cV_i F N (c_X9_isAt l G ad ex st f L (rNx f L ((mTerm f L (1 + (6 * n)) ((rNx f L q), g3, w3)).2.1)) (upd ((mTerm f L (1 + (6 * n)) ((rNx f L q), g3, w3)).2.2.1) 0 (nI (n + 1))) ((mTerm f L (1 + (6 * n)) ((rNx f L q), g3, w3)).2.2.2) 43 43 hf hL hL2 (rNx_le (mTerm_le (rNx_le hq)))) miX9_isAt k_790 (by decide) hl.1 rfl (Nat.le_of_ble_eq_true rfl) (q0 := 0) (ci := 8) rfl rfl dX9_isRead_93 (fun H locs N => ?_)
                  refine lv_istore_n (lv' := [(1, .int (bI (mAt f L (rNx f L ((mTerm f L (1 + (6 * n)) ((rNx f L q), g3, w3)).2.1)) (43 : Int32) (43 : Int32)))), (0, .ref (ad 0))]) hx hb dX9_isRead_96 rfl hl (by decide) rfl (fun ls hl => ?_)
                  refine lv_aload_n hx hb dX9_isRead_97 rfl (lv_at hl 1 rfl) ?_
                  refine lv_dup hx hb dX9_isRead_98 rfl ?_
                  refine gm_0_spot F N k_690 dX9_isRead_99 ?_
                  refine toN (a := rNx f L ((mTerm f L (1 + (6 * n)) ((rNx f L q), g3, w3)).2.1)) rfl ?_
                  refine lv_iload_n hx hb dX9_isRead_102 rfl (lv_at hl 0 rfl) ?_
                  refine ifB_eq (tgt := 110) hx hb dX9_isRead_103 (by decide) (fun c_103 => ?_) (fun c_103 => ?_)
                  · refine lv_iconst (v := 0) hx hb dX9_isRead_110 (by decide) ?_
                    refine iaddN (a := (rNx f L ((mTerm f L (1 + (6 * n)) ((rNx f L q), g3, w3)).2.1))) (b := 0) hx hb dX9_isRead_111 ?_
                    refine pm_0_spot F N k_690 dX9_isRead_112 (fun st_112 est_112 H locs N => ?_)
                    replace N := eqM N (est_112.trans (mS_2 st (rNx f L ((mTerm f L (1 + (6 * n)) ((rNx f L q), g3, w3)).2.1)) (upd ((mTerm f L (1 + (6 * n)) ((rNx f L q), g3, w3)).2.2.1) 0 (nI (n + 1))) ((mTerm f L (1 + (6 * n)) ((rNx f L q), g3, w3)).2.2.2) ((rNx f L ((mTerm f L (1 + (6 * n)) ((rNx f L q), g3, w3)).2.1)) + 0)))
                    refine lv_goto (tgt := 28) hx hb dX9_isRead_115 (by decide) ?_
                    exact ih_28 (n + 1) (mAt f L (rNx f L ((mTerm f L (1 + (6 * n)) ((rNx f L q), g3, w3)).2.1)) (43 : Int32) (43 : Int32)) ((rNx f L ((mTerm f L (1 + (6 * n)) ((rNx f L q), g3, w3)).2.1)) + 0) (upd ((mTerm f L (1 + (6 * n)) ((rNx f L q), g3, w3)).2.2.1) 0 (nI (n + 1))) ((mTerm f L (1 + (6 * n)) ((rNx f L q), g3, w3)).2.2.2) (by omega) (by first | exact mAt_lt c_103 | exact rNx_le (mTerm_le (rNx_le hq))) (upd_same _ _ _) (by subst c_29; rw [← hJ, mRdL, if_pos c_61]; simp [c_103]) _ _ _ N (lv_sub hl [1, 0] rfl)
                  · refine lv_iconst (v := 1) hx hb dX9_isRead_106 (by decide) ?_
                    refine lv_goto (tgt := 111) hx hb dX9_isRead_107 (by decide) ?_
                    refine iaddN (a := (rNx f L ((mTerm f L (1 + (6 * n)) ((rNx f L q), g3, w3)).2.1))) (b := 1) hx hb dX9_isRead_111 ?_
                    refine pm_0_spot F N k_690 dX9_isRead_112 (fun st_112 est_112 H locs N => ?_)
                    replace N := eqM N (est_112.trans (mS_2 st (rNx f L ((mTerm f L (1 + (6 * n)) ((rNx f L q), g3, w3)).2.1)) (upd ((mTerm f L (1 + (6 * n)) ((rNx f L q), g3, w3)).2.2.1) 0 (nI (n + 1))) ((mTerm f L (1 + (6 * n)) ((rNx f L q), g3, w3)).2.2.2) ((rNx f L ((mTerm f L (1 + (6 * n)) ((rNx f L q), g3, w3)).2.1)) + 1)))
                    refine lv_goto (tgt := 28) hx hb dX9_isRead_115 (by decide) ?_
                    exact ih_28 (n + 1) (mAt f L (rNx f L ((mTerm f L (1 + (6 * n)) ((rNx f L q), g3, w3)).2.1)) (43 : Int32) (43 : Int32)) ((rNx f L ((mTerm f L (1 + (6 * n)) ((rNx f L q), g3, w3)).2.1)) + 1) (upd ((mTerm f L (1 + (6 * n)) ((rNx f L q), g3, w3)).2.2.1) 0 (nI (n + 1))) ((mTerm f L (1 + (6 * n)) ((rNx f L q), g3, w3)).2.2.2) (by omega) (by first | exact mAt_lt c_103 | exact rNx_le (mTerm_le (rNx_le hq))) (upd_same _ _ _) (by subst c_29; rw [← hJ, mRdL, if_pos c_61]; simp [c_103]) _ _ _ N (lv_sub hl [1, 0] rfl)
                · refine lv_aload_n hx hb dX9_isRead_64 rfl (lv_at hl 0 rfl) ?_
                  refine lv_aload_n hx hb dX9_isRead_65 rfl (lv_at hl 0 rfl) ?_
                  refine gm_0_spot F N k_690 dX9_isRead_66 ?_
                  refine toN (a := (mTerm f L (1 + (6 * n)) ((rNx f L q), g3, w3)).2.1) rfl ?_
                  refine pm_0_wrongAt F N k_691 dX9_isRead_69 (fun st_69 est_69 H locs N => ?_)
                  replace N := eqM N (est_69.trans (mS_3 st ((mTerm f L (1 + (6 * n)) ((rNx f L q), g3, w3)).2.1) ((mTerm f L (1 + (6 * n)) ((rNx f L q), g3, w3)).2.2.1) ((mTerm f L (1 + (6 * n)) ((rNx f L q), g3, w3)).2.2.2) (nI ((mTerm f L (1 + (6 * n)) ((rNx f L q), g3, w3)).2.1))))
                  refine lv_iconst (v := 0) hx hb dX9_isRead_72 (by decide) ?_
                  exact hret _ _ _ _ _ _ dX9_isRead_73 (by rw [← hJ]; subst c_29; first | rfl | (rw [mRdL, if_neg (by rw [c_61]; decide)]; rfl)) (by rw [← hJ]; subst c_29; first | rfl | (rw [mRdL, if_neg (by rw [c_61]; decide)])) N
        exact cut_28 4 0 true 0 g2 wr (by omega) (by omega) (by rw [show g2 = zr g from hI, zr_0]; rfl) (by rw [show g2 = zr g from hI]) _ _ _ N (lv_sub hl [1, 0] rfl)
      · exfalso; omega
    | succ k ih_2 =>
      intro i g2 hk hI H locs ls N hl
      refine lv_iload_n hx hb dX9_isRead_2 rfl (lv_at hl 1 rfl) ?_
      refine lv_bipush (v := 25) hx hb dX9_isRead_3 (by decide) ?_
      refine cmpN_ge (a := i) (b := 25) (tgt := 21) hx hb dX9_isRead_5 (by decide) (by omega) (by omega) (fun c_5 => ?_) (fun c_5 => ?_)
      · exfalso; omega
      · have c_5v := Nat.not_le.mp c_5
        refine lv_aload_n hx hb dX9_isRead_8 rfl (lv_at hl 0 rfl) ?_
        refine gm_0_read F N k_689 dX9_isRead_9 ?_
        refine lv_iload_n hx hb dX9_isRead_12 rfl (lv_at hl 1 rfl) ?_
        refine lv_iconst (v := 0) hx hb dX9_isRead_13 (by decide) ?_
        refine smN_5 (j := i) F N (by omega) dX9_isRead_14 (fun st_14 est_14 H locs N => ?_)
        replace N := eqM N (est_14.trans (mS_5 st P g2 wr (upd g2 i 0)))
        refine lv_iinc (v := (nI (i + 1))) (lv' := [(1, .int (nI (i + 1))), (0, .ref (ad 0))]) hx hb dX9_isRead_15 hl (k := 1) rfl (nI_1 i) (by decide) rfl (fun ls hl => ?_)
        refine lv_goto (tgt := 2) hx hb dX9_isRead_18 (by decide) ?_
        exact ih_2 (i + 1) (upd g2 i 0) (by omega) hI _ _ _ N (lv_sub hl [1, 0] rfl)
  exact cut_2 25 0 g (by omega) rfl _ _ _ N (lv_sub hl [1, 0] rfl)
def mRd (st : ST) (f : Nat → Int32) (L : Nat) : Bool × RS := mRdL f L 4 0 true (0, zr (st.2.1 5), st.1 3)
theorem c_X9_isRead_st (l : Launch) (G : GM) (ad : Nat → Nat) (ex : va_W) (st : ST) (f : Nat → Int32) (L : Nat) (hf : st.2.1 4 = f) (hL : st.1 1 = nI L) (hL2 : L ≤ 60) : MMi l G yX9_isRead cX9_isRead 2 (some .boolean) 5 [.ref (ad 0)] ad ex st (bI (mRd st f L).1) (mS st (mRd st f L).2) := by
  obtain ⟨n, hn⟩ := i32_nI (st.1 2)
  have h := c_X9_isRead l G ad ex st f L n (st.2.1 5) (st.1 3) hf hL hL2
  rw [mS_self hn rfl rfl] at h
  exact h
