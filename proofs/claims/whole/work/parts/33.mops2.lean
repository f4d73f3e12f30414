def mLi (g : Nat → Int32) (ta c r wd ht : Nat) : Bool :=
  !decide (g (ta + 1) < nI c) && (!decide (nI (c + wd) ≤ (if g (ta + 0) = 2 then g (ta + 3) else g (ta + 1))) && (!decide (g (ta + 2) < nI r) && !decide (nI (r + ht) ≤ (if g (ta + 0) = 2 then g (ta + 4) else g (ta + 2)))))
def mPu2 (g : Nat → Int32) (ta : Nat) (ac dn : Int32) : Nat → Int32 := upd (upd g (ta + 1) (g (ta + 1) + ac)) (ta + 2) (upd g (ta + 1) (g (ta + 1) + ac) (ta + 2) + dn)
def mPu4 (g : Nat → Int32) (ta : Nat) (ac dn : Int32) : Nat → Int32 := upd (upd g (ta + 3) (g (ta + 3) + ac)) (ta + 4) (upd g (ta + 3) (g (ta + 3) + ac) (ta + 4) + dn)
def mPu (g : Nat → Int32) (ta : Nat) (ac dn : Int32) : Nat → Int32 := if mPu2 g ta ac dn (ta + 0) = 2 then mPu4 (mPu2 g ta ac dn) ta ac dn else mPu2 g ta ac dn
def mGoD (f b v : Int32) : Int32 := if f &&& b = 0 then v else 0
def mGo2 (g : Nat → Int32) (ta : Nat) (ac dn : Int32) : Nat → Int32 := mPu2 g ta (mGoD (g (ta + 5)) 1 ac) (mGoD (g (ta + 5)) 2 dn)
def mGo4 (g2 : Nat → Int32) (ta : Nat) (f ac dn : Int32) : Nat → Int32 := mPu4 g2 ta (mGoD f 4 ac) (mGoD f 8 dn)
def mGoW (g : Nat → Int32) (ta : Nat) (ac dn : Int32) : Bool × (Nat → Int32) :=
  if mGo2 g ta ac dn (ta + 0) = 2 then
    (xIsPl (mGo2 g ta ac dn (ta + 1)) (mGo2 g ta ac dn (ta + 2)) && xIsPl (mGo4 (mGo2 g ta ac dn) ta (g (ta + 5)) ac dn (ta + 3)) (mGo4 (mGo2 g ta ac dn) ta (g (ta + 5)) ac dn (ta + 4)), mSort (mSort (mGo4 (mGo2 g ta ac dn) ta (g (ta + 5)) ac dn) ta 1 3 1) ta 2 4 2)
  else (xIsPl (mGo2 g ta ac dn (ta + 1)) (mGo2 g ta ac dn (ta + 2)), mGo2 g ta ac dn)
def mGo (g : Nat → Int32) (ta : Nat) (ac dn : Int32) : Nat → Int32 := if (mGoW g ta ac dn).1 = true then (mGoW g ta ac dn).2 else mBrk (mGoW g ta ac dn).2 ta
theorem mPu2_out {g : Nat → Int32} {ta j : Nat} {ac dn : Int32} (h : j < ta ∨ ta + 6 ≤ j) : mPu2 g ta ac dn j = g j := by
  unfold mPu2
  rw [upd_other _ _ (by omega), upd_other _ _ (by omega)]
theorem mPu4_out {g : Nat → Int32} {ta j : Nat} {ac dn : Int32} (h : j < ta ∨ ta + 6 ≤ j) : mPu4 g ta ac dn j = g j := by
  unfold mPu4
  rw [upd_other _ _ (by omega), upd_other _ _ (by omega)]
theorem mPu_out {g : Nat → Int32} {ta j : Nat} {ac dn : Int32} (h : j < ta ∨ ta + 6 ≤ j) : mPu g ta ac dn j = g j := by
  unfold mPu
  split
  · rw [mPu4_out h, mPu2_out h]
  · exact mPu2_out h
theorem mSort_out {g : Nat → Int32} {ta one two bit j : Nat} (h : j < ta ∨ ta + 6 ≤ j) (h1 : one ≤ 4) (h2 : two ≤ 4) : mSort g ta one two bit j = g j := by
  unfold mSort mSort1
  split
  · rw [upd_other _ _ (by omega), upd_other _ _ (by omega), upd_other _ _ (by omega)]
  · rfl
theorem mGoW_out {g : Nat → Int32} {ta j : Nat} {ac dn : Int32} (h : j < ta ∨ ta + 6 ≤ j) : (mGoW g ta ac dn).2 j = g j := by
  unfold mGoW
  split
  · dsimp only
    rw [mSort_out h (by decide) (by decide), mSort_out h (by decide) (by decide)]
    unfold mGo4 mGo2
    rw [mPu4_out h, mPu2_out h]
  · exact mPu2_out h
theorem mGo_out {g : Nat → Int32} {ta j : Nat} {ac dn : Int32} (h : j < ta ∨ ta + 6 ≤ j) : mGo g ta ac dn j = g j := by
  unfold mGo
  split
  · exact mGoW_out h
  · rw [mBrk_out h, mGoW_out h]
set_option maxHeartbeats 4000000 in
set_option maxRecDepth 100000 in
theorem c_X9_shiftsPlace (l : Launch) (G : GM) (ad : Nat → Nat) (ex : va_W) (st : ST) (g : Nat → Int32) (ta : Nat) (pl : Nat) (a : Int32) (n : Int32) (hta : ta + 6 ≤ 900) (hpl : pl < 4) : MMv l G yX9_shiftsPlace cX9_shiftsPlace 6 none 1 [.ref (ad 0), .int (nI ta), .int (nI pl), .int a, .int n] ad ex (sA st 0 g) (sA st 0 (mShP g ta pl a n)) := by
  refine xv_start (by decide) (Nat.le_of_ble_eq_true rfl) ?_
  intro zp ze zs zm zargs zbelow zmeth zc zQ ls F N hl hret
  have hx := F.1
  have hb := F.2.1
  have hl : lv_has ls 6 [(0, .ref (ad 0)), (1, .int (nI ta)), (2, .int (nI pl)), (3, .int a), (4, .int n)] := hl
  refine lv_aload_n hx hb dX9_shiftsPlace_0 rfl (lv_at hl 0 rfl) ?_
  refine gm_0_now F N k_682 dX9_shiftsPlace_1 ?_
  refine lv_iload_n hx hb dX9_shiftsPlace_4 rfl (lv_at hl 1 rfl) ?_
  refine lv_iload_n hx hb dX9_shiftsPlace_5 rfl (lv_at hl 2 rfl) ?_
  refine iaddN (a := ta) (b := pl) hx hb dX9_shiftsPlace_6 ?_
  refine amN_0 (j := (ta + pl)) F N (by omega) dX9_shiftsPlace_7 ?_
  refine toI (y := g (ta + pl)) rfl ?_
  refine lv_iload_n hx hb dX9_shiftsPlace_8 rfl (lv_at hl 3 rfl) ?_
  refine lv_iload hx hb dX9_shiftsPlace_9 (lv_at hl 4 rfl) ?_
  refine cS_i F N (c_X9_lineBehind l G _ (g (ta + pl)) a n) miX9_lineBehind k_851 (by decide) hl.1 rfl (Nat.le_of_ble_eq_true rfl) dX9_shiftsPlace_11 (fun H locs N => ?_)
  refine lv_istore (lv' := [(5, .int (mLb (g (ta + pl)) a n)), (0, .ref (ad 0)), (1, .int (nI ta)), (2, .int (nI pl)), (3, .int a), (4, .int n)]) hx hb dX9_shiftsPlace_14 hl (by decide) rfl (fun ls hl => ?_)
  refine lv_iload hx hb dX9_shiftsPlace_16 (lv_at hl 0 rfl) ?_
  refine lv_iconst (v := (-1)) hx hb dX9_shiftsPlace_18 (by decide) ?_
  refine lv_icmp_ne (tgt := 30) hx hb dX9_shiftsPlace_19 (by decide) (fun c_19 => ?_) (fun c_19 => ?_)
  · refine lv_aload_n hx hb dX9_shiftsPlace_30 rfl (lv_at hl 1 rfl) ?_
    refine gm_0_now F N k_682 dX9_shiftsPlace_31 ?_
    refine lv_iload_n hx hb dX9_shiftsPlace_34 rfl (lv_at hl 2 rfl) ?_
    refine lv_iload_n hx hb dX9_shiftsPlace_35 rfl (lv_at hl 3 rfl) ?_
    refine iaddN (a := ta) (b := pl) hx hb dX9_shiftsPlace_36 ?_
    refine lv_iload hx hb dX9_shiftsPlace_37 (lv_at hl 0 rfl) ?_
    refine smN_0 (j := (ta + pl)) F N (by omega) dX9_shiftsPlace_39 (fun st_39 est_39 H locs N => ?_)
    replace N := eqM N (est_39.trans (sA_sA st 0 g (upd g (ta + pl) (mLb (g (ta + pl)) a n))))
    exact hret _ _ _ _ _ dX9_shiftsPlace_40 (by first | (rw [mShP, if_pos c_19]) | (rw [mShP, if_neg c_19])) N
  · refine lv_aload_n hx hb dX9_shiftsPlace_22 rfl (lv_at hl 1 rfl) ?_
    refine lv_iload_n hx hb dX9_shiftsPlace_23 rfl (lv_at hl 2 rfl) ?_
    refine cV_v F N (c_X9_breaks l G ad ex st g ta hta) miX9_breaks k_865 (by decide) hl.1 rfl (Nat.le_of_ble_eq_true rfl) (q0 := 0) (ci := 8) rfl rfl dX9_shiftsPlace_24 (fun H locs N => ?_)
    refine lv_goto (tgt := 40) hx hb dX9_shiftsPlace_27 (by decide) ?_
    exact hret _ _ _ _ _ dX9_shiftsPlace_40 (by first | (rw [mShP, if_pos c_19]) | (rw [mShP, if_neg c_19])) N
set_option maxHeartbeats 4000000 in
set_option maxRecDepth 100000 in
theorem c_X9_shiftsBlock (l : Launch) (G : GM) (ad : Nat → Nat) (ex : va_W) (st : ST) (g : Nat → Int32) (ta : Nat) (pl : Nat) (a : Int32) (n : Int32) (hta : ta + 6 ≤ 900) (hpl : pl < 4) : MMv l G yX9_shiftsBlock cX9_shiftsBlock 7 none 1 [.ref (ad 0), .int (nI ta), .int (nI pl), .int a, .int n] ad ex (sA st 0 g) (sA st 0 (mShB g ta pl a n)) := by
  refine xv_start (by decide) (Nat.le_of_ble_eq_true rfl) ?_
  intro zp ze zs zm zargs zbelow zmeth zc zQ ls F N hl hret
  have hx := F.1
  have hb := F.2.1
  have hl : lv_has ls 7 [(0, .ref (ad 0)), (1, .int (nI ta)), (2, .int (nI pl)), (3, .int a), (4, .int n)] := hl
  refine lv_aload_n hx hb dX9_shiftsBlock_0 rfl (lv_at hl 0 rfl) ?_
  refine gm_0_now F N k_682 dX9_shiftsBlock_1 ?_
  refine lv_iload_n hx hb dX9_shiftsBlock_4 rfl (lv_at hl 1 rfl) ?_
  refine lv_iload_n hx hb dX9_shiftsBlock_5 rfl (lv_at hl 2 rfl) ?_
  refine iaddN (a := ta) (b := pl) hx hb dX9_shiftsBlock_6 ?_
  refine amN_0 (j := (ta + pl)) F N (by omega) dX9_shiftsBlock_7 ?_
  refine toI (y := g (ta + pl)) rfl ?_
  refine lv_istore (lv' := [(5, .int (g (ta + pl))), (0, .ref (ad 0)), (1, .int (nI ta)), (2, .int (nI pl)), (3, .int a), (4, .int n)]) hx hb dX9_shiftsBlock_8 hl (by decide) rfl (fun ls hl => ?_)
  refine lv_aload_n hx hb dX9_shiftsBlock_10 rfl (lv_at hl 1 rfl) ?_
  refine gm_0_now F N k_682 dX9_shiftsBlock_11 ?_
  refine lv_iload_n hx hb dX9_shiftsBlock_14 rfl (lv_at hl 2 rfl) ?_
  refine lv_iload_n hx hb dX9_shiftsBlock_15 rfl (lv_at hl 3 rfl) ?_
  refine iaddN (a := ta) (b := pl) hx hb dX9_shiftsBlock_16 ?_
  refine lv_iconst (v := 2) hx hb dX9_shiftsBlock_17 (by decide) ?_
  refine iaddN (a := (ta + pl)) (b := 2) hx hb dX9_shiftsBlock_18 ?_
  refine amN_0 (j := ((ta + pl) + 2)) F N (by omega) dX9_shiftsBlock_19 ?_
  refine toI (y := g ((ta + pl) + 2)) rfl ?_
  refine lv_istore (lv' := [(6, .int (g ((ta + pl) + 2))), (5, .int (g (ta + pl))), (0, .ref (ad 0)), (1, .int (nI ta)), (2, .int (nI pl)), (3, .int a), (4, .int n)]) hx hb dX9_shiftsBlock_20 hl (by decide) rfl (fun ls hl => ?_)
  have cut_142 : ∀ (le : Int32) (mo : Int32), le = mBL (g (ta + pl)) a n → mo = mBM (g (ta + pl + 2)) a n → ∀ (H : Heap) (locs : List Loc) (ls : Array Slot), Now G zs (MW G ad (sA st 0 g) ++ ex) H locs → lv_has ls 7 [(0, .ref (ad 0)), (1, .int (nI ta)), (2, .int (nI pl)), (3, .int a), (4, .int n), (5, .int le), (6, .int mo)] → W zp l ze (RM 1) zs zm zargs zbelow zmeth zc H locs 0 0 zQ (F0 zm 142 ls []) := by
    intro le mo hle hmo H locs ls N hl
    refine lv_iload hx hb dX9_shiftsBlock_142 (lv_at hl 5 rfl) ?_
    refine lv_iconst (v := 5) hx hb dX9_shiftsBlock_144 (by decide) ?_
    refine lv_icmp_gt (tgt := 155) hx hb dX9_shiftsBlock_145 (by decide) (fun c_145 => ?_) (fun c_145 => ?_)
    · have c_145v := lt_nle c_145
      refine lv_aload_n hx hb dX9_shiftsBlock_155 rfl (lv_at hl 0 rfl) ?_
      refine lv_iload_n hx hb dX9_shiftsBlock_156 rfl (lv_at hl 1 rfl) ?_
      refine cV_v F N (c_X9_breaks l G ad ex st g ta hta) miX9_breaks k_865 (by decide) hl.1 rfl (Nat.le_of_ble_eq_true rfl) (q0 := 0) (ci := 8) rfl rfl dX9_shiftsBlock_157 (fun H locs N => ?_)
      refine lv_goto (tgt := 185) hx hb dX9_shiftsBlock_160 (by decide) ?_
      exact hret _ _ _ _ _ dX9_shiftsBlock_185 (by subst hle hmo; first | (rw [mShB, if_pos c_145]) | (rw [mShB, if_neg c_145, if_pos c_152]) | (rw [mShB, if_neg c_145, if_neg c_152])) N
    · have c_145v := nlt_le c_145
      refine lv_iload hx hb dX9_shiftsBlock_148 (lv_at hl 6 rfl) ?_
      refine lv_iload hx hb dX9_shiftsBlock_150 (lv_at hl 5 rfl) ?_
      refine lv_icmp_ge (tgt := 163) hx hb dX9_shiftsBlock_152 (by decide) (fun c_152 => ?_) (fun c_152 => ?_)
      · have c_152v := le_nlt c_152
        refine lv_aload_n hx hb dX9_shiftsBlock_163 rfl (lv_at hl 0 rfl) ?_
        refine gm_0_now F N k_682 dX9_shiftsBlock_164 ?_
        refine lv_iload_n hx hb dX9_shiftsBlock_167 rfl (lv_at hl 1 rfl) ?_
        refine lv_iload_n hx hb dX9_shiftsBlock_168 rfl (lv_at hl 2 rfl) ?_
        refine iaddN (a := ta) (b := pl) hx hb dX9_shiftsBlock_169 ?_
        refine lv_iload hx hb dX9_shiftsBlock_170 (lv_at hl 5 rfl) ?_
        refine smN_0 (j := (ta + pl)) F N (by omega) dX9_shiftsBlock_172 (fun st_172 est_172 H locs N => ?_)
        replace N := eqM N (est_172.trans (sA_sA st 0 g (upd g (ta + pl) le)))
        refine lv_aload_n hx hb dX9_shiftsBlock_173 rfl (lv_at hl 0 rfl) ?_
        refine gm_0_now F N k_682 dX9_shiftsBlock_174 ?_
        refine lv_iload_n hx hb dX9_shiftsBlock_177 rfl (lv_at hl 1 rfl) ?_
        refine lv_iload_n hx hb dX9_shiftsBlock_178 rfl (lv_at hl 2 rfl) ?_
        refine iaddN (a := ta) (b := pl) hx hb dX9_shiftsBlock_179 ?_
        refine lv_iconst (v := 2) hx hb dX9_shiftsBlock_180 (by decide) ?_
        refine iaddN (a := (ta + pl)) (b := 2) hx hb dX9_shiftsBlock_181 ?_
        refine lv_iload hx hb dX9_shiftsBlock_182 (lv_at hl 6 rfl) ?_
        refine smN_0 (j := ((ta + pl) + 2)) F N (by omega) dX9_shiftsBlock_184 (fun st_184 est_184 H locs N => ?_)
        replace N := eqM N (est_184.trans (sA_sA st 0 (upd g (ta + pl) le) (upd (upd g (ta + pl) le) ((ta + pl) + 2) mo)))
        exact hret _ _ _ _ _ dX9_shiftsBlock_185 (by subst hle hmo; first | (rw [mShB, if_pos c_145]) | (rw [mShB, if_neg c_145, if_pos c_152]) | (rw [mShB, if_neg c_145, if_neg c_152])) N
      · have c_152v := nle_lt c_152
        refine lv_aload_n hx hb dX9_shiftsBlock_155 rfl (lv_at hl 0 rfl) ?_
        refine lv_iload_n hx hb dX9_shiftsBlock_156 rfl (lv_at hl 1 rfl) ?_
        refine cV_v F N (c_X9_breaks l G ad ex st g ta hta) miX9_breaks k_865 (by decide) hl.1 rfl (Nat.le_of_ble_eq_true rfl) (q0 := 0) (ci := 8) rfl rfl dX9_shiftsBlock_157 (fun H locs N => ?_)
        refine lv_goto (tgt := 185) hx hb dX9_shiftsBlock_160 (by decide) ?_
        exact hret _ _ _ _ _ dX9_shiftsBlock_185 (by subst hle hmo; first | (rw [mShB, if_pos c_145]) | (rw [mShB, if_neg c_145, if_pos c_152]) | (rw [mShB, if_neg c_145, if_neg c_152])) N
  refine lv_iload hx hb dX9_shiftsBlock_22 (lv_at hl 6 rfl) ?_
  refine lv_if_le (tgt := 78) hx hb dX9_shiftsBlock_24 (by decide) (fun c_24 => ?_) (fun c_24 => ?_)
  · have c_24v := le_nlt c_24
    refine lv_iload hx hb dX9_shiftsBlock_78 (lv_at hl 1 rfl) ?_
    refine lv_iload_n hx hb dX9_shiftsBlock_80 rfl (lv_at hl 5 rfl) ?_
    refine lv_icmp_ge (tgt := 89) hx hb dX9_shiftsBlock_81 (by decide) (fun c_81 => ?_) (fun c_81 => ?_)
    · have c_81v := le_nlt c_81
      refine lv_iload hx hb dX9_shiftsBlock_89 (lv_at hl 1 rfl) ?_
      refine lv_iload_n hx hb dX9_shiftsBlock_91 rfl (lv_at hl 5 rfl) ?_
      refine lv_iload hx hb dX9_shiftsBlock_92 (lv_at hl 6 rfl) ?_
      refine lv_isub hx hb dX9_shiftsBlock_94 ?_
      refine lv_icmp_ge (tgt := 102) hx hb dX9_shiftsBlock_95 (by decide) (fun c_95 => ?_) (fun c_95 => ?_)
      · have c_95v := le_nlt c_95
        refine lv_iload hx hb dX9_shiftsBlock_102 (lv_at hl 1 rfl) ?_
        refine lv_iload hx hb dX9_shiftsBlock_104 (lv_at hl 6 rfl) ?_
        refine lv_iadd hx hb dX9_shiftsBlock_106 ?_
        refine lv_istore (lv' := [(5, .int ((g (ta + pl)) + n)), (6, .int (g ((ta + pl) + 2))), (0, .ref (ad 0)), (1, .int (nI ta)), (2, .int (nI pl)), (3, .int a), (4, .int n)]) hx hb dX9_shiftsBlock_107 hl (by decide) rfl (fun ls hl => ?_)
        refine lv_iload hx hb dX9_shiftsBlock_109 (lv_at hl 1 rfl) ?_
        refine lv_iload_n hx hb dX9_shiftsBlock_111 rfl (lv_at hl 5 rfl) ?_
        refine lv_icmp_ge (tgt := 120) hx hb dX9_shiftsBlock_112 (by decide) (fun c_112 => ?_) (fun c_112 => ?_)
        · have c_112v := le_nlt c_112
          refine lv_iload hx hb dX9_shiftsBlock_120 (lv_at hl 1 rfl) ?_
          refine lv_iload_n hx hb dX9_shiftsBlock_122 rfl (lv_at hl 5 rfl) ?_
          refine lv_iload hx hb dX9_shiftsBlock_123 (lv_at hl 6 rfl) ?_
          refine lv_isub hx hb dX9_shiftsBlock_125 ?_
          refine lv_icmp_ge (tgt := 135) hx hb dX9_shiftsBlock_126 (by decide) (fun c_126 => ?_) (fun c_126 => ?_)
          · have c_126v := le_nlt c_126
            refine lv_iload hx hb dX9_shiftsBlock_135 (lv_at hl 1 rfl) ?_
            refine lv_iload hx hb dX9_shiftsBlock_137 (lv_at hl 6 rfl) ?_
            refine lv_iadd hx hb dX9_shiftsBlock_139 ?_
            refine lv_istore (lv' := [(6, .int ((g ((ta + pl) + 2)) + n)), (5, .int ((g (ta + pl)) + n)), (0, .ref (ad 0)), (1, .int (nI ta)), (2, .int (nI pl)), (3, .int a), (4, .int n)]) hx hb dX9_shiftsBlock_140 hl (by decide) rfl (fun ls hl => ?_)
            exact cut_142 ((g (ta + pl)) + n) ((g ((ta + pl) + 2)) + n) (by simp only [mBL, c_24, c_24v, c_81, c_81v, c_95, c_95v, c_112, c_112v, c_126, c_126v, if_true, if_false]) (by simp only [mBM, mBM0, c_24, c_24v, c_81, c_81v, c_95, c_95v, c_112, c_112v, c_126, c_126v, if_true, if_false]) _ _ _ N (lv_sub hl [2, 3, 4, 5, 6, 1, 0] rfl)
          · have c_126v := nle_lt c_126
            refine lv_iload_n hx hb dX9_shiftsBlock_129 rfl (lv_at hl 5 rfl) ?_
            refine lv_iconst (v := 1) hx hb dX9_shiftsBlock_130 (by decide) ?_
            refine lv_isub hx hb dX9_shiftsBlock_131 ?_
            refine lv_goto (tgt := 140) hx hb dX9_shiftsBlock_132 (by decide) ?_
            refine lv_istore (lv' := [(6, .int (a - (1 : Int32))), (5, .int ((g (ta + pl)) + n)), (0, .ref (ad 0)), (1, .int (nI ta)), (2, .int (nI pl)), (3, .int a), (4, .int n)]) hx hb dX9_shiftsBlock_140 hl (by decide) rfl (fun ls hl => ?_)
            exact cut_142 ((g (ta + pl)) + n) (a - (1 : Int32)) (by simp only [mBL, c_24, c_24v, c_81, c_81v, c_95, c_95v, c_112, c_112v, c_126, c_126v, if_true, if_false]) (by simp only [mBM, mBM0, c_24, c_24v, c_81, c_81v, c_95, c_95v, c_112, c_112v, c_126, c_126v, if_true, if_false]) _ _ _ N (lv_sub hl [2, 3, 4, 5, 6, 1, 0] rfl)
        · have c_112v := nle_lt c_112
          refine lv_iload hx hb dX9_shiftsBlock_115 (lv_at hl 1 rfl) ?_
          refine lv_goto (tgt := 140) hx hb dX9_shiftsBlock_117 (by decide) ?_
          refine lv_istore (lv' := [(6, .int (g ((ta + pl) + 2))), (5, .int ((g (ta + pl)) + n)), (0, .ref (ad 0)), (1, .int (nI ta)), (2, .int (nI pl)), (3, .int a), (4, .int n)]) hx hb dX9_shiftsBlock_140 hl (by decide) rfl (fun ls hl => ?_)
          exact cut_142 ((g (ta + pl)) + n) (g ((ta + pl) + 2)) (by simp only [mBL, c_24, c_24v, c_81, c_81v, c_95, c_95v, c_112, c_112v, if_true, if_false]) (by simp only [mBM, mBM0, c_24, c_24v, c_81, c_81v, c_95, c_95v, c_112, c_112v, if_true, if_false]) _ _ _ N (lv_sub hl [2, 3, 4, 5, 6, 1, 0] rfl)
      · have c_95v := nle_lt c_95
        refine lv_iload_n hx hb dX9_shiftsBlock_98 rfl (lv_at hl 5 rfl) ?_
        refine lv_goto (tgt := 107) hx hb dX9_shiftsBlock_99 (by decide) ?_
        refine lv_istore (lv' := [(5, .int a), (6, .int (g ((ta + pl) + 2))), (0, .ref (ad 0)), (1, .int (nI ta)), (2, .int (nI pl)), (3, .int a), (4, .int n)]) hx hb dX9_shiftsBlock_107 hl (by decide) rfl (fun ls hl => ?_)
        refine lv_iload hx hb dX9_shiftsBlock_109 (lv_at hl 1 rfl) ?_
        refine lv_iload_n hx hb dX9_shiftsBlock_111 rfl (lv_at hl 5 rfl) ?_
        refine lv_icmp_ge (tgt := 120) hx hb dX9_shiftsBlock_112 (by decide) (fun c_112 => ?_) (fun c_112 => ?_)
        · have c_112v := le_nlt c_112
          refine lv_iload hx hb dX9_shiftsBlock_120 (lv_at hl 1 rfl) ?_
          refine lv_iload_n hx hb dX9_shiftsBlock_122 rfl (lv_at hl 5 rfl) ?_
          refine lv_iload hx hb dX9_shiftsBlock_123 (lv_at hl 6 rfl) ?_
          refine lv_isub hx hb dX9_shiftsBlock_125 ?_
          refine lv_icmp_ge (tgt := 135) hx hb dX9_shiftsBlock_126 (by decide) (fun c_126 => ?_) (fun c_126 => ?_)
          · have c_126v := le_nlt c_126
            refine lv_iload hx hb dX9_shiftsBlock_135 (lv_at hl 1 rfl) ?_
            refine lv_iload hx hb dX9_shiftsBlock_137 (lv_at hl 6 rfl) ?_
            refine lv_iadd hx hb dX9_shiftsBlock_139 ?_
            refine lv_istore (lv' := [(6, .int ((g ((ta + pl) + 2)) + n)), (5, .int a), (0, .ref (ad 0)), (1, .int (nI ta)), (2, .int (nI pl)), (3, .int a), (4, .int n)]) hx hb dX9_shiftsBlock_140 hl (by decide) rfl (fun ls hl => ?_)
            exact cut_142 a ((g ((ta + pl) + 2)) + n) (by simp only [mBL, c_24, c_24v, c_81, c_81v, c_95, c_95v, c_112, c_112v, c_126, c_126v, if_true, if_false]) (by simp only [mBM, mBM0, c_24, c_24v, c_81, c_81v, c_95, c_95v, c_112, c_112v, c_126, c_126v, if_true, if_false]) _ _ _ N (lv_sub hl [2, 3, 4, 5, 6, 1, 0] rfl)
          · have c_126v := nle_lt c_126
            refine lv_iload_n hx hb dX9_shiftsBlock_129 rfl (lv_at hl 5 rfl) ?_
            refine lv_iconst (v := 1) hx hb dX9_shiftsBlock_130 (by decide) ?_
            refine lv_isub hx hb dX9_shiftsBlock_131 ?_
            refine lv_goto (tgt := 140) hx hb dX9_shiftsBlock_132 (by decide) ?_
            refine lv_istore (lv' := [(6, .int (a - (1 : Int32))), (5, .int a), (0, .ref (ad 0)), (1, .int (nI ta)), (2, .int (nI pl)), (3, .int a), (4, .int n)]) hx hb dX9_shiftsBlock_140 hl (by decide) rfl (fun ls hl => ?_)
            exact cut_142 a (a - (1 : Int32)) (by simp only [mBL, c_24, c_24v, c_81, c_81v, c_95, c_95v, c_112, c_112v, c_126, c_126v, if_true, if_false]) (by simp only [mBM, mBM0, c_24, c_24v, c_81, c_81v, c_95, c_95v, c_112, c_112v, c_126, c_126v, if_true, if_false]) _ _ _ N (lv_sub hl [2, 3, 4, 5, 6, 1, 0] rfl)
        · have c_112v := nle_lt c_112
          refine lv_iload hx hb dX9_shiftsBlock_115 (lv_at hl 1 rfl) ?_
          refine lv_goto (tgt := 140) hx hb dX9_shiftsBlock_117 (by decide) ?_
          refine lv_istore (lv' := [(6, .int (g ((ta + pl) + 2))), (5, .int a), (0, .ref (ad 0)), (1, .int (nI ta)), (2, .int (nI pl)), (3, .int a), (4, .int n)]) hx hb dX9_shiftsBlock_140 hl (by decide) rfl (fun ls hl => ?_)
          exact cut_142 a (g ((ta + pl) + 2)) (by simp only [mBL, c_24, c_24v, c_81, c_81v, c_95, c_95v, c_112, c_112v, if_true, if_false]) (by simp only [mBM, mBM0, c_24, c_24v, c_81, c_81v, c_95, c_95v, c_112, c_112v, if_true, if_false]) _ _ _ N (lv_sub hl [2, 3, 4, 5, 6, 1, 0] rfl)
    · have c_81v := nle_lt c_81
      refine lv_iload hx hb dX9_shiftsBlock_84 (lv_at hl 1 rfl) ?_
      refine lv_goto (tgt := 107) hx hb dX9_shiftsBlock_86 (by decide) ?_
      refine lv_istore (lv' := [(5, .int (g (ta + pl))), (6, .int (g ((ta + pl) + 2))), (0, .ref (ad 0)), (1, .int (nI ta)), (2, .int (nI pl)), (3, .int a), (4, .int n)]) hx hb dX9_shiftsBlock_107 hl (by decide) rfl (fun ls hl => ?_)
      refine lv_iload hx hb dX9_shiftsBlock_109 (lv_at hl 1 rfl) ?_
      refine lv_iload_n hx hb dX9_shiftsBlock_111 rfl (lv_at hl 5 rfl) ?_
      refine lv_icmp_ge (tgt := 120) hx hb dX9_shiftsBlock_112 (by decide) (fun c_112 => ?_) (fun c_112 => ?_)
      · have c_112v := le_nlt c_112
        refine lv_iload hx hb dX9_shiftsBlock_120 (lv_at hl 1 rfl) ?_
        refine lv_iload_n hx hb dX9_shiftsBlock_122 rfl (lv_at hl 5 rfl) ?_
        refine lv_iload hx hb dX9_shiftsBlock_123 (lv_at hl 6 rfl) ?_
        refine lv_isub hx hb dX9_shiftsBlock_125 ?_
        refine lv_icmp_ge (tgt := 135) hx hb dX9_shiftsBlock_126 (by decide) (fun c_126 => ?_) (fun c_126 => ?_)
        · have c_126v := le_nlt c_126
          refine lv_iload hx hb dX9_shiftsBlock_135 (lv_at hl 1 rfl) ?_
          refine lv_iload hx hb dX9_shiftsBlock_137 (lv_at hl 6 rfl) ?_
          refine lv_iadd hx hb dX9_shiftsBlock_139 ?_
          refine lv_istore (lv' := [(6, .int ((g ((ta + pl) + 2)) + n)), (5, .int (g (ta + pl))), (0, .ref (ad 0)), (1, .int (nI ta)), (2, .int (nI pl)), (3, .int a), (4, .int n)]) hx hb dX9_shiftsBlock_140 hl (by decide) rfl (fun ls hl => ?_)
          exact cut_142 (g (ta + pl)) ((g ((ta + pl) + 2)) + n) (by simp only [mBL, c_24, c_24v, c_81, c_81v, c_112, c_112v, c_126, c_126v, if_true, if_false]) (by simp only [mBM, mBM0, c_24, c_24v, c_81, c_81v, c_112, c_112v, c_126, c_126v, if_true, if_false]) _ _ _ N (lv_sub hl [2, 3, 4, 5, 6, 1, 0] rfl)
        · have c_126v := nle_lt c_126
          refine lv_iload_n hx hb dX9_shiftsBlock_129 rfl (lv_at hl 5 rfl) ?_
          refine lv_iconst (v := 1) hx hb dX9_shiftsBlock_130 (by decide) ?_
          refine lv_isub hx hb dX9_shiftsBlock_131 ?_
          refine lv_goto (tgt := 140) hx hb dX9_shiftsBlock_132 (by decide) ?_
          refine lv_istore (lv' := [(6, .int (a - (1 : Int32))), (5, .int (g (ta + pl))), (0, .ref (ad 0)), (1, .int (nI ta)), (2, .int (nI pl)), (3, .int a), (4, .int n)]) hx hb dX9_shiftsBlock_140 hl (by decide) rfl (fun ls hl => ?_)
          exact cut_142 (g (ta + pl)) (a - (1 : Int32)) (by simp only [mBL, c_24, c_24v, c_81, c_81v, c_112, c_112v, c_126, c_126v, if_true, if_false]) (by simp only [mBM, mBM0, c_24, c_24v, c_81, c_81v, c_112, c_112v, c_126, c_126v, if_true, if_false]) _ _ _ N (lv_sub hl [2, 3, 4, 5, 6, 1, 0] rfl)
      · have c_112v := nle_lt c_112
        refine lv_iload hx hb dX9_shiftsBlock_115 (lv_at hl 1 rfl) ?_
        refine lv_goto (tgt := 140) hx hb dX9_shiftsBlock_117 (by decide) ?_
        refine lv_istore (lv' := [(6, .int (g ((ta + pl) + 2))), (5, .int (g (ta + pl))), (0, .ref (ad 0)), (1, .int (nI ta)), (2, .int (nI pl)), (3, .int a), (4, .int n)]) hx hb dX9_shiftsBlock_140 hl (by decide) rfl (fun ls hl => ?_)
        exact cut_142 (g (ta + pl)) (g ((ta + pl) + 2)) (by simp only [mBL, c_24, c_24v, c_81, c_81v, c_112, c_112v, if_true, if_false]) (by simp only [mBM, mBM0, c_24, c_24v, c_81, c_81v, c_112, c_112v, if_true, if_false]) _ _ _ N (lv_sub hl [2, 3, 4, 5, 6, 1, 0] rfl)
  · have c_24v := nle_lt c_24
    refine lv_iload hx hb dX9_shiftsBlock_27 (lv_at hl 1 rfl) ?_
    refine lv_iload hx hb dX9_shiftsBlock_29 (lv_at hl 1 rfl) ?_
    refine lv_iload_n hx hb dX9_shiftsBlock_31 rfl (lv_at hl 5 rfl) ?_
    refine lv_icmp_lt (tgt := 40) hx hb dX9_shiftsBlock_32 (by decide) (fun c_32 => ?_) (fun c_32 => ?_)
    · have c_32v := lt_nle c_32
      refine lv_iconst (v := 0) hx hb dX9_shiftsBlock_40 (by decide) ?_
      refine lv_iadd hx hb dX9_shiftsBlock_41 ?_
      refine lv_istore (lv' := [(5, .int ((g (ta + pl)) + (0 : Int32))), (6, .int (g ((ta + pl) + 2))), (0, .ref (ad 0)), (1, .int (nI ta)), (2, .int (nI pl)), (3, .int a), (4, .int n)]) hx hb dX9_shiftsBlock_42 hl (by decide) rfl (fun ls hl => ?_)
      refine lv_iload hx hb dX9_shiftsBlock_44 (lv_at hl 1 rfl) ?_
      refine lv_iload hx hb dX9_shiftsBlock_46 (lv_at hl 1 rfl) ?_
      refine lv_iload_n hx hb dX9_shiftsBlock_48 rfl (lv_at hl 5 rfl) ?_
      refine lv_icmp_lt (tgt := 57) hx hb dX9_shiftsBlock_49 (by decide) (fun c_49 => ?_) (fun c_49 => ?_)
      · have c_49v := lt_nle c_49
        refine lv_iconst (v := 0) hx hb dX9_shiftsBlock_57 (by decide) ?_
        refine lv_iadd hx hb dX9_shiftsBlock_58 ?_
        refine lv_istore (lv' := [(6, .int ((g ((ta + pl) + 2)) + (0 : Int32))), (5, .int ((g (ta + pl)) + (0 : Int32))), (0, .ref (ad 0)), (1, .int (nI ta)), (2, .int (nI pl)), (3, .int a), (4, .int n)]) hx hb dX9_shiftsBlock_59 hl (by decide) rfl (fun ls hl => ?_)
        refine lv_iload hx hb dX9_shiftsBlock_61 (lv_at hl 0 rfl) ?_
        refine lv_iconst (v := 5) hx hb dX9_shiftsBlock_63 (by decide) ?_
        refine lv_icmp_le (tgt := 71) hx hb dX9_shiftsBlock_64 (by decide) (fun c_64 => ?_) (fun c_64 => ?_)
        · have c_64v := le_nlt c_64
          refine lv_iload hx hb dX9_shiftsBlock_71 (lv_at hl 0 rfl) ?_
          refine lv_istore (lv' := [(6, .int ((g ((ta + pl) + 2)) + (0 : Int32))), (5, .int ((g (ta + pl)) + (0 : Int32))), (0, .ref (ad 0)), (1, .int (nI ta)), (2, .int (nI pl)), (3, .int a), (4, .int n)]) hx hb dX9_shiftsBlock_73 hl (by decide) rfl (fun ls hl => ?_)
          refine lv_goto (tgt := 142) hx hb dX9_shiftsBlock_75 (by decide) ?_
          exact cut_142 ((g (ta + pl)) + (0 : Int32)) ((g ((ta + pl) + 2)) + (0 : Int32)) (by simp only [mBL, c_24, c_24v, c_32, c_32v, c_49, c_49v, c_64, c_64v, if_true, if_false]) (by simp only [mBM, mBM0, c_24, c_24v, c_32, c_32v, c_49, c_49v, c_64, c_64v, if_true, if_false]) _ _ _ N (lv_sub hl [2, 3, 4, 5, 6, 1, 0] rfl)
        · have c_64v := nle_lt c_64
          refine lv_iconst (v := 5) hx hb dX9_shiftsBlock_67 (by decide) ?_
          refine lv_goto (tgt := 73) hx hb dX9_shiftsBlock_68 (by decide) ?_
          refine lv_istore (lv' := [(6, .int 5), (5, .int ((g (ta + pl)) + (0 : Int32))), (0, .ref (ad 0)), (1, .int (nI ta)), (2, .int (nI pl)), (3, .int a), (4, .int n)]) hx hb dX9_shiftsBlock_73 hl (by decide) rfl (fun ls hl => ?_)
          refine lv_goto (tgt := 142) hx hb dX9_shiftsBlock_75 (by decide) ?_
          exact cut_142 ((g (ta + pl)) + (0 : Int32)) 5 (by simp only [mBL, c_24, c_24v, c_32, c_32v, c_49, c_49v, c_64, c_64v, if_true, if_false]) (by simp only [mBM, mBM0, c_24, c_24v, c_32, c_32v, c_49, c_49v, c_64, c_64v, if_true, if_false]) _ _ _ N (lv_sub hl [2, 3, 4, 5, 6, 1, 0] rfl)
      · have c_49v := nlt_le c_49
        refine lv_iload hx hb dX9_shiftsBlock_52 (lv_at hl 6 rfl) ?_
        refine lv_goto (tgt := 58) hx hb dX9_shiftsBlock_54 (by decide) ?_
        refine lv_iadd hx hb dX9_shiftsBlock_58 ?_
        refine lv_istore (lv' := [(6, .int ((g ((ta + pl) + 2)) + n)), (5, .int ((g (ta + pl)) + (0 : Int32))), (0, .ref (ad 0)), (1, .int (nI ta)), (2, .int (nI pl)), (3, .int a), (4, .int n)]) hx hb dX9_shiftsBlock_59 hl (by decide) rfl (fun ls hl => ?_)
        refine lv_iload hx hb dX9_shiftsBlock_61 (lv_at hl 0 rfl) ?_
        refine lv_iconst (v := 5) hx hb dX9_shiftsBlock_63 (by decide) ?_
        refine lv_icmp_le (tgt := 71) hx hb dX9_shiftsBlock_64 (by decide) (fun c_64 => ?_) (fun c_64 => ?_)
        · have c_64v := le_nlt c_64
          refine lv_iload hx hb dX9_shiftsBlock_71 (lv_at hl 0 rfl) ?_
          refine lv_istore (lv' := [(6, .int ((g ((ta + pl) + 2)) + n)), (5, .int ((g (ta + pl)) + (0 : Int32))), (0, .ref (ad 0)), (1, .int (nI ta)), (2, .int (nI pl)), (3, .int a), (4, .int n)]) hx hb dX9_shiftsBlock_73 hl (by decide) rfl (fun ls hl => ?_)
          refine lv_goto (tgt := 142) hx hb dX9_shiftsBlock_75 (by decide) ?_
          exact cut_142 ((g (ta + pl)) + (0 : Int32)) ((g ((ta + pl) + 2)) + n) (by simp only [mBL, c_24, c_24v, c_32, c_32v, c_49, c_49v, c_64, c_64v, if_true, if_false]) (by simp only [mBM, mBM0, c_24, c_24v, c_32, c_32v, c_49, c_49v, c_64, c_64v, if_true, if_false]) _ _ _ N (lv_sub hl [2, 3, 4, 5, 6, 1, 0] rfl)
        · have c_64v := nle_lt c_64
          refine lv_iconst (v := 5) hx hb dX9_shiftsBlock_67 (by decide) ?_
          refine lv_goto (tgt := 73) hx hb dX9_shiftsBlock_68 (by decide) ?_
          refine lv_istore (lv' := [(6, .int 5), (5, .int ((g (ta + pl)) + (0 : Int32))), (0, .ref (ad 0)), (1, .int (nI ta)), (2, .int (nI pl)), (3, .int a), (4, .int n)]) hx hb dX9_shiftsBlock_73 hl (by decide) rfl (fun ls hl => ?_)
          refine lv_goto (tgt := 142) hx hb dX9_shiftsBlock_75 (by decide) ?_
          exact cut_142 ((g (ta + pl)) + (0 : Int32)) 5 (by simp only [mBL, c_24, c_24v, c_32, c_32v, c_49, c_49v, c_64, c_64v, if_true, if_false]) (by simp only [mBM, mBM0, c_24, c_24v, c_32, c_32v, c_49, c_49v, c_64, c_64v, if_true, if_false]) _ _ _ N (lv_sub hl [2, 3, 4, 5, 6, 1, 0] rfl)
    · have c_32v := nlt_le c_32
      refine lv_iload hx hb dX9_shiftsBlock_35 (lv_at hl 6 rfl) ?_
      refine lv_goto (tgt := 41) hx hb dX9_shiftsBlock_37 (by decide) ?_
      refine lv_iadd hx hb dX9_shiftsBlock_41 ?_
      refine lv_istore (lv' := [(5, .int ((g (ta + pl)) + n)), (6, .int (g ((ta + pl) + 2))), (0, .ref (ad 0)), (1, .int (nI ta)), (2, .int (nI pl)), (3, .int a), (4, .int n)]) hx hb dX9_shiftsBlock_42 hl (by decide) rfl (fun ls hl => ?_)
      refine lv_iload hx hb dX9_shiftsBlock_44 (lv_at hl 1 rfl) ?_
      refine lv_iload hx hb dX9_shiftsBlock_46 (lv_at hl 1 rfl) ?_
      refine lv_iload_n hx hb dX9_shiftsBlock_48 rfl (lv_at hl 5 rfl) ?_
      refine lv_icmp_lt (tgt := 57) hx hb dX9_shiftsBlock_49 (by decide) (fun c_49 => ?_) (fun c_49 => ?_)
      · have c_49v := lt_nle c_49
        refine lv_iconst (v := 0) hx hb dX9_shiftsBlock_57 (by decide) ?_
        refine lv_iadd hx hb dX9_shiftsBlock_58 ?_
        refine lv_istore (lv' := [(6, .int ((g ((ta + pl) + 2)) + (0 : Int32))), (5, .int ((g (ta + pl)) + n)), (0, .ref (ad 0)), (1, .int (nI ta)), (2, .int (nI pl)), (3, .int a), (4, .int n)]) hx hb dX9_shiftsBlock_59 hl (by decide) rfl (fun ls hl => ?_)
        refine lv_iload hx hb dX9_shiftsBlock_61 (lv_at hl 0 rfl) ?_
        refine lv_iconst (v := 5) hx hb dX9_shiftsBlock_63 (by decide) ?_
        refine lv_icmp_le (tgt := 71) hx hb dX9_shiftsBlock_64 (by decide) (fun c_64 => ?_) (fun c_64 => ?_)
        · have c_64v := le_nlt c_64
          refine lv_iload hx hb dX9_shiftsBlock_71 (lv_at hl 0 rfl) ?_
          refine lv_istore (lv' := [(6, .int ((g ((ta + pl) + 2)) + (0 : Int32))), (5, .int ((g (ta + pl)) + n)), (0, .ref (ad 0)), (1, .int (nI ta)), (2, .int (nI pl)), (3, .int a), (4, .int n)]) hx hb dX9_shiftsBlock_73 hl (by decide) rfl (fun ls hl => ?_)
          refine lv_goto (tgt := 142) hx hb dX9_shiftsBlock_75 (by decide) ?_
          exact cut_142 ((g (ta + pl)) + n) ((g ((ta + pl) + 2)) + (0 : Int32)) (by simp only [mBL, c_24, c_24v, c_32, c_32v, c_49, c_49v, c_64, c_64v, if_true, if_false]) (by simp only [mBM, mBM0, c_24, c_24v, c_32, c_32v, c_49, c_49v, c_64, c_64v, if_true, if_false]) _ _ _ N (lv_sub hl [2, 3, 4, 5, 6, 1, 0] rfl)
        · have c_64v := nle_lt c_64
          refine lv_iconst (v := 5) hx hb dX9_shiftsBlock_67 (by decide) ?_
          refine lv_goto (tgt := 73) hx hb dX9_shiftsBlock_68 (by decide) ?_
          refine lv_istore (lv' := [(6, .int 5), (5, .int ((g (ta + pl)) + n)), (0, .ref (ad 0)), (1, .int (nI ta)), (2, .int (nI pl)), (3, .int a), (4, .int n)]) hx hb dX9_shiftsBlock_73 hl (by decide) rfl (fun ls hl => ?_)
          refine lv_goto (tgt := 142) hx hb dX9_shiftsBlock_75 (by decide) ?_
          exact cut_142 ((g (ta + pl)) + n) 5 (by simp only [mBL, c_24, c_24v, c_32, c_32v, c_49, c_49v, c_64, c_64v, if_true, if_false]) (by simp only [mBM, mBM0, c_24, c_24v, c_32, c_32v, c_49, c_49v, c_64, c_64v, if_true, if_false]) _ _ _ N (lv_sub hl [2, 3, 4, 5, 6, 1, 0] rfl)
      · have c_49v := nlt_le c_49
        refine lv_iload hx hb dX9_shiftsBlock_52 (lv_at hl 6 rfl) ?_
        refine lv_goto (tgt := 58) hx hb dX9_shiftsBlock_54 (by decide) ?_
        refine lv_iadd hx hb dX9_shiftsBlock_58 ?_
        refine lv_istore (lv' := [(6, .int ((g ((ta + pl) + 2)) + n)), (5, .int ((g (ta + pl)) + n)), (0, .ref (ad 0)), (1, .int (nI ta)), (2, .int (nI pl)), (3, .int a), (4, .int n)]) hx hb dX9_shiftsBlock_59 hl (by decide) rfl (fun ls hl => ?_)
        refine lv_iload hx hb dX9_shiftsBlock_61 (lv_at hl 0 rfl) ?_
        refine lv_iconst (v := 5) hx hb dX9_shiftsBlock_63 (by decide) ?_
        refine lv_icmp_le (tgt := 71) hx hb dX9_shiftsBlock_64 (by decide) (fun c_64 => ?_) (fun c_64 => ?_)
        · have c_64v := le_nlt c_64
          refine lv_iload hx hb dX9_shiftsBlock_71 (lv_at hl 0 rfl) ?_
          refine lv_istore (lv' := [(6, .int ((g ((ta + pl) + 2)) + n)), (5, .int ((g (ta + pl)) + n)), (0, .ref (ad 0)), (1, .int (nI ta)), (2, .int (nI pl)), (3, .int a), (4, .int n)]) hx hb dX9_shiftsBlock_73 hl (by decide) rfl (fun ls hl => ?_)
          refine lv_goto (tgt := 142) hx hb dX9_shiftsBlock_75 (by decide) ?_
          exact cut_142 ((g (ta + pl)) + n) ((g ((ta + pl) + 2)) + n) (by simp only [mBL, c_24, c_24v, c_32, c_32v, c_49, c_49v, c_64, c_64v, if_true, if_false]) (by simp only [mBM, mBM0, c_24, c_24v, c_32, c_32v, c_49, c_49v, c_64, c_64v, if_true, if_false]) _ _ _ N (lv_sub hl [2, 3, 4, 5, 6, 1, 0] rfl)
        · have c_64v := nle_lt c_64
          refine lv_iconst (v := 5) hx hb dX9_shiftsBlock_67 (by decide) ?_
          refine lv_goto (tgt := 73) hx hb dX9_shiftsBlock_68 (by decide) ?_
          refine lv_istore (lv' := [(6, .int 5), (5, .int ((g (ta + pl)) + n)), (0, .ref (ad 0)), (1, .int (nI ta)), (2, .int (nI pl)), (3, .int a), (4, .int n)]) hx hb dX9_shiftsBlock_73 hl (by decide) rfl (fun ls hl => ?_)
          refine lv_goto (tgt := 142) hx hb dX9_shiftsBlock_75 (by decide) ?_
          exact cut_142 ((g (ta + pl)) + n) 5 (by simp only [mBL, c_24, c_24v, c_32, c_32v, c_49, c_49v, c_64, c_64v, if_true, if_false]) (by simp only [mBM, mBM0, c_24, c_24v, c_32, c_32v, c_49, c_49v, c_64, c_64v, if_true, if_false]) _ _ _ N (lv_sub hl [2, 3, 4, 5, 6, 1, 0] rfl)
set_option maxHeartbeats 4000000 in
set_option maxRecDepth 100000 in
theorem c_X9_shifts (l : Launch) (G : GM) (ad : Nat → Nat) (ex : va_W) (st : ST) (g : Nat → Int32) (way : Nat) (a : Nat) (n : Int32) (o : Nat → Option Nat) (cn : Nat → Nat) (hw : way < 2) (ho : ∀ x, x < 6 → mLb (nI x) (nI a) n = oI (o x)) (ho6 : ∀ x, x < 6 → (o x).getD 0 < 6) (hcn : mCn (mShC (st.2.1 1) way o g) cn) : MMv l G yX9_shifts cX9_shifts 8 none 3 [.ref (ad 0), .int (nI way), .int (nI a), .int n] ad ex (sA st 0 g) (sA st 0 (mSh (st.2.1 1) way (nI a) n o cn g)) := by
  refine xv_start (by decide) (Nat.le_of_ble_eq_true rfl) ?_
  intro zp ze zs zm zargs zbelow zmeth zc zQ ls F N hl hret
  have hx := F.1
  have hb := F.2.1
  have hl : lv_has ls 8 [(0, .ref (ad 0)), (1, .int (nI way)), (2, .int (nI a)), (3, .int n)] := hl
  refine lv_aload_n hx hb dX9_shifts_0 rfl (lv_at hl 0 rfl) ?_
  refine lv_iload_n hx hb dX9_shifts_1 rfl (lv_at hl 1 rfl) ?_
  refine lv_iload_n hx hb dX9_shifts_2 rfl (lv_at hl 2 rfl) ?_
  refine lv_iload_n hx hb dX9_shifts_3 rfl (lv_at hl 3 rfl) ?_
  refine cV_v F N (c_X9_shiftsCells l G ad ex st g way a n o hw ho ho6) miX9_shiftsCells k_847 (by decide) hl.1 rfl (Nat.le_of_ble_eq_true rfl) (q0 := 0) (ci := 8) rfl rfl dX9_shifts_4 (fun H locs N => ?_)
  refine lv_iload_n hx hb dX9_shifts_7 rfl (lv_at hl 1 rfl) ?_
  refine ifN_ne (a := way) (tgt := 15) hx hb dX9_shifts_8 (by decide) (by omega) (fun c_8 => ?_) (fun c_8 => ?_)
  · refine lv_iconst (v := 1) hx hb dX9_shifts_15 (by decide) ?_
    refine lv_istore (lv' := [(4, .int 1), (0, .ref (ad 0)), (1, .int (nI way)), (2, .int (nI a)), (3, .int n)]) hx hb dX9_shifts_16 hl (by decide) rfl (fun ls hl => ?_)
    refine lv_iconst (v := 0) hx hb dX9_shifts_18 (by decide) ?_
    refine lv_istore (lv' := [(5, .int 0), (4, .int 1), (0, .ref (ad 0)), (1, .int (nI way)), (2, .int (nI a)), (3, .int n)]) hx hb dX9_shifts_19 hl (by decide) rfl (fun ls hl => ?_)
    have cut_21 : ∀ (k : Nat) (pl : Nat) (i : Nat) (g2 : Nat → Int32), i + k = 36 → pl < 4 → mCn g2 cn → lp (mShW pl (nI a) n cn) k i g2 = mSh (st.2.1 1) way (nI a) n o cn g → ∀ (H : Heap) (locs : List Loc) (ls : Array Slot), Now G zs (MW G ad (sA st 0 g2) ++ ex) H locs → lv_has ls 8 [(0, .ref (ad 0)), (1, .int (nI way)), (2, .int (nI a)), (3, .int n), (4, .int (nI pl)), (5, .int (nI i))] → W zp l ze (RM 3) zs zm zargs zbelow zmeth zc H locs 0 0 zQ (F0 zm 21 ls []) := by
      intro k
      induction k with
      | zero =>
        intro pl i g2 hk hpl hc2 hI H locs ls N hl
        refine lv_iload hx hb dX9_shifts_21 (lv_at hl 5 rfl) ?_
        refine lv_bipush (v := 36) hx hb dX9_shifts_23 (by decide) ?_
        refine cmpN_ge (a := i) (b := 36) (tgt := 119) hx hb dX9_shifts_25 (by decide) (by omega) (by omega) (fun c_25 => ?_) (fun c_25 => ?_)
        · have c_25v := Nat.not_lt.mpr c_25
          exact hret _ _ _ _ _ dX9_shifts_119 (by rw [← hI]; rfl) N
        · exfalso; omega
      | succ k ih_21 =>
        intro pl i g2 hk hpl hc2 hI H locs ls N hl
        refine lv_iload hx hb dX9_shifts_21 (lv_at hl 5 rfl) ?_
        refine lv_bipush (v := 36) hx hb dX9_shifts_23 (by decide) ?_
        refine cmpN_ge (a := i) (b := 36) (tgt := 119) hx hb dX9_shifts_25 (by decide) (by omega) (by omega) (fun c_25 => ?_) (fun c_25 => ?_)
        · exfalso; omega
        · have c_25v := Nat.not_le.mp c_25
          refine lv_iconst (v := 0) hx hb dX9_shifts_28 (by decide) ?_
          refine lv_istore (lv' := [(6, .int 0), (0, .ref (ad 0)), (1, .int (nI way)), (2, .int (nI a)), (3, .int n), (4, .int (nI pl)), (5, .int (nI i))]) hx hb dX9_shifts_29 hl (by decide) rfl (fun ls hl => ?_)
          have cut_31 : ∀ (k2 : Nat) (j : Nat) (g3 : Nat → Int32), j + k2 = cn i → mCn g3 cn → lp (fun i2 g => mShT pl (nI a) n (25 * i + 1 + 6 * i2) g) k2 j g3 = mShW pl (nI a) n cn i g2 → ∀ (H : Heap) (locs : List Loc) (ls : Array Slot), Now G zs (MW G ad (sA st 0 g3) ++ ex) H locs → lv_has ls 8 [(0, .ref (ad 0)), (1, .int (nI way)), (2, .int (nI a)), (3, .int n), (4, .int (nI pl)), (5, .int (nI i)), (6, .int (nI j))] → W zp l ze (RM 3) zs zm zargs zbelow zmeth zc H locs 0 0 zQ (F0 zm 31 ls []) := by
            intro k2
            induction k2 with
            | zero =>
              intro j g3 hk2 hc3 hJ H locs ls N hl
              have hci := (hc3 i (by omega)).2
              refine lv_iload hx hb dX9_shifts_31 (lv_at hl 6 rfl) ?_
              refine lv_aload_n hx hb dX9_shifts_33 rfl (lv_at hl 0 rfl) ?_
              refine gm_0_now F N k_682 dX9_shifts_34 ?_
              refine lv_bipush (v := 25) hx hb dX9_shifts_37 (by decide) ?_
              refine lv_iload hx hb dX9_shifts_39 (lv_at hl 5 rfl) ?_
              refine imulN (a := 25) (b := i) hx hb dX9_shifts_41 ?_
              refine amN_0 (j := (25 * i)) F N (by omega) dX9_shifts_42 ?_
              refine toI (y := g3 (25 * i)) rfl ?_
              refine toN (a := cn i) (hc3 i (by omega)).1 ?_
              refine cmpN_ge (a := j) (b := (cn i)) (tgt := 113) hx hb dX9_shifts_43 (by decide) (by omega) (by omega) (fun c_43 => ?_) (fun c_43 => ?_)
              · have c_43v := Nat.not_lt.mpr c_43
                refine lv_iinc (v := (nI (i + 1))) (lv' := [(5, .int (nI (i + 1))), (0, .ref (ad 0)), (1, .int (nI way)), (2, .int (nI a)), (3, .int n), (4, .int (nI pl)), (6, .int (nI j))]) hx hb dX9_shifts_113 hl (k := 5) rfl (nI_1 i) (by decide) rfl (fun ls hl => ?_)
                refine lv_goto (tgt := 21) hx hb dX9_shifts_116 (by decide) ?_
                exact ih_21 pl (i + 1) g3 (by omega) hpl hc3 (by rw [← hI, lp_s]; exact congrArg _ hJ) _ _ _ N (lv_sub hl [1, 2, 3, 4, 5, 0] rfl)
              · exfalso; omega
            | succ k2 ih_31 =>
              intro j g3 hk2 hc3 hJ H locs ls N hl
              have hci := (hc3 i (by omega)).2
              refine lv_iload hx hb dX9_shifts_31 (lv_at hl 6 rfl) ?_
              refine lv_aload_n hx hb dX9_shifts_33 rfl (lv_at hl 0 rfl) ?_
              refine gm_0_now F N k_682 dX9_shifts_34 ?_
              refine lv_bipush (v := 25) hx hb dX9_shifts_37 (by decide) ?_
              refine lv_iload hx hb dX9_shifts_39 (lv_at hl 5 rfl) ?_
              refine imulN (a := 25) (b := i) hx hb dX9_shifts_41 ?_
              refine amN_0 (j := (25 * i)) F N (by omega) dX9_shifts_42 ?_
              refine toI (y := g3 (25 * i)) rfl ?_
              refine toN (a := cn i) (hc3 i (by omega)).1 ?_
              refine cmpN_ge (a := j) (b := (cn i)) (tgt := 113) hx hb dX9_shifts_43 (by decide) (by omega) (by omega) (fun c_43 => ?_) (fun c_43 => ?_)
              · exfalso; omega
              · have c_43v := Nat.not_le.mp c_43
                refine lv_bipush (v := 25) hx hb dX9_shifts_46 (by decide) ?_
                refine lv_iload hx hb dX9_shifts_48 (lv_at hl 5 rfl) ?_
                refine imulN (a := 25) (b := i) hx hb dX9_shifts_50 ?_
                refine lv_iload hx hb dX9_shifts_51 (lv_at hl 6 rfl) ?_
                refine cS_i F N (c_X9_termPlace l G _ (25 * i) j) miX9_termPlace k_858 (by decide) hl.1 rfl (Nat.le_of_ble_eq_true rfl) dX9_shifts_53 (fun H locs N => ?_)
                refine lv_istore (lv' := [(7, .int (nI ((25 * i) + 1 + 6 * j))), (0, .ref (ad 0)), (1, .int (nI way)), (2, .int (nI a)), (3, .int n), (4, .int (nI pl)), (5, .int (nI i)), (6, .int (nI j))]) hx hb dX9_shifts_56 hl (by decide) rfl (fun ls hl => ?_)
                refine lv_aload_n hx hb dX9_shifts_58 rfl (lv_at hl 1 rfl) ?_
                refine gm_0_now F N k_682 dX9_shifts_59 ?_
                refine lv_iload hx hb dX9_shifts_62 (lv_at hl 0 rfl) ?_
                refine lv_iconst (v := 0) hx hb dX9_shifts_64 (by decide) ?_
                refine iaddN (a := ((25 * i) + 1 + 6 * j)) (b := 0) hx hb dX9_shifts_65 ?_
                refine amN_0 (j := (((25 * i) + 1 + 6 * j) + 0)) F N (by omega) dX9_shifts_66 ?_
                refine toI (y := g3 (((25 * i) + 1 + 6 * j) + 0)) rfl ?_
                refine lv_iconst (v := 1) hx hb dX9_shifts_67 (by decide) ?_
                refine lv_icmp_ne (tgt := 84) hx hb dX9_shifts_68 (by decide) (fun c_68 => ?_) (fun c_68 => ?_)
                · refine lv_aload_n hx hb dX9_shifts_84 rfl (lv_at hl 1 rfl) ?_
                  refine gm_0_now F N k_682 dX9_shifts_85 ?_
                  refine lv_iload hx hb dX9_shifts_88 (lv_at hl 0 rfl) ?_
                  refine lv_iconst (v := 0) hx hb dX9_shifts_90 (by decide) ?_
                  refine iaddN (a := ((25 * i) + 1 + 6 * j)) (b := 0) hx hb dX9_shifts_91 ?_
                  refine amN_0 (j := (((25 * i) + 1 + 6 * j) + 0)) F N (by omega) dX9_shifts_92 ?_
                  refine toI (y := g3 (((25 * i) + 1 + 6 * j) + 0)) rfl ?_
                  refine lv_iconst (v := 2) hx hb dX9_shifts_93 (by decide) ?_
                  refine lv_icmp_ne (tgt := 107) hx hb dX9_shifts_94 (by decide) (fun c_94 => ?_) (fun c_94 => ?_)
                  · refine lv_iinc (v := (nI (j + 1))) (lv' := [(6, .int (nI (j + 1))), (7, .int (nI ((25 * i) + 1 + 6 * j))), (0, .ref (ad 0)), (1, .int (nI way)), (2, .int (nI a)), (3, .int n), (4, .int (nI pl)), (5, .int (nI i))]) hx hb dX9_shifts_107 hl (k := 7) rfl (nI_1 j) (by decide) rfl (fun ls hl => ?_)
                    refine lv_goto (tgt := 31) hx hb dX9_shifts_110 (by decide) ?_
                    exact ih_31 (j + 1) g3 (by omega) (by first | exact mCn_T (F := fun g => mShP g (25 * i + 1 + 6 * j) pl (nI a) n) hc3 (by omega) (fun j2 h9 => mShP_out h9 (by omega)) | exact mCn_T (F := fun g => mShB g (25 * i + 1 + 6 * j) pl (nI a) n) hc3 (by omega) (fun j2 h9 => mShB_out h9 hpl) | exact hc3) (by rw [← hJ, lp_s]; exact congrArg _ (by first | (rw [mShT, if_pos c_68]; done) | (rw [mShT, if_neg c_68, if_pos c_94]; done) | (rw [mShT, if_neg c_68, if_neg c_94]; done))) _ _ _ N (lv_sub hl [2, 3, 4, 5, 6, 7, 0] rfl)
                  · refine lv_aload_n hx hb dX9_shifts_97 rfl (lv_at hl 1 rfl) ?_
                    refine lv_iload hx hb dX9_shifts_98 (lv_at hl 0 rfl) ?_
                    refine lv_iload hx hb dX9_shifts_100 (lv_at hl 5 rfl) ?_
                    refine lv_iload_n hx hb dX9_shifts_102 rfl (lv_at hl 3 rfl) ?_
                    refine lv_iload_n hx hb dX9_shifts_103 rfl (lv_at hl 4 rfl) ?_
                    refine cV_v F N (c_X9_shiftsBlock l G ad ex st g3 ((25 * i) + 1 + 6 * j) pl (nI a) n (by omega) hpl) miX9_shiftsBlock k_869 (by decide) hl.1 rfl (Nat.le_of_ble_eq_true rfl) (q0 := 0) (ci := 8) rfl rfl dX9_shifts_104 (fun H locs N => ?_)
                    refine lv_iinc (v := (nI (j + 1))) (lv' := [(6, .int (nI (j + 1))), (7, .int (nI ((25 * i) + 1 + 6 * j))), (0, .ref (ad 0)), (1, .int (nI way)), (2, .int (nI a)), (3, .int n), (4, .int (nI pl)), (5, .int (nI i))]) hx hb dX9_shifts_107 hl (k := 7) rfl (nI_1 j) (by decide) rfl (fun ls hl => ?_)
                    refine lv_goto (tgt := 31) hx hb dX9_shifts_110 (by decide) ?_
                    exact ih_31 (j + 1) (mShB g3 ((25 * i) + 1 + 6 * j) pl (nI a) n) (by omega) (by first | exact mCn_T (F := fun g => mShP g (25 * i + 1 + 6 * j) pl (nI a) n) hc3 (by omega) (fun j2 h9 => mShP_out h9 (by omega)) | exact mCn_T (F := fun g => mShB g (25 * i + 1 + 6 * j) pl (nI a) n) hc3 (by omega) (fun j2 h9 => mShB_out h9 hpl) | exact hc3) (by rw [← hJ, lp_s]; exact congrArg _ (by first | (rw [mShT, if_pos c_68]; done) | (rw [mShT, if_neg c_68, if_pos c_94]; done) | (rw [mShT, if_neg c_68, if_neg c_94]; done))) _ _ _ N (lv_sub hl [2, 3, 4, 5, 6, 7, 0] rfl)
                · refine lv_aload_n hx hb dX9_shifts_71 rfl (lv_at hl 1 rfl) ?_
                  refine lv_iload hx hb dX9_shifts_72 (lv_at hl 0 rfl) ?_
                  refine lv_iload hx hb dX9_shifts_74 (lv_at hl 5 rfl) ?_
                  refine lv_iload_n hx hb dX9_shifts_76 rfl (lv_at hl 3 rfl) ?_
                  refine lv_iload_n hx hb dX9_shifts_77 rfl (lv_at hl 4 rfl) ?_
                  refine cV_v F N (c_X9_shiftsPlace l G ad ex st g3 ((25 * i) + 1 + 6 * j) pl (nI a) n (by omega) hpl) miX9_shiftsPlace k_861 (by decide) hl.1 rfl (Nat.le_of_ble_eq_true rfl) (q0 := 0) (ci := 8) rfl rfl dX9_shifts_78 (fun H locs N => ?_)
                  refine lv_goto (tgt := 107) hx hb dX9_shifts_81 (by decide) ?_
                  refine lv_iinc (v := (nI (j + 1))) (lv' := [(6, .int (nI (j + 1))), (7, .int (nI ((25 * i) + 1 + 6 * j))), (0, .ref (ad 0)), (1, .int (nI way)), (2, .int (nI a)), (3, .int n), (4, .int (nI pl)), (5, .int (nI i))]) hx hb dX9_shifts_107 hl (k := 7) rfl (nI_1 j) (by decide) rfl (fun ls hl => ?_)
                  refine lv_goto (tgt := 31) hx hb dX9_shifts_110 (by decide) ?_
                  exact ih_31 (j + 1) (mShP g3 ((25 * i) + 1 + 6 * j) pl (nI a) n) (by omega) (by first | exact mCn_T (F := fun g => mShP g (25 * i + 1 + 6 * j) pl (nI a) n) hc3 (by omega) (fun j2 h9 => mShP_out h9 (by omega)) | exact mCn_T (F := fun g => mShB g (25 * i + 1 + 6 * j) pl (nI a) n) hc3 (by omega) (fun j2 h9 => mShB_out h9 hpl) | exact hc3) (by rw [← hJ, lp_s]; exact congrArg _ (by first | (rw [mShT, if_pos c_68]; done) | (rw [mShT, if_neg c_68, if_pos c_94]; done) | (rw [mShT, if_neg c_68, if_neg c_94]; done))) _ _ _ N (lv_sub hl [2, 3, 4, 5, 6, 7, 0] rfl)
          exact cut_31 (cn i) 0 g2 (by omega) hc2 rfl _ _ _ N (lv_sub hl [1, 2, 3, 4, 5, 6, 0] rfl)
    exact cut_21 36 1 0 (mShC (st.2.1 1) way o g) (by omega) (by decide) hcn (by unfold mSh; first | rw [if_pos c_8] | rw [if_neg c_8]) _ _ _ N (lv_sub hl [2, 3, 4, 5, 1, 0] rfl)
  · refine lv_iconst (v := 2) hx hb dX9_shifts_11 (by decide) ?_
    refine lv_goto (tgt := 16) hx hb dX9_shifts_12 (by decide) ?_
    refine lv_istore (lv' := [(4, .int 2), (0, .ref (ad 0)), (1, .int (nI way)), (2, .int (nI a)), (3, .int n)]) hx hb dX9_shifts_16 hl (by decide) rfl (fun ls hl => ?_)
    refine lv_iconst (v := 0) hx hb dX9_shifts_18 (by decide) ?_
    refine lv_istore (lv' := [(5, .int 0), (4, .int 2), (0, .ref (ad 0)), (1, .int (nI way)), (2, .int (nI a)), (3, .int n)]) hx hb dX9_shifts_19 hl (by decide) rfl (fun ls hl => ?_)
    have cut_21 : ∀ (k : Nat) (pl : Nat) (i : Nat) (g2 : Nat → Int32), i + k = 36 → pl < 4 → mCn g2 cn → lp (mShW pl (nI a) n cn) k i g2 = mSh (st.2.1 1) way (nI a) n o cn g → ∀ (H : Heap) (locs : List Loc) (ls : Array Slot), Now G zs (MW G ad (sA st 0 g2) ++ ex) H locs → lv_has ls 8 [(0, .ref (ad 0)), (1, .int (nI way)), (2, .int (nI a)), (3, .int n), (4, .int (nI pl)), (5, .int (nI i))] → W zp l ze (RM 3) zs zm zargs zbelow zmeth zc H locs 0 0 zQ (F0 zm 21 ls []) := by
      intro k
      induction k with
      | zero =>
        intro pl i g2 hk hpl hc2 hI H locs ls N hl
        refine lv_iload hx hb dX9_shifts_21 (lv_at hl 5 rfl) ?_
        refine lv_bipush (v := 36) hx hb dX9_shifts_23 (by decide) ?_
        refine cmpN_ge (a := i) (b := 36) (tgt := 119) hx hb dX9_shifts_25 (by decide) (by omega) (by omega) (fun c_25 => ?_) (fun c_25 => ?_)
        · have c_25v := Nat.not_lt.mpr c_25
          exact hret _ _ _ _ _ dX9_shifts_119 (by rw [← hI]; rfl) N
        · exfalso; omega
      | succ k ih_21 =>
        intro pl i g2 hk hpl hc2 hI H locs ls N hl
        refine lv_iload hx hb dX9_shifts_21 (lv_at hl 5 rfl) ?_
        refine lv_bipush (v := 36) hx hb dX9_shifts_23 (by decide) ?_
        refine cmpN_ge (a := i) (b := 36) (tgt := 119) hx hb dX9_shifts_25 (by decide) (by omega) (by omega) (fun c_25 => ?_) (fun c_25 => ?_)
        · exfalso; omega
        · have c_25v := Nat.not_le.mp c_25
          refine lv_iconst (v := 0) hx hb dX9_shifts_28 (by decide) ?_
          refine lv_istore (lv' := [(6, .int 0), (0, .ref (ad 0)), (1, .int (nI way)), (2, .int (nI a)), (3, .int n), (4, .int (nI pl)), (5, .int (nI i))]) hx hb dX9_shifts_29 hl (by decide) rfl (fun ls hl => ?_)
          have cut_31 : ∀ (k2 : Nat) (j : Nat) (g3 : Nat → Int32), j + k2 = cn i → mCn g3 cn → lp (fun i2 g => mShT pl (nI a) n (25 * i + 1 + 6 * i2) g) k2 j g3 = mShW pl (nI a) n cn i g2 → ∀ (H : Heap) (locs : List Loc) (ls : Array Slot), Now G zs (MW G ad (sA st 0 g3) ++ ex) H locs → lv_has ls 8 [(0, .ref (ad 0)), (1, .int (nI way)), (2, .int (nI a)), (3, .int n), (4, .int (nI pl)), (5, .int (nI i)), (6, .int (nI j))] → W zp l ze (RM 3) zs zm zargs zbelow zmeth zc H locs 0 0 zQ (F0 zm 31 ls []) := by
            intro k2
            induction k2 with
            | zero =>
              intro j g3 hk2 hc3 hJ H locs ls N hl
              have hci := (hc3 i (by omega)).2
              refine lv_iload hx hb dX9_shifts_31 (lv_at hl 6 rfl) ?_
              refine lv_aload_n hx hb dX9_shifts_33 rfl (lv_at hl 0 rfl) ?_
              refine gm_0_now F N k_682 dX9_shifts_34 ?_
              refine lv_bipush (v := 25) hx hb dX9_shifts_37 (by decide) ?_
              refine lv_iload hx hb dX9_shifts_39 (lv_at hl 5 rfl) ?_
              refine imulN (a := 25) (b := i) hx hb dX9_shifts_41 ?_
              refine amN_0 (j := (25 * i)) F N (by omega) dX9_shifts_42 ?_
              refine toI (y := g3 (25 * i)) rfl ?_
              refine toN (a := cn i) (hc3 i (by omega)).1 ?_
              refine cmpN_ge (a := j) (b := (cn i)) (tgt := 113) hx hb dX9_shifts_43 (by decide) (by omega) (by omega) (fun c_43 => ?_) (fun c_43 => ?_)
              · have c_43v := Nat.not_lt.mpr c_43
                refine lv_iinc (v := (nI (i + 1))) (lv' := [(5, .int (nI (i + 1))), (0, .ref (ad 0)), (1, .int (nI way)), (2, .int (nI a)), (3, .int n), (4, .int (nI pl)), (6, .int (nI j))]) hx hb dX9_shifts_113 hl (k := 5) rfl (nI_1 i) (by decide) rfl (fun ls hl => ?_)
                refine lv_goto (tgt := 21) hx hb dX9_shifts_116 (by decide) ?_
                exact ih_21 pl (i + 1) g3 (by omega) hpl hc3 (by rw [← hI, lp_s]; exact congrArg _ hJ) _ _ _ N (lv_sub hl [1, 2, 3, 4, 5, 0] rfl)
              · exfalso; omega
            | succ k2 ih_31 =>
              intro j g3 hk2 hc3 hJ H locs ls N hl
              have hci := (hc3 i (by omega)).2
              refine lv_iload hx hb dX9_shifts_31 (lv_at hl 6 rfl) ?_
              refine lv_aload_n hx hb dX9_shifts_33 rfl (lv_at hl 0 rfl) ?_
              refine gm_0_now F N k_682 dX9_shifts_34 ?_
              refine lv_bipush (v := 25) hx hb dX9_shifts_37 (by decide) ?_
              refine lv_iload hx hb dX9_shifts_39 (lv_at hl 5 rfl) ?_
              refine imulN (a := 25) (b := i) hx hb dX9_shifts_41 ?_
              refine amN_0 (j := (25 * i)) F N (by omega) dX9_shifts_42 ?_
              refine toI (y := g3 (25 * i)) rfl ?_
              refine toN (a := cn i) (hc3 i (by omega)).1 ?_
              refine cmpN_ge (a := j) (b := (cn i)) (tgt := 113) hx hb dX9_shifts_43 (by decide) (by omega) (by omega) (fun c_43 => ?_) (fun c_43 => ?_)
              · exfalso; omega
              · have c_43v := Nat.not_le.mp c_43
                refine lv_bipush (v := 25) hx hb dX9_shifts_46 (by decide) ?_
                refine lv_iload hx hb dX9_shifts_48 (lv_at hl 5 rfl) ?_
                refine imulN (a := 25) (b := i) hx hb dX9_shifts_50 ?_
                refine lv_iload hx hb dX9_shifts_51 (lv_at hl 6 rfl) ?_
                refine cS_i F N (c_X9_termPlace l G _ (25 * i) j) miX9_termPlace k_858 (by decide) hl.1 rfl (Nat.le_of_ble_eq_true rfl) dX9_shifts_53 (fun H locs N => ?_)
                refine lv_istore (lv' := [(7, .int (nI ((25 * i) + 1 + 6 * j))), (0, .ref (ad 0)), (1, .int (nI way)), (2, .int (nI a)), (3, .int n), (4, .int (nI pl)), (5, .int (nI i)), (6, .int (nI j))]) hx hb dX9_shifts_56 hl (by decide) rfl (fun ls hl => ?_)
                refine lv_aload_n hx hb dX9_shifts_58 rfl (lv_at hl 1 rfl) ?_
                refine gm_0_now F N k_682 dX9_shifts_59 ?_
                refine lv_iload hx hb dX9_shifts_62 (lv_at hl 0 rfl) ?_
                refine lv_iconst (v := 0) hx hb dX9_shifts_64 (by decide) ?_
                refine iaddN (a := ((25 * i) + 1 + 6 * j)) (b := 0) hx hb dX9_shifts_65 ?_
                refine amN_0 (j := (((25 * i) + 1 + 6 * j) + 0)) F N (by omega) dX9_shifts_66 ?_
                refine toI (y := g3 (((25 * i) + 1 + 6 * j) + 0)) rfl ?_
                refine lv_iconst (v := 1) hx hb dX9_shifts_67 (by decide) ?_
                refine lv_icmp_ne (tgt := 84) hx hb dX9_shifts_68 (by decide) (fun c_68 => ?_) (fun c_68 => ?_)
                · refine lv_aload_n hx hb dX9_shifts_84 rfl (lv_at hl 1 rfl) ?_
                  refine gm_0_now F N k_682 dX9_shifts_85 ?_
                  refine lv_iload hx hb dX9_shifts_88 (lv_at hl 0 rfl) ?_
                  refine lv_iconst (v := 0) hx hb dX9_shifts_90 (by decide) ?_
                  refine iaddN (a := ((25 * i) + 1 + 6 * j)) (b := 0) hx hb dX9_shifts_91 ?_
                  refine amN_0 (j := (((25 * i) + 1 + 6 * j) + 0)) F N (by omega) dX9_shifts_92 ?_
                  refine toI (y := g3 (((25 * i) + 1 + 6 * j) + 0)) rfl ?_
                  refine lv_iconst (v := 2) hx hb dX9_shifts_93 (by decide) ?_
                  refine lv_icmp_ne (tgt := 107) hx hb dX9_shifts_94 (by decide) (fun c_94 => ?_) (fun c_94 => ?_)
                  · refine lv_iinc (v := (nI (j + 1))) (lv' := [(6, .int (nI (j + 1))), (7, .int (nI ((25 * i) + 1 + 6 * j))), (0, .ref (ad 0)), (1, .int (nI way)), (2, .int (nI a)), (3, .int n), (4, .int (nI pl)), (5, .int (nI i))]) hx hb dX9_shifts_107 hl (k := 7) rfl (nI_1 j) (by decide) rfl (fun ls hl => ?_)
                    refine lv_goto (tgt := 31) hx hb dX9_shifts_110 (by decide) ?_
                    exact ih_31 (j + 1) g3 (by omega) (by first | exact mCn_T (F := fun g => mShP g (25 * i + 1 + 6 * j) pl (nI a) n) hc3 (by omega) (fun j2 h9 => mShP_out h9 (by omega)) | exact mCn_T (F := fun g => mShB g (25 * i + 1 + 6 * j) pl (nI a) n) hc3 (by omega) (fun j2 h9 => mShB_out h9 hpl) | exact hc3) (by rw [← hJ, lp_s]; exact congrArg _ (by first | (rw [mShT, if_pos c_68]; done) | (rw [mShT, if_neg c_68, if_pos c_94]; done) | (rw [mShT, if_neg c_68, if_neg c_94]; done))) _ _ _ N (lv_sub hl [2, 3, 4, 5, 6, 7, 0] rfl)
                  · refine lv_aload_n hx hb dX9_shifts_97 rfl (lv_at hl 1 rfl) ?_
                    refine lv_iload hx hb dX9_shifts_98 (lv_at hl 0 rfl) ?_
                    refine lv_iload hx hb dX9_shifts_100 (lv_at hl 5 rfl) ?_
                    refine lv_iload_n hx hb dX9_shifts_102 rfl (lv_at hl 3 rfl) ?_
                    refine lv_iload_n hx hb dX9_shifts_103 rfl (lv_at hl 4 rfl) ?_
                    refine cV_v F N (c_X9_shiftsBlock l G ad ex st g3 ((25 * i) + 1 + 6 * j) pl (nI a) n (by omega) hpl) miX9_shiftsBlock k_869 (by decide) hl.1 rfl (Nat.le_of_ble_eq_true rfl) (q0 := 0) (ci := 8) rfl rfl dX9_shifts_104 (fun H locs N => ?_)
                    refine lv_iinc (v := (nI (j + 1))) (lv' := [(6, .int (nI (j + 1))), (7, .int (nI ((25 * i) + 1 + 6 * j))), (0, .ref (ad 0)), (1, .int (nI way)), (2, .int (nI a)), (3, .int n), (4, .int (nI pl)), (5, .int (nI i))]) hx hb dX9_shifts_107 hl (k := 7) rfl (nI_1 j) (by decide) rfl (fun ls hl => ?_)
                    refine lv_goto (tgt := 31) hx hb dX9_shifts_110 (by decide) ?_
                    exact ih_31 (j + 1) (mShB g3 ((25 * i) + 1 + 6 * j) pl (nI a) n) (by omega) (by first | exact mCn_T (F := fun g => mShP g (25 * i + 1 + 6 * j) pl (nI a) n) hc3 (by omega) (fun j2 h9 => mShP_out h9 (by omega)) | exact mCn_T (F := fun g => mShB g (25 * i + 1 + 6 * j) pl (nI a) n) hc3 (by omega) (fun j2 h9 => mShB_out h9 hpl) | exact hc3) (by rw [← hJ, lp_s]; exact congrArg _ (by first | (rw [mShT, if_pos c_68]; done) | (rw [mShT, if_neg c_68, if_pos c_94]; done) | (rw [mShT, if_neg c_68, if_neg c_94]; done))) _ _ _ N (lv_sub hl [2, 3, 4, 5, 6, 7, 0] rfl)
                · refine lv_aload_n hx hb dX9_shifts_71 rfl (lv_at hl 1 rfl) ?_
                  refine lv_iload hx hb dX9_shifts_72 (lv_at hl 0 rfl) ?_
                  refine lv_iload hx hb dX9_shifts_74 (lv_at hl 5 rfl) ?_
                  refine lv_iload_n hx hb dX9_shifts_76 rfl (lv_at hl 3 rfl) ?_
                  refine lv_iload_n hx hb dX9_shifts_77 rfl (lv_at hl 4 rfl) ?_
                  refine cV_v F N (c_X9_shiftsPlace l G ad ex st g3 ((25 * i) + 1 + 6 * j) pl (nI a) n (by omega) hpl) miX9_shiftsPlace k_861 (by decide) hl.1 rfl (Nat.le_of_ble_eq_true rfl) (q0 := 0) (ci := 8) rfl rfl dX9_shifts_78 (fun H locs N => ?_)
                  refine lv_goto (tgt := 107) hx hb dX9_shifts_81 (by decide) ?_
                  refine lv_iinc (v := (nI (j + 1))) (lv' := [(6, .int (nI (j + 1))), (7, .int (nI ((25 * i) + 1 + 6 * j))), (0, .ref (ad 0)), (1, .int (nI way)), (2, .int (nI a)), (3, .int n), (4, .int (nI pl)), (5, .int (nI i))]) hx hb dX9_shifts_107 hl (k := 7) rfl (nI_1 j) (by decide) rfl (fun ls hl => ?_)
                  refine lv_goto (tgt := 31) hx hb dX9_shifts_110 (by decide) ?_
                  exact ih_31 (j + 1) (mShP g3 ((25 * i) + 1 + 6 * j) pl (nI a) n) (by omega) (by first | exact mCn_T (F := fun g => mShP g (25 * i + 1 + 6 * j) pl (nI a) n) hc3 (by omega) (fun j2 h9 => mShP_out h9 (by omega)) | exact mCn_T (F := fun g => mShB g (25 * i + 1 + 6 * j) pl (nI a) n) hc3 (by omega) (fun j2 h9 => mShB_out h9 hpl) | exact hc3) (by rw [← hJ, lp_s]; exact congrArg _ (by first | (rw [mShT, if_pos c_68]; done) | (rw [mShT, if_neg c_68, if_pos c_94]; done) | (rw [mShT, if_neg c_68, if_neg c_94]; done))) _ _ _ N (lv_sub hl [2, 3, 4, 5, 6, 7, 0] rfl)
          exact cut_31 (cn i) 0 g2 (by omega) hc2 rfl _ _ _ N (lv_sub hl [1, 2, 3, 4, 5, 6, 0] rfl)
    exact cut_21 36 2 0 (mShC (st.2.1 1) way o g) (by omega) (by decide) hcn (by unfold mSh; first | rw [if_pos c_8] | rw [if_neg c_8]) _ _ _ N (lv_sub hl [2, 3, 4, 5, 1, 0] rfl)
set_option maxHeartbeats 4000000 in
set_option maxRecDepth 100000 in
theorem c_X9_wouldLose (l : Launch) (G : GM) (ad : Nat → Nat) (ex : va_W) (st : ST) (g : Nat → Int32) (way : Nat) (a : Nat) (n : Nat) (hw : way < 2) (ha : a < 6) (hn : n ≤ 6) : MMi l G yX9_wouldLose cX9_wouldLose 7 (some .boolean) 2 [.ref (ad 0), .int (nI way), .int (nI a), .int (nI n)] ad ex (sA st 0 g) (bI (mWl g way a n)) (sA st 0 g) := by
  refine xi_start (by decide) (nar_bI _) (Nat.le_of_ble_eq_true rfl) ?_
  intro zp ze zs zm zargs zbelow zmeth zc zQ ls F N hl hret
  have hx := F.1
  have hb := F.2.1
  have hl : lv_has ls 7 [(0, .ref (ad 0)), (1, .int (nI way)), (2, .int (nI a)), (3, .int (nI n))] := hl
  refine lv_iconst (v := 0) hx hb dX9_wouldLose_0 (by decide) ?_
  refine lv_istore (lv' := [(4, .int 0), (0, .ref (ad 0)), (1, .int (nI way)), (2, .int (nI a)), (3, .int (nI n))]) hx hb dX9_wouldLose_1 hl (by decide) rfl (fun ls hl => ?_)
  refine lv_iload_n hx hb dX9_wouldLose_3 rfl (lv_at hl 3 rfl) ?_
  refine lv_istore (lv' := [(5, .int (nI a)), (4, .int 0), (0, .ref (ad 0)), (1, .int (nI way)), (2, .int (nI a)), (3, .int (nI n))]) hx hb dX9_wouldLose_4 hl (by decide) rfl (fun ls hl => ?_)
  have cut_6 : ∀ (k : Nat) (b : Bool) (i : Nat), i + k = 6 → lp (fun line b => lp (mWF g way n line) 6 0 b) k i b = mWl g way a n → ∀ (H : Heap) (locs : List Loc) (ls : Array Slot), Now G zs (MW G ad (sA st 0 g) ++ ex) H locs → lv_has ls 7 [(0, .ref (ad 0)), (1, .int (nI way)), (2, .int (nI a)), (3, .int (nI n)), (4, .int (bI b)), (5, .int (nI i))] → W zp l ze (RM 2) zs zm zargs zbelow zmeth zc H locs 0 0 zQ (F0 zm 6 ls []) := by
    intro k
    induction k with
    | zero =>
      intro b i hk hI H locs ls N hl
      refine lv_iload hx hb dX9_wouldLose_6 (lv_at hl 5 rfl) ?_
      refine lv_bipush (v := 6) hx hb dX9_wouldLose_8 (by decide) ?_
      refine cmpN_ge (a := i) (b := 6) (tgt := 71) hx hb dX9_wouldLose_10 (by decide) (by omega) (by omega) (fun c_10 => ?_) (fun c_10 => ?_)
      · have c_10v := Nat.not_lt.mpr c_10
        refine lv_iload hx hb dX9_wouldLose_71 (lv_at hl 4 rfl) ?_
        exact hret _ _ _ _ _ _ dX9_wouldLose_73 (by rw [← hI]; rfl) (by rfl) N
      · exfalso; omega
    | succ k ih_6 =>
      intro b i hk hI H locs ls N hl
      refine lv_iload hx hb dX9_wouldLose_6 (lv_at hl 5 rfl) ?_
      refine lv_bipush (v := 6) hx hb dX9_wouldLose_8 (by decide) ?_
      refine cmpN_ge (a := i) (b := 6) (tgt := 71) hx hb dX9_wouldLose_10 (by decide) (by omega) (by omega) (fun c_10 => ?_) (fun c_10 => ?_)
      · exfalso; omega
      · have c_10v := Nat.not_le.mp c_10
        refine lv_iconst (v := 0) hx hb dX9_wouldLose_13 (by decide) ?_
        refine lv_istore (lv' := [(6, .int 0), (0, .ref (ad 0)), (1, .int (nI way)), (2, .int (nI a)), (3, .int (nI n)), (4, .int (bI b)), (5, .int (nI i))]) hx hb dX9_wouldLose_14 hl (by decide) rfl (fun ls hl => ?_)
        have cut_16 : ∀ (k2 : Nat) (b2 : Bool) (j : Nat), j + k2 = 6 → lp (mWF g way n i) k2 j b2 = lp (mWF g way n i) 6 0 b → ∀ (H : Heap) (locs : List Loc) (ls : Array Slot), Now G zs (MW G ad (sA st 0 g) ++ ex) H locs → lv_has ls 7 [(0, .ref (ad 0)), (1, .int (nI way)), (2, .int (nI a)), (3, .int (nI n)), (4, .int (bI b2)), (5, .int (nI i)), (6, .int (nI j))] → W zp l ze (RM 2) zs zm zargs zbelow zmeth zc H locs 0 0 zQ (F0 zm 16 ls []) := by
          intro k2
          induction k2 with
          | zero =>
            intro b2 j hk2 hJ H locs ls N hl
            refine lv_iload hx hb dX9_wouldLose_16 (lv_at hl 6 rfl) ?_
            refine lv_bipush (v := 6) hx hb dX9_wouldLose_18 (by decide) ?_
            refine cmpN_ge (a := j) (b := 6) (tgt := 65) hx hb dX9_wouldLose_20 (by decide) (by omega) (by omega) (fun c_20 => ?_) (fun c_20 => ?_)
            · have c_20v := Nat.not_lt.mpr c_20
              refine lv_iinc (v := (nI (i + 1))) (lv' := [(5, .int (nI (i + 1))), (0, .ref (ad 0)), (1, .int (nI way)), (2, .int (nI a)), (3, .int (nI n)), (4, .int (bI b2)), (6, .int (nI j))]) hx hb dX9_wouldLose_65 hl (k := 5) rfl (nI_1 i) (by decide) rfl (fun ls hl => ?_)
              refine lv_goto (tgt := 6) hx hb dX9_wouldLose_68 (by decide) ?_
              exact ih_6 b2 (i + 1) (by omega) (by rw [← hI, lp_s, ← hJ]; rfl) _ _ _ N (lv_sub hl [1, 2, 3, 4, 5, 0] rfl)
            · exfalso; omega
          | succ k2 ih_16 =>
            intro b2 j hk2 hJ H locs ls N hl
            refine lv_iload hx hb dX9_wouldLose_16 (lv_at hl 6 rfl) ?_
            refine lv_bipush (v := 6) hx hb dX9_wouldLose_18 (by decide) ?_
            refine cmpN_ge (a := j) (b := 6) (tgt := 65) hx hb dX9_wouldLose_20 (by decide) (by omega) (by omega) (fun c_20 => ?_) (fun c_20 => ?_)
            · exfalso; omega
            · have c_20v := Nat.not_le.mp c_20
              refine lv_iload hx hb dX9_wouldLose_23 (lv_at hl 4 rfl) ?_
              refine ifB_ne (tgt := 52) hx hb dX9_wouldLose_25 (by decide) (fun c_25 => ?_) (fun c_25 => ?_)
              · refine lv_iconst (v := 1) hx hb dX9_wouldLose_52 (by decide) ?_
                refine lv_goto (tgt := 57) hx hb dX9_wouldLose_53 (by decide) ?_
                refine lv_istore (lv' := [(4, .int 1), (0, .ref (ad 0)), (1, .int (nI way)), (2, .int (nI a)), (3, .int (nI n)), (5, .int (nI i)), (6, .int (nI j))]) hx hb dX9_wouldLose_57 hl (by decide) rfl (fun ls hl => ?_)
                refine lv_iinc (v := (nI (j + 1))) (lv' := [(6, .int (nI (j + 1))), (4, .int 1), (0, .ref (ad 0)), (1, .int (nI way)), (2, .int (nI a)), (3, .int (nI n)), (5, .int (nI i))]) hx hb dX9_wouldLose_59 hl (k := 6) rfl (nI_1 j) (by decide) rfl (fun ls hl => ?_)
                refine lv_goto (tgt := 16) hx hb dX9_wouldLose_62 (by decide) ?_
                exact ih_16 true (j + 1) (by omega) (by rw [← hJ, lp_s]; exact congrArg _ (by simp [mWF, c_20, c_20v, c_25])) _ _ _ N (lv_sub hl [2, 3, 4, 5, 1, 6, 0] rfl)
              · refine lv_iload hx hb dX9_wouldLose_28 (lv_at hl 5 rfl) ?_
                refine lv_iload_n hx hb dX9_wouldLose_30 rfl (lv_at hl 3 rfl) ?_
                refine iaddN (a := i) (b := n) hx hb dX9_wouldLose_31 ?_
                refine lv_iconst (v := 5) hx hb dX9_wouldLose_32 (by decide) ?_
                refine cmpN_le (a := (i + n)) (b := 5) (tgt := 56) hx hb dX9_wouldLose_33 (by decide) (by omega) (by omega) (fun c_33 => ?_) (fun c_33 => ?_)
                · have c_33v := Nat.not_lt.mpr c_33
                  refine lv_iconst (v := 0) hx hb dX9_wouldLose_56 (by decide) ?_
                  refine lv_istore (lv' := [(4, .int 0), (0, .ref (ad 0)), (1, .int (nI way)), (2, .int (nI a)), (3, .int (nI n)), (5, .int (nI i)), (6, .int (nI j))]) hx hb dX9_wouldLose_57 hl (by decide) rfl (fun ls hl => ?_)
                  refine lv_iinc (v := (nI (j + 1))) (lv' := [(6, .int (nI (j + 1))), (4, .int 0), (0, .ref (ad 0)), (1, .int (nI way)), (2, .int (nI a)), (3, .int (nI n)), (5, .int (nI i))]) hx hb dX9_wouldLose_59 hl (k := 6) rfl (nI_1 j) (by decide) rfl (fun ls hl => ?_)
                  refine lv_goto (tgt := 16) hx hb dX9_wouldLose_62 (by decide) ?_
                  exact ih_16 false (j + 1) (by omega) (by rw [← hJ, lp_s]; exact congrArg _ (by simp [mWF, c_20, c_20v, c_25, c_33, c_33v])) _ _ _ N (lv_sub hl [2, 3, 4, 5, 1, 6, 0] rfl)
                · have c_33v := Nat.not_le.mp c_33
                  refine lv_aload_n hx hb dX9_wouldLose_36 rfl (lv_at hl 0 rfl) ?_
                  refine gm_0_now F N k_682 dX9_wouldLose_37 ?_
                  refine lv_iload_n hx hb dX9_wouldLose_40 rfl (lv_at hl 1 rfl) ?_
                  refine lv_iload hx hb dX9_wouldLose_41 (lv_at hl 5 rfl) ?_
                  refine lv_iload hx hb dX9_wouldLose_43 (lv_at hl 6 rfl) ?_
                  refine cS_i F N (c_X9_cellBy l G _ way i j hw) miX9_cellBy k_840 (by decide) hl.1 rfl (Nat.le_of_ble_eq_true rfl) dX9_wouldLose_45 (fun H locs N => ?_)
                  refine amN_0 (j := (mCb way i j)) F N (by have h9 := mCb_le (way := way) (show i < 6 by omega) (show j < 6 by omega); omega) dX9_wouldLose_48 ?_
                  refine toI (y := g (mCb way i j)) rfl ?_
                  refine lv_if_le (tgt := 56) hx hb dX9_wouldLose_49 (by decide) (fun c_49 => ?_) (fun c_49 => ?_)
                  · have c_49v := le_nlt c_49
                    refine lv_iconst (v := 0) hx hb dX9_wouldLose_56 (by decide) ?_
                    refine lv_istore (lv' := [(4, .int 0), (0, .ref (ad 0)), (1, .int (nI way)), (2, .int (nI a)), (3, .int (nI n)), (5, .int (nI i)), (6, .int (nI j))]) hx hb dX9_wouldLose_57 hl (by decide) rfl (fun ls hl => ?_)
                    refine lv_iinc (v := (nI (j + 1))) (lv' := [(6, .int (nI (j + 1))), (4, .int 0), (0, .ref (ad 0)), (1, .int (nI way)), (2, .int (nI a)), (3, .int (nI n)), (5, .int (nI i))]) hx hb dX9_wouldLose_59 hl (k := 6) rfl (nI_1 j) (by decide) rfl (fun ls hl => ?_)
                    refine lv_goto (tgt := 16) hx hb dX9_wouldLose_62 (by decide) ?_
                    exact ih_16 false (j + 1) (by omega) (by rw [← hJ, lp_s]; exact congrArg _ (by simp [mWF, c_20, c_20v, c_25, c_33, c_33v, c_49, c_49v])) _ _ _ N (lv_sub hl [2, 3, 4, 5, 1, 6, 0] rfl)
                  · have c_49v := nle_lt c_49
                    refine lv_iconst (v := 1) hx hb dX9_wouldLose_52 (by decide) ?_
                    refine lv_goto (tgt := 57) hx hb dX9_wouldLose_53 (by decide) ?_
                    refine lv_istore (lv' := [(4, .int 1), (0, .ref (ad 0)), (1, .int (nI way)), (2, .int (nI a)), (3, .int (nI n)), (5, .int (nI i)), (6, .int (nI j))]) hx hb dX9_wouldLose_57 hl (by decide) rfl (fun ls hl => ?_)
                    refine lv_iinc (v := (nI (j + 1))) (lv' := [(6, .int (nI (j + 1))), (4, .int 1), (0, .ref (ad 0)), (1, .int (nI way)), (2, .int (nI a)), (3, .int (nI n)), (5, .int (nI i))]) hx hb dX9_wouldLose_59 hl (k := 6) rfl (nI_1 j) (by decide) rfl (fun ls hl => ?_)
                    refine lv_goto (tgt := 16) hx hb dX9_wouldLose_62 (by decide) ?_
                    exact ih_16 true (j + 1) (by omega) (by rw [← hJ, lp_s]; exact congrArg _ (by simp [mWF, c_20, c_20v, c_25, c_33, c_33v, c_49, c_49v])) _ _ _ N (lv_sub hl [2, 3, 4, 5, 1, 6, 0] rfl)
        exact cut_16 6 b 0 (by omega) rfl _ _ _ N (lv_sub hl [1, 2, 3, 4, 5, 6, 0] rfl)
  exact cut_6 (6 - a) false a (by omega) rfl _ _ _ N (lv_sub hl [2, 3, 4, 5, 1, 0] rfl)
set_option maxHeartbeats 4000000 in
set_option maxRecDepth 100000 in
theorem c_X9_liesIn (l : Launch) (G : GM) (ad : Nat → Nat) (ex : va_W) (st : ST) (g : Nat → Int32) (ta : Nat) (c : Nat) (r : Nat) (wd : Nat) (ht : Nat) (hta : ta + 6 ≤ 900) : MMi l G yX9_liesIn cX9_liesIn 8 (some .boolean) 0 [.ref (ad 0), .int (nI ta), .int (nI c), .int (nI r), .int (nI wd), .int (nI ht)] ad ex (sA st 0 g) (bI (mLi g ta c r wd ht)) (sA st 0 g) := by
  refine xi_start (by decide) (nar_bI _) (Nat.le_of_ble_eq_true rfl) ?_
  intro zp ze zs zm zargs zbelow zmeth zc zQ ls F N hl hret
  have hx := F.1
  have hb := F.2.1
  have hl : lv_has ls 8 [(0, .ref (ad 0)), (1, .int (nI ta)), (2, .int (nI c)), (3, .int (nI r)), (4, .int (nI wd)), (5, .int (nI ht))] := hl
  refine lv_aload_n hx hb dX9_liesIn_0 rfl (lv_at hl 0 rfl) ?_
  refine gm_0_now F N k_682 dX9_liesIn_1 ?_
  refine lv_iload_n hx hb dX9_liesIn_4 rfl (lv_at hl 1 rfl) ?_
  refine lv_iconst (v := 0) hx hb dX9_liesIn_5 (by decide) ?_
  refine iaddN (a := ta) (b := 0) hx hb dX9_liesIn_6 ?_
  refine amN_0 (j := (ta + 0)) F N (by omega) dX9_liesIn_7 ?_
  refine toI (y := g (ta + 0)) rfl ?_
  refine lv_iconst (v := 2) hx hb dX9_liesIn_8 (by decide) ?_
  refine lv_icmp_ne (tgt := 23) hx hb dX9_liesIn_9 (by decide) (fun c_9 => ?_) (fun c_9 => ?_)
  · refine lv_aload_n hx hb dX9_liesIn_23 rfl (lv_at hl 0 rfl) ?_
    refine gm_0_now F N k_682 dX9_liesIn_24 ?_
    refine lv_iload_n hx hb dX9_liesIn_27 rfl (lv_at hl 1 rfl) ?_
    refine lv_iconst (v := 1) hx hb dX9_liesIn_28 (by decide) ?_
    refine iaddN (a := ta) (b := 1) hx hb dX9_liesIn_29 ?_
    refine amN_0 (j := (ta + 1)) F N (by omega) dX9_liesIn_30 ?_
    refine toI (y := g (ta + 1)) rfl ?_
    refine lv_istore (lv' := [(6, .int (g (ta + 1))), (0, .ref (ad 0)), (1, .int (nI ta)), (2, .int (nI c)), (3, .int (nI r)), (4, .int (nI wd)), (5, .int (nI ht))]) hx hb dX9_liesIn_31 hl (by decide) rfl (fun ls hl => ?_)
    refine lv_aload_n hx hb dX9_liesIn_33 rfl (lv_at hl 1 rfl) ?_
    refine gm_0_now F N k_682 dX9_liesIn_34 ?_
    refine lv_iload_n hx hb dX9_liesIn_37 rfl (lv_at hl 2 rfl) ?_
    refine lv_iconst (v := 0) hx hb dX9_liesIn_38 (by decide) ?_
    refine iaddN (a := ta) (b := 0) hx hb dX9_liesIn_39 ?_
    refine amN_0 (j := (ta + 0)) F N (by omega) dX9_liesIn_40 ?_
    refine toI (y := g (ta + 0)) rfl ?_
    refine lv_iconst (v := 2) hx hb dX9_liesIn_41 (by decide) ?_
    refine lv_icmp_ne (tgt := 56) hx hb dX9_liesIn_42 (by decide) (fun c_42 => ?_) (fun c_42 => ?_)
    · refine lv_aload_n hx hb dX9_liesIn_56 rfl (lv_at hl 1 rfl) ?_
      refine gm_0_now F N k_682 dX9_liesIn_57 ?_
      refine lv_iload_n hx hb dX9_liesIn_60 rfl (lv_at hl 2 rfl) ?_
      refine lv_iconst (v := 2) hx hb dX9_liesIn_61 (by decide) ?_
      refine iaddN (a := ta) (b := 2) hx hb dX9_liesIn_62 ?_
      refine amN_0 (j := (ta + 2)) F N (by omega) dX9_liesIn_63 ?_
      refine toI (y := g (ta + 2)) rfl ?_
      refine lv_istore (lv' := [(7, .int (g (ta + 2))), (6, .int (g (ta + 1))), (0, .ref (ad 0)), (1, .int (nI ta)), (2, .int (nI c)), (3, .int (nI r)), (4, .int (nI wd)), (5, .int (nI ht))]) hx hb dX9_liesIn_64 hl (by decide) rfl (fun ls hl => ?_)
      refine lv_aload_n hx hb dX9_liesIn_66 rfl (lv_at hl 2 rfl) ?_
      refine gm_0_now F N k_682 dX9_liesIn_67 ?_
      refine lv_iload_n hx hb dX9_liesIn_70 rfl (lv_at hl 3 rfl) ?_
      refine lv_iconst (v := 1) hx hb dX9_liesIn_71 (by decide) ?_
      refine iaddN (a := ta) (b := 1) hx hb dX9_liesIn_72 ?_
      refine amN_0 (j := (ta + 1)) F N (by omega) dX9_liesIn_73 ?_
      refine toI (y := g (ta + 1)) rfl ?_
      refine lv_iload_n hx hb dX9_liesIn_74 rfl (lv_at hl 4 rfl) ?_
      refine lv_icmp_lt (tgt := 112) hx hb dX9_liesIn_75 (by decide) (fun c_75 => ?_) (fun c_75 => ?_)
      · have c_75v := lt_nle c_75
        refine lv_iconst (v := 0) hx hb dX9_liesIn_112 (by decide) ?_
        exact hret _ _ _ _ _ _ dX9_liesIn_113 (by simp only [mLi, bI, c_9, c_42, c_75, c_75v, if_true, if_false, Bool.not_true, Bool.not_false, Bool.true_and, Bool.false_and, Bool.and_true, Bool.and_false, decide_true, decide_false, Bool.false_eq_true]) (by rfl) N
      · have c_75v := nlt_le c_75
        refine lv_iload hx hb dX9_liesIn_78 (lv_at hl 1 rfl) ?_
        refine lv_iload_n hx hb dX9_liesIn_80 rfl (lv_at hl 4 rfl) ?_
        refine lv_iload hx hb dX9_liesIn_81 (lv_at hl 6 rfl) ?_
        refine iaddN (a := c) (b := wd) hx hb dX9_liesIn_83 ?_
        refine lv_icmp_ge (tgt := 112) hx hb dX9_liesIn_84 (by decide) (fun c_84 => ?_) (fun c_84 => ?_)
        · have c_84v := le_nlt c_84
          refine lv_iconst (v := 0) hx hb dX9_liesIn_112 (by decide) ?_
          exact hret _ _ _ _ _ _ dX9_liesIn_113 (by simp only [mLi, bI, c_9, c_42, c_75, c_75v, c_84, c_84v, if_true, if_false, Bool.not_true, Bool.not_false, Bool.true_and, Bool.false_and, Bool.and_true, Bool.and_false, decide_true, decide_false, Bool.false_eq_true]) (by rfl) N
        · have c_84v := nle_lt c_84
          refine lv_aload_n hx hb dX9_liesIn_87 rfl (lv_at hl 2 rfl) ?_
          refine gm_0_now F N k_682 dX9_liesIn_88 ?_
          refine lv_iload_n hx hb dX9_liesIn_91 rfl (lv_at hl 3 rfl) ?_
          refine lv_iconst (v := 2) hx hb dX9_liesIn_92 (by decide) ?_
          refine iaddN (a := ta) (b := 2) hx hb dX9_liesIn_93 ?_
          refine amN_0 (j := (ta + 2)) F N (by omega) dX9_liesIn_94 ?_
          refine toI (y := g (ta + 2)) rfl ?_
          refine lv_iload_n hx hb dX9_liesIn_95 rfl (lv_at hl 5 rfl) ?_
          refine lv_icmp_lt (tgt := 112) hx hb dX9_liesIn_96 (by decide) (fun c_96 => ?_) (fun c_96 => ?_)
          · have c_96v := lt_nle c_96
            refine lv_iconst (v := 0) hx hb dX9_liesIn_112 (by decide) ?_
            exact hret _ _ _ _ _ _ dX9_liesIn_113 (by simp only [mLi, bI, c_9, c_42, c_75, c_75v, c_84, c_84v, c_96, c_96v, if_true, if_false, Bool.not_true, Bool.not_false, Bool.true_and, Bool.false_and, Bool.and_true, Bool.and_false, decide_true, decide_false, Bool.false_eq_true]) (by rfl) N
          · have c_96v := nlt_le c_96
            refine lv_iload hx hb dX9_liesIn_99 (lv_at hl 0 rfl) ?_
            refine lv_iload_n hx hb dX9_liesIn_101 rfl (lv_at hl 5 rfl) ?_
            refine lv_iload hx hb dX9_liesIn_102 (lv_at hl 7 rfl) ?_
            refine iaddN (a := r) (b := ht) hx hb dX9_liesIn_104 ?_
            refine lv_icmp_ge (tgt := 112) hx hb dX9_liesIn_105 (by decide) (fun c_105 => ?_) (fun c_105 => ?_)
            · have c_105v := le_nlt c_105
              refine lv_iconst (v := 0) hx hb dX9_liesIn_112 (by decide) ?_
              exact hret _ _ _ _ _ _ dX9_liesIn_113 (by simp only [mLi, bI, c_9, c_42, c_75, c_75v, c_84, c_84v, c_96, c_96v, c_105, c_105v, if_true, if_false, Bool.not_true, Bool.not_false, Bool.true_and, Bool.false_and, Bool.and_true, Bool.and_false, decide_true, decide_false, Bool.false_eq_true]) (by rfl) N
            · have c_105v := nle_lt c_105
              refine lv_iconst (v := 1) hx hb dX9_liesIn_108 (by decide) ?_
              refine lv_goto (tgt := 113) hx hb dX9_liesIn_109 (by decide) ?_
              exact hret _ _ _ _ _ _ dX9_liesIn_113 (by simp only [mLi, bI, c_9, c_42, c_75, c_75v, c_84, c_84v, c_96, c_96v, c_105, c_105v, if_true, if_false, Bool.not_true, Bool.not_false, Bool.true_and, Bool.false_and, Bool.and_true, Bool.and_false, decide_true, decide_false, Bool.false_eq_true]) (by rfl) N
    · first | exact absurd c_9 c_42 | exact absurd c_42 c_9
  · refine lv_aload_n hx hb dX9_liesIn_12 rfl (lv_at hl 0 rfl) ?_
    refine gm_0_now F N k_682 dX9_liesIn_13 ?_
    refine lv_iload_n hx hb dX9_liesIn_16 rfl (lv_at hl 1 rfl) ?_
    refine lv_iconst (v := 3) hx hb dX9_liesIn_17 (by decide) ?_
    refine iaddN (a := ta) (b := 3) hx hb dX9_liesIn_18 ?_
    refine amN_0 (j := (ta + 3)) F N (by omega) dX9_liesIn_19 ?_
    refine toI (y := g (ta + 3)) rfl ?_
    refine lv_goto (tgt := 31) hx hb dX9_liesIn_20 (by decide) ?_
    refine lv_istore (lv' := [(6, .int (g (ta + 3))), (0, .ref (ad 0)), (1, .int (nI ta)), (2, .int (nI c)), (3, .int (nI r)), (4, .int (nI wd)), (5, .int (nI ht))]) hx hb dX9_liesIn_31 hl (by decide) rfl (fun ls hl => ?_)
    refine lv_aload_n hx hb dX9_liesIn_33 rfl (lv_at hl 1 rfl) ?_
    refine gm_0_now F N k_682 dX9_liesIn_34 ?_
    refine lv_iload_n hx hb dX9_liesIn_37 rfl (lv_at hl 2 rfl) ?_
    refine lv_iconst (v := 0) hx hb dX9_liesIn_38 (by decide) ?_
    refine iaddN (a := ta) (b := 0) hx hb dX9_liesIn_39 ?_
    refine amN_0 (j := (ta + 0)) F N (by omega) dX9_liesIn_40 ?_
    refine toI (y := g (ta + 0)) rfl ?_
    refine lv_iconst (v := 2) hx hb dX9_liesIn_41 (by decide) ?_
    refine lv_icmp_ne (tgt := 56) hx hb dX9_liesIn_42 (by decide) (fun c_42 => ?_) (fun c_42 => ?_)
    · first | exact absurd c_9 c_42 | exact absurd c_42 c_9
    · refine lv_aload_n hx hb dX9_liesIn_45 rfl (lv_at hl 1 rfl) ?_
      refine gm_0_now F N k_682 dX9_liesIn_46 ?_
      refine lv_iload_n hx hb dX9_liesIn_49 rfl (lv_at hl 2 rfl) ?_
      refine lv_iconst (v := 4) hx hb dX9_liesIn_50 (by decide) ?_
      refine iaddN (a := ta) (b := 4) hx hb dX9_liesIn_51 ?_
      refine amN_0 (j := (ta + 4)) F N (by omega) dX9_liesIn_52 ?_
      refine toI (y := g (ta + 4)) rfl ?_
      refine lv_goto (tgt := 64) hx hb dX9_liesIn_53 (by decide) ?_
      refine lv_istore (lv' := [(7, .int (g (ta + 4))), (6, .int (g (ta + 3))), (0, .ref (ad 0)), (1, .int (nI ta)), (2, .int (nI c)), (3, .int (nI r)), (4, .int (nI wd)), (5, .int (nI ht))]) hx hb dX9_liesIn_64 hl (by decide) rfl (fun ls hl => ?_)
      refine lv_aload_n hx hb dX9_liesIn_66 rfl (lv_at hl 2 rfl) ?_
      refine gm_0_now F N k_682 dX9_liesIn_67 ?_
      refine lv_iload_n hx hb dX9_liesIn_70 rfl (lv_at hl 3 rfl) ?_
      refine lv_iconst (v := 1) hx hb dX9_liesIn_71 (by decide) ?_
      refine iaddN (a := ta) (b := 1) hx hb dX9_liesIn_72 ?_
      refine amN_0 (j := (ta + 1)) F N (by omega) dX9_liesIn_73 ?_
      refine toI (y := g (ta + 1)) rfl ?_
      refine lv_iload_n hx hb dX9_liesIn_74 rfl (lv_at hl 4 rfl) ?_
      refine lv_icmp_lt (tgt := 112) hx hb dX9_liesIn_75 (by decide) (fun c_75 => ?_) (fun c_75 => ?_)
      · have c_75v := lt_nle c_75
        refine lv_iconst (v := 0) hx hb dX9_liesIn_112 (by decide) ?_
        exact hret _ _ _ _ _ _ dX9_liesIn_113 (by simp only [mLi, bI, c_9, c_42, c_75, c_75v, if_true, if_false, Bool.not_true, Bool.not_false, Bool.true_and, Bool.false_and, Bool.and_true, Bool.and_false, decide_true, decide_false, Bool.false_eq_true]) (by rfl) N
      · have c_75v := nlt_le c_75
        refine lv_iload hx hb dX9_liesIn_78 (lv_at hl 1 rfl) ?_
        refine lv_iload_n hx hb dX9_liesIn_80 rfl (lv_at hl 4 rfl) ?_
        refine lv_iload hx hb dX9_liesIn_81 (lv_at hl 6 rfl) ?_
        refine iaddN (a := c) (b := wd) hx hb dX9_liesIn_83 ?_
        refine lv_icmp_ge (tgt := 112) hx hb dX9_liesIn_84 (by decide) (fun c_84 => ?_) (fun c_84 => ?_)
        · have c_84v := le_nlt c_84
          refine lv_iconst (v := 0) hx hb dX9_liesIn_112 (by decide) ?_
          exact hret _ _ _ _ _ _ dX9_liesIn_113 (by simp only [mLi, bI, c_9, c_42, c_75, c_75v, c_84, c_84v, if_true, if_false, Bool.not_true, Bool.not_false, Bool.true_and, Bool.false_and, Bool.and_true, Bool.and_false, decide_true, decide_false, Bool.false_eq_true]) (by rfl) N
        · have c_84v := nle_lt c_84
          refine lv_aload_n hx hb dX9_liesIn_87 rfl (lv_at hl 2 rfl) ?_
          refine gm_0_now F N k_682 dX9_liesIn_88 ?_
          refine lv_iload_n hx hb dX9_liesIn_91 rfl (lv_at hl 3 rfl) ?_
          refine lv_iconst (v := 2) hx hb dX9_liesIn_92 (by decide) ?_
          refine iaddN (a := ta) (b := 2) hx hb dX9_liesIn_93 ?_
          refine amN_0 (j := (ta + 2)) F N (by omega) dX9_liesIn_94 ?_
          refine toI (y := g (ta + 2)) rfl ?_
          refine lv_iload_n hx hb dX9_liesIn_95 rfl (lv_at hl 5 rfl) ?_
          refine lv_icmp_lt (tgt := 112) hx hb dX9_liesIn_96 (by decide) (fun c_96 => ?_) (fun c_96 => ?_)
          · have c_96v := lt_nle c_96
            refine lv_iconst (v := 0) hx hb dX9_liesIn_112 (by decide) ?_
            exact hret _ _ _ _ _ _ dX9_liesIn_113 (by simp only [mLi, bI, c_9, c_42, c_75, c_75v, c_84, c_84v, c_96, c_96v, if_true, if_false, Bool.not_true, Bool.not_false, Bool.true_and, Bool.false_and, Bool.and_true, Bool.and_false, decide_true, decide_false, Bool.false_eq_true]) (by rfl) N
          · have c_96v := nlt_le c_96
            refine lv_iload hx hb dX9_liesIn_99 (lv_at hl 0 rfl) ?_
            refine lv_iload_n hx hb dX9_liesIn_101 rfl (lv_at hl 5 rfl) ?_
            refine lv_iload hx hb dX9_liesIn_102 (lv_at hl 7 rfl) ?_
            refine iaddN (a := r) (b := ht) hx hb dX9_liesIn_104 ?_
            refine lv_icmp_ge (tgt := 112) hx hb dX9_liesIn_105 (by decide) (fun c_105 => ?_) (fun c_105 => ?_)
            · have c_105v := le_nlt c_105
              refine lv_iconst (v := 0) hx hb dX9_liesIn_112 (by decide) ?_
              exact hret _ _ _ _ _ _ dX9_liesIn_113 (by simp only [mLi, bI, c_9, c_42, c_75, c_75v, c_84, c_84v, c_96, c_96v, c_105, c_105v, if_true, if_false, Bool.not_true, Bool.not_false, Bool.true_and, Bool.false_and, Bool.and_true, Bool.and_false, decide_true, decide_false, Bool.false_eq_true]) (by rfl) N
            · have c_105v := nle_lt c_105
              refine lv_iconst (v := 1) hx hb dX9_liesIn_108 (by decide) ?_
              refine lv_goto (tgt := 113) hx hb dX9_liesIn_109 (by decide) ?_
              exact hret _ _ _ _ _ _ dX9_liesIn_113 (by simp only [mLi, bI, c_9, c_42, c_75, c_75v, c_84, c_84v, c_96, c_96v, c_105, c_105v, if_true, if_false, Bool.not_true, Bool.not_false, Bool.true_and, Bool.false_and, Bool.and_true, Bool.and_false, decide_true, decide_false, Bool.false_eq_true]) (by rfl) N
set_option maxHeartbeats 4000000 in
set_option maxRecDepth 100000 in
theorem c_X9_pushes (l : Launch) (G : GM) (ad : Nat → Nat) (ex : va_W) (st : ST) (g : Nat → Int32) (ta : Nat) (ac : Int32) (dn : Int32) (hta : ta + 6 ≤ 900) : MMv l G yX9_pushes cX9_pushes 4 none 0 [.ref (ad 0), .int (nI ta), .int ac, .int dn] ad ex (sA st 0 g) (sA st 0 (mPu g ta ac dn)) := by
  refine xv_start (by decide) (Nat.le_of_ble_eq_true rfl) ?_
  intro zp ze zs zm zargs zbelow zmeth zc zQ ls F N hl hret
  have hx := F.1
  have hb := F.2.1
  have hl : lv_has ls 4 [(0, .ref (ad 0)), (1, .int (nI ta)), (2, .int ac), (3, .int dn)] := hl
  refine lv_aload_n hx hb dX9_pushes_0 rfl (lv_at hl 0 rfl) ?_
  refine gm_0_now F N k_682 dX9_pushes_1 ?_
  refine lv_iload_n hx hb dX9_pushes_4 rfl (lv_at hl 1 rfl) ?_
  refine lv_iconst (v := 1) hx hb dX9_pushes_5 (by decide) ?_
  refine iaddN (a := ta) (b := 1) hx hb dX9_pushes_6 ?_
  refine lv_dup2_11 hx hb dX9_pushes_7 rfl rfl ?_
  refine amN_0 (j := (ta + 1)) F N (by omega) dX9_pushes_8 ?_
  refine toI (y := g (ta + 1)) rfl ?_
  refine lv_iload_n hx hb dX9_pushes_9 rfl (lv_at hl 2 rfl) ?_
  refine lv_iadd hx hb dX9_pushes_10 ?_
  refine smN_0 (j := (ta + 1)) F N (by omega) dX9_pushes_11 (fun st_11 est_11 H locs N => ?_)
  replace N := eqM N (est_11.trans (sA_sA st 0 g (upd g (ta + 1) ((g (ta + 1)) + ac))))
  refine lv_aload_n hx hb dX9_pushes_12 rfl (lv_at hl 0 rfl) ?_
  refine gm_0_now F N k_682 dX9_pushes_13 ?_
  refine lv_iload_n hx hb dX9_pushes_16 rfl (lv_at hl 1 rfl) ?_
  refine lv_iconst (v := 2) hx hb dX9_pushes_17 (by decide) ?_
  refine iaddN (a := ta) (b := 2) hx hb dX9_pushes_18 ?_
  refine lv_dup2_11 hx hb dX9_pushes_19 rfl rfl ?_
  refine amN_0 (j := (ta + 2)) F N (by omega) dX9_pushes_20 ?_
  refine toI (y := (upd g (ta + 1) ((g (ta + 1)) + ac)) (ta + 2)) rfl ?_
  refine lv_iload_n hx hb dX9_pushes_21 rfl (lv_at hl 3 rfl) ?_
  refine lv_iadd hx hb dX9_pushes_22 ?_
  refine smN_0 (j := (ta + 2)) F N (by omega) dX9_pushes_23 (fun st_23 est_23 H locs N => ?_)
  replace N := eqM N (est_23.trans (sA_sA st 0 (upd g (ta + 1) ((g (ta + 1)) + ac)) (upd (upd g (ta + 1) ((g (ta + 1)) + ac)) (ta + 2) (((upd g (ta + 1) ((g (ta + 1)) + ac)) (ta + 2)) + dn))))
  refine lv_aload_n hx hb dX9_pushes_24 rfl (lv_at hl 0 rfl) ?_
  refine gm_0_now F N k_682 dX9_pushes_25 ?_
  refine lv_iload_n hx hb dX9_pushes_28 rfl (lv_at hl 1 rfl) ?_
  refine lv_iconst (v := 0) hx hb dX9_pushes_29 (by decide) ?_
  refine iaddN (a := ta) (b := 0) hx hb dX9_pushes_30 ?_
  refine amN_0 (j := (ta + 0)) F N (by omega) dX9_pushes_31 ?_
  refine toI (y := (upd (upd g (ta + 1) ((g (ta + 1)) + ac)) (ta + 2) (((upd g (ta + 1) ((g (ta + 1)) + ac)) (ta + 2)) + dn)) (ta + 0)) rfl ?_
  refine lv_iconst (v := 2) hx hb dX9_pushes_32 (by decide) ?_
  refine lv_icmp_ne (tgt := 60) hx hb dX9_pushes_33 (by decide) (fun c_33 => ?_) (fun c_33 => ?_)
  · exact hret _ _ _ _ _ dX9_pushes_60 (by first | (rw [mPu, if_neg (show ¬ mPu2 g ta ac dn (ta + 0) = 2 from c_33)]; rfl) | (rw [mPu, if_pos (show mPu2 g ta ac dn (ta + 0) = 2 from c_33)]; rfl)) N
  · refine lv_aload_n hx hb dX9_pushes_36 rfl (lv_at hl 0 rfl) ?_
    refine gm_0_now F N k_682 dX9_pushes_37 ?_
    refine lv_iload_n hx hb dX9_pushes_40 rfl (lv_at hl 1 rfl) ?_
    refine lv_iconst (v := 3) hx hb dX9_pushes_41 (by decide) ?_
    refine iaddN (a := ta) (b := 3) hx hb dX9_pushes_42 ?_
    refine lv_dup2_11 hx hb dX9_pushes_43 rfl rfl ?_
    refine amN_0 (j := (ta + 3)) F N (by omega) dX9_pushes_44 ?_
    refine toI (y := (upd (upd g (ta + 1) ((g (ta + 1)) + ac)) (ta + 2) (((upd g (ta + 1) ((g (ta + 1)) + ac)) (ta + 2)) + dn)) (ta + 3)) rfl ?_
    refine lv_iload_n hx hb dX9_pushes_45 rfl (lv_at hl 2 rfl) ?_
    refine lv_iadd hx hb dX9_pushes_46 ?_
    refine smN_0 (j := (ta + 3)) F N (by omega) dX9_pushes_47 (fun st_47 est_47 H locs N => ?_)
    replace N := eqM N (est_47.trans (sA_sA st 0 (upd (upd g (ta + 1) ((g (ta + 1)) + ac)) (ta + 2) (((upd g (ta + 1) ((g (ta + 1)) + ac)) (ta + 2)) + dn)) (upd (upd (upd g (ta + 1) ((g (ta + 1)) + ac)) (ta + 2) (((upd g (ta + 1) ((g (ta + 1)) + ac)) (ta + 2)) + dn)) (ta + 3) (((upd (upd g (ta + 1) ((g (ta + 1)) + ac)) (ta + 2) (((upd g (ta + 1) ((g (ta + 1)) + ac)) (ta + 2)) + dn)) (ta + 3)) + ac))))
    refine lv_aload_n hx hb dX9_pushes_48 rfl (lv_at hl 0 rfl) ?_
    refine gm_0_now F N k_682 dX9_pushes_49 ?_
    refine lv_iload_n hx hb dX9_pushes_52 rfl (lv_at hl 1 rfl) ?_
    refine lv_iconst (v := 4) hx hb dX9_pushes_53 (by decide) ?_
    refine iaddN (a := ta) (b := 4) hx hb dX9_pushes_54 ?_
    refine lv_dup2_11 hx hb dX9_pushes_55 rfl rfl ?_
    refine amN_0 (j := (ta + 4)) F N (by omega) dX9_pushes_56 ?_
    refine toI (y := (upd (upd (upd g (ta + 1) ((g (ta + 1)) + ac)) (ta + 2) (((upd g (ta + 1) ((g (ta + 1)) + ac)) (ta + 2)) + dn)) (ta + 3) (((upd (upd g (ta + 1) ((g (ta + 1)) + ac)) (ta + 2) (((upd g (ta + 1) ((g (ta + 1)) + ac)) (ta + 2)) + dn)) (ta + 3)) + ac)) (ta + 4)) rfl ?_
    refine lv_iload_n hx hb dX9_pushes_57 rfl (lv_at hl 3 rfl) ?_
    refine lv_iadd hx hb dX9_pushes_58 ?_
    refine smN_0 (j := (ta + 4)) F N (by omega) dX9_pushes_59 (fun st_59 est_59 H locs N => ?_)
    replace N := eqM N (est_59.trans (sA_sA st 0 (upd (upd (upd g (ta + 1) ((g (ta + 1)) + ac)) (ta + 2) (((upd g (ta + 1) ((g (ta + 1)) + ac)) (ta + 2)) + dn)) (ta + 3) (((upd (upd g (ta + 1) ((g (ta + 1)) + ac)) (ta + 2) (((upd g (ta + 1) ((g (ta + 1)) + ac)) (ta + 2)) + dn)) (ta + 3)) + ac)) (upd (upd (upd (upd g (ta + 1) ((g (ta + 1)) + ac)) (ta + 2) (((upd g (ta + 1) ((g (ta + 1)) + ac)) (ta + 2)) + dn)) (ta + 3) (((upd (upd g (ta + 1) ((g (ta + 1)) + ac)) (ta + 2) (((upd g (ta + 1) ((g (ta + 1)) + ac)) (ta + 2)) + dn)) (ta + 3)) + ac)) (ta + 4) (((upd (upd (upd g (ta + 1) ((g (ta + 1)) + ac)) (ta + 2) (((upd g (ta + 1) ((g (ta + 1)) + ac)) (ta + 2)) + dn)) (ta + 3) (((upd (upd g (ta + 1) ((g (ta + 1)) + ac)) (ta + 2) (((upd g (ta + 1) ((g (ta + 1)) + ac)) (ta + 2)) + dn)) (ta + 3)) + ac)) (ta + 4)) + dn))))
    exact hret _ _ _ _ _ dX9_pushes_60 (by first | (rw [mPu, if_neg (show ¬ mPu2 g ta ac dn (ta + 0) = 2 from c_33)]; rfl) | (rw [mPu, if_pos (show mPu2 g ta ac dn (ta + 0) = 2 from c_33)]; rfl)) N
set_option maxHeartbeats 4000000 in
set_option maxRecDepth 100000 in
theorem c_X9_goesOn (l : Launch) (G : GM) (ad : Nat → Nat) (ex : va_W) (st : ST) (g : Nat → Int32) (ta : Nat) (ac : Int32) (dn : Int32) (hta : ta + 6 ≤ 900) : MMv l G yX9_goesOn cX9_goesOn 6 none 2 [.ref (ad 0), .int (nI ta), .int ac, .int dn] ad ex (sA st 0 g) (sA st 0 (mGo g ta ac dn)) := by
  refine xv_start (by decide) (Nat.le_of_ble_eq_true rfl) ?_
  intro zp ze zs zm zargs zbelow zmeth zc zQ ls F N hl hret
  have hx := F.1
  have hb := F.2.1
  have hl : lv_has ls 6 [(0, .ref (ad 0)), (1, .int (nI ta)), (2, .int ac), (3, .int dn)] := hl
  refine lv_aload_n hx hb dX9_goesOn_0 rfl (lv_at hl 0 rfl) ?_
  refine gm_0_now F N k_682 dX9_goesOn_1 ?_
  refine lv_iload_n hx hb dX9_goesOn_4 rfl (lv_at hl 1 rfl) ?_
  refine lv_iconst (v := 5) hx hb dX9_goesOn_5 (by decide) ?_
  refine iaddN (a := ta) (b := 5) hx hb dX9_goesOn_6 ?_
  refine amN_0 (j := (ta + 5)) F N (by omega) dX9_goesOn_7 ?_
  refine toI (y := g (ta + 5)) rfl ?_
  refine lv_istore (lv' := [(4, .int (g (ta + 5))), (0, .ref (ad 0)), (1, .int (nI ta)), (2, .int ac), (3, .int dn)]) hx hb dX9_goesOn_8 hl (by decide) rfl (fun ls hl => ?_)
  have cut_31 : ∀ (H : Heap) (locs : List Loc) (ls : Array Slot), Now G zs (MW G ad (sA st 0 g) ++ ex) H locs → lv_has ls 6 [(0, .ref (ad 0)), (1, .int (nI ta)), (2, .int ac), (3, .int dn), (4, .int (g (ta + 5)))] → W zp l ze (RM 2) zs zm zargs zbelow zmeth zc H locs 0 0 zQ (F0 zm 31 ls [.int (mGoD (g (ta + 5)) 1 ac), .int (g (ta + 1)), .int (nI (ta + 1)), .ref (ad 1)]) := by
    intro  H locs ls N hl
    refine lv_iadd hx hb dX9_goesOn_31 ?_
    refine smN_0 (j := (ta + 1)) F N (by omega) dX9_goesOn_32 (fun st_32 est_32 H locs N => ?_)
    replace N := eqM N (est_32.trans (sA_sA st 0 g (upd g (ta + 1) ((g (ta + 1)) + (mGoD (g (ta + 5)) 1 ac)))))
    have cut_54 : ∀ (H : Heap) (locs : List Loc) (ls : Array Slot), Now G zs (MW G ad (sA st 0 (upd g (ta + 1) (g (ta + 1) + mGoD (g (ta + 5)) 1 ac))) ++ ex) H locs → lv_has ls 6 [(0, .ref (ad 0)), (1, .int (nI ta)), (2, .int ac), (3, .int dn), (4, .int (g (ta + 5)))] → W zp l ze (RM 2) zs zm zargs zbelow zmeth zc H locs 0 0 zQ (F0 zm 54 ls [.int (mGoD (g (ta + 5)) 2 dn), .int ((upd g (ta + 1) (g (ta + 1) + mGoD (g (ta + 5)) 1 ac)) (ta + 2)), .int (nI (ta + 2)), .ref (ad 1)]) := by
      intro  H locs ls N hl
      refine lv_iadd hx hb dX9_goesOn_54 ?_
      refine smN_0 (j := (ta + 2)) F N (by omega) dX9_goesOn_55 (fun st_55 est_55 H locs N => ?_)
      replace N := eqM N (est_55.trans (sA_sA st 0 (upd g (ta + 1) (g (ta + 1) + mGoD (g (ta + 5)) 1 ac)) (upd (upd g (ta + 1) (g (ta + 1) + mGoD (g (ta + 5)) 1 ac)) (ta + 2) (((upd g (ta + 1) (g (ta + 1) + mGoD (g (ta + 5)) 1 ac)) (ta + 2)) + (mGoD (g (ta + 5)) 2 dn)))))
      refine lv_aload_n hx hb dX9_goesOn_56 rfl (lv_at hl 0 rfl) ?_
      refine gm_0_now F N k_682 dX9_goesOn_57 ?_
      refine lv_iload_n hx hb dX9_goesOn_60 rfl (lv_at hl 1 rfl) ?_
      refine lv_iconst (v := 1) hx hb dX9_goesOn_61 (by decide) ?_
      refine iaddN (a := ta) (b := 1) hx hb dX9_goesOn_62 ?_
      refine amN_0 (j := (ta + 1)) F N (by omega) dX9_goesOn_63 ?_
      refine toI (y := (upd (upd g (ta + 1) (g (ta + 1) + mGoD (g (ta + 5)) 1 ac)) (ta + 2) (((upd g (ta + 1) (g (ta + 1) + mGoD (g (ta + 5)) 1 ac)) (ta + 2)) + (mGoD (g (ta + 5)) 2 dn))) (ta + 1)) rfl ?_
      refine lv_aload_n hx hb dX9_goesOn_64 rfl (lv_at hl 0 rfl) ?_
      refine gm_0_now F N k_682 dX9_goesOn_65 ?_
      refine lv_iload_n hx hb dX9_goesOn_68 rfl (lv_at hl 1 rfl) ?_
      refine lv_iconst (v := 2) hx hb dX9_goesOn_69 (by decide) ?_
      refine iaddN (a := ta) (b := 2) hx hb dX9_goesOn_70 ?_
      refine amN_0 (j := (ta + 2)) F N (by omega) dX9_goesOn_71 ?_
      refine toI (y := (upd (upd g (ta + 1) (g (ta + 1) + mGoD (g (ta + 5)) 1 ac)) (ta + 2) (((upd g (ta + 1) (g (ta + 1) + mGoD (g (ta + 5)) 1 ac)) (ta + 2)) + (mGoD (g (ta + 5)) 2 dn))) (ta + 2)) rfl ?_
      refine cS_i F N (c_X9_isCell l G _ ((upd (upd g (ta + 1) (g (ta + 1) + mGoD (g (ta + 5)) 1 ac)) (ta + 2) (((upd g (ta + 1) (g (ta + 1) + mGoD (g (ta + 5)) 1 ac)) (ta + 2)) + (mGoD (g (ta + 5)) 2 dn))) (ta + 1)) ((upd (upd g (ta + 1) (g (ta + 1) + mGoD (g (ta + 5)) 1 ac)) (ta + 2) (((upd g (ta + 1) (g (ta + 1) + mGoD (g (ta + 5)) 1 ac)) (ta + 2)) + (mGoD (g (ta + 5)) 2 dn))) (ta + 2))) miX9_isCell k_775 (by decide) hl.1 rfl (Nat.le_of_ble_eq_true rfl) dX9_goesOn_72 (fun H locs N => ?_)
      refine lv_istore (lv' := [(5, .int (bI (xIsPl ((upd (upd g (ta + 1) (g (ta + 1) + mGoD (g (ta + 5)) 1 ac)) (ta + 2) (((upd g (ta + 1) (g (ta + 1) + mGoD (g (ta + 5)) 1 ac)) (ta + 2)) + (mGoD (g (ta + 5)) 2 dn))) (ta + 1)) ((upd (upd g (ta + 1) (g (ta + 1) + mGoD (g (ta + 5)) 1 ac)) (ta + 2) (((upd g (ta + 1) (g (ta + 1) + mGoD (g (ta + 5)) 1 ac)) (ta + 2)) + (mGoD (g (ta + 5)) 2 dn))) (ta + 2))))), (0, .ref (ad 0)), (1, .int (nI ta)), (2, .int ac), (3, .int dn), (4, .int (g (ta + 5)))]) hx hb dX9_goesOn_75 hl (by decide) rfl (fun ls hl => ?_)
      have cut_192 : ∀ (w3 : Bool) (g5 : Nat → Int32), (w3, g5) = mGoW g ta ac dn → ∀ (H : Heap) (locs : List Loc) (ls : Array Slot), Now G zs (MW G ad (sA st 0 g5) ++ ex) H locs → lv_has ls 6 [(0, .ref (ad 0)), (1, .int (nI ta)), (5, .int (bI w3))] → W zp l ze (RM 2) zs zm zargs zbelow zmeth zc H locs 0 0 zQ (F0 zm 192 ls []) := by
        intro w3 g5 hW H locs ls N hl
        refine lv_iload hx hb dX9_goesOn_192 (lv_at hl 2 rfl) ?_
        refine ifB_ne (tgt := 202) hx hb dX9_goesOn_194 (by decide) (fun c_194 => ?_) (fun c_194 => ?_)
        · exact hret _ _ _ _ _ dX9_goesOn_202 (by rw [mGo, ← hW]; dsimp only; first | rw [if_pos c_194] | rw [if_neg (show ¬ w3 = true by rw [c_194]; decide)]) N
        · refine lv_aload_n hx hb dX9_goesOn_197 rfl (lv_at hl 0 rfl) ?_
          refine lv_iload_n hx hb dX9_goesOn_198 rfl (lv_at hl 1 rfl) ?_
          refine cV_v F N (c_X9_breaks l G ad ex st g5 ta hta) miX9_breaks k_865 (by decide) hl.1 rfl (Nat.le_of_ble_eq_true rfl) (q0 := 0) (ci := 8) rfl rfl dX9_goesOn_199 (fun H locs N => ?_)
          exact hret _ _ _ _ _ dX9_goesOn_202 (by rw [mGo, ← hW]; dsimp only; first | rw [if_pos c_194] | rw [if_neg (show ¬ w3 = true by rw [c_194]; decide)]) N
      refine lv_aload_n hx hb dX9_goesOn_77 rfl (lv_at hl 1 rfl) ?_
      refine gm_0_now F N k_682 dX9_goesOn_78 ?_
      refine lv_iload_n hx hb dX9_goesOn_81 rfl (lv_at hl 2 rfl) ?_
      refine lv_iconst (v := 0) hx hb dX9_goesOn_82 (by decide) ?_
      refine iaddN (a := ta) (b := 0) hx hb dX9_goesOn_83 ?_
      refine amN_0 (j := (ta + 0)) F N (by omega) dX9_goesOn_84 ?_
      refine toI (y := (upd (upd g (ta + 1) (g (ta + 1) + mGoD (g (ta + 5)) 1 ac)) (ta + 2) (((upd g (ta + 1) (g (ta + 1) + mGoD (g (ta + 5)) 1 ac)) (ta + 2)) + (mGoD (g (ta + 5)) 2 dn))) (ta + 0)) rfl ?_
      refine lv_iconst (v := 2) hx hb dX9_goesOn_85 (by decide) ?_
      refine lv_icmp_ne (tgt := 192) hx hb dX9_goesOn_86 (by decide) (fun c_86 => ?_) (fun c_86 => ?_)
      · exact cut_192 (xIsPl ((upd (upd g (ta + 1) (g (ta + 1) + mGoD (g (ta + 5)) 1 ac)) (ta + 2) (((upd g (ta + 1) (g (ta + 1) + mGoD (g (ta + 5)) 1 ac)) (ta + 2)) + (mGoD (g (ta + 5)) 2 dn))) (ta + 1)) ((upd (upd g (ta + 1) (g (ta + 1) + mGoD (g (ta + 5)) 1 ac)) (ta + 2) (((upd g (ta + 1) (g (ta + 1) + mGoD (g (ta + 5)) 1 ac)) (ta + 2)) + (mGoD (g (ta + 5)) 2 dn))) (ta + 2))) (upd (upd g (ta + 1) (g (ta + 1) + mGoD (g (ta + 5)) 1 ac)) (ta + 2) (((upd g (ta + 1) (g (ta + 1) + mGoD (g (ta + 5)) 1 ac)) (ta + 2)) + (mGoD (g (ta + 5)) 2 dn))) (by first | (rw [mGoW, if_neg (show ¬ mGo2 g ta ac dn (ta + 0) = 2 from c_86)]; rfl) | (rw [mGoW, if_pos hk2, hw2, hg4])) _ _ _ N (lv_sub hl [1, 2, 0] rfl)
      · have cut_110 : ∀ (H : Heap) (locs : List Loc) (ls : Array Slot), Now G zs (MW G ad (sA st 0 (mGo2 g ta ac dn)) ++ ex) H locs → lv_has ls 6 [(0, .ref (ad 0)), (1, .int (nI ta)), (2, .int ac), (3, .int dn), (4, .int (g (ta + 5))), (5, .int (bI (xIsPl ((mGo2 g ta ac dn) (ta + 1)) ((mGo2 g ta ac dn) (ta + 2)))))] → W zp l ze (RM 2) zs zm zargs zbelow zmeth zc H locs 0 0 zQ (F0 zm 110 ls [.int (mGoD (g (ta + 5)) 4 ac), .int ((mGo2 g ta ac dn) (ta + 3)), .int (nI (ta + 3)), .ref (ad 1)]) := by
          intro  H locs ls N hl
          refine lv_iadd hx hb dX9_goesOn_110 ?_
          refine smN_0 (j := (ta + 3)) F N (by omega) dX9_goesOn_111 (fun st_111 est_111 H locs N => ?_)
          replace N := eqM N (est_111.trans (sA_sA st 0 (mGo2 g ta ac dn) (upd (mGo2 g ta ac dn) (ta + 3) (((mGo2 g ta ac dn) (ta + 3)) + (mGoD (g (ta + 5)) 4 ac)))))
          have cut_134 : ∀ (H : Heap) (locs : List Loc) (ls : Array Slot), Now G zs (MW G ad (sA st 0 (upd (mGo2 g ta ac dn) (ta + 3) ((mGo2 g ta ac dn) (ta + 3) + mGoD (g (ta + 5)) 4 ac))) ++ ex) H locs → lv_has ls 6 [(0, .ref (ad 0)), (1, .int (nI ta)), (2, .int ac), (3, .int dn), (4, .int (g (ta + 5))), (5, .int (bI (xIsPl ((mGo2 g ta ac dn) (ta + 1)) ((mGo2 g ta ac dn) (ta + 2)))))] → W zp l ze (RM 2) zs zm zargs zbelow zmeth zc H locs 0 0 zQ (F0 zm 134 ls [.int (mGoD (g (ta + 5)) 8 dn), .int ((upd (mGo2 g ta ac dn) (ta + 3) ((mGo2 g ta ac dn) (ta + 3) + mGoD (g (ta + 5)) 4 ac)) (ta + 4)), .int (nI (ta + 4)), .ref (ad 1)]) := by
            intro  H locs ls N hl
            refine lv_iadd hx hb dX9_goesOn_134 ?_
            refine smN_0 (j := (ta + 4)) F N (by omega) dX9_goesOn_135 (fun st_135 est_135 H locs N => ?_)
            replace N := eqM N (est_135.trans (sA_sA st 0 (upd (mGo2 g ta ac dn) (ta + 3) ((mGo2 g ta ac dn) (ta + 3) + mGoD (g (ta + 5)) 4 ac)) (upd (upd (mGo2 g ta ac dn) (ta + 3) ((mGo2 g ta ac dn) (ta + 3) + mGoD (g (ta + 5)) 4 ac)) (ta + 4) (((upd (mGo2 g ta ac dn) (ta + 3) ((mGo2 g ta ac dn) (ta + 3) + mGoD (g (ta + 5)) 4 ac)) (ta + 4)) + (mGoD (g (ta + 5)) 8 dn)))))
            have cut_168 : ∀ (w2 : Bool) (g4 : Nat → Int32), w2 = (xIsPl (mGo2 g ta ac dn (ta + 1)) (mGo2 g ta ac dn (ta + 2)) && xIsPl (g4 (ta + 3)) (g4 (ta + 4))) → g4 = mGo4 (mGo2 g ta ac dn) ta (g (ta + 5)) ac dn → mGo2 g ta ac dn (ta + 0) = 2 → ∀ (H : Heap) (locs : List Loc) (ls : Array Slot), Now G zs (MW G ad (sA st 0 g4) ++ ex) H locs → lv_has ls 6 [(0, .ref (ad 0)), (1, .int (nI ta)), (2, .int ac), (3, .int dn), (4, .int (g (ta + 5)))] → W zp l ze (RM 2) zs zm zargs zbelow zmeth zc H locs 0 0 zQ (F0 zm 168 ls [.int (bI w2)]) := by
              intro w2 g4 hw2 hg4 hk2 H locs ls N hl
              refine lv_istore (lv' := [(5, .int (bI w2)), (0, .ref (ad 0)), (1, .int (nI ta)), (2, .int ac), (3, .int dn), (4, .int (g (ta + 5)))]) hx hb dX9_goesOn_168 hl (by decide) rfl (fun ls hl => ?_)
              refine lv_aload_n hx hb dX9_goesOn_170 rfl (lv_at hl 1 rfl) ?_
              refine gm_0_now F N k_682 dX9_goesOn_171 ?_
              refine lv_iload_n hx hb dX9_goesOn_174 rfl (lv_at hl 2 rfl) ?_
              refine lv_iconst (v := 1) hx hb dX9_goesOn_175 (by decide) ?_
              refine lv_iconst (v := 3) hx hb dX9_goesOn_176 (by decide) ?_
              refine lv_iconst (v := 1) hx hb dX9_goesOn_177 (by decide) ?_
              refine cS_v F N (c_X9_sorts_now l G ad ex st g4 ta 1 3 1 hta (by decide) (by decide)) miX9_sorts k_810 (by decide) hl.1 rfl (Nat.le_of_ble_eq_true rfl) dX9_goesOn_178 (fun H locs N => ?_)
              refine lv_aload_n hx hb dX9_goesOn_181 rfl (lv_at hl 1 rfl) ?_
              refine gm_0_now F N k_682 dX9_goesOn_182 ?_
              refine lv_iload_n hx hb dX9_goesOn_185 rfl (lv_at hl 2 rfl) ?_
              refine lv_iconst (v := 2) hx hb dX9_goesOn_186 (by decide) ?_
              refine lv_iconst (v := 4) hx hb dX9_goesOn_187 (by decide) ?_
              refine lv_iconst (v := 2) hx hb dX9_goesOn_188 (by decide) ?_
              refine cS_v F N (c_X9_sorts_now l G ad ex st (mSort g4 ta 1 3 1) ta 2 4 2 hta (by decide) (by decide)) miX9_sorts k_810 (by decide) hl.1 rfl (Nat.le_of_ble_eq_true rfl) dX9_goesOn_189 (fun H locs N => ?_)
              exact cut_192 w2 (mSort (mSort g4 ta 1 3 1) ta 2 4 2) (by first | (rw [mGoW, if_neg (show ¬ mGo2 g ta ac dn (ta + 0) = 2 from c_86)]; rfl) | (rw [mGoW, if_pos hk2, hw2, hg4])) _ _ _ N (lv_sub hl [1, 2, 0] rfl)
            refine lv_iload hx hb dX9_goesOn_136 (lv_at hl 5 rfl) ?_
            refine ifB_eq (tgt := 167) hx hb dX9_goesOn_138 (by decide) (fun c_138 => ?_) (fun c_138 => ?_)
            · refine lv_iconst (v := 0) hx hb dX9_goesOn_167 (by decide) ?_
              exact cut_168 false (upd (upd (mGo2 g ta ac dn) (ta + 3) ((mGo2 g ta ac dn) (ta + 3) + mGoD (g (ta + 5)) 4 ac)) (ta + 4) (((upd (mGo2 g ta ac dn) (ta + 3) ((mGo2 g ta ac dn) (ta + 3) + mGoD (g (ta + 5)) 4 ac)) (ta + 4)) + (mGoD (g (ta + 5)) 8 dn))) (by first | (rw [show xIsPl (mGo2 g ta ac dn (ta + 1)) (mGo2 g ta ac dn (ta + 2)) = false from c_138]; rfl) | (rw [show xIsPl (mGo2 g ta ac dn (ta + 1)) (mGo2 g ta ac dn (ta + 2)) = true from c_138]; exact c_160.symm)) rfl c_86 _ _ _ N (lv_sub hl [0, 1, 2, 3, 4] rfl)
            · refine lv_aload_n hx hb dX9_goesOn_141 rfl (lv_at hl 0 rfl) ?_
              refine gm_0_now F N k_682 dX9_goesOn_142 ?_
              refine lv_iload_n hx hb dX9_goesOn_145 rfl (lv_at hl 1 rfl) ?_
              refine lv_iconst (v := 3) hx hb dX9_goesOn_146 (by decide) ?_
              refine iaddN (a := ta) (b := 3) hx hb dX9_goesOn_147 ?_
              refine amN_0 (j := (ta + 3)) F N (by omega) dX9_goesOn_148 ?_
              refine toI (y := (upd (upd (mGo2 g ta ac dn) (ta + 3) ((mGo2 g ta ac dn) (ta + 3) + mGoD (g (ta + 5)) 4 ac)) (ta + 4) (((upd (mGo2 g ta ac dn) (ta + 3) ((mGo2 g ta ac dn) (ta + 3) + mGoD (g (ta + 5)) 4 ac)) (ta + 4)) + (mGoD (g (ta + 5)) 8 dn))) (ta + 3)) rfl ?_
              refine lv_aload_n hx hb dX9_goesOn_149 rfl (lv_at hl 0 rfl) ?_
              refine gm_0_now F N k_682 dX9_goesOn_150 ?_
              refine lv_iload_n hx hb dX9_goesOn_153 rfl (lv_at hl 1 rfl) ?_
              refine lv_iconst (v := 4) hx hb dX9_goesOn_154 (by decide) ?_
              refine iaddN (a := ta) (b := 4) hx hb dX9_goesOn_155 ?_
              refine amN_0 (j := (ta + 4)) F N (by omega) dX9_goesOn_156 ?_
              refine toI (y := (upd (upd (mGo2 g ta ac dn) (ta + 3) ((mGo2 g ta ac dn) (ta + 3) + mGoD (g (ta + 5)) 4 ac)) (ta + 4) (((upd (mGo2 g ta ac dn) (ta + 3) ((mGo2 g ta ac dn) (ta + 3) + mGoD (g (ta + 5)) 4 ac)) (ta + 4)) + (mGoD (g (ta + 5)) 8 dn))) (ta + 4)) rfl ?_
              refine cS_i F N (c_X9_isCell l G _ ((upd (upd (mGo2 g ta ac dn) (ta + 3) ((mGo2 g ta ac dn) (ta + 3) + mGoD (g (ta + 5)) 4 ac)) (ta + 4) (((upd (mGo2 g ta ac dn) (ta + 3) ((mGo2 g ta ac dn) (ta + 3) + mGoD (g (ta + 5)) 4 ac)) (ta + 4)) + (mGoD (g (ta + 5)) 8 dn))) (ta + 3)) ((upd (upd (mGo2 g ta ac dn) (ta + 3) ((mGo2 g ta ac dn) (ta + 3) + mGoD (g (ta + 5)) 4 ac)) (ta + 4) (((upd (mGo2 g ta ac dn) (ta + 3) ((mGo2 g ta ac dn) (ta + 3) + mGoD (g (ta + 5)) 4 ac)) (ta + 4)) + (mGoD (g (ta + 5)) 8 dn))) (ta + 4))) miX9_isCell k_775 (by decide) hl.1 rfl (Nat.le_of_ble_eq_true rfl) dX9_goesOn_157 (fun H locs N => ?_)
              refine ifB_eq (tgt := 167) hx hb dX9_goesOn_160 (by decide) (fun c_160 => ?_) (fun c_160 => ?_)
              · refine lv_iconst (v := 0) hx hb dX9_goesOn_167 (by decide) ?_
                exact cut_168 false (upd (upd (mGo2 g ta ac dn) (ta + 3) ((mGo2 g ta ac dn) (ta + 3) + mGoD (g (ta + 5)) 4 ac)) (ta + 4) (((upd (mGo2 g ta ac dn) (ta + 3) ((mGo2 g ta ac dn) (ta + 3) + mGoD (g (ta + 5)) 4 ac)) (ta + 4)) + (mGoD (g (ta + 5)) 8 dn))) (by first | (rw [show xIsPl (mGo2 g ta ac dn (ta + 1)) (mGo2 g ta ac dn (ta + 2)) = false from c_138]; rfl) | (rw [show xIsPl (mGo2 g ta ac dn (ta + 1)) (mGo2 g ta ac dn (ta + 2)) = true from c_138]; exact c_160.symm)) rfl c_86 _ _ _ N (lv_sub hl [0, 1, 2, 3, 4] rfl)
              · refine lv_iconst (v := 1) hx hb dX9_goesOn_163 (by decide) ?_
                refine lv_goto (tgt := 168) hx hb dX9_goesOn_164 (by decide) ?_
                exact cut_168 true (upd (upd (mGo2 g ta ac dn) (ta + 3) ((mGo2 g ta ac dn) (ta + 3) + mGoD (g (ta + 5)) 4 ac)) (ta + 4) (((upd (mGo2 g ta ac dn) (ta + 3) ((mGo2 g ta ac dn) (ta + 3) + mGoD (g (ta + 5)) 4 ac)) (ta + 4)) + (mGoD (g (ta + 5)) 8 dn))) (by first | (rw [show xIsPl (mGo2 g ta ac dn (ta + 1)) (mGo2 g ta ac dn (ta + 2)) = false from c_138]; rfl) | (rw [show xIsPl (mGo2 g ta ac dn (ta + 1)) (mGo2 g ta ac dn (ta + 2)) = true from c_138]; exact c_160.symm)) rfl c_86 _ _ _ N (lv_sub hl [0, 1, 2, 3, 4] rfl)
          refine lv_aload_n hx hb dX9_goesOn_112 rfl (lv_at hl 0 rfl) ?_
          refine gm_0_now F N k_682 dX9_goesOn_113 ?_
          refine lv_iload_n hx hb dX9_goesOn_116 rfl (lv_at hl 1 rfl) ?_
          refine lv_iconst (v := 4) hx hb dX9_goesOn_117 (by decide) ?_
          refine iaddN (a := ta) (b := 4) hx hb dX9_goesOn_118 ?_
          refine lv_dup2_11 hx hb dX9_goesOn_119 rfl rfl ?_
          refine amN_0 (j := (ta + 4)) F N (by omega) dX9_goesOn_120 ?_
          refine toI (y := (upd (mGo2 g ta ac dn) (ta + 3) (((mGo2 g ta ac dn) (ta + 3)) + (mGoD (g (ta + 5)) 4 ac))) (ta + 4)) rfl ?_
          refine lv_iload hx hb dX9_goesOn_121 (lv_at hl 4 rfl) ?_
          refine lv_bipush (v := 8) hx hb dX9_goesOn_123 (by decide) ?_
          refine lv_iand hx hb dX9_goesOn_125 ?_
          refine lv_if_ne (tgt := 133) hx hb dX9_goesOn_126 (by decide) (fun c_126 => ?_) (fun c_126 => ?_)
          · refine lv_iconst (v := 0) hx hb dX9_goesOn_133 (by decide) ?_
            refine toI (y := mGoD (g (ta + 5)) 8 dn) (by simp [mGoD, c_126]) ?_
            exact cut_134   _ _ _ N (lv_sub hl [0, 1, 2, 3, 4, 5] rfl)
          · refine lv_iload_n hx hb dX9_goesOn_129 rfl (lv_at hl 3 rfl) ?_
            refine lv_goto (tgt := 134) hx hb dX9_goesOn_130 (by decide) ?_
            refine toI (y := mGoD (g (ta + 5)) 8 dn) (by simp [mGoD, c_126]) ?_
            exact cut_134   _ _ _ N (lv_sub hl [0, 1, 2, 3, 4, 5] rfl)
        refine lv_aload_n hx hb dX9_goesOn_89 rfl (lv_at hl 1 rfl) ?_
        refine gm_0_now F N k_682 dX9_goesOn_90 ?_
        refine lv_iload_n hx hb dX9_goesOn_93 rfl (lv_at hl 2 rfl) ?_
        refine lv_iconst (v := 3) hx hb dX9_goesOn_94 (by decide) ?_
        refine iaddN (a := ta) (b := 3) hx hb dX9_goesOn_95 ?_
        refine lv_dup2_11 hx hb dX9_goesOn_96 rfl rfl ?_
        refine amN_0 (j := (ta + 3)) F N (by omega) dX9_goesOn_97 ?_
        refine toI (y := (upd (upd g (ta + 1) (g (ta + 1) + mGoD (g (ta + 5)) 1 ac)) (ta + 2) (((upd g (ta + 1) (g (ta + 1) + mGoD (g (ta + 5)) 1 ac)) (ta + 2)) + (mGoD (g (ta + 5)) 2 dn))) (ta + 3)) rfl ?_
        refine lv_iload hx hb dX9_goesOn_98 (lv_at hl 5 rfl) ?_
        refine lv_iconst (v := 4) hx hb dX9_goesOn_100 (by decide) ?_
        refine lv_iand hx hb dX9_goesOn_101 ?_
        refine lv_if_ne (tgt := 109) hx hb dX9_goesOn_102 (by decide) (fun c_102 => ?_) (fun c_102 => ?_)
        · refine lv_iconst (v := 0) hx hb dX9_goesOn_109 (by decide) ?_
          refine toI (y := mGoD (g (ta + 5)) 4 ac) (by simp [mGoD, c_102]) ?_
          exact cut_110   _ _ _ N (lv_sub hl [1, 2, 3, 4, 5, 0] rfl)
        · refine lv_iload_n hx hb dX9_goesOn_105 rfl (lv_at hl 3 rfl) ?_
          refine lv_goto (tgt := 110) hx hb dX9_goesOn_106 (by decide) ?_
          refine toI (y := mGoD (g (ta + 5)) 4 ac) (by simp [mGoD, c_102]) ?_
          exact cut_110   _ _ _ N (lv_sub hl [1, 2, 3, 4, 5, 0] rfl)
    refine lv_aload_n hx hb dX9_goesOn_33 rfl (lv_at hl 0 rfl) ?_
    refine gm_0_now F N k_682 dX9_goesOn_34 ?_
    refine lv_iload_n hx hb dX9_goesOn_37 rfl (lv_at hl 1 rfl) ?_
    refine lv_iconst (v := 2) hx hb dX9_goesOn_38 (by decide) ?_
    refine iaddN (a := ta) (b := 2) hx hb dX9_goesOn_39 ?_
    refine lv_dup2_11 hx hb dX9_goesOn_40 rfl rfl ?_
    refine amN_0 (j := (ta + 2)) F N (by omega) dX9_goesOn_41 ?_
    refine toI (y := (upd g (ta + 1) ((g (ta + 1)) + (mGoD (g (ta + 5)) 1 ac))) (ta + 2)) rfl ?_
    refine lv_iload hx hb dX9_goesOn_42 (lv_at hl 4 rfl) ?_
    refine lv_iconst (v := 2) hx hb dX9_goesOn_44 (by decide) ?_
    refine lv_iand hx hb dX9_goesOn_45 ?_
    refine lv_if_ne (tgt := 53) hx hb dX9_goesOn_46 (by decide) (fun c_46 => ?_) (fun c_46 => ?_)
    · refine lv_iconst (v := 0) hx hb dX9_goesOn_53 (by decide) ?_
      refine toI (y := mGoD (g (ta + 5)) 2 dn) (by simp [mGoD, c_46]) ?_
      exact cut_54   _ _ _ N (lv_sub hl [0, 1, 2, 3, 4] rfl)
    · refine lv_iload_n hx hb dX9_goesOn_49 rfl (lv_at hl 3 rfl) ?_
      refine lv_goto (tgt := 54) hx hb dX9_goesOn_50 (by decide) ?_
      refine toI (y := mGoD (g (ta + 5)) 2 dn) (by simp [mGoD, c_46]) ?_
      exact cut_54   _ _ _ N (lv_sub hl [0, 1, 2, 3, 4] rfl)
  refine lv_aload_n hx hb dX9_goesOn_10 rfl (lv_at hl 1 rfl) ?_
  refine gm_0_now F N k_682 dX9_goesOn_11 ?_
  refine lv_iload_n hx hb dX9_goesOn_14 rfl (lv_at hl 2 rfl) ?_
  refine lv_iconst (v := 1) hx hb dX9_goesOn_15 (by decide) ?_
  refine iaddN (a := ta) (b := 1) hx hb dX9_goesOn_16 ?_
  refine lv_dup2_11 hx hb dX9_goesOn_17 rfl rfl ?_
  refine amN_0 (j := (ta + 1)) F N (by omega) dX9_goesOn_18 ?_
  refine toI (y := g (ta + 1)) rfl ?_
  refine lv_iload hx hb dX9_goesOn_19 (lv_at hl 0 rfl) ?_
  refine lv_iconst (v := 1) hx hb dX9_goesOn_21 (by decide) ?_
  refine lv_iand hx hb dX9_goesOn_22 ?_
  refine lv_if_ne (tgt := 30) hx hb dX9_goesOn_23 (by decide) (fun c_23 => ?_) (fun c_23 => ?_)
  · refine lv_iconst (v := 0) hx hb dX9_goesOn_30 (by decide) ?_
    refine toI (y := mGoD (g (ta + 5)) 1 ac) (by simp [mGoD, c_23]) ?_
    exact cut_31   _ _ _ N (lv_sub hl [1, 2, 3, 4, 0] rfl)
  · refine lv_iload_n hx hb dX9_goesOn_26 rfl (lv_at hl 3 rfl) ?_
    refine lv_goto (tgt := 31) hx hb dX9_goesOn_27 (by decide) ?_
    refine toI (y := mGoD (g (ta + 5)) 1 ac) (by simp [mGoD, c_23]) ?_
    exact cut_31   _ _ _ N (lv_sub hl [1, 2, 3, 4, 0] rfl)
theorem c_X9_breaks_st (l : Launch) (G : GM) (ad : Nat → Nat) (ex : va_W) (st : ST) (ta : Nat) (hta : ta + 6 ≤ 900) : MMv l G yX9_breaks cX9_breaks 3 none 0 [.ref (ad 0), .int (nI ta)] ad ex st (sA st 0 (mBrk (st.2.1 0) ta)) := by
  have h := c_X9_breaks l G ad ex st (st.2.1 0) ta hta
  rw [sA_self rfl] at h
  exact h
theorem c_X9_empty_st (l : Launch) (G : GM) (ad : Nat → Nat) (ex : va_W) (st : ST) (ce : Nat) (hce : ce + 25 ≤ 900) : MMv l G yX9_empty cX9_empty 3 none 0 [.ref (ad 0), .int (nI ce)] ad ex st (sA st 0 (mEmp (st.2.1 0) ce)) := by
  have h := c_X9_empty l G ad ex st (st.2.1 0) ce hce
  rw [sA_self rfl] at h
  exact h
theorem c_X9_takes_st (l : Launch) (G : GM) (ad : Nat → Nat) (ex : va_W) (st : ST) (to : Nat) (fr : Nat) (hto : to + 25 ≤ 900) (hfr : fr + 25 ≤ 900) : MMv l G yX9_takes cX9_takes 4 none 0 [.ref (ad 0), .int (nI to), .int (nI fr)] ad ex st (sA st 0 (mTak (st.2.1 1) (st.2.1 0) to fr)) := by
  have h := c_X9_takes l G ad ex st (st.2.1 0) to fr hto hfr
  rw [sA_self rfl] at h
  exact h
theorem c_X9_filled_st (l : Launch) (G : GM) (ad : Nat → Nat) (ex : va_W) (st : ST) : MMi l G yX9_filled cX9_filled 3 (some .int) 0 [.ref (ad 0)] ad ex st (nI (mFil (st.2.1 0))) (st) := by
  have h := c_X9_filled l G ad ex st (st.2.1 0) 
  rw [sA_self rfl] at h
  exact h
theorem c_X9_shifts_st (l : Launch) (G : GM) (ad : Nat → Nat) (ex : va_W) (st : ST) (way : Nat) (a : Nat) (n : Int32) (o : Nat → Option Nat) (cn : Nat → Nat) (hw : way < 2) (ho : ∀ x, x < 6 → mLb (nI x) (nI a) n = oI (o x)) (ho6 : ∀ x, x < 6 → (o x).getD 0 < 6) (hcn : mCn (mShC (st.2.1 1) way o (st.2.1 0)) cn) : MMv l G yX9_shifts cX9_shifts 8 none 3 [.ref (ad 0), .int (nI way), .int (nI a), .int n] ad ex st (sA st 0 (mSh (st.2.1 1) way (nI a) n o cn (st.2.1 0))) := by
  have h := c_X9_shifts l G ad ex st (st.2.1 0) way a n o cn hw ho ho6 hcn
  rw [sA_self rfl] at h
  exact h
theorem c_X9_wouldLose_st (l : Launch) (G : GM) (ad : Nat → Nat) (ex : va_W) (st : ST) (way : Nat) (a : Nat) (n : Nat) (hw : way < 2) (ha : a < 6) (hn : n ≤ 6) : MMi l G yX9_wouldLose cX9_wouldLose 7 (some .boolean) 2 [.ref (ad 0), .int (nI way), .int (nI a), .int (nI n)] ad ex st (bI (mWl (st.2.1 0) way a n)) (st) := by
  have h := c_X9_wouldLose l G ad ex st (st.2.1 0) way a n hw ha hn
  rw [sA_self rfl] at h
  exact h
theorem c_X9_liesIn_st (l : Launch) (G : GM) (ad : Nat → Nat) (ex : va_W) (st : ST) (ta : Nat) (c : Nat) (r : Nat) (wd : Nat) (ht : Nat) (hta : ta + 6 ≤ 900) : MMi l G yX9_liesIn cX9_liesIn 8 (some .boolean) 0 [.ref (ad 0), .int (nI ta), .int (nI c), .int (nI r), .int (nI wd), .int (nI ht)] ad ex st (bI (mLi (st.2.1 0) ta c r wd ht)) (st) := by
  have h := c_X9_liesIn l G ad ex st (st.2.1 0) ta c r wd ht hta
  rw [sA_self rfl] at h
  exact h
theorem c_X9_pushes_st (l : Launch) (G : GM) (ad : Nat → Nat) (ex : va_W) (st : ST) (ta : Nat) (ac : Int32) (dn : Int32) (hta : ta + 6 ≤ 900) : MMv l G yX9_pushes cX9_pushes 4 none 0 [.ref (ad 0), .int (nI ta), .int ac, .int dn] ad ex st (sA st 0 (mPu (st.2.1 0) ta ac dn)) := by
  have h := c_X9_pushes l G ad ex st (st.2.1 0) ta ac dn hta
  rw [sA_self rfl] at h
  exact h
theorem c_X9_goesOn_st (l : Launch) (G : GM) (ad : Nat → Nat) (ex : va_W) (st : ST) (ta : Nat) (ac : Int32) (dn : Int32) (hta : ta + 6 ≤ 900) : MMv l G yX9_goesOn cX9_goesOn 6 none 2 [.ref (ad 0), .int (nI ta), .int ac, .int dn] ad ex st (sA st 0 (mGo (st.2.1 0) ta ac dn)) := by
  have h := c_X9_goesOn l G ad ex st (st.2.1 0) ta ac dn hta
  rw [sA_self rfl] at h
  exact h
