/-! values: sums, faults, what is being asked -/
def xMeet (st : ST) (f a d : Int32) : ST := if st.1 7 = 0 then sI (sI (sI st 7 f) 8 a) 9 d else st
def xAddS (st : ST) (sum more a d : Int32) : ST := if sum + more ≤ 99999 then st else xMeet st 3 a d
def leN (t a : Int32) : Nat := (tLeast t a).toNatClampNeg
def grN (t a : Int32) : Nat := (tGreat t a).toNatClampNeg
def xCols (ask : ST → Nat → Int32 × ST) (cell dp r : Nat) : Nat → Nat → Int32 × ST → Int32 × ST
  | 0, _, x => x
  | k + 1, c, x => if x.2.1 7 = 0 then
      (if xIsPl (nI c) (nI r) = true then xCols ask cell dp r k (c + 1) (x.1 + (ask x.2 (r * 6 + c)).1, xAddS (ask x.2 (r * 6 + c)).2 x.1 (ask x.2 (r * 6 + c)).1 (nI cell) (nI dp))
       else xCols ask cell dp r k (c + 1) (x.1 + 0, xAddS x.2 x.1 0 (nI cell) (nI dp))) else x
def xRows (ask : ST → Nat → Int32 × ST) (t : Int32) (cell dp : Nat) : Nat → Nat → Int32 × ST → Int32 × ST
  | 0, _, x => x
  | k + 1, r, x => if x.2.1 7 = 0 then xRows ask t cell dp k (r + 1) (xCols ask cell dp r (grN t 0 + 1 - leN t 0) (leN t 0) x) else x
def xAddT (ask : ST → Nat → Int32 × ST) (b t : Int32) (cell dp : Nat) (st : ST) : Int32 × ST :=
  if tKind t = 1 then (b + tNum t, xAddS st b (tNum t) (nI cell) (nI dp))
  else if tKind t = 4 then (b, xMeet st 1 (nI cell) (nI dp))
  else if tRef t = false then (b, st)
  else xRows ask t cell dp (grN t 1 + 1 - leN t 1) (leN t 1) (b, st)
def xTerms (addt : ST → Int32 → Int32 → Int32 × ST) (cell : Nat) : Nat → Nat → Int32 × ST → Int32 × ST
  | 0, _, x => x
  | k + 1, i, x => if x.2.1 7 = 0 then xTerms addt cell k (i + 1) (addt x.2 x.1 (tm (x.2.2.1 2) cell i)) else x
def xAskE (cell : Nat) (y : Int32 × ST) : ST :=
  if y.2.1 7 = 0 then sA (sA (sA y.2 9 (upd (y.2.2.1 9) cell 0)) 5 (upd (y.2.2.1 5) cell 0)) 6 (upd (y.2.2.1 6) cell y.1)
  else sA y.2 9 (upd (y.2.2.1 9) cell 0)
theorem xE_neg {cell : Nat} {sum : Int32} {s1 s2 : ST} (e : s2 = sA s1 9 (upd (s1.2.1 9) cell (vp_nar .boolean 0))) (h : ¬ s2.1 7 = 0) : s2 = xAskE cell (sum, s1) := by
  subst e
  have h : ¬ (sum, s1).2.1 7 = 0 := h
  unfold xAskE
  rw [if_neg h]
  rfl
theorem xE_pos {cell : Nat} {sum : Int32} {s1 s2 s3 s4 : ST} (e : s2 = sA s1 9 (upd (s1.2.1 9) cell (vp_nar .boolean 0))) (e3 : s3 = sA s2 5 (upd (s2.2.1 5) cell 0)) (e4 : s4 = sA s3 6 (upd (s3.2.1 6) cell sum)) (h : s2.1 7 = 0) : s4 = xAskE cell (sum, s1) := by
  subst e4; subst e3; subst e
  have h : (sum, s1).2.1 7 = 0 := h
  unfold xAskE
  rw [if_pos h]
  rfl
def xAskF (addt : ST → Int32 → Int32 → Int32 × ST) (cell dp : Nat) (st : ST) : Int32 × ST :=
  if st.2.1 5 cell = 0 then (st.2.1 6 cell, st)
  else if ¬ st.2.1 9 cell = 0 then (0, xMeet st 2 (nI cell) (nI dp - 1))
  else if 36 ≤ dp then (0, xMeet st 2 (nI cell) (nI dp - 1))
  else ((xTerms addt cell 4 0 (0, sA st 9 (upd (st.2.1 9) cell 1))).1, xAskE cell (xTerms addt cell 4 0 (0, sA st 9 (upd (st.2.1 9) cell 1))))
def xAsk : Nat → ST → Nat → Nat → Int32 × ST
  | 0, st, ce, dp => xAskF (fun st _ _ => (0, st)) ce dp st
  | n + 1, st, ce, dp => xAskF (fun st b t => xAddT (fun st c => xAsk n st c (dp + 1)) b t ce dp st) ce dp st
def xIF (st : ST) (cell : Nat) : ST :=
  if st.2.1 5 cell = -1 then
    (if (xAsk 36 (sI st 7 0) cell 0).2.1 7 = 0 then (xAsk 36 (sI st 7 0) cell 0).2
     else sA (sA (sA (xAsk 36 (sI st 7 0) cell 0).2 5 (upd ((xAsk 36 (sI st 7 0) cell 0).2.2.1 5) cell ((xAsk 36 (sI st 7 0) cell 0).2.1 7))) 7 (upd ((xAsk 36 (sI st 7 0) cell 0).2.2.1 7) cell ((xAsk 36 (sI st 7 0) cell 0).2.1 8))) 8 (upd ((xAsk 36 (sI st 7 0) cell 0).2.2.1 8) cell ((xAsk 36 (sI st 7 0) cell 0).2.1 9)))
  else st
def xFcF (i : Nat) (x : Nat × ST) : Nat × ST := (if (xIF x.2 i).2.1 5 i = 0 then x.1 else x.1 + 1, xIF x.2 i)
theorem and7 (x : Int32) : ∃ j : Nat, j < 8 ∧ x &&& 7 = nI j := by
  have h : vp_in (x &&& 7) (2 ^ 3) := pk_andIn x 3 (by decide) (by decide)
  exact vp_in_of h (by decide)
theorem tCo_N (t i : Int32) : tCo t i = nI (tCo t i).toNatClampNeg ∧ (tCo t i).toNatClampNeg < 8 := by
  obtain ⟨j, hj, e⟩ := and7 (t >>> (((7 : Int32) + (3 : Int32) * i) &&& 31))
  have e2 : tCo t i = nI j := e
  rw [e2, nI_clamp (by omega)]
  exact ⟨rfl, hj⟩
theorem le_N (t a : Int32) : tLeast t a = nI (leN t a) := (tCo_N t a).1
theorem gr_N (t a : Int32) : tGreat t a = nI (grN t a) := (tCo_N t _).1
theorem le_lt (t a : Int32) : leN t a < 8 := (tCo_N t a).2
theorem gr_lt (t a : Int32) : grN t a < 8 := (tCo_N t _).2
theorem xIsPl_lt {c r : Nat} (hc : c < 2 ^ 31) (hr : r < 2 ^ 31) (h : xIsPl (nI c) (nI r) = true) : c < 6 ∧ r < 6 := by
  simp only [xIsPl, xIsW, Bool.and_eq_true, Bool.not_eq_true', decide_eq_false_iff_not] at h
  have h1 : ¬ nI 5 < nI c := h.1.2
  have h2 : ¬ nI 5 < nI r := h.2.2
  rw [nI_ltI (by decide) hc] at h1
  rw [nI_ltI (by decide) hr] at h2
  omega
set_option maxHeartbeats 4000000 in
set_option maxRecDepth 100000 in
theorem c_X7_meet (l : Launch) (G : GM) (ad : Nat → Nat) (ex : va_W) (st : ST) (f : Int32) (a : Int32) (d : Int32) : XXv l G yX7_meet cX7_meet 4 none 0 [.ref (ad 5), .int f, .int a, .int d] ad ex st (xMeet st f a d) := by
  refine xv_start (by decide) (Nat.le_of_ble_eq_true rfl) ?_
  intro zp ze zs zm zargs zbelow zmeth zc zQ ls F N hl hret
  have hx := F.1
  have hb := F.2.1
  have hl : lv_has ls 4 [(0, .ref (ad 5)), (1, .int f), (2, .int a), (3, .int d)] := hl
  refine lv_aload_n hx hb dX7_meet_0 rfl (lv_at hl 0 rfl) ?_
  refine gx_5_met F N k_166 dX7_meet_1 ?_
  refine lv_if_ne (tgt := 22) hx hb dX7_meet_4 (by decide) (fun c_4 => ?_) (fun c_4 => ?_)
  · exact hret _ _ _ _ _ dX7_meet_22 (by first | (unfold xMeet; rw [if_neg c_4]) | (unfold xMeet; rw [if_pos c_4])) N
  · refine lv_aload_n hx hb dX7_meet_7 rfl (lv_at hl 0 rfl) ?_
    refine lv_iload_n hx hb dX7_meet_8 rfl (lv_at hl 1 rfl) ?_
    refine px_5_met F N k_166 dX7_meet_9 (fun st_9 est_9 H locs N => ?_)
    refine lv_aload_n hx hb dX7_meet_12 rfl (lv_at hl 0 rfl) ?_
    refine lv_iload_n hx hb dX7_meet_13 rfl (lv_at hl 2 rfl) ?_
    refine px_5_metAt F N k_167 dX7_meet_14 (fun st_14 est_14 H locs N => ?_)
    refine lv_aload_n hx hb dX7_meet_17 rfl (lv_at hl 0 rfl) ?_
    refine lv_iload_n hx hb dX7_meet_18 rfl (lv_at hl 3 rfl) ?_
    refine px_5_metDepth F N k_168 dX7_meet_19 (fun st_19 est_19 H locs N => ?_)
    exact hret _ _ _ _ _ dX7_meet_22 (by first | (unfold xMeet; rw [if_neg c_4]) | (unfold xMeet; rw [if_pos c_4, est_19, est_14, est_9])) N
set_option maxHeartbeats 4000000 in
set_option maxRecDepth 100000 in
theorem c_X7_add (l : Launch) (G : GM) (ad : Nat → Nat) (ex : va_W) (st : ST) (sum : Int32) (more : Int32) (a : Int32) (d : Int32) : XXi l G yX7_add cX7_add 5 (some .int) 1 [.ref (ad 5), .int sum, .int more, .int a, .int d] ad ex st (sum + more) (xAddS st sum more a d) := by
  refine xi_start (by decide) rfl (Nat.le_of_ble_eq_true rfl) ?_
  intro zp ze zs zm zargs zbelow zmeth zc zQ ls F N hl hret
  have hx := F.1
  have hb := F.2.1
  have hl : lv_has ls 5 [(0, .ref (ad 5)), (1, .int sum), (2, .int more), (3, .int a), (4, .int d)] := hl
  refine lv_iload_n hx hb dX7_add_0 rfl (lv_at hl 1 rfl) ?_
  refine lv_iload_n hx hb dX7_add_1 rfl (lv_at hl 2 rfl) ?_
  refine lv_iadd hx hb dX7_add_2 ?_
  refine lv_ldc (v := 99999) hx hb F.2.2.2.1 (F.2.2.2.2.1 _ k_613) dX7_add_3 ?_
  refine lv_icmp_le (tgt := 16) hx hb dX7_add_5 (by decide) (fun c_5 => ?_) (fun c_5 => ?_)
  · have c_5v := le_nlt c_5
    refine lv_iload_n hx hb dX7_add_16 rfl (lv_at hl 1 rfl) ?_
    refine lv_iload_n hx hb dX7_add_17 rfl (lv_at hl 2 rfl) ?_
    refine lv_iadd hx hb dX7_add_18 ?_
    exact hret _ _ _ _ _ _ dX7_add_19 (by rfl) (by first | (unfold xAddS; rw [if_pos c_5]) | (unfold xAddS; rw [if_neg c_5])) N
  · have c_5v := nle_lt c_5
    refine lv_aload_n hx hb dX7_add_8 rfl (lv_at hl 0 rfl) ?_
    refine lv_iconst (v := 3) hx hb dX7_add_9 (by decide) ?_
    refine lv_iload_n hx hb dX7_add_10 rfl (lv_at hl 3 rfl) ?_
    refine lv_iload hx hb dX7_add_11 (lv_at hl 4 rfl) ?_
    refine xV_v F N (c_X7_meet l G ad ex st 3 a d) miX7_meet k_598 (by decide) hl.1 rfl (Nat.le_of_ble_eq_true rfl) (q0 := 5) (ci := 6) rfl rfl dX7_add_13 (fun st_13 est_13 H locs N => ?_)
    refine lv_iload_n hx hb dX7_add_16 rfl (lv_at hl 1 rfl) ?_
    refine lv_iload_n hx hb dX7_add_17 rfl (lv_at hl 2 rfl) ?_
    refine lv_iadd hx hb dX7_add_18 ?_
    exact hret _ _ _ _ _ _ dX7_add_19 (by rfl) (by first | (unfold xAddS; rw [if_pos c_5]) | (unfold xAddS; rw [if_neg c_5, est_13])) N
set_option maxHeartbeats 4000000 in
set_option maxRecDepth 100000 in
theorem c_X7_addTerm (l : Launch) (G : GM) (ad : Nat → Nat) (ex : va_W) (st : ST) (b : Int32) (t : Int32) (cell : Nat) (dp : Nat) (ask : ST → Nat → Int32 × ST) (ka : Nat) (hka : 4 ≤ ka) (hdp : dp < 36) (hask : ∀ (st : ST) (cell : Nat), cell < 36 → XXi l G yX7_ask cX7_ask 5 (some .int) ka [.ref (ad 5), .int (nI cell), .int (nI (dp + 1))] ad ex st (ask st cell).1 (ask st cell).2) : XXi l G yX7_addTerm cX7_addTerm 11 (some .int) (ka + 1) [.ref (ad 5), .int b, .int t, .int (nI cell), .int (nI dp)] ad ex st ((xAddT ask b t cell dp st).1) ((xAddT ask b t cell dp st).2) := by
  refine xi_start (by decide) rfl (Nat.le_of_ble_eq_true rfl) ?_
  intro zp ze zs zm zargs zbelow zmeth zc zQ ls F N hl hret
  have hx := F.1
  have hb := F.2.1
  have hl : lv_has ls 11 [(0, .ref (ad 5)), (1, .int b), (2, .int t), (3, .int (nI cell)), (4, .int (nI dp))] := hl
  have hl1 := le_lt t 1
  have hl0 := le_lt t 0
  have hg1 := gr_lt t 1
  have hg0 := gr_lt t 0
  refine lv_iload_n hx hb dX7_addTerm_0 rfl (lv_at hl 2 rfl) ?_
  refine cS_i F N (c_X5_kind l G _ t) miX5_kind k_607 (by omega) hl.1 rfl (Nat.le_of_ble_eq_true rfl) dX7_addTerm_1 (fun H locs N => ?_)
  refine lv_iconst (v := 1) hx hb dX7_addTerm_4 (by decide) ?_
  refine lv_icmp_ne (tgt := 21) hx hb dX7_addTerm_5 (by decide) (fun c_5 => ?_) (fun c_5 => ?_)
  · refine lv_iload_n hx hb dX7_addTerm_21 rfl (lv_at hl 2 rfl) ?_
    refine cS_i F N (c_X5_kind l G _ t) miX5_kind k_607 (by omega) hl.1 rfl (Nat.le_of_ble_eq_true rfl) dX7_addTerm_22 (fun H locs N => ?_)
    refine lv_iconst (v := 4) hx hb dX7_addTerm_25 (by decide) ?_
    refine lv_icmp_ne (tgt := 37) hx hb dX7_addTerm_26 (by decide) (fun c_26 => ?_) (fun c_26 => ?_)
    · refine lv_iload_n hx hb dX7_addTerm_37 rfl (lv_at hl 2 rfl) ?_
      refine cS_i F N (c_X5_refers l G _ t) miX5_refers k_614 (by omega) hl.1 rfl (Nat.le_of_ble_eq_true rfl) dX7_addTerm_38 (fun H locs N => ?_)
      refine ifB_ne (tgt := 46) hx hb dX7_addTerm_41 (by decide) (fun c_41 => ?_) (fun c_41 => ?_)
      · refine lv_iload_n hx hb dX7_addTerm_46 rfl (lv_at hl 1 rfl) ?_
        refine lv_istore (lv' := [(5, .int b), (0, .ref (ad 5)), (1, .int b), (2, .int t), (3, .int (nI cell)), (4, .int (nI dp))]) hx hb dX7_addTerm_47 hl (by decide) rfl (fun ls hl => ?_)
        refine lv_iload_n hx hb dX7_addTerm_49 rfl (lv_at hl 3 rfl) ?_
        refine lv_iconst (v := 1) hx hb dX7_addTerm_50 (by decide) ?_
        refine cS_i F N (c_X5_greatest l G _ t 1) miX5_greatest k_615 (by omega) hl.1 rfl (Nat.le_of_ble_eq_true rfl) dX7_addTerm_51 (fun H locs N => ?_)
        refine toN (a := grN t 1) (gr_N t 1) ?_
        refine lv_istore (lv' := [(6, .int (nI (grN t 1))), (5, .int b), (0, .ref (ad 5)), (1, .int b), (2, .int t), (3, .int (nI cell)), (4, .int (nI dp))]) hx hb dX7_addTerm_54 hl (by decide) rfl (fun ls hl => ?_)
        refine lv_iload_n hx hb dX7_addTerm_56 rfl (lv_at hl 4 rfl) ?_
        refine lv_iconst (v := 0) hx hb dX7_addTerm_57 (by decide) ?_
        refine cS_i F N (c_X5_greatest l G _ t 0) miX5_greatest k_615 (by omega) hl.1 rfl (Nat.le_of_ble_eq_true rfl) dX7_addTerm_58 (fun H locs N => ?_)
        refine toN (a := grN t 0) (gr_N t 0) ?_
        refine lv_istore (lv' := [(7, .int (nI (grN t 0))), (6, .int (nI (grN t 1))), (5, .int b), (0, .ref (ad 5)), (1, .int b), (2, .int t), (3, .int (nI cell)), (4, .int (nI dp))]) hx hb dX7_addTerm_61 hl (by decide) rfl (fun ls hl => ?_)
        refine lv_iload_n hx hb dX7_addTerm_63 rfl (lv_at hl 5 rfl) ?_
        refine lv_iconst (v := 1) hx hb dX7_addTerm_64 (by decide) ?_
        refine cS_i F N (c_X5_least l G _ t 1) miX5_least k_616 (by omega) hl.1 rfl (Nat.le_of_ble_eq_true rfl) dX7_addTerm_65 (fun H locs N => ?_)
        refine toN (a := leN t 1) (le_N t 1) ?_
        refine lv_istore (lv' := [(8, .int (nI (leN t 1))), (7, .int (nI (grN t 0))), (6, .int (nI (grN t 1))), (5, .int b), (0, .ref (ad 5)), (1, .int b), (2, .int t), (3, .int (nI cell)), (4, .int (nI dp))]) hx hb dX7_addTerm_68 hl (by decide) rfl (fun ls hl => ?_)
        have cut_70 : ∀ (k : Nat) (r : Nat) (sum : Int32) (s1 : ST), k = grN t 1 + 1 - r → r < 10 → xRows ask t cell dp k r (sum, s1) = (xAddT ask b t cell dp st) → ∀ (H : Heap) (locs : List Loc) (ls : Array Slot), Now G zs (XW G ad s1 ++ ex) H locs → lv_has ls 11 [(0, .ref (ad 5)), (1, .int b), (2, .int t), (3, .int (nI cell)), (4, .int (nI dp)), (6, .int (nI (grN t 1))), (7, .int (nI (grN t 0))), (5, .int sum), (8, .int (nI r))] → W zp l ze (RM (ka + 1)) zs zm zargs zbelow zmeth zc H locs 0 0 zQ (F0 zm 70 ls []) := by
          intro k
          induction k with
          | zero =>
            intro r sum s1 hk hr8 hI H locs ls N hl
            refine lv_iload hx hb dX7_addTerm_70 (lv_at hl 8 rfl) ?_
            refine lv_iload hx hb dX7_addTerm_72 (lv_at hl 5 rfl) ?_
            refine cmpN_gt (a := r) (b := (grN t 1)) (tgt := 161) hx hb dX7_addTerm_74 (by decide) (by omega) (by omega) (fun c_74 => ?_) (fun c_74 => ?_)
            · have c_74v := Nat.not_le.mpr c_74
              refine lv_iload hx hb dX7_addTerm_161 (lv_at hl 7 rfl) ?_
              exact hret _ _ _ _ _ _ dX7_addTerm_163 (by rw [← hI]; first | rfl | (rw [xRows, if_neg c_81])) (by rw [← hI]; first | rfl | (rw [xRows, if_neg c_81])) N
            · exfalso; omega
          | succ k ih_70 =>
            intro r sum s1 hk hr8 hI H locs ls N hl
            refine lv_iload hx hb dX7_addTerm_70 (lv_at hl 8 rfl) ?_
            refine lv_iload hx hb dX7_addTerm_72 (lv_at hl 5 rfl) ?_
            refine cmpN_gt (a := r) (b := (grN t 1)) (tgt := 161) hx hb dX7_addTerm_74 (by decide) (by omega) (by omega) (fun c_74 => ?_) (fun c_74 => ?_)
            · exfalso; omega
            · have c_74v := Nat.not_lt.mp c_74
              refine lv_aload_n hx hb dX7_addTerm_77 rfl (lv_at hl 0 rfl) ?_
              refine gx_5_met F N k_166 dX7_addTerm_78 ?_
              refine lv_if_ne (tgt := 161) hx hb dX7_addTerm_81 (by decide) (fun c_81 => ?_) (fun c_81 => ?_)
              · refine lv_iload hx hb dX7_addTerm_161 (lv_at hl 7 rfl) ?_
                exact hret _ _ _ _ _ _ dX7_addTerm_163 (by rw [← hI]; first | rfl | (rw [xRows, if_neg c_81])) (by rw [← hI]; first | rfl | (rw [xRows, if_neg c_81])) N
              · refine lv_iload_n hx hb dX7_addTerm_84 rfl (lv_at hl 2 rfl) ?_
                refine lv_iconst (v := 0) hx hb dX7_addTerm_85 (by decide) ?_
                refine cS_i F N (c_X5_least l G _ t 0) miX5_least k_616 (by omega) hl.1 rfl (Nat.le_of_ble_eq_true rfl) dX7_addTerm_86 (fun H locs N => ?_)
                refine toN (a := leN t 0) (le_N t 0) ?_
                refine lv_istore (lv' := [(9, .int (nI (leN t 0))), (0, .ref (ad 5)), (1, .int b), (2, .int t), (3, .int (nI cell)), (4, .int (nI dp)), (6, .int (nI (grN t 1))), (7, .int (nI (grN t 0))), (5, .int sum), (8, .int (nI r))]) hx hb dX7_addTerm_89 hl (by decide) rfl (fun ls hl => ?_)
                have cut_91 : ∀ (k2 : Nat) (c : Nat) (sum2 : Int32) (s2 : ST), k2 = grN t 0 + 1 - c → c < 10 → xCols ask cell dp r k2 c (sum2, s2) = xCols ask cell dp r (grN t 0 + 1 - leN t 0) (leN t 0) (sum, s1) → ∀ (H : Heap) (locs : List Loc) (ls : Array Slot), Now G zs (XW G ad s2 ++ ex) H locs → lv_has ls 11 [(0, .ref (ad 5)), (1, .int b), (2, .int t), (3, .int (nI cell)), (4, .int (nI dp)), (6, .int (nI (grN t 1))), (7, .int (nI (grN t 0))), (5, .int sum2), (8, .int (nI r)), (9, .int (nI c))] → W zp l ze (RM (ka + 1)) zs zm zargs zbelow zmeth zc H locs 0 0 zQ (F0 zm 91 ls []) := by
                  intro k2
                  induction k2 with
                  | zero =>
                    intro c sum2 s2 hk2 hc8 hI2 H locs ls N hl
                    refine lv_iload hx hb dX7_addTerm_91 (lv_at hl 9 rfl) ?_
                    refine lv_iload hx hb dX7_addTerm_93 (lv_at hl 6 rfl) ?_
                    refine cmpN_gt (a := c) (b := (grN t 0)) (tgt := 155) hx hb dX7_addTerm_95 (by decide) (by omega) (by omega) (fun c_95 => ?_) (fun c_95 => ?_)
                    · have c_95v := Nat.not_le.mpr c_95
                      refine lv_iinc (v := (nI (r + 1))) (lv' := [(8, .int (nI (r + 1))), (0, .ref (ad 5)), (1, .int b), (2, .int t), (3, .int (nI cell)), (4, .int (nI dp)), (6, .int (nI (grN t 1))), (7, .int (nI (grN t 0))), (5, .int sum2), (9, .int (nI c))]) hx hb dX7_addTerm_155 hl (k := 8) rfl (nI_1 r) (by decide) rfl (fun ls hl => ?_)
                      refine lv_goto (tgt := 70) hx hb dX7_addTerm_158 (by decide) ?_
                      exact ih_70 (r + 1) sum2 s2 (by omega) (by omega) (by rw [← hI, xRows, if_pos c_81, ← hI2]; first | rfl | (rw [xCols, if_neg c_102])) _ _ _ N (lv_sub hl [1, 2, 3, 4, 5, 6, 7, 8, 0] rfl)
                    · exfalso; omega
                  | succ k2 ih_91 =>
                    intro c sum2 s2 hk2 hc8 hI2 H locs ls N hl
                    refine lv_iload hx hb dX7_addTerm_91 (lv_at hl 9 rfl) ?_
                    refine lv_iload hx hb dX7_addTerm_93 (lv_at hl 6 rfl) ?_
                    refine cmpN_gt (a := c) (b := (grN t 0)) (tgt := 155) hx hb dX7_addTerm_95 (by decide) (by omega) (by omega) (fun c_95 => ?_) (fun c_95 => ?_)
                    · exfalso; omega
                    · have c_95v := Nat.not_lt.mp c_95
                      refine lv_aload_n hx hb dX7_addTerm_98 rfl (lv_at hl 0 rfl) ?_
                      refine gx_5_met F N k_166 dX7_addTerm_99 ?_
                      refine lv_if_ne (tgt := 155) hx hb dX7_addTerm_102 (by decide) (fun c_102 => ?_) (fun c_102 => ?_)
                      · refine lv_iinc (v := (nI (r + 1))) (lv' := [(8, .int (nI (r + 1))), (0, .ref (ad 5)), (1, .int b), (2, .int t), (3, .int (nI cell)), (4, .int (nI dp)), (6, .int (nI (grN t 1))), (7, .int (nI (grN t 0))), (5, .int sum2), (9, .int (nI c))]) hx hb dX7_addTerm_155 hl (k := 8) rfl (nI_1 r) (by decide) rfl (fun ls hl => ?_)
                        refine lv_goto (tgt := 70) hx hb dX7_addTerm_158 (by decide) ?_
                        exact ih_70 (r + 1) sum2 s2 (by omega) (by omega) (by rw [← hI, xRows, if_pos c_81, ← hI2]; first | rfl | (rw [xCols, if_neg c_102])) _ _ _ N (lv_sub hl [1, 2, 3, 4, 5, 6, 7, 8, 0] rfl)
                      · refine lv_iload hx hb dX7_addTerm_105 (lv_at hl 9 rfl) ?_
                        refine lv_iload hx hb dX7_addTerm_107 (lv_at hl 8 rfl) ?_
                        refine cN_i F N (c_X8_isPlace l G _ (nI c) (nI r)) miX8_isPlace k_617 (by omega) hl.1 rfl (Nat.le_of_ble_eq_true rfl) dX7_addTerm_109 (fun H locs N => ?_)
                        refine ifB_eq (tgt := 133) hx hb dX7_addTerm_112 (by decide) (fun c_112 => ?_) (fun c_112 => ?_)
                        · refine lv_iconst (v := 0) hx hb dX7_addTerm_133 (by decide) ?_
                          refine lv_istore (lv' := [(10, .int 0), (0, .ref (ad 5)), (1, .int b), (2, .int t), (3, .int (nI cell)), (4, .int (nI dp)), (6, .int (nI (grN t 1))), (7, .int (nI (grN t 0))), (5, .int sum2), (8, .int (nI r)), (9, .int (nI c))]) hx hb dX7_addTerm_134 hl (by decide) rfl (fun ls hl => ?_)
                          refine lv_aload_n hx hb dX7_addTerm_136 rfl (lv_at hl 1 rfl) ?_
                          refine lv_iload hx hb dX7_addTerm_137 (lv_at hl 8 rfl) ?_
                          refine lv_iload hx hb dX7_addTerm_139 (lv_at hl 0 rfl) ?_
                          refine lv_iload_n hx hb dX7_addTerm_141 rfl (lv_at hl 4 rfl) ?_
                          refine lv_iload hx hb dX7_addTerm_142 (lv_at hl 5 rfl) ?_
                          refine xV_i F N (c_X7_add l G ad ex s2 sum2 0 (nI cell) (nI dp)) miX7_add k_609 (by omega) hl.1 rfl (Nat.le_of_ble_eq_true rfl) (q0 := 5) (ci := 6) rfl rfl dX7_addTerm_144 (fun st_144 est_144 H locs N => ?_)
                          refine lv_istore (lv' := [(5, .int (sum2 + (0 : Int32))), (10, .int 0), (0, .ref (ad 5)), (1, .int b), (2, .int t), (3, .int (nI cell)), (4, .int (nI dp)), (6, .int (nI (grN t 1))), (7, .int (nI (grN t 0))), (8, .int (nI r)), (9, .int (nI c))]) hx hb dX7_addTerm_147 hl (by decide) rfl (fun ls hl => ?_)
                          refine lv_iinc (v := (nI (c + 1))) (lv' := [(9, .int (nI (c + 1))), (5, .int (sum2 + (0 : Int32))), (10, .int 0), (0, .ref (ad 5)), (1, .int b), (2, .int t), (3, .int (nI cell)), (4, .int (nI dp)), (6, .int (nI (grN t 1))), (7, .int (nI (grN t 0))), (8, .int (nI r))]) hx hb dX7_addTerm_149 hl (k := 10) rfl (nI_1 c) (by decide) rfl (fun ls hl => ?_)
                          refine lv_goto (tgt := 91) hx hb dX7_addTerm_152 (by decide) ?_
                          exact ih_91 (c + 1) (sum2 + (0 : Int32)) st_144 (by omega) (by omega) (by rw [← hI2, xCols, if_pos c_102]; first | rw [if_pos c_112, est_144] | rw [if_neg (by rw [c_112]; decide), est_144]) _ _ _ N (lv_sub hl [3, 4, 5, 6, 7, 8, 9, 1, 10, 0] rfl)
                        · refine lv_aload_n hx hb dX7_addTerm_115 rfl (lv_at hl 0 rfl) ?_
                          refine lv_iload hx hb dX7_addTerm_116 (lv_at hl 9 rfl) ?_
                          refine lv_iload hx hb dX7_addTerm_118 (lv_at hl 8 rfl) ?_
                          refine cN_i F N (c_X8_cellAt l G _ (nI c) (nI r)) miX8_cellAt k_618 (by omega) hl.1 rfl (Nat.le_of_ble_eq_true rfl) dX7_addTerm_120 (fun H locs N => ?_)
                          refine toN (a := r * 6 + c) (xAt_nI c r) ?_
                          refine lv_iload hx hb dX7_addTerm_123 (lv_at hl 4 rfl) ?_
                          refine lv_iconst (v := 1) hx hb dX7_addTerm_125 (by decide) ?_
                          refine iaddN (a := dp) (b := 1) hx hb dX7_addTerm_126 ?_
                          refine xV_i F N (hask s2 (r * 6 + c) (by have h9 := xIsPl_lt (by omega) (by omega) c_112; omega)) miX7_ask k_594 (by omega) hl.1 rfl (Nat.le_of_ble_eq_true rfl) (q0 := 5) (ci := 6) rfl rfl dX7_addTerm_127 (fun st_127 est_127 H locs N => ?_)
                          refine lv_goto (tgt := 134) hx hb dX7_addTerm_130 (by decide) ?_
                          refine lv_istore (lv' := [(10, .int ((ask s2 (r * 6 + c)).1)), (0, .ref (ad 5)), (1, .int b), (2, .int t), (3, .int (nI cell)), (4, .int (nI dp)), (6, .int (nI (grN t 1))), (7, .int (nI (grN t 0))), (5, .int sum2), (8, .int (nI r)), (9, .int (nI c))]) hx hb dX7_addTerm_134 hl (by decide) rfl (fun ls hl => ?_)
                          refine lv_aload_n hx hb dX7_addTerm_136 rfl (lv_at hl 1 rfl) ?_
                          refine lv_iload hx hb dX7_addTerm_137 (lv_at hl 8 rfl) ?_
                          refine lv_iload hx hb dX7_addTerm_139 (lv_at hl 0 rfl) ?_
                          refine lv_iload_n hx hb dX7_addTerm_141 rfl (lv_at hl 4 rfl) ?_
                          refine lv_iload hx hb dX7_addTerm_142 (lv_at hl 5 rfl) ?_
                          refine xV_i F N (c_X7_add l G ad ex st_127 sum2 ((ask s2 (r * 6 + c)).1) (nI cell) (nI dp)) miX7_add k_609 (by omega) hl.1 rfl (Nat.le_of_ble_eq_true rfl) (q0 := 5) (ci := 6) rfl rfl dX7_addTerm_144 (fun st_144 est_144 H locs N => ?_)
                          refine lv_istore (lv' := [(5, .int (sum2 + ((ask s2 (r * 6 + c)).1))), (10, .int ((ask s2 (r * 6 + c)).1)), (0, .ref (ad 5)), (1, .int b), (2, .int t), (3, .int (nI cell)), (4, .int (nI dp)), (6, .int (nI (grN t 1))), (7, .int (nI (grN t 0))), (8, .int (nI r)), (9, .int (nI c))]) hx hb dX7_addTerm_147 hl (by decide) rfl (fun ls hl => ?_)
                          refine lv_iinc (v := (nI (c + 1))) (lv' := [(9, .int (nI (c + 1))), (5, .int (sum2 + ((ask s2 (r * 6 + c)).1))), (10, .int ((ask s2 (r * 6 + c)).1)), (0, .ref (ad 5)), (1, .int b), (2, .int t), (3, .int (nI cell)), (4, .int (nI dp)), (6, .int (nI (grN t 1))), (7, .int (nI (grN t 0))), (8, .int (nI r))]) hx hb dX7_addTerm_149 hl (k := 10) rfl (nI_1 c) (by decide) rfl (fun ls hl => ?_)
                          refine lv_goto (tgt := 91) hx hb dX7_addTerm_152 (by decide) ?_
                          exact ih_91 (c + 1) (sum2 + ((ask s2 (r * 6 + c)).1)) st_144 (by omega) (by omega) (by rw [← hI2, xCols, if_pos c_102]; first | rw [if_pos c_112, est_144, est_127] | rw [if_neg (by rw [c_112]; decide), est_144, est_127]) _ _ _ N (lv_sub hl [3, 4, 5, 6, 7, 8, 9, 1, 10, 0] rfl)
                exact cut_91 (grN t 0 + 1 - leN t 0) (leN t 0) sum s1 rfl (by omega) rfl _ _ _ N (lv_sub hl [1, 2, 3, 4, 5, 6, 7, 8, 9, 0] rfl)
        exact cut_70 (grN t 1 + 1 - leN t 1) (leN t 1) b st rfl (by omega) (by simp [xAddT, c_5, c_26, c_41]) _ _ _ N (lv_sub hl [4, 5, 6, 7, 8, 2, 1, 3, 0] rfl)
      · refine lv_iload_n hx hb dX7_addTerm_44 rfl (lv_at hl 1 rfl) ?_
        exact hret _ _ _ _ _ _ dX7_addTerm_45 (by simp [xAddT, c_5, c_26, c_41]) (by simp [xAddT, c_5, c_26, c_41]) N
    · refine lv_aload_n hx hb dX7_addTerm_29 rfl (lv_at hl 0 rfl) ?_
      refine lv_iconst (v := 1) hx hb dX7_addTerm_30 (by decide) ?_
      refine lv_iload_n hx hb dX7_addTerm_31 rfl (lv_at hl 3 rfl) ?_
      refine lv_iload hx hb dX7_addTerm_32 (lv_at hl 4 rfl) ?_
      refine xV_v F N (c_X7_meet l G ad ex st 1 (nI cell) (nI dp)) miX7_meet k_598 (by omega) hl.1 rfl (Nat.le_of_ble_eq_true rfl) (q0 := 5) (ci := 6) rfl rfl dX7_addTerm_34 (fun st_34 est_34 H locs N => ?_)
      refine lv_iload_n hx hb dX7_addTerm_37 rfl (lv_at hl 2 rfl) ?_
      refine cS_i F N (c_X5_refers l G _ t) miX5_refers k_614 (by omega) hl.1 rfl (Nat.le_of_ble_eq_true rfl) dX7_addTerm_38 (fun H locs N => ?_)
      refine ifB_ne (tgt := 46) hx hb dX7_addTerm_41 (by decide) (fun c_41 => ?_) (fun c_41 => ?_)
      · exact absurd c_41 (by simp [tRef, c_26])
      · refine lv_iload_n hx hb dX7_addTerm_44 rfl (lv_at hl 1 rfl) ?_
        exact hret _ _ _ _ _ _ dX7_addTerm_45 (by simp [xAddT, c_5, c_26, c_41]) (by simp [xAddT, est_34, c_5, c_26, c_41]) N
  · refine lv_aload_n hx hb dX7_addTerm_8 rfl (lv_at hl 0 rfl) ?_
    refine lv_iload_n hx hb dX7_addTerm_9 rfl (lv_at hl 1 rfl) ?_
    refine lv_iload_n hx hb dX7_addTerm_10 rfl (lv_at hl 2 rfl) ?_
    refine cS_i F N (c_X5_number l G _ t) miX5_number k_608 (by omega) hl.1 rfl (Nat.le_of_ble_eq_true rfl) dX7_addTerm_11 (fun H locs N => ?_)
    refine lv_iload_n hx hb dX7_addTerm_14 rfl (lv_at hl 3 rfl) ?_
    refine lv_iload hx hb dX7_addTerm_15 (lv_at hl 4 rfl) ?_
    refine xV_i F N (c_X7_add l G ad ex st b (tNum t) (nI cell) (nI dp)) miX7_add k_609 (by omega) hl.1 rfl (Nat.le_of_ble_eq_true rfl) (q0 := 5) (ci := 6) rfl rfl dX7_addTerm_17 (fun st_17 est_17 H locs N => ?_)
    exact hret _ _ _ _ _ _ dX7_addTerm_20 (by simp [xAddT, c_5]) (by simp [xAddT, est_17, c_5]) N
set_option maxHeartbeats 4000000 in
set_option maxRecDepth 100000 in
theorem c_X7_ask_of (l : Launch) (G : GM) (ad : Nat → Nat) (ex : va_W) (st : ST) (cell : Nat) (dp : Nat) (addt : ST → Int32 → Int32 → Int32 × ST) (ka : Nat) (hka : 3 ≤ ka) (hc : cell < 36) (hdp : dp ≤ 36) (hadd : dp < 36 → ∀ (st : ST) (b t : Int32), XXi l G yX7_addTerm cX7_addTerm 11 (some .int) ka [.ref (ad 5), .int b, .int t, .int (nI cell), .int (nI dp)] ad ex st (addt st b t).1 (addt st b t).2) : XXi l G yX7_ask cX7_ask 5 (some .int) (ka + 1) [.ref (ad 5), .int (nI cell), .int (nI dp)] ad ex st ((xAskF addt cell dp st).1) ((xAskF addt cell dp st).2) := by
  refine xi_start (by decide) rfl (Nat.le_of_ble_eq_true rfl) ?_
  intro zp ze zs zm zargs zbelow zmeth zc zQ ls F N hl hret
  have hx := F.1
  have hb := F.2.1
  have hl : lv_has ls 5 [(0, .ref (ad 5)), (1, .int (nI cell)), (2, .int (nI dp))] := hl
  refine lv_aload_n hx hb dX7_ask_0 rfl (lv_at hl 0 rfl) ?_
  refine gx_5_faults F N k_157 dX7_ask_1 ?_
  refine lv_iload_n hx hb dX7_ask_4 rfl (lv_at hl 1 rfl) ?_
  refine axN_5 (j := cell) F N (by omega) dX7_ask_5 ?_
  refine lv_if_ne (tgt := 16) hx hb dX7_ask_6 (by decide) (fun c_6 => ?_) (fun c_6 => ?_)
  · refine lv_aload_n hx hb dX7_ask_16 rfl (lv_at hl 0 rfl) ?_
    refine gx_5_asked F N k_165 dX7_ask_17 ?_
    refine lv_iload_n hx hb dX7_ask_20 rfl (lv_at hl 1 rfl) ?_
    refine axN_9 (j := cell) F N (by omega) dX7_ask_21 ?_
    refine lv_if_ne (tgt := 31) hx hb dX7_ask_22 (by decide) (fun c_22 => ?_) (fun c_22 => ?_)
    · refine lv_aload_n hx hb dX7_ask_31 rfl (lv_at hl 0 rfl) ?_
      refine lv_iconst (v := 2) hx hb dX7_ask_32 (by decide) ?_
      refine lv_iload_n hx hb dX7_ask_33 rfl (lv_at hl 1 rfl) ?_
      refine lv_iload_n hx hb dX7_ask_34 rfl (lv_at hl 2 rfl) ?_
      refine lv_iconst (v := 1) hx hb dX7_ask_35 (by decide) ?_
      refine lv_isub hx hb dX7_ask_36 ?_
      refine xV_v F N (c_X7_meet l G ad ex st 2 (nI cell) ((nI dp) - (1 : Int32))) miX7_meet k_598 (by omega) hl.1 rfl (Nat.le_of_ble_eq_true rfl) (q0 := 5) (ci := 6) rfl rfl dX7_ask_37 (fun st_37 est_37 H locs N => ?_)
      refine lv_iconst (v := 0) hx hb dX7_ask_40 (by decide) ?_
      exact hret _ _ _ _ _ _ dX7_ask_41 (by unfold xAskF; first | rw [if_neg c_6, if_pos c_22] | rw [if_neg c_6, if_neg (not_not_intro c_22), if_pos (by omega)]) (by unfold xAskF; first | rw [if_neg c_6, if_pos c_22, est_37] | rw [if_neg c_6, if_neg (not_not_intro c_22), if_pos (by omega), est_37]) N
    · refine lv_iload_n hx hb dX7_ask_25 rfl (lv_at hl 2 rfl) ?_
      refine lv_bipush (v := 36) hx hb dX7_ask_26 (by decide) ?_
      refine cmpN_lt (a := dp) (b := 36) (tgt := 42) hx hb dX7_ask_28 (by decide) (by omega) (by omega) (fun c_28 => ?_) (fun c_28 => ?_)
      · have c_28v := Nat.not_le.mpr c_28
        refine lv_aload_n hx hb dX7_ask_42 rfl (lv_at hl 0 rfl) ?_
        refine gx_5_asked F N k_165 dX7_ask_43 ?_
        refine lv_iload_n hx hb dX7_ask_46 rfl (lv_at hl 1 rfl) ?_
        refine lv_iconst (v := 1) hx hb dX7_ask_47 (by decide) ?_
        refine sxN_9 (j := cell) F N (by omega) dX7_ask_48 (fun st_48 est_48 H locs N => ?_)
        refine lv_iconst (v := 0) hx hb dX7_ask_49 (by decide) ?_
        refine lv_istore_n (lv' := [(3, .int 0), (0, .ref (ad 5)), (1, .int (nI cell)), (2, .int (nI dp))]) hx hb dX7_ask_50 rfl hl (by decide) rfl (fun ls hl => ?_)
        refine lv_iconst (v := 0) hx hb dX7_ask_51 (by decide) ?_
        refine lv_istore (lv' := [(4, .int 0), (3, .int 0), (0, .ref (ad 5)), (1, .int (nI cell)), (2, .int (nI dp))]) hx hb dX7_ask_52 hl (by decide) rfl (fun ls hl => ?_)
        have cut_54 : ∀ (k : Nat) (sum : Int32) (i : Nat) (s1 : ST), i + k = 4 → dp < 36 → xTerms addt cell k i (sum, s1) = xTerms addt cell 4 0 (0, sA st 9 (upd (st.2.1 9) cell 1)) → xAskF addt cell dp st = ((xTerms addt cell 4 0 (0, sA st 9 (upd (st.2.1 9) cell 1))).1, xAskE cell (xTerms addt cell 4 0 (0, sA st 9 (upd (st.2.1 9) cell 1)))) → ∀ (H : Heap) (locs : List Loc) (ls : Array Slot), Now G zs (XW G ad s1 ++ ex) H locs → lv_has ls 5 [(0, .ref (ad 5)), (1, .int (nI cell)), (2, .int (nI dp)), (3, .int sum), (4, .int (nI i))] → W zp l ze (RM (ka + 1)) zs zm zargs zbelow zmeth zc H locs 0 0 zQ (F0 zm 54 ls []) := by
          intro k
          induction k with
          | zero =>
            intro sum i s1 hk hd36 hI hE H locs ls N hl
            refine lv_iload hx hb dX7_ask_54 (lv_at hl 4 rfl) ?_
            refine lv_iconst (v := 4) hx hb dX7_ask_56 (by decide) ?_
            refine cmpN_ge (a := i) (b := 4) (tgt := 91) hx hb dX7_ask_57 (by decide) (by omega) (by omega) (fun c_57 => ?_) (fun c_57 => ?_)
            · have c_57v := Nat.not_lt.mpr c_57
              refine lv_aload_n hx hb dX7_ask_91 rfl (lv_at hl 0 rfl) ?_
              refine gx_5_asked F N k_165 dX7_ask_92 ?_
              refine lv_iload_n hx hb dX7_ask_95 rfl (lv_at hl 1 rfl) ?_
              refine lv_iconst (v := 0) hx hb dX7_ask_96 (by decide) ?_
              refine sxN_9 (j := cell) F N (by omega) dX7_ask_97 (fun st_97 est_97 H locs N => ?_)
              refine lv_aload_n hx hb dX7_ask_98 rfl (lv_at hl 0 rfl) ?_
              refine gx_5_met F N k_166 dX7_ask_99 ?_
              refine lv_if_ne (tgt := 119) hx hb dX7_ask_102 (by decide) (fun c_102 => ?_) (fun c_102 => ?_)
              · refine lv_iload_n hx hb dX7_ask_119 rfl (lv_at hl 3 rfl) ?_
                exact hret _ _ _ _ _ _ dX7_ask_120 (by rw [hE, ← hI]; first | rfl | (rw [xTerms, if_neg c_64])) (by rw [hE, ← hI]; first | exact absurd (by rw [est_97] at c_102; exact c_102) c_64 | ((first | (have h9 : xTerms addt cell 0 i (sum, s1) = (sum, s1) := rfl; rw [h9]) | (rw [xTerms, if_neg c_64])); first | exact congrArg (fun z => XW G ad z ++ ex) (xE_neg est_97 c_102) | exact congrArg (fun z => XW G ad z ++ ex) (xE_pos est_97 est_111 est_118 c_102))) N
              · refine lv_aload_n hx hb dX7_ask_105 rfl (lv_at hl 0 rfl) ?_
                refine gx_5_faults F N k_157 dX7_ask_106 ?_
                refine lv_iload_n hx hb dX7_ask_109 rfl (lv_at hl 1 rfl) ?_
                refine lv_iconst (v := 0) hx hb dX7_ask_110 (by decide) ?_
                refine sxN_5 (j := cell) F N (by omega) dX7_ask_111 (fun st_111 est_111 H locs N => ?_)
                refine lv_aload_n hx hb dX7_ask_112 rfl (lv_at hl 0 rfl) ?_
                refine gx_5_sums F N k_159 dX7_ask_113 ?_
                refine lv_iload_n hx hb dX7_ask_116 rfl (lv_at hl 1 rfl) ?_
                refine lv_iload_n hx hb dX7_ask_117 rfl (lv_at hl 3 rfl) ?_
                refine sxN_6 (j := cell) F N (by omega) dX7_ask_118 (fun st_118 est_118 H locs N => ?_)
                refine lv_iload_n hx hb dX7_ask_119 rfl (lv_at hl 3 rfl) ?_
                exact hret _ _ _ _ _ _ dX7_ask_120 (by rw [hE, ← hI]; first | rfl | (rw [xTerms, if_neg c_64])) (by rw [hE, ← hI]; first | exact absurd (by rw [est_97] at c_102; exact c_102) c_64 | ((first | (have h9 : xTerms addt cell 0 i (sum, s1) = (sum, s1) := rfl; rw [h9]) | (rw [xTerms, if_neg c_64])); first | exact congrArg (fun z => XW G ad z ++ ex) (xE_neg est_97 c_102) | exact congrArg (fun z => XW G ad z ++ ex) (xE_pos est_97 est_111 est_118 c_102))) N
            · exfalso; omega
          | succ k ih_54 =>
            intro sum i s1 hk hd36 hI hE H locs ls N hl
            refine lv_iload hx hb dX7_ask_54 (lv_at hl 4 rfl) ?_
            refine lv_iconst (v := 4) hx hb dX7_ask_56 (by decide) ?_
            refine cmpN_ge (a := i) (b := 4) (tgt := 91) hx hb dX7_ask_57 (by decide) (by omega) (by omega) (fun c_57 => ?_) (fun c_57 => ?_)
            · exfalso; omega
            · have c_57v := Nat.not_le.mp c_57
              refine lv_aload_n hx hb dX7_ask_60 rfl (lv_at hl 0 rfl) ?_
              refine gx_5_met F N k_166 dX7_ask_61 ?_
              refine lv_if_ne (tgt := 91) hx hb dX7_ask_64 (by decide) (fun c_64 => ?_) (fun c_64 => ?_)
              · refine lv_aload_n hx hb dX7_ask_91 rfl (lv_at hl 0 rfl) ?_
                refine gx_5_asked F N k_165 dX7_ask_92 ?_
                refine lv_iload_n hx hb dX7_ask_95 rfl (lv_at hl 1 rfl) ?_
                refine lv_iconst (v := 0) hx hb dX7_ask_96 (by decide) ?_
                refine sxN_9 (j := cell) F N (by omega) dX7_ask_97 (fun st_97 est_97 H locs N => ?_)
                refine lv_aload_n hx hb dX7_ask_98 rfl (lv_at hl 0 rfl) ?_
                refine gx_5_met F N k_166 dX7_ask_99 ?_
                refine lv_if_ne (tgt := 119) hx hb dX7_ask_102 (by decide) (fun c_102 => ?_) (fun c_102 => ?_)
                · refine lv_iload_n hx hb dX7_ask_119 rfl (lv_at hl 3 rfl) ?_
                  exact hret _ _ _ _ _ _ dX7_ask_120 (by rw [hE, ← hI]; first | rfl | (rw [xTerms, if_neg c_64])) (by rw [hE, ← hI]; first | exact absurd (by rw [est_97] at c_102; exact c_102) c_64 | ((first | (have h9 : xTerms addt cell 0 i (sum, s1) = (sum, s1) := rfl; rw [h9]) | (rw [xTerms, if_neg c_64])); first | exact congrArg (fun z => XW G ad z ++ ex) (xE_neg est_97 c_102) | exact congrArg (fun z => XW G ad z ++ ex) (xE_pos est_97 est_111 est_118 c_102))) N
                · refine lv_aload_n hx hb dX7_ask_105 rfl (lv_at hl 0 rfl) ?_
                  refine gx_5_faults F N k_157 dX7_ask_106 ?_
                  refine lv_iload_n hx hb dX7_ask_109 rfl (lv_at hl 1 rfl) ?_
                  refine lv_iconst (v := 0) hx hb dX7_ask_110 (by decide) ?_
                  refine sxN_5 (j := cell) F N (by omega) dX7_ask_111 (fun st_111 est_111 H locs N => ?_)
                  refine lv_aload_n hx hb dX7_ask_112 rfl (lv_at hl 0 rfl) ?_
                  refine gx_5_sums F N k_159 dX7_ask_113 ?_
                  refine lv_iload_n hx hb dX7_ask_116 rfl (lv_at hl 1 rfl) ?_
                  refine lv_iload_n hx hb dX7_ask_117 rfl (lv_at hl 3 rfl) ?_
                  refine sxN_6 (j := cell) F N (by omega) dX7_ask_118 (fun st_118 est_118 H locs N => ?_)
                  refine lv_iload_n hx hb dX7_ask_119 rfl (lv_at hl 3 rfl) ?_
                  exact hret _ _ _ _ _ _ dX7_ask_120 (by rw [hE, ← hI]; first | rfl | (rw [xTerms, if_neg c_64])) (by rw [hE, ← hI]; first | exact absurd (by rw [est_97] at c_102; exact c_102) c_64 | ((first | (have h9 : xTerms addt cell 0 i (sum, s1) = (sum, s1) := rfl; rw [h9]) | (rw [xTerms, if_neg c_64])); first | exact congrArg (fun z => XW G ad z ++ ex) (xE_neg est_97 c_102) | exact congrArg (fun z => XW G ad z ++ ex) (xE_pos est_97 est_111 est_118 c_102))) N
              · refine lv_aload_n hx hb dX7_ask_67 rfl (lv_at hl 0 rfl) ?_
                refine lv_iload_n hx hb dX7_ask_68 rfl (lv_at hl 3 rfl) ?_
                refine lv_aload_n hx hb dX7_ask_69 rfl (lv_at hl 0 rfl) ?_
                refine gx_5_sheet F N k_156 dX7_ask_70 ?_
                refine lv_iload_n hx hb dX7_ask_73 rfl (lv_at hl 1 rfl) ?_
                refine lv_iload hx hb dX7_ask_74 (lv_at hl 4 rfl) ?_
                refine cV_i F N (c_X4_termOf l G ad ex s1 cell i hc (by omega)) miX4_termOf k_602 (by omega) hl.1 rfl (Nat.le_of_ble_eq_true rfl) (q0 := 3) (ci := 4) rfl rfl dX7_ask_76 (fun H locs N => ?_)
                refine lv_iload_n hx hb dX7_ask_79 rfl (lv_at hl 1 rfl) ?_
                refine lv_iload_n hx hb dX7_ask_80 rfl (lv_at hl 2 rfl) ?_
                refine xV_i F N (hadd hd36 s1 sum (tm (s1.2.1 2) cell i)) miX7_addTerm k_603 (by omega) hl.1 rfl (Nat.le_of_ble_eq_true rfl) (q0 := 5) (ci := 6) rfl rfl dX7_ask_81 (fun st_81 est_81 H locs N => ?_)
                refine lv_istore_n (lv' := [(3, .int ((addt s1 sum (tm (s1.2.1 2) cell i)).1)), (0, .ref (ad 5)), (1, .int (nI cell)), (2, .int (nI dp)), (4, .int (nI i))]) hx hb dX7_ask_84 rfl hl (by decide) rfl (fun ls hl => ?_)
                refine lv_iinc (v := (nI (i + 1))) (lv' := [(4, .int (nI (i + 1))), (3, .int ((addt s1 sum (tm (s1.2.1 2) cell i)).1)), (0, .ref (ad 5)), (1, .int (nI cell)), (2, .int (nI dp))]) hx hb dX7_ask_85 hl (k := 4) rfl (nI_1 i) (by decide) rfl (fun ls hl => ?_)
                refine lv_goto (tgt := 54) hx hb dX7_ask_88 (by decide) ?_
                exact ih_54 ((addt s1 sum (tm (s1.2.1 2) cell i)).1) (i + 1) st_81 (by omega) (by omega) (by rw [← hI, xTerms, if_pos c_64, est_81]) hE _ _ _ N (lv_sub hl [2, 3, 4, 1, 0] rfl)
        exact cut_54 4 0 0 st_48 (by omega) (by omega) (by rw [est_48]; rfl) (by unfold xAskF; rw [if_neg c_6, if_neg (not_not_intro c_22), if_neg (by omega)]) _ _ _ N (lv_sub hl [2, 3, 4, 1, 0] rfl)
      · have c_28v := Nat.not_lt.mp c_28
        refine lv_aload_n hx hb dX7_ask_31 rfl (lv_at hl 0 rfl) ?_
        refine lv_iconst (v := 2) hx hb dX7_ask_32 (by decide) ?_
        refine lv_iload_n hx hb dX7_ask_33 rfl (lv_at hl 1 rfl) ?_
        refine lv_iload_n hx hb dX7_ask_34 rfl (lv_at hl 2 rfl) ?_
        refine lv_iconst (v := 1) hx hb dX7_ask_35 (by decide) ?_
        refine lv_isub hx hb dX7_ask_36 ?_
        refine xV_v F N (c_X7_meet l G ad ex st 2 (nI cell) ((nI dp) - (1 : Int32))) miX7_meet k_598 (by omega) hl.1 rfl (Nat.le_of_ble_eq_true rfl) (q0 := 5) (ci := 6) rfl rfl dX7_ask_37 (fun st_37 est_37 H locs N => ?_)
        refine lv_iconst (v := 0) hx hb dX7_ask_40 (by decide) ?_
        exact hret _ _ _ _ _ _ dX7_ask_41 (by unfold xAskF; first | rw [if_neg c_6, if_pos c_22] | rw [if_neg c_6, if_neg (not_not_intro c_22), if_pos (by omega)]) (by unfold xAskF; first | rw [if_neg c_6, if_pos c_22, est_37] | rw [if_neg c_6, if_neg (not_not_intro c_22), if_pos (by omega), est_37]) N
  · refine lv_aload_n hx hb dX7_ask_9 rfl (lv_at hl 0 rfl) ?_
    refine gx_5_sums F N k_159 dX7_ask_10 ?_
    refine lv_iload_n hx hb dX7_ask_13 rfl (lv_at hl 1 rfl) ?_
    refine axN_6 (j := cell) F N (by omega) dX7_ask_14 ?_
    exact hret _ _ _ _ _ _ dX7_ask_15 (by unfold xAskF; rw [if_pos c_6]) (by unfold xAskF; rw [if_pos c_6]) N
theorem c_X7_ask (l : Launch) (G : GM) (ad : Nat → Nat) (ex : va_W) : ∀ (n : Nat) (st : ST) (cell dp : Nat), cell < 36 → dp + n = 36 → XXi l G yX7_ask cX7_ask 5 (some .int) (4 + 2 * n) [.ref (ad 5), .int (nI cell), .int (nI dp)] ad ex st (xAsk n st cell dp).1 (xAsk n st cell dp).2
  | 0, st, c, dp, hc, hd => c_X7_ask_of l G ad ex st c dp (fun st _ _ => (0, st)) 3 (by decide) hc (by omega) (fun h => absurd h (by omega))
  | n + 1, st, c, dp, hc, hd => by
    have h := c_X7_ask_of l G ad ex st c dp (fun st b t => xAddT (fun st c => xAsk n st c (dp + 1)) b t c dp st) (4 + 2 * n + 1) (by omega) hc (by omega)
      (fun h st b t => c_X7_addTerm l G ad ex st b t c dp (fun st c => xAsk n st c (dp + 1)) (4 + 2 * n) (by omega) h (fun st c2 h2 => c_X7_ask l G ad ex n st c2 (dp + 1) h2 (by omega)))
    exact h
set_option maxHeartbeats 4000000 in
set_option maxRecDepth 100000 in
theorem c_X7_isFaulty (l : Launch) (G : GM) (ad : Nat → Nat) (ex : va_W) (st : ST) (cell : Nat) (hc : cell < 36) : XXi l G yX7_isFaulty cX7_isFaulty 2 (some .boolean) 77 [.ref (ad 5), .int (nI cell)] ad ex st (bI (decide (¬ (xIF st cell).2.1 5 cell = 0))) (xIF st cell) := by
  refine xi_start (by decide) (nar_bI _) (Nat.le_of_ble_eq_true rfl) ?_
  intro zp ze zs zm zargs zbelow zmeth zc zQ ls F N hl hret
  have hx := F.1
  have hb := F.2.1
  have hl : lv_has ls 2 [(0, .ref (ad 5)), (1, .int (nI cell))] := hl
  refine lv_aload_n hx hb dX7_isFaulty_0 rfl (lv_at hl 0 rfl) ?_
  refine gx_5_faults F N k_157 dX7_isFaulty_1 ?_
  refine lv_iload_n hx hb dX7_isFaulty_4 rfl (lv_at hl 1 rfl) ?_
  refine axN_5 (j := cell) F N (by omega) dX7_isFaulty_5 ?_
  refine lv_iconst (v := (-1)) hx hb dX7_isFaulty_6 (by decide) ?_
  refine lv_icmp_ne (tgt := 59) hx hb dX7_isFaulty_7 (by decide) (fun c_7 => ?_) (fun c_7 => ?_)
  · have cut_59 : ∀ (s1 : ST), s1 = xIF st cell → ∀ (H : Heap) (locs : List Loc) (ls : Array Slot), Now G zs (XW G ad s1 ++ ex) H locs → lv_has ls 2 [(0, .ref (ad 5)), (1, .int (nI cell))] → W zp l ze (RM 77) zs zm zargs zbelow zmeth zc H locs 0 0 zQ (F0 zm 59 ls []) := by
      intro s1 hs H locs ls N hl
      refine lv_aload_n hx hb dX7_isFaulty_59 rfl (lv_at hl 0 rfl) ?_
      refine gx_5_faults F N k_157 dX7_isFaulty_60 ?_
      refine lv_iload_n hx hb dX7_isFaulty_63 rfl (lv_at hl 1 rfl) ?_
      refine axN_5 (j := cell) F N (by omega) dX7_isFaulty_64 ?_
      refine lv_if_eq (tgt := 72) hx hb dX7_isFaulty_65 (by decide) (fun c_65 => ?_) (fun c_65 => ?_)
      · refine lv_iconst (v := 0) hx hb dX7_isFaulty_72 (by decide) ?_
        exact hret _ _ _ _ _ _ dX7_isFaulty_73 (by rw [← hs]; simp [bI, c_65]) (by rw [hs]) N
      · refine lv_iconst (v := 1) hx hb dX7_isFaulty_68 (by decide) ?_
        refine lv_goto (tgt := 73) hx hb dX7_isFaulty_69 (by decide) ?_
        exact hret _ _ _ _ _ _ dX7_isFaulty_73 (by rw [← hs]; simp [bI, c_65]) (by rw [hs]) N
    exact cut_59 st (by unfold xIF; first | rw [if_neg c_7] | (rw [if_pos c_7]; subst est_12; rw [← est_18]; first | rw [if_pos c_26] | (rw [if_neg c_26, ]; rfl))) _ _ _ N (lv_sub hl [0, 1] rfl)
  · refine lv_aload_n hx hb dX7_isFaulty_10 rfl (lv_at hl 0 rfl) ?_
    refine lv_iconst (v := 0) hx hb dX7_isFaulty_11 (by decide) ?_
    refine px_5_met F N k_166 dX7_isFaulty_12 (fun st_12 est_12 H locs N => ?_)
    refine lv_aload_n hx hb dX7_isFaulty_15 rfl (lv_at hl 0 rfl) ?_
    refine lv_iload_n hx hb dX7_isFaulty_16 rfl (lv_at hl 1 rfl) ?_
    refine lv_iconst (v := 0) hx hb dX7_isFaulty_17 (by decide) ?_
    refine xV_i F N (c_X7_ask l G ad ex 36 st_12 cell 0 hc (by decide)) miX7_ask k_594 (by decide) hl.1 rfl (Nat.le_of_ble_eq_true rfl) (q0 := 5) (ci := 6) rfl rfl dX7_isFaulty_18 (fun st_18 est_18 H locs N => ?_)
    refine lv_pop hx hb dX7_isFaulty_21 rfl ?_
    refine lv_aload_n hx hb dX7_isFaulty_22 rfl (lv_at hl 0 rfl) ?_
    refine gx_5_met F N k_166 dX7_isFaulty_23 ?_
    refine lv_if_eq (tgt := 59) hx hb dX7_isFaulty_26 (by decide) (fun c_26 => ?_) (fun c_26 => ?_)
    · have cut_59 : ∀ (s1 : ST), s1 = xIF st cell → ∀ (H : Heap) (locs : List Loc) (ls : Array Slot), Now G zs (XW G ad s1 ++ ex) H locs → lv_has ls 2 [(0, .ref (ad 5)), (1, .int (nI cell))] → W zp l ze (RM 77) zs zm zargs zbelow zmeth zc H locs 0 0 zQ (F0 zm 59 ls []) := by
        intro s1 hs H locs ls N hl
        refine lv_aload_n hx hb dX7_isFaulty_59 rfl (lv_at hl 0 rfl) ?_
        refine gx_5_faults F N k_157 dX7_isFaulty_60 ?_
        refine lv_iload_n hx hb dX7_isFaulty_63 rfl (lv_at hl 1 rfl) ?_
        refine axN_5 (j := cell) F N (by omega) dX7_isFaulty_64 ?_
        refine lv_if_eq (tgt := 72) hx hb dX7_isFaulty_65 (by decide) (fun c_65 => ?_) (fun c_65 => ?_)
        · refine lv_iconst (v := 0) hx hb dX7_isFaulty_72 (by decide) ?_
          exact hret _ _ _ _ _ _ dX7_isFaulty_73 (by rw [← hs]; simp [bI, c_65]) (by rw [hs]) N
        · refine lv_iconst (v := 1) hx hb dX7_isFaulty_68 (by decide) ?_
          refine lv_goto (tgt := 73) hx hb dX7_isFaulty_69 (by decide) ?_
          exact hret _ _ _ _ _ _ dX7_isFaulty_73 (by rw [← hs]; simp [bI, c_65]) (by rw [hs]) N
      exact cut_59 st_18 (by unfold xIF; first | rw [if_neg c_7] | (rw [if_pos c_7]; subst est_12; rw [← est_18]; first | rw [if_pos c_26] | (rw [if_neg c_26, ]; rfl))) _ _ _ N (lv_sub hl [0, 1] rfl)
    · refine lv_aload_n hx hb dX7_isFaulty_29 rfl (lv_at hl 0 rfl) ?_
      refine gx_5_faults F N k_157 dX7_isFaulty_30 ?_
      refine lv_iload_n hx hb dX7_isFaulty_33 rfl (lv_at hl 1 rfl) ?_
      refine lv_aload_n hx hb dX7_isFaulty_34 rfl (lv_at hl 0 rfl) ?_
      refine gx_5_met F N k_166 dX7_isFaulty_35 ?_
      refine sxN_5 (j := cell) F N (by omega) dX7_isFaulty_38 (fun st_38 est_38 H locs N => ?_)
      refine lv_aload_n hx hb dX7_isFaulty_39 rfl (lv_at hl 0 rfl) ?_
      refine gx_5_faultCells F N k_161 dX7_isFaulty_40 ?_
      refine lv_iload_n hx hb dX7_isFaulty_43 rfl (lv_at hl 1 rfl) ?_
      refine lv_aload_n hx hb dX7_isFaulty_44 rfl (lv_at hl 0 rfl) ?_
      refine gx_5_metAt F N k_167 dX7_isFaulty_45 ?_
      refine sxN_7 (j := cell) F N (by omega) dX7_isFaulty_48 (fun st_48 est_48 H locs N => ?_)
      refine lv_aload_n hx hb dX7_isFaulty_49 rfl (lv_at hl 0 rfl) ?_
      refine gx_5_faultDepths F N k_163 dX7_isFaulty_50 ?_
      refine lv_iload_n hx hb dX7_isFaulty_53 rfl (lv_at hl 1 rfl) ?_
      refine lv_aload_n hx hb dX7_isFaulty_54 rfl (lv_at hl 0 rfl) ?_
      refine gx_5_metDepth F N k_168 dX7_isFaulty_55 ?_
      refine sxN_8 (j := cell) F N (by omega) dX7_isFaulty_58 (fun st_58 est_58 H locs N => ?_)
      have cut_59 : ∀ (s1 : ST), s1 = xIF st cell → ∀ (H : Heap) (locs : List Loc) (ls : Array Slot), Now G zs (XW G ad s1 ++ ex) H locs → lv_has ls 2 [(0, .ref (ad 5)), (1, .int (nI cell))] → W zp l ze (RM 77) zs zm zargs zbelow zmeth zc H locs 0 0 zQ (F0 zm 59 ls []) := by
        intro s1 hs H locs ls N hl
        refine lv_aload_n hx hb dX7_isFaulty_59 rfl (lv_at hl 0 rfl) ?_
        refine gx_5_faults F N k_157 dX7_isFaulty_60 ?_
        refine lv_iload_n hx hb dX7_isFaulty_63 rfl (lv_at hl 1 rfl) ?_
        refine axN_5 (j := cell) F N (by omega) dX7_isFaulty_64 ?_
        refine lv_if_eq (tgt := 72) hx hb dX7_isFaulty_65 (by decide) (fun c_65 => ?_) (fun c_65 => ?_)
        · refine lv_iconst (v := 0) hx hb dX7_isFaulty_72 (by decide) ?_
          exact hret _ _ _ _ _ _ dX7_isFaulty_73 (by rw [← hs]; simp [bI, c_65]) (by rw [hs]) N
        · refine lv_iconst (v := 1) hx hb dX7_isFaulty_68 (by decide) ?_
          refine lv_goto (tgt := 73) hx hb dX7_isFaulty_69 (by decide) ?_
          exact hret _ _ _ _ _ _ dX7_isFaulty_73 (by rw [← hs]; simp [bI, c_65]) (by rw [hs]) N
      exact cut_59 st_58 (by unfold xIF; first | rw [if_neg c_7] | (rw [if_pos c_7]; subst est_12; rw [← est_18]; first | rw [if_pos c_26] | (rw [if_neg c_26, est_58, est_48, est_38]; rfl))) _ _ _ N (lv_sub hl [0, 1] rfl)
set_option maxHeartbeats 4000000 in
set_option maxRecDepth 100000 in
theorem c_X7_faultyCells (l : Launch) (G : GM) (ad : Nat → Nat) (ex : va_W) (st : ST) : XXi l G yX7_faultyCells cX7_faultyCells 3 (some .int) 78 [.ref (ad 5)] ad ex st (nI ((lp xFcF 36 0 (0, st)).1)) ((lp xFcF 36 0 (0, st)).2) := by
  refine xi_start (by decide) rfl (Nat.le_of_ble_eq_true rfl) ?_
  intro zp ze zs zm zargs zbelow zmeth zc zQ ls F N hl hret
  have hx := F.1
  have hb := F.2.1
  have hl : lv_has ls 3 [(0, .ref (ad 5))] := hl
  refine lv_iconst (v := 0) hx hb dX7_faultyCells_0 (by decide) ?_
  refine lv_istore_n (lv' := [(1, .int 0), (0, .ref (ad 5))]) hx hb dX7_faultyCells_1 rfl hl (by decide) rfl (fun ls hl => ?_)
  refine lv_iconst (v := 0) hx hb dX7_faultyCells_2 (by decide) ?_
  refine lv_istore_n (lv' := [(2, .int 0), (1, .int 0), (0, .ref (ad 5))]) hx hb dX7_faultyCells_3 rfl hl (by decide) rfl (fun ls hl => ?_)
  have cut_4 : ∀ (k : Nat) (n : Nat) (i : Nat) (s1 : ST), i + k = 36 → lp xFcF k i (n, s1) = lp xFcF 36 0 (0, st) → ∀ (H : Heap) (locs : List Loc) (ls : Array Slot), Now G zs (XW G ad s1 ++ ex) H locs → lv_has ls 3 [(0, .ref (ad 5)), (1, .int (nI n)), (2, .int (nI i))] → W zp l ze (RM 78) zs zm zargs zbelow zmeth zc H locs 0 0 zQ (F0 zm 4 ls []) := by
    intro k
    induction k with
    | zero =>
      intro n i s1 hk hI H locs ls N hl
      refine lv_iload_n hx hb dX7_faultyCells_4 rfl (lv_at hl 2 rfl) ?_
      refine lv_bipush (v := 36) hx hb dX7_faultyCells_5 (by decide) ?_
      refine cmpN_ge (a := i) (b := 36) (tgt := 27) hx hb dX7_faultyCells_7 (by decide) (by omega) (by omega) (fun c_7 => ?_) (fun c_7 => ?_)
      · have c_7v := Nat.not_lt.mpr c_7
        refine lv_iload_n hx hb dX7_faultyCells_27 rfl (lv_at hl 1 rfl) ?_
        exact hret _ _ _ _ _ _ dX7_faultyCells_28 (by rw [← hI]; rfl) (by rw [← hI]; rfl) N
      · exfalso; omega
    | succ k ih_4 =>
      intro n i s1 hk hI H locs ls N hl
      refine lv_iload_n hx hb dX7_faultyCells_4 rfl (lv_at hl 2 rfl) ?_
      refine lv_bipush (v := 36) hx hb dX7_faultyCells_5 (by decide) ?_
      refine cmpN_ge (a := i) (b := 36) (tgt := 27) hx hb dX7_faultyCells_7 (by decide) (by omega) (by omega) (fun c_7 => ?_) (fun c_7 => ?_)
      · exfalso; omega
      · have c_7v := Nat.not_le.mp c_7
        refine lv_aload_n hx hb dX7_faultyCells_10 rfl (lv_at hl 0 rfl) ?_
        refine lv_iload_n hx hb dX7_faultyCells_11 rfl (lv_at hl 2 rfl) ?_
        refine xV_i F N (c_X7_isFaulty l G ad ex s1 i (by omega)) miX7_isFaulty k_655 (by decide) hl.1 rfl (Nat.le_of_ble_eq_true rfl) (q0 := 5) (ci := 6) rfl rfl dX7_faultyCells_12 (fun st_12 est_12 H locs N => ?_)
        refine ifB_eq (tgt := 21) hx hb dX7_faultyCells_15 (by decide) (fun c_15 => ?_) (fun c_15 => ?_)
        · have c_15v := of_decide_eq_false c_15
          refine lv_iinc (v := (nI (i + 1))) (lv' := [(2, .int (nI (i + 1))), (0, .ref (ad 5)), (1, .int (nI n))]) hx hb dX7_faultyCells_21 hl (k := 2) rfl (nI_1 i) (by decide) rfl (fun ls hl => ?_)
          refine lv_goto (tgt := 4) hx hb dX7_faultyCells_24 (by decide) ?_
          exact ih_4 n (i + 1) st_12 (by omega) (by rw [← hI, lp_s, xFcF]; dsimp only; first | rw [if_pos (Decidable.not_not.mp c_15v), est_12] | rw [if_neg c_15v, est_12]) _ _ _ N (lv_sub hl [1, 2, 0] rfl)
        · have c_15v := of_decide_eq_true c_15
          refine lv_iinc (v := (nI (n + 1))) (lv' := [(1, .int (nI (n + 1))), (0, .ref (ad 5)), (2, .int (nI i))]) hx hb dX7_faultyCells_18 hl (k := 1) rfl (nI_1 n) (by decide) rfl (fun ls hl => ?_)
          refine lv_iinc (v := (nI (i + 1))) (lv' := [(2, .int (nI (i + 1))), (1, .int (nI (n + 1))), (0, .ref (ad 5))]) hx hb dX7_faultyCells_21 hl (k := 2) rfl (nI_1 i) (by decide) rfl (fun ls hl => ?_)
          refine lv_goto (tgt := 4) hx hb dX7_faultyCells_24 (by decide) ?_
          exact ih_4 (n + 1) (i + 1) st_12 (by omega) (by rw [← hI, lp_s, xFcF]; dsimp only; first | rw [if_pos (Decidable.not_not.mp c_15v), est_12] | rw [if_neg c_15v, est_12]) _ _ _ N (lv_sub hl [2, 1, 0] rfl)
  exact cut_4 36 0 0 st (by omega) rfl _ _ _ N (lv_sub hl [2, 1, 0] rfl)
