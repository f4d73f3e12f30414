/-! the class's public calls: what each answers, what the state is then -/
def xBad (st : ST) : ST := sI st 0 (st.1 0 + 1)
def xNo (st : ST) : ST := sI st 1 (st.1 1 + 1)
def xFull (st : ST) : ST := sI st 2 (st.1 2 + 1)
def xLeave (st : ST) (nx sz : Nat) : ST := sA (sI (sI (sA st 4 (va_cpy (st.2.1 2) (st.2.1 4) 0 (nx * 144) 144)) 5 (nI ((nx + 1) % 6))) 6 (nI (min (sz + 1) 6))) 5 (fillF (st.2.1 5) (-1) 36)
def xType (st : ST) (L : Nat) (c : Int32) : Int32 × ST :=
  if xIsW c 0 127 = false then (-2, xBad st) else if 60 ≤ L then (-4, xFull st) else (nI (L + 1), sI (sA st 0 (upd (st.2.1 0) L c)) 3 (nI (L + 1)))
def xRd (st : ST) (f : Nat → Int32) (L : Nat) : Int32 × Nat × (Nat → Int32) := rdL f L 4 0 true 0 (fillF (st.2.1 1) 0 4)
def xRdS (st : ST) (f : Nat → Int32) (L : Nat) : ST := sI (sA st 1 (xRd st f L).2.2) 4 (nI (xRd st f L).2.1)
def xPut (st : ST) (f : Nat → Int32) (L nx sz cell : Nat) : Int32 × ST :=
  if (xRd st f L).1 = 0 then (-10 - nI (rNx f L (xRd st f L).2.1), sI (xRdS st f L) 4 (nI (rNx f L (xRd st f L).2.1)))
  else ((xRd st f L).1, sA (xLeave (xRdS st f L) nx sz) 2 (va_cpy ((xLeave (xRdS st f L) nx sz).2.1 1) ((xLeave (xRdS st f L) nx sz).2.1 2) 0 (cell * 4) 4))
def xOkC (way a n : Int32) : Bool := xIsW way 0 1 && (xIsW a 0 5 && xIsW n 1 6)
def xOkG (way a n : Int32) : Bool := xIsW way 0 1 && (xIsW a 0 5 && xIsW n 1 (6 - a))
def xFilled (g : Nat → Int32) : Nat := cnt (fun c => decide (¬ tm g c 0 = 0)) 36 0 0
def xOpen (st : ST) (nx sz ax a n : Nat) : ST := sA (sA (xLeave st nx sz) 3 (opH (xLeave st nx sz))) 2 (opF (xLeave st nx sz) ax a n)
def xClose (st : ST) (nx sz ax a n : Nat) : ST := sA (sA (xLeave st nx sz) 3 (opH (xLeave st nx sz))) 2 (clF (xLeave st nx sz) ax a n)
def xComes (st : ST) (nx sz way a n : Nat) : Int32 × ST :=
  if wlL (st.2.1 2) (1 - way) a n 36 0 = true then (-3, xNo st) else (nI (xFilled ((xOpen st nx sz (1 - way) a n).2.1 2)), xOpen st nx sz (1 - way) a n)
def xBackS (st : ST) (nx sz : Nat) : ST := sA (sA (sI (sI st 5 (nI ((nx + 6 - 1) % 6))) 6 (nI (sz - 1))) 2 (va_cpy (st.2.1 4) (st.2.1 2) ((nx + 6 - 1) % 6 * 144) 0 144)) 5 (fillF (st.2.1 5) (-1) 36)
def xBack (st : ST) (nx sz : Nat) : Int32 × ST := if sz = 0 then (-3, xNo st) else (nI (sz - 1), xBackS st nx sz)
def xTV (t : Int32) (what : Nat) : Int32 :=
  if what = 0 then tKind t - 1 else if what = 5 then tFix t else if tKind t = 1 then (if what = 1 then tNum t else 0) else tCo t (nI (what - 1))
def xTerm (st : ST) (cell i what : Nat) : Int32 × ST := if tm (st.2.1 2) cell i = 0 then (-2, xBad st) else (xTV (tm (st.2.1 2) cell i) what, st)
def xVal (st : ST) (cell : Nat) : Int32 := if (xIF st cell).2.1 5 cell = 0 then (xIF st cell).2.1 6 cell else -10 - (xIF st cell).2.1 5 cell
def xWhy (st : ST) (cell : Nat) : Int32 := if (xIF st cell).2.1 5 cell = 0 then -1 else 10 * xCol ((xIF st cell).2.1 7 cell) + xRow ((xIF st cell).2.1 7 cell)
def xDeep (st : ST) (cell : Nat) : Int32 := if (xIF st cell).2.1 5 cell = 0 then -1 else (xIF st cell).2.1 8 cell
def xCount (st : ST) (what : Int32) : Int32 × ST :=
  if what = 0 then (nI (xFilled (st.2.1 2)), st)
  else if what = 1 then (nI (cnt (fun i => decide (¬ st.2.1 2 i = 0)) 144 0 0), st)
  else if what = 2 then (nI (cnt (fun i => decide (st.2.1 2 i = 4)) 144 0 0), st)
  else if what = 3 then (nI (lp xFcF 36 0 (0, st)).1, (lp xFcF 36 0 (0, st)).2)
  else (-2, xBad st)
def xTold (st : ST) (what : Int32) : Int32 × ST :=
  if what = 0 then (st.1 0, st) else if what = 1 then (st.1 1, st) else if what = 2 then (st.1 2, st) else if what = 3 then (st.1 3, st) else if what = 4 then (st.1 6, st) else (-2, xBad st)
abbrev HS : Type := Int64 × ST
def dgT (i : Nat) (x : HS) : HS := (31 * x.1 + (xTold x.2 (nI i)).1.toInt64, (xTold x.2 (nI i)).2)
def dgC (i : Nat) (x : HS) : HS := (31 * x.1 + (xCount x.2 (nI i)).1.toInt64, (xCount x.2 (nI i)).2)
def dgW (cell i : Nat) (what : Nat) (x : HS) : HS := (31 * x.1 + (xTerm x.2 cell i what).1.toInt64, (xTerm x.2 cell i what).2)
def dgI (cell : Nat) (i : Nat) (x : HS) : HS := lp (dgW cell i) 6 0 x
def dgL (cell : Nat) (x : HS) : HS := lp (dgI cell) (szL (x.2.2.1 2) cell 4 0) 0 (31 * x.1 + (nI (szL (x.2.2.1 2) cell 4 0)).toInt64, x.2)
def dgV (cell : Nat) (x : HS) : HS := (31 * (31 * x.1 + (xVal x.2 cell).toInt64) + (xWhy (xIF x.2 cell) cell).toInt64, xIF (xIF x.2 cell) cell)
def dgCell (cell : Nat) (x : HS) : HS := dgV cell (dgL cell x)
def xDigest (st : ST) : HS := lp dgCell 36 0 (lp dgC 4 0 (lp dgT 5 0 (1626, st)))
theorem xIsPl_nI {c r : Nat} (hc : c < 6) (hr : r < 6) : xIsPl (nI c) (nI r) = true := by
  have h1 : xIsW (nI c) 0 5 = true := xIsW_nI (a := 0) (b := 5) (by omega) (by omega) (by decide)
  have h2 : xIsW (nI r) 0 5 = true := xIsW_nI (a := 0) (b := 5) (by omega) (by omega) (by decide)
  simp [xIsPl, h1, h2]
theorem xAxis_nI {way : Nat} (h : way < 2) : xAxis (nI way) = nI (1 - way) := by
  have h1 : way = 0 ∨ way = 1 := by omega
  rcases h1 with rfl | rfl <;> decide
theorem rdL_le {f : Nat → Int32} {L : Nat} : ∀ (k n : Nat) (more : Bool) (P : Nat) (g : Nat → Int32), P ≤ L → (rdL f L k n more P g).2.1 ≤ L
  | 0, n, false, P, g, h => by simp only [rdL]; exact rNx_le h
  | k + 1, n, false, P, g, h => by simp only [rdL]; exact rNx_le h
  | 0, n, true, P, g, h => by simp only [rdL]; exact h
  | k + 1, n, true, P, g, h => by
    simp only [rdL]
    split
    · exact rTerm_le h
    · exact rdL_le k (n + 1) _ _ _ (rTkP_le (rTerm_le h) (by decide))
theorem tm_szL {g : Nat → Int32} {cell : Nat} : ∀ k i j, i ≤ j → j < szL g cell k i → ¬ tm g cell j = 0
  | 0, i, j, h1, h2 => by simp only [szL] at h2; omega
  | k + 1, i, j, h1, h2 => by
    simp only [szL] at h2
    split at h2
    · omega
    · rename_i e
      by_cases h : j = i
      · rw [h]; exact e
      · exact tm_szL k (i + 1) j (by omega) h2
theorem pgL_le (g : Nat → Int32) (cell : Nat) : ∀ k i x, x.1 ≤ 39 → (pgL g cell k i x).1 ≤ 39
  | 0, _, _, h => h
  | k + 1, i, x, h => by
    unfold pgL
    refine pgL_le g cell k (i + 1) _ (pgT_le ?_)
    split
    · exact h
    · exact pgA_le h
theorem pgW_le (g : Nat → Int32) (cell : Nat) (x : Nat → Int32) : (pgW g cell x).1 ≤ 39 := pgL_le g cell _ _ _ (Nat.zero_le 39)
set_option maxHeartbeats 4000000 in
set_option maxRecDepth 100000 in
theorem c_X8_refused_bad (l : Launch) (G : GM) (ad : Nat → Nat) (ex : va_W) (st : ST) : XXi l G yX8_refused cX8_refused 2 (some .int) 0 [.ref (ad 0), .int (-2)] ad ex st (-2) (xBad st) := by
  refine xi_start (by decide) rfl (Nat.le_of_ble_eq_true rfl) ?_
  intro zp ze zs zm zargs zbelow zmeth zc zQ ls F N hl hret
  have hx := F.1
  have hb := F.2.1
  have hl : lv_has ls 2 [(0, .ref (ad 0)), (1, .int (-2))] := hl
  refine lv_iload_n hx hb dX8_refused_0 rfl (lv_at hl 1 rfl) ?_
  refine lv_bipush (v := (-2)) hx hb dX8_refused_1 (by decide) ?_
  refine lv_icmp_ne (tgt := 19) hx hb dX8_refused_3 (by decide) (fun c_3 => ?_) (fun c_3 => ?_)
  · first | exact absurd c_3 (by decide) | exact absurd (by decide) c_3
  refine lv_aload_n hx hb dX8_refused_6 rfl (lv_at hl 0 rfl) ?_
  refine lv_dup hx hb dX8_refused_7 rfl ?_
  refine gx_0_bads F N k_208 dX8_refused_8 ?_
  refine lv_iconst (v := 1) hx hb dX8_refused_11 (by decide) ?_
  refine lv_iadd hx hb dX8_refused_12 ?_
  refine px_0_bads F N k_208 dX8_refused_13 (fun st_13 est_13 H locs N => ?_)
  refine lv_goto (tgt := 48) hx hb dX8_refused_16 (by decide) ?_
  refine lv_iload_n hx hb dX8_refused_48 rfl (lv_at hl 1 rfl) ?_
  exact hret _ _ _ _ _ _ dX8_refused_49 (by first | rfl | (subst est_13; rfl) | (subst est_13; simp [bI])) (by first | rfl | (subst est_13; rfl) | (subst est_13; simp [bI])) N
set_option maxHeartbeats 4000000 in
set_option maxRecDepth 100000 in
theorem c_X8_refused_no (l : Launch) (G : GM) (ad : Nat → Nat) (ex : va_W) (st : ST) : XXi l G yX8_refused cX8_refused 2 (some .int) 0 [.ref (ad 0), .int (-3)] ad ex st (-3) (xNo st) := by
  refine xi_start (by decide) rfl (Nat.le_of_ble_eq_true rfl) ?_
  intro zp ze zs zm zargs zbelow zmeth zc zQ ls F N hl hret
  have hx := F.1
  have hb := F.2.1
  have hl : lv_has ls 2 [(0, .ref (ad 0)), (1, .int (-3))] := hl
  refine lv_iload_n hx hb dX8_refused_0 rfl (lv_at hl 1 rfl) ?_
  refine lv_bipush (v := (-2)) hx hb dX8_refused_1 (by decide) ?_
  refine lv_icmp_ne (tgt := 19) hx hb dX8_refused_3 (by decide) (fun c_3 => ?_) (fun c_3 => ?_)
  rotate_left
  · first | exact absurd (by decide) c_3 | exact absurd c_3 (by decide)
  refine lv_iload_n hx hb dX8_refused_19 rfl (lv_at hl 1 rfl) ?_
  refine lv_bipush (v := (-3)) hx hb dX8_refused_20 (by decide) ?_
  refine lv_icmp_ne (tgt := 38) hx hb dX8_refused_22 (by decide) (fun c_22 => ?_) (fun c_22 => ?_)
  · first | exact absurd c_22 (by decide) | exact absurd (by decide) c_22
  refine lv_aload_n hx hb dX8_refused_25 rfl (lv_at hl 0 rfl) ?_
  refine lv_dup hx hb dX8_refused_26 rfl ?_
  refine gx_0_nos F N k_209 dX8_refused_27 ?_
  refine lv_iconst (v := 1) hx hb dX8_refused_30 (by decide) ?_
  refine lv_iadd hx hb dX8_refused_31 ?_
  refine px_0_nos F N k_209 dX8_refused_32 (fun st_32 est_32 H locs N => ?_)
  refine lv_goto (tgt := 48) hx hb dX8_refused_35 (by decide) ?_
  refine lv_iload_n hx hb dX8_refused_48 rfl (lv_at hl 1 rfl) ?_
  exact hret _ _ _ _ _ _ dX8_refused_49 (by first | rfl | (subst est_32; rfl) | (subst est_32; simp [bI])) (by first | rfl | (subst est_32; rfl) | (subst est_32; simp [bI])) N
set_option maxHeartbeats 4000000 in
set_option maxRecDepth 100000 in
theorem c_X8_refused_full (l : Launch) (G : GM) (ad : Nat → Nat) (ex : va_W) (st : ST) : XXi l G yX8_refused cX8_refused 2 (some .int) 0 [.ref (ad 0), .int (-4)] ad ex st (-4) (xFull st) := by
  refine xi_start (by decide) rfl (Nat.le_of_ble_eq_true rfl) ?_
  intro zp ze zs zm zargs zbelow zmeth zc zQ ls F N hl hret
  have hx := F.1
  have hb := F.2.1
  have hl : lv_has ls 2 [(0, .ref (ad 0)), (1, .int (-4))] := hl
  refine lv_iload_n hx hb dX8_refused_0 rfl (lv_at hl 1 rfl) ?_
  refine lv_bipush (v := (-2)) hx hb dX8_refused_1 (by decide) ?_
  refine lv_icmp_ne (tgt := 19) hx hb dX8_refused_3 (by decide) (fun c_3 => ?_) (fun c_3 => ?_)
  rotate_left
  · first | exact absurd (by decide) c_3 | exact absurd c_3 (by decide)
  refine lv_iload_n hx hb dX8_refused_19 rfl (lv_at hl 1 rfl) ?_
  refine lv_bipush (v := (-3)) hx hb dX8_refused_20 (by decide) ?_
  refine lv_icmp_ne (tgt := 38) hx hb dX8_refused_22 (by decide) (fun c_22 => ?_) (fun c_22 => ?_)
  rotate_left
  · first | exact absurd (by decide) c_22 | exact absurd c_22 (by decide)
  refine lv_aload_n hx hb dX8_refused_38 rfl (lv_at hl 0 rfl) ?_
  refine lv_dup hx hb dX8_refused_39 rfl ?_
  refine gx_0_fulls F N k_210 dX8_refused_40 ?_
  refine lv_iconst (v := 1) hx hb dX8_refused_43 (by decide) ?_
  refine lv_iadd hx hb dX8_refused_44 ?_
  refine px_0_fulls F N k_210 dX8_refused_45 (fun st_45 est_45 H locs N => ?_)
  refine lv_iload_n hx hb dX8_refused_48 rfl (lv_at hl 1 rfl) ?_
  exact hret _ _ _ _ _ _ dX8_refused_49 (by first | rfl | (subst est_45; rfl) | (subst est_45; simp [bI])) (by first | rfl | (subst est_45; rfl) | (subst est_45; simp [bI])) N
set_option maxHeartbeats 4000000 in
set_option maxRecDepth 100000 in
theorem c_X8_leaveState (l : Launch) (G : GM) (ad : Nat → Nat) (ex : va_W) (st : ST) (nx : Nat) (sz : Nat) (hnx : st.1 5 = nI nx) (hnx2 : nx < 6) (hsz : st.1 6 = nI sz) (hsz2 : sz ≤ 6) : XXv l G yX8_leaveState cX8_leaveState 1 none 2 [.ref (ad 0)] ad ex st (xLeave st nx sz) := by
  refine xv_start (by decide) (Nat.le_of_ble_eq_true rfl) ?_
  intro zp ze zs zm zargs zbelow zmeth zc zQ ls F N hl hret
  have hx := F.1
  have hb := F.2.1
  have hl : lv_has ls 1 [(0, .ref (ad 0))] := hl
  refine lv_aload_n hx hb dX8_leaveState_0 rfl (lv_at hl 0 rfl) ?_
  refine gx_0_past F N k_205 dX8_leaveState_1 ?_
  refine lv_aload_n hx hb dX8_leaveState_4 rfl (lv_at hl 0 rfl) ?_
  refine gx_0_sheet F N k_204 dX8_leaveState_5 ?_
  refine xV_v F N (c_X2_keep l G ad ex st nx sz hnx hnx2 hsz hsz2) miX2_keep k_336 (by decide) hl.1 rfl (Nat.le_of_ble_eq_true rfl) (q0 := 4) (ci := 2) rfl rfl dX8_leaveState_8 (fun st_8 est_8 H locs N => ?_)
  refine lv_aload_n hx hb dX8_leaveState_11 rfl (lv_at hl 0 rfl) ?_
  refine gx_0_values F N k_206 dX8_leaveState_12 ?_
  refine xV_v F N (c_X7_forget l G ad ex st_8 ) miX7_forget k_346 (by decide) hl.1 rfl (Nat.le_of_ble_eq_true rfl) (q0 := 5) (ci := 6) rfl rfl dX8_leaveState_15 (fun st_15 est_15 H locs N => ?_)
  exact hret _ _ _ _ _ dX8_leaveState_18 (by rw [est_15, est_8]; rfl) N
set_option maxHeartbeats 4000000 in
set_option maxRecDepth 100000 in
theorem c_X8_type (l : Launch) (G : GM) (ad : Nat → Nat) (ex : va_W) (st : ST) (c : Int32) (L : Nat) (hL : st.1 3 = nI L) (hL2 : L ≤ 60) : XXi l G yX8_type cX8_type 2 (some .int) 1 [.ref (ad 0), .int c] ad ex st ((xType st L c).1) ((xType st L c).2) := by
  refine xi_start (by decide) rfl (Nat.le_of_ble_eq_true rfl) ?_
  intro zp ze zs zm zargs zbelow zmeth zc zQ ls F N hl hret
  have hx := F.1
  have hb := F.2.1
  have hl : lv_has ls 2 [(0, .ref (ad 0)), (1, .int c)] := hl
  refine lv_iload_n hx hb dX8_type_0 rfl (lv_at hl 1 rfl) ?_
  refine lv_iconst (v := 0) hx hb dX8_type_1 (by decide) ?_
  refine lv_bipush (v := 127) hx hb dX8_type_2 (by decide) ?_
  refine cS_i F N (c_X8_isWithin l G _ c 0 127) miX8_isWithin k_234 (by decide) hl.1 rfl (Nat.le_of_ble_eq_true rfl) dX8_type_4 (fun H locs N => ?_)
  refine ifB_ne (tgt := 17) hx hb dX8_type_7 (by decide) (fun c_7 => ?_) (fun c_7 => ?_)
  · refine lv_aload_n hx hb dX8_type_17 rfl (lv_at hl 0 rfl) ?_
    refine gx_0_text F N k_202 dX8_type_18 ?_
    refine cV_i F N (c_X6_isFull l G ad ex st L hL hL2) miX6_isFull k_241 (by decide) hl.1 rfl (Nat.le_of_ble_eq_true rfl) (q0 := 1) (ci := 5) rfl rfl dX8_type_21 (fun H locs N => ?_)
    refine ifB_eq (tgt := 34) hx hb dX8_type_24 (by decide) (fun c_24 => ?_) (fun c_24 => ?_)
    · have c_24v := of_decide_eq_false c_24
      refine lv_aload_n hx hb dX8_type_34 rfl (lv_at hl 0 rfl) ?_
      refine gx_0_text F N k_202 dX8_type_35 ?_
      refine lv_iload_n hx hb dX8_type_38 rfl (lv_at hl 1 rfl) ?_
      refine xV_i F N (c_X6_add l G ad ex st c L hL (by omega)) miX6_add k_245 (by decide) hl.1 rfl (Nat.le_of_ble_eq_true rfl) (q0 := 1) (ci := 5) rfl rfl dX8_type_39 (fun st_39 est_39 H locs N => ?_)
      exact hret _ _ _ _ _ _ dX8_type_42 (by simp [xType, c_7, c_24, c_24v]) (by simp [xType, est_39, c_7, c_24, c_24v]) N
    · have c_24v := of_decide_eq_true c_24
      refine lv_aload_n hx hb dX8_type_27 rfl (lv_at hl 0 rfl) ?_
      refine lv_bipush (v := (-4)) hx hb dX8_type_28 (by decide) ?_
      refine xV_i F N (c_X8_refused_full l G ad ex st ) miX8_refused k_237 (by decide) hl.1 rfl (Nat.le_of_ble_eq_true rfl) (q0 := 0) (ci := 7) rfl rfl dX8_type_30 (fun st_30 est_30 H locs N => ?_)
      exact hret _ _ _ _ _ _ dX8_type_33 (by simp [xType, c_7, c_24, c_24v]) (by simp [xType, est_30, c_7, c_24, c_24v]) N
  · refine lv_aload_n hx hb dX8_type_10 rfl (lv_at hl 0 rfl) ?_
    refine lv_bipush (v := (-2)) hx hb dX8_type_11 (by decide) ?_
    refine xV_i F N (c_X8_refused_bad l G ad ex st ) miX8_refused k_237 (by decide) hl.1 rfl (Nat.le_of_ble_eq_true rfl) (q0 := 0) (ci := 7) rfl rfl dX8_type_13 (fun st_13 est_13 H locs N => ?_)
    exact hret _ _ _ _ _ _ dX8_type_16 (by simp [xType, c_7]) (by simp [xType, est_13, c_7]) N
set_option maxHeartbeats 4000000 in
set_option maxRecDepth 100000 in
theorem c_X8_clear (l : Launch) (G : GM) (ad : Nat → Nat) (ex : va_W) (st : ST) : XXi l G yX8_clear cX8_clear 1 (some .int) 1 [.ref (ad 0)] ad ex st (st.1 3) (sI st 3 0) := by
  refine xi_start (by decide) rfl (Nat.le_of_ble_eq_true rfl) ?_
  intro zp ze zs zm zargs zbelow zmeth zc zQ ls F N hl hret
  have hx := F.1
  have hb := F.2.1
  have hl : lv_has ls 1 [(0, .ref (ad 0))] := hl
  refine lv_aload_n hx hb dX8_clear_0 rfl (lv_at hl 0 rfl) ?_
  refine gx_0_text F N k_202 dX8_clear_1 ?_
  refine xV_i F N (c_X6_drop l G ad ex st ) miX6_drop k_253 (by decide) hl.1 rfl (Nat.le_of_ble_eq_true rfl) (q0 := 1) (ci := 5) rfl rfl dX8_clear_4 (fun st_4 est_4 H locs N => ?_)
  exact hret _ _ _ _ _ _ dX8_clear_7 (by first | rfl | (subst est_4; rfl) | (subst est_4; simp [bI])) (by first | rfl | (subst est_4; rfl) | (subst est_4; simp [bI])) N
set_option maxHeartbeats 4000000 in
set_option maxRecDepth 100000 in
theorem c_X8_put_bad (l : Launch) (G : GM) (ad : Nat → Nat) (ex : va_W) (st : ST) (c : Int32) (r : Int32) (hbad : xIsPl c r = false) : XXi l G yX8_put cX8_put 4 (some .int) 2 [.ref (ad 0), .int c, .int r] ad ex st (-2) (xBad st) := by
  refine xi_start (by decide) rfl (Nat.le_of_ble_eq_true rfl) ?_
  intro zp ze zs zm zargs zbelow zmeth zc zQ ls F N hl hret
  have hx := F.1
  have hb := F.2.1
  have hl : lv_has ls 4 [(0, .ref (ad 0)), (1, .int c), (2, .int r)] := hl
  refine lv_iload_n hx hb dX8_put_0 rfl (lv_at hl 1 rfl) ?_
  refine lv_iload_n hx hb dX8_put_1 rfl (lv_at hl 2 rfl) ?_
  refine cS_i F N (c_X8_isPlace l G _ c r) miX8_isPlace k_261 (by decide) hl.1 rfl (Nat.le_of_ble_eq_true rfl) dX8_put_2 (fun H locs N => ?_)
  refine toI (y := 0) (by rw [hbad]; rfl) ?_
  refine lv_if_ne (tgt := 15) hx hb dX8_put_5 (by decide) (fun c_5 => ?_) (fun c_5 => ?_)
  · first | exact absurd c_5 (by decide) | exact absurd (by decide) c_5
  refine lv_aload_n hx hb dX8_put_8 rfl (lv_at hl 0 rfl) ?_
  refine lv_bipush (v := (-2)) hx hb dX8_put_9 (by decide) ?_
  refine xV_i F N (c_X8_refused_bad l G ad ex st ) miX8_refused k_237 (by decide) hl.1 rfl (Nat.le_of_ble_eq_true rfl) (q0 := 0) (ci := 7) rfl rfl dX8_put_11 (fun st_11 est_11 H locs N => ?_)
  exact hret _ _ _ _ _ _ dX8_put_14 (by first | rfl | (subst est_11; rfl) | (subst est_11; simp [bI])) (by first | rfl | (subst est_11; rfl) | (subst est_11; simp [bI])) N
set_option maxHeartbeats 4000000 in
set_option maxRecDepth 100000 in
theorem c_X8_empties_bad (l : Launch) (G : GM) (ad : Nat → Nat) (ex : va_W) (st : ST) (c : Int32) (r : Int32) (hbad : xIsPl c r = false) : XXi l G yX8_empties cX8_empties 4 (some .int) 2 [.ref (ad 0), .int c, .int r] ad ex st (-2) (xBad st) := by
  refine xi_start (by decide) rfl (Nat.le_of_ble_eq_true rfl) ?_
  intro zp ze zs zm zargs zbelow zmeth zc zQ ls F N hl hret
  have hx := F.1
  have hb := F.2.1
  have hl : lv_has ls 4 [(0, .ref (ad 0)), (1, .int c), (2, .int r)] := hl
  refine lv_iload_n hx hb dX8_empties_0 rfl (lv_at hl 1 rfl) ?_
  refine lv_iload_n hx hb dX8_empties_1 rfl (lv_at hl 2 rfl) ?_
  refine cS_i F N (c_X8_isPlace l G _ c r) miX8_isPlace k_261 (by decide) hl.1 rfl (Nat.le_of_ble_eq_true rfl) dX8_empties_2 (fun H locs N => ?_)
  refine toI (y := 0) (by rw [hbad]; rfl) ?_
  refine lv_if_ne (tgt := 15) hx hb dX8_empties_5 (by decide) (fun c_5 => ?_) (fun c_5 => ?_)
  · first | exact absurd c_5 (by decide) | exact absurd (by decide) c_5
  refine lv_aload_n hx hb dX8_empties_8 rfl (lv_at hl 0 rfl) ?_
  refine lv_bipush (v := (-2)) hx hb dX8_empties_9 (by decide) ?_
  refine xV_i F N (c_X8_refused_bad l G ad ex st ) miX8_refused k_237 (by decide) hl.1 rfl (Nat.le_of_ble_eq_true rfl) (q0 := 0) (ci := 7) rfl rfl dX8_empties_11 (fun st_11 est_11 H locs N => ?_)
  exact hret _ _ _ _ _ _ dX8_empties_14 (by first | rfl | (subst est_11; rfl) | (subst est_11; simp [bI])) (by first | rfl | (subst est_11; rfl) | (subst est_11; simp [bI])) N
set_option maxHeartbeats 4000000 in
set_option maxRecDepth 100000 in
theorem c_X8_terms_bad (l : Launch) (G : GM) (ad : Nat → Nat) (ex : va_W) (st : ST) (c : Int32) (r : Int32) (hbad : xIsPl c r = false) : XXi l G yX8_terms cX8_terms 3 (some .int) 2 [.ref (ad 0), .int c, .int r] ad ex st (-2) (xBad st) := by
  refine xi_start (by decide) rfl (Nat.le_of_ble_eq_true rfl) ?_
  intro zp ze zs zm zargs zbelow zmeth zc zQ ls F N hl hret
  have hx := F.1
  have hb := F.2.1
  have hl : lv_has ls 3 [(0, .ref (ad 0)), (1, .int c), (2, .int r)] := hl
  refine lv_iload_n hx hb dX8_terms_0 rfl (lv_at hl 1 rfl) ?_
  refine lv_iload_n hx hb dX8_terms_1 rfl (lv_at hl 2 rfl) ?_
  refine cS_i F N (c_X8_isPlace l G _ c r) miX8_isPlace k_261 (by decide) hl.1 rfl (Nat.le_of_ble_eq_true rfl) dX8_terms_2 (fun H locs N => ?_)
  refine toI (y := 0) (by rw [hbad]; rfl) ?_
  refine lv_if_ne (tgt := 15) hx hb dX8_terms_5 (by decide) (fun c_5 => ?_) (fun c_5 => ?_)
  · first | exact absurd c_5 (by decide) | exact absurd (by decide) c_5
  refine lv_aload_n hx hb dX8_terms_8 rfl (lv_at hl 0 rfl) ?_
  refine lv_bipush (v := (-2)) hx hb dX8_terms_9 (by decide) ?_
  refine xV_i F N (c_X8_refused_bad l G ad ex st ) miX8_refused k_237 (by decide) hl.1 rfl (Nat.le_of_ble_eq_true rfl) (q0 := 0) (ci := 7) rfl rfl dX8_terms_11 (fun st_11 est_11 H locs N => ?_)
  exact hret _ _ _ _ _ _ dX8_terms_14 (by first | rfl | (subst est_11; rfl) | (subst est_11; simp [bI])) (by first | rfl | (subst est_11; rfl) | (subst est_11; simp [bI])) N
set_option maxHeartbeats 4000000 in
set_option maxRecDepth 100000 in
theorem c_X8_value_bad (l : Launch) (G : GM) (ad : Nat → Nat) (ex : va_W) (st : ST) (c : Int32) (r : Int32) (hbad : xIsPl c r = false) : XXi l G yX8_value cX8_value 4 (some .int) 2 [.ref (ad 0), .int c, .int r] ad ex st (-2) (xBad st) := by
  refine xi_start (by decide) rfl (Nat.le_of_ble_eq_true rfl) ?_
  intro zp ze zs zm zargs zbelow zmeth zc zQ ls F N hl hret
  have hx := F.1
  have hb := F.2.1
  have hl : lv_has ls 4 [(0, .ref (ad 0)), (1, .int c), (2, .int r)] := hl
  refine lv_iload_n hx hb dX8_value_0 rfl (lv_at hl 1 rfl) ?_
  refine lv_iload_n hx hb dX8_value_1 rfl (lv_at hl 2 rfl) ?_
  refine cS_i F N (c_X8_isPlace l G _ c r) miX8_isPlace k_261 (by decide) hl.1 rfl (Nat.le_of_ble_eq_true rfl) dX8_value_2 (fun H locs N => ?_)
  refine toI (y := 0) (by rw [hbad]; rfl) ?_
  refine lv_if_ne (tgt := 15) hx hb dX8_value_5 (by decide) (fun c_5 => ?_) (fun c_5 => ?_)
  · first | exact absurd c_5 (by decide) | exact absurd (by decide) c_5
  refine lv_aload_n hx hb dX8_value_8 rfl (lv_at hl 0 rfl) ?_
  refine lv_bipush (v := (-2)) hx hb dX8_value_9 (by decide) ?_
  refine xV_i F N (c_X8_refused_bad l G ad ex st ) miX8_refused k_237 (by decide) hl.1 rfl (Nat.le_of_ble_eq_true rfl) (q0 := 0) (ci := 7) rfl rfl dX8_value_11 (fun st_11 est_11 H locs N => ?_)
  exact hret _ _ _ _ _ _ dX8_value_14 (by first | rfl | (subst est_11; rfl) | (subst est_11; simp [bI])) (by first | rfl | (subst est_11; rfl) | (subst est_11; simp [bI])) N
set_option maxHeartbeats 4000000 in
set_option maxRecDepth 100000 in
theorem c_X8_why_bad (l : Launch) (G : GM) (ad : Nat → Nat) (ex : va_W) (st : ST) (c : Int32) (r : Int32) (hbad : xIsPl c r = false) : XXi l G yX8_why cX8_why 5 (some .int) 2 [.ref (ad 0), .int c, .int r] ad ex st (-2) (xBad st) := by
  refine xi_start (by decide) rfl (Nat.le_of_ble_eq_true rfl) ?_
  intro zp ze zs zm zargs zbelow zmeth zc zQ ls F N hl hret
  have hx := F.1
  have hb := F.2.1
  have hl : lv_has ls 5 [(0, .ref (ad 0)), (1, .int c), (2, .int r)] := hl
  refine lv_iload_n hx hb dX8_why_0 rfl (lv_at hl 1 rfl) ?_
  refine lv_iload_n hx hb dX8_why_1 rfl (lv_at hl 2 rfl) ?_
  refine cS_i F N (c_X8_isPlace l G _ c r) miX8_isPlace k_261 (by decide) hl.1 rfl (Nat.le_of_ble_eq_true rfl) dX8_why_2 (fun H locs N => ?_)
  refine toI (y := 0) (by rw [hbad]; rfl) ?_
  refine lv_if_ne (tgt := 15) hx hb dX8_why_5 (by decide) (fun c_5 => ?_) (fun c_5 => ?_)
  · first | exact absurd c_5 (by decide) | exact absurd (by decide) c_5
  refine lv_aload_n hx hb dX8_why_8 rfl (lv_at hl 0 rfl) ?_
  refine lv_bipush (v := (-2)) hx hb dX8_why_9 (by decide) ?_
  refine xV_i F N (c_X8_refused_bad l G ad ex st ) miX8_refused k_237 (by decide) hl.1 rfl (Nat.le_of_ble_eq_true rfl) (q0 := 0) (ci := 7) rfl rfl dX8_why_11 (fun st_11 est_11 H locs N => ?_)
  exact hret _ _ _ _ _ _ dX8_why_14 (by first | rfl | (subst est_11; rfl) | (subst est_11; simp [bI])) (by first | rfl | (subst est_11; rfl) | (subst est_11; simp [bI])) N
set_option maxHeartbeats 4000000 in
set_option maxRecDepth 100000 in
theorem c_X8_deep_bad (l : Launch) (G : GM) (ad : Nat → Nat) (ex : va_W) (st : ST) (c : Int32) (r : Int32) (hbad : xIsPl c r = false) : XXi l G yX8_deep cX8_deep 4 (some .int) 2 [.ref (ad 0), .int c, .int r] ad ex st (-2) (xBad st) := by
  refine xi_start (by decide) rfl (Nat.le_of_ble_eq_true rfl) ?_
  intro zp ze zs zm zargs zbelow zmeth zc zQ ls F N hl hret
  have hx := F.1
  have hb := F.2.1
  have hl : lv_has ls 4 [(0, .ref (ad 0)), (1, .int c), (2, .int r)] := hl
  refine lv_iload_n hx hb dX8_deep_0 rfl (lv_at hl 1 rfl) ?_
  refine lv_iload_n hx hb dX8_deep_1 rfl (lv_at hl 2 rfl) ?_
  refine cS_i F N (c_X8_isPlace l G _ c r) miX8_isPlace k_261 (by decide) hl.1 rfl (Nat.le_of_ble_eq_true rfl) dX8_deep_2 (fun H locs N => ?_)
  refine toI (y := 0) (by rw [hbad]; rfl) ?_
  refine lv_if_ne (tgt := 15) hx hb dX8_deep_5 (by decide) (fun c_5 => ?_) (fun c_5 => ?_)
  · first | exact absurd c_5 (by decide) | exact absurd (by decide) c_5
  refine lv_aload_n hx hb dX8_deep_8 rfl (lv_at hl 0 rfl) ?_
  refine lv_bipush (v := (-2)) hx hb dX8_deep_9 (by decide) ?_
  refine xV_i F N (c_X8_refused_bad l G ad ex st ) miX8_refused k_237 (by decide) hl.1 rfl (Nat.le_of_ble_eq_true rfl) (q0 := 0) (ci := 7) rfl rfl dX8_deep_11 (fun st_11 est_11 H locs N => ?_)
  exact hret _ _ _ _ _ _ dX8_deep_14 (by first | rfl | (subst est_11; rfl) | (subst est_11; simp [bI])) (by first | rfl | (subst est_11; rfl) | (subst est_11; simp [bI])) N
set_option maxHeartbeats 4000000 in
set_option maxRecDepth 100000 in
theorem c_X8_users_bad (l : Launch) (G : GM) (ad : Nat → Nat) (ex : va_W) (st : ST) (c : Int32) (r : Int32) (hbad : xIsPl c r = false) : XXi l G yX8_users cX8_users 3 (some .int) 2 [.ref (ad 0), .int c, .int r] ad ex st (-2) (xBad st) := by
  refine xi_start (by decide) rfl (Nat.le_of_ble_eq_true rfl) ?_
  intro zp ze zs zm zargs zbelow zmeth zc zQ ls F N hl hret
  have hx := F.1
  have hb := F.2.1
  have hl : lv_has ls 3 [(0, .ref (ad 0)), (1, .int c), (2, .int r)] := hl
  refine lv_iload_n hx hb dX8_users_0 rfl (lv_at hl 1 rfl) ?_
  refine lv_iload_n hx hb dX8_users_1 rfl (lv_at hl 2 rfl) ?_
  refine cS_i F N (c_X8_isPlace l G _ c r) miX8_isPlace k_261 (by decide) hl.1 rfl (Nat.le_of_ble_eq_true rfl) dX8_users_2 (fun H locs N => ?_)
  refine toI (y := 0) (by rw [hbad]; rfl) ?_
  refine lv_if_ne (tgt := 15) hx hb dX8_users_5 (by decide) (fun c_5 => ?_) (fun c_5 => ?_)
  · first | exact absurd c_5 (by decide) | exact absurd (by decide) c_5
  refine lv_aload_n hx hb dX8_users_8 rfl (lv_at hl 0 rfl) ?_
  refine lv_bipush (v := (-2)) hx hb dX8_users_9 (by decide) ?_
  refine xV_i F N (c_X8_refused_bad l G ad ex st ) miX8_refused k_237 (by decide) hl.1 rfl (Nat.le_of_ble_eq_true rfl) (q0 := 0) (ci := 7) rfl rfl dX8_users_11 (fun st_11 est_11 H locs N => ?_)
  exact hret _ _ _ _ _ _ dX8_users_14 (by first | rfl | (subst est_11; rfl) | (subst est_11; simp [bI])) (by first | rfl | (subst est_11; rfl) | (subst est_11; simp [bI])) N
set_option maxHeartbeats 4000000 in
set_option maxRecDepth 100000 in
theorem c_X8_put (l : Launch) (G : GM) (ad : Nat → Nat) (ex : va_W) (st : ST) (c : Nat) (r : Nat) (f : Nat → Int32) (L : Nat) (nx : Nat) (sz : Nat) (hf : st.2.1 0 = f) (hL : st.1 3 = nI L) (hL2 : L ≤ 60) (hnx : st.1 5 = nI nx) (hnx2 : nx < 6) (hsz : st.1 6 = nI sz) (hsz2 : sz ≤ 6) (hc : c < 6) (hr : r < 6) : XXi l G yX8_put cX8_put 4 (some .int) 7 [.ref (ad 0), .int (nI c), .int (nI r)] ad ex st ((xPut st f L nx sz (r * 6 + c)).1) ((xPut st f L nx sz (r * 6 + c)).2) := by
  refine xi_start (by decide) rfl (Nat.le_of_ble_eq_true rfl) ?_
  intro zp ze zs zm zargs zbelow zmeth zc zQ ls F N hl hret
  have hx := F.1
  have hb := F.2.1
  have hl : lv_has ls 4 [(0, .ref (ad 0)), (1, .int (nI c)), (2, .int (nI r))] := hl
  refine lv_iload_n hx hb dX8_put_0 rfl (lv_at hl 1 rfl) ?_
  refine lv_iload_n hx hb dX8_put_1 rfl (lv_at hl 2 rfl) ?_
  refine cS_i F N (c_X8_isPlace l G _ (nI c) (nI r)) miX8_isPlace k_261 (by decide) hl.1 rfl (Nat.le_of_ble_eq_true rfl) dX8_put_2 (fun H locs N => ?_)
  refine toI (y := 1) (by rw [xIsPl_nI hc hr]; rfl) ?_
  refine lv_if_ne (tgt := 15) hx hb dX8_put_5 (by decide) (fun c_5 => ?_) (fun c_5 => ?_)
  rotate_left
  · first | exact absurd (by decide) c_5 | exact absurd c_5 (by decide)
  refine lv_aload_n hx hb dX8_put_15 rfl (lv_at hl 0 rfl) ?_
  refine gx_0_reader F N k_203 dX8_put_16 ?_
  refine xV_i F N (c_X3_read l G ad ex st f L hf hL hL2) miX3_read k_264 (by decide) hl.1 rfl (Nat.le_of_ble_eq_true rfl) (q0 := 2) (ci := 3) rfl rfl dX8_put_19 (fun st_19 est_19 H locs N => ?_)
  refine toI (y := (xRd st f L).1) rfl ?_
  refine lv_istore_n (lv' := [(3, .int ((xRd st f L).1)), (0, .ref (ad 0)), (1, .int (nI c)), (2, .int (nI r))]) hx hb dX8_put_22 rfl hl (by decide) rfl (fun ls hl => ?_)
  refine lv_iload_n hx hb dX8_put_23 rfl (lv_at hl 0 rfl) ?_
  refine lv_if_ne (tgt := 38) hx hb dX8_put_24 (by decide) (fun c_24 => ?_) (fun c_24 => ?_)
  · refine lv_aload_n hx hb dX8_put_38 rfl (lv_at hl 1 rfl) ?_
    refine xV_v F N (c_X8_leaveState l G ad ex st_19 nx sz (by simp [est_19, sI_1, sI_2, sA_1, sA_21, sA_22, hnx]) hnx2 (by simp [est_19, sI_1, sI_2, sA_1, sA_21, sA_22, hsz]) hsz2) miX8_leaveState k_332 (by decide) hl.1 rfl (Nat.le_of_ble_eq_true rfl) (q0 := 0) (ci := 7) rfl rfl dX8_put_39 (fun st_39 est_39 H locs N => ?_)
    refine lv_aload_n hx hb dX8_put_42 rfl (lv_at hl 1 rfl) ?_
    refine gx_0_sheet F N k_204 dX8_put_43 ?_
    refine lv_iload_n hx hb dX8_put_46 rfl (lv_at hl 2 rfl) ?_
    refine lv_iload_n hx hb dX8_put_47 rfl (lv_at hl 3 rfl) ?_
    refine cS_i F N (c_X8_cellAt l G _ (nI c) (nI r)) miX8_cellAt k_350 (by decide) hl.1 rfl (Nat.le_of_ble_eq_true rfl) dX8_put_48 (fun H locs N => ?_)
    refine toN (a := r * 6 + c) (xAt_nI c r) ?_
    refine lv_aload_n hx hb dX8_put_51 rfl (lv_at hl 1 rfl) ?_
    refine gx_0_reader F N k_203 dX8_put_52 ?_
    refine gx_2_found F N k_107 dX8_put_55 ?_
    refine xV_v F N (c_X4_fill l G ad ex st_39 (r * 6 + c) (by omega)) miX4_fill k_353 (by decide) hl.1 rfl (Nat.le_of_ble_eq_true rfl) (q0 := 3) (ci := 4) rfl rfl dX8_put_58 (fun st_58 est_58 H locs N => ?_)
    refine lv_iload_n hx hb dX8_put_61 rfl (lv_at hl 0 rfl) ?_
    exact hret _ _ _ _ _ _ dX8_put_62 (by unfold xPut; rw [if_neg c_24]; try rfl) (by unfold xPut; rw [if_neg c_24, est_58, est_39, est_19]; rfl) N
  · refine lv_bipush (v := (-10)) hx hb dX8_put_27 (by decide) ?_
    refine lv_aload_n hx hb dX8_put_29 rfl (lv_at hl 1 rfl) ?_
    refine gx_0_reader F N k_203 dX8_put_30 ?_
    refine xV_i F N (c_X3_fault l G ad ex st_19 f L ((xRd st f L).2.1) (by simp [est_19, sI_1, sI_2, sA_1, sA_21, sA_22, hf]) (by simp [est_19, sI_1, sI_2, sA_1, sA_21, sA_22, hL]) hL2 (by rw [est_19]; rfl) (rdL_le _ _ _ _ _ (Nat.zero_le L))) miX3_fault k_328 (by decide) hl.1 rfl (Nat.le_of_ble_eq_true rfl) (q0 := 2) (ci := 3) rfl rfl dX8_put_33 (fun st_33 est_33 H locs N => ?_)
    refine lv_isub hx hb dX8_put_36 ?_
    exact hret _ _ _ _ _ _ dX8_put_37 (by unfold xPut; rw [if_pos c_24]; try rfl) (by unfold xPut; rw [if_pos c_24, est_33, est_19]; rfl) N
set_option maxHeartbeats 4000000 in
set_option maxRecDepth 100000 in
theorem c_X8_empties (l : Launch) (G : GM) (ad : Nat → Nat) (ex : va_W) (st : ST) (c : Nat) (r : Nat) (nx : Nat) (sz : Nat) (hnx : st.1 5 = nI nx) (hnx2 : nx < 6) (hsz : st.1 6 = nI sz) (hsz2 : sz ≤ 6) (hc : c < 6) (hr : r < 6) : XXi l G yX8_empties cX8_empties 4 (some .int) 3 [.ref (ad 0), .int (nI c), .int (nI r)] ad ex st (nI (szL (st.2.1 2) (r * 6 + c) 4 0)) (sA (xLeave st nx sz) 2 (dropF (r * 6 + c) ((xLeave st nx sz).2.1 2))) := by
  refine xi_start (by decide) rfl (Nat.le_of_ble_eq_true rfl) ?_
  intro zp ze zs zm zargs zbelow zmeth zc zQ ls F N hl hret
  have hx := F.1
  have hb := F.2.1
  have hl : lv_has ls 4 [(0, .ref (ad 0)), (1, .int (nI c)), (2, .int (nI r))] := hl
  refine lv_iload_n hx hb dX8_empties_0 rfl (lv_at hl 1 rfl) ?_
  refine lv_iload_n hx hb dX8_empties_1 rfl (lv_at hl 2 rfl) ?_
  refine cS_i F N (c_X8_isPlace l G _ (nI c) (nI r)) miX8_isPlace k_261 (by decide) hl.1 rfl (Nat.le_of_ble_eq_true rfl) dX8_empties_2 (fun H locs N => ?_)
  refine toI (y := 1) (by rw [xIsPl_nI hc hr]; rfl) ?_
  refine lv_if_ne (tgt := 15) hx hb dX8_empties_5 (by decide) (fun c_5 => ?_) (fun c_5 => ?_)
  rotate_left
  · first | exact absurd (by decide) c_5 | exact absurd c_5 (by decide)
  refine lv_aload_n hx hb dX8_empties_15 rfl (lv_at hl 0 rfl) ?_
  refine xV_v F N (c_X8_leaveState l G ad ex st nx sz hnx hnx2 hsz hsz2) miX8_leaveState k_332 (by decide) hl.1 rfl (Nat.le_of_ble_eq_true rfl) (q0 := 0) (ci := 7) rfl rfl dX8_empties_16 (fun st_16 est_16 H locs N => ?_)
  refine lv_aload_n hx hb dX8_empties_19 rfl (lv_at hl 0 rfl) ?_
  refine gx_0_sheet F N k_204 dX8_empties_20 ?_
  refine lv_iload_n hx hb dX8_empties_23 rfl (lv_at hl 1 rfl) ?_
  refine lv_iload_n hx hb dX8_empties_24 rfl (lv_at hl 2 rfl) ?_
  refine cS_i F N (c_X8_cellAt l G _ (nI c) (nI r)) miX8_cellAt k_350 (by decide) hl.1 rfl (Nat.le_of_ble_eq_true rfl) dX8_empties_25 (fun H locs N => ?_)
  refine toN (a := r * 6 + c) (xAt_nI c r) ?_
  refine cV_i F N (c_X4_sizeOf l G ad ex st_16 (r * 6 + c) (by omega)) miX4_sizeOf k_365 (by decide) hl.1 rfl (Nat.le_of_ble_eq_true rfl) (q0 := 3) (ci := 4) rfl rfl dX8_empties_28 (fun H locs N => ?_)
  refine toN (a := szL (st.2.1 2) (r * 6 + c) 4 0) (by rw [est_16]; rfl) ?_
  refine lv_istore_n (lv' := [(3, .int (nI (szL (st.2.1 2) (r * 6 + c) 4 0))), (0, .ref (ad 0)), (1, .int (nI c)), (2, .int (nI r))]) hx hb dX8_empties_31 rfl hl (by decide) rfl (fun ls hl => ?_)
  refine lv_aload_n hx hb dX8_empties_32 rfl (lv_at hl 1 rfl) ?_
  refine gx_0_sheet F N k_204 dX8_empties_33 ?_
  refine lv_iload_n hx hb dX8_empties_36 rfl (lv_at hl 2 rfl) ?_
  refine lv_iload_n hx hb dX8_empties_37 rfl (lv_at hl 3 rfl) ?_
  refine cS_i F N (c_X8_cellAt l G _ (nI c) (nI r)) miX8_cellAt k_350 (by decide) hl.1 rfl (Nat.le_of_ble_eq_true rfl) dX8_empties_38 (fun H locs N => ?_)
  refine toN (a := r * 6 + c) (xAt_nI c r) ?_
  refine xV_v F N (c_X4_drop l G ad ex st_16 (r * 6 + c) (by omega)) miX4_drop k_374 (by decide) hl.1 rfl (Nat.le_of_ble_eq_true rfl) (q0 := 3) (ci := 4) rfl rfl dX8_empties_41 (fun st_41 est_41 H locs N => ?_)
  refine lv_iload_n hx hb dX8_empties_44 rfl (lv_at hl 0 rfl) ?_
  exact hret _ _ _ _ _ _ dX8_empties_45 (by rfl) (by rw [est_41, est_16]) N
set_option maxHeartbeats 4000000 in
set_option maxRecDepth 100000 in
theorem c_X8_comes_bad (l : Launch) (G : GM) (ad : Nat → Nat) (ex : va_W) (st : ST) (way : Int32) (a : Int32) (n : Int32) (hbad : xOkC way a n = false) : XXi l G yX8_comes cX8_comes 5 (some .int) 1 [.ref (ad 0), .int way, .int a, .int n] ad ex st (-2) (xBad st) := by
  refine xi_start (by decide) rfl (Nat.le_of_ble_eq_true rfl) ?_
  intro zp ze zs zm zargs zbelow zmeth zc zQ ls F N hl hret
  have hx := F.1
  have hb := F.2.1
  have hl : lv_has ls 5 [(0, .ref (ad 0)), (1, .int way), (2, .int a), (3, .int n)] := hl
  refine lv_iload_n hx hb dX8_comes_0 rfl (lv_at hl 1 rfl) ?_
  refine lv_iconst (v := 0) hx hb dX8_comes_1 (by decide) ?_
  refine lv_iconst (v := 1) hx hb dX8_comes_2 (by decide) ?_
  refine cS_i F N (c_X8_isWithin l G _ way 0 1) miX8_isWithin k_234 (by decide) hl.1 rfl (Nat.le_of_ble_eq_true rfl) dX8_comes_3 (fun H locs N => ?_)
  refine ifB_eq (tgt := 28) hx hb dX8_comes_6 (by decide) (fun c_6 => ?_) (fun c_6 => ?_)
  · refine lv_aload_n hx hb dX8_comes_28 rfl (lv_at hl 0 rfl) ?_
    refine lv_bipush (v := (-2)) hx hb dX8_comes_29 (by decide) ?_
    refine xV_i F N (c_X8_refused_bad l G ad ex st ) miX8_refused k_237 (by decide) hl.1 rfl (Nat.le_of_ble_eq_true rfl) (q0 := 0) (ci := 7) rfl rfl dX8_comes_31 (fun st_31 est_31 H locs N => ?_)
    exact hret _ _ _ _ _ _ dX8_comes_34 (by first | rfl | (subst est_31; rfl) | (subst est_31; simp [bI, c_6])) (by first | rfl | (subst est_31; rfl) | (subst est_31; simp [bI, c_6])) N
  · refine lv_iload_n hx hb dX8_comes_9 rfl (lv_at hl 2 rfl) ?_
    refine lv_iconst (v := 0) hx hb dX8_comes_10 (by decide) ?_
    refine lv_iconst (v := 5) hx hb dX8_comes_11 (by decide) ?_
    refine cS_i F N (c_X8_isWithin l G _ a 0 5) miX8_isWithin k_234 (by decide) hl.1 rfl (Nat.le_of_ble_eq_true rfl) dX8_comes_12 (fun H locs N => ?_)
    refine ifB_eq (tgt := 28) hx hb dX8_comes_15 (by decide) (fun c_15 => ?_) (fun c_15 => ?_)
    · refine lv_aload_n hx hb dX8_comes_28 rfl (lv_at hl 0 rfl) ?_
      refine lv_bipush (v := (-2)) hx hb dX8_comes_29 (by decide) ?_
      refine xV_i F N (c_X8_refused_bad l G ad ex st ) miX8_refused k_237 (by decide) hl.1 rfl (Nat.le_of_ble_eq_true rfl) (q0 := 0) (ci := 7) rfl rfl dX8_comes_31 (fun st_31 est_31 H locs N => ?_)
      exact hret _ _ _ _ _ _ dX8_comes_34 (by first | rfl | (subst est_31; rfl) | (subst est_31; simp [bI, c_6, c_15])) (by first | rfl | (subst est_31; rfl) | (subst est_31; simp [bI, c_6, c_15])) N
    · refine lv_iload_n hx hb dX8_comes_18 rfl (lv_at hl 3 rfl) ?_
      refine lv_iconst (v := 1) hx hb dX8_comes_19 (by decide) ?_
      refine lv_bipush (v := 6) hx hb dX8_comes_20 (by decide) ?_
      refine cS_i F N (c_X8_isWithin l G _ n 1 6) miX8_isWithin k_234 (by decide) hl.1 rfl (Nat.le_of_ble_eq_true rfl) dX8_comes_22 (fun H locs N => ?_)
      refine ifB_ne (tgt := 35) hx hb dX8_comes_25 (by decide) (fun c_25 => ?_) (fun c_25 => ?_)
      · exact absurd hbad (by simp [xOkC, c_6, c_15, c_25])
      · refine lv_aload_n hx hb dX8_comes_28 rfl (lv_at hl 0 rfl) ?_
        refine lv_bipush (v := (-2)) hx hb dX8_comes_29 (by decide) ?_
        refine xV_i F N (c_X8_refused_bad l G ad ex st ) miX8_refused k_237 (by decide) hl.1 rfl (Nat.le_of_ble_eq_true rfl) (q0 := 0) (ci := 7) rfl rfl dX8_comes_31 (fun st_31 est_31 H locs N => ?_)
        exact hret _ _ _ _ _ _ dX8_comes_34 (by first | rfl | (subst est_31; rfl) | (subst est_31; simp [bI, c_6, c_15, c_25])) (by first | rfl | (subst est_31; rfl) | (subst est_31; simp [bI, c_6, c_15, c_25])) N
set_option maxHeartbeats 4000000 in
set_option maxRecDepth 100000 in
theorem c_X8_goes_bad (l : Launch) (G : GM) (ad : Nat → Nat) (ex : va_W) (st : ST) (way : Int32) (a : Int32) (n : Int32) (hbad : xOkG way a n = false) : XXi l G yX8_goes cX8_goes 4 (some .int) 1 [.ref (ad 0), .int way, .int a, .int n] ad ex st (-2) (xBad st) := by
  refine xi_start (by decide) rfl (Nat.le_of_ble_eq_true rfl) ?_
  intro zp ze zs zm zargs zbelow zmeth zc zQ ls F N hl hret
  have hx := F.1
  have hb := F.2.1
  have hl : lv_has ls 4 [(0, .ref (ad 0)), (1, .int way), (2, .int a), (3, .int n)] := hl
  refine lv_iload_n hx hb dX8_goes_0 rfl (lv_at hl 1 rfl) ?_
  refine lv_iconst (v := 0) hx hb dX8_goes_1 (by decide) ?_
  refine lv_iconst (v := 1) hx hb dX8_goes_2 (by decide) ?_
  refine cS_i F N (c_X8_isWithin l G _ way 0 1) miX8_isWithin k_234 (by decide) hl.1 rfl (Nat.le_of_ble_eq_true rfl) dX8_goes_3 (fun H locs N => ?_)
  refine ifB_eq (tgt := 30) hx hb dX8_goes_6 (by decide) (fun c_6 => ?_) (fun c_6 => ?_)
  · refine lv_aload_n hx hb dX8_goes_30 rfl (lv_at hl 0 rfl) ?_
    refine lv_bipush (v := (-2)) hx hb dX8_goes_31 (by decide) ?_
    refine xV_i F N (c_X8_refused_bad l G ad ex st ) miX8_refused k_237 (by decide) hl.1 rfl (Nat.le_of_ble_eq_true rfl) (q0 := 0) (ci := 7) rfl rfl dX8_goes_33 (fun st_33 est_33 H locs N => ?_)
    exact hret _ _ _ _ _ _ dX8_goes_36 (by first | rfl | (subst est_33; rfl) | (subst est_33; simp [bI, c_6])) (by first | rfl | (subst est_33; rfl) | (subst est_33; simp [bI, c_6])) N
  · refine lv_iload_n hx hb dX8_goes_9 rfl (lv_at hl 2 rfl) ?_
    refine lv_iconst (v := 0) hx hb dX8_goes_10 (by decide) ?_
    refine lv_iconst (v := 5) hx hb dX8_goes_11 (by decide) ?_
    refine cS_i F N (c_X8_isWithin l G _ a 0 5) miX8_isWithin k_234 (by decide) hl.1 rfl (Nat.le_of_ble_eq_true rfl) dX8_goes_12 (fun H locs N => ?_)
    refine ifB_eq (tgt := 30) hx hb dX8_goes_15 (by decide) (fun c_15 => ?_) (fun c_15 => ?_)
    · refine lv_aload_n hx hb dX8_goes_30 rfl (lv_at hl 0 rfl) ?_
      refine lv_bipush (v := (-2)) hx hb dX8_goes_31 (by decide) ?_
      refine xV_i F N (c_X8_refused_bad l G ad ex st ) miX8_refused k_237 (by decide) hl.1 rfl (Nat.le_of_ble_eq_true rfl) (q0 := 0) (ci := 7) rfl rfl dX8_goes_33 (fun st_33 est_33 H locs N => ?_)
      exact hret _ _ _ _ _ _ dX8_goes_36 (by first | rfl | (subst est_33; rfl) | (subst est_33; simp [bI, c_6, c_15])) (by first | rfl | (subst est_33; rfl) | (subst est_33; simp [bI, c_6, c_15])) N
    · refine lv_iload_n hx hb dX8_goes_18 rfl (lv_at hl 3 rfl) ?_
      refine lv_iconst (v := 1) hx hb dX8_goes_19 (by decide) ?_
      refine lv_bipush (v := 6) hx hb dX8_goes_20 (by decide) ?_
      refine lv_iload_n hx hb dX8_goes_22 rfl (lv_at hl 2 rfl) ?_
      refine lv_isub hx hb dX8_goes_23 ?_
      refine cS_i F N (c_X8_isWithin l G _ n 1 ((6 : Int32) - a)) miX8_isWithin k_234 (by decide) hl.1 rfl (Nat.le_of_ble_eq_true rfl) dX8_goes_24 (fun H locs N => ?_)
      refine ifB_ne (tgt := 37) hx hb dX8_goes_27 (by decide) (fun c_27 => ?_) (fun c_27 => ?_)
      · exact absurd hbad (by simp [xOkG, c_6, c_15, c_27])
      · refine lv_aload_n hx hb dX8_goes_30 rfl (lv_at hl 0 rfl) ?_
        refine lv_bipush (v := (-2)) hx hb dX8_goes_31 (by decide) ?_
        refine xV_i F N (c_X8_refused_bad l G ad ex st ) miX8_refused k_237 (by decide) hl.1 rfl (Nat.le_of_ble_eq_true rfl) (q0 := 0) (ci := 7) rfl rfl dX8_goes_33 (fun st_33 est_33 H locs N => ?_)
        exact hret _ _ _ _ _ _ dX8_goes_36 (by first | rfl | (subst est_33; rfl) | (subst est_33; simp [bI, c_6, c_15, c_27])) (by first | rfl | (subst est_33; rfl) | (subst est_33; simp [bI, c_6, c_15, c_27])) N
set_option maxHeartbeats 4000000 in
set_option maxRecDepth 100000 in
theorem c_X8_comes (l : Launch) (G : GM) (ad : Nat → Nat) (ex : va_W) (st : ST) (way : Nat) (a : Nat) (n : Nat) (nx : Nat) (sz : Nat) (hnx : st.1 5 = nI nx) (hnx2 : nx < 6) (hsz : st.1 6 = nI sz) (hsz2 : sz ≤ 6) (hway : way < 2) (ha : a < 6) (hn1 : 1 ≤ n) (hn : n ≤ 6) : XXi l G yX8_comes cX8_comes 5 (some .int) 4 [.ref (ad 0), .int (nI way), .int (nI a), .int (nI n)] ad ex st ((xComes st nx sz way a n).1) ((xComes st nx sz way a n).2) := by
  refine xi_start (by decide) rfl (Nat.le_of_ble_eq_true rfl) ?_
  intro zp ze zs zm zargs zbelow zmeth zc zQ ls F N hl hret
  have hx := F.1
  have hb := F.2.1
  have hl : lv_has ls 5 [(0, .ref (ad 0)), (1, .int (nI way)), (2, .int (nI a)), (3, .int (nI n))] := hl
  refine lv_iload_n hx hb dX8_comes_0 rfl (lv_at hl 1 rfl) ?_
  refine lv_iconst (v := 0) hx hb dX8_comes_1 (by decide) ?_
  refine lv_iconst (v := 1) hx hb dX8_comes_2 (by decide) ?_
  refine cS_i F N (c_X8_isWithin l G _ (nI way) 0 1) miX8_isWithin k_234 (by decide) hl.1 rfl (Nat.le_of_ble_eq_true rfl) dX8_comes_3 (fun H locs N => ?_)
  refine toI (y := 1) (by rw [show xIsW (nI way) 0 1 = true from xIsW_nI (a := 0) (b := 1) (by omega) (by omega) (by decide)]; rfl) ?_
  refine lv_if_eq (tgt := 28) hx hb dX8_comes_6 (by decide) (fun c_6 => ?_) (fun c_6 => ?_)
  · first | exact absurd c_6 (by decide) | exact absurd (by decide) c_6
  refine lv_iload_n hx hb dX8_comes_9 rfl (lv_at hl 2 rfl) ?_
  refine lv_iconst (v := 0) hx hb dX8_comes_10 (by decide) ?_
  refine lv_iconst (v := 5) hx hb dX8_comes_11 (by decide) ?_
  refine cS_i F N (c_X8_isWithin l G _ (nI a) 0 5) miX8_isWithin k_234 (by decide) hl.1 rfl (Nat.le_of_ble_eq_true rfl) dX8_comes_12 (fun H locs N => ?_)
  refine toI (y := 1) (by rw [show xIsW (nI a) 0 5 = true from xIsW_nI (a := 0) (b := 5) (by omega) (by omega) (by decide)]; rfl) ?_
  refine lv_if_eq (tgt := 28) hx hb dX8_comes_15 (by decide) (fun c_15 => ?_) (fun c_15 => ?_)
  · first | exact absurd c_15 (by decide) | exact absurd (by decide) c_15
  refine lv_iload_n hx hb dX8_comes_18 rfl (lv_at hl 3 rfl) ?_
  refine lv_iconst (v := 1) hx hb dX8_comes_19 (by decide) ?_
  refine lv_bipush (v := 6) hx hb dX8_comes_20 (by decide) ?_
  refine cS_i F N (c_X8_isWithin l G _ (nI n) 1 6) miX8_isWithin k_234 (by decide) hl.1 rfl (Nat.le_of_ble_eq_true rfl) dX8_comes_22 (fun H locs N => ?_)
  refine toI (y := 1) (by rw [show xIsW (nI n) 1 6 = true from xIsW_nI (a := 1) (b := 6) (by omega) (by omega) (by decide)]; rfl) ?_
  refine lv_if_ne (tgt := 35) hx hb dX8_comes_25 (by decide) (fun c_25 => ?_) (fun c_25 => ?_)
  rotate_left
  · first | exact absurd (by decide) c_25 | exact absurd c_25 (by decide)
  refine lv_iload_n hx hb dX8_comes_35 rfl (lv_at hl 1 rfl) ?_
  refine cS_i F N (c_X8_axisOf l G _ (nI way)) miX8_axisOf k_382 (by decide) hl.1 rfl (Nat.le_of_ble_eq_true rfl) dX8_comes_36 (fun H locs N => ?_)
  refine toN (a := 1 - way) (xAxis_nI hway) ?_
  refine lv_istore (lv' := [(4, .int (nI (1 - way))), (0, .ref (ad 0)), (1, .int (nI way)), (2, .int (nI a)), (3, .int (nI n))]) hx hb dX8_comes_39 hl (by decide) rfl (fun ls hl => ?_)
  refine lv_aload_n hx hb dX8_comes_41 rfl (lv_at hl 1 rfl) ?_
  refine gx_0_sheet F N k_204 dX8_comes_42 ?_
  refine lv_iload hx hb dX8_comes_45 (lv_at hl 0 rfl) ?_
  refine lv_iload_n hx hb dX8_comes_47 rfl (lv_at hl 3 rfl) ?_
  refine lv_iload_n hx hb dX8_comes_48 rfl (lv_at hl 4 rfl) ?_
  refine cV_i F N (c_X4_wouldLose l G ad ex st (1 - way) a n (by omega) ha (by omega)) miX4_wouldLose k_385 (by decide) hl.1 rfl (Nat.le_of_ble_eq_true rfl) (q0 := 3) (ci := 4) rfl rfl dX8_comes_49 (fun H locs N => ?_)
  refine ifB_eq (tgt := 62) hx hb dX8_comes_52 (by decide) (fun c_52 => ?_) (fun c_52 => ?_)
  · refine lv_aload_n hx hb dX8_comes_62 rfl (lv_at hl 1 rfl) ?_
    refine xV_v F N (c_X8_leaveState l G ad ex st nx sz hnx hnx2 hsz hsz2) miX8_leaveState k_332 (by decide) hl.1 rfl (Nat.le_of_ble_eq_true rfl) (q0 := 0) (ci := 7) rfl rfl dX8_comes_63 (fun st_63 est_63 H locs N => ?_)
    refine lv_aload_n hx hb dX8_comes_66 rfl (lv_at hl 1 rfl) ?_
    refine gx_0_sheet F N k_204 dX8_comes_67 ?_
    refine lv_iload hx hb dX8_comes_70 (lv_at hl 0 rfl) ?_
    refine lv_iload_n hx hb dX8_comes_72 rfl (lv_at hl 3 rfl) ?_
    refine lv_iload_n hx hb dX8_comes_73 rfl (lv_at hl 4 rfl) ?_
    refine xV_v F N (c_X4_openLines l G ad ex st_63 (1 - way) a n (by omega) ha (by omega)) miX4_openLines k_405 (by decide) hl.1 rfl (Nat.le_of_ble_eq_true rfl) (q0 := 3) (ci := 4) rfl rfl dX8_comes_74 (fun st_74 est_74 H locs N => ?_)
    refine lv_aload_n hx hb dX8_comes_77 rfl (lv_at hl 1 rfl) ?_
    refine gx_0_sheet F N k_204 dX8_comes_78 ?_
    refine cV_i F N (c_X4_filledCells l G ad ex st_74 ) miX4_filledCells k_438 (by decide) hl.1 rfl (Nat.le_of_ble_eq_true rfl) (q0 := 3) (ci := 4) rfl rfl dX8_comes_81 (fun H locs N => ?_)
    exact hret _ _ _ _ _ _ dX8_comes_84 (by unfold xComes; rw [if_neg (by rw [c_52]; decide), est_74, est_63]; rfl) (by unfold xComes; rw [if_neg (by rw [c_52]; decide), est_74, est_63]; rfl) N
  · refine lv_aload_n hx hb dX8_comes_55 rfl (lv_at hl 1 rfl) ?_
    refine lv_bipush (v := (-3)) hx hb dX8_comes_56 (by decide) ?_
    refine xV_i F N (c_X8_refused_no l G ad ex st ) miX8_refused k_237 (by decide) hl.1 rfl (Nat.le_of_ble_eq_true rfl) (q0 := 0) (ci := 7) rfl rfl dX8_comes_58 (fun st_58 est_58 H locs N => ?_)
    exact hret _ _ _ _ _ _ dX8_comes_61 (by unfold xComes; rw [if_pos c_52]) (by unfold xComes; rw [if_pos c_52, est_58]) N
set_option maxHeartbeats 4000000 in
set_option maxRecDepth 100000 in
theorem c_X8_goes (l : Launch) (G : GM) (ad : Nat → Nat) (ex : va_W) (st : ST) (way : Nat) (a : Nat) (n : Nat) (nx : Nat) (sz : Nat) (hnx : st.1 5 = nI nx) (hnx2 : nx < 6) (hsz : st.1 6 = nI sz) (hsz2 : sz ≤ 6) (hway : way < 2) (ha : a < 6) (hn1 : 1 ≤ n) (hn : a + n ≤ 6) : XXi l G yX8_goes cX8_goes 4 (some .int) 4 [.ref (ad 0), .int (nI way), .int (nI a), .int (nI n)] ad ex st (nI (xFilled ((xClose st nx sz (1 - way) a n).2.1 2))) (xClose st nx sz (1 - way) a n) := by
  refine xi_start (by decide) rfl (Nat.le_of_ble_eq_true rfl) ?_
  intro zp ze zs zm zargs zbelow zmeth zc zQ ls F N hl hret
  have hx := F.1
  have hb := F.2.1
  have hl : lv_has ls 4 [(0, .ref (ad 0)), (1, .int (nI way)), (2, .int (nI a)), (3, .int (nI n))] := hl
  refine lv_iload_n hx hb dX8_goes_0 rfl (lv_at hl 1 rfl) ?_
  refine lv_iconst (v := 0) hx hb dX8_goes_1 (by decide) ?_
  refine lv_iconst (v := 1) hx hb dX8_goes_2 (by decide) ?_
  refine cS_i F N (c_X8_isWithin l G _ (nI way) 0 1) miX8_isWithin k_234 (by decide) hl.1 rfl (Nat.le_of_ble_eq_true rfl) dX8_goes_3 (fun H locs N => ?_)
  refine toI (y := 1) (by rw [show xIsW (nI way) 0 1 = true from xIsW_nI (a := 0) (b := 1) (by omega) (by omega) (by decide)]; rfl) ?_
  refine lv_if_eq (tgt := 30) hx hb dX8_goes_6 (by decide) (fun c_6 => ?_) (fun c_6 => ?_)
  · first | exact absurd c_6 (by decide) | exact absurd (by decide) c_6
  refine lv_iload_n hx hb dX8_goes_9 rfl (lv_at hl 2 rfl) ?_
  refine lv_iconst (v := 0) hx hb dX8_goes_10 (by decide) ?_
  refine lv_iconst (v := 5) hx hb dX8_goes_11 (by decide) ?_
  refine cS_i F N (c_X8_isWithin l G _ (nI a) 0 5) miX8_isWithin k_234 (by decide) hl.1 rfl (Nat.le_of_ble_eq_true rfl) dX8_goes_12 (fun H locs N => ?_)
  refine toI (y := 1) (by rw [show xIsW (nI a) 0 5 = true from xIsW_nI (a := 0) (b := 5) (by omega) (by omega) (by decide)]; rfl) ?_
  refine lv_if_eq (tgt := 30) hx hb dX8_goes_15 (by decide) (fun c_15 => ?_) (fun c_15 => ?_)
  · first | exact absurd c_15 (by decide) | exact absurd (by decide) c_15
  refine lv_iload_n hx hb dX8_goes_18 rfl (lv_at hl 3 rfl) ?_
  refine lv_iconst (v := 1) hx hb dX8_goes_19 (by decide) ?_
  refine lv_bipush (v := 6) hx hb dX8_goes_20 (by decide) ?_
  refine lv_iload_n hx hb dX8_goes_22 rfl (lv_at hl 2 rfl) ?_
  refine isubN (a := 6) (b := a) hx hb dX8_goes_23 (by omega) ?_
  refine cS_i F N (c_X8_isWithin l G _ (nI n) 1 (nI (6 - a))) miX8_isWithin k_234 (by decide) hl.1 rfl (Nat.le_of_ble_eq_true rfl) dX8_goes_24 (fun H locs N => ?_)
  refine toI (y := 1) (by rw [show xIsW (nI n) 1 (nI (6 - a)) = true from xIsW_nI (a := 1) (by omega) (by omega) (by omega)]; rfl) ?_
  refine lv_if_ne (tgt := 37) hx hb dX8_goes_27 (by decide) (fun c_27 => ?_) (fun c_27 => ?_)
  rotate_left
  · first | exact absurd (by decide) c_27 | exact absurd c_27 (by decide)
  refine lv_aload_n hx hb dX8_goes_37 rfl (lv_at hl 0 rfl) ?_
  refine xV_v F N (c_X8_leaveState l G ad ex st nx sz hnx hnx2 hsz hsz2) miX8_leaveState k_332 (by decide) hl.1 rfl (Nat.le_of_ble_eq_true rfl) (q0 := 0) (ci := 7) rfl rfl dX8_goes_38 (fun st_38 est_38 H locs N => ?_)
  refine lv_aload_n hx hb dX8_goes_41 rfl (lv_at hl 0 rfl) ?_
  refine gx_0_sheet F N k_204 dX8_goes_42 ?_
  refine lv_iload_n hx hb dX8_goes_45 rfl (lv_at hl 1 rfl) ?_
  refine cS_i F N (c_X8_axisOf l G _ (nI way)) miX8_axisOf k_382 (by decide) hl.1 rfl (Nat.le_of_ble_eq_true rfl) dX8_goes_46 (fun H locs N => ?_)
  refine toN (a := 1 - way) (xAxis_nI hway) ?_
  refine lv_iload_n hx hb dX8_goes_49 rfl (lv_at hl 2 rfl) ?_
  refine lv_iload_n hx hb dX8_goes_50 rfl (lv_at hl 3 rfl) ?_
  refine xV_v F N (c_X4_closeLines l G ad ex st_38 (1 - way) a n (by omega) ha (by omega)) miX4_closeLines k_446 (by decide) hl.1 rfl (Nat.le_of_ble_eq_true rfl) (q0 := 3) (ci := 4) rfl rfl dX8_goes_51 (fun st_51 est_51 H locs N => ?_)
  refine lv_aload_n hx hb dX8_goes_54 rfl (lv_at hl 0 rfl) ?_
  refine gx_0_sheet F N k_204 dX8_goes_55 ?_
  refine cV_i F N (c_X4_filledCells l G ad ex st_51 ) miX4_filledCells k_438 (by decide) hl.1 rfl (Nat.le_of_ble_eq_true rfl) (q0 := 3) (ci := 4) rfl rfl dX8_goes_58 (fun H locs N => ?_)
  exact hret _ _ _ _ _ _ dX8_goes_61 (by rw [est_51, est_38]; rfl) (by rw [est_51, est_38]; rfl) N
set_option maxHeartbeats 4000000 in
set_option maxRecDepth 100000 in
theorem c_X8_back (l : Launch) (G : GM) (ad : Nat → Nat) (ex : va_W) (st : ST) (nx : Nat) (sz : Nat) (hnx : st.1 5 = nI nx) (hnx2 : nx < 6) (hsz : st.1 6 = nI sz) (hsz2 : sz ≤ 6) : XXi l G yX8_back cX8_back 1 (some .int) 2 [.ref (ad 0)] ad ex st ((xBack st nx sz).1) ((xBack st nx sz).2) := by
  refine xi_start (by decide) rfl (Nat.le_of_ble_eq_true rfl) ?_
  intro zp ze zs zm zargs zbelow zmeth zc zQ ls F N hl hret
  have hx := F.1
  have hb := F.2.1
  have hl : lv_has ls 1 [(0, .ref (ad 0))] := hl
  refine lv_aload_n hx hb dX8_back_0 rfl (lv_at hl 0 rfl) ?_
  refine gx_0_past F N k_205 dX8_back_1 ?_
  refine gx_4_size F N k_139 dX8_back_4 ?_
  refine toN (a := sz) hsz ?_
  refine ifN_ne (a := sz) (tgt := 17) hx hb dX8_back_7 (by decide) (by omega) (fun c_7 => ?_) (fun c_7 => ?_)
  · refine lv_aload_n hx hb dX8_back_17 rfl (lv_at hl 0 rfl) ?_
    refine gx_0_past F N k_205 dX8_back_18 ?_
    refine lv_aload_n hx hb dX8_back_21 rfl (lv_at hl 0 rfl) ?_
    refine gx_0_sheet F N k_204 dX8_back_22 ?_
    refine xV_v F N (c_X2_restore l G ad ex st nx sz hnx hnx2 hsz hsz2 (by omega)) miX2_restore k_533 (by decide) hl.1 rfl (Nat.le_of_ble_eq_true rfl) (q0 := 4) (ci := 2) rfl rfl dX8_back_25 (fun st_25 est_25 H locs N => ?_)
    refine lv_aload_n hx hb dX8_back_28 rfl (lv_at hl 0 rfl) ?_
    refine gx_0_values F N k_206 dX8_back_29 ?_
    refine xV_v F N (c_X7_forget l G ad ex st_25 ) miX7_forget k_346 (by decide) hl.1 rfl (Nat.le_of_ble_eq_true rfl) (q0 := 5) (ci := 6) rfl rfl dX8_back_32 (fun st_32 est_32 H locs N => ?_)
    refine lv_aload_n hx hb dX8_back_35 rfl (lv_at hl 0 rfl) ?_
    refine gx_0_past F N k_205 dX8_back_36 ?_
    refine gx_4_size F N k_139 dX8_back_39 ?_
    refine toN (a := sz - 1) (by simp [est_32, est_25, sI_1, sI_2, sA_1, sA_21, sA_22]) ?_
    exact hret _ _ _ _ _ _ dX8_back_42 (by unfold xBack; rw [if_neg c_7]) (by unfold xBack; rw [if_neg c_7, est_32, est_25]; rfl) N
  · refine lv_aload_n hx hb dX8_back_10 rfl (lv_at hl 0 rfl) ?_
    refine lv_bipush (v := (-3)) hx hb dX8_back_11 (by decide) ?_
    refine xV_i F N (c_X8_refused_no l G ad ex st ) miX8_refused k_237 (by decide) hl.1 rfl (Nat.le_of_ble_eq_true rfl) (q0 := 0) (ci := 7) rfl rfl dX8_back_13 (fun st_13 est_13 H locs N => ?_)
    exact hret _ _ _ _ _ _ dX8_back_16 (by unfold xBack; rw [if_pos c_7]) (by unfold xBack; rw [if_pos c_7, est_13]) N
set_option maxHeartbeats 4000000 in
set_option maxRecDepth 100000 in
theorem c_X8_terms (l : Launch) (G : GM) (ad : Nat → Nat) (ex : va_W) (st : ST) (c : Nat) (r : Nat) (hc : c < 6) (hr : r < 6) : XCi l G yX8_terms cX8_terms 3 (some .int) 3 [.ref (ad 0), .int (nI c), .int (nI r)] (XW G ad st ++ ex) (nI (szL (st.2.1 2) (r * 6 + c) 4 0)) (XW G ad st ++ ex) := by
  refine xi_start (by decide) rfl (Nat.le_of_ble_eq_true rfl) ?_
  intro zp ze zs zm zargs zbelow zmeth zc zQ ls F N hl hret
  have hx := F.1
  have hb := F.2.1
  have hl : lv_has ls 3 [(0, .ref (ad 0)), (1, .int (nI c)), (2, .int (nI r))] := hl
  refine lv_iload_n hx hb dX8_terms_0 rfl (lv_at hl 1 rfl) ?_
  refine lv_iload_n hx hb dX8_terms_1 rfl (lv_at hl 2 rfl) ?_
  refine cS_i F N (c_X8_isPlace l G _ (nI c) (nI r)) miX8_isPlace k_261 (by decide) hl.1 rfl (Nat.le_of_ble_eq_true rfl) dX8_terms_2 (fun H locs N => ?_)
  refine toI (y := 1) (by rw [xIsPl_nI hc hr]; rfl) ?_
  refine lv_if_ne (tgt := 15) hx hb dX8_terms_5 (by decide) (fun c_5 => ?_) (fun c_5 => ?_)
  rotate_left
  · first | exact absurd (by decide) c_5 | exact absurd c_5 (by decide)
  refine lv_aload_n hx hb dX8_terms_15 rfl (lv_at hl 0 rfl) ?_
  refine gx_0_sheet F N k_204 dX8_terms_16 ?_
  refine lv_iload_n hx hb dX8_terms_19 rfl (lv_at hl 1 rfl) ?_
  refine lv_iload_n hx hb dX8_terms_20 rfl (lv_at hl 2 rfl) ?_
  refine cS_i F N (c_X8_cellAt l G _ (nI c) (nI r)) miX8_cellAt k_350 (by decide) hl.1 rfl (Nat.le_of_ble_eq_true rfl) dX8_terms_21 (fun H locs N => ?_)
  refine toN (a := r * 6 + c) (xAt_nI c r) ?_
  refine cV_i F N (c_X4_sizeOf l G ad ex st (r * 6 + c) (by omega)) miX4_sizeOf k_365 (by decide) hl.1 rfl (Nat.le_of_ble_eq_true rfl) (q0 := 3) (ci := 4) rfl rfl dX8_terms_24 (fun H locs N => ?_)
  exact hret _ _ _ _ _ _ dX8_terms_27 (by first | rfl | (simp [bI])) (by first | rfl | (simp [bI])) N
set_option maxHeartbeats 4000000 in
set_option maxRecDepth 100000 in
theorem c_X8_term_bad (l : Launch) (G : GM) (ad : Nat → Nat) (ex : va_W) (st : ST) (c : Int32) (r : Int32) (i : Int32) (what : Int32) (hbad : (xIsPl c r && xIsW what 0 5) = false) : XXi l G yX8_term cX8_term 6 (some .int) 2 [.ref (ad 0), .int c, .int r, .int i, .int what] ad ex st (-2) (xBad st) := by
  refine xi_start (by decide) rfl (Nat.le_of_ble_eq_true rfl) ?_
  intro zp ze zs zm zargs zbelow zmeth zc zQ ls F N hl hret
  have hx := F.1
  have hb := F.2.1
  have hl : lv_has ls 6 [(0, .ref (ad 0)), (1, .int c), (2, .int r), (3, .int i), (4, .int what)] := hl
  refine lv_iload_n hx hb dX8_term_0 rfl (lv_at hl 1 rfl) ?_
  refine lv_iload_n hx hb dX8_term_1 rfl (lv_at hl 2 rfl) ?_
  refine cS_i F N (c_X8_isPlace l G _ c r) miX8_isPlace k_261 (by decide) hl.1 rfl (Nat.le_of_ble_eq_true rfl) dX8_term_2 (fun H locs N => ?_)
  refine ifB_eq (tgt := 18) hx hb dX8_term_5 (by decide) (fun c_5 => ?_) (fun c_5 => ?_)
  · refine lv_aload_n hx hb dX8_term_18 rfl (lv_at hl 0 rfl) ?_
    refine lv_bipush (v := (-2)) hx hb dX8_term_19 (by decide) ?_
    refine xV_i F N (c_X8_refused_bad l G ad ex st ) miX8_refused k_237 (by decide) hl.1 rfl (Nat.le_of_ble_eq_true rfl) (q0 := 0) (ci := 7) rfl rfl dX8_term_21 (fun st_21 est_21 H locs N => ?_)
    exact hret _ _ _ _ _ _ dX8_term_24 (by first | rfl | (subst est_21; rfl) | (subst est_21; simp [bI, c_5])) (by first | rfl | (subst est_21; rfl) | (subst est_21; simp [bI, c_5])) N
  · refine lv_iload hx hb dX8_term_8 (lv_at hl 4 rfl) ?_
    refine lv_iconst (v := 0) hx hb dX8_term_10 (by decide) ?_
    refine lv_iconst (v := 5) hx hb dX8_term_11 (by decide) ?_
    refine cS_i F N (c_X8_isWithin l G _ what 0 5) miX8_isWithin k_234 (by decide) hl.1 rfl (Nat.le_of_ble_eq_true rfl) dX8_term_12 (fun H locs N => ?_)
    refine ifB_ne (tgt := 25) hx hb dX8_term_15 (by decide) (fun c_15 => ?_) (fun c_15 => ?_)
    · exact absurd hbad (by simp [c_5, c_15])
    · refine lv_aload_n hx hb dX8_term_18 rfl (lv_at hl 0 rfl) ?_
      refine lv_bipush (v := (-2)) hx hb dX8_term_19 (by decide) ?_
      refine xV_i F N (c_X8_refused_bad l G ad ex st ) miX8_refused k_237 (by decide) hl.1 rfl (Nat.le_of_ble_eq_true rfl) (q0 := 0) (ci := 7) rfl rfl dX8_term_21 (fun st_21 est_21 H locs N => ?_)
      exact hret _ _ _ _ _ _ dX8_term_24 (by first | rfl | (subst est_21; rfl) | (subst est_21; simp [bI, c_5, c_15])) (by first | rfl | (subst est_21; rfl) | (subst est_21; simp [bI, c_5, c_15])) N
set_option maxHeartbeats 4000000 in
set_option maxRecDepth 100000 in
theorem c_X8_term_no (l : Launch) (G : GM) (ad : Nat → Nat) (ex : va_W) (st : ST) (c : Nat) (r : Nat) (i : Int32) (what : Nat) (hc : c < 6) (hr : r < 6) (hw : what < 6) (hi : xIsW i 0 3 = false) : XXi l G yX8_term cX8_term 6 (some .int) 2 [.ref (ad 0), .int (nI c), .int (nI r), .int i, .int (nI what)] ad ex st (-2) (xBad st) := by
  refine xi_start (by decide) rfl (Nat.le_of_ble_eq_true rfl) ?_
  intro zp ze zs zm zargs zbelow zmeth zc zQ ls F N hl hret
  have hx := F.1
  have hb := F.2.1
  have hl : lv_has ls 6 [(0, .ref (ad 0)), (1, .int (nI c)), (2, .int (nI r)), (3, .int i), (4, .int (nI what))] := hl
  refine lv_iload_n hx hb dX8_term_0 rfl (lv_at hl 1 rfl) ?_
  refine lv_iload_n hx hb dX8_term_1 rfl (lv_at hl 2 rfl) ?_
  refine cS_i F N (c_X8_isPlace l G _ (nI c) (nI r)) miX8_isPlace k_261 (by decide) hl.1 rfl (Nat.le_of_ble_eq_true rfl) dX8_term_2 (fun H locs N => ?_)
  refine toI (y := 1) (by rw [xIsPl_nI hc hr]; rfl) ?_
  refine lv_if_eq (tgt := 18) hx hb dX8_term_5 (by decide) (fun c_5 => ?_) (fun c_5 => ?_)
  · first | exact absurd c_5 (by decide) | exact absurd (by decide) c_5
  refine lv_iload hx hb dX8_term_8 (lv_at hl 4 rfl) ?_
  refine lv_iconst (v := 0) hx hb dX8_term_10 (by decide) ?_
  refine lv_iconst (v := 5) hx hb dX8_term_11 (by decide) ?_
  refine cS_i F N (c_X8_isWithin l G _ (nI what) 0 5) miX8_isWithin k_234 (by decide) hl.1 rfl (Nat.le_of_ble_eq_true rfl) dX8_term_12 (fun H locs N => ?_)
  refine toI (y := 1) (by rw [show xIsW (nI what) 0 5 = true from xIsW_nI (a := 0) (b := 5) (by omega) (by omega) (by decide)]; rfl) ?_
  refine lv_if_ne (tgt := 25) hx hb dX8_term_15 (by decide) (fun c_15 => ?_) (fun c_15 => ?_)
  rotate_left
  · first | exact absurd (by decide) c_15 | exact absurd c_15 (by decide)
  refine lv_aload_n hx hb dX8_term_25 rfl (lv_at hl 0 rfl) ?_
  refine gx_0_sheet F N k_204 dX8_term_26 ?_
  refine lv_iload_n hx hb dX8_term_29 rfl (lv_at hl 1 rfl) ?_
  refine lv_iload_n hx hb dX8_term_30 rfl (lv_at hl 2 rfl) ?_
  refine cS_i F N (c_X8_cellAt l G _ (nI c) (nI r)) miX8_cellAt k_350 (by decide) hl.1 rfl (Nat.le_of_ble_eq_true rfl) dX8_term_31 (fun H locs N => ?_)
  refine toN (a := r * 6 + c) (xAt_nI c r) ?_
  refine lv_iload_n hx hb dX8_term_34 rfl (lv_at hl 3 rfl) ?_
  refine cV_i F N (c_X4_termOf_no l G ad ex st (r * 6 + c) i (by omega) hi) miX4_termOf k_545 (by decide) hl.1 rfl (Nat.le_of_ble_eq_true rfl) (q0 := 3) (ci := 4) rfl rfl dX8_term_35 (fun H locs N => ?_)
  refine toI (y := 0) rfl ?_
  refine lv_istore (lv' := [(5, .int 0), (0, .ref (ad 0)), (1, .int (nI c)), (2, .int (nI r)), (3, .int i), (4, .int (nI what))]) hx hb dX8_term_38 hl (by decide) rfl (fun ls hl => ?_)
  refine lv_iload hx hb dX8_term_40 (lv_at hl 0 rfl) ?_
  refine lv_if_ne (tgt := 52) hx hb dX8_term_42 (by decide) (fun c_42 => ?_) (fun c_42 => ?_)
  · first | exact absurd c_42 (by decide) | exact absurd (by decide) c_42
  refine lv_aload_n hx hb dX8_term_45 rfl (lv_at hl 1 rfl) ?_
  refine lv_bipush (v := (-2)) hx hb dX8_term_46 (by decide) ?_
  refine xV_i F N (c_X8_refused_bad l G ad ex st ) miX8_refused k_237 (by decide) hl.1 rfl (Nat.le_of_ble_eq_true rfl) (q0 := 0) (ci := 7) rfl rfl dX8_term_48 (fun st_48 est_48 H locs N => ?_)
  exact hret _ _ _ _ _ _ dX8_term_51 (by first | rfl | (subst est_48; rfl) | (subst est_48; simp [bI])) (by first | rfl | (subst est_48; rfl) | (subst est_48; simp [bI])) N
set_option maxHeartbeats 4000000 in
set_option maxRecDepth 100000 in
theorem c_X8_term (l : Launch) (G : GM) (ad : Nat → Nat) (ex : va_W) (st : ST) (c : Nat) (r : Nat) (i : Nat) (what : Nat) (hc : c < 6) (hr : r < 6) (hw : what < 6) (hi : i < 4) : XXi l G yX8_term cX8_term 6 (some .int) 2 [.ref (ad 0), .int (nI c), .int (nI r), .int (nI i), .int (nI what)] ad ex st ((xTerm st (r * 6 + c) i what).1) ((xTerm st (r * 6 + c) i what).2) := by
  refine xi_start (by decide) rfl (Nat.le_of_ble_eq_true rfl) ?_
  intro zp ze zs zm zargs zbelow zmeth zc zQ ls F N hl hret
  have hx := F.1
  have hb := F.2.1
  have hl : lv_has ls 6 [(0, .ref (ad 0)), (1, .int (nI c)), (2, .int (nI r)), (3, .int (nI i)), (4, .int (nI what))] := hl
  refine lv_iload_n hx hb dX8_term_0 rfl (lv_at hl 1 rfl) ?_
  refine lv_iload_n hx hb dX8_term_1 rfl (lv_at hl 2 rfl) ?_
  refine cS_i F N (c_X8_isPlace l G _ (nI c) (nI r)) miX8_isPlace k_261 (by decide) hl.1 rfl (Nat.le_of_ble_eq_true rfl) dX8_term_2 (fun H locs N => ?_)
  refine toI (y := 1) (by rw [xIsPl_nI hc hr]; rfl) ?_
  refine lv_if_eq (tgt := 18) hx hb dX8_term_5 (by decide) (fun c_5 => ?_) (fun c_5 => ?_)
  · first | exact absurd c_5 (by decide) | exact absurd (by decide) c_5
  refine lv_iload hx hb dX8_term_8 (lv_at hl 4 rfl) ?_
  refine lv_iconst (v := 0) hx hb dX8_term_10 (by decide) ?_
  refine lv_iconst (v := 5) hx hb dX8_term_11 (by decide) ?_
  refine cS_i F N (c_X8_isWithin l G _ (nI what) 0 5) miX8_isWithin k_234 (by decide) hl.1 rfl (Nat.le_of_ble_eq_true rfl) dX8_term_12 (fun H locs N => ?_)
  refine toI (y := 1) (by rw [show xIsW (nI what) 0 5 = true from xIsW_nI (a := 0) (b := 5) (by omega) (by omega) (by decide)]; rfl) ?_
  refine lv_if_ne (tgt := 25) hx hb dX8_term_15 (by decide) (fun c_15 => ?_) (fun c_15 => ?_)
  rotate_left
  · first | exact absurd (by decide) c_15 | exact absurd c_15 (by decide)
  refine lv_aload_n hx hb dX8_term_25 rfl (lv_at hl 0 rfl) ?_
  refine gx_0_sheet F N k_204 dX8_term_26 ?_
  refine lv_iload_n hx hb dX8_term_29 rfl (lv_at hl 1 rfl) ?_
  refine lv_iload_n hx hb dX8_term_30 rfl (lv_at hl 2 rfl) ?_
  refine cS_i F N (c_X8_cellAt l G _ (nI c) (nI r)) miX8_cellAt k_350 (by decide) hl.1 rfl (Nat.le_of_ble_eq_true rfl) dX8_term_31 (fun H locs N => ?_)
  refine toN (a := r * 6 + c) (xAt_nI c r) ?_
  refine lv_iload_n hx hb dX8_term_34 rfl (lv_at hl 3 rfl) ?_
  refine cV_i F N (c_X4_termOf l G ad ex st (r * 6 + c) i (by omega) hi) miX4_termOf k_545 (by decide) hl.1 rfl (Nat.le_of_ble_eq_true rfl) (q0 := 3) (ci := 4) rfl rfl dX8_term_35 (fun H locs N => ?_)
  refine lv_istore (lv' := [(5, .int (tm (st.2.1 2) (r * 6 + c) i)), (0, .ref (ad 0)), (1, .int (nI c)), (2, .int (nI r)), (3, .int (nI i)), (4, .int (nI what))]) hx hb dX8_term_38 hl (by decide) rfl (fun ls hl => ?_)
  refine lv_iload hx hb dX8_term_40 (lv_at hl 0 rfl) ?_
  refine lv_if_ne (tgt := 52) hx hb dX8_term_42 (by decide) (fun c_42 => ?_) (fun c_42 => ?_)
  · refine lv_iload hx hb dX8_term_52 (lv_at hl 5 rfl) ?_
    refine ifN_ne (a := what) (tgt := 65) hx hb dX8_term_54 (by decide) (by omega) (fun c_54 => ?_) (fun c_54 => ?_)
    · refine lv_iload hx hb dX8_term_65 (lv_at hl 5 rfl) ?_
      refine lv_iconst (v := 5) hx hb dX8_term_67 (by decide) ?_
      refine cmpN_ne (a := what) (b := 5) (tgt := 77) hx hb dX8_term_68 (by decide) (by omega) (by omega) (fun c_68 => ?_) (fun c_68 => ?_)
      · refine lv_iload hx hb dX8_term_77 (lv_at hl 0 rfl) ?_
        refine cS_i F N (c_X5_kind l G _ (tm (st.2.1 2) (r * 6 + c) i)) miX5_kind k_546 (by decide) hl.1 rfl (Nat.le_of_ble_eq_true rfl) dX8_term_79 (fun H locs N => ?_)
        refine lv_iconst (v := 1) hx hb dX8_term_82 (by decide) ?_
        refine lv_icmp_ne (tgt := 102) hx hb dX8_term_83 (by decide) (fun c_83 => ?_) (fun c_83 => ?_)
        · refine lv_iload hx hb dX8_term_102 (lv_at hl 0 rfl) ?_
          refine lv_iload hx hb dX8_term_104 (lv_at hl 5 rfl) ?_
          refine lv_iconst (v := 1) hx hb dX8_term_106 (by decide) ?_
          refine isubN (a := what) (b := 1) hx hb dX8_term_107 (by omega) ?_
          refine cS_i F N (c_X5_coordinate l G _ (tm (st.2.1 2) (r * 6 + c) i) (nI (what - 1))) miX5_coordinate k_551 (by decide) hl.1 rfl (Nat.le_of_ble_eq_true rfl) dX8_term_108 (fun H locs N => ?_)
          exact hret _ _ _ _ _ _ dX8_term_111 (by unfold xTerm; rw [if_neg c_42]; simp [xTV, c_42, c_54, c_68, c_83]) (by unfold xTerm; rw [if_neg c_42]) N
        · refine lv_iload hx hb dX8_term_86 (lv_at hl 5 rfl) ?_
          refine lv_iconst (v := 1) hx hb dX8_term_88 (by decide) ?_
          refine cmpN_ne (a := what) (b := 1) (tgt := 100) hx hb dX8_term_89 (by decide) (by omega) (by omega) (fun c_89 => ?_) (fun c_89 => ?_)
          · refine lv_iconst (v := 0) hx hb dX8_term_100 (by decide) ?_
            exact hret _ _ _ _ _ _ dX8_term_101 (by unfold xTerm; rw [if_neg c_42]; simp [xTV, c_42, c_54, c_68, c_83, c_89]) (by unfold xTerm; rw [if_neg c_42]) N
          · refine lv_iload hx hb dX8_term_92 (lv_at hl 0 rfl) ?_
            refine cS_i F N (c_X5_number l G _ (tm (st.2.1 2) (r * 6 + c) i)) miX5_number k_548 (by decide) hl.1 rfl (Nat.le_of_ble_eq_true rfl) dX8_term_94 (fun H locs N => ?_)
            refine lv_goto (tgt := 101) hx hb dX8_term_97 (by decide) ?_
            exact hret _ _ _ _ _ _ dX8_term_101 (by unfold xTerm; rw [if_neg c_42]; simp [xTV, c_42, c_54, c_68, c_83, c_89]) (by unfold xTerm; rw [if_neg c_42]) N
      · refine lv_iload hx hb dX8_term_71 (lv_at hl 0 rfl) ?_
        refine cS_i F N (c_X5_fixed l G _ (tm (st.2.1 2) (r * 6 + c) i)) miX5_fixed k_547 (by decide) hl.1 rfl (Nat.le_of_ble_eq_true rfl) dX8_term_73 (fun H locs N => ?_)
        exact hret _ _ _ _ _ _ dX8_term_76 (by unfold xTerm; rw [if_neg c_42]; simp [xTV, c_42, c_54, c_68]) (by unfold xTerm; rw [if_neg c_42]) N
    · refine lv_iload hx hb dX8_term_57 (lv_at hl 0 rfl) ?_
      refine cS_i F N (c_X5_kind l G _ (tm (st.2.1 2) (r * 6 + c) i)) miX5_kind k_546 (by decide) hl.1 rfl (Nat.le_of_ble_eq_true rfl) dX8_term_59 (fun H locs N => ?_)
      refine lv_iconst (v := 1) hx hb dX8_term_62 (by decide) ?_
      refine lv_isub hx hb dX8_term_63 ?_
      exact hret _ _ _ _ _ _ dX8_term_64 (by unfold xTerm; rw [if_neg c_42]; simp [xTV, c_42, c_54]) (by unfold xTerm; rw [if_neg c_42]) N
  · refine lv_aload_n hx hb dX8_term_45 rfl (lv_at hl 1 rfl) ?_
    refine lv_bipush (v := (-2)) hx hb dX8_term_46 (by decide) ?_
    refine xV_i F N (c_X8_refused_bad l G ad ex st ) miX8_refused k_237 (by decide) hl.1 rfl (Nat.le_of_ble_eq_true rfl) (q0 := 0) (ci := 7) rfl rfl dX8_term_48 (fun st_48 est_48 H locs N => ?_)
    exact hret _ _ _ _ _ _ dX8_term_51 (by unfold xTerm; rw [if_pos c_42]) (by unfold xTerm; rw [if_pos c_42, est_48]) N
set_option maxHeartbeats 4000000 in
set_option maxRecDepth 100000 in
theorem c_X8_shown_bad (l : Launch) (G : GM) (ad : Nat → Nat) (ex : va_W) (st : ST) (c : Int32) (r : Int32) (k : Int32) (hbad : (xIsPl c r && decide (0 ≤ k)) = false) : XXi l G yX8_shown cX8_shown 4 (some .int) 2 [.ref (ad 0), .int c, .int r, .int k] ad ex st (-2) (xBad st) := by
  refine xi_start (by decide) rfl (Nat.le_of_ble_eq_true rfl) ?_
  intro zp ze zs zm zargs zbelow zmeth zc zQ ls F N hl hret
  have hx := F.1
  have hb := F.2.1
  have hl : lv_has ls 4 [(0, .ref (ad 0)), (1, .int c), (2, .int r), (3, .int k)] := hl
  refine lv_iload_n hx hb dX8_shown_0 rfl (lv_at hl 1 rfl) ?_
  refine lv_iload_n hx hb dX8_shown_1 rfl (lv_at hl 2 rfl) ?_
  refine cS_i F N (c_X8_isPlace l G _ c r) miX8_isPlace k_261 (by decide) hl.1 rfl (Nat.le_of_ble_eq_true rfl) dX8_shown_2 (fun H locs N => ?_)
  refine ifB_eq (tgt := 12) hx hb dX8_shown_5 (by decide) (fun c_5 => ?_) (fun c_5 => ?_)
  · refine lv_aload_n hx hb dX8_shown_12 rfl (lv_at hl 0 rfl) ?_
    refine lv_bipush (v := (-2)) hx hb dX8_shown_13 (by decide) ?_
    refine xV_i F N (c_X8_refused_bad l G ad ex st ) miX8_refused k_237 (by decide) hl.1 rfl (Nat.le_of_ble_eq_true rfl) (q0 := 0) (ci := 7) rfl rfl dX8_shown_15 (fun st_15 est_15 H locs N => ?_)
    exact hret _ _ _ _ _ _ dX8_shown_18 (by first | rfl | (subst est_15; rfl) | (subst est_15; simp [bI, c_5])) (by first | rfl | (subst est_15; rfl) | (subst est_15; simp [bI, c_5])) N
  · refine lv_iload_n hx hb dX8_shown_8 rfl (lv_at hl 3 rfl) ?_
    refine lv_if_ge (tgt := 19) hx hb dX8_shown_9 (by decide) (fun c_9 => ?_) (fun c_9 => ?_)
    · exact absurd hbad (by simp [c_5, c_9])
    · have c_9v := nle_lt c_9
      refine lv_aload_n hx hb dX8_shown_12 rfl (lv_at hl 0 rfl) ?_
      refine lv_bipush (v := (-2)) hx hb dX8_shown_13 (by decide) ?_
      refine xV_i F N (c_X8_refused_bad l G ad ex st ) miX8_refused k_237 (by decide) hl.1 rfl (Nat.le_of_ble_eq_true rfl) (q0 := 0) (ci := 7) rfl rfl dX8_shown_15 (fun st_15 est_15 H locs N => ?_)
      exact hret _ _ _ _ _ _ dX8_shown_18 (by first | rfl | (subst est_15; rfl) | (subst est_15; simp [bI, c_5, c_9, c_9v])) (by first | rfl | (subst est_15; rfl) | (subst est_15; simp [bI, c_5, c_9, c_9v])) N
set_option maxHeartbeats 4000000 in
set_option maxRecDepth 100000 in
theorem c_X8_shown (l : Launch) (G : GM) (ad : Nat → Nat) (ex : va_W) (st : ST) (c : Nat) (r : Nat) (k : Nat) (hc : c < 6) (hr : r < 6) (hk : k < 2 ^ 31) : XXi l G yX8_shown cX8_shown 4 (some .int) 4 [.ref (ad 0), .int (nI c), .int (nI r), .int (nI k)] ad ex st (if (pgW (st.2.1 2) (r * 6 + c) (st.2.1 10)).1 ≤ k then -1 else (pgW (st.2.1 2) (r * 6 + c) (st.2.1 10)).2 k) (sP st (pgW (st.2.1 2) (r * 6 + c) (st.2.1 10))) := by
  refine xi_start (by decide) rfl (Nat.le_of_ble_eq_true rfl) ?_
  intro zp ze zs zm zargs zbelow zmeth zc zQ ls F N hl hret
  have hx := F.1
  have hb := F.2.1
  have hl : lv_has ls 4 [(0, .ref (ad 0)), (1, .int (nI c)), (2, .int (nI r)), (3, .int (nI k))] := hl
  refine lv_iload_n hx hb dX8_shown_0 rfl (lv_at hl 1 rfl) ?_
  refine lv_iload_n hx hb dX8_shown_1 rfl (lv_at hl 2 rfl) ?_
  refine cS_i F N (c_X8_isPlace l G _ (nI c) (nI r)) miX8_isPlace k_261 (by decide) hl.1 rfl (Nat.le_of_ble_eq_true rfl) dX8_shown_2 (fun H locs N => ?_)
  refine toI (y := 1) (by rw [xIsPl_nI hc hr]; rfl) ?_
  refine lv_if_eq (tgt := 12) hx hb dX8_shown_5 (by decide) (fun c_5 => ?_) (fun c_5 => ?_)
  · first | exact absurd c_5 (by decide) | exact absurd (by decide) c_5
  refine lv_iload_n hx hb dX8_shown_8 rfl (lv_at hl 3 rfl) ?_
  refine ifN_ge (a := k) (tgt := 19) hx hb dX8_shown_9 (by decide) (by omega) ?_
  refine lv_aload_n hx hb dX8_shown_19 rfl (lv_at hl 0 rfl) ?_
  refine gx_0_page F N k_207 dX8_shown_20 ?_
  refine lv_aload_n hx hb dX8_shown_23 rfl (lv_at hl 0 rfl) ?_
  refine gx_0_sheet F N k_204 dX8_shown_24 ?_
  refine lv_iload_n hx hb dX8_shown_27 rfl (lv_at hl 1 rfl) ?_
  refine lv_iload_n hx hb dX8_shown_28 rfl (lv_at hl 2 rfl) ?_
  refine cS_i F N (c_X8_cellAt l G _ (nI c) (nI r)) miX8_cellAt k_350 (by decide) hl.1 rfl (Nat.le_of_ble_eq_true rfl) dX8_shown_29 (fun H locs N => ?_)
  refine toN (a := r * 6 + c) (xAt_nI c r) ?_
  refine xV_v F N (c_X1_write l G ad ex st (r * 6 + c) (by omega)) miX1_write k_556 (by decide) hl.1 rfl (Nat.le_of_ble_eq_true rfl) (q0 := 6) (ci := 1) rfl rfl dX8_shown_32 (fun st_32 est_32 H locs N => ?_)
  refine lv_aload_n hx hb dX8_shown_35 rfl (lv_at hl 0 rfl) ?_
  refine gx_0_page F N k_207 dX8_shown_36 ?_
  refine lv_iload_n hx hb dX8_shown_39 rfl (lv_at hl 3 rfl) ?_
  refine cV_i F N (c_X1_letterAt l G ad ex st_32 k (pgW (st.2.1 2) (r * 6 + c) (st.2.1 10)) (by rw [est_32]; rfl) (by rw [est_32]; rfl) (pgW_le _ _ _) hk) miX1_letterAt k_582 (by decide) hl.1 rfl (Nat.le_of_ble_eq_true rfl) (q0 := 6) (ci := 1) rfl rfl dX8_shown_40 (fun H locs N => ?_)
  exact hret _ _ _ _ _ _ dX8_shown_43 (by rfl) (by rw [est_32]) N
set_option maxHeartbeats 4000000 in
set_option maxRecDepth 100000 in
theorem c_X8_value (l : Launch) (G : GM) (ad : Nat → Nat) (ex : va_W) (st : ST) (c : Nat) (r : Nat) (hc : c < 6) (hr : r < 6) : XXi l G yX8_value cX8_value 4 (some .int) 78 [.ref (ad 0), .int (nI c), .int (nI r)] ad ex st (xVal st (r * 6 + c)) (xIF st (r * 6 + c)) := by
  refine xi_start (by decide) rfl (Nat.le_of_ble_eq_true rfl) ?_
  intro zp ze zs zm zargs zbelow zmeth zc zQ ls F N hl hret
  have hx := F.1
  have hb := F.2.1
  have hl : lv_has ls 4 [(0, .ref (ad 0)), (1, .int (nI c)), (2, .int (nI r))] := hl
  refine lv_iload_n hx hb dX8_value_0 rfl (lv_at hl 1 rfl) ?_
  refine lv_iload_n hx hb dX8_value_1 rfl (lv_at hl 2 rfl) ?_
  refine cS_i F N (c_X8_isPlace l G _ (nI c) (nI r)) miX8_isPlace k_261 (by decide) hl.1 rfl (Nat.le_of_ble_eq_true rfl) dX8_value_2 (fun H locs N => ?_)
  refine toI (y := 1) (by rw [xIsPl_nI hc hr]; rfl) ?_
  refine lv_if_ne (tgt := 15) hx hb dX8_value_5 (by decide) (fun c_5 => ?_) (fun c_5 => ?_)
  rotate_left
  · first | exact absurd (by decide) c_5 | exact absurd c_5 (by decide)
  refine lv_iload_n hx hb dX8_value_15 rfl (lv_at hl 1 rfl) ?_
  refine lv_iload_n hx hb dX8_value_16 rfl (lv_at hl 2 rfl) ?_
  refine cS_i F N (c_X8_cellAt l G _ (nI c) (nI r)) miX8_cellAt k_350 (by decide) hl.1 rfl (Nat.le_of_ble_eq_true rfl) dX8_value_17 (fun H locs N => ?_)
  refine toN (a := r * 6 + c) (xAt_nI c r) ?_
  refine lv_istore_n (lv' := [(3, .int (nI (r * 6 + c))), (0, .ref (ad 0)), (1, .int (nI c)), (2, .int (nI r))]) hx hb dX8_value_20 rfl hl (by decide) rfl (fun ls hl => ?_)
  refine lv_aload_n hx hb dX8_value_21 rfl (lv_at hl 1 rfl) ?_
  refine gx_0_values F N k_206 dX8_value_22 ?_
  refine lv_iload_n hx hb dX8_value_25 rfl (lv_at hl 0 rfl) ?_
  refine xV_i F N (c_X7_isFaulty l G ad ex st (r * 6 + c) (by omega)) miX7_isFaulty k_590 (by decide) hl.1 rfl (Nat.le_of_ble_eq_true rfl) (q0 := 5) (ci := 6) rfl rfl dX8_value_26 (fun st_26 est_26 H locs N => ?_)
  refine ifB_eq (tgt := 47) hx hb dX8_value_29 (by decide) (fun c_29 => ?_) (fun c_29 => ?_)
  · have c_29v := of_decide_eq_false c_29
    refine lv_aload_n hx hb dX8_value_47 rfl (lv_at hl 1 rfl) ?_
    refine gx_0_values F N k_206 dX8_value_48 ?_
    refine gx_5_sums F N k_160 dX8_value_51 ?_
    refine lv_iload_n hx hb dX8_value_54 rfl (lv_at hl 0 rfl) ?_
    refine axN_6 (j := (r * 6 + c)) F N (by omega) dX8_value_55 ?_
    exact hret _ _ _ _ _ _ dX8_value_56 (by unfold xVal; first | rw [if_neg c_29v, est_26] | rw [if_pos (Decidable.not_not.mp c_29v), est_26]) (by rw [est_26]) N
  · have c_29v := of_decide_eq_true c_29
    refine lv_bipush (v := (-10)) hx hb dX8_value_32 (by decide) ?_
    refine lv_aload_n hx hb dX8_value_34 rfl (lv_at hl 1 rfl) ?_
    refine gx_0_values F N k_206 dX8_value_35 ?_
    refine gx_5_faults F N k_158 dX8_value_38 ?_
    refine lv_iload_n hx hb dX8_value_41 rfl (lv_at hl 0 rfl) ?_
    refine axN_5 (j := (r * 6 + c)) F N (by omega) dX8_value_42 ?_
    refine lv_isub hx hb dX8_value_43 ?_
    refine lv_goto (tgt := 56) hx hb dX8_value_44 (by decide) ?_
    exact hret _ _ _ _ _ _ dX8_value_56 (by unfold xVal; first | rw [if_neg c_29v, est_26] | rw [if_pos (Decidable.not_not.mp c_29v), est_26]) (by rw [est_26]) N
set_option maxHeartbeats 4000000 in
set_option maxRecDepth 100000 in
theorem c_X8_why (l : Launch) (G : GM) (ad : Nat → Nat) (ex : va_W) (st : ST) (c : Nat) (r : Nat) (hc : c < 6) (hr : r < 6) : XXi l G yX8_why cX8_why 5 (some .int) 78 [.ref (ad 0), .int (nI c), .int (nI r)] ad ex st (xWhy st (r * 6 + c)) (xIF st (r * 6 + c)) := by
  refine xi_start (by decide) rfl (Nat.le_of_ble_eq_true rfl) ?_
  intro zp ze zs zm zargs zbelow zmeth zc zQ ls F N hl hret
  have hx := F.1
  have hb := F.2.1
  have hl : lv_has ls 5 [(0, .ref (ad 0)), (1, .int (nI c)), (2, .int (nI r))] := hl
  refine lv_iload_n hx hb dX8_why_0 rfl (lv_at hl 1 rfl) ?_
  refine lv_iload_n hx hb dX8_why_1 rfl (lv_at hl 2 rfl) ?_
  refine cS_i F N (c_X8_isPlace l G _ (nI c) (nI r)) miX8_isPlace k_261 (by decide) hl.1 rfl (Nat.le_of_ble_eq_true rfl) dX8_why_2 (fun H locs N => ?_)
  refine toI (y := 1) (by rw [xIsPl_nI hc hr]; rfl) ?_
  refine lv_if_ne (tgt := 15) hx hb dX8_why_5 (by decide) (fun c_5 => ?_) (fun c_5 => ?_)
  rotate_left
  · first | exact absurd (by decide) c_5 | exact absurd c_5 (by decide)
  refine lv_iload_n hx hb dX8_why_15 rfl (lv_at hl 1 rfl) ?_
  refine lv_iload_n hx hb dX8_why_16 rfl (lv_at hl 2 rfl) ?_
  refine cS_i F N (c_X8_cellAt l G _ (nI c) (nI r)) miX8_cellAt k_350 (by decide) hl.1 rfl (Nat.le_of_ble_eq_true rfl) dX8_why_17 (fun H locs N => ?_)
  refine toN (a := r * 6 + c) (xAt_nI c r) ?_
  refine lv_istore_n (lv' := [(3, .int (nI (r * 6 + c))), (0, .ref (ad 0)), (1, .int (nI c)), (2, .int (nI r))]) hx hb dX8_why_20 rfl hl (by decide) rfl (fun ls hl => ?_)
  refine lv_aload_n hx hb dX8_why_21 rfl (lv_at hl 1 rfl) ?_
  refine gx_0_values F N k_206 dX8_why_22 ?_
  refine lv_iload_n hx hb dX8_why_25 rfl (lv_at hl 0 rfl) ?_
  refine xV_i F N (c_X7_isFaulty l G ad ex st (r * 6 + c) (by omega)) miX7_isFaulty k_590 (by decide) hl.1 rfl (Nat.le_of_ble_eq_true rfl) (q0 := 5) (ci := 6) rfl rfl dX8_why_26 (fun st_26 est_26 H locs N => ?_)
  refine ifB_ne (tgt := 34) hx hb dX8_why_29 (by decide) (fun c_29 => ?_) (fun c_29 => ?_)
  · have c_29v := of_decide_eq_true c_29
    refine lv_aload_n hx hb dX8_why_34 rfl (lv_at hl 1 rfl) ?_
    refine gx_0_values F N k_206 dX8_why_35 ?_
    refine gx_5_faultCells F N k_162 dX8_why_38 ?_
    refine lv_iload_n hx hb dX8_why_41 rfl (lv_at hl 0 rfl) ?_
    refine axN_7 (j := (r * 6 + c)) F N (by omega) dX8_why_42 ?_
    refine lv_istore (lv' := [(4, .int (st_26.2.1 7 (r * 6 + c))), (3, .int (nI (r * 6 + c))), (0, .ref (ad 0)), (1, .int (nI c)), (2, .int (nI r))]) hx hb dX8_why_43 hl (by decide) rfl (fun ls hl => ?_)
    refine lv_bipush (v := 10) hx hb dX8_why_45 (by decide) ?_
    refine lv_iload hx hb dX8_why_47 (lv_at hl 0 rfl) ?_
    refine cS_i F N (c_X8_columnOf l G _ (st_26.2.1 7 (r * 6 + c))) miX8_columnOf k_623 (by decide) hl.1 rfl (Nat.le_of_ble_eq_true rfl) dX8_why_49 (fun H locs N => ?_)
    refine lv_imul hx hb dX8_why_52 ?_
    refine lv_iload hx hb dX8_why_53 (lv_at hl 0 rfl) ?_
    refine cS_i F N (c_X8_rowOf l G _ (st_26.2.1 7 (r * 6 + c))) miX8_rowOf k_624 (by decide) hl.1 rfl (Nat.le_of_ble_eq_true rfl) dX8_why_55 (fun H locs N => ?_)
    refine lv_iadd hx hb dX8_why_58 ?_
    exact hret _ _ _ _ _ _ dX8_why_59 (by unfold xWhy; first | rw [if_neg c_29v, est_26] | rw [if_pos (Decidable.not_not.mp c_29v)]) (by rw [est_26]) N
  · have c_29v := of_decide_eq_false c_29
    refine lv_iconst (v := (-1)) hx hb dX8_why_32 (by decide) ?_
    exact hret _ _ _ _ _ _ dX8_why_33 (by unfold xWhy; first | rw [if_neg c_29v, est_26] | rw [if_pos (Decidable.not_not.mp c_29v)]) (by rw [est_26]) N
set_option maxHeartbeats 4000000 in
set_option maxRecDepth 100000 in
theorem c_X8_deep (l : Launch) (G : GM) (ad : Nat → Nat) (ex : va_W) (st : ST) (c : Nat) (r : Nat) (hc : c < 6) (hr : r < 6) : XXi l G yX8_deep cX8_deep 4 (some .int) 78 [.ref (ad 0), .int (nI c), .int (nI r)] ad ex st (xDeep st (r * 6 + c)) (xIF st (r * 6 + c)) := by
  refine xi_start (by decide) rfl (Nat.le_of_ble_eq_true rfl) ?_
  intro zp ze zs zm zargs zbelow zmeth zc zQ ls F N hl hret
  have hx := F.1
  have hb := F.2.1
  have hl : lv_has ls 4 [(0, .ref (ad 0)), (1, .int (nI c)), (2, .int (nI r))] := hl
  refine lv_iload_n hx hb dX8_deep_0 rfl (lv_at hl 1 rfl) ?_
  refine lv_iload_n hx hb dX8_deep_1 rfl (lv_at hl 2 rfl) ?_
  refine cS_i F N (c_X8_isPlace l G _ (nI c) (nI r)) miX8_isPlace k_261 (by decide) hl.1 rfl (Nat.le_of_ble_eq_true rfl) dX8_deep_2 (fun H locs N => ?_)
  refine toI (y := 1) (by rw [xIsPl_nI hc hr]; rfl) ?_
  refine lv_if_ne (tgt := 15) hx hb dX8_deep_5 (by decide) (fun c_5 => ?_) (fun c_5 => ?_)
  rotate_left
  · first | exact absurd (by decide) c_5 | exact absurd c_5 (by decide)
  refine lv_iload_n hx hb dX8_deep_15 rfl (lv_at hl 1 rfl) ?_
  refine lv_iload_n hx hb dX8_deep_16 rfl (lv_at hl 2 rfl) ?_
  refine cS_i F N (c_X8_cellAt l G _ (nI c) (nI r)) miX8_cellAt k_350 (by decide) hl.1 rfl (Nat.le_of_ble_eq_true rfl) dX8_deep_17 (fun H locs N => ?_)
  refine toN (a := r * 6 + c) (xAt_nI c r) ?_
  refine lv_istore_n (lv' := [(3, .int (nI (r * 6 + c))), (0, .ref (ad 0)), (1, .int (nI c)), (2, .int (nI r))]) hx hb dX8_deep_20 rfl hl (by decide) rfl (fun ls hl => ?_)
  refine lv_aload_n hx hb dX8_deep_21 rfl (lv_at hl 1 rfl) ?_
  refine gx_0_values F N k_206 dX8_deep_22 ?_
  refine lv_iload_n hx hb dX8_deep_25 rfl (lv_at hl 0 rfl) ?_
  refine xV_i F N (c_X7_isFaulty l G ad ex st (r * 6 + c) (by omega)) miX7_isFaulty k_590 (by decide) hl.1 rfl (Nat.le_of_ble_eq_true rfl) (q0 := 5) (ci := 6) rfl rfl dX8_deep_26 (fun st_26 est_26 H locs N => ?_)
  refine ifB_eq (tgt := 44) hx hb dX8_deep_29 (by decide) (fun c_29 => ?_) (fun c_29 => ?_)
  · have c_29v := of_decide_eq_false c_29
    refine lv_iconst (v := (-1)) hx hb dX8_deep_44 (by decide) ?_
    exact hret _ _ _ _ _ _ dX8_deep_45 (by unfold xDeep; first | rw [if_neg c_29v, est_26] | rw [if_pos (Decidable.not_not.mp c_29v)]) (by rw [est_26]) N
  · have c_29v := of_decide_eq_true c_29
    refine lv_aload_n hx hb dX8_deep_32 rfl (lv_at hl 1 rfl) ?_
    refine gx_0_values F N k_206 dX8_deep_33 ?_
    refine gx_5_faultDepths F N k_164 dX8_deep_36 ?_
    refine lv_iload_n hx hb dX8_deep_39 rfl (lv_at hl 0 rfl) ?_
    refine axN_8 (j := (r * 6 + c)) F N (by omega) dX8_deep_40 ?_
    refine lv_goto (tgt := 45) hx hb dX8_deep_41 (by decide) ?_
    exact hret _ _ _ _ _ _ dX8_deep_45 (by unfold xDeep; first | rw [if_neg c_29v, est_26] | rw [if_pos (Decidable.not_not.mp c_29v)]) (by rw [est_26]) N
set_option maxHeartbeats 4000000 in
set_option maxRecDepth 100000 in
theorem c_X8_users (l : Launch) (G : GM) (ad : Nat → Nat) (ex : va_W) (st : ST) (c : Nat) (r : Nat) (hc : c < 6) (hr : r < 6) : XCi l G yX8_users cX8_users 3 (some .int) 3 [.ref (ad 0), .int (nI c), .int (nI r)] (XW G ad st ++ ex) (nI (cnt (rfB (st.2.1 2) c r) 144 0 0)) (XW G ad st ++ ex) := by
  refine xi_start (by decide) rfl (Nat.le_of_ble_eq_true rfl) ?_
  intro zp ze zs zm zargs zbelow zmeth zc zQ ls F N hl hret
  have hx := F.1
  have hb := F.2.1
  have hl : lv_has ls 3 [(0, .ref (ad 0)), (1, .int (nI c)), (2, .int (nI r))] := hl
  refine lv_iload_n hx hb dX8_users_0 rfl (lv_at hl 1 rfl) ?_
  refine lv_iload_n hx hb dX8_users_1 rfl (lv_at hl 2 rfl) ?_
  refine cS_i F N (c_X8_isPlace l G _ (nI c) (nI r)) miX8_isPlace k_261 (by decide) hl.1 rfl (Nat.le_of_ble_eq_true rfl) dX8_users_2 (fun H locs N => ?_)
  refine toI (y := 1) (by rw [xIsPl_nI hc hr]; rfl) ?_
  refine lv_if_ne (tgt := 15) hx hb dX8_users_5 (by decide) (fun c_5 => ?_) (fun c_5 => ?_)
  rotate_left
  · first | exact absurd (by decide) c_5 | exact absurd c_5 (by decide)
  refine lv_aload_n hx hb dX8_users_15 rfl (lv_at hl 0 rfl) ?_
  refine gx_0_sheet F N k_204 dX8_users_16 ?_
  refine lv_iload_n hx hb dX8_users_19 rfl (lv_at hl 1 rfl) ?_
  refine lv_iload_n hx hb dX8_users_20 rfl (lv_at hl 2 rfl) ?_
  refine cV_i F N (c_X4_referencesTo l G ad ex st c r) miX4_referencesTo k_633 (by decide) hl.1 rfl (Nat.le_of_ble_eq_true rfl) (q0 := 3) (ci := 4) rfl rfl dX8_users_21 (fun H locs N => ?_)
  exact hret _ _ _ _ _ _ dX8_users_24 (by first | rfl | (simp [bI])) (by first | rfl | (simp [bI])) N
set_option maxHeartbeats 4000000 in
set_option maxRecDepth 100000 in
theorem c_X8_count (l : Launch) (G : GM) (ad : Nat → Nat) (ex : va_W) (st : ST) (what : Int32) : XXi l G yX8_count cX8_count 2 (some .int) 79 [.ref (ad 0), .int what] ad ex st ((xCount st what).1) ((xCount st what).2) := by
  refine xi_start (by decide) rfl (Nat.le_of_ble_eq_true rfl) ?_
  intro zp ze zs zm zargs zbelow zmeth zc zQ ls F N hl hret
  have hx := F.1
  have hb := F.2.1
  have hl : lv_has ls 2 [(0, .ref (ad 0)), (1, .int what)] := hl
  refine lv_iload_n hx hb dX8_count_0 rfl (lv_at hl 1 rfl) ?_
  by_cases c_1_0 : what = 0
  · refine lv_tableIn (off := 31) (tgt := 32) hx hb dX8_count_1 (by rw [c_1_0]; decide) (by rw [c_1_0]; decide) (by rw [c_1_0]; decide) (by decide) ?_
    refine lv_aload_n hx hb dX8_count_32 rfl (lv_at hl 0 rfl) ?_
    refine gx_0_sheet F N k_204 dX8_count_33 ?_
    refine cV_i F N (c_X4_filledCells l G ad ex st ) miX4_filledCells k_438 (by decide) hl.1 rfl (Nat.le_of_ble_eq_true rfl) (q0 := 3) (ci := 4) rfl rfl dX8_count_36 (fun H locs N => ?_)
    exact hret _ _ _ _ _ _ dX8_count_39 (by simp [xCount, xFilled, c_1_0]) (by simp [xCount, c_1_0]) N
  by_cases c_1_1 : what = 1
  · refine lv_tableIn (off := 39) (tgt := 40) hx hb dX8_count_1 (by rw [c_1_1]; decide) (by rw [c_1_1]; decide) (by rw [c_1_1]; decide) (by decide) ?_
    refine lv_aload_n hx hb dX8_count_40 rfl (lv_at hl 0 rfl) ?_
    refine gx_0_sheet F N k_204 dX8_count_41 ?_
    refine cV_i F N (c_X4_allTerms l G ad ex st ) miX4_allTerms k_643 (by decide) hl.1 rfl (Nat.le_of_ble_eq_true rfl) (q0 := 3) (ci := 4) rfl rfl dX8_count_44 (fun H locs N => ?_)
    exact hret _ _ _ _ _ _ dX8_count_47 (by simp [xCount, xFilled, c_1_0, c_1_1]) (by simp [xCount, c_1_0, c_1_1]) N
  by_cases c_1_2 : what = 2
  · refine lv_tableIn (off := 47) (tgt := 48) hx hb dX8_count_1 (by rw [c_1_2]; decide) (by rw [c_1_2]; decide) (by rw [c_1_2]; decide) (by decide) ?_
    refine lv_aload_n hx hb dX8_count_48 rfl (lv_at hl 0 rfl) ?_
    refine gx_0_sheet F N k_204 dX8_count_49 ?_
    refine cV_i F N (c_X4_brokenTerms l G ad ex st ) miX4_brokenTerms k_647 (by decide) hl.1 rfl (Nat.le_of_ble_eq_true rfl) (q0 := 3) (ci := 4) rfl rfl dX8_count_52 (fun H locs N => ?_)
    exact hret _ _ _ _ _ _ dX8_count_55 (by simp [xCount, xFilled, c_1_0, c_1_1, c_1_2]) (by simp [xCount, c_1_0, c_1_1, c_1_2]) N
  by_cases c_1_3 : what = 3
  · refine lv_tableIn (off := 55) (tgt := 56) hx hb dX8_count_1 (by rw [c_1_3]; decide) (by rw [c_1_3]; decide) (by rw [c_1_3]; decide) (by decide) ?_
    refine lv_aload_n hx hb dX8_count_56 rfl (lv_at hl 0 rfl) ?_
    refine gx_0_values F N k_206 dX8_count_57 ?_
    refine xV_i F N (c_X7_faultyCells l G ad ex st ) miX7_faultyCells k_651 (by decide) hl.1 rfl (Nat.le_of_ble_eq_true rfl) (q0 := 5) (ci := 6) rfl rfl dX8_count_60 (fun st_60 est_60 H locs N => ?_)
    exact hret _ _ _ _ _ _ dX8_count_63 (by simp [xCount, xFilled, c_1_0, c_1_1, c_1_2, c_1_3]) (by simp [xCount, est_60, c_1_0, c_1_1, c_1_2, c_1_3]) N
  refine lv_tableOut (tgt := 64) hx hb dX8_count_1 (tblOut_0_3 c_1_0 c_1_1 c_1_2 c_1_3) (by decide) ?_
  refine lv_aload_n hx hb dX8_count_64 rfl (lv_at hl 0 rfl) ?_
  refine lv_bipush (v := (-2)) hx hb dX8_count_65 (by decide) ?_
  refine xV_i F N (c_X8_refused_bad l G ad ex st ) miX8_refused k_237 (by decide) hl.1 rfl (Nat.le_of_ble_eq_true rfl) (q0 := 0) (ci := 7) rfl rfl dX8_count_67 (fun st_67 est_67 H locs N => ?_)
  exact hret _ _ _ _ _ _ dX8_count_70 (by simp [xCount, xFilled, c_1_0, c_1_1, c_1_2, c_1_3]) (by simp [xCount, est_67, c_1_0, c_1_1, c_1_2, c_1_3]) N
set_option maxHeartbeats 4000000 in
set_option maxRecDepth 100000 in
theorem c_X8_told (l : Launch) (G : GM) (ad : Nat → Nat) (ex : va_W) (st : ST) (what : Int32) : XXi l G yX8_told cX8_told 2 (some .int) 1 [.ref (ad 0), .int what] ad ex st ((xTold st what).1) ((xTold st what).2) := by
  refine xi_start (by decide) rfl (Nat.le_of_ble_eq_true rfl) ?_
  intro zp ze zs zm zargs zbelow zmeth zc zQ ls F N hl hret
  have hx := F.1
  have hb := F.2.1
  have hl : lv_has ls 2 [(0, .ref (ad 0)), (1, .int what)] := hl
  refine lv_iload_n hx hb dX8_told_0 rfl (lv_at hl 1 rfl) ?_
  by_cases c_1_0 : what = 0
  · refine lv_tableIn (off := 35) (tgt := 36) hx hb dX8_told_1 (by rw [c_1_0]; decide) (by rw [c_1_0]; decide) (by rw [c_1_0]; decide) (by decide) ?_
    refine lv_aload_n hx hb dX8_told_36 rfl (lv_at hl 0 rfl) ?_
    refine gx_0_bads F N k_208 dX8_told_37 ?_
    exact hret _ _ _ _ _ _ dX8_told_40 (by simp [xTold, c_1_0]) (by simp [xTold, c_1_0]) N
  by_cases c_1_1 : what = 1
  · refine lv_tableIn (off := 40) (tgt := 41) hx hb dX8_told_1 (by rw [c_1_1]; decide) (by rw [c_1_1]; decide) (by rw [c_1_1]; decide) (by decide) ?_
    refine lv_aload_n hx hb dX8_told_41 rfl (lv_at hl 0 rfl) ?_
    refine gx_0_nos F N k_209 dX8_told_42 ?_
    exact hret _ _ _ _ _ _ dX8_told_45 (by simp [xTold, c_1_0, c_1_1]) (by simp [xTold, c_1_0, c_1_1]) N
  by_cases c_1_2 : what = 2
  · refine lv_tableIn (off := 45) (tgt := 46) hx hb dX8_told_1 (by rw [c_1_2]; decide) (by rw [c_1_2]; decide) (by rw [c_1_2]; decide) (by decide) ?_
    refine lv_aload_n hx hb dX8_told_46 rfl (lv_at hl 0 rfl) ?_
    refine gx_0_fulls F N k_210 dX8_told_47 ?_
    exact hret _ _ _ _ _ _ dX8_told_50 (by simp [xTold, c_1_0, c_1_1, c_1_2]) (by simp [xTold, c_1_0, c_1_1, c_1_2]) N
  by_cases c_1_3 : what = 3
  · refine lv_tableIn (off := 50) (tgt := 51) hx hb dX8_told_1 (by rw [c_1_3]; decide) (by rw [c_1_3]; decide) (by rw [c_1_3]; decide) (by decide) ?_
    refine lv_aload_n hx hb dX8_told_51 rfl (lv_at hl 0 rfl) ?_
    refine gx_0_text F N k_202 dX8_told_52 ?_
    refine gx_1_length F N k_92 dX8_told_55 ?_
    exact hret _ _ _ _ _ _ dX8_told_58 (by simp [xTold, c_1_0, c_1_1, c_1_2, c_1_3]) (by simp [xTold, c_1_0, c_1_1, c_1_2, c_1_3]) N
  by_cases c_1_4 : what = 4
  · refine lv_tableIn (off := 58) (tgt := 59) hx hb dX8_told_1 (by rw [c_1_4]; decide) (by rw [c_1_4]; decide) (by rw [c_1_4]; decide) (by decide) ?_
    refine lv_aload_n hx hb dX8_told_59 rfl (lv_at hl 0 rfl) ?_
    refine gx_0_past F N k_205 dX8_told_60 ?_
    refine gx_4_size F N k_139 dX8_told_63 ?_
    exact hret _ _ _ _ _ _ dX8_told_66 (by simp [xTold, c_1_0, c_1_1, c_1_2, c_1_3, c_1_4]) (by simp [xTold, c_1_0, c_1_1, c_1_2, c_1_3, c_1_4]) N
  refine lv_tableOut (tgt := 67) hx hb dX8_told_1 (tblOut_0_4 c_1_0 c_1_1 c_1_2 c_1_3 c_1_4) (by decide) ?_
  refine lv_aload_n hx hb dX8_told_67 rfl (lv_at hl 0 rfl) ?_
  refine lv_bipush (v := (-2)) hx hb dX8_told_68 (by decide) ?_
  refine xV_i F N (c_X8_refused_bad l G ad ex st ) miX8_refused k_237 (by decide) hl.1 rfl (Nat.le_of_ble_eq_true rfl) (q0 := 0) (ci := 7) rfl rfl dX8_told_70 (fun st_70 est_70 H locs N => ?_)
  exact hret _ _ _ _ _ _ dX8_told_73 (by simp [xTold, c_1_0, c_1_1, c_1_2, c_1_3, c_1_4]) (by simp [xTold, est_70, c_1_0, c_1_1, c_1_2, c_1_3, c_1_4]) N
set_option maxHeartbeats 4000000 in
set_option maxRecDepth 100000 in
theorem c_X8_digestWith (l : Launch) (G : GM) (ad : Nat → Nat) (ex : va_W) (st : ST) (before : Int64) (c : Nat) (r : Nat) (hc : c < 6) (hr : r < 6) : XXl l G yX8_digestWith cX8_digestWith 10 (some .long) 79 [.ref (ad 0), .long before, .int (nI c), .int (nI r)] ad ex st ((dgCell (r * 6 + c) (before, st)).1) ((dgCell (r * 6 + c) (before, st)).2) := by
  refine xl_start (by decide) (Nat.le_of_ble_eq_true rfl) ?_
  intro zp ze zs zm zargs zbelow zmeth zc zQ ls F N hl hret
  have hx := F.1
  have hb := F.2.1
  have hl : lv_has ls 10 [(0, .ref (ad 0)), (1, .long before), (3, .int (nI c)), (4, .int (nI r))] := hl
  have hz := szL_le (st.2.1 2) (r * 6 + c) 4 0
  refine lv_aload_n hx hb dX8_digestWith_0 rfl (lv_at hl 0 rfl) ?_
  refine lv_iload_n hx hb dX8_digestWith_1 rfl (lv_at hl 2 rfl) ?_
  refine lv_iload hx hb dX8_digestWith_2 (lv_at hl 3 rfl) ?_
  refine cV_i F N (c_X8_terms l G ad ex st c r (by omega) (by omega)) miX8_terms k_672 (by decide) hl.1 rfl (Nat.le_of_ble_eq_true rfl) (q0 := 0) (ci := 7) rfl rfl dX8_digestWith_4 (fun H locs N => ?_)
  refine lv_istore (lv' := [(5, .int (nI (szL (st.2.1 2) (r * 6 + c) 4 0))), (0, .ref (ad 0)), (1, .long before), (3, .int (nI c)), (4, .int (nI r))]) hx hb dX8_digestWith_7 hl (by decide) rfl (fun ls hl => ?_)
  refine lv_ldc2 (v := 31) hx hb F.2.2.2.1 (F.2.2.2.2.1 _ k_665) dX8_digestWith_9 ?_
  refine lv_lload_n hx hb dX8_digestWith_12 rfl (lv_at hl 2 rfl) ?_
  refine lv_lmul hx hb dX8_digestWith_13 ?_
  refine lv_iload hx hb dX8_digestWith_14 (lv_at hl 0 rfl) ?_
  refine lv_i2l hx hb dX8_digestWith_16 rfl ?_
  refine lv_ladd hx hb dX8_digestWith_17 ?_
  refine lv_lstore (lv' := [(6, .long (((31 : Int64) * before) + ((nI (szL (st.2.1 2) (r * 6 + c) 4 0)).toInt64))), (5, .int (nI (szL (st.2.1 2) (r * 6 + c) 4 0))), (0, .ref (ad 0)), (1, .long before), (3, .int (nI c)), (4, .int (nI r))]) hx hb dX8_digestWith_18 hl (by decide) rfl (fun ls hl => ?_)
  refine lv_iconst (v := 0) hx hb dX8_digestWith_20 (by decide) ?_
  refine lv_istore (lv' := [(8, .int 0), (6, .long (((31 : Int64) * before) + ((nI (szL (st.2.1 2) (r * 6 + c) 4 0)).toInt64))), (5, .int (nI (szL (st.2.1 2) (r * 6 + c) 4 0))), (0, .ref (ad 0)), (1, .long before), (3, .int (nI c)), (4, .int (nI r))]) hx hb dX8_digestWith_21 hl (by decide) rfl (fun ls hl => ?_)
  have cut_23 : ∀ (k : Nat) (h : Int64) (i : Nat) (s1 : ST), i + k = szL (st.2.1 2) (r * 6 + c) 4 0 → lp (dgI (r * 6 + c)) k i (h, s1) = dgL (r * 6 + c) (before, st) → ∀ (H : Heap) (locs : List Loc) (ls : Array Slot), Now G zs (XW G ad s1 ++ ex) H locs → lv_has ls 10 [(0, .ref (ad 0)), (1, .long before), (3, .int (nI c)), (4, .int (nI r)), (5, .int (nI (szL (st.2.1 2) (r * 6 + c) 4 0))), (6, .long h), (8, .int (nI i))] → W zp l ze (RM 79) zs zm zargs zbelow zmeth zc H locs 0 0 zQ (F0 zm 23 ls []) := by
    intro k
    induction k with
    | zero =>
      intro h i s1 hk hI H locs ls N hl
      refine lv_iload hx hb dX8_digestWith_23 (lv_at hl 6 rfl) ?_
      refine lv_iload hx hb dX8_digestWith_25 (lv_at hl 4 rfl) ?_
      refine cmpN_ge (a := i) (b := (szL (st.2.1 2) (r * 6 + c) 4 0)) (tgt := 72) hx hb dX8_digestWith_27 (by decide) (by omega) (by omega) (fun c_27 => ?_) (fun c_27 => ?_)
      · have c_27v := Nat.not_lt.mpr c_27
        refine lv_ldc2 (v := 31) hx hb F.2.2.2.1 (F.2.2.2.2.1 _ k_665) dX8_digestWith_72 ?_
        refine lv_lload hx hb dX8_digestWith_75 (lv_at hl 5 rfl) ?_
        refine lv_lmul hx hb dX8_digestWith_77 ?_
        refine lv_aload_n hx hb dX8_digestWith_78 rfl (lv_at hl 0 rfl) ?_
        refine lv_iload_n hx hb dX8_digestWith_79 rfl (lv_at hl 2 rfl) ?_
        refine lv_iload hx hb dX8_digestWith_80 (lv_at hl 3 rfl) ?_
        refine xV_i F N (c_X8_value l G ad ex s1 c r (by omega) (by omega)) miX8_value k_674 (by decide) hl.1 rfl (Nat.le_of_ble_eq_true rfl) (q0 := 0) (ci := 7) rfl rfl dX8_digestWith_82 (fun st_82 est_82 H locs N => ?_)
        refine lv_i2l hx hb dX8_digestWith_85 rfl ?_
        refine lv_ladd hx hb dX8_digestWith_86 ?_
        refine lv_lstore (lv' := [(6, .long (((31 : Int64) * h) + ((xVal s1 (r * 6 + c)).toInt64))), (0, .ref (ad 0)), (1, .long before), (3, .int (nI c)), (4, .int (nI r)), (5, .int (nI (szL (st.2.1 2) (r * 6 + c) 4 0))), (8, .int (nI i))]) hx hb dX8_digestWith_87 hl (by decide) rfl (fun ls hl => ?_)
        refine lv_ldc2 (v := 31) hx hb F.2.2.2.1 (F.2.2.2.2.1 _ k_665) dX8_digestWith_89 ?_
        refine lv_lload hx hb dX8_digestWith_92 (lv_at hl 0 rfl) ?_
        refine lv_lmul hx hb dX8_digestWith_94 ?_
        refine lv_aload_n hx hb dX8_digestWith_95 rfl (lv_at hl 1 rfl) ?_
        refine lv_iload_n hx hb dX8_digestWith_96 rfl (lv_at hl 3 rfl) ?_
        refine lv_iload hx hb dX8_digestWith_97 (lv_at hl 4 rfl) ?_
        refine xV_i F N (c_X8_why l G ad ex st_82 c r (by omega) (by omega)) miX8_why k_675 (by decide) hl.1 rfl (Nat.le_of_ble_eq_true rfl) (q0 := 0) (ci := 7) rfl rfl dX8_digestWith_99 (fun st_99 est_99 H locs N => ?_)
        refine lv_i2l hx hb dX8_digestWith_102 rfl ?_
        refine lv_ladd hx hb dX8_digestWith_103 ?_
        exact hret _ _ _ _ _ _ dX8_digestWith_104 (by show _ = (dgV _ _).1; rw [← hI, dgV, est_82]; rfl) (by show _ = XW G ad (dgV _ _).2 ++ ex; rw [← hI, dgV, est_99, est_82]; rfl) N
      · exfalso; omega
    | succ k ih_23 =>
      intro h i s1 hk hI H locs ls N hl
      refine lv_iload hx hb dX8_digestWith_23 (lv_at hl 6 rfl) ?_
      refine lv_iload hx hb dX8_digestWith_25 (lv_at hl 4 rfl) ?_
      refine cmpN_ge (a := i) (b := (szL (st.2.1 2) (r * 6 + c) 4 0)) (tgt := 72) hx hb dX8_digestWith_27 (by decide) (by omega) (by omega) (fun c_27 => ?_) (fun c_27 => ?_)
      · exfalso; omega
      · have c_27v := Nat.not_le.mp c_27
        refine lv_iconst (v := 0) hx hb dX8_digestWith_30 (by decide) ?_
        refine lv_istore (lv' := [(9, .int 0), (0, .ref (ad 0)), (1, .long before), (3, .int (nI c)), (4, .int (nI r)), (5, .int (nI (szL (st.2.1 2) (r * 6 + c) 4 0))), (6, .long h), (8, .int (nI i))]) hx hb dX8_digestWith_31 hl (by decide) rfl (fun ls hl => ?_)
        have cut_33 : ∀ (k2 : Nat) (h2 : Int64) (j : Nat) (s2 : ST), j + k2 = 6 → lp (dgW (r * 6 + c) i) k2 j (h2, s2) = lp (dgW (r * 6 + c) i) 6 0 (h, s1) → ∀ (H : Heap) (locs : List Loc) (ls : Array Slot), Now G zs (XW G ad s2 ++ ex) H locs → lv_has ls 10 [(0, .ref (ad 0)), (1, .long before), (3, .int (nI c)), (4, .int (nI r)), (5, .int (nI (szL (st.2.1 2) (r * 6 + c) 4 0))), (6, .long h2), (8, .int (nI i)), (9, .int (nI j))] → W zp l ze (RM 79) zs zm zargs zbelow zmeth zc H locs 0 0 zQ (F0 zm 33 ls []) := by
          intro k2
          induction k2 with
          | zero =>
            intro h2 j s2 hk2 hI2 H locs ls N hl
            refine lv_iload hx hb dX8_digestWith_33 (lv_at hl 7 rfl) ?_
            refine lv_iconst (v := 5) hx hb dX8_digestWith_35 (by decide) ?_
            refine cmpN_gt (a := j) (b := 5) (tgt := 66) hx hb dX8_digestWith_36 (by decide) (by omega) (by omega) (fun c_36 => ?_) (fun c_36 => ?_)
            · have c_36v := Nat.not_le.mpr c_36
              refine lv_iinc (v := (nI (i + 1))) (lv' := [(8, .int (nI (i + 1))), (0, .ref (ad 0)), (1, .long before), (3, .int (nI c)), (4, .int (nI r)), (5, .int (nI (szL (st.2.1 2) (r * 6 + c) 4 0))), (6, .long h2), (9, .int (nI j))]) hx hb dX8_digestWith_66 hl (k := 6) rfl (nI_1 i) (by decide) rfl (fun ls hl => ?_)
              refine lv_goto (tgt := 23) hx hb dX8_digestWith_69 (by decide) ?_
              exact ih_23 h2 (i + 1) s2 (by omega) (by rw [← hI, lp_s, dgI, ← hI2]; rfl) _ _ _ N (lv_sub hl [1, 2, 3, 4, 5, 6, 0] rfl)
            · exfalso; omega
          | succ k2 ih_33 =>
            intro h2 j s2 hk2 hI2 H locs ls N hl
            refine lv_iload hx hb dX8_digestWith_33 (lv_at hl 7 rfl) ?_
            refine lv_iconst (v := 5) hx hb dX8_digestWith_35 (by decide) ?_
            refine cmpN_gt (a := j) (b := 5) (tgt := 66) hx hb dX8_digestWith_36 (by decide) (by omega) (by omega) (fun c_36 => ?_) (fun c_36 => ?_)
            · exfalso; omega
            · have c_36v := Nat.not_lt.mp c_36
              refine lv_ldc2 (v := 31) hx hb F.2.2.2.1 (F.2.2.2.2.1 _ k_665) dX8_digestWith_39 ?_
              refine lv_lload hx hb dX8_digestWith_42 (lv_at hl 5 rfl) ?_
              refine lv_lmul hx hb dX8_digestWith_44 ?_
              refine lv_aload_n hx hb dX8_digestWith_45 rfl (lv_at hl 0 rfl) ?_
              refine lv_iload_n hx hb dX8_digestWith_46 rfl (lv_at hl 2 rfl) ?_
              refine lv_iload hx hb dX8_digestWith_47 (lv_at hl 3 rfl) ?_
              refine lv_iload hx hb dX8_digestWith_49 (lv_at hl 6 rfl) ?_
              refine lv_iload hx hb dX8_digestWith_51 (lv_at hl 7 rfl) ?_
              refine xV_i F N (c_X8_term l G ad ex s2 c r i j hc hr (by omega) (by omega)) miX8_term k_673 (by decide) hl.1 rfl (Nat.le_of_ble_eq_true rfl) (q0 := 0) (ci := 7) rfl rfl dX8_digestWith_53 (fun st_53 est_53 H locs N => ?_)
              refine lv_i2l hx hb dX8_digestWith_56 rfl ?_
              refine lv_ladd hx hb dX8_digestWith_57 ?_
              refine lv_lstore (lv' := [(6, .long (((31 : Int64) * h2) + (((xTerm s2 (r * 6 + c) i j).1).toInt64))), (0, .ref (ad 0)), (1, .long before), (3, .int (nI c)), (4, .int (nI r)), (5, .int (nI (szL (st.2.1 2) (r * 6 + c) 4 0))), (8, .int (nI i)), (9, .int (nI j))]) hx hb dX8_digestWith_58 hl (by decide) rfl (fun ls hl => ?_)
              refine lv_iinc (v := (nI (j + 1))) (lv' := [(9, .int (nI (j + 1))), (6, .long (((31 : Int64) * h2) + (((xTerm s2 (r * 6 + c) i j).1).toInt64))), (0, .ref (ad 0)), (1, .long before), (3, .int (nI c)), (4, .int (nI r)), (5, .int (nI (szL (st.2.1 2) (r * 6 + c) 4 0))), (8, .int (nI i))]) hx hb dX8_digestWith_60 hl (k := 7) rfl (nI_1 j) (by decide) rfl (fun ls hl => ?_)
              refine lv_goto (tgt := 33) hx hb dX8_digestWith_63 (by decide) ?_
              exact ih_33 (((31 : Int64) * h2) + (((xTerm s2 (r * 6 + c) i j).1).toInt64)) (j + 1) st_53 (by omega) (by rw [← hI2, lp_s, dgW, est_53]) _ _ _ N (lv_sub hl [2, 3, 4, 5, 6, 1, 7, 0] rfl)
        exact cut_33 6 h 0 s1 (by omega) rfl _ _ _ N (lv_sub hl [1, 2, 3, 4, 5, 6, 7, 0] rfl)
  exact cut_23 (szL (st.2.1 2) (r * 6 + c) 4 0) (((31 : Int64) * before) + ((nI (szL (st.2.1 2) (r * 6 + c) 4 0)).toInt64)) 0 st (by omega) rfl _ _ _ N (lv_sub hl [3, 4, 5, 6, 2, 1, 0] rfl)
set_option maxHeartbeats 4000000 in
set_option maxRecDepth 100000 in
theorem c_X8_digest (l : Launch) (G : GM) (ad : Nat → Nat) (ex : va_W) (st : ST) : XXl l G yX8_digest cX8_digest 4 (some .long) 80 [.ref (ad 0)] ad ex st ((xDigest st).1) ((xDigest st).2) := by
  refine xl_start (by decide) (Nat.le_of_ble_eq_true rfl) ?_
  intro zp ze zs zm zargs zbelow zmeth zc zQ ls F N hl hret
  have hx := F.1
  have hb := F.2.1
  have hl : lv_has ls 4 [(0, .ref (ad 0))] := hl
  refine lv_ldc2 (v := 1626) hx hb F.2.2.2.1 (F.2.2.2.2.1 _ k_664) dX8_digest_0 ?_
  refine lv_lstore_n (lv' := [(1, .long 1626), (0, .ref (ad 0))]) hx hb dX8_digest_3 rfl hl (by decide) rfl (fun ls hl => ?_)
  refine lv_iconst (v := 0) hx hb dX8_digest_4 (by decide) ?_
  refine lv_istore_n (lv' := [(3, .int 0), (1, .long 1626), (0, .ref (ad 0))]) hx hb dX8_digest_5 rfl hl (by decide) rfl (fun ls hl => ?_)
  have cut_6 : ∀ (k : Nat) (h : Int64) (i : Nat) (s1 : ST), i + k = 5 → lp dgT k i (h, s1) = lp dgT 5 0 (1626, st) → ∀ (H : Heap) (locs : List Loc) (ls : Array Slot), Now G zs (XW G ad s1 ++ ex) H locs → lv_has ls 4 [(0, .ref (ad 0)), (1, .long h), (3, .int (nI i))] → W zp l ze (RM 80) zs zm zargs zbelow zmeth zc H locs 0 0 zQ (F0 zm 6 ls []) := by
    intro k
    induction k with
    | zero =>
      intro h i s1 hk hI H locs ls N hl
      refine lv_iload_n hx hb dX8_digest_6 rfl (lv_at hl 2 rfl) ?_
      refine lv_iconst (v := 4) hx hb dX8_digest_7 (by decide) ?_
      refine cmpN_gt (a := i) (b := 4) (tgt := 30) hx hb dX8_digest_8 (by decide) (by omega) (by omega) (fun c_8 => ?_) (fun c_8 => ?_)
      · have c_8v := Nat.not_le.mpr c_8
        refine lv_iconst (v := 0) hx hb dX8_digest_30 (by decide) ?_
        refine lv_istore_n (lv' := [(3, .int 0), (0, .ref (ad 0)), (1, .long h)]) hx hb dX8_digest_31 rfl hl (by decide) rfl (fun ls hl => ?_)
        have cut_32 : ∀ (k : Nat) (h : Int64) (i : Nat) (s1 : ST), i + k = 4 → lp dgC k i (h, s1) = lp dgC 4 0 (lp dgT 5 0 (1626, st)) → ∀ (H : Heap) (locs : List Loc) (ls : Array Slot), Now G zs (XW G ad s1 ++ ex) H locs → lv_has ls 4 [(0, .ref (ad 0)), (1, .long h), (3, .int (nI i))] → W zp l ze (RM 80) zs zm zargs zbelow zmeth zc H locs 0 0 zQ (F0 zm 32 ls []) := by
          intro k
          induction k with
          | zero =>
            intro h i s1 hk hI H locs ls N hl
            refine lv_iload_n hx hb dX8_digest_32 rfl (lv_at hl 2 rfl) ?_
            refine lv_iconst (v := 3) hx hb dX8_digest_33 (by decide) ?_
            refine cmpN_gt (a := i) (b := 3) (tgt := 56) hx hb dX8_digest_34 (by decide) (by omega) (by omega) (fun c_34 => ?_) (fun c_34 => ?_)
            · have c_34v := Nat.not_le.mpr c_34
              refine lv_iconst (v := 0) hx hb dX8_digest_56 (by decide) ?_
              refine lv_istore_n (lv' := [(3, .int 0), (0, .ref (ad 0)), (1, .long h)]) hx hb dX8_digest_57 rfl hl (by decide) rfl (fun ls hl => ?_)
              have cut_58 : ∀ (k : Nat) (h : Int64) (i : Nat) (s1 : ST), i + k = 36 → lp dgCell k i (h, s1) = xDigest st → ∀ (H : Heap) (locs : List Loc) (ls : Array Slot), Now G zs (XW G ad s1 ++ ex) H locs → lv_has ls 4 [(0, .ref (ad 0)), (1, .long h), (3, .int (nI i))] → W zp l ze (RM 80) zs zm zargs zbelow zmeth zc H locs 0 0 zQ (F0 zm 58 ls []) := by
                intro k
                induction k with
                | zero =>
                  intro h i s1 hk hI H locs ls N hl
                  refine lv_iload_n hx hb dX8_digest_58 rfl (lv_at hl 2 rfl) ?_
                  refine lv_bipush (v := 36) hx hb dX8_digest_59 (by decide) ?_
                  refine cmpN_ge (a := i) (b := 36) (tgt := 84) hx hb dX8_digest_61 (by decide) (by omega) (by omega) (fun c_61 => ?_) (fun c_61 => ?_)
                  · have c_61v := Nat.not_lt.mpr c_61
                    refine lv_lload_n hx hb dX8_digest_84 rfl (lv_at hl 1 rfl) ?_
                    exact hret _ _ _ _ _ _ dX8_digest_85 (by rw [← hI]; rfl) (by rw [← hI]; rfl) N
                  · exfalso; omega
                | succ k ih_58 =>
                  intro h i s1 hk hI H locs ls N hl
                  refine lv_iload_n hx hb dX8_digest_58 rfl (lv_at hl 2 rfl) ?_
                  refine lv_bipush (v := 36) hx hb dX8_digest_59 (by decide) ?_
                  refine cmpN_ge (a := i) (b := 36) (tgt := 84) hx hb dX8_digest_61 (by decide) (by omega) (by omega) (fun c_61 => ?_) (fun c_61 => ?_)
                  · exfalso; omega
                  · have c_61v := Nat.not_le.mp c_61
                    refine lv_aload_n hx hb dX8_digest_64 rfl (lv_at hl 0 rfl) ?_
                    refine lv_lload_n hx hb dX8_digest_65 rfl (lv_at hl 1 rfl) ?_
                    refine lv_iload_n hx hb dX8_digest_66 rfl (lv_at hl 2 rfl) ?_
                    refine cS_i F N (c_X8_columnOf l G _ (nI i)) miX8_columnOf k_623 (by decide) hl.1 rfl (Nat.le_of_ble_eq_true rfl) dX8_digest_67 (fun H locs N => ?_)
                    refine toN (a := i % 6) (nI_rem (b := 6) (by omega) (by decide)) ?_
                    refine lv_iload_n hx hb dX8_digest_70 rfl (lv_at hl 2 rfl) ?_
                    refine cS_i F N (c_X8_rowOf l G _ (nI i)) miX8_rowOf k_624 (by decide) hl.1 rfl (Nat.le_of_ble_eq_true rfl) dX8_digest_71 (fun H locs N => ?_)
                    refine toN (a := i / 6) (nI_div (b := 6) (by omega) (by decide)) ?_
                    refine xV_l F N (c_X8_digestWith l G ad ex s1 h (i % 6) (i / 6) (by omega) (by omega)) miX8_digestWith k_668 (by decide) hl.1 rfl (Nat.le_of_ble_eq_true rfl) (q0 := 0) (ci := 7) rfl rfl dX8_digest_74 (fun st_74 est_74 H locs N => ?_)
                    refine lv_lstore_n (lv' := [(1, .long ((dgCell ((i / 6) * 6 + (i % 6)) (h, s1)).1)), (0, .ref (ad 0)), (3, .int (nI i))]) hx hb dX8_digest_77 rfl hl (by decide) rfl (fun ls hl => ?_)
                    refine lv_iinc (v := (nI (i + 1))) (lv' := [(3, .int (nI (i + 1))), (1, .long ((dgCell ((i / 6) * 6 + (i % 6)) (h, s1)).1)), (0, .ref (ad 0))]) hx hb dX8_digest_78 hl (k := 2) rfl (nI_1 i) (by decide) rfl (fun ls hl => ?_)
                    refine lv_goto (tgt := 58) hx hb dX8_digest_81 (by decide) ?_
                    exact ih_58 ((dgCell ((i / 6) * 6 + (i % 6)) (h, s1)).1) (i + 1) st_74 (by omega) (by rw [← hI, lp_s, est_74, show i / 6 * 6 + i % 6 = i by omega]) _ _ _ N (lv_sub hl [2, 1, 0] rfl)
              exact cut_58 36 h 0 s1 (by omega) (by unfold xDigest; rw [← hI]; rfl) _ _ _ N (lv_sub hl [1, 2, 0] rfl)
            · exfalso; omega
          | succ k ih_32 =>
            intro h i s1 hk hI H locs ls N hl
            refine lv_iload_n hx hb dX8_digest_32 rfl (lv_at hl 2 rfl) ?_
            refine lv_iconst (v := 3) hx hb dX8_digest_33 (by decide) ?_
            refine cmpN_gt (a := i) (b := 3) (tgt := 56) hx hb dX8_digest_34 (by decide) (by omega) (by omega) (fun c_34 => ?_) (fun c_34 => ?_)
            · exfalso; omega
            · have c_34v := Nat.not_lt.mp c_34
              refine lv_ldc2 (v := 31) hx hb F.2.2.2.1 (F.2.2.2.2.1 _ k_665) dX8_digest_37 ?_
              refine lv_lload_n hx hb dX8_digest_40 rfl (lv_at hl 1 rfl) ?_
              refine lv_lmul hx hb dX8_digest_41 ?_
              refine lv_aload_n hx hb dX8_digest_42 rfl (lv_at hl 0 rfl) ?_
              refine lv_iload_n hx hb dX8_digest_43 rfl (lv_at hl 2 rfl) ?_
              refine xV_i F N (c_X8_count l G ad ex s1 (nI i)) miX8_count k_667 (by decide) hl.1 rfl (Nat.le_of_ble_eq_true rfl) (q0 := 0) (ci := 7) rfl rfl dX8_digest_44 (fun st_44 est_44 H locs N => ?_)
              refine lv_i2l hx hb dX8_digest_47 rfl ?_
              refine lv_ladd hx hb dX8_digest_48 ?_
              refine lv_lstore_n (lv' := [(1, .long (((31 : Int64) * h) + (((xCount s1 (nI i)).1).toInt64))), (0, .ref (ad 0)), (3, .int (nI i))]) hx hb dX8_digest_49 rfl hl (by decide) rfl (fun ls hl => ?_)
              refine lv_iinc (v := (nI (i + 1))) (lv' := [(3, .int (nI (i + 1))), (1, .long (((31 : Int64) * h) + (((xCount s1 (nI i)).1).toInt64))), (0, .ref (ad 0))]) hx hb dX8_digest_50 hl (k := 2) rfl (nI_1 i) (by decide) rfl (fun ls hl => ?_)
              refine lv_goto (tgt := 32) hx hb dX8_digest_53 (by decide) ?_
              exact ih_32 (((31 : Int64) * h) + (((xCount s1 (nI i)).1).toInt64)) (i + 1) st_44 (by omega) (by rw [← hI, lp_s, dgC, est_44]) _ _ _ N (lv_sub hl [2, 1, 0] rfl)
        exact cut_32 4 h 0 s1 (by omega) (by rw [← hI]; rfl) _ _ _ N (lv_sub hl [1, 2, 0] rfl)
      · exfalso; omega
    | succ k ih_6 =>
      intro h i s1 hk hI H locs ls N hl
      refine lv_iload_n hx hb dX8_digest_6 rfl (lv_at hl 2 rfl) ?_
      refine lv_iconst (v := 4) hx hb dX8_digest_7 (by decide) ?_
      refine cmpN_gt (a := i) (b := 4) (tgt := 30) hx hb dX8_digest_8 (by decide) (by omega) (by omega) (fun c_8 => ?_) (fun c_8 => ?_)
      · exfalso; omega
      · have c_8v := Nat.not_lt.mp c_8
        refine lv_ldc2 (v := 31) hx hb F.2.2.2.1 (F.2.2.2.2.1 _ k_665) dX8_digest_11 ?_
        refine lv_lload_n hx hb dX8_digest_14 rfl (lv_at hl 1 rfl) ?_
        refine lv_lmul hx hb dX8_digest_15 ?_
        refine lv_aload_n hx hb dX8_digest_16 rfl (lv_at hl 0 rfl) ?_
        refine lv_iload_n hx hb dX8_digest_17 rfl (lv_at hl 2 rfl) ?_
        refine xV_i F N (c_X8_told l G ad ex s1 (nI i)) miX8_told k_666 (by decide) hl.1 rfl (Nat.le_of_ble_eq_true rfl) (q0 := 0) (ci := 7) rfl rfl dX8_digest_18 (fun st_18 est_18 H locs N => ?_)
        refine lv_i2l hx hb dX8_digest_21 rfl ?_
        refine lv_ladd hx hb dX8_digest_22 ?_
        refine lv_lstore_n (lv' := [(1, .long (((31 : Int64) * h) + (((xTold s1 (nI i)).1).toInt64))), (0, .ref (ad 0)), (3, .int (nI i))]) hx hb dX8_digest_23 rfl hl (by decide) rfl (fun ls hl => ?_)
        refine lv_iinc (v := (nI (i + 1))) (lv' := [(3, .int (nI (i + 1))), (1, .long (((31 : Int64) * h) + (((xTold s1 (nI i)).1).toInt64))), (0, .ref (ad 0))]) hx hb dX8_digest_24 hl (k := 2) rfl (nI_1 i) (by decide) rfl (fun ls hl => ?_)
        refine lv_goto (tgt := 6) hx hb dX8_digest_27 (by decide) ?_
        exact ih_6 (((31 : Int64) * h) + (((xTold s1 (nI i)).1).toInt64)) (i + 1) st_18 (by omega) (by rw [← hI, lp_s, dgT, est_18]) _ _ _ N (lv_sub hl [2, 1, 0] rfl)
  exact cut_6 5 1626 0 st (by omega) rfl _ _ _ N (lv_sub hl [2, 1, 0] rfl)
