/-! areas, moves and copies -/
abbrev arE (c r wd ht : Nat) : va_E := .inr (0, [.int (nI c), .int (nI r), .int (nI wd), .int (nI ht)])
theorem xAt_nI (c r : Nat) : xAt (nI c) (nI r) = nI (r * 6 + c) := by
  have e : nI r * 6 = nI (r * 6) := nI_mul r 6
  unfold xAt
  rw [e, nI_add]
def arC (c r wd i : Nat) : Nat := (r + i / wd) * 6 + (c + i % wd)
theorem arC_lt {c r wd ht i : Nat} (hi : i < wd * ht) (hw : 0 < wd) (hc : c + wd ≤ 6) (hr : r + ht ≤ 6) : arC c r wd i < 36 := by
  have h1 : i % wd < wd := Nat.mod_lt i hw
  have h2 : i / wd < ht := Nat.div_lt_of_lt_mul hi
  unfold arC
  omega
theorem ar_mul {wd ht : Nat} (h : wd ≤ 6) (h2 : ht ≤ 6) : wd * ht ≤ 36 := Nat.mul_le_mul h h2
def arH (t : Int32) (c r wd ht : Nat) : Bool := !decide (tLeast t 0 < nI c) && (!decide (nI (c + wd) ≤ tGreat t 0) && (!decide (tLeast t 1 < nI r) && !decide (nI (r + ht) ≤ tGreat t 1)))
def mvT (c r p q wd ht : Nat) (t : Int32) : Int32 :=
  if tRef t = false then t else if arH t c r wd ht = true then tFur t (nI p - nI c) (nI q - nI r) 0 else if arH t p q wd ht = true then 4 else t
def mvF (c r p q wd ht : Nat) (i : Nat) (x : Nat × (Nat → Int32)) : Nat × (Nat → Int32) :=
  (if mvT c r p q wd ht (x.2 i) = x.2 i then x.1 else if mvT c r p q wd ht (x.2 i) = 4 then x.1 + 1 else x.1, upd x.2 i (mvT c r p q wd ht (x.2 i)))
def mvG (st : ST) (c r p q wd ht : Nat) : Nat → Int32 := lp (fun i g => cpT (opH st) g (arC c r wd i) (arC p q wd i)) (wd * ht) 0 (lp (fun i g => dropF (arC c r wd i) g) (wd * ht) 0 (st.2.1 2))
def mvR (st : ST) (c r p q wd ht : Nat) : Nat × (Nat → Int32) := lp (mvF c r p q wd ht) 144 0 (0, mvG st c r p q wd ht)
def cyF (h : Nat → Int32) (c r p q wd : Nat) (i : Nat) (x : Nat × (Nat → Int32)) : Nat × (Nat → Int32) :=
  (x.1 + (lp (spF (arC p q wd i) (nI p - nI c) (nI q - nI r)) 4 0 (0, cpT h x.2 (arC c r wd i) (arC p q wd i))).1, (lp (spF (arC p q wd i) (nI p - nI c) (nI q - nI r)) 4 0 (0, cpT h x.2 (arC c r wd i) (arC p q wd i))).2)
def cyR (st : ST) (c r p q wd ht : Nat) : Nat × (Nat → Int32) := lp (cyF (opH st) c r p q wd) (wd * ht) 0 (0, st.2.1 2)
section AREA
variable {p : Program} {l : Launch} {e : Env} {R : Room} {cells slots : Nat} {s : State} {m : MethodId} {args : Array Value} {below : List Frame} {meth : Method} {c : Code} {H : Heap} {locs : List Loc} {Q : State → Prop} {cc : ByteArray} {nL : Nat} {own : String} {G : GM} {pc : Nat} {ls : Array Slot} {rest : List Value} {idx : Nat} {w0 : va_W}
theorem ga {q a c0 r0 wd ht : Nat} (F : FX p s m args c cc nL own G) (N : Now G s w0 H locs) (hq : w0[q]? = some (a, arE c0 r0 wd ht)) (j : Nat) (hj : j < 4) (hs1 : (TX0 j).1 = RX0) {v : Value} (hl : Cond.fieldLink own idx RX0 (TX0 j).2.1 (TX0 j).2.2.1 ∈ goodT) (hv : [Value.int (nI c0), .int (nI r0), .int (nI wd), .int (nI ht)][j]? = some v) (hd : decode cc pc = .ok (.getfield idx, 3)) (kk : W p l e R s m args below meth c H locs cells slots Q (F0 m (pc + 3) ls (v :: rest))) : W p l e R s m args below meth c H locs cells slots Q (F0 m pc ls (.ref a :: rest)) :=
  va_get (D := G.1) (ci := 0) (C := RX0) (T := TX0) (N := 4) F.1 F.2.1 F.2.2.2.2.1 inGX0 F.2.2.2.1 F.2.2.2.2.2.1 N.1 q hq rfl j hj (F.2.2.2.2.1 _ hl) (fun _ h => by rw [← hs1]; exact h) hv hd kk
end AREA
set_option maxHeartbeats 4000000 in
set_option maxRecDepth 100000 in
theorem c_X0_size (l : Launch) (G : GM) (w : va_W) (q : Nat) (a : Nat) (c : Nat) (r : Nat) (wd : Nat) (ht : Nat) (hq : w[q]? = some (a, arE c r wd ht)) : XCi l G yX0_size cX0_size 1 (some .int) 0 [.ref a] (w) (nI (wd * ht)) (w) := by
  refine xi_start (by decide) rfl (Nat.le_of_ble_eq_true rfl) ?_
  intro zp ze zs zm zargs zbelow zmeth zc zQ ls F N hl hret
  have hx := F.1
  have hb := F.2.1
  have hl : lv_has ls 1 [(0, .ref a)] := hl
  refine lv_aload_n hx hb dX0_size_0 rfl (lv_at hl 0 rfl) ?_
  refine ga (q := q) (a := a) (c0 := c) (r0 := r) (wd := wd) (ht := ht) F N hq 2 (by decide) rfl k_476 rfl dX0_size_1 ?_
  refine lv_aload_n hx hb dX0_size_4 rfl (lv_at hl 0 rfl) ?_
  refine ga (q := q) (a := a) (c0 := c) (r0 := r) (wd := wd) (ht := ht) F N hq 3 (by decide) rfl k_477 rfl dX0_size_5 ?_
  refine imulN (a := wd) (b := ht) hx hb dX0_size_8 ?_
  exact hret _ _ _ _ _ _ dX0_size_9 (by first | rfl | (simp [bI])) (by first | rfl | (simp [bI])) N
set_option maxHeartbeats 4000000 in
set_option maxRecDepth 100000 in
theorem c_X0_cell (l : Launch) (G : GM) (w : va_W) (i : Nat) (q : Nat) (a : Nat) (c : Nat) (r : Nat) (wd : Nat) (ht : Nat) (hq : w[q]? = some (a, arE c r wd ht)) (hi : i < wd * ht) (hw : 0 < wd) (hcw : c + wd ≤ 6) (hrh : r + ht ≤ 6) : XCi l G yX0_cell cX0_cell 2 (some .int) 1 [.ref a, .int (nI i)] (w) (nI (arC c r wd i)) (w) := by
  refine xi_start (by decide) rfl (Nat.le_of_ble_eq_true rfl) ?_
  intro zp ze zs zm zargs zbelow zmeth zc zQ ls F N hl hret
  have hx := F.1
  have hb := F.2.1
  have hl : lv_has ls 2 [(0, .ref a), (1, .int (nI i))] := hl
  have hm : wd * ht ≤ 36 := ar_mul (by omega) (by omega)
  refine lv_iload_n hx hb dX0_cell_0 rfl (lv_at hl 1 rfl) ?_
  refine ifN_lt (a := i) (tgt := 20) hx hb dX0_cell_1 (by decide) (by omega) ?_
  refine lv_iload_n hx hb dX0_cell_4 rfl (lv_at hl 1 rfl) ?_
  refine lv_aload_n hx hb dX0_cell_5 rfl (lv_at hl 0 rfl) ?_
  refine cV_i F N (c_X0_size l G _ q a c r wd ht hq) miX0_size k_499 (by decide) hl.1 rfl (Nat.le_of_ble_eq_true rfl) (q0 := q) (ci := 0) hq rfl dX0_cell_6 (fun H locs N => ?_)
  refine cmpN_ge (a := i) (b := (wd * ht)) (tgt := 20) hx hb dX0_cell_9 (by decide) (by omega) (by omega) (fun c_9 => ?_) (fun c_9 => ?_)
  · exfalso; omega
  · have c_9v := Nat.not_le.mp c_9
    refine lv_aload_n hx hb dX0_cell_12 rfl (lv_at hl 0 rfl) ?_
    refine ga (q := q) (a := a) (c0 := c) (r0 := r) (wd := wd) (ht := ht) F N hq 2 (by decide) rfl k_476 rfl dX0_cell_13 ?_
    refine lv_iconst (v := 1) hx hb dX0_cell_16 (by decide) ?_
    refine cmpN_ge (a := wd) (b := 1) (tgt := 22) hx hb dX0_cell_17 (by decide) (by omega) (by omega) (fun c_17 => ?_) (fun c_17 => ?_)
    · have c_17v := Nat.not_lt.mpr c_17
      refine lv_aload_n hx hb dX0_cell_22 rfl (lv_at hl 0 rfl) ?_
      refine ga (q := q) (a := a) (c0 := c) (r0 := r) (wd := wd) (ht := ht) F N hq 0 (by decide) rfl k_472 rfl dX0_cell_23 ?_
      refine lv_iload_n hx hb dX0_cell_26 rfl (lv_at hl 1 rfl) ?_
      refine lv_aload_n hx hb dX0_cell_27 rfl (lv_at hl 0 rfl) ?_
      refine ga (q := q) (a := a) (c0 := c) (r0 := r) (wd := wd) (ht := ht) F N hq 2 (by decide) rfl k_476 rfl dX0_cell_28 ?_
      refine iremN (a := i) (b := wd) hx hb dX0_cell_31 (by omega) (by omega) (by omega) ?_
      refine iaddN (a := c) (b := (i % wd)) hx hb dX0_cell_32 ?_
      refine lv_aload_n hx hb dX0_cell_33 rfl (lv_at hl 0 rfl) ?_
      refine ga (q := q) (a := a) (c0 := c) (r0 := r) (wd := wd) (ht := ht) F N hq 1 (by decide) rfl k_474 rfl dX0_cell_34 ?_
      refine lv_iload_n hx hb dX0_cell_37 rfl (lv_at hl 1 rfl) ?_
      refine lv_aload_n hx hb dX0_cell_38 rfl (lv_at hl 0 rfl) ?_
      refine ga (q := q) (a := a) (c0 := c) (r0 := r) (wd := wd) (ht := ht) F N hq 2 (by decide) rfl k_476 rfl dX0_cell_39 ?_
      refine idivN (a := i) (b := wd) hx hb dX0_cell_42 (by omega) (by omega) (by omega) ?_
      refine iaddN (a := r) (b := (i / wd)) hx hb dX0_cell_43 ?_
      refine cN_i F N (c_X8_cellAt l G _ (nI (c + (i % wd))) (nI (r + (i / wd)))) miX8_cellAt k_500 (by decide) hl.1 rfl (Nat.le_of_ble_eq_true rfl) dX0_cell_44 (fun H locs N => ?_)
      refine toN (a := (r + (i / wd)) * 6 + (c + (i % wd))) (xAt_nI (c + (i % wd)) (r + (i / wd))) ?_
      exact hret _ _ _ _ _ _ dX0_cell_47 (by rfl) (by rfl) N
    · exfalso; omega
set_option maxHeartbeats 4000000 in
set_option maxRecDepth 100000 in
theorem c_X0_holds (l : Launch) (G : GM) (w : va_W) (t : Int32) (q : Nat) (a : Nat) (c : Nat) (r : Nat) (wd : Nat) (ht : Nat) (hq : w[q]? = some (a, arE c r wd ht)) : XCi l G yX0_holds cX0_holds 2 (some .boolean) 2 [.ref a, .int t] (w) (bI (arH t c r wd ht)) (w) := by
  refine xi_start (by decide) (nar_bI _) (Nat.le_of_ble_eq_true rfl) ?_
  intro zp ze zs zm zargs zbelow zmeth zc zQ ls F N hl hret
  have hx := F.1
  have hb := F.2.1
  have hl : lv_has ls 2 [(0, .ref a), (1, .int t)] := hl
  refine lv_iload_n hx hb dX0_holds_0 rfl (lv_at hl 1 rfl) ?_
  refine lv_iconst (v := 0) hx hb dX0_holds_1 (by decide) ?_
  refine cS_i F N (c_X5_least l G _ t 0) miX5_least k_510 (by decide) hl.1 rfl (Nat.le_of_ble_eq_true rfl) dX0_holds_2 (fun H locs N => ?_)
  refine lv_aload_n hx hb dX0_holds_5 rfl (lv_at hl 0 rfl) ?_
  refine ga (q := q) (a := a) (c0 := c) (r0 := r) (wd := wd) (ht := ht) F N hq 0 (by decide) rfl k_472 rfl dX0_holds_6 ?_
  refine lv_icmp_lt (tgt := 62) hx hb dX0_holds_9 (by decide) (fun c_9 => ?_) (fun c_9 => ?_)
  · have c_9v := lt_nle c_9
    refine lv_iconst (v := 0) hx hb dX0_holds_62 (by decide) ?_
    exact hret _ _ _ _ _ _ dX0_holds_63 (by first | rfl | (simp [bI, arH, c_9, c_9v])) (by first | rfl | (simp [bI, arH, c_9, c_9v])) N
  · have c_9v := nlt_le c_9
    refine lv_iload_n hx hb dX0_holds_12 rfl (lv_at hl 1 rfl) ?_
    refine lv_iconst (v := 0) hx hb dX0_holds_13 (by decide) ?_
    refine cS_i F N (c_X5_greatest l G _ t 0) miX5_greatest k_511 (by decide) hl.1 rfl (Nat.le_of_ble_eq_true rfl) dX0_holds_14 (fun H locs N => ?_)
    refine lv_aload_n hx hb dX0_holds_17 rfl (lv_at hl 0 rfl) ?_
    refine ga (q := q) (a := a) (c0 := c) (r0 := r) (wd := wd) (ht := ht) F N hq 0 (by decide) rfl k_472 rfl dX0_holds_18 ?_
    refine lv_aload_n hx hb dX0_holds_21 rfl (lv_at hl 0 rfl) ?_
    refine ga (q := q) (a := a) (c0 := c) (r0 := r) (wd := wd) (ht := ht) F N hq 2 (by decide) rfl k_476 rfl dX0_holds_22 ?_
    refine iaddN (a := c) (b := wd) hx hb dX0_holds_25 ?_
    refine lv_icmp_ge (tgt := 62) hx hb dX0_holds_26 (by decide) (fun c_26 => ?_) (fun c_26 => ?_)
    · have c_26v := le_nlt c_26
      refine lv_iconst (v := 0) hx hb dX0_holds_62 (by decide) ?_
      exact hret _ _ _ _ _ _ dX0_holds_63 (by first | rfl | (simp [bI, arH, c_9, c_9v, c_26, c_26v])) (by first | rfl | (simp [bI, arH, c_9, c_9v, c_26, c_26v])) N
    · have c_26v := nle_lt c_26
      refine lv_iload_n hx hb dX0_holds_29 rfl (lv_at hl 1 rfl) ?_
      refine lv_iconst (v := 1) hx hb dX0_holds_30 (by decide) ?_
      refine cS_i F N (c_X5_least l G _ t 1) miX5_least k_510 (by decide) hl.1 rfl (Nat.le_of_ble_eq_true rfl) dX0_holds_31 (fun H locs N => ?_)
      refine lv_aload_n hx hb dX0_holds_34 rfl (lv_at hl 0 rfl) ?_
      refine ga (q := q) (a := a) (c0 := c) (r0 := r) (wd := wd) (ht := ht) F N hq 1 (by decide) rfl k_474 rfl dX0_holds_35 ?_
      refine lv_icmp_lt (tgt := 62) hx hb dX0_holds_38 (by decide) (fun c_38 => ?_) (fun c_38 => ?_)
      · have c_38v := lt_nle c_38
        refine lv_iconst (v := 0) hx hb dX0_holds_62 (by decide) ?_
        exact hret _ _ _ _ _ _ dX0_holds_63 (by first | rfl | (simp [bI, arH, c_9, c_9v, c_26, c_26v, c_38, c_38v])) (by first | rfl | (simp [bI, arH, c_9, c_9v, c_26, c_26v, c_38, c_38v])) N
      · have c_38v := nlt_le c_38
        refine lv_iload_n hx hb dX0_holds_41 rfl (lv_at hl 1 rfl) ?_
        refine lv_iconst (v := 1) hx hb dX0_holds_42 (by decide) ?_
        refine cS_i F N (c_X5_greatest l G _ t 1) miX5_greatest k_511 (by decide) hl.1 rfl (Nat.le_of_ble_eq_true rfl) dX0_holds_43 (fun H locs N => ?_)
        refine lv_aload_n hx hb dX0_holds_46 rfl (lv_at hl 0 rfl) ?_
        refine ga (q := q) (a := a) (c0 := c) (r0 := r) (wd := wd) (ht := ht) F N hq 1 (by decide) rfl k_474 rfl dX0_holds_47 ?_
        refine lv_aload_n hx hb dX0_holds_50 rfl (lv_at hl 0 rfl) ?_
        refine ga (q := q) (a := a) (c0 := c) (r0 := r) (wd := wd) (ht := ht) F N hq 3 (by decide) rfl k_477 rfl dX0_holds_51 ?_
        refine iaddN (a := r) (b := ht) hx hb dX0_holds_54 ?_
        refine lv_icmp_ge (tgt := 62) hx hb dX0_holds_55 (by decide) (fun c_55 => ?_) (fun c_55 => ?_)
        · have c_55v := le_nlt c_55
          refine lv_iconst (v := 0) hx hb dX0_holds_62 (by decide) ?_
          exact hret _ _ _ _ _ _ dX0_holds_63 (by first | rfl | (simp [bI, arH, c_9, c_9v, c_26, c_26v, c_38, c_38v, c_55, c_55v])) (by first | rfl | (simp [bI, arH, c_9, c_9v, c_26, c_26v, c_38, c_38v, c_55, c_55v])) N
        · have c_55v := nle_lt c_55
          refine lv_iconst (v := 1) hx hb dX0_holds_58 (by decide) ?_
          refine lv_goto (tgt := 63) hx hb dX0_holds_59 (by decide) ?_
          exact hret _ _ _ _ _ _ dX0_holds_63 (by first | rfl | (simp [bI, arH, c_9, c_9v, c_26, c_26v, c_38, c_38v, c_55, c_55v])) (by first | rfl | (simp [bI, arH, c_9, c_9v, c_26, c_26v, c_38, c_38v, c_55, c_55v])) N
set_option maxHeartbeats 4000000 in
set_option maxRecDepth 100000 in
theorem c_X4_whenMoved (l : Launch) (G : GM) (w : va_W) (t : Int32) (a1 : Nat) (a2 : Nat) (q1 : Nat) (q2 : Nat) (c : Nat) (r : Nat) (p : Nat) (q : Nat) (wd : Nat) (ht : Nat) (hq1 : w[q1]? = some (a1, arE c r wd ht)) (hq2 : w[q2]? = some (a2, arE p q wd ht)) : XCi l G yX4_whenMoved cX4_whenMoved 4 (some .int) 4 [.int t, .ref a1, .ref a2] (w) (mvT c r p q wd ht t) (w) := by
  refine xi_start (by decide) rfl (Nat.le_of_ble_eq_true rfl) ?_
  intro zp ze zs zm zargs zbelow zmeth zc zQ ls F N hl hret
  have hx := F.1
  have hb := F.2.1
  have hl : lv_has ls 4 [(0, .int t), (1, .ref a1), (2, .ref a2)] := hl
  refine lv_iload_n hx hb dX4_whenMoved_0 rfl (lv_at hl 0 rfl) ?_
  refine cS_i F N (c_X5_refers l G _ t) miX5_refers k_505 (by decide) hl.1 rfl (Nat.le_of_ble_eq_true rfl) dX4_whenMoved_1 (fun H locs N => ?_)
  refine ifB_ne (tgt := 9) hx hb dX4_whenMoved_4 (by decide) (fun c_4 => ?_) (fun c_4 => ?_)
  · refine lv_aload_n hx hb dX4_whenMoved_9 rfl (lv_at hl 1 rfl) ?_
    refine lv_iload_n hx hb dX4_whenMoved_10 rfl (lv_at hl 0 rfl) ?_
    refine cV_i F N (c_X0_holds l G _ t q1 a1 c r wd ht hq1) miX0_holds k_506 (by decide) hl.1 rfl (Nat.le_of_ble_eq_true rfl) (q0 := q1) (ci := 0) hq1 rfl dX4_whenMoved_11 (fun H locs N => ?_)
    refine ifB_eq (tgt := 43) hx hb dX4_whenMoved_14 (by decide) (fun c_14 => ?_) (fun c_14 => ?_)
    · refine lv_aload_n hx hb dX4_whenMoved_43 rfl (lv_at hl 2 rfl) ?_
      refine lv_iload_n hx hb dX4_whenMoved_44 rfl (lv_at hl 0 rfl) ?_
      refine cV_i F N (c_X0_holds l G _ t q2 a2 p q wd ht hq2) miX0_holds k_506 (by decide) hl.1 rfl (Nat.le_of_ble_eq_true rfl) (q0 := q2) (ci := 0) hq2 rfl dX4_whenMoved_45 (fun H locs N => ?_)
      refine ifB_eq (tgt := 55) hx hb dX4_whenMoved_48 (by decide) (fun c_48 => ?_) (fun c_48 => ?_)
      · refine lv_iload_n hx hb dX4_whenMoved_55 rfl (lv_at hl 0 rfl) ?_
        exact hret _ _ _ _ _ _ dX4_whenMoved_56 (by first | rfl | (simp [bI, mvT, c_4, c_14, c_48])) (by first | rfl | (simp [bI, mvT, c_4, c_14, c_48])) N
      · refine lv_iconst (v := 4) hx hb dX4_whenMoved_51 (by decide) ?_
        refine lv_goto (tgt := 56) hx hb dX4_whenMoved_52 (by decide) ?_
        exact hret _ _ _ _ _ _ dX4_whenMoved_56 (by first | rfl | (simp [bI, mvT, c_4, c_14, c_48])) (by first | rfl | (simp [bI, mvT, c_4, c_14, c_48])) N
    · refine lv_aload_n hx hb dX4_whenMoved_17 rfl (lv_at hl 2 rfl) ?_
      refine ga (q := q2) (a := a2) (c0 := p) (r0 := q) (wd := wd) (ht := ht) F N hq2 0 (by decide) rfl k_473 rfl dX4_whenMoved_18 ?_
      refine lv_aload_n hx hb dX4_whenMoved_21 rfl (lv_at hl 1 rfl) ?_
      refine ga (q := q1) (a := a1) (c0 := c) (r0 := r) (wd := wd) (ht := ht) F N hq1 0 (by decide) rfl k_473 rfl dX4_whenMoved_22 ?_
      refine lv_isub hx hb dX4_whenMoved_25 ?_
      refine lv_istore_n (lv' := [(3, .int ((nI p) - (nI c))), (0, .int t), (1, .ref a1), (2, .ref a2)]) hx hb dX4_whenMoved_26 rfl hl (by decide) rfl (fun ls hl => ?_)
      refine lv_iload_n hx hb dX4_whenMoved_27 rfl (lv_at hl 1 rfl) ?_
      refine lv_iload_n hx hb dX4_whenMoved_28 rfl (lv_at hl 0 rfl) ?_
      refine lv_aload_n hx hb dX4_whenMoved_29 rfl (lv_at hl 3 rfl) ?_
      refine ga (q := q2) (a := a2) (c0 := p) (r0 := q) (wd := wd) (ht := ht) F N hq2 1 (by decide) rfl k_475 rfl dX4_whenMoved_30 ?_
      refine lv_aload_n hx hb dX4_whenMoved_33 rfl (lv_at hl 2 rfl) ?_
      refine ga (q := q1) (a := a1) (c0 := c) (r0 := r) (wd := wd) (ht := ht) F N hq1 1 (by decide) rfl k_475 rfl dX4_whenMoved_34 ?_
      refine lv_isub hx hb dX4_whenMoved_37 ?_
      refine lv_iconst (v := 0) hx hb dX4_whenMoved_38 (by decide) ?_
      refine cS_i F N (c_X5_further l G _ t ((nI p) - (nI c)) ((nI q) - (nI r)) 0) miX5_further k_512 (by decide) hl.1 rfl (Nat.le_of_ble_eq_true rfl) dX4_whenMoved_39 (fun H locs N => ?_)
      exact hret _ _ _ _ _ _ dX4_whenMoved_42 (by first | rfl | (simp [bI, mvT, c_4, c_14])) (by first | rfl | (simp [bI, mvT, c_4, c_14])) N
  · refine lv_iload_n hx hb dX4_whenMoved_7 rfl (lv_at hl 0 rfl) ?_
    exact hret _ _ _ _ _ _ dX4_whenMoved_8 (by first | rfl | (simp [bI, mvT, c_4])) (by first | rfl | (simp [bI, mvT, c_4])) N
set_option maxHeartbeats 4000000 in
set_option maxRecDepth 100000 in
theorem c_X4_moveArea (l : Launch) (G : GM) (ad : Nat → Nat) (ex : va_W) (st : ST) (a1 : Nat) (a2 : Nat) (c : Nat) (r : Nat) (p : Nat) (q : Nat) (wd : Nat) (ht : Nat) (hw : 0 < wd) (hcw : c + wd ≤ 6) (hrh : r + ht ≤ 6) (hpw : p + wd ≤ 6) (hqh : q + ht ≤ 6) : XXi l G yX4_moveArea cX4_moveArea 6 (some .int) 5 [.ref (ad 3), .ref a1, .ref a2] ad ((a1, arE c r wd ht) :: (a2, arE p q wd ht) :: ex) st (nI ((mvR st c r p q wd ht).1)) (sA (sA st 3 (opH st)) 2 (mvR st c r p q wd ht).2) := by
  refine xi_start (by decide) rfl (Nat.le_of_ble_eq_true rfl) ?_
  intro zp ze zs zm zargs zbelow zmeth zc zQ ls F N hl hret
  have hx := F.1
  have hb := F.2.1
  have hl : lv_has ls 6 [(0, .ref (ad 3)), (1, .ref a1), (2, .ref a2)] := hl
  have hm : wd * ht ≤ 36 := ar_mul (by omega) (by omega)
  refine lv_aload_n hx hb dX4_moveArea_0 rfl (lv_at hl 0 rfl) ?_
  refine xV_v F N (c_X4_lookAhead l G ad ((a1, arE c r wd ht) :: (a2, arE p q wd ht) :: ex) st ) miX4_lookAhead k_409 (by decide) hl.1 rfl (Nat.le_of_ble_eq_true rfl) (q0 := 3) (ci := 4) rfl rfl dX4_moveArea_1 (fun st_1 est_1 H locs N => ?_)
  refine lv_iconst (v := 0) hx hb dX4_moveArea_4 (by decide) ?_
  refine lv_istore_n (lv' := [(3, .int 0), (0, .ref (ad 3)), (1, .ref a1), (2, .ref a2)]) hx hb dX4_moveArea_5 rfl hl (by decide) rfl (fun ls hl => ?_)
  have cut_6 : ∀ (k : Nat) (i : Nat) (g : Nat → Int32) (s1 : ST), i + k = wd * ht → s1 = sA (sA st 3 (opH st)) 2 g → lp (fun i g => dropF (arC c r wd i) g) k i g = lp (fun i g => dropF (arC c r wd i) g) (wd * ht) 0 (st.2.1 2) → ∀ (H : Heap) (locs : List Loc) (ls : Array Slot), Now G zs (XW G ad s1 ++ ((a1, arE c r wd ht) :: (a2, arE p q wd ht) :: ex)) H locs → lv_has ls 6 [(0, .ref (ad 3)), (1, .ref a1), (2, .ref a2), (3, .int (nI i))] → W zp l ze (RM 5) zs zm zargs zbelow zmeth zc H locs 0 0 zQ (F0 zm 6 ls []) := by
    intro k
    induction k with
    | zero =>
      intro i g s1 hk hs hI H locs ls N hl
      refine lv_iload_n hx hb dX4_moveArea_6 rfl (lv_at hl 3 rfl) ?_
      refine lv_aload_n hx hb dX4_moveArea_7 rfl (lv_at hl 1 rfl) ?_
      refine cV_i F N (c_X0_size l G _ 18 a1 c r wd ht rfl) miX0_size k_491 (by decide) hl.1 rfl (Nat.le_of_ble_eq_true rfl) (q0 := 18) (ci := 0) rfl rfl dX4_moveArea_8 (fun H locs N => ?_)
      refine cmpN_ge (a := i) (b := (wd * ht)) (tgt := 29) hx hb dX4_moveArea_11 (by decide) (by omega) (by omega) (fun c_11 => ?_) (fun c_11 => ?_)
      · have c_11v := Nat.not_lt.mpr c_11
        refine lv_iconst (v := 0) hx hb dX4_moveArea_29 (by decide) ?_
        refine lv_istore_n (lv' := [(3, .int 0), (0, .ref (ad 3)), (1, .ref a1), (2, .ref a2)]) hx hb dX4_moveArea_30 rfl hl (by decide) rfl (fun ls hl => ?_)
        have cut_31 : ∀ (k : Nat) (i : Nat) (g : Nat → Int32) (s1 : ST), i + k = wd * ht → s1 = sA (sA st 3 (opH st)) 2 g → lp (fun i g => cpT (opH st) g (arC c r wd i) (arC p q wd i)) k i g = mvG st c r p q wd ht → ∀ (H : Heap) (locs : List Loc) (ls : Array Slot), Now G zs (XW G ad s1 ++ ((a1, arE c r wd ht) :: (a2, arE p q wd ht) :: ex)) H locs → lv_has ls 6 [(0, .ref (ad 3)), (1, .ref a1), (2, .ref a2), (3, .int (nI i))] → W zp l ze (RM 5) zs zm zargs zbelow zmeth zc H locs 0 0 zQ (F0 zm 31 ls []) := by
          intro k
          induction k with
          | zero =>
            intro i g s1 hk hs hI H locs ls N hl
            refine lv_iload_n hx hb dX4_moveArea_31 rfl (lv_at hl 3 rfl) ?_
            refine lv_aload_n hx hb dX4_moveArea_32 rfl (lv_at hl 1 rfl) ?_
            refine cV_i F N (c_X0_size l G _ 18 a1 c r wd ht rfl) miX0_size k_491 (by decide) hl.1 rfl (Nat.le_of_ble_eq_true rfl) (q0 := 18) (ci := 0) rfl rfl dX4_moveArea_33 (fun H locs N => ?_)
            refine cmpN_ge (a := i) (b := (wd * ht)) (tgt := 59) hx hb dX4_moveArea_36 (by decide) (by omega) (by omega) (fun c_36 => ?_) (fun c_36 => ?_)
            · have c_36v := Nat.not_lt.mpr c_36
              refine lv_iconst (v := 0) hx hb dX4_moveArea_59 (by decide) ?_
              refine lv_istore_n (lv' := [(3, .int 0), (0, .ref (ad 3)), (1, .ref a1), (2, .ref a2)]) hx hb dX4_moveArea_60 rfl hl (by decide) rfl (fun ls hl => ?_)
              refine lv_iconst (v := 0) hx hb dX4_moveArea_61 (by decide) ?_
              refine lv_istore (lv' := [(4, .int 0), (3, .int 0), (0, .ref (ad 3)), (1, .ref a1), (2, .ref a2)]) hx hb dX4_moveArea_62 hl (by decide) rfl (fun ls hl => ?_)
              have cut_64 : ∀ (k : Nat) (n : Nat) (i : Nat) (g : Nat → Int32) (s1 : ST), i + k = 144 → s1 = sA (sA st 3 (opH st)) 2 g → lp (mvF c r p q wd ht) k i (n, g) = mvR st c r p q wd ht → ∀ (H : Heap) (locs : List Loc) (ls : Array Slot), Now G zs (XW G ad s1 ++ ((a1, arE c r wd ht) :: (a2, arE p q wd ht) :: ex)) H locs → lv_has ls 6 [(0, .ref (ad 3)), (1, .ref a1), (2, .ref a2), (3, .int (nI n)), (4, .int (nI i))] → W zp l ze (RM 5) zs zm zargs zbelow zmeth zc H locs 0 0 zQ (F0 zm 64 ls []) := by
                intro k
                induction k with
                | zero =>
                  intro n i g s1 hk hs hI H locs ls N hl
                  refine lv_iload hx hb dX4_moveArea_64 (lv_at hl 4 rfl) ?_
                  refine lv_sipush (v := 144) hx hb dX4_moveArea_66 (by decide) ?_
                  refine cmpN_ge (a := i) (b := 144) (tgt := 122) hx hb dX4_moveArea_69 (by decide) (by omega) (by omega) (fun c_69 => ?_) (fun c_69 => ?_)
                  · have c_69v := Nat.not_lt.mpr c_69
                    refine lv_iload_n hx hb dX4_moveArea_122 rfl (lv_at hl 3 rfl) ?_
                    exact hret _ _ _ _ _ _ dX4_moveArea_123 (by rw [← hI]; rfl) (by rw [hs, ← hI]; rfl) N
                  · exfalso; omega
                | succ k ih_64 =>
                  intro n i g s1 hk hs hI H locs ls N hl
                  refine lv_iload hx hb dX4_moveArea_64 (lv_at hl 4 rfl) ?_
                  refine lv_sipush (v := 144) hx hb dX4_moveArea_66 (by decide) ?_
                  refine cmpN_ge (a := i) (b := 144) (tgt := 122) hx hb dX4_moveArea_69 (by decide) (by omega) (by omega) (fun c_69 => ?_) (fun c_69 => ?_)
                  · exfalso; omega
                  · have c_69v := Nat.not_le.mp c_69
                    refine lv_aload_n hx hb dX4_moveArea_72 rfl (lv_at hl 0 rfl) ?_
                    refine gx_3_slots F N k_122 dX4_moveArea_73 ?_
                    refine lv_iload hx hb dX4_moveArea_76 (lv_at hl 4 rfl) ?_
                    refine axN_2 (j := i) F N (by omega) dX4_moveArea_78 ?_
                    refine toI (y := g i) (by rw [hs]; rfl) ?_
                    refine lv_aload_n hx hb dX4_moveArea_79 rfl (lv_at hl 1 rfl) ?_
                    refine lv_aload_n hx hb dX4_moveArea_80 rfl (lv_at hl 2 rfl) ?_
                    refine cS_i F N (c_X4_whenMoved l G _ (g i) a1 a2 18 19 c r p q wd ht rfl rfl) miX4_whenMoved k_502 (by decide) hl.1 rfl (Nat.le_of_ble_eq_true rfl) dX4_moveArea_81 (fun H locs N => ?_)
                    refine lv_istore (lv' := [(5, .int (mvT c r p q wd ht (g i))), (0, .ref (ad 3)), (1, .ref a1), (2, .ref a2), (3, .int (nI n)), (4, .int (nI i))]) hx hb dX4_moveArea_84 hl (by decide) rfl (fun ls hl => ?_)
                    refine lv_iload hx hb dX4_moveArea_86 (lv_at hl 0 rfl) ?_
                    refine lv_aload_n hx hb dX4_moveArea_88 rfl (lv_at hl 1 rfl) ?_
                    refine gx_3_slots F N k_122 dX4_moveArea_89 ?_
                    refine lv_iload hx hb dX4_moveArea_92 (lv_at hl 5 rfl) ?_
                    refine axN_2 (j := i) F N (by omega) dX4_moveArea_94 ?_
                    refine toI (y := g i) (by rw [hs]; rfl) ?_
                    refine lv_icmp_eq (tgt := 107) hx hb dX4_moveArea_95 (by decide) (fun c_95 => ?_) (fun c_95 => ?_)
                    · refine lv_aload_n hx hb dX4_moveArea_107 rfl (lv_at hl 1 rfl) ?_
                      refine gx_3_slots F N k_122 dX4_moveArea_108 ?_
                      refine lv_iload hx hb dX4_moveArea_111 (lv_at hl 5 rfl) ?_
                      refine lv_iload hx hb dX4_moveArea_113 (lv_at hl 0 rfl) ?_
                      refine sxN_2 (j := i) F N (by omega) dX4_moveArea_115 (fun st_115 est_115 H locs N => ?_)
                      refine lv_iinc (v := (nI (i + 1))) (lv' := [(4, .int (nI (i + 1))), (5, .int (mvT c r p q wd ht (g i))), (0, .ref (ad 3)), (1, .ref a1), (2, .ref a2), (3, .int (nI n))]) hx hb dX4_moveArea_116 hl (k := 5) rfl (nI_1 i) (by decide) rfl (fun ls hl => ?_)
                      refine lv_goto (tgt := 64) hx hb dX4_moveArea_119 (by decide) ?_
                      exact ih_64 n (i + 1) (upd g i (mvT c r p q wd ht (g i))) st_115 (by omega) (by rw [est_115, hs]; simp [sA_21, sA_sA]) (by rw [← hI, lp_s, mvF]; dsimp only; first | rw [if_pos c_95] | rw [if_neg c_95, if_pos c_101] | rw [if_neg c_95, if_neg c_101]) _ _ _ N (lv_sub hl [2, 3, 4, 5, 0] rfl)
                    · refine lv_iload hx hb dX4_moveArea_98 (lv_at hl 0 rfl) ?_
                      refine lv_iconst (v := 4) hx hb dX4_moveArea_100 (by decide) ?_
                      refine lv_icmp_ne (tgt := 107) hx hb dX4_moveArea_101 (by decide) (fun c_101 => ?_) (fun c_101 => ?_)
                      · refine lv_aload_n hx hb dX4_moveArea_107 rfl (lv_at hl 1 rfl) ?_
                        refine gx_3_slots F N k_122 dX4_moveArea_108 ?_
                        refine lv_iload hx hb dX4_moveArea_111 (lv_at hl 5 rfl) ?_
                        refine lv_iload hx hb dX4_moveArea_113 (lv_at hl 0 rfl) ?_
                        refine sxN_2 (j := i) F N (by omega) dX4_moveArea_115 (fun st_115 est_115 H locs N => ?_)
                        refine lv_iinc (v := (nI (i + 1))) (lv' := [(4, .int (nI (i + 1))), (5, .int (mvT c r p q wd ht (g i))), (0, .ref (ad 3)), (1, .ref a1), (2, .ref a2), (3, .int (nI n))]) hx hb dX4_moveArea_116 hl (k := 5) rfl (nI_1 i) (by decide) rfl (fun ls hl => ?_)
                        refine lv_goto (tgt := 64) hx hb dX4_moveArea_119 (by decide) ?_
                        exact ih_64 n (i + 1) (upd g i (mvT c r p q wd ht (g i))) st_115 (by omega) (by rw [est_115, hs]; simp [sA_21, sA_sA]) (by rw [← hI, lp_s, mvF]; dsimp only; first | rw [if_pos c_95] | rw [if_neg c_95, if_pos c_101] | rw [if_neg c_95, if_neg c_101]) _ _ _ N (lv_sub hl [2, 3, 4, 5, 0] rfl)
                      · refine lv_iinc (v := (nI (n + 1))) (lv' := [(3, .int (nI (n + 1))), (5, .int (mvT c r p q wd ht (g i))), (0, .ref (ad 3)), (1, .ref a1), (2, .ref a2), (4, .int (nI i))]) hx hb dX4_moveArea_104 hl (k := 4) rfl (nI_1 n) (by decide) rfl (fun ls hl => ?_)
                        refine lv_aload_n hx hb dX4_moveArea_107 rfl (lv_at hl 2 rfl) ?_
                        refine gx_3_slots F N k_122 dX4_moveArea_108 ?_
                        refine lv_iload hx hb dX4_moveArea_111 (lv_at hl 5 rfl) ?_
                        refine lv_iload hx hb dX4_moveArea_113 (lv_at hl 1 rfl) ?_
                        refine sxN_2 (j := i) F N (by omega) dX4_moveArea_115 (fun st_115 est_115 H locs N => ?_)
                        refine lv_iinc (v := (nI (i + 1))) (lv' := [(4, .int (nI (i + 1))), (3, .int (nI (n + 1))), (5, .int (mvT c r p q wd ht (g i))), (0, .ref (ad 3)), (1, .ref a1), (2, .ref a2)]) hx hb dX4_moveArea_116 hl (k := 5) rfl (nI_1 i) (by decide) rfl (fun ls hl => ?_)
                        refine lv_goto (tgt := 64) hx hb dX4_moveArea_119 (by decide) ?_
                        exact ih_64 (n + 1) (i + 1) (upd g i (mvT c r p q wd ht (g i))) st_115 (by omega) (by rw [est_115, hs]; simp [sA_21, sA_sA]) (by rw [← hI, lp_s, mvF]; dsimp only; first | rw [if_pos c_95] | rw [if_neg c_95, if_pos c_101] | rw [if_neg c_95, if_neg c_101]) _ _ _ N (lv_sub hl [3, 4, 5, 1, 0] rfl)
              exact cut_64 144 0 0 g s1 (by omega) hs (by unfold mvR; rw [← hI]; rfl) _ _ _ N (lv_sub hl [2, 3, 4, 1, 0] rfl)
            · exfalso; omega
          | succ k ih_31 =>
            intro i g s1 hk hs hI H locs ls N hl
            refine lv_iload_n hx hb dX4_moveArea_31 rfl (lv_at hl 3 rfl) ?_
            refine lv_aload_n hx hb dX4_moveArea_32 rfl (lv_at hl 1 rfl) ?_
            refine cV_i F N (c_X0_size l G _ 18 a1 c r wd ht rfl) miX0_size k_491 (by decide) hl.1 rfl (Nat.le_of_ble_eq_true rfl) (q0 := 18) (ci := 0) rfl rfl dX4_moveArea_33 (fun H locs N => ?_)
            refine cmpN_ge (a := i) (b := (wd * ht)) (tgt := 59) hx hb dX4_moveArea_36 (by decide) (by omega) (by omega) (fun c_36 => ?_) (fun c_36 => ?_)
            · exfalso; omega
            · have c_36v := Nat.not_le.mp c_36
              refine lv_aload_n hx hb dX4_moveArea_39 rfl (lv_at hl 0 rfl) ?_
              refine lv_aload_n hx hb dX4_moveArea_40 rfl (lv_at hl 1 rfl) ?_
              refine lv_iload_n hx hb dX4_moveArea_41 rfl (lv_at hl 3 rfl) ?_
              refine cV_i F N (c_X0_cell l G _ i 18 a1 c r wd ht rfl (by omega) hw hcw hrh) miX0_cell k_495 (by decide) hl.1 rfl (Nat.le_of_ble_eq_true rfl) (q0 := 18) (ci := 0) rfl rfl dX4_moveArea_42 (fun H locs N => ?_)
              refine lv_aload_n hx hb dX4_moveArea_45 rfl (lv_at hl 2 rfl) ?_
              refine lv_iload_n hx hb dX4_moveArea_46 rfl (lv_at hl 3 rfl) ?_
              refine cV_i F N (c_X0_cell l G _ i 19 a2 p q wd ht rfl (by omega) hw hpw hqh) miX0_cell k_495 (by decide) hl.1 rfl (Nat.le_of_ble_eq_true rfl) (q0 := 19) (ci := 0) rfl rfl dX4_moveArea_47 (fun H locs N => ?_)
              refine xV_v F N (c_X4_takeTo l G ad ((a1, arE c r wd ht) :: (a2, arE p q wd ht) :: ex) s1 (arC c r wd i) (arC p q wd i) (arC_lt (by omega) hw hcw hrh) (arC_lt (by omega) hw hpw hqh)) miX4_takeTo k_418 (by decide) hl.1 rfl (Nat.le_of_ble_eq_true rfl) (q0 := 3) (ci := 4) rfl rfl dX4_moveArea_50 (fun st_50 est_50 H locs N => ?_)
              refine lv_iinc (v := (nI (i + 1))) (lv' := [(3, .int (nI (i + 1))), (0, .ref (ad 3)), (1, .ref a1), (2, .ref a2)]) hx hb dX4_moveArea_53 hl (k := 3) rfl (nI_1 i) (by decide) rfl (fun ls hl => ?_)
              refine lv_goto (tgt := 31) hx hb dX4_moveArea_56 (by decide) ?_
              exact ih_31 (i + 1) (cpT (opH st) g (arC c r wd i) (arC p q wd i)) st_50 (by omega) (by rw [est_50, hs]; simp [sA_21, sA_sA]) hI _ _ _ N (lv_sub hl [1, 2, 3, 0] rfl)
        exact cut_31 (wd * ht) 0 g s1 (by omega) hs (by unfold mvG; rw [← hI]; rfl) _ _ _ N (lv_sub hl [1, 2, 3, 0] rfl)
      · exfalso; omega
    | succ k ih_6 =>
      intro i g s1 hk hs hI H locs ls N hl
      refine lv_iload_n hx hb dX4_moveArea_6 rfl (lv_at hl 3 rfl) ?_
      refine lv_aload_n hx hb dX4_moveArea_7 rfl (lv_at hl 1 rfl) ?_
      refine cV_i F N (c_X0_size l G _ 18 a1 c r wd ht rfl) miX0_size k_491 (by decide) hl.1 rfl (Nat.le_of_ble_eq_true rfl) (q0 := 18) (ci := 0) rfl rfl dX4_moveArea_8 (fun H locs N => ?_)
      refine cmpN_ge (a := i) (b := (wd * ht)) (tgt := 29) hx hb dX4_moveArea_11 (by decide) (by omega) (by omega) (fun c_11 => ?_) (fun c_11 => ?_)
      · exfalso; omega
      · have c_11v := Nat.not_le.mp c_11
        refine lv_aload_n hx hb dX4_moveArea_14 rfl (lv_at hl 0 rfl) ?_
        refine lv_aload_n hx hb dX4_moveArea_15 rfl (lv_at hl 1 rfl) ?_
        refine lv_iload_n hx hb dX4_moveArea_16 rfl (lv_at hl 3 rfl) ?_
        refine cV_i F N (c_X0_cell l G _ i 18 a1 c r wd ht rfl (by omega) hw hcw hrh) miX0_cell k_495 (by decide) hl.1 rfl (Nat.le_of_ble_eq_true rfl) (q0 := 18) (ci := 0) rfl rfl dX4_moveArea_17 (fun H locs N => ?_)
        refine xV_v F N (c_X4_drop l G ad ((a1, arE c r wd ht) :: (a2, arE p q wd ht) :: ex) s1 (arC c r wd i) (arC_lt (by omega) hw hcw hrh)) miX4_drop k_501 (by decide) hl.1 rfl (Nat.le_of_ble_eq_true rfl) (q0 := 3) (ci := 4) rfl rfl dX4_moveArea_20 (fun st_20 est_20 H locs N => ?_)
        refine lv_iinc (v := (nI (i + 1))) (lv' := [(3, .int (nI (i + 1))), (0, .ref (ad 3)), (1, .ref a1), (2, .ref a2)]) hx hb dX4_moveArea_23 hl (k := 3) rfl (nI_1 i) (by decide) rfl (fun ls hl => ?_)
        refine lv_goto (tgt := 6) hx hb dX4_moveArea_26 (by decide) ?_
        exact ih_6 (i + 1) (dropF (arC c r wd i) g) st_20 (by omega) (by rw [est_20, hs]; simp [sA_21, sA_sA]) hI _ _ _ N (lv_sub hl [1, 2, 3, 0] rfl)
  exact cut_6 (wd * ht) 0 (st.2.1 2) st_1 (by omega) (by rw [est_1]; exact (sA_self rfl).symm) rfl _ _ _ N (lv_sub hl [1, 2, 3, 0] rfl)
set_option maxHeartbeats 4000000 in
set_option maxRecDepth 100000 in
theorem c_X4_copyArea (l : Launch) (G : GM) (ad : Nat → Nat) (ex : va_W) (st : ST) (a1 : Nat) (a2 : Nat) (c : Nat) (r : Nat) (p : Nat) (q : Nat) (wd : Nat) (ht : Nat) (hw : 0 < wd) (hcw : c + wd ≤ 6) (hrh : r + ht ≤ 6) (hpw : p + wd ≤ 6) (hqh : q + ht ≤ 6) : XXi l G yX4_copyArea cX4_copyArea 7 (some .int) 5 [.ref (ad 3), .ref a1, .ref a2] ad ((a1, arE c r wd ht) :: (a2, arE p q wd ht) :: ex) st (nI ((cyR st c r p q wd ht).1)) (sA (sA st 3 (opH st)) 2 (cyR st c r p q wd ht).2) := by
  refine xi_start (by decide) rfl (Nat.le_of_ble_eq_true rfl) ?_
  intro zp ze zs zm zargs zbelow zmeth zc zQ ls F N hl hret
  have hx := F.1
  have hb := F.2.1
  have hl : lv_has ls 7 [(0, .ref (ad 3)), (1, .ref a1), (2, .ref a2)] := hl
  have hm : wd * ht ≤ 36 := ar_mul (by omega) (by omega)
  refine lv_aload_n hx hb dX4_copyArea_0 rfl (lv_at hl 0 rfl) ?_
  refine xV_v F N (c_X4_lookAhead l G ad ((a1, arE c r wd ht) :: (a2, arE p q wd ht) :: ex) st ) miX4_lookAhead k_409 (by decide) hl.1 rfl (Nat.le_of_ble_eq_true rfl) (q0 := 3) (ci := 4) rfl rfl dX4_copyArea_1 (fun st_1 est_1 H locs N => ?_)
  refine lv_aload_n hx hb dX4_copyArea_4 rfl (lv_at hl 2 rfl) ?_
  refine ga (q := 19) (a := a2) (c0 := p) (r0 := q) (wd := wd) (ht := ht) F N rfl 0 (by decide) rfl k_473 rfl dX4_copyArea_5 ?_
  refine lv_aload_n hx hb dX4_copyArea_8 rfl (lv_at hl 1 rfl) ?_
  refine ga (q := 18) (a := a1) (c0 := c) (r0 := r) (wd := wd) (ht := ht) F N rfl 0 (by decide) rfl k_473 rfl dX4_copyArea_9 ?_
  refine lv_isub hx hb dX4_copyArea_12 ?_
  refine lv_istore_n (lv' := [(3, .int ((nI p) - (nI c))), (0, .ref (ad 3)), (1, .ref a1), (2, .ref a2)]) hx hb dX4_copyArea_13 rfl hl (by decide) rfl (fun ls hl => ?_)
  refine lv_aload_n hx hb dX4_copyArea_14 rfl (lv_at hl 3 rfl) ?_
  refine ga (q := 19) (a := a2) (c0 := p) (r0 := q) (wd := wd) (ht := ht) F N rfl 1 (by decide) rfl k_475 rfl dX4_copyArea_15 ?_
  refine lv_aload_n hx hb dX4_copyArea_18 rfl (lv_at hl 2 rfl) ?_
  refine ga (q := 18) (a := a1) (c0 := c) (r0 := r) (wd := wd) (ht := ht) F N rfl 1 (by decide) rfl k_475 rfl dX4_copyArea_19 ?_
  refine lv_isub hx hb dX4_copyArea_22 ?_
  refine lv_istore (lv' := [(4, .int ((nI q) - (nI r))), (3, .int ((nI p) - (nI c))), (0, .ref (ad 3)), (1, .ref a1), (2, .ref a2)]) hx hb dX4_copyArea_23 hl (by decide) rfl (fun ls hl => ?_)
  refine lv_iconst (v := 0) hx hb dX4_copyArea_25 (by decide) ?_
  refine lv_istore (lv' := [(5, .int 0), (4, .int ((nI q) - (nI r))), (3, .int ((nI p) - (nI c))), (0, .ref (ad 3)), (1, .ref a1), (2, .ref a2)]) hx hb dX4_copyArea_26 hl (by decide) rfl (fun ls hl => ?_)
  refine lv_iconst (v := 0) hx hb dX4_copyArea_28 (by decide) ?_
  refine lv_istore (lv' := [(6, .int 0), (5, .int 0), (4, .int ((nI q) - (nI r))), (3, .int ((nI p) - (nI c))), (0, .ref (ad 3)), (1, .ref a1), (2, .ref a2)]) hx hb dX4_copyArea_29 hl (by decide) rfl (fun ls hl => ?_)
  have cut_31 : ∀ (k : Nat) (n : Nat) (i : Nat) (g : Nat → Int32) (s1 : ST), i + k = wd * ht → s1 = sA (sA st 3 (opH st)) 2 g → lp (cyF (opH st) c r p q wd) k i (n, g) = cyR st c r p q wd ht → ∀ (H : Heap) (locs : List Loc) (ls : Array Slot), Now G zs (XW G ad s1 ++ ((a1, arE c r wd ht) :: (a2, arE p q wd ht) :: ex)) H locs → lv_has ls 7 [(0, .ref (ad 3)), (1, .ref a1), (2, .ref a2), (3, .int (nI p - nI c)), (4, .int (nI q - nI r)), (5, .int (nI n)), (6, .int (nI i))] → W zp l ze (RM 5) zs zm zargs zbelow zmeth zc H locs 0 0 zQ (F0 zm 31 ls []) := by
    intro k
    induction k with
    | zero =>
      intro n i g s1 hk hs hI H locs ls N hl
      refine lv_iload hx hb dX4_copyArea_31 (lv_at hl 6 rfl) ?_
      refine lv_aload_n hx hb dX4_copyArea_33 rfl (lv_at hl 1 rfl) ?_
      refine cV_i F N (c_X0_size l G _ 18 a1 c r wd ht rfl) miX0_size k_491 (by decide) hl.1 rfl (Nat.le_of_ble_eq_true rfl) (q0 := 18) (ci := 0) rfl rfl dX4_copyArea_34 (fun H locs N => ?_)
      refine cmpN_ge (a := i) (b := (wd * ht)) (tgt := 80) hx hb dX4_copyArea_37 (by decide) (by omega) (by omega) (fun c_37 => ?_) (fun c_37 => ?_)
      · have c_37v := Nat.not_lt.mpr c_37
        refine lv_iload hx hb dX4_copyArea_80 (lv_at hl 5 rfl) ?_
        exact hret _ _ _ _ _ _ dX4_copyArea_82 (by rw [← hI]; rfl) (by rw [hs, ← hI]; rfl) N
      · exfalso; omega
    | succ k ih_31 =>
      intro n i g s1 hk hs hI H locs ls N hl
      refine lv_iload hx hb dX4_copyArea_31 (lv_at hl 6 rfl) ?_
      refine lv_aload_n hx hb dX4_copyArea_33 rfl (lv_at hl 1 rfl) ?_
      refine cV_i F N (c_X0_size l G _ 18 a1 c r wd ht rfl) miX0_size k_491 (by decide) hl.1 rfl (Nat.le_of_ble_eq_true rfl) (q0 := 18) (ci := 0) rfl rfl dX4_copyArea_34 (fun H locs N => ?_)
      refine cmpN_ge (a := i) (b := (wd * ht)) (tgt := 80) hx hb dX4_copyArea_37 (by decide) (by omega) (by omega) (fun c_37 => ?_) (fun c_37 => ?_)
      · exfalso; omega
      · have c_37v := Nat.not_le.mp c_37
        refine lv_aload_n hx hb dX4_copyArea_40 rfl (lv_at hl 0 rfl) ?_
        refine lv_aload_n hx hb dX4_copyArea_41 rfl (lv_at hl 1 rfl) ?_
        refine lv_iload hx hb dX4_copyArea_42 (lv_at hl 6 rfl) ?_
        refine cV_i F N (c_X0_cell l G _ i 18 a1 c r wd ht rfl (by omega) hw hcw hrh) miX0_cell k_495 (by decide) hl.1 rfl (Nat.le_of_ble_eq_true rfl) (q0 := 18) (ci := 0) rfl rfl dX4_copyArea_44 (fun H locs N => ?_)
        refine lv_aload_n hx hb dX4_copyArea_47 rfl (lv_at hl 2 rfl) ?_
        refine lv_iload hx hb dX4_copyArea_48 (lv_at hl 6 rfl) ?_
        refine cV_i F N (c_X0_cell l G _ i 19 a2 p q wd ht rfl (by omega) hw hpw hqh) miX0_cell k_495 (by decide) hl.1 rfl (Nat.le_of_ble_eq_true rfl) (q0 := 19) (ci := 0) rfl rfl dX4_copyArea_50 (fun H locs N => ?_)
        refine xV_v F N (c_X4_takeTo l G ad ((a1, arE c r wd ht) :: (a2, arE p q wd ht) :: ex) s1 (arC c r wd i) (arC p q wd i) (arC_lt (by omega) hw hcw hrh) (arC_lt (by omega) hw hpw hqh)) miX4_takeTo k_418 (by decide) hl.1 rfl (Nat.le_of_ble_eq_true rfl) (q0 := 3) (ci := 4) rfl rfl dX4_copyArea_53 (fun st_53 est_53 H locs N => ?_)
        refine lv_iload hx hb dX4_copyArea_56 (lv_at hl 5 rfl) ?_
        refine lv_aload_n hx hb dX4_copyArea_58 rfl (lv_at hl 0 rfl) ?_
        refine lv_aload_n hx hb dX4_copyArea_59 rfl (lv_at hl 2 rfl) ?_
        refine lv_iload hx hb dX4_copyArea_60 (lv_at hl 6 rfl) ?_
        refine cV_i F N (c_X0_cell l G _ i 19 a2 p q wd ht rfl (by omega) hw hpw hqh) miX0_cell k_495 (by decide) hl.1 rfl (Nat.le_of_ble_eq_true rfl) (q0 := 19) (ci := 0) rfl rfl dX4_copyArea_62 (fun H locs N => ?_)
        refine lv_iload_n hx hb dX4_copyArea_65 rfl (lv_at hl 3 rfl) ?_
        refine lv_iload hx hb dX4_copyArea_66 (lv_at hl 4 rfl) ?_
        refine xV_i F N (c_X4_spreadTerms l G ad ((a1, arE c r wd ht) :: (a2, arE p q wd ht) :: ex) st_53 (arC p q wd i) (nI p - nI c) (nI q - nI r) (arC_lt (by omega) hw hpw hqh)) miX4_spreadTerms k_524 (by decide) hl.1 rfl (Nat.le_of_ble_eq_true rfl) (q0 := 3) (ci := 4) rfl rfl dX4_copyArea_68 (fun st_68 est_68 H locs N => ?_)
        refine iaddN (a := n) (b := ((lp (spF (arC p q wd i) (nI p - nI c) (nI q - nI r)) 4 0 (0, st_53.2.1 2)).1)) hx hb dX4_copyArea_71 ?_
        refine lv_istore (lv' := [(5, .int (nI (n + ((lp (spF (arC p q wd i) (nI p - nI c) (nI q - nI r)) 4 0 (0, st_53.2.1 2)).1)))), (0, .ref (ad 3)), (1, .ref a1), (2, .ref a2), (3, .int (nI p - nI c)), (4, .int (nI q - nI r)), (6, .int (nI i))]) hx hb dX4_copyArea_72 hl (by decide) rfl (fun ls hl => ?_)
        refine lv_iinc (v := (nI (i + 1))) (lv' := [(6, .int (nI (i + 1))), (5, .int (nI (n + ((lp (spF (arC p q wd i) (nI p - nI c) (nI q - nI r)) 4 0 (0, st_53.2.1 2)).1)))), (0, .ref (ad 3)), (1, .ref a1), (2, .ref a2), (3, .int (nI p - nI c)), (4, .int (nI q - nI r))]) hx hb dX4_copyArea_74 hl (k := 6) rfl (nI_1 i) (by decide) rfl (fun ls hl => ?_)
        refine lv_goto (tgt := 31) hx hb dX4_copyArea_77 (by decide) ?_
        exact ih_31 (n + ((lp (spF (arC p q wd i) (nI p - nI c) (nI q - nI r)) 4 0 (0, st_53.2.1 2)).1)) (i + 1) ((cyF (opH st) c r p q wd i (n, g)).2) st_68 (by omega) (by rw [est_68, est_53, hs]; simp [sA_21, sA_sA, cyF]) (by rw [← hI]; simp [lp, cyF, est_68, est_53, hs, sA_21]) _ _ _ N (lv_sub hl [2, 3, 4, 5, 6, 1, 0] rfl)
  exact cut_31 (wd * ht) 0 0 (st.2.1 2) st_1 (by omega) (by rw [est_1]; exact (sA_self rfl).symm) rfl _ _ _ N (lv_sub hl [4, 5, 6, 3, 2, 1, 0] rfl)
