/-! the sheet: four slots a cell; what comes of it -/
theorem i_ring1 (b x t : Int32) : (b + x) + (t - x) * 1 = b + t := by grind
theorem i_ring2 (y z t : Int32) : (y * 6 + z) + (t - y) * 6 = t * 6 + z := by grind
def tm (g : Nat → Int32) (cell i : Nat) : Int32 := g (cell * 4 + i)
def szL (g : Nat → Int32) (cell : Nat) : Nat → Nat → Nat
  | 0, i => i
  | k + 1, i => if tm g cell i = 0 then i else szL g cell k (i + 1)
def cnt (p : Nat → Bool) : Nat → Nat → Nat → Nat
  | 0, _, n => n
  | k + 1, i, n => cnt p k (i + 1) (if p i = true then n + 1 else n)
theorem cnt_le (p : Nat → Bool) : ∀ k i n, cnt p k i n ≤ n + k
  | 0, _, n => Nat.le_refl n
  | k + 1, i, n => by
    have h := cnt_le p k (i + 1) (if p i = true then n + 1 else n)
    unfold cnt
    split at h <;> simp_all <;> omega
def oI : Option Nat → Int32
  | none => -1
  | some t => nI t
def lnN (cell ax : Nat) : Nat := if ax = 0 then cell % 6 else cell / 6
def tgN (cell ax t : Nat) : Nat := if ax = 0 then cell / 6 * 6 + t else t * 6 + cell % 6
def cmN (x a n : Nat) : Option Nat := if x < a then some x else if 6 ≤ x + n then none else some (x + n)
def goN (x a n : Nat) : Option Nat := if x < a then some x else if x < a + n then none else some (x - n)
def cpT (h g : Nat → Int32) (fr to : Nat) : Nat → Int32 := va_cpy h g (fr * 4) (to * 4) 4
theorem oI_or (o : Option Nat) : oI o = -1 ∨ oI o = nI (o.getD 0) := by
  cases o with
  | none => exact Or.inl rfl
  | some t => exact Or.inr rfl
theorem xIsCe_nI {c : Nat} (h : c < 36) : xIsCe (nI c) = true := by
  have h1 : ¬ nI c < 0 := nI_pos (by omega)
  have h2 : ¬ (36 : Int32) ≤ nI c := nI_ge (b := 36) h (by decide)
  simp [xIsCe, h1, h2]
theorem xIsW_nI {i a b : Nat} (h1 : a ≤ i) (h2 : i ≤ b) (hb : b < 2 ^ 31) : xIsW (nI i) (nI a) (nI b) = true := by
  have h3 : ¬ nI i < nI a := nI_nlt h1 (by omega)
  have h4 : ¬ nI b < nI i := nI_nlt h2 hb
  simp [xIsW, h3, h4]
theorem lnOf_nI {cell ax : Nat} (h : cell < 36) (ha : ax < 2) : lnOf (nI cell) (nI ax) = nI (lnN cell ax) := by
  unfold lnOf lnN
  by_cases h0 : ax = 0
  · subst h0
    rw [if_pos (show nI 0 = 0 from rfl), if_pos rfl]
    exact nI_rem (b := 6) (by omega) (by decide)
  · have h1 : ¬ nI ax = 0 := nI_ne0 (by omega) (by omega)
    rw [if_neg h1, if_neg h0]
    exact nI_div (b := 6) (by omega) (by decide)
theorem lnN_lt {cell ax : Nat} (h : cell < 36) : lnN cell ax < 6 := by unfold lnN; split <;> omega
theorem tgN_lt {cell ax t : Nat} (h : cell < 36) (ht : t < 6) : tgN cell ax t < 36 := by unfold tgN; split <;> omega
theorem lnCome_nI {x a n : Nat} (h : x < 6) (ha : a < 6) (hn : n ≤ 6) : lnCome (nI x) (nI a) (nI n) = oI (cmN x a n) := by
  unfold lnCome cmN
  by_cases h1 : x < a
  · rw [if_pos ((nI_ltI (by omega) (by omega)).mpr h1), if_pos h1]; rfl
  · rw [if_neg (fun q => h1 ((nI_ltI (by omega) (by omega)).mp q)), if_neg h1, nI_add]
    by_cases h2 : 6 ≤ x + n
    · rw [if_pos (show (6 : Int32) ≤ nI (x + n) from nI_le (a := 6) h2 (by omega)), if_pos h2]; rfl
    · rw [if_neg (show ¬ (6 : Int32) ≤ nI (x + n) from nI_ge (b := 6) (by omega) (by decide)), if_neg h2]; rfl
theorem lnGo_nI {x a n : Nat} (h : x < 6) (ha : a < 6) (hn : n ≤ 6) : lnGo (nI x) (nI a) (nI n) = oI (goN x a n) := by
  unfold lnGo goN
  by_cases h1 : x < a
  · rw [if_pos ((nI_ltI (by omega) (by omega)).mpr h1), if_pos h1]; rfl
  · rw [if_neg (fun q => h1 ((nI_ltI (by omega) (by omega)).mp q)), if_neg h1, nI_add]
    by_cases h2 : x < a + n
    · rw [if_pos ((nI_ltI (by omega) (by omega)).mpr h2), if_pos h2]; rfl
    · rw [if_neg (fun q => h2 ((nI_ltI (by omega) (by omega)).mp q)), if_neg h2, nI_sub (by omega)]; rfl
theorem cmN_lt {x a n : Nat} (h : x < 6) : (cmN x a n).getD 0 < 6 := by
  unfold cmN
  split
  · exact h
  · split
    · show 0 < 6; decide
    · show x + n < 6; omega
theorem goN_lt {x a n : Nat} (h : x < 6) : (goN x a n).getD 0 < 6 := by
  unfold goN
  split
  · exact h
  · split
    · show 0 < 6; decide
    · show x - n < 6; omega
theorem tg_col {cell ax t : Nat} {ln : Int32} (h : ln = nI t) (ha : ax = 0) : nI cell + (ln - nI (lnN cell ax)) * 1 = nI (tgN cell ax t) := by
  subst h; subst ha
  have e : nI cell = nI (cell / 6 * 6) + nI (cell % 6) := by rw [nI_add]; congr 1; omega
  show nI cell + (nI t - nI (cell % 6)) * 1 = nI (cell / 6 * 6 + t)
  rw [e, i_ring1, nI_add]
theorem tg_row {cell ax t : Nat} {ln : Int32} (h : ln = nI t) (ha : ¬ ax = 0) : nI cell + (ln - nI (lnN cell ax)) * 6 = nI (tgN cell ax t) := by
  subst h
  have e : nI cell = nI (cell / 6) * 6 + nI (cell % 6) := by
    have e2 : nI (cell / 6) * 6 = nI (cell / 6 * 6) := nI_mul (cell / 6) 6
    rw [e2, nI_add]; congr 1; omega
  unfold lnN tgN
  rw [if_neg ha, if_neg ha, e, i_ring2]
  have e3 : nI t * 6 = nI (t * 6) := nI_mul t 6
  rw [e3, nI_add]
def tkF (h : Nat → Int32) (ax : Nat) (o : Nat → Option Nat) (cell : Nat) (g : Nat → Int32) : Nat → Int32 := if oI (o (lnN cell ax)) = -1 then g else cpT h g cell (tgN cell ax ((o (lnN cell ax)).getD 0))
def wlL (g : Nat → Int32) (ax a n : Nat) : Nat → Nat → Bool
  | 0, _ => false
  | k + 1, c => if tm g c 0 = 0 then wlL g ax a n k (c + 1) else if oI (cmN (lnN c ax) a n) = -1 then true else wlL g ax a n k (c + 1)
def dropF (cell : Nat) (g : Nat → Int32) : Nat → Int32 := lp (fun i g => upd g (cell * 4 + i) 0) 4 0 g
def spF (cell : Nat) (cols rows : Int32) (i : Nat) (x : Nat × (Nat → Int32)) : Nat × (Nat → Int32) :=
  (if tFur (x.2 (cell * 4 + i)) cols rows (tFix (x.2 (cell * 4 + i))) = 4 then x.1 + 1 else x.1, upd x.2 (cell * 4 + i) (tFur (x.2 (cell * 4 + i)) cols rows (tFix (x.2 (cell * 4 + i)))))
def opH (st : ST) : Nat → Int32 := va_cpy (st.2.1 2) (st.2.1 3) 0 0 144
def opF (st : ST) (ax a n : Nat) : Nat → Int32 := lp (fun i g => upd g i (tCome (g i) (nI ax) (nI a) (nI n))) 144 0 (lp (tkF (opH st) ax (fun x => cmN x a n)) 36 0 (fillF (st.2.1 2) 0 144))
def clF (st : ST) (ax a n : Nat) : Nat → Int32 := lp (fun i g => upd g i (tGo (g i) (nI ax) (nI a) (nI n))) 144 0 (lp (tkF (opH st) ax (fun x => goN x a n)) 36 0 (fillF (st.2.1 2) 0 144))
def rfB (g : Nat → Int32) (c r : Nat) (i : Nat) : Bool := tRef (g i) && (xIsW (nI c) (tLeast (g i) 0) (tGreat (g i) 0) && xIsW (nI r) (tLeast (g i) 1) (tGreat (g i) 1))
theorem min6 {a : Nat} (h : a ≤ 7) : (if (6 : Int32) < nI a then 6 else nI a) = nI (min a 6) := by
  by_cases h1 : 6 < a
  · rw [if_pos (show (6 : Int32) < nI a from nI_lt (a := 6) h1 (by omega))]
    have e : min a 6 = 6 := by omega
    rw [e]; rfl
  · rw [if_neg (show ¬ (6 : Int32) < nI a from nI_nlt (a := 6) (by omega) (by decide))]
    have e : min a 6 = a := by omega
    rw [e]
set_option maxHeartbeats 4000000 in
set_option maxRecDepth 100000 in
theorem c_X4_termOf (l : Launch) (G : GM) (ad : Nat → Nat) (ex : va_W) (st : ST) (cell : Nat) (i : Nat) (hc : cell < 36) (hi : i < 4) : XCi l G yX4_termOf cX4_termOf 3 (some .int) 1 [.ref (ad 3), .int (nI cell), .int (nI i)] (XW G ad st ++ ex) (tm (st.2.1 2) cell i) (XW G ad st ++ ex) := by
  refine xi_start (by decide) rfl (Nat.le_of_ble_eq_true rfl) ?_
  intro zp ze zs zm zargs zbelow zmeth zc zQ ls F N hl hret
  have hx := F.1
  have hb := F.2.1
  have hl : lv_has ls 3 [(0, .ref (ad 3)), (1, .int (nI cell)), (2, .int (nI i))] := hl
  refine lv_iload_n hx hb dX4_termOf_0 rfl (lv_at hl 1 rfl) ?_
  refine cN_i F N (c_X8_isCell l G _ (nI cell)) miX8_isCell k_357 (by decide) hl.1 rfl (Nat.le_of_ble_eq_true rfl) dX4_termOf_1 (fun H locs N => ?_)
  refine toI (y := 1) (by rw [xIsCe_nI hc]; rfl) ?_
  refine lv_if_eq (tgt := 16) hx hb dX4_termOf_4 (by decide) (fun c_4 => ?_) (fun c_4 => ?_)
  · first | exact absurd c_4 (by decide) | exact absurd (by decide) c_4
  refine lv_iload_n hx hb dX4_termOf_7 rfl (lv_at hl 2 rfl) ?_
  refine lv_iconst (v := 0) hx hb dX4_termOf_8 (by decide) ?_
  refine lv_iconst (v := 3) hx hb dX4_termOf_9 (by decide) ?_
  refine cN_i F N (c_X8_isWithin l G _ (nI i) 0 3) miX8_isWithin k_373 (by decide) hl.1 rfl (Nat.le_of_ble_eq_true rfl) dX4_termOf_10 (fun H locs N => ?_)
  refine toI (y := 1) (by rw [show xIsW (nI i) 0 3 = true from xIsW_nI (a := 0) (b := 3) (by omega) (by omega) (by decide)]; rfl) ?_
  refine lv_if_ne (tgt := 18) hx hb dX4_termOf_13 (by decide) (fun c_13 => ?_) (fun c_13 => ?_)
  rotate_left
  · first | exact absurd (by decide) c_13 | exact absurd c_13 (by decide)
  refine lv_aload_n hx hb dX4_termOf_18 rfl (lv_at hl 0 rfl) ?_
  refine gx_3_slots F N k_122 dX4_termOf_19 ?_
  refine lv_iload_n hx hb dX4_termOf_22 rfl (lv_at hl 1 rfl) ?_
  refine lv_iconst (v := 4) hx hb dX4_termOf_23 (by decide) ?_
  refine imulN (a := cell) (b := 4) hx hb dX4_termOf_24 ?_
  refine lv_iload_n hx hb dX4_termOf_25 rfl (lv_at hl 2 rfl) ?_
  refine iaddN (a := (cell * 4)) (b := i) hx hb dX4_termOf_26 ?_
  refine axN_2 (j := ((cell * 4) + i)) F N (by omega) dX4_termOf_27 ?_
  exact hret _ _ _ _ _ _ dX4_termOf_28 (by first | rfl | (simp [bI])) (by first | rfl | (simp [bI])) N
set_option maxHeartbeats 4000000 in
set_option maxRecDepth 100000 in
theorem c_X4_termOf_no (l : Launch) (G : GM) (ad : Nat → Nat) (ex : va_W) (st : ST) (cell : Nat) (i : Int32) (hc : cell < 36) (hi : xIsW i 0 3 = false) : XCi l G yX4_termOf cX4_termOf 3 (some .int) 1 [.ref (ad 3), .int (nI cell), .int i] (XW G ad st ++ ex) 0 (XW G ad st ++ ex) := by
  refine xi_start (by decide) rfl (Nat.le_of_ble_eq_true rfl) ?_
  intro zp ze zs zm zargs zbelow zmeth zc zQ ls F N hl hret
  have hx := F.1
  have hb := F.2.1
  have hl : lv_has ls 3 [(0, .ref (ad 3)), (1, .int (nI cell)), (2, .int i)] := hl
  refine lv_iload_n hx hb dX4_termOf_0 rfl (lv_at hl 1 rfl) ?_
  refine cN_i F N (c_X8_isCell l G _ (nI cell)) miX8_isCell k_357 (by decide) hl.1 rfl (Nat.le_of_ble_eq_true rfl) dX4_termOf_1 (fun H locs N => ?_)
  refine toI (y := 1) (by rw [xIsCe_nI hc]; rfl) ?_
  refine lv_if_eq (tgt := 16) hx hb dX4_termOf_4 (by decide) (fun c_4 => ?_) (fun c_4 => ?_)
  · first | exact absurd c_4 (by decide) | exact absurd (by decide) c_4
  refine lv_iload_n hx hb dX4_termOf_7 rfl (lv_at hl 2 rfl) ?_
  refine lv_iconst (v := 0) hx hb dX4_termOf_8 (by decide) ?_
  refine lv_iconst (v := 3) hx hb dX4_termOf_9 (by decide) ?_
  refine cN_i F N (c_X8_isWithin l G _ i 0 3) miX8_isWithin k_373 (by decide) hl.1 rfl (Nat.le_of_ble_eq_true rfl) dX4_termOf_10 (fun H locs N => ?_)
  refine toI (y := 0) (by rw [hi]; rfl) ?_
  refine lv_if_ne (tgt := 18) hx hb dX4_termOf_13 (by decide) (fun c_13 => ?_) (fun c_13 => ?_)
  · first | exact absurd c_13 (by decide) | exact absurd (by decide) c_13
  refine lv_iconst (v := 0) hx hb dX4_termOf_16 (by decide) ?_
  exact hret _ _ _ _ _ _ dX4_termOf_17 (by first | rfl | (simp [bI])) (by first | rfl | (simp [bI])) N
set_option maxHeartbeats 4000000 in
set_option maxRecDepth 100000 in
theorem c_X4_sizeOf (l : Launch) (G : GM) (ad : Nat → Nat) (ex : va_W) (st : ST) (cell : Nat) (hc : cell < 36) : XCi l G yX4_sizeOf cX4_sizeOf 3 (some .int) 2 [.ref (ad 3), .int (nI cell)] (XW G ad st ++ ex) (nI (szL (st.2.1 2) cell 4 0)) (XW G ad st ++ ex) := by
  refine xi_start (by decide) rfl (Nat.le_of_ble_eq_true rfl) ?_
  intro zp ze zs zm zargs zbelow zmeth zc zQ ls F N hl hret
  have hx := F.1
  have hb := F.2.1
  have hl : lv_has ls 3 [(0, .ref (ad 3)), (1, .int (nI cell))] := hl
  refine lv_iconst (v := 0) hx hb dX4_sizeOf_0 (by decide) ?_
  refine lv_istore_n (lv' := [(2, .int 0), (0, .ref (ad 3)), (1, .int (nI cell))]) hx hb dX4_sizeOf_1 rfl hl (by decide) rfl (fun ls hl => ?_)
  have cut_2 : ∀ (k : Nat) (i : Nat), i + k = 4 → szL (st.2.1 2) cell k i = szL (st.2.1 2) cell 4 0 → ∀ (H : Heap) (locs : List Loc) (ls : Array Slot), Now G zs (XW G ad st ++ ex) H locs → lv_has ls 3 [(0, .ref (ad 3)), (1, .int (nI cell)), (2, .int (nI i))] → W zp l ze (RM 2) zs zm zargs zbelow zmeth zc H locs 0 0 zQ (F0 zm 2 ls []) := by
    intro k
    induction k with
    | zero =>
      intro i hk hI H locs ls N hl
      refine lv_iload_n hx hb dX4_sizeOf_2 rfl (lv_at hl 2 rfl) ?_
      refine lv_iconst (v := 4) hx hb dX4_sizeOf_3 (by decide) ?_
      refine cmpN_ge (a := i) (b := 4) (tgt := 22) hx hb dX4_sizeOf_4 (by decide) (by omega) (by omega) (fun c_4 => ?_) (fun c_4 => ?_)
      · have c_4v := Nat.not_lt.mpr c_4
        refine lv_iload_n hx hb dX4_sizeOf_22 rfl (lv_at hl 2 rfl) ?_
        exact hret _ _ _ _ _ _ dX4_sizeOf_23 (by rw [← hI]; simp [szL, c_4, c_4v]) (by rfl) N
      · exfalso; omega
    | succ k ih_2 =>
      intro i hk hI H locs ls N hl
      refine lv_iload_n hx hb dX4_sizeOf_2 rfl (lv_at hl 2 rfl) ?_
      refine lv_iconst (v := 4) hx hb dX4_sizeOf_3 (by decide) ?_
      refine cmpN_ge (a := i) (b := 4) (tgt := 22) hx hb dX4_sizeOf_4 (by decide) (by omega) (by omega) (fun c_4 => ?_) (fun c_4 => ?_)
      · exfalso; omega
      · have c_4v := Nat.not_le.mp c_4
        refine lv_aload_n hx hb dX4_sizeOf_7 rfl (lv_at hl 0 rfl) ?_
        refine lv_iload_n hx hb dX4_sizeOf_8 rfl (lv_at hl 1 rfl) ?_
        refine lv_iload_n hx hb dX4_sizeOf_9 rfl (lv_at hl 2 rfl) ?_
        refine cV_i F N (c_X4_termOf l G ad ex st cell i (by omega) (by omega)) miX4_termOf k_369 (by decide) hl.1 rfl (Nat.le_of_ble_eq_true rfl) (q0 := 3) (ci := 4) rfl rfl dX4_sizeOf_10 (fun H locs N => ?_)
        refine lv_if_eq (tgt := 22) hx hb dX4_sizeOf_13 (by decide) (fun c_13 => ?_) (fun c_13 => ?_)
        · refine lv_iload_n hx hb dX4_sizeOf_22 rfl (lv_at hl 2 rfl) ?_
          exact hret _ _ _ _ _ _ dX4_sizeOf_23 (by rw [← hI]; simp [szL, c_4, c_4v, c_13]) (by rfl) N
        · refine lv_iinc (v := (nI (i + 1))) (lv' := [(2, .int (nI (i + 1))), (0, .ref (ad 3)), (1, .int (nI cell))]) hx hb dX4_sizeOf_16 hl (k := 2) rfl (nI_1 i) (by decide) rfl (fun ls hl => ?_)
          refine lv_goto (tgt := 2) hx hb dX4_sizeOf_19 (by decide) ?_
          exact ih_2 (i + 1) (by omega) (by rw [← hI]; simp [szL, c_4, c_4v, c_13]) _ _ _ N (lv_sub hl [1, 2, 0] rfl)
  exact cut_2 4 0 (by omega) rfl _ _ _ N (lv_sub hl [1, 2, 0] rfl)
set_option maxHeartbeats 4000000 in
set_option maxRecDepth 100000 in
theorem c_X4_isEmpty (l : Launch) (G : GM) (ad : Nat → Nat) (ex : va_W) (st : ST) (cell : Nat) (hc : cell < 36) : XCi l G yX4_isEmpty cX4_isEmpty 2 (some .boolean) 2 [.ref (ad 3), .int (nI cell)] (XW G ad st ++ ex) (bI (decide (tm (st.2.1 2) cell 0 = 0))) (XW G ad st ++ ex) := by
  refine xi_start (by decide) (nar_bI _) (Nat.le_of_ble_eq_true rfl) ?_
  intro zp ze zs zm zargs zbelow zmeth zc zQ ls F N hl hret
  have hx := F.1
  have hb := F.2.1
  have hl : lv_has ls 2 [(0, .ref (ad 3)), (1, .int (nI cell))] := hl
  refine lv_aload_n hx hb dX4_isEmpty_0 rfl (lv_at hl 0 rfl) ?_
  refine lv_iload_n hx hb dX4_isEmpty_1 rfl (lv_at hl 1 rfl) ?_
  refine lv_iconst (v := 0) hx hb dX4_isEmpty_2 (by decide) ?_
  refine cV_i F N (c_X4_termOf l G ad ex st cell 0 (by omega) (by omega)) miX4_termOf k_369 (by decide) hl.1 rfl (Nat.le_of_ble_eq_true rfl) (q0 := 3) (ci := 4) rfl rfl dX4_isEmpty_3 (fun H locs N => ?_)
  refine lv_if_ne (tgt := 13) hx hb dX4_isEmpty_6 (by decide) (fun c_6 => ?_) (fun c_6 => ?_)
  · refine lv_iconst (v := 0) hx hb dX4_isEmpty_13 (by decide) ?_
    exact hret _ _ _ _ _ _ dX4_isEmpty_14 (by simp [bI, c_6]) (by rfl) N
  · refine lv_iconst (v := 1) hx hb dX4_isEmpty_9 (by decide) ?_
    refine lv_goto (tgt := 14) hx hb dX4_isEmpty_10 (by decide) ?_
    exact hret _ _ _ _ _ _ dX4_isEmpty_14 (by simp [bI, c_6]) (by rfl) N
set_option maxHeartbeats 4000000 in
set_option maxRecDepth 100000 in
theorem c_X4_fill (l : Launch) (G : GM) (ad : Nat → Nat) (ex : va_W) (st : ST) (cell : Nat) (hc : cell < 36) : XXv l G yX4_fill cX4_fill 3 none 1 [.ref (ad 3), .int (nI cell), .ref (ad 8)] ad ex st (sA st 2 (va_cpy (st.2.1 1) (st.2.1 2) 0 (cell * 4) 4)) := by
  refine xv_start (by decide) (Nat.le_of_ble_eq_true rfl) ?_
  intro zp ze zs zm zargs zbelow zmeth zc zQ ls F N hl hret
  have hx := F.1
  have hb := F.2.1
  have hl : lv_has ls 3 [(0, .ref (ad 3)), (1, .int (nI cell)), (2, .ref (ad 8))] := hl
  refine lv_iload_n hx hb dX4_fill_0 rfl (lv_at hl 1 rfl) ?_
  refine cN_i F N (c_X8_isCell l G _ (nI cell)) miX8_isCell k_357 (by decide) hl.1 rfl (Nat.le_of_ble_eq_true rfl) dX4_fill_1 (fun H locs N => ?_)
  refine toI (y := 1) (by rw [xIsCe_nI hc]; rfl) ?_
  refine lv_if_eq (tgt := 26) hx hb dX4_fill_4 (by decide) (fun c_4 => ?_) (fun c_4 => ?_)
  · first | exact absurd c_4 (by decide) | exact absurd (by decide) c_4
  refine lv_aload_n hx hb dX4_fill_7 rfl (lv_at hl 2 rfl) ?_
  refine va_alen (v := nI 4) F.1 F.2.1 F.2.2.2.2.2.1 N.1 8 0 rfl rfl rfl dX4_fill_8 ?_
  refine lv_iconst (v := 4) hx hb dX4_fill_9 (by decide) ?_
  refine cmpN_lt (a := 4) (b := 4) (tgt := 26) hx hb dX4_fill_10 (by decide) (by omega) (by omega) (fun c_10 => ?_) (fun c_10 => ?_)
  · exfalso; omega
  · have c_10v := Nat.not_lt.mp c_10
    refine lv_aload_n hx hb dX4_fill_13 rfl (lv_at hl 2 rfl) ?_
    refine lv_iconst (v := 0) hx hb dX4_fill_14 (by decide) ?_
    refine lv_aload_n hx hb dX4_fill_15 rfl (lv_at hl 0 rfl) ?_
    refine gx_3_slots F N k_122 dX4_fill_16 ?_
    refine lv_iload_n hx hb dX4_fill_19 rfl (lv_at hl 1 rfl) ?_
    refine lv_iconst (v := 4) hx hb dX4_fill_20 (by decide) ?_
    refine imulN (a := cell) (b := 4) hx hb dX4_fill_21 ?_
    refine lv_iconst (v := 4) hx hb dX4_fill_22 (by decide) ?_
    refine cx_1_2 (sp := 0) (dp := (cell * 4)) (n := 4) F N hl.1 k_360 (by omega) (by omega) (by decide) rfl (Nat.le_of_ble_eq_true rfl) dX4_fill_23 (fun st_23 est_23 H locs N => ?_)
    exact hret _ _ _ _ _ dX4_fill_26 (by first | rfl | (subst est_23; rfl) | (subst est_23; simp [bI, c_10, c_10v])) N
set_option maxHeartbeats 4000000 in
set_option maxRecDepth 100000 in
theorem c_X4_drop (l : Launch) (G : GM) (ad : Nat → Nat) (ex : va_W) (st : ST) (cell : Nat) (hc : cell < 36) : XXv l G yX4_drop cX4_drop 3 none 1 [.ref (ad 3), .int (nI cell)] ad ex st (sA st 2 (dropF cell (st.2.1 2))) := by
  refine xv_start (by decide) (Nat.le_of_ble_eq_true rfl) ?_
  intro zp ze zs zm zargs zbelow zmeth zc zQ ls F N hl hret
  have hx := F.1
  have hb := F.2.1
  have hl : lv_has ls 3 [(0, .ref (ad 3)), (1, .int (nI cell))] := hl
  refine lv_iconst (v := 0) hx hb dX4_drop_0 (by decide) ?_
  refine lv_istore_n (lv' := [(2, .int 0), (0, .ref (ad 3)), (1, .int (nI cell))]) hx hb dX4_drop_1 rfl hl (by decide) rfl (fun ls hl => ?_)
  have cut_2 : ∀ (k : Nat) (i : Nat) (g : Nat → Int32) (s1 : ST), i + k = 4 → s1 = sA st 2 g → lp (fun i g => upd g (cell * 4 + i) 0) k i g = dropF cell (st.2.1 2) → ∀ (H : Heap) (locs : List Loc) (ls : Array Slot), Now G zs (XW G ad s1 ++ ex) H locs → lv_has ls 3 [(0, .ref (ad 3)), (1, .int (nI cell)), (2, .int (nI i))] → W zp l ze (RM 1) zs zm zargs zbelow zmeth zc H locs 0 0 zQ (F0 zm 2 ls []) := by
    intro k
    induction k with
    | zero =>
      intro i g s1 hk hs hI H locs ls N hl
      refine lv_iload_n hx hb dX4_drop_2 rfl (lv_at hl 2 rfl) ?_
      refine lv_iconst (v := 4) hx hb dX4_drop_3 (by decide) ?_
      refine cmpN_ge (a := i) (b := 4) (tgt := 31) hx hb dX4_drop_4 (by decide) (by omega) (by omega) (fun c_4 => ?_) (fun c_4 => ?_)
      · have c_4v := Nat.not_lt.mpr c_4
        exact hret _ _ _ _ _ dX4_drop_31 (by rw [hs, ← hI]; rfl) N
      · exfalso; omega
    | succ k ih_2 =>
      intro i g s1 hk hs hI H locs ls N hl
      refine lv_iload_n hx hb dX4_drop_2 rfl (lv_at hl 2 rfl) ?_
      refine lv_iconst (v := 4) hx hb dX4_drop_3 (by decide) ?_
      refine cmpN_ge (a := i) (b := 4) (tgt := 31) hx hb dX4_drop_4 (by decide) (by omega) (by omega) (fun c_4 => ?_) (fun c_4 => ?_)
      · exfalso; omega
      · have c_4v := Nat.not_le.mp c_4
        refine lv_iload_n hx hb dX4_drop_7 rfl (lv_at hl 1 rfl) ?_
        refine cN_i F N (c_X8_isCell l G _ (nI cell)) miX8_isCell k_357 (by decide) hl.1 rfl (Nat.le_of_ble_eq_true rfl) dX4_drop_8 (fun H locs N => ?_)
        refine toI (y := 1) (by rw [xIsCe_nI hc]; rfl) ?_
        refine lv_if_eq (tgt := 31) hx hb dX4_drop_11 (by decide) (fun c_11 => ?_) (fun c_11 => ?_)
        · first | exact absurd c_11 (by decide) | exact absurd (by decide) c_11
        refine lv_aload_n hx hb dX4_drop_14 rfl (lv_at hl 0 rfl) ?_
        refine gx_3_slots F N k_122 dX4_drop_15 ?_
        refine lv_iload_n hx hb dX4_drop_18 rfl (lv_at hl 1 rfl) ?_
        refine lv_iconst (v := 4) hx hb dX4_drop_19 (by decide) ?_
        refine imulN (a := cell) (b := 4) hx hb dX4_drop_20 ?_
        refine lv_iload_n hx hb dX4_drop_21 rfl (lv_at hl 2 rfl) ?_
        refine iaddN (a := (cell * 4)) (b := i) hx hb dX4_drop_22 ?_
        refine lv_iconst (v := 0) hx hb dX4_drop_23 (by decide) ?_
        refine sxN_2 (j := ((cell * 4) + i)) F N (by omega) dX4_drop_24 (fun st_24 est_24 H locs N => ?_)
        refine lv_iinc (v := (nI (i + 1))) (lv' := [(2, .int (nI (i + 1))), (0, .ref (ad 3)), (1, .int (nI cell))]) hx hb dX4_drop_25 hl (k := 2) rfl (nI_1 i) (by decide) rfl (fun ls hl => ?_)
        refine lv_goto (tgt := 2) hx hb dX4_drop_28 (by decide) ?_
        exact ih_2 (i + 1) (upd g (cell * 4 + i) 0) st_24 (by omega) (by rw [est_24, hs]; simp [sA_21, sA_sA]) hI _ _ _ N (lv_sub hl [1, 2, 0] rfl)
  exact cut_2 4 0 (st.2.1 2) st (by omega) (sA_self rfl).symm rfl _ _ _ N (lv_sub hl [1, 2, 0] rfl)
set_option maxHeartbeats 4000000 in
set_option maxRecDepth 100000 in
theorem c_X4_wouldLose (l : Launch) (G : GM) (ad : Nat → Nat) (ex : va_W) (st : ST) (ax : Nat) (a : Nat) (n : Nat) (hx0 : ax < 2) (ha : a < 6) (hn : n ≤ 6) : XCi l G yX4_wouldLose cX4_wouldLose 5 (some .boolean) 3 [.ref (ad 3), .int (nI ax), .int (nI a), .int (nI n)] (XW G ad st ++ ex) (bI (wlL (st.2.1 2) ax a n 36 0)) (XW G ad st ++ ex) := by
  refine xi_start (by decide) (nar_bI _) (Nat.le_of_ble_eq_true rfl) ?_
  intro zp ze zs zm zargs zbelow zmeth zc zQ ls F N hl hret
  have hx := F.1
  have hb := F.2.1
  have hl : lv_has ls 5 [(0, .ref (ad 3)), (1, .int (nI ax)), (2, .int (nI a)), (3, .int (nI n))] := hl
  refine lv_iconst (v := 0) hx hb dX4_wouldLose_0 (by decide) ?_
  refine lv_istore (lv' := [(4, .int 0), (0, .ref (ad 3)), (1, .int (nI ax)), (2, .int (nI a)), (3, .int (nI n))]) hx hb dX4_wouldLose_1 hl (by decide) rfl (fun ls hl => ?_)
  have cut_3 : ∀ (k : Nat) (i : Nat), i + k = 36 → wlL (st.2.1 2) ax a n k i = wlL (st.2.1 2) ax a n 36 0 → ∀ (H : Heap) (locs : List Loc) (ls : Array Slot), Now G zs (XW G ad st ++ ex) H locs → lv_has ls 5 [(0, .ref (ad 3)), (1, .int (nI ax)), (2, .int (nI a)), (3, .int (nI n)), (4, .int (nI i))] → W zp l ze (RM 3) zs zm zargs zbelow zmeth zc H locs 0 0 zQ (F0 zm 3 ls []) := by
    intro k
    induction k with
    | zero =>
      intro i hk hI H locs ls N hl
      refine lv_iload hx hb dX4_wouldLose_3 (lv_at hl 4 rfl) ?_
      refine lv_bipush (v := 36) hx hb dX4_wouldLose_5 (by decide) ?_
      refine cmpN_ge (a := i) (b := 36) (tgt := 42) hx hb dX4_wouldLose_7 (by decide) (by omega) (by omega) (fun c_7 => ?_) (fun c_7 => ?_)
      · have c_7v := Nat.not_lt.mpr c_7
        refine lv_iconst (v := 0) hx hb dX4_wouldLose_42 (by decide) ?_
        exact hret _ _ _ _ _ _ dX4_wouldLose_43 (by rw [← hI]; simp [wlL, bI, c_7, c_7v]) (by rfl) N
      · exfalso; omega
    | succ k ih_3 =>
      intro i hk hI H locs ls N hl
      refine lv_iload hx hb dX4_wouldLose_3 (lv_at hl 4 rfl) ?_
      refine lv_bipush (v := 36) hx hb dX4_wouldLose_5 (by decide) ?_
      refine cmpN_ge (a := i) (b := 36) (tgt := 42) hx hb dX4_wouldLose_7 (by decide) (by omega) (by omega) (fun c_7 => ?_) (fun c_7 => ?_)
      · exfalso; omega
      · have c_7v := Nat.not_le.mp c_7
        refine lv_aload_n hx hb dX4_wouldLose_10 rfl (lv_at hl 0 rfl) ?_
        refine lv_iload hx hb dX4_wouldLose_11 (lv_at hl 4 rfl) ?_
        refine cV_i F N (c_X4_isEmpty l G ad ex st i (by omega)) miX4_isEmpty k_389 (by decide) hl.1 rfl (Nat.le_of_ble_eq_true rfl) (q0 := 3) (ci := 4) rfl rfl dX4_wouldLose_13 (fun H locs N => ?_)
        refine ifB_ne (tgt := 36) hx hb dX4_wouldLose_16 (by decide) (fun c_16 => ?_) (fun c_16 => ?_)
        · have c_16v := of_decide_eq_true c_16
          refine lv_iinc (v := (nI (i + 1))) (lv' := [(4, .int (nI (i + 1))), (0, .ref (ad 3)), (1, .int (nI ax)), (2, .int (nI a)), (3, .int (nI n))]) hx hb dX4_wouldLose_36 hl (k := 4) rfl (nI_1 i) (by decide) rfl (fun ls hl => ?_)
          refine lv_goto (tgt := 3) hx hb dX4_wouldLose_39 (by decide) ?_
          exact ih_3 (i + 1) (by omega) (by rw [← hI]; simp [wlL, c_7, c_7v, c_16, c_16v]) _ _ _ N (lv_sub hl [1, 2, 3, 4, 0] rfl)
        · have c_16v := of_decide_eq_false c_16
          refine lv_iload hx hb dX4_wouldLose_19 (lv_at hl 4 rfl) ?_
          refine lv_iload_n hx hb dX4_wouldLose_21 rfl (lv_at hl 1 rfl) ?_
          refine cS_i F N (c_X4_lineOf l G _ (nI i) (nI ax)) miX4_lineOf k_393 (by decide) hl.1 rfl (Nat.le_of_ble_eq_true rfl) dX4_wouldLose_22 (fun H locs N => ?_)
          refine toN (a := lnN i ax) (lnOf_nI (by omega) hx0) ?_
          refine lv_iload_n hx hb dX4_wouldLose_25 rfl (lv_at hl 2 rfl) ?_
          refine lv_iload_n hx hb dX4_wouldLose_26 rfl (lv_at hl 3 rfl) ?_
          refine cS_i F N (c_X4_lineAfterComing l G _ (nI (lnN i ax)) (nI a) (nI n)) miX4_lineAfterComing k_402 (by decide) hl.1 rfl (Nat.le_of_ble_eq_true rfl) dX4_wouldLose_27 (fun H locs N => ?_)
          refine toI (y := oI (cmN (lnN i ax) a n)) (lnCome_nI (lnN_lt (by omega)) ha hn) ?_
          refine lv_iconst (v := (-1)) hx hb dX4_wouldLose_30 (by decide) ?_
          refine lv_icmp_ne (tgt := 36) hx hb dX4_wouldLose_31 (by decide) (fun c_31 => ?_) (fun c_31 => ?_)
          · refine lv_iinc (v := (nI (i + 1))) (lv' := [(4, .int (nI (i + 1))), (0, .ref (ad 3)), (1, .int (nI ax)), (2, .int (nI a)), (3, .int (nI n))]) hx hb dX4_wouldLose_36 hl (k := 4) rfl (nI_1 i) (by decide) rfl (fun ls hl => ?_)
            refine lv_goto (tgt := 3) hx hb dX4_wouldLose_39 (by decide) ?_
            exact ih_3 (i + 1) (by omega) (by rw [← hI]; simp [wlL, c_7, c_7v, c_16, c_16v, c_31]) _ _ _ N (lv_sub hl [1, 2, 3, 4, 0] rfl)
          · refine lv_iconst (v := 1) hx hb dX4_wouldLose_34 (by decide) ?_
            exact hret _ _ _ _ _ _ dX4_wouldLose_35 (by rw [← hI]; simp [wlL, bI, c_7, c_7v, c_16, c_16v, c_31]) (by rfl) N
  exact cut_3 36 0 (by omega) rfl _ _ _ N (lv_sub hl [1, 2, 3, 4, 0] rfl)
set_option maxHeartbeats 4000000 in
set_option maxRecDepth 100000 in
theorem c_X4_lookAhead (l : Launch) (G : GM) (ad : Nat → Nat) (ex : va_W) (st : ST) : XXv l G yX4_lookAhead cX4_lookAhead 1 none 1 [.ref (ad 3)] ad ex st (sA st 3 (opH st)) := by
  refine xv_start (by decide) (Nat.le_of_ble_eq_true rfl) ?_
  intro zp ze zs zm zargs zbelow zmeth zc zQ ls F N hl hret
  have hx := F.1
  have hb := F.2.1
  have hl : lv_has ls 1 [(0, .ref (ad 3))] := hl
  refine lv_aload_n hx hb dX4_lookAhead_0 rfl (lv_at hl 0 rfl) ?_
  refine gx_3_slots F N k_122 dX4_lookAhead_1 ?_
  refine lv_iconst (v := 0) hx hb dX4_lookAhead_4 (by decide) ?_
  refine lv_aload_n hx hb dX4_lookAhead_5 rfl (lv_at hl 0 rfl) ?_
  refine gx_3_ahead F N k_124 dX4_lookAhead_6 ?_
  refine lv_iconst (v := 0) hx hb dX4_lookAhead_9 (by decide) ?_
  refine lv_sipush (v := 144) hx hb dX4_lookAhead_10 (by decide) ?_
  refine cx_2_3 (sp := 0) (dp := 0) (n := 144) F N hl.1 k_360 (by omega) (by omega) (by decide) rfl (Nat.le_of_ble_eq_true rfl) dX4_lookAhead_13 (fun st_13 est_13 H locs N => ?_)
  exact hret _ _ _ _ _ dX4_lookAhead_16 (by first | rfl | (subst est_13; rfl) | (subst est_13; simp [bI])) N
set_option maxHeartbeats 4000000 in
set_option maxRecDepth 100000 in
theorem c_X4_takeTo (l : Launch) (G : GM) (ad : Nat → Nat) (ex : va_W) (st : ST) (fr : Nat) (to : Nat) (hfr : fr < 36) (hto : to < 36) : XXv l G yX4_takeTo cX4_takeTo 4 none 1 [.ref (ad 3), .int (nI fr), .int (nI to)] ad ex st (sA st 2 (cpT (st.2.1 3) (st.2.1 2) fr to)) := by
  refine xv_start (by decide) (Nat.le_of_ble_eq_true rfl) ?_
  intro zp ze zs zm zargs zbelow zmeth zc zQ ls F N hl hret
  have hx := F.1
  have hb := F.2.1
  have hl : lv_has ls 4 [(0, .ref (ad 3)), (1, .int (nI fr)), (2, .int (nI to))] := hl
  refine lv_iload_n hx hb dX4_takeTo_0 rfl (lv_at hl 1 rfl) ?_
  refine cN_i F N (c_X8_isCell l G _ (nI fr)) miX8_isCell k_357 (by decide) hl.1 rfl (Nat.le_of_ble_eq_true rfl) dX4_takeTo_1 (fun H locs N => ?_)
  refine toI (y := 1) (by rw [xIsCe_nI hfr]; rfl) ?_
  refine lv_if_eq (tgt := 34) hx hb dX4_takeTo_4 (by decide) (fun c_4 => ?_) (fun c_4 => ?_)
  · first | exact absurd c_4 (by decide) | exact absurd (by decide) c_4
  refine lv_iload_n hx hb dX4_takeTo_7 rfl (lv_at hl 2 rfl) ?_
  refine cN_i F N (c_X8_isCell l G _ (nI to)) miX8_isCell k_357 (by decide) hl.1 rfl (Nat.le_of_ble_eq_true rfl) dX4_takeTo_8 (fun H locs N => ?_)
  refine toI (y := 1) (by rw [xIsCe_nI hto]; rfl) ?_
  refine lv_if_eq (tgt := 34) hx hb dX4_takeTo_11 (by decide) (fun c_11 => ?_) (fun c_11 => ?_)
  · first | exact absurd c_11 (by decide) | exact absurd (by decide) c_11
  refine lv_iload_n hx hb dX4_takeTo_14 rfl (lv_at hl 1 rfl) ?_
  refine lv_iconst (v := 4) hx hb dX4_takeTo_15 (by decide) ?_
  refine imulN (a := fr) (b := 4) hx hb dX4_takeTo_16 ?_
  refine lv_istore_n (lv' := [(3, .int (nI (fr * 4))), (0, .ref (ad 3)), (1, .int (nI fr)), (2, .int (nI to))]) hx hb dX4_takeTo_17 rfl hl (by decide) rfl (fun ls hl => ?_)
  refine lv_aload_n hx hb dX4_takeTo_18 rfl (lv_at hl 1 rfl) ?_
  refine gx_3_ahead F N k_124 dX4_takeTo_19 ?_
  refine lv_iload_n hx hb dX4_takeTo_22 rfl (lv_at hl 0 rfl) ?_
  refine lv_aload_n hx hb dX4_takeTo_23 rfl (lv_at hl 1 rfl) ?_
  refine gx_3_slots F N k_122 dX4_takeTo_24 ?_
  refine lv_iload_n hx hb dX4_takeTo_27 rfl (lv_at hl 3 rfl) ?_
  refine lv_iconst (v := 4) hx hb dX4_takeTo_28 (by decide) ?_
  refine imulN (a := to) (b := 4) hx hb dX4_takeTo_29 ?_
  refine lv_iconst (v := 4) hx hb dX4_takeTo_30 (by decide) ?_
  refine cx_3_2 (sp := (fr * 4)) (dp := (to * 4)) (n := 4) F N hl.1 k_360 (by omega) (by omega) (by decide) rfl (Nat.le_of_ble_eq_true rfl) dX4_takeTo_31 (fun st_31 est_31 H locs N => ?_)
  exact hret _ _ _ _ _ dX4_takeTo_34 (by first | rfl | (subst est_31; rfl) | (subst est_31; simp [bI])) N
set_option maxHeartbeats 4000000 in
set_option maxRecDepth 100000 in
theorem c_X4_takeAlong (l : Launch) (G : GM) (ad : Nat → Nat) (ex : va_W) (st : ST) (cell : Nat) (ax : Nat) (ln : Int32) (t : Nat) (hc : cell < 36) (hx0 : ax < 2) (hln : ln = -1 ∨ ln = nI t) (ht : t < 6) : XXv l G yX4_takeAlong cX4_takeAlong 5 none 2 [.ref (ad 3), .int (nI cell), .int (nI ax), .int ln] ad ex st (if ln = -1 then st else sA st 2 (cpT (st.2.1 3) (st.2.1 2) cell (tgN cell ax t))) := by
  refine xv_start (by decide) (Nat.le_of_ble_eq_true rfl) ?_
  intro zp ze zs zm zargs zbelow zmeth zc zQ ls F N hl hret
  have hx := F.1
  have hb := F.2.1
  have hl : lv_has ls 5 [(0, .ref (ad 3)), (1, .int (nI cell)), (2, .int (nI ax)), (3, .int ln)] := hl
  refine lv_iload_n hx hb dX4_takeAlong_0 rfl (lv_at hl 3 rfl) ?_
  refine lv_iconst (v := (-1)) hx hb dX4_takeAlong_1 (by decide) ?_
  refine lv_icmp_eq (tgt := 34) hx hb dX4_takeAlong_2 (by decide) (fun c_2 => ?_) (fun c_2 => ?_)
  · exact hret _ _ _ _ _ dX4_takeAlong_34 (by simp [c_2]) N
  · refine lv_iload_n hx hb dX4_takeAlong_5 rfl (lv_at hl 3 rfl) ?_
    refine lv_iload_n hx hb dX4_takeAlong_6 rfl (lv_at hl 1 rfl) ?_
    refine lv_iload_n hx hb dX4_takeAlong_7 rfl (lv_at hl 2 rfl) ?_
    refine cS_i F N (c_X4_lineOf l G _ (nI cell) (nI ax)) miX4_lineOf k_393 (by decide) hl.1 rfl (Nat.le_of_ble_eq_true rfl) dX4_takeAlong_8 (fun H locs N => ?_)
    refine toN (a := lnN cell ax) (lnOf_nI hc hx0) ?_
    refine lv_isub hx hb dX4_takeAlong_11 ?_
    refine lv_istore (lv' := [(4, .int (ln - (nI (lnN cell ax)))), (0, .ref (ad 3)), (1, .int (nI cell)), (2, .int (nI ax)), (3, .int ln)]) hx hb dX4_takeAlong_12 hl (by decide) rfl (fun ls hl => ?_)
    refine lv_aload_n hx hb dX4_takeAlong_14 rfl (lv_at hl 1 rfl) ?_
    refine lv_iload_n hx hb dX4_takeAlong_15 rfl (lv_at hl 2 rfl) ?_
    refine lv_iload_n hx hb dX4_takeAlong_16 rfl (lv_at hl 2 rfl) ?_
    refine lv_iload hx hb dX4_takeAlong_17 (lv_at hl 0 rfl) ?_
    refine lv_iload_n hx hb dX4_takeAlong_19 rfl (lv_at hl 3 rfl) ?_
    refine ifN_ne (a := ax) (tgt := 27) hx hb dX4_takeAlong_20 (by decide) (by omega) (fun c_20 => ?_) (fun c_20 => ?_)
    · refine lv_bipush (v := 6) hx hb dX4_takeAlong_27 (by decide) ?_
      refine lv_imul hx hb dX4_takeAlong_29 ?_
      refine lv_iadd hx hb dX4_takeAlong_30 ?_
      refine toN (a := tgN cell ax t) (by first | exact tg_col (hln.resolve_left c_2) c_20 | exact tg_row (hln.resolve_left c_2) c_20) ?_
      refine xV_v F N (c_X4_takeTo l G ad ex st cell (tgN cell ax t) hc (tgN_lt hc ht)) miX4_takeTo k_418 (by decide) hl.1 rfl (Nat.le_of_ble_eq_true rfl) (q0 := 3) (ci := 4) rfl rfl dX4_takeAlong_31 (fun st_31 est_31 H locs N => ?_)
      exact hret _ _ _ _ _ dX4_takeAlong_34 (by simp [est_31, c_2, c_20]) N
    · refine lv_iconst (v := 1) hx hb dX4_takeAlong_23 (by decide) ?_
      refine lv_goto (tgt := 29) hx hb dX4_takeAlong_24 (by decide) ?_
      refine lv_imul hx hb dX4_takeAlong_29 ?_
      refine lv_iadd hx hb dX4_takeAlong_30 ?_
      refine toN (a := tgN cell ax t) (by first | exact tg_col (hln.resolve_left c_2) c_20 | exact tg_row (hln.resolve_left c_2) c_20) ?_
      refine xV_v F N (c_X4_takeTo l G ad ex st cell (tgN cell ax t) hc (tgN_lt hc ht)) miX4_takeTo k_418 (by decide) hl.1 rfl (Nat.le_of_ble_eq_true rfl) (q0 := 3) (ci := 4) rfl rfl dX4_takeAlong_31 (fun st_31 est_31 H locs N => ?_)
      exact hret _ _ _ _ _ dX4_takeAlong_34 (by simp [est_31, c_2, c_20]) N
set_option maxHeartbeats 4000000 in
set_option maxRecDepth 100000 in
theorem c_X4_openLines (l : Launch) (G : GM) (ad : Nat → Nat) (ex : va_W) (st : ST) (ax : Nat) (a : Nat) (n : Nat) (hx0 : ax < 2) (ha : a < 6) (hn : n ≤ 6) : XXv l G yX4_openLines cX4_openLines 5 none 3 [.ref (ad 3), .int (nI ax), .int (nI a), .int (nI n)] ad ex st (sA (sA st 3 (opH st)) 2 (opF st ax a n)) := by
  refine xv_start (by decide) (Nat.le_of_ble_eq_true rfl) ?_
  intro zp ze zs zm zargs zbelow zmeth zc zQ ls F N hl hret
  have hx := F.1
  have hb := F.2.1
  have hl : lv_has ls 5 [(0, .ref (ad 3)), (1, .int (nI ax)), (2, .int (nI a)), (3, .int (nI n))] := hl
  refine lv_aload_n hx hb dX4_openLines_0 rfl (lv_at hl 0 rfl) ?_
  refine xV_v F N (c_X4_lookAhead l G ad ex st ) miX4_lookAhead k_409 (by decide) hl.1 rfl (Nat.le_of_ble_eq_true rfl) (q0 := 3) (ci := 4) rfl rfl dX4_openLines_1 (fun st_1 est_1 H locs N => ?_)
  refine lv_aload_n hx hb dX4_openLines_4 rfl (lv_at hl 0 rfl) ?_
  refine gx_3_slots F N k_122 dX4_openLines_5 ?_
  refine lv_iconst (v := 0) hx hb dX4_openLines_8 (by decide) ?_
  refine xS_v F N (c_fill_2 l G ad ex st_1 0) miJ7_fill_53178 k_413 (by decide) hl.1 rfl (Nat.le_of_ble_eq_true rfl) dX4_openLines_9 (fun st_9 est_9 H locs N => ?_)
  refine lv_iconst (v := 0) hx hb dX4_openLines_12 (by decide) ?_
  refine lv_istore (lv' := [(4, .int 0), (0, .ref (ad 3)), (1, .int (nI ax)), (2, .int (nI a)), (3, .int (nI n))]) hx hb dX4_openLines_13 hl (by decide) rfl (fun ls hl => ?_)
  have cut_15 : ∀ (k : Nat) (i : Nat) (g : Nat → Int32) (s1 : ST), i + k = 36 → s1 = sA (sA st 3 (opH st)) 2 g → lp (tkF (opH st) ax (fun x => cmN x a n)) k i g = lp (tkF (opH st) ax (fun x => cmN x a n)) 36 0 (fillF (st.2.1 2) 0 144) → ∀ (H : Heap) (locs : List Loc) (ls : Array Slot), Now G zs (XW G ad s1 ++ ex) H locs → lv_has ls 5 [(0, .ref (ad 3)), (1, .int (nI ax)), (2, .int (nI a)), (3, .int (nI n)), (4, .int (nI i))] → W zp l ze (RM 3) zs zm zargs zbelow zmeth zc H locs 0 0 zQ (F0 zm 15 ls []) := by
    intro k
    induction k with
    | zero =>
      intro i g s1 hk hs hI H locs ls N hl
      refine lv_iload hx hb dX4_openLines_15 (lv_at hl 4 rfl) ?_
      refine lv_bipush (v := 36) hx hb dX4_openLines_17 (by decide) ?_
      refine cmpN_ge (a := i) (b := 36) (tgt := 46) hx hb dX4_openLines_19 (by decide) (by omega) (by omega) (fun c_19 => ?_) (fun c_19 => ?_)
      · have c_19v := Nat.not_lt.mpr c_19
        refine lv_iconst (v := 0) hx hb dX4_openLines_46 (by decide) ?_
        refine lv_istore (lv' := [(4, .int 0), (0, .ref (ad 3)), (1, .int (nI ax)), (2, .int (nI a)), (3, .int (nI n))]) hx hb dX4_openLines_47 hl (by decide) rfl (fun ls hl => ?_)
        have cut_49 : ∀ (k : Nat) (i : Nat) (g : Nat → Int32) (s1 : ST), i + k = 144 → s1 = sA (sA st 3 (opH st)) 2 g → lp (fun i g => upd g i (tCome (g i) (nI ax) (nI a) (nI n))) k i g = opF st ax a n → ∀ (H : Heap) (locs : List Loc) (ls : Array Slot), Now G zs (XW G ad s1 ++ ex) H locs → lv_has ls 5 [(0, .ref (ad 3)), (1, .int (nI ax)), (2, .int (nI a)), (3, .int (nI n)), (4, .int (nI i))] → W zp l ze (RM 3) zs zm zargs zbelow zmeth zc H locs 0 0 zQ (F0 zm 49 ls []) := by
          intro k
          induction k with
          | zero =>
            intro i g s1 hk hs hI H locs ls N hl
            refine lv_iload hx hb dX4_openLines_49 (lv_at hl 4 rfl) ?_
            refine lv_sipush (v := 144) hx hb dX4_openLines_51 (by decide) ?_
            refine cmpN_ge (a := i) (b := 144) (tgt := 83) hx hb dX4_openLines_54 (by decide) (by omega) (by omega) (fun c_54 => ?_) (fun c_54 => ?_)
            · have c_54v := Nat.not_lt.mpr c_54
              exact hret _ _ _ _ _ dX4_openLines_83 (by rw [hs, ← hI]; rfl) N
            · exfalso; omega
          | succ k ih_49 =>
            intro i g s1 hk hs hI H locs ls N hl
            refine lv_iload hx hb dX4_openLines_49 (lv_at hl 4 rfl) ?_
            refine lv_sipush (v := 144) hx hb dX4_openLines_51 (by decide) ?_
            refine cmpN_ge (a := i) (b := 144) (tgt := 83) hx hb dX4_openLines_54 (by decide) (by omega) (by omega) (fun c_54 => ?_) (fun c_54 => ?_)
            · exfalso; omega
            · have c_54v := Nat.not_le.mp c_54
              refine lv_aload_n hx hb dX4_openLines_57 rfl (lv_at hl 0 rfl) ?_
              refine gx_3_slots F N k_122 dX4_openLines_58 ?_
              refine lv_iload hx hb dX4_openLines_61 (lv_at hl 4 rfl) ?_
              refine lv_aload_n hx hb dX4_openLines_63 rfl (lv_at hl 0 rfl) ?_
              refine gx_3_slots F N k_122 dX4_openLines_64 ?_
              refine lv_iload hx hb dX4_openLines_67 (lv_at hl 4 rfl) ?_
              refine axN_2 (j := i) F N (by omega) dX4_openLines_69 ?_
              refine toI (y := g i) (by rw [hs]; rfl) ?_
              refine lv_iload_n hx hb dX4_openLines_70 rfl (lv_at hl 1 rfl) ?_
              refine lv_iload_n hx hb dX4_openLines_71 rfl (lv_at hl 2 rfl) ?_
              refine lv_iload_n hx hb dX4_openLines_72 rfl (lv_at hl 3 rfl) ?_
              refine cS_i F N (c_X5_whenLinesCome l G _ (g i) (nI ax) (nI a) (nI n)) miX5_whenLinesCome k_422 (by decide) hl.1 rfl (Nat.le_of_ble_eq_true rfl) dX4_openLines_73 (fun H locs N => ?_)
              refine sxN_2 (j := i) F N (by omega) dX4_openLines_76 (fun st_76 est_76 H locs N => ?_)
              refine lv_iinc (v := (nI (i + 1))) (lv' := [(4, .int (nI (i + 1))), (0, .ref (ad 3)), (1, .int (nI ax)), (2, .int (nI a)), (3, .int (nI n))]) hx hb dX4_openLines_77 hl (k := 4) rfl (nI_1 i) (by decide) rfl (fun ls hl => ?_)
              refine lv_goto (tgt := 49) hx hb dX4_openLines_80 (by decide) ?_
              exact ih_49 (i + 1) (upd g i (tCome (g i) (nI ax) (nI a) (nI n))) st_76 (by omega) (by rw [est_76, hs]; simp [sA_21, sA_sA]) hI _ _ _ N (lv_sub hl [1, 2, 3, 4, 0] rfl)
        exact cut_49 144 0 g s1 (by omega) hs (by unfold opF; rw [← hI]; rfl) _ _ _ N (lv_sub hl [1, 2, 3, 4, 0] rfl)
      · exfalso; omega
    | succ k ih_15 =>
      intro i g s1 hk hs hI H locs ls N hl
      refine lv_iload hx hb dX4_openLines_15 (lv_at hl 4 rfl) ?_
      refine lv_bipush (v := 36) hx hb dX4_openLines_17 (by decide) ?_
      refine cmpN_ge (a := i) (b := 36) (tgt := 46) hx hb dX4_openLines_19 (by decide) (by omega) (by omega) (fun c_19 => ?_) (fun c_19 => ?_)
      · exfalso; omega
      · have c_19v := Nat.not_le.mp c_19
        refine lv_aload_n hx hb dX4_openLines_22 rfl (lv_at hl 0 rfl) ?_
        refine lv_iload hx hb dX4_openLines_23 (lv_at hl 4 rfl) ?_
        refine lv_iload_n hx hb dX4_openLines_25 rfl (lv_at hl 1 rfl) ?_
        refine lv_iload hx hb dX4_openLines_26 (lv_at hl 4 rfl) ?_
        refine lv_iload_n hx hb dX4_openLines_28 rfl (lv_at hl 1 rfl) ?_
        refine cS_i F N (c_X4_lineOf l G _ (nI i) (nI ax)) miX4_lineOf k_393 (by decide) hl.1 rfl (Nat.le_of_ble_eq_true rfl) dX4_openLines_29 (fun H locs N => ?_)
        refine toN (a := lnN i ax) (lnOf_nI (by omega) hx0) ?_
        refine lv_iload_n hx hb dX4_openLines_32 rfl (lv_at hl 2 rfl) ?_
        refine lv_iload_n hx hb dX4_openLines_33 rfl (lv_at hl 3 rfl) ?_
        refine cS_i F N (c_X4_lineAfterComing l G _ (nI (lnN i ax)) (nI a) (nI n)) miX4_lineAfterComing k_402 (by decide) hl.1 rfl (Nat.le_of_ble_eq_true rfl) dX4_openLines_34 (fun H locs N => ?_)
        refine toI (y := oI (cmN (lnN i ax) a n)) (lnCome_nI (lnN_lt (by omega)) ha hn) ?_
        refine xV_v F N (c_X4_takeAlong l G ad ex s1 i ax (oI (cmN (lnN i ax) a n)) ((cmN (lnN i ax) a n).getD 0) (by omega) hx0 (oI_or _) (cmN_lt (lnN_lt (by omega)))) miX4_takeAlong k_414 (by decide) hl.1 rfl (Nat.le_of_ble_eq_true rfl) (q0 := 3) (ci := 4) rfl rfl dX4_openLines_37 (fun st_37 est_37 H locs N => ?_)
        refine lv_iinc (v := (nI (i + 1))) (lv' := [(4, .int (nI (i + 1))), (0, .ref (ad 3)), (1, .int (nI ax)), (2, .int (nI a)), (3, .int (nI n))]) hx hb dX4_openLines_40 hl (k := 4) rfl (nI_1 i) (by decide) rfl (fun ls hl => ?_)
        refine lv_goto (tgt := 15) hx hb dX4_openLines_43 (by decide) ?_
        exact ih_15 (i + 1) (tkF (opH st) ax (fun x => cmN x a n) i g) st_37 (by omega) (by rw [est_37, hs]; unfold tkF; split <;> simp [sA_21, sA_sA]) hI _ _ _ N (lv_sub hl [1, 2, 3, 4, 0] rfl)
  exact cut_15 36 0 (fillF (st.2.1 2) 0 144) st_9 (by omega) (by rw [est_9, est_1]; simp [sA_21]) rfl _ _ _ N (lv_sub hl [1, 2, 3, 4, 0] rfl)
set_option maxHeartbeats 4000000 in
set_option maxRecDepth 100000 in
theorem c_X4_closeLines (l : Launch) (G : GM) (ad : Nat → Nat) (ex : va_W) (st : ST) (ax : Nat) (a : Nat) (n : Nat) (hx0 : ax < 2) (ha : a < 6) (hn : n ≤ 6) : XXv l G yX4_closeLines cX4_closeLines 5 none 3 [.ref (ad 3), .int (nI ax), .int (nI a), .int (nI n)] ad ex st (sA (sA st 3 (opH st)) 2 (clF st ax a n)) := by
  refine xv_start (by decide) (Nat.le_of_ble_eq_true rfl) ?_
  intro zp ze zs zm zargs zbelow zmeth zc zQ ls F N hl hret
  have hx := F.1
  have hb := F.2.1
  have hl : lv_has ls 5 [(0, .ref (ad 3)), (1, .int (nI ax)), (2, .int (nI a)), (3, .int (nI n))] := hl
  refine lv_aload_n hx hb dX4_closeLines_0 rfl (lv_at hl 0 rfl) ?_
  refine xV_v F N (c_X4_lookAhead l G ad ex st ) miX4_lookAhead k_409 (by decide) hl.1 rfl (Nat.le_of_ble_eq_true rfl) (q0 := 3) (ci := 4) rfl rfl dX4_closeLines_1 (fun st_1 est_1 H locs N => ?_)
  refine lv_aload_n hx hb dX4_closeLines_4 rfl (lv_at hl 0 rfl) ?_
  refine gx_3_slots F N k_122 dX4_closeLines_5 ?_
  refine lv_iconst (v := 0) hx hb dX4_closeLines_8 (by decide) ?_
  refine xS_v F N (c_fill_2 l G ad ex st_1 0) miJ7_fill_53178 k_413 (by decide) hl.1 rfl (Nat.le_of_ble_eq_true rfl) dX4_closeLines_9 (fun st_9 est_9 H locs N => ?_)
  refine lv_iconst (v := 0) hx hb dX4_closeLines_12 (by decide) ?_
  refine lv_istore (lv' := [(4, .int 0), (0, .ref (ad 3)), (1, .int (nI ax)), (2, .int (nI a)), (3, .int (nI n))]) hx hb dX4_closeLines_13 hl (by decide) rfl (fun ls hl => ?_)
  have cut_15 : ∀ (k : Nat) (i : Nat) (g : Nat → Int32) (s1 : ST), i + k = 36 → s1 = sA (sA st 3 (opH st)) 2 g → lp (tkF (opH st) ax (fun x => goN x a n)) k i g = lp (tkF (opH st) ax (fun x => goN x a n)) 36 0 (fillF (st.2.1 2) 0 144) → ∀ (H : Heap) (locs : List Loc) (ls : Array Slot), Now G zs (XW G ad s1 ++ ex) H locs → lv_has ls 5 [(0, .ref (ad 3)), (1, .int (nI ax)), (2, .int (nI a)), (3, .int (nI n)), (4, .int (nI i))] → W zp l ze (RM 3) zs zm zargs zbelow zmeth zc H locs 0 0 zQ (F0 zm 15 ls []) := by
    intro k
    induction k with
    | zero =>
      intro i g s1 hk hs hI H locs ls N hl
      refine lv_iload hx hb dX4_closeLines_15 (lv_at hl 4 rfl) ?_
      refine lv_bipush (v := 36) hx hb dX4_closeLines_17 (by decide) ?_
      refine cmpN_ge (a := i) (b := 36) (tgt := 46) hx hb dX4_closeLines_19 (by decide) (by omega) (by omega) (fun c_19 => ?_) (fun c_19 => ?_)
      · have c_19v := Nat.not_lt.mpr c_19
        refine lv_iconst (v := 0) hx hb dX4_closeLines_46 (by decide) ?_
        refine lv_istore (lv' := [(4, .int 0), (0, .ref (ad 3)), (1, .int (nI ax)), (2, .int (nI a)), (3, .int (nI n))]) hx hb dX4_closeLines_47 hl (by decide) rfl (fun ls hl => ?_)
        have cut_49 : ∀ (k : Nat) (i : Nat) (g : Nat → Int32) (s1 : ST), i + k = 144 → s1 = sA (sA st 3 (opH st)) 2 g → lp (fun i g => upd g i (tGo (g i) (nI ax) (nI a) (nI n))) k i g = clF st ax a n → ∀ (H : Heap) (locs : List Loc) (ls : Array Slot), Now G zs (XW G ad s1 ++ ex) H locs → lv_has ls 5 [(0, .ref (ad 3)), (1, .int (nI ax)), (2, .int (nI a)), (3, .int (nI n)), (4, .int (nI i))] → W zp l ze (RM 3) zs zm zargs zbelow zmeth zc H locs 0 0 zQ (F0 zm 49 ls []) := by
          intro k
          induction k with
          | zero =>
            intro i g s1 hk hs hI H locs ls N hl
            refine lv_iload hx hb dX4_closeLines_49 (lv_at hl 4 rfl) ?_
            refine lv_sipush (v := 144) hx hb dX4_closeLines_51 (by decide) ?_
            refine cmpN_ge (a := i) (b := 144) (tgt := 83) hx hb dX4_closeLines_54 (by decide) (by omega) (by omega) (fun c_54 => ?_) (fun c_54 => ?_)
            · have c_54v := Nat.not_lt.mpr c_54
              exact hret _ _ _ _ _ dX4_closeLines_83 (by rw [hs, ← hI]; rfl) N
            · exfalso; omega
          | succ k ih_49 =>
            intro i g s1 hk hs hI H locs ls N hl
            refine lv_iload hx hb dX4_closeLines_49 (lv_at hl 4 rfl) ?_
            refine lv_sipush (v := 144) hx hb dX4_closeLines_51 (by decide) ?_
            refine cmpN_ge (a := i) (b := 144) (tgt := 83) hx hb dX4_closeLines_54 (by decide) (by omega) (by omega) (fun c_54 => ?_) (fun c_54 => ?_)
            · exfalso; omega
            · have c_54v := Nat.not_le.mp c_54
              refine lv_aload_n hx hb dX4_closeLines_57 rfl (lv_at hl 0 rfl) ?_
              refine gx_3_slots F N k_122 dX4_closeLines_58 ?_
              refine lv_iload hx hb dX4_closeLines_61 (lv_at hl 4 rfl) ?_
              refine lv_aload_n hx hb dX4_closeLines_63 rfl (lv_at hl 0 rfl) ?_
              refine gx_3_slots F N k_122 dX4_closeLines_64 ?_
              refine lv_iload hx hb dX4_closeLines_67 (lv_at hl 4 rfl) ?_
              refine axN_2 (j := i) F N (by omega) dX4_closeLines_69 ?_
              refine toI (y := g i) (by rw [hs]; rfl) ?_
              refine lv_iload_n hx hb dX4_closeLines_70 rfl (lv_at hl 1 rfl) ?_
              refine lv_iload_n hx hb dX4_closeLines_71 rfl (lv_at hl 2 rfl) ?_
              refine lv_iload_n hx hb dX4_closeLines_72 rfl (lv_at hl 3 rfl) ?_
              refine cS_i F N (c_X5_whenLinesGo l G _ (g i) (nI ax) (nI a) (nI n)) miX5_whenLinesGo k_453 (by decide) hl.1 rfl (Nat.le_of_ble_eq_true rfl) dX4_closeLines_73 (fun H locs N => ?_)
              refine sxN_2 (j := i) F N (by omega) dX4_closeLines_76 (fun st_76 est_76 H locs N => ?_)
              refine lv_iinc (v := (nI (i + 1))) (lv' := [(4, .int (nI (i + 1))), (0, .ref (ad 3)), (1, .int (nI ax)), (2, .int (nI a)), (3, .int (nI n))]) hx hb dX4_closeLines_77 hl (k := 4) rfl (nI_1 i) (by decide) rfl (fun ls hl => ?_)
              refine lv_goto (tgt := 49) hx hb dX4_closeLines_80 (by decide) ?_
              exact ih_49 (i + 1) (upd g i (tGo (g i) (nI ax) (nI a) (nI n))) st_76 (by omega) (by rw [est_76, hs]; simp [sA_21, sA_sA]) hI _ _ _ N (lv_sub hl [1, 2, 3, 4, 0] rfl)
        exact cut_49 144 0 g s1 (by omega) hs (by unfold clF; rw [← hI]; rfl) _ _ _ N (lv_sub hl [1, 2, 3, 4, 0] rfl)
      · exfalso; omega
    | succ k ih_15 =>
      intro i g s1 hk hs hI H locs ls N hl
      refine lv_iload hx hb dX4_closeLines_15 (lv_at hl 4 rfl) ?_
      refine lv_bipush (v := 36) hx hb dX4_closeLines_17 (by decide) ?_
      refine cmpN_ge (a := i) (b := 36) (tgt := 46) hx hb dX4_closeLines_19 (by decide) (by omega) (by omega) (fun c_19 => ?_) (fun c_19 => ?_)
      · exfalso; omega
      · have c_19v := Nat.not_le.mp c_19
        refine lv_aload_n hx hb dX4_closeLines_22 rfl (lv_at hl 0 rfl) ?_
        refine lv_iload hx hb dX4_closeLines_23 (lv_at hl 4 rfl) ?_
        refine lv_iload_n hx hb dX4_closeLines_25 rfl (lv_at hl 1 rfl) ?_
        refine lv_iload hx hb dX4_closeLines_26 (lv_at hl 4 rfl) ?_
        refine lv_iload_n hx hb dX4_closeLines_28 rfl (lv_at hl 1 rfl) ?_
        refine cS_i F N (c_X4_lineOf l G _ (nI i) (nI ax)) miX4_lineOf k_393 (by decide) hl.1 rfl (Nat.le_of_ble_eq_true rfl) dX4_closeLines_29 (fun H locs N => ?_)
        refine toN (a := lnN i ax) (lnOf_nI (by omega) hx0) ?_
        refine lv_iload_n hx hb dX4_closeLines_32 rfl (lv_at hl 2 rfl) ?_
        refine lv_iload_n hx hb dX4_closeLines_33 rfl (lv_at hl 3 rfl) ?_
        refine cS_i F N (c_X4_lineAfterGoing l G _ (nI (lnN i ax)) (nI a) (nI n)) miX4_lineAfterGoing k_450 (by decide) hl.1 rfl (Nat.le_of_ble_eq_true rfl) dX4_closeLines_34 (fun H locs N => ?_)
        refine toI (y := oI (goN (lnN i ax) a n)) (lnGo_nI (lnN_lt (by omega)) ha hn) ?_
        refine xV_v F N (c_X4_takeAlong l G ad ex s1 i ax (oI (goN (lnN i ax) a n)) ((goN (lnN i ax) a n).getD 0) (by omega) hx0 (oI_or _) (goN_lt (lnN_lt (by omega)))) miX4_takeAlong k_414 (by decide) hl.1 rfl (Nat.le_of_ble_eq_true rfl) (q0 := 3) (ci := 4) rfl rfl dX4_closeLines_37 (fun st_37 est_37 H locs N => ?_)
        refine lv_iinc (v := (nI (i + 1))) (lv' := [(4, .int (nI (i + 1))), (0, .ref (ad 3)), (1, .int (nI ax)), (2, .int (nI a)), (3, .int (nI n))]) hx hb dX4_closeLines_40 hl (k := 4) rfl (nI_1 i) (by decide) rfl (fun ls hl => ?_)
        refine lv_goto (tgt := 15) hx hb dX4_closeLines_43 (by decide) ?_
        exact ih_15 (i + 1) (tkF (opH st) ax (fun x => goN x a n) i g) st_37 (by omega) (by rw [est_37, hs]; unfold tkF; split <;> simp [sA_21, sA_sA]) hI _ _ _ N (lv_sub hl [1, 2, 3, 4, 0] rfl)
  exact cut_15 36 0 (fillF (st.2.1 2) 0 144) st_9 (by omega) (by rw [est_9, est_1]; simp [sA_21]) rfl _ _ _ N (lv_sub hl [1, 2, 3, 4, 0] rfl)
set_option maxHeartbeats 4000000 in
set_option maxRecDepth 100000 in
theorem c_X4_filledCells (l : Launch) (G : GM) (ad : Nat → Nat) (ex : va_W) (st : ST) : XCi l G yX4_filledCells cX4_filledCells 3 (some .int) 3 [.ref (ad 3)] (XW G ad st ++ ex) (nI (cnt (fun c => decide (¬ tm (st.2.1 2) c 0 = 0)) 36 0 0)) (XW G ad st ++ ex) := by
  refine xi_start (by decide) rfl (Nat.le_of_ble_eq_true rfl) ?_
  intro zp ze zs zm zargs zbelow zmeth zc zQ ls F N hl hret
  have hx := F.1
  have hb := F.2.1
  have hl : lv_has ls 3 [(0, .ref (ad 3))] := hl
  refine lv_iconst (v := 0) hx hb dX4_filledCells_0 (by decide) ?_
  refine lv_istore_n (lv' := [(1, .int 0), (0, .ref (ad 3))]) hx hb dX4_filledCells_1 rfl hl (by decide) rfl (fun ls hl => ?_)
  refine lv_iconst (v := 0) hx hb dX4_filledCells_2 (by decide) ?_
  refine lv_istore_n (lv' := [(2, .int 0), (1, .int 0), (0, .ref (ad 3))]) hx hb dX4_filledCells_3 rfl hl (by decide) rfl (fun ls hl => ?_)
  have cut_4 : ∀ (k : Nat) (n : Nat) (i : Nat), i + k = 36 → n ≤ i → cnt (fun c => decide (¬ tm (st.2.1 2) c 0 = 0)) k i n = cnt (fun c => decide (¬ tm (st.2.1 2) c 0 = 0)) 36 0 0 → ∀ (H : Heap) (locs : List Loc) (ls : Array Slot), Now G zs (XW G ad st ++ ex) H locs → lv_has ls 3 [(0, .ref (ad 3)), (1, .int (nI n)), (2, .int (nI i))] → W zp l ze (RM 3) zs zm zargs zbelow zmeth zc H locs 0 0 zQ (F0 zm 4 ls []) := by
    intro k
    induction k with
    | zero =>
      intro n i hk hn2 hI H locs ls N hl
      refine lv_iload_n hx hb dX4_filledCells_4 rfl (lv_at hl 2 rfl) ?_
      refine lv_bipush (v := 36) hx hb dX4_filledCells_5 (by decide) ?_
      refine cmpN_ge (a := i) (b := 36) (tgt := 27) hx hb dX4_filledCells_7 (by decide) (by omega) (by omega) (fun c_7 => ?_) (fun c_7 => ?_)
      · have c_7v := Nat.not_lt.mpr c_7
        refine lv_iload_n hx hb dX4_filledCells_27 rfl (lv_at hl 1 rfl) ?_
        exact hret _ _ _ _ _ _ dX4_filledCells_28 (by rw [← hI]; rfl) (by rfl) N
      · exfalso; omega
    | succ k ih_4 =>
      intro n i hk hn2 hI H locs ls N hl
      refine lv_iload_n hx hb dX4_filledCells_4 rfl (lv_at hl 2 rfl) ?_
      refine lv_bipush (v := 36) hx hb dX4_filledCells_5 (by decide) ?_
      refine cmpN_ge (a := i) (b := 36) (tgt := 27) hx hb dX4_filledCells_7 (by decide) (by omega) (by omega) (fun c_7 => ?_) (fun c_7 => ?_)
      · exfalso; omega
      · have c_7v := Nat.not_le.mp c_7
        refine lv_aload_n hx hb dX4_filledCells_10 rfl (lv_at hl 0 rfl) ?_
        refine lv_iload_n hx hb dX4_filledCells_11 rfl (lv_at hl 2 rfl) ?_
        refine cV_i F N (c_X4_isEmpty l G ad ex st i (by omega)) miX4_isEmpty k_389 (by decide) hl.1 rfl (Nat.le_of_ble_eq_true rfl) (q0 := 3) (ci := 4) rfl rfl dX4_filledCells_12 (fun H locs N => ?_)
        refine ifB_ne (tgt := 21) hx hb dX4_filledCells_15 (by decide) (fun c_15 => ?_) (fun c_15 => ?_)
        · have c_15v := of_decide_eq_true c_15
          refine lv_iinc (v := (nI (i + 1))) (lv' := [(2, .int (nI (i + 1))), (0, .ref (ad 3)), (1, .int (nI n))]) hx hb dX4_filledCells_21 hl (k := 2) rfl (nI_1 i) (by decide) rfl (fun ls hl => ?_)
          refine lv_goto (tgt := 4) hx hb dX4_filledCells_24 (by decide) ?_
          exact ih_4 n (i + 1) (by omega) (by omega) (by rw [← hI]; simp [cnt, c_7, c_7v, c_15, c_15v]) _ _ _ N (lv_sub hl [1, 2, 0] rfl)
        · have c_15v := of_decide_eq_false c_15
          refine lv_iinc (v := (nI (n + 1))) (lv' := [(1, .int (nI (n + 1))), (0, .ref (ad 3)), (2, .int (nI i))]) hx hb dX4_filledCells_18 hl (k := 1) rfl (nI_1 n) (by decide) rfl (fun ls hl => ?_)
          refine lv_iinc (v := (nI (i + 1))) (lv' := [(2, .int (nI (i + 1))), (1, .int (nI (n + 1))), (0, .ref (ad 3))]) hx hb dX4_filledCells_21 hl (k := 2) rfl (nI_1 i) (by decide) rfl (fun ls hl => ?_)
          refine lv_goto (tgt := 4) hx hb dX4_filledCells_24 (by decide) ?_
          exact ih_4 (n + 1) (i + 1) (by omega) (by omega) (by rw [← hI]; simp [cnt, c_7, c_7v, c_15, c_15v]) _ _ _ N (lv_sub hl [2, 1, 0] rfl)
  exact cut_4 36 0 0 (by omega) (by omega) rfl _ _ _ N (lv_sub hl [2, 1, 0] rfl)
set_option maxHeartbeats 4000000 in
set_option maxRecDepth 100000 in
theorem c_X4_allTerms (l : Launch) (G : GM) (ad : Nat → Nat) (ex : va_W) (st : ST) : XCi l G yX4_allTerms cX4_allTerms 3 (some .int) 0 [.ref (ad 3)] (XW G ad st ++ ex) (nI (cnt (fun i => decide (¬ st.2.1 2 i = 0)) 144 0 0)) (XW G ad st ++ ex) := by
  refine xi_start (by decide) rfl (Nat.le_of_ble_eq_true rfl) ?_
  intro zp ze zs zm zargs zbelow zmeth zc zQ ls F N hl hret
  have hx := F.1
  have hb := F.2.1
  have hl : lv_has ls 3 [(0, .ref (ad 3))] := hl
  refine lv_iconst (v := 0) hx hb dX4_allTerms_0 (by decide) ?_
  refine lv_istore_n (lv' := [(1, .int 0), (0, .ref (ad 3))]) hx hb dX4_allTerms_1 rfl hl (by decide) rfl (fun ls hl => ?_)
  refine lv_iconst (v := 0) hx hb dX4_allTerms_2 (by decide) ?_
  refine lv_istore_n (lv' := [(2, .int 0), (1, .int 0), (0, .ref (ad 3))]) hx hb dX4_allTerms_3 rfl hl (by decide) rfl (fun ls hl => ?_)
  have cut_4 : ∀ (k : Nat) (n : Nat) (i : Nat), i + k = 144 → n ≤ i → cnt (fun i => decide (¬ st.2.1 2 i = 0)) k i n = cnt (fun i => decide (¬ st.2.1 2 i = 0)) 144 0 0 → ∀ (H : Heap) (locs : List Loc) (ls : Array Slot), Now G zs (XW G ad st ++ ex) H locs → lv_has ls 3 [(0, .ref (ad 3)), (1, .int (nI n)), (2, .int (nI i))] → W zp l ze (RM 0) zs zm zargs zbelow zmeth zc H locs 0 0 zQ (F0 zm 4 ls []) := by
    intro k
    induction k with
    | zero =>
      intro n i hk hn2 hI H locs ls N hl
      refine lv_iload_n hx hb dX4_allTerms_4 rfl (lv_at hl 2 rfl) ?_
      refine lv_sipush (v := 144) hx hb dX4_allTerms_5 (by decide) ?_
      refine cmpN_ge (a := i) (b := 144) (tgt := 29) hx hb dX4_allTerms_8 (by decide) (by omega) (by omega) (fun c_8 => ?_) (fun c_8 => ?_)
      · have c_8v := Nat.not_lt.mpr c_8
        refine lv_iload_n hx hb dX4_allTerms_29 rfl (lv_at hl 1 rfl) ?_
        exact hret _ _ _ _ _ _ dX4_allTerms_30 (by rw [← hI]; rfl) (by rfl) N
      · exfalso; omega
    | succ k ih_4 =>
      intro n i hk hn2 hI H locs ls N hl
      refine lv_iload_n hx hb dX4_allTerms_4 rfl (lv_at hl 2 rfl) ?_
      refine lv_sipush (v := 144) hx hb dX4_allTerms_5 (by decide) ?_
      refine cmpN_ge (a := i) (b := 144) (tgt := 29) hx hb dX4_allTerms_8 (by decide) (by omega) (by omega) (fun c_8 => ?_) (fun c_8 => ?_)
      · exfalso; omega
      · have c_8v := Nat.not_le.mp c_8
        refine lv_aload_n hx hb dX4_allTerms_11 rfl (lv_at hl 0 rfl) ?_
        refine gx_3_slots F N k_122 dX4_allTerms_12 ?_
        refine lv_iload_n hx hb dX4_allTerms_15 rfl (lv_at hl 2 rfl) ?_
        refine axN_2 (j := i) F N (by omega) dX4_allTerms_16 ?_
        refine lv_if_eq (tgt := 23) hx hb dX4_allTerms_17 (by decide) (fun c_17 => ?_) (fun c_17 => ?_)
        · refine lv_iinc (v := (nI (i + 1))) (lv' := [(2, .int (nI (i + 1))), (0, .ref (ad 3)), (1, .int (nI n))]) hx hb dX4_allTerms_23 hl (k := 2) rfl (nI_1 i) (by decide) rfl (fun ls hl => ?_)
          refine lv_goto (tgt := 4) hx hb dX4_allTerms_26 (by decide) ?_
          exact ih_4 n (i + 1) (by omega) (by omega) (by rw [← hI]; simp [cnt, c_8, c_8v, c_17]) _ _ _ N (lv_sub hl [1, 2, 0] rfl)
        · refine lv_iinc (v := (nI (n + 1))) (lv' := [(1, .int (nI (n + 1))), (0, .ref (ad 3)), (2, .int (nI i))]) hx hb dX4_allTerms_20 hl (k := 1) rfl (nI_1 n) (by decide) rfl (fun ls hl => ?_)
          refine lv_iinc (v := (nI (i + 1))) (lv' := [(2, .int (nI (i + 1))), (1, .int (nI (n + 1))), (0, .ref (ad 3))]) hx hb dX4_allTerms_23 hl (k := 2) rfl (nI_1 i) (by decide) rfl (fun ls hl => ?_)
          refine lv_goto (tgt := 4) hx hb dX4_allTerms_26 (by decide) ?_
          exact ih_4 (n + 1) (i + 1) (by omega) (by omega) (by rw [← hI]; simp [cnt, c_8, c_8v, c_17]) _ _ _ N (lv_sub hl [2, 1, 0] rfl)
  exact cut_4 144 0 0 (by omega) (by omega) rfl _ _ _ N (lv_sub hl [2, 1, 0] rfl)
set_option maxHeartbeats 4000000 in
set_option maxRecDepth 100000 in
theorem c_X4_brokenTerms (l : Launch) (G : GM) (ad : Nat → Nat) (ex : va_W) (st : ST) : XCi l G yX4_brokenTerms cX4_brokenTerms 3 (some .int) 0 [.ref (ad 3)] (XW G ad st ++ ex) (nI (cnt (fun i => decide (st.2.1 2 i = 4)) 144 0 0)) (XW G ad st ++ ex) := by
  refine xi_start (by decide) rfl (Nat.le_of_ble_eq_true rfl) ?_
  intro zp ze zs zm zargs zbelow zmeth zc zQ ls F N hl hret
  have hx := F.1
  have hb := F.2.1
  have hl : lv_has ls 3 [(0, .ref (ad 3))] := hl
  refine lv_iconst (v := 0) hx hb dX4_brokenTerms_0 (by decide) ?_
  refine lv_istore_n (lv' := [(1, .int 0), (0, .ref (ad 3))]) hx hb dX4_brokenTerms_1 rfl hl (by decide) rfl (fun ls hl => ?_)
  refine lv_iconst (v := 0) hx hb dX4_brokenTerms_2 (by decide) ?_
  refine lv_istore_n (lv' := [(2, .int 0), (1, .int 0), (0, .ref (ad 3))]) hx hb dX4_brokenTerms_3 rfl hl (by decide) rfl (fun ls hl => ?_)
  have cut_4 : ∀ (k : Nat) (n : Nat) (i : Nat), i + k = 144 → n ≤ i → cnt (fun i => decide (st.2.1 2 i = 4)) k i n = cnt (fun i => decide (st.2.1 2 i = 4)) 144 0 0 → ∀ (H : Heap) (locs : List Loc) (ls : Array Slot), Now G zs (XW G ad st ++ ex) H locs → lv_has ls 3 [(0, .ref (ad 3)), (1, .int (nI n)), (2, .int (nI i))] → W zp l ze (RM 0) zs zm zargs zbelow zmeth zc H locs 0 0 zQ (F0 zm 4 ls []) := by
    intro k
    induction k with
    | zero =>
      intro n i hk hn2 hI H locs ls N hl
      refine lv_iload_n hx hb dX4_brokenTerms_4 rfl (lv_at hl 2 rfl) ?_
      refine lv_sipush (v := 144) hx hb dX4_brokenTerms_5 (by decide) ?_
      refine cmpN_ge (a := i) (b := 144) (tgt := 30) hx hb dX4_brokenTerms_8 (by decide) (by omega) (by omega) (fun c_8 => ?_) (fun c_8 => ?_)
      · have c_8v := Nat.not_lt.mpr c_8
        refine lv_iload_n hx hb dX4_brokenTerms_30 rfl (lv_at hl 1 rfl) ?_
        exact hret _ _ _ _ _ _ dX4_brokenTerms_31 (by rw [← hI]; rfl) (by rfl) N
      · exfalso; omega
    | succ k ih_4 =>
      intro n i hk hn2 hI H locs ls N hl
      refine lv_iload_n hx hb dX4_brokenTerms_4 rfl (lv_at hl 2 rfl) ?_
      refine lv_sipush (v := 144) hx hb dX4_brokenTerms_5 (by decide) ?_
      refine cmpN_ge (a := i) (b := 144) (tgt := 30) hx hb dX4_brokenTerms_8 (by decide) (by omega) (by omega) (fun c_8 => ?_) (fun c_8 => ?_)
      · exfalso; omega
      · have c_8v := Nat.not_le.mp c_8
        refine lv_aload_n hx hb dX4_brokenTerms_11 rfl (lv_at hl 0 rfl) ?_
        refine gx_3_slots F N k_122 dX4_brokenTerms_12 ?_
        refine lv_iload_n hx hb dX4_brokenTerms_15 rfl (lv_at hl 2 rfl) ?_
        refine axN_2 (j := i) F N (by omega) dX4_brokenTerms_16 ?_
        refine lv_iconst (v := 4) hx hb dX4_brokenTerms_17 (by decide) ?_
        refine lv_icmp_ne (tgt := 24) hx hb dX4_brokenTerms_18 (by decide) (fun c_18 => ?_) (fun c_18 => ?_)
        · refine lv_iinc (v := (nI (i + 1))) (lv' := [(2, .int (nI (i + 1))), (0, .ref (ad 3)), (1, .int (nI n))]) hx hb dX4_brokenTerms_24 hl (k := 2) rfl (nI_1 i) (by decide) rfl (fun ls hl => ?_)
          refine lv_goto (tgt := 4) hx hb dX4_brokenTerms_27 (by decide) ?_
          exact ih_4 n (i + 1) (by omega) (by omega) (by rw [← hI]; simp [cnt, c_8, c_8v, c_18]) _ _ _ N (lv_sub hl [1, 2, 0] rfl)
        · refine lv_iinc (v := (nI (n + 1))) (lv' := [(1, .int (nI (n + 1))), (0, .ref (ad 3)), (2, .int (nI i))]) hx hb dX4_brokenTerms_21 hl (k := 1) rfl (nI_1 n) (by decide) rfl (fun ls hl => ?_)
          refine lv_iinc (v := (nI (i + 1))) (lv' := [(2, .int (nI (i + 1))), (1, .int (nI (n + 1))), (0, .ref (ad 3))]) hx hb dX4_brokenTerms_24 hl (k := 2) rfl (nI_1 i) (by decide) rfl (fun ls hl => ?_)
          refine lv_goto (tgt := 4) hx hb dX4_brokenTerms_27 (by decide) ?_
          exact ih_4 (n + 1) (i + 1) (by omega) (by omega) (by rw [← hI]; simp [cnt, c_8, c_8v, c_18]) _ _ _ N (lv_sub hl [2, 1, 0] rfl)
  exact cut_4 144 0 0 (by omega) (by omega) rfl _ _ _ N (lv_sub hl [2, 1, 0] rfl)
set_option maxHeartbeats 4000000 in
set_option maxRecDepth 100000 in
theorem c_X4_referencesTo (l : Launch) (G : GM) (ad : Nat → Nat) (ex : va_W) (st : ST) (c : Nat) (r : Nat) : XCi l G yX4_referencesTo cX4_referencesTo 6 (some .int) 2 [.ref (ad 3), .int (nI c), .int (nI r)] (XW G ad st ++ ex) (nI (cnt (rfB (st.2.1 2) c r) 144 0 0)) (XW G ad st ++ ex) := by
  refine xi_start (by decide) rfl (Nat.le_of_ble_eq_true rfl) ?_
  intro zp ze zs zm zargs zbelow zmeth zc zQ ls F N hl hret
  have hx := F.1
  have hb := F.2.1
  have hl : lv_has ls 6 [(0, .ref (ad 3)), (1, .int (nI c)), (2, .int (nI r))] := hl
  refine lv_iconst (v := 0) hx hb dX4_referencesTo_0 (by decide) ?_
  refine lv_istore_n (lv' := [(3, .int 0), (0, .ref (ad 3)), (1, .int (nI c)), (2, .int (nI r))]) hx hb dX4_referencesTo_1 rfl hl (by decide) rfl (fun ls hl => ?_)
  refine lv_iconst (v := 0) hx hb dX4_referencesTo_2 (by decide) ?_
  refine lv_istore (lv' := [(4, .int 0), (3, .int 0), (0, .ref (ad 3)), (1, .int (nI c)), (2, .int (nI r))]) hx hb dX4_referencesTo_3 hl (by decide) rfl (fun ls hl => ?_)
  have cut_5 : ∀ (k : Nat) (n : Nat) (i : Nat), i + k = 144 → n ≤ i → cnt (rfB (st.2.1 2) c r) k i n = cnt (rfB (st.2.1 2) c r) 144 0 0 → ∀ (H : Heap) (locs : List Loc) (ls : Array Slot), Now G zs (XW G ad st ++ ex) H locs → lv_has ls 6 [(0, .ref (ad 3)), (1, .int (nI c)), (2, .int (nI r)), (3, .int (nI n)), (4, .int (nI i))] → W zp l ze (RM 2) zs zm zargs zbelow zmeth zc H locs 0 0 zQ (F0 zm 5 ls []) := by
    intro k
    induction k with
    | zero =>
      intro n i hk hn2 hI H locs ls N hl
      refine lv_iload hx hb dX4_referencesTo_5 (lv_at hl 4 rfl) ?_
      refine lv_sipush (v := 144) hx hb dX4_referencesTo_7 (by decide) ?_
      refine cmpN_ge (a := i) (b := 144) (tgt := 77) hx hb dX4_referencesTo_10 (by decide) (by omega) (by omega) (fun c_10 => ?_) (fun c_10 => ?_)
      · have c_10v := Nat.not_lt.mpr c_10
        refine lv_iload_n hx hb dX4_referencesTo_77 rfl (lv_at hl 3 rfl) ?_
        exact hret _ _ _ _ _ _ dX4_referencesTo_78 (by rw [← hI]; rfl) (by rfl) N
      · exfalso; omega
    | succ k ih_5 =>
      intro n i hk hn2 hI H locs ls N hl
      refine lv_iload hx hb dX4_referencesTo_5 (lv_at hl 4 rfl) ?_
      refine lv_sipush (v := 144) hx hb dX4_referencesTo_7 (by decide) ?_
      refine cmpN_ge (a := i) (b := 144) (tgt := 77) hx hb dX4_referencesTo_10 (by decide) (by omega) (by omega) (fun c_10 => ?_) (fun c_10 => ?_)
      · exfalso; omega
      · have c_10v := Nat.not_le.mp c_10
        refine lv_aload_n hx hb dX4_referencesTo_13 rfl (lv_at hl 0 rfl) ?_
        refine gx_3_slots F N k_122 dX4_referencesTo_14 ?_
        refine lv_iload hx hb dX4_referencesTo_17 (lv_at hl 4 rfl) ?_
        refine axN_2 (j := i) F N (by omega) dX4_referencesTo_19 ?_
        refine lv_istore (lv' := [(5, .int (st.2.1 2 i)), (0, .ref (ad 3)), (1, .int (nI c)), (2, .int (nI r)), (3, .int (nI n)), (4, .int (nI i))]) hx hb dX4_referencesTo_20 hl (by decide) rfl (fun ls hl => ?_)
        refine lv_iload hx hb dX4_referencesTo_22 (lv_at hl 0 rfl) ?_
        refine cS_i F N (c_X5_refers l G _ (st.2.1 2 i)) miX5_refers k_505 (by decide) hl.1 rfl (Nat.le_of_ble_eq_true rfl) dX4_referencesTo_24 (fun H locs N => ?_)
        refine ifB_eq (tgt := 71) hx hb dX4_referencesTo_27 (by decide) (fun c_27 => ?_) (fun c_27 => ?_)
        · refine lv_iinc (v := (nI (i + 1))) (lv' := [(4, .int (nI (i + 1))), (5, .int (st.2.1 2 i)), (0, .ref (ad 3)), (1, .int (nI c)), (2, .int (nI r)), (3, .int (nI n))]) hx hb dX4_referencesTo_71 hl (k := 5) rfl (nI_1 i) (by decide) rfl (fun ls hl => ?_)
          refine lv_goto (tgt := 5) hx hb dX4_referencesTo_74 (by decide) ?_
          exact ih_5 n (i + 1) (by omega) (by omega) (by rw [← hI]; simp [cnt, rfB, c_10, c_10v, c_27]) _ _ _ N (lv_sub hl [2, 3, 4, 5, 0] rfl)
        · refine lv_iload_n hx hb dX4_referencesTo_30 rfl (lv_at hl 2 rfl) ?_
          refine lv_iload hx hb dX4_referencesTo_31 (lv_at hl 0 rfl) ?_
          refine lv_iconst (v := 0) hx hb dX4_referencesTo_33 (by decide) ?_
          refine cS_i F N (c_X5_least l G _ (st.2.1 2 i) 0) miX5_least k_637 (by decide) hl.1 rfl (Nat.le_of_ble_eq_true rfl) dX4_referencesTo_34 (fun H locs N => ?_)
          refine lv_iload hx hb dX4_referencesTo_37 (lv_at hl 0 rfl) ?_
          refine lv_iconst (v := 0) hx hb dX4_referencesTo_39 (by decide) ?_
          refine cS_i F N (c_X5_greatest l G _ (st.2.1 2 i) 0) miX5_greatest k_638 (by decide) hl.1 rfl (Nat.le_of_ble_eq_true rfl) dX4_referencesTo_40 (fun H locs N => ?_)
          refine cN_i F N (c_X8_isWithin l G _ (nI c) (tLeast (st.2.1 2 i) (0 : Int32)) (tGreat (st.2.1 2 i) (0 : Int32))) miX8_isWithin k_373 (by decide) hl.1 rfl (Nat.le_of_ble_eq_true rfl) dX4_referencesTo_43 (fun H locs N => ?_)
          refine ifB_eq (tgt := 71) hx hb dX4_referencesTo_46 (by decide) (fun c_46 => ?_) (fun c_46 => ?_)
          · refine lv_iinc (v := (nI (i + 1))) (lv' := [(4, .int (nI (i + 1))), (5, .int (st.2.1 2 i)), (0, .ref (ad 3)), (1, .int (nI c)), (2, .int (nI r)), (3, .int (nI n))]) hx hb dX4_referencesTo_71 hl (k := 5) rfl (nI_1 i) (by decide) rfl (fun ls hl => ?_)
            refine lv_goto (tgt := 5) hx hb dX4_referencesTo_74 (by decide) ?_
            exact ih_5 n (i + 1) (by omega) (by omega) (by rw [← hI]; simp [cnt, rfB, c_10, c_10v, c_27, c_46]) _ _ _ N (lv_sub hl [2, 3, 4, 5, 0] rfl)
          · refine lv_iload_n hx hb dX4_referencesTo_49 rfl (lv_at hl 3 rfl) ?_
            refine lv_iload hx hb dX4_referencesTo_50 (lv_at hl 0 rfl) ?_
            refine lv_iconst (v := 1) hx hb dX4_referencesTo_52 (by decide) ?_
            refine cS_i F N (c_X5_least l G _ (st.2.1 2 i) 1) miX5_least k_637 (by decide) hl.1 rfl (Nat.le_of_ble_eq_true rfl) dX4_referencesTo_53 (fun H locs N => ?_)
            refine lv_iload hx hb dX4_referencesTo_56 (lv_at hl 0 rfl) ?_
            refine lv_iconst (v := 1) hx hb dX4_referencesTo_58 (by decide) ?_
            refine cS_i F N (c_X5_greatest l G _ (st.2.1 2 i) 1) miX5_greatest k_638 (by decide) hl.1 rfl (Nat.le_of_ble_eq_true rfl) dX4_referencesTo_59 (fun H locs N => ?_)
            refine cN_i F N (c_X8_isWithin l G _ (nI r) (tLeast (st.2.1 2 i) (1 : Int32)) (tGreat (st.2.1 2 i) (1 : Int32))) miX8_isWithin k_373 (by decide) hl.1 rfl (Nat.le_of_ble_eq_true rfl) dX4_referencesTo_62 (fun H locs N => ?_)
            refine ifB_eq (tgt := 71) hx hb dX4_referencesTo_65 (by decide) (fun c_65 => ?_) (fun c_65 => ?_)
            · refine lv_iinc (v := (nI (i + 1))) (lv' := [(4, .int (nI (i + 1))), (5, .int (st.2.1 2 i)), (0, .ref (ad 3)), (1, .int (nI c)), (2, .int (nI r)), (3, .int (nI n))]) hx hb dX4_referencesTo_71 hl (k := 5) rfl (nI_1 i) (by decide) rfl (fun ls hl => ?_)
              refine lv_goto (tgt := 5) hx hb dX4_referencesTo_74 (by decide) ?_
              exact ih_5 n (i + 1) (by omega) (by omega) (by rw [← hI]; simp [cnt, rfB, c_10, c_10v, c_27, c_46, c_65]) _ _ _ N (lv_sub hl [2, 3, 4, 5, 0] rfl)
            · refine lv_iinc (v := (nI (n + 1))) (lv' := [(3, .int (nI (n + 1))), (5, .int (st.2.1 2 i)), (0, .ref (ad 3)), (1, .int (nI c)), (2, .int (nI r)), (4, .int (nI i))]) hx hb dX4_referencesTo_68 hl (k := 4) rfl (nI_1 n) (by decide) rfl (fun ls hl => ?_)
              refine lv_iinc (v := (nI (i + 1))) (lv' := [(4, .int (nI (i + 1))), (3, .int (nI (n + 1))), (5, .int (st.2.1 2 i)), (0, .ref (ad 3)), (1, .int (nI c)), (2, .int (nI r))]) hx hb dX4_referencesTo_71 hl (k := 5) rfl (nI_1 i) (by decide) rfl (fun ls hl => ?_)
              refine lv_goto (tgt := 5) hx hb dX4_referencesTo_74 (by decide) ?_
              exact ih_5 (n + 1) (i + 1) (by omega) (by omega) (by rw [← hI]; simp [cnt, rfB, c_10, c_10v, c_27, c_46, c_65]) _ _ _ N (lv_sub hl [3, 4, 5, 1, 0] rfl)
  exact cut_5 144 0 0 (by omega) (by omega) rfl _ _ _ N (lv_sub hl [2, 3, 4, 1, 0] rfl)
set_option maxHeartbeats 4000000 in
set_option maxRecDepth 100000 in
theorem c_X4_spreadTerms (l : Launch) (G : GM) (ad : Nat → Nat) (ex : va_W) (st : ST) (cell : Nat) (cols : Int32) (rows : Int32) (hc : cell < 36) : XXi l G yX4_spreadTerms cX4_spreadTerms 8 (some .int) 4 [.ref (ad 3), .int (nI cell), .int cols, .int rows] ad ex st (nI ((lp (spF cell cols rows) 4 0 (0, st.2.1 2)).1)) (sA st 2 (lp (spF cell cols rows) 4 0 (0, st.2.1 2)).2) := by
  refine xi_start (by decide) rfl (Nat.le_of_ble_eq_true rfl) ?_
  intro zp ze zs zm zargs zbelow zmeth zc zQ ls F N hl hret
  have hx := F.1
  have hb := F.2.1
  have hl : lv_has ls 8 [(0, .ref (ad 3)), (1, .int (nI cell)), (2, .int cols), (3, .int rows)] := hl
  refine lv_iconst (v := 0) hx hb dX4_spreadTerms_0 (by decide) ?_
  refine lv_istore (lv' := [(4, .int 0), (0, .ref (ad 3)), (1, .int (nI cell)), (2, .int cols), (3, .int rows)]) hx hb dX4_spreadTerms_1 hl (by decide) rfl (fun ls hl => ?_)
  refine lv_iconst (v := 0) hx hb dX4_spreadTerms_3 (by decide) ?_
  refine lv_istore (lv' := [(5, .int 0), (4, .int 0), (0, .ref (ad 3)), (1, .int (nI cell)), (2, .int cols), (3, .int rows)]) hx hb dX4_spreadTerms_4 hl (by decide) rfl (fun ls hl => ?_)
  have cut_6 : ∀ (k : Nat) (n : Nat) (i : Nat) (g : Nat → Int32) (s1 : ST), i + k = 4 → s1 = sA st 2 g → lp (spF cell cols rows) k i (n, g) = lp (spF cell cols rows) 4 0 (0, st.2.1 2) → ∀ (H : Heap) (locs : List Loc) (ls : Array Slot), Now G zs (XW G ad s1 ++ ex) H locs → lv_has ls 8 [(0, .ref (ad 3)), (1, .int (nI cell)), (2, .int cols), (3, .int rows), (4, .int (nI n)), (5, .int (nI i))] → W zp l ze (RM 4) zs zm zargs zbelow zmeth zc H locs 0 0 zQ (F0 zm 6 ls []) := by
    intro k
    induction k with
    | zero =>
      intro n i g s1 hk hs hI H locs ls N hl
      refine lv_iload hx hb dX4_spreadTerms_6 (lv_at hl 5 rfl) ?_
      refine lv_iconst (v := 4) hx hb dX4_spreadTerms_8 (by decide) ?_
      refine cmpN_ge (a := i) (b := 4) (tgt := 75) hx hb dX4_spreadTerms_9 (by decide) (by omega) (by omega) (fun c_9 => ?_) (fun c_9 => ?_)
      · have c_9v := Nat.not_lt.mpr c_9
        refine lv_iload hx hb dX4_spreadTerms_75 (lv_at hl 4 rfl) ?_
        exact hret _ _ _ _ _ _ dX4_spreadTerms_77 (by rw [← hI]; rfl) (by rw [hs, ← hI]; rfl) N
      · exfalso; omega
    | succ k ih_6 =>
      intro n i g s1 hk hs hI H locs ls N hl
      refine lv_iload hx hb dX4_spreadTerms_6 (lv_at hl 5 rfl) ?_
      refine lv_iconst (v := 4) hx hb dX4_spreadTerms_8 (by decide) ?_
      refine cmpN_ge (a := i) (b := 4) (tgt := 75) hx hb dX4_spreadTerms_9 (by decide) (by omega) (by omega) (fun c_9 => ?_) (fun c_9 => ?_)
      · exfalso; omega
      · have c_9v := Nat.not_le.mp c_9
        refine lv_iload_n hx hb dX4_spreadTerms_12 rfl (lv_at hl 1 rfl) ?_
        refine cN_i F N (c_X8_isCell l G _ (nI cell)) miX8_isCell k_357 (by decide) hl.1 rfl (Nat.le_of_ble_eq_true rfl) dX4_spreadTerms_13 (fun H locs N => ?_)
        refine toI (y := 1) (by rw [xIsCe_nI hc]; rfl) ?_
        refine lv_if_eq (tgt := 75) hx hb dX4_spreadTerms_16 (by decide) (fun c_16 => ?_) (fun c_16 => ?_)
        · first | exact absurd c_16 (by decide) | exact absurd (by decide) c_16
        refine lv_iload_n hx hb dX4_spreadTerms_19 rfl (lv_at hl 1 rfl) ?_
        refine lv_iconst (v := 4) hx hb dX4_spreadTerms_20 (by decide) ?_
        refine imulN (a := cell) (b := 4) hx hb dX4_spreadTerms_21 ?_
        refine lv_iload hx hb dX4_spreadTerms_22 (lv_at hl 5 rfl) ?_
        refine iaddN (a := (cell * 4)) (b := i) hx hb dX4_spreadTerms_24 ?_
        refine lv_istore (lv' := [(6, .int (nI ((cell * 4) + i))), (0, .ref (ad 3)), (1, .int (nI cell)), (2, .int cols), (3, .int rows), (4, .int (nI n)), (5, .int (nI i))]) hx hb dX4_spreadTerms_25 hl (by decide) rfl (fun ls hl => ?_)
        refine lv_aload_n hx hb dX4_spreadTerms_27 rfl (lv_at hl 1 rfl) ?_
        refine gx_3_slots F N k_122 dX4_spreadTerms_28 ?_
        refine lv_iload hx hb dX4_spreadTerms_31 (lv_at hl 0 rfl) ?_
        refine axN_2 (j := ((cell * 4) + i)) F N (by omega) dX4_spreadTerms_33 ?_
        refine toI (y := g (cell * 4 + i)) (by rw [hs]; rfl) ?_
        refine lv_istore (lv' := [(7, .int (g (cell * 4 + i))), (6, .int (nI ((cell * 4) + i))), (0, .ref (ad 3)), (1, .int (nI cell)), (2, .int cols), (3, .int rows), (4, .int (nI n)), (5, .int (nI i))]) hx hb dX4_spreadTerms_34 hl (by decide) rfl (fun ls hl => ?_)
        refine lv_aload_n hx hb dX4_spreadTerms_36 rfl (lv_at hl 2 rfl) ?_
        refine gx_3_slots F N k_122 dX4_spreadTerms_37 ?_
        refine lv_iload hx hb dX4_spreadTerms_40 (lv_at hl 1 rfl) ?_
        refine lv_iload hx hb dX4_spreadTerms_42 (lv_at hl 0 rfl) ?_
        refine lv_iload_n hx hb dX4_spreadTerms_44 rfl (lv_at hl 4 rfl) ?_
        refine lv_iload_n hx hb dX4_spreadTerms_45 rfl (lv_at hl 5 rfl) ?_
        refine lv_iload hx hb dX4_spreadTerms_46 (lv_at hl 0 rfl) ?_
        refine cS_i F N (c_X5_fixed l G _ (g (cell * 4 + i))) miX5_fixed k_528 (by decide) hl.1 rfl (Nat.le_of_ble_eq_true rfl) dX4_spreadTerms_48 (fun H locs N => ?_)
        refine cS_i F N (c_X5_further l G _ (g (cell * 4 + i)) cols rows (tFix (g (cell * 4 + i)))) miX5_further k_512 (by decide) hl.1 rfl (Nat.le_of_ble_eq_true rfl) dX4_spreadTerms_51 (fun H locs N => ?_)
        refine sxN_2 (j := ((cell * 4) + i)) F N (by omega) dX4_spreadTerms_54 (fun st_54 est_54 H locs N => ?_)
        refine lv_aload_n hx hb dX4_spreadTerms_55 rfl (lv_at hl 2 rfl) ?_
        refine gx_3_slots F N k_122 dX4_spreadTerms_56 ?_
        refine lv_iload hx hb dX4_spreadTerms_59 (lv_at hl 1 rfl) ?_
        refine axN_2 (j := ((cell * 4) + i)) F N (by omega) dX4_spreadTerms_61 ?_
        refine toI (y := tFur (g (cell * 4 + i)) cols rows (tFix (g (cell * 4 + i)))) (by simp [est_54, hs, sA_21, upd]) ?_
        refine lv_iconst (v := 4) hx hb dX4_spreadTerms_62 (by decide) ?_
        refine lv_icmp_ne (tgt := 69) hx hb dX4_spreadTerms_63 (by decide) (fun c_63 => ?_) (fun c_63 => ?_)
        · refine lv_iinc (v := (nI (i + 1))) (lv' := [(5, .int (nI (i + 1))), (7, .int (g (cell * 4 + i))), (6, .int (nI ((cell * 4) + i))), (0, .ref (ad 3)), (1, .int (nI cell)), (2, .int cols), (3, .int rows), (4, .int (nI n))]) hx hb dX4_spreadTerms_69 hl (k := 7) rfl (nI_1 i) (by decide) rfl (fun ls hl => ?_)
          refine lv_goto (tgt := 6) hx hb dX4_spreadTerms_72 (by decide) ?_
          exact ih_6 n (i + 1) (upd g (cell * 4 + i) (tFur (g (cell * 4 + i)) cols rows (tFix (g (cell * 4 + i))))) st_54 (by omega) (by rw [est_54, hs]; simp [sA_21, sA_sA]) (by rw [← hI]; simp [lp, spF, c_9, c_9v, c_63]) _ _ _ N (lv_sub hl [3, 4, 5, 6, 7, 0] rfl)
        · refine lv_iinc (v := (nI (n + 1))) (lv' := [(4, .int (nI (n + 1))), (7, .int (g (cell * 4 + i))), (6, .int (nI ((cell * 4) + i))), (0, .ref (ad 3)), (1, .int (nI cell)), (2, .int cols), (3, .int rows), (5, .int (nI i))]) hx hb dX4_spreadTerms_66 hl (k := 6) rfl (nI_1 n) (by decide) rfl (fun ls hl => ?_)
          refine lv_iinc (v := (nI (i + 1))) (lv' := [(5, .int (nI (i + 1))), (4, .int (nI (n + 1))), (7, .int (g (cell * 4 + i))), (6, .int (nI ((cell * 4) + i))), (0, .ref (ad 3)), (1, .int (nI cell)), (2, .int cols), (3, .int rows)]) hx hb dX4_spreadTerms_69 hl (k := 7) rfl (nI_1 i) (by decide) rfl (fun ls hl => ?_)
          refine lv_goto (tgt := 6) hx hb dX4_spreadTerms_72 (by decide) ?_
          exact ih_6 (n + 1) (i + 1) (upd g (cell * 4 + i) (tFur (g (cell * 4 + i)) cols rows (tFix (g (cell * 4 + i))))) st_54 (by omega) (by rw [est_54, hs]; simp [sA_21, sA_sA]) (by rw [← hI]; simp [lp, spF, c_9, c_9v, c_63]) _ _ _ N (lv_sub hl [4, 5, 6, 7, 1, 0] rfl)
  exact cut_6 4 0 0 (st.2.1 2) st (by omega) (sA_self rfl).symm rfl _ _ _ N (lv_sub hl [2, 3, 4, 5, 1, 0] rfl)
set_option maxHeartbeats 4000000 in
set_option maxRecDepth 100000 in
theorem c_X2_keep (l : Launch) (G : GM) (ad : Nat → Nat) (ex : va_W) (st : ST) (nx : Nat) (sz : Nat) (hnx : st.1 5 = nI nx) (hnx2 : nx < 6) (hsz : st.1 6 = nI sz) (hsz2 : sz ≤ 6) : XXv l G yX2_keep cX2_keep 2 none 1 [.ref (ad 4), .ref (ad 3)] ad ex st (sI (sI (sA st 4 (va_cpy (st.2.1 2) (st.2.1 4) 0 (nx * 144) 144)) 5 (nI ((nx + 1) % 6))) 6 (nI (min (sz + 1) 6))) := by
  refine xv_start (by decide) (Nat.le_of_ble_eq_true rfl) ?_
  intro zp ze zs zm zargs zbelow zmeth zc zQ ls F N hl hret
  have hx := F.1
  have hb := F.2.1
  have hl : lv_has ls 2 [(0, .ref (ad 4)), (1, .ref (ad 3))] := hl
  refine lv_aload_n hx hb dX2_keep_0 rfl (lv_at hl 1 rfl) ?_
  refine gx_3_slots F N k_123 dX2_keep_1 ?_
  refine lv_iconst (v := 0) hx hb dX2_keep_4 (by decide) ?_
  refine lv_aload_n hx hb dX2_keep_5 rfl (lv_at hl 0 rfl) ?_
  refine gx_4_states F N k_136 dX2_keep_6 ?_
  refine lv_aload_n hx hb dX2_keep_9 rfl (lv_at hl 0 rfl) ?_
  refine gx_4_next F N k_137 dX2_keep_10 ?_
  refine toN (a := nx) hnx ?_
  refine lv_sipush (v := 144) hx hb dX2_keep_13 (by decide) ?_
  refine imulN (a := nx) (b := 144) hx hb dX2_keep_16 ?_
  refine lv_sipush (v := 144) hx hb dX2_keep_17 (by decide) ?_
  refine cx_2_4 (sp := 0) (dp := (nx * 144)) (n := 144) F N hl.1 k_340 (by omega) (by omega) (by decide) rfl (Nat.le_of_ble_eq_true rfl) dX2_keep_20 (fun st_20 est_20 H locs N => ?_)
  refine lv_aload_n hx hb dX2_keep_23 rfl (lv_at hl 0 rfl) ?_
  refine lv_aload_n hx hb dX2_keep_24 rfl (lv_at hl 0 rfl) ?_
  refine gx_4_next F N k_137 dX2_keep_25 ?_
  refine toN (a := nx) (by simp [est_20, sI_1, sI_2, sA_1, sA_21, sA_22, hnx]) ?_
  refine lv_iconst (v := 1) hx hb dX2_keep_28 (by decide) ?_
  refine iaddN (a := nx) (b := 1) hx hb dX2_keep_29 ?_
  refine lv_bipush (v := 6) hx hb dX2_keep_30 (by decide) ?_
  refine iremN (a := (nx + 1)) (b := 6) hx hb dX2_keep_32 (by omega) (by omega) (by omega) ?_
  refine px_4_next F N k_137 dX2_keep_33 (fun st_33 est_33 H locs N => ?_)
  refine lv_aload_n hx hb dX2_keep_36 rfl (lv_at hl 0 rfl) ?_
  refine lv_aload_n hx hb dX2_keep_37 rfl (lv_at hl 0 rfl) ?_
  refine gx_4_size F N k_138 dX2_keep_38 ?_
  refine toN (a := sz) (by simp [est_33, est_20, sI_1, sI_2, sA_1, sA_21, sA_22, hsz]) ?_
  refine lv_iconst (v := 1) hx hb dX2_keep_41 (by decide) ?_
  refine iaddN (a := sz) (b := 1) hx hb dX2_keep_42 ?_
  refine lv_bipush (v := 6) hx hb dX2_keep_43 (by decide) ?_
  refine va_mmin hx hb (F.2.2.1.trans hl.1.symm) F.2.2.2.1 (F.2.2.2.2.1 _ k_343) (F.2.2.2.2.1 _ k_344) (F.2.2.2.2.1 _ k_73) (F.2.2.2.2.1 _ k_345) (Nat.le_of_ble_eq_true rfl) (Nat.le_of_ble_eq_true rfl) (Nat.le_of_ble_eq_true rfl) (Nat.le_of_ble_eq_true rfl) dX2_keep_45 ?_
  refine toN (a := min (sz + 1) 6) (min6 (by omega)) ?_
  refine px_4_size F N k_138 dX2_keep_48 (fun st_48 est_48 H locs N => ?_)
  exact hret _ _ _ _ _ dX2_keep_51 (by rw [est_48, est_33, est_20]) N
set_option maxHeartbeats 4000000 in
set_option maxRecDepth 100000 in
theorem c_X2_restore (l : Launch) (G : GM) (ad : Nat → Nat) (ex : va_W) (st : ST) (nx : Nat) (sz : Nat) (hnx : st.1 5 = nI nx) (hnx2 : nx < 6) (hsz : st.1 6 = nI sz) (hsz2 : sz ≤ 6) (hsz0 : 0 < sz) : XXv l G yX2_restore cX2_restore 2 none 1 [.ref (ad 4), .ref (ad 3)] ad ex st (sA (sI (sI st 5 (nI ((nx + 6 - 1) % 6))) 6 (nI (sz - 1))) 2 (va_cpy (st.2.1 4) (st.2.1 2) ((nx + 6 - 1) % 6 * 144) 0 144)) := by
  refine xv_start (by decide) (Nat.le_of_ble_eq_true rfl) ?_
  intro zp ze zs zm zargs zbelow zmeth zc zQ ls F N hl hret
  have hx := F.1
  have hb := F.2.1
  have hl : lv_has ls 2 [(0, .ref (ad 4)), (1, .ref (ad 3))] := hl
  refine lv_aload_n hx hb dX2_restore_0 rfl (lv_at hl 0 rfl) ?_
  refine gx_4_size F N k_138 dX2_restore_1 ?_
  refine toN (a := sz) hsz ?_
  refine ifN_ne (a := sz) (tgt := 8) hx hb dX2_restore_4 (by decide) (by omega) (fun c_4 => ?_) (fun c_4 => ?_)
  · refine lv_aload_n hx hb dX2_restore_8 rfl (lv_at hl 0 rfl) ?_
    refine lv_aload_n hx hb dX2_restore_9 rfl (lv_at hl 0 rfl) ?_
    refine gx_4_next F N k_137 dX2_restore_10 ?_
    refine toN (a := nx) hnx ?_
    refine lv_bipush (v := 6) hx hb dX2_restore_13 (by decide) ?_
    refine iaddN (a := nx) (b := 6) hx hb dX2_restore_15 ?_
    refine lv_iconst (v := 1) hx hb dX2_restore_16 (by decide) ?_
    refine isubN (a := (nx + 6)) (b := 1) hx hb dX2_restore_17 (by omega) ?_
    refine lv_bipush (v := 6) hx hb dX2_restore_18 (by decide) ?_
    refine iremN (a := ((nx + 6) - 1)) (b := 6) hx hb dX2_restore_20 (by omega) (by omega) (by omega) ?_
    refine px_4_next F N k_137 dX2_restore_21 (fun st_21 est_21 H locs N => ?_)
    refine lv_aload_n hx hb dX2_restore_24 rfl (lv_at hl 0 rfl) ?_
    refine lv_dup hx hb dX2_restore_25 rfl ?_
    refine gx_4_size F N k_138 dX2_restore_26 ?_
    refine toN (a := sz) (by simp [est_21, sI_1, sI_2, sA_1, sA_21, sA_22, hsz]) ?_
    refine lv_iconst (v := 1) hx hb dX2_restore_29 (by decide) ?_
    refine isubN (a := sz) (b := 1) hx hb dX2_restore_30 (by omega) ?_
    refine px_4_size F N k_138 dX2_restore_31 (fun st_31 est_31 H locs N => ?_)
    refine lv_aload_n hx hb dX2_restore_34 rfl (lv_at hl 0 rfl) ?_
    refine gx_4_states F N k_136 dX2_restore_35 ?_
    refine lv_aload_n hx hb dX2_restore_38 rfl (lv_at hl 0 rfl) ?_
    refine gx_4_next F N k_137 dX2_restore_39 ?_
    refine toN (a := (nx + 6 - 1) % 6) (by simp [est_31, est_21, sI_1, sI_2, sA_1, sA_21, sA_22]) ?_
    refine lv_sipush (v := 144) hx hb dX2_restore_42 (by decide) ?_
    refine imulN (a := ((nx + 6 - 1) % 6)) (b := 144) hx hb dX2_restore_45 ?_
    refine lv_aload_n hx hb dX2_restore_46 rfl (lv_at hl 1 rfl) ?_
    refine gx_3_slots F N k_123 dX2_restore_47 ?_
    refine lv_iconst (v := 0) hx hb dX2_restore_50 (by decide) ?_
    refine lv_sipush (v := 144) hx hb dX2_restore_51 (by decide) ?_
    refine cx_4_2 (sp := (((nx + 6 - 1) % 6) * 144)) (dp := 0) (n := 144) F N hl.1 k_340 (by omega) (by omega) (by decide) rfl (Nat.le_of_ble_eq_true rfl) dX2_restore_54 (fun st_54 est_54 H locs N => ?_)
    exact hret _ _ _ _ _ dX2_restore_57 (by rw [est_54, est_31, est_21]; rfl) N
  · exfalso; omega
set_option maxHeartbeats 4000000 in
set_option maxRecDepth 100000 in
theorem c_X7_forget (l : Launch) (G : GM) (ad : Nat → Nat) (ex : va_W) (st : ST) : XXv l G yX7_forget cX7_forget 1 none 1 [.ref (ad 5)] ad ex st (sA st 5 (fillF (st.2.1 5) (-1) 36)) := by
  refine xv_start (by decide) (Nat.le_of_ble_eq_true rfl) ?_
  intro zp ze zs zm zargs zbelow zmeth zc zQ ls F N hl hret
  have hx := F.1
  have hb := F.2.1
  have hl : lv_has ls 1 [(0, .ref (ad 5))] := hl
  refine lv_aload_n hx hb dX7_forget_0 rfl (lv_at hl 0 rfl) ?_
  refine gx_5_faults F N k_157 dX7_forget_1 ?_
  refine lv_iconst (v := (-1)) hx hb dX7_forget_4 (by decide) ?_
  refine xS_v F N (c_fill_5 l G ad ex st (-1)) miJ7_fill_53178 k_153 (by decide) hl.1 rfl (Nat.le_of_ble_eq_true rfl) dX7_forget_5 (fun st_5 est_5 H locs N => ?_)
  exact hret _ _ _ _ _ dX7_forget_8 (by first | rfl | (subst est_5; rfl) | (subst est_5; simp [bI])) N
