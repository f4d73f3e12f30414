/-! the page: how many letters, and which -/
abbrev PG : Type := Nat × (Nat → Int32)
def sP (st : ST) (x : PG) : ST := sI (sA st 10 x.2) 10 (nI x.1)
theorem sP_sP (st : ST) (x y : PG) : sP (sP st x) y = sP st y := by
  unfold sP
  rw [sA_sI, sI_sI, sA_sA]
theorem sP_self {st : ST} {q : Nat} {g : Nat → Int32} (h : st.1 10 = nI q) (h2 : st.2.1 10 = g) : sP st (q, g) = st := by
  unfold sP
  dsimp only
  rw [sA_self h2, sI_self h]
theorem sP_1 (st : ST) (x : PG) : (sP st x).1 10 = nI x.1 := rfl
theorem sP_21 (st : ST) (x : PG) (k : Nat) : (sP st x).2.1 k = if k = 10 then x.2 else st.2.1 k := rfl
def pgA (x : PG) (v : Int32) : PG := if 39 ≤ x.1 then x else (x.1 + 1, upd x.2 x.1 v)
def pgPl1 (t f : Int32) (x : PG) : PG := if (tFix t >>> (f &&& 31)) &&& 1 = 0 then x else pgA x 36
def pgPl2 (t f : Int32) (x : PG) : PG := pgA (pgPl1 t f x) (65 + tCo t f)
def pgPl3 (t f : Int32) (x : PG) : PG := if (tFix t >>> (f &&& 31)) &&& 2 = 0 then pgPl2 t f x else pgA (pgPl2 t f x) 36
def pgPl (t f : Int32) (x : PG) : PG := pgA (pgPl3 t f x) (49 + tCo t (f + 1))
def pgN1 (v : Int32) (x : PG) : PG := if v < 100 then x else pgA x (48 + v / 100)
def pgN2 (v : Int32) (x : PG) : PG := if v < 10 then pgN1 v x else pgA (pgN1 v x) (48 + (v / 10 - v / 10 / 10 * 10))
def pgNum (v : Int32) (x : PG) : PG := pgA (pgN2 v x) (48 + (v - v / 10 * 10))
def pgT (t : Int32) (x : PG) : PG :=
  if tKind t = 1 then pgNum (tNum t) x else if tKind t = 2 then pgPl t 0 x else if tKind t = 3 then pgPl t 2 (pgA (pgPl t 0 x) 58) else pgA x 35
def pgL (g : Nat → Int32) (cell : Nat) : Nat → Nat → PG → PG
  | 0, _, x => x
  | k + 1, i, x => pgL g cell k (i + 1) (pgT (tm g cell i) (if i = 0 then x else pgA x 43))
def pgW (g : Nat → Int32) (cell : Nat) (x : Nat → Int32) : PG := pgL g cell (szL g cell 4 0) 0 (0, x)
theorem pgA_le {x : PG} {v : Int32} (h : x.1 ≤ 39) : (pgA x v).1 ≤ 39 := by
  unfold pgA
  split
  · exact h
  · show x.1 + 1 ≤ 39; omega
theorem pgPl1_le {x : PG} {t f : Int32} (h : x.1 ≤ 39) : (pgPl1 t f x).1 ≤ 39 := by
  unfold pgPl1
  split
  · exact h
  · exact pgA_le h
theorem pgPl2_le {x : PG} {t f : Int32} (h : x.1 ≤ 39) : (pgPl2 t f x).1 ≤ 39 := pgA_le (pgPl1_le h)
theorem pgPl3_le {x : PG} {t f : Int32} (h : x.1 ≤ 39) : (pgPl3 t f x).1 ≤ 39 := by
  unfold pgPl3
  split
  · exact pgPl2_le h
  · exact pgA_le (pgPl2_le h)
theorem pgPl_le {x : PG} {t f : Int32} (h : x.1 ≤ 39) : (pgPl t f x).1 ≤ 39 := pgA_le (pgPl3_le h)
theorem pgN1_le {x : PG} {v : Int32} (h : x.1 ≤ 39) : (pgN1 v x).1 ≤ 39 := by
  unfold pgN1
  split
  · exact h
  · exact pgA_le h
theorem pgN2_le {x : PG} {v : Int32} (h : x.1 ≤ 39) : (pgN2 v x).1 ≤ 39 := by
  unfold pgN2
  split
  · exact pgN1_le h
  · exact pgA_le (pgN1_le h)
theorem pgNum_le {x : PG} {v : Int32} (h : x.1 ≤ 39) : (pgNum v x).1 ≤ 39 := pgA_le (pgN2_le h)
theorem pgT_le {x : PG} {t : Int32} (h : x.1 ≤ 39) : (pgT t x).1 ≤ 39 := by
  unfold pgT
  split
  · exact pgNum_le h
  · split
    · exact pgPl_le h
    · split
      · exact pgPl_le (pgA_le (pgPl_le h))
      · exact pgA_le h
theorem szL_le (g : Nat → Int32) (cell : Nat) : ∀ k i, szL g cell k i ≤ i + k
  | 0, i => Nat.le_refl i
  | k + 1, i => by
    have h := szL_le g cell k (i + 1)
    unfold szL
    split
    · omega
    · omega
set_option maxHeartbeats 4000000 in
set_option maxRecDepth 100000 in
theorem c_X1_add (l : Launch) (G : GM) (ad : Nat → Nat) (ex : va_W) (st : ST) (v : Int32) (x : PG) (hQ : st.1 10 = nI x.1) (hg : st.2.1 10 = x.2) (hQ2 : x.1 ≤ 39) : XXv l G yX1_add cX1_add 2 none 0 [.ref (ad 6), .int v] ad ex st (sP st (pgA x v)) := by
  refine xv_start (by decide) (Nat.le_of_ble_eq_true rfl) ?_
  intro zp ze zs zm zargs zbelow zmeth zc zQ ls F N hl hret
  have hx := F.1
  have hb := F.2.1
  have hl : lv_has ls 2 [(0, .ref (ad 6)), (1, .int v)] := hl
  refine lv_aload_n hx hb dX1_add_0 rfl (lv_at hl 0 rfl) ?_
  refine gx_6_length F N k_196 dX1_add_1 ?_
  refine toN (a := x.1) hQ ?_
  refine lv_bipush (v := 39) hx hb dX1_add_4 (by decide) ?_
  refine cmpN_ge (a := x.1) (b := 39) (tgt := 29) hx hb dX1_add_6 (by decide) (by omega) (by omega) (fun c_6 => ?_) (fun c_6 => ?_)
  · have c_6v := Nat.not_lt.mpr c_6
    exact hret _ _ _ _ _ dX1_add_29 (by first | (have e : pgA x v = (x.1, x.2) := if_pos c_6; rw [e, sP_self hQ hg]) | (have e : pgA x v = (x.1 + 1, upd x.2 x.1 v) := if_neg c_6; rw [e, hg]; rfl)) N
  · have c_6v := Nat.not_le.mp c_6
    refine lv_aload_n hx hb dX1_add_9 rfl (lv_at hl 0 rfl) ?_
    refine gx_6_letters F N k_195 dX1_add_10 ?_
    refine lv_aload_n hx hb dX1_add_13 rfl (lv_at hl 0 rfl) ?_
    refine gx_6_length F N k_196 dX1_add_14 ?_
    refine toN (a := x.1) hQ ?_
    refine lv_iload_n hx hb dX1_add_17 rfl (lv_at hl 1 rfl) ?_
    refine sxN_10 (j := x.1) F N (by omega) dX1_add_18 (fun st_18 est_18 H locs N => ?_)
    refine lv_aload_n hx hb dX1_add_19 rfl (lv_at hl 0 rfl) ?_
    refine lv_dup hx hb dX1_add_20 rfl ?_
    refine gx_6_length F N k_196 dX1_add_21 ?_
    refine toN (a := x.1) (by simp [est_18, sA_1, hQ]) ?_
    refine lv_iconst (v := 1) hx hb dX1_add_24 (by decide) ?_
    refine iaddN (a := x.1) (b := 1) hx hb dX1_add_25 ?_
    refine px_6_length F N k_196 dX1_add_26 (fun st_26 est_26 H locs N => ?_)
    exact hret _ _ _ _ _ dX1_add_29 (by first | (have e : pgA x v = (x.1, x.2) := if_pos c_6; rw [e, sP_self hQ hg]) | (have e : pgA x v = (x.1 + 1, upd x.2 x.1 v) := if_neg c_6; rw [e, est_26, est_18, hg]; rfl)) N
set_option maxHeartbeats 4000000 in
set_option maxRecDepth 100000 in
theorem c_X1_writePlace (l : Launch) (G : GM) (ad : Nat → Nat) (ex : va_W) (st : ST) (t : Int32) (f : Int32) (x : PG) (hQ : st.1 10 = nI x.1) (hg : st.2.1 10 = x.2) (hQ2 : x.1 ≤ 39) : XXv l G yX1_writePlace cX1_writePlace 4 none 1 [.ref (ad 6), .int t, .int f] ad ex st (sP st (pgPl t f x)) := by
  refine xv_start (by decide) (Nat.le_of_ble_eq_true rfl) ?_
  intro zp ze zs zm zargs zbelow zmeth zc zQ ls F N hl hret
  have hx := F.1
  have hb := F.2.1
  have hl : lv_has ls 4 [(0, .ref (ad 6)), (1, .int t), (2, .int f)] := hl
  refine lv_iload_n hx hb dX1_writePlace_0 rfl (lv_at hl 1 rfl) ?_
  refine cS_i F N (c_X5_fixed l G _ t) miX5_fixed k_580 (by decide) hl.1 rfl (Nat.le_of_ble_eq_true rfl) dX1_writePlace_1 (fun H locs N => ?_)
  refine lv_iload_n hx hb dX1_writePlace_4 rfl (lv_at hl 2 rfl) ?_
  refine lv_ishr hx hb dX1_writePlace_5 ?_
  refine lv_istore_n (lv' := [(3, .int ((tFix t) >>> (f &&& 31))), (0, .ref (ad 6)), (1, .int t), (2, .int f)]) hx hb dX1_writePlace_6 rfl hl (by decide) rfl (fun ls hl => ?_)
  refine lv_iload_n hx hb dX1_writePlace_7 rfl (lv_at hl 0 rfl) ?_
  refine lv_iconst (v := 1) hx hb dX1_writePlace_8 (by decide) ?_
  refine lv_iand hx hb dX1_writePlace_9 ?_
  refine lv_if_eq (tgt := 19) hx hb dX1_writePlace_10 (by decide) (fun c_10 => ?_) (fun c_10 => ?_)
  · have cut_19 : ∀ (s1 : ST), s1 = sP st (pgPl1 t f x) → ∀ (H : Heap) (locs : List Loc) (ls : Array Slot), Now G zs (XW G ad s1 ++ ex) H locs → lv_has ls 4 [(0, .ref (ad 6)), (1, .int t), (2, .int f), (3, .int (tFix t >>> (f &&& 31)))] → W zp l ze (RM 1) zs zm zargs zbelow zmeth zc H locs 0 0 zQ (F0 zm 19 ls []) := by
      intro s1 hs H locs ls N hl
      refine lv_aload_n hx hb dX1_writePlace_19 rfl (lv_at hl 0 rfl) ?_
      refine lv_bipush (v := 65) hx hb dX1_writePlace_20 (by decide) ?_
      refine lv_iload_n hx hb dX1_writePlace_22 rfl (lv_at hl 1 rfl) ?_
      refine lv_iload_n hx hb dX1_writePlace_23 rfl (lv_at hl 2 rfl) ?_
      refine cS_i F N (c_X5_coordinate l G _ t f) miX5_coordinate k_581 (by decide) hl.1 rfl (Nat.le_of_ble_eq_true rfl) dX1_writePlace_24 (fun H locs N => ?_)
      refine lv_iadd hx hb dX1_writePlace_27 ?_
      refine xV_v F N (c_X1_add l G ad ex s1 ((65 : Int32) + (tCo t f)) (pgPl1 t f x) (by simp [hs, sP_1, hQ]) (by simp [hs, sP_21, hg]) (pgPl1_le hQ2)) miX1_add k_561 (by decide) hl.1 rfl (Nat.le_of_ble_eq_true rfl) (q0 := 6) (ci := 1) rfl rfl dX1_writePlace_28 (fun st_28 est_28 H locs N => ?_)
      refine lv_iload_n hx hb dX1_writePlace_31 rfl (lv_at hl 3 rfl) ?_
      refine lv_iconst (v := 2) hx hb dX1_writePlace_32 (by decide) ?_
      refine lv_iand hx hb dX1_writePlace_33 ?_
      refine lv_if_eq (tgt := 43) hx hb dX1_writePlace_34 (by decide) (fun c_34 => ?_) (fun c_34 => ?_)
      · have cut_43 : ∀ (s1 : ST), s1 = sP st (pgPl3 t f x) → ∀ (H : Heap) (locs : List Loc) (ls : Array Slot), Now G zs (XW G ad s1 ++ ex) H locs → lv_has ls 4 [(0, .ref (ad 6)), (1, .int t), (2, .int f), (3, .int (tFix t >>> (f &&& 31)))] → W zp l ze (RM 1) zs zm zargs zbelow zmeth zc H locs 0 0 zQ (F0 zm 43 ls []) := by
          intro s1 hs H locs ls N hl
          refine lv_aload_n hx hb dX1_writePlace_43 rfl (lv_at hl 0 rfl) ?_
          refine lv_bipush (v := 49) hx hb dX1_writePlace_44 (by decide) ?_
          refine lv_iload_n hx hb dX1_writePlace_46 rfl (lv_at hl 1 rfl) ?_
          refine lv_iload_n hx hb dX1_writePlace_47 rfl (lv_at hl 2 rfl) ?_
          refine lv_iconst (v := 1) hx hb dX1_writePlace_48 (by decide) ?_
          refine lv_iadd hx hb dX1_writePlace_49 ?_
          refine cS_i F N (c_X5_coordinate l G _ t (f + (1 : Int32))) miX5_coordinate k_581 (by decide) hl.1 rfl (Nat.le_of_ble_eq_true rfl) dX1_writePlace_50 (fun H locs N => ?_)
          refine lv_iadd hx hb dX1_writePlace_53 ?_
          refine xV_v F N (c_X1_add l G ad ex s1 ((49 : Int32) + (tCo t (f + (1 : Int32)))) (pgPl3 t f x) (by simp [hs, sP_1, hQ]) (by simp [hs, sP_21, hg]) (pgPl3_le hQ2)) miX1_add k_561 (by decide) hl.1 rfl (Nat.le_of_ble_eq_true rfl) (q0 := 6) (ci := 1) rfl rfl dX1_writePlace_54 (fun st_54 est_54 H locs N => ?_)
          exact hret _ _ _ _ _ dX1_writePlace_57 (by rw [est_54, hs, sP_sP]; rfl) N
        exact cut_43 st_28 (by first | (unfold pgPl3 pgPl2; rw [if_pos c_34, est_28, hs, sP_sP]) | (unfold pgPl3 pgPl2; rw [if_neg c_34, est_28, hs, sP_sP, sP_sP]; rfl)) _ _ _ N (lv_sub hl [0, 1, 2, 3] rfl)
      · refine lv_aload_n hx hb dX1_writePlace_37 rfl (lv_at hl 0 rfl) ?_
        refine lv_bipush (v := 36) hx hb dX1_writePlace_38 (by decide) ?_
        refine xV_v F N (c_X1_add l G ad ex st_28 36 (pgPl2 t f x) (by simp [est_28, hs, pgPl2, sP_1, hQ]) (by simp [est_28, hs, pgPl2, sP_21, hg]) (pgPl2_le hQ2)) miX1_add k_561 (by decide) hl.1 rfl (Nat.le_of_ble_eq_true rfl) (q0 := 6) (ci := 1) rfl rfl dX1_writePlace_40 (fun st_40 est_40 H locs N => ?_)
        have cut_43 : ∀ (s1 : ST), s1 = sP st (pgPl3 t f x) → ∀ (H : Heap) (locs : List Loc) (ls : Array Slot), Now G zs (XW G ad s1 ++ ex) H locs → lv_has ls 4 [(0, .ref (ad 6)), (1, .int t), (2, .int f), (3, .int (tFix t >>> (f &&& 31)))] → W zp l ze (RM 1) zs zm zargs zbelow zmeth zc H locs 0 0 zQ (F0 zm 43 ls []) := by
          intro s1 hs H locs ls N hl
          refine lv_aload_n hx hb dX1_writePlace_43 rfl (lv_at hl 0 rfl) ?_
          refine lv_bipush (v := 49) hx hb dX1_writePlace_44 (by decide) ?_
          refine lv_iload_n hx hb dX1_writePlace_46 rfl (lv_at hl 1 rfl) ?_
          refine lv_iload_n hx hb dX1_writePlace_47 rfl (lv_at hl 2 rfl) ?_
          refine lv_iconst (v := 1) hx hb dX1_writePlace_48 (by decide) ?_
          refine lv_iadd hx hb dX1_writePlace_49 ?_
          refine cS_i F N (c_X5_coordinate l G _ t (f + (1 : Int32))) miX5_coordinate k_581 (by decide) hl.1 rfl (Nat.le_of_ble_eq_true rfl) dX1_writePlace_50 (fun H locs N => ?_)
          refine lv_iadd hx hb dX1_writePlace_53 ?_
          refine xV_v F N (c_X1_add l G ad ex s1 ((49 : Int32) + (tCo t (f + (1 : Int32)))) (pgPl3 t f x) (by simp [hs, sP_1, hQ]) (by simp [hs, sP_21, hg]) (pgPl3_le hQ2)) miX1_add k_561 (by decide) hl.1 rfl (Nat.le_of_ble_eq_true rfl) (q0 := 6) (ci := 1) rfl rfl dX1_writePlace_54 (fun st_54 est_54 H locs N => ?_)
          exact hret _ _ _ _ _ dX1_writePlace_57 (by rw [est_54, hs, sP_sP]; rfl) N
        exact cut_43 st_40 (by first | (unfold pgPl3 pgPl2; rw [if_pos c_34, est_40, est_28, hs, sP_sP]) | (unfold pgPl3 pgPl2; rw [if_neg c_34, est_40, est_28, hs, sP_sP, sP_sP]; rfl)) _ _ _ N (lv_sub hl [0, 1, 2, 3] rfl)
    exact cut_19 st (by first | (unfold pgPl1; rw [if_pos c_10]; exact (sP_self hQ hg).symm) | (unfold pgPl1; rw [if_neg c_10]; exact est_16)) _ _ _ N (lv_sub hl [1, 2, 3, 0] rfl)
  · refine lv_aload_n hx hb dX1_writePlace_13 rfl (lv_at hl 1 rfl) ?_
    refine lv_bipush (v := 36) hx hb dX1_writePlace_14 (by decide) ?_
    refine xV_v F N (c_X1_add l G ad ex st 36 x (by simp [sP_1, hQ]) (by simp [sP_21, hg]) hQ2) miX1_add k_561 (by decide) hl.1 rfl (Nat.le_of_ble_eq_true rfl) (q0 := 6) (ci := 1) rfl rfl dX1_writePlace_16 (fun st_16 est_16 H locs N => ?_)
    have cut_19 : ∀ (s1 : ST), s1 = sP st (pgPl1 t f x) → ∀ (H : Heap) (locs : List Loc) (ls : Array Slot), Now G zs (XW G ad s1 ++ ex) H locs → lv_has ls 4 [(0, .ref (ad 6)), (1, .int t), (2, .int f), (3, .int (tFix t >>> (f &&& 31)))] → W zp l ze (RM 1) zs zm zargs zbelow zmeth zc H locs 0 0 zQ (F0 zm 19 ls []) := by
      intro s1 hs H locs ls N hl
      refine lv_aload_n hx hb dX1_writePlace_19 rfl (lv_at hl 0 rfl) ?_
      refine lv_bipush (v := 65) hx hb dX1_writePlace_20 (by decide) ?_
      refine lv_iload_n hx hb dX1_writePlace_22 rfl (lv_at hl 1 rfl) ?_
      refine lv_iload_n hx hb dX1_writePlace_23 rfl (lv_at hl 2 rfl) ?_
      refine cS_i F N (c_X5_coordinate l G _ t f) miX5_coordinate k_581 (by decide) hl.1 rfl (Nat.le_of_ble_eq_true rfl) dX1_writePlace_24 (fun H locs N => ?_)
      refine lv_iadd hx hb dX1_writePlace_27 ?_
      refine xV_v F N (c_X1_add l G ad ex s1 ((65 : Int32) + (tCo t f)) (pgPl1 t f x) (by simp [hs, sP_1, hQ]) (by simp [hs, sP_21, hg]) (pgPl1_le hQ2)) miX1_add k_561 (by decide) hl.1 rfl (Nat.le_of_ble_eq_true rfl) (q0 := 6) (ci := 1) rfl rfl dX1_writePlace_28 (fun st_28 est_28 H locs N => ?_)
      refine lv_iload_n hx hb dX1_writePlace_31 rfl (lv_at hl 3 rfl) ?_
      refine lv_iconst (v := 2) hx hb dX1_writePlace_32 (by decide) ?_
      refine lv_iand hx hb dX1_writePlace_33 ?_
      refine lv_if_eq (tgt := 43) hx hb dX1_writePlace_34 (by decide) (fun c_34 => ?_) (fun c_34 => ?_)
      · have cut_43 : ∀ (s1 : ST), s1 = sP st (pgPl3 t f x) → ∀ (H : Heap) (locs : List Loc) (ls : Array Slot), Now G zs (XW G ad s1 ++ ex) H locs → lv_has ls 4 [(0, .ref (ad 6)), (1, .int t), (2, .int f), (3, .int (tFix t >>> (f &&& 31)))] → W zp l ze (RM 1) zs zm zargs zbelow zmeth zc H locs 0 0 zQ (F0 zm 43 ls []) := by
          intro s1 hs H locs ls N hl
          refine lv_aload_n hx hb dX1_writePlace_43 rfl (lv_at hl 0 rfl) ?_
          refine lv_bipush (v := 49) hx hb dX1_writePlace_44 (by decide) ?_
          refine lv_iload_n hx hb dX1_writePlace_46 rfl (lv_at hl 1 rfl) ?_
          refine lv_iload_n hx hb dX1_writePlace_47 rfl (lv_at hl 2 rfl) ?_
          refine lv_iconst (v := 1) hx hb dX1_writePlace_48 (by decide) ?_
          refine lv_iadd hx hb dX1_writePlace_49 ?_
          refine cS_i F N (c_X5_coordinate l G _ t (f + (1 : Int32))) miX5_coordinate k_581 (by decide) hl.1 rfl (Nat.le_of_ble_eq_true rfl) dX1_writePlace_50 (fun H locs N => ?_)
          refine lv_iadd hx hb dX1_writePlace_53 ?_
          refine xV_v F N (c_X1_add l G ad ex s1 ((49 : Int32) + (tCo t (f + (1 : Int32)))) (pgPl3 t f x) (by simp [hs, sP_1, hQ]) (by simp [hs, sP_21, hg]) (pgPl3_le hQ2)) miX1_add k_561 (by decide) hl.1 rfl (Nat.le_of_ble_eq_true rfl) (q0 := 6) (ci := 1) rfl rfl dX1_writePlace_54 (fun st_54 est_54 H locs N => ?_)
          exact hret _ _ _ _ _ dX1_writePlace_57 (by rw [est_54, hs, sP_sP]; rfl) N
        exact cut_43 st_28 (by first | (unfold pgPl3 pgPl2; rw [if_pos c_34, est_28, hs, sP_sP]) | (unfold pgPl3 pgPl2; rw [if_neg c_34, est_28, hs, sP_sP, sP_sP]; rfl)) _ _ _ N (lv_sub hl [0, 1, 2, 3] rfl)
      · refine lv_aload_n hx hb dX1_writePlace_37 rfl (lv_at hl 0 rfl) ?_
        refine lv_bipush (v := 36) hx hb dX1_writePlace_38 (by decide) ?_
        refine xV_v F N (c_X1_add l G ad ex st_28 36 (pgPl2 t f x) (by simp [est_28, hs, pgPl2, sP_1, hQ]) (by simp [est_28, hs, pgPl2, sP_21, hg]) (pgPl2_le hQ2)) miX1_add k_561 (by decide) hl.1 rfl (Nat.le_of_ble_eq_true rfl) (q0 := 6) (ci := 1) rfl rfl dX1_writePlace_40 (fun st_40 est_40 H locs N => ?_)
        have cut_43 : ∀ (s1 : ST), s1 = sP st (pgPl3 t f x) → ∀ (H : Heap) (locs : List Loc) (ls : Array Slot), Now G zs (XW G ad s1 ++ ex) H locs → lv_has ls 4 [(0, .ref (ad 6)), (1, .int t), (2, .int f), (3, .int (tFix t >>> (f &&& 31)))] → W zp l ze (RM 1) zs zm zargs zbelow zmeth zc H locs 0 0 zQ (F0 zm 43 ls []) := by
          intro s1 hs H locs ls N hl
          refine lv_aload_n hx hb dX1_writePlace_43 rfl (lv_at hl 0 rfl) ?_
          refine lv_bipush (v := 49) hx hb dX1_writePlace_44 (by decide) ?_
          refine lv_iload_n hx hb dX1_writePlace_46 rfl (lv_at hl 1 rfl) ?_
          refine lv_iload_n hx hb dX1_writePlace_47 rfl (lv_at hl 2 rfl) ?_
          refine lv_iconst (v := 1) hx hb dX1_writePlace_48 (by decide) ?_
          refine lv_iadd hx hb dX1_writePlace_49 ?_
          refine cS_i F N (c_X5_coordinate l G _ t (f + (1 : Int32))) miX5_coordinate k_581 (by decide) hl.1 rfl (Nat.le_of_ble_eq_true rfl) dX1_writePlace_50 (fun H locs N => ?_)
          refine lv_iadd hx hb dX1_writePlace_53 ?_
          refine xV_v F N (c_X1_add l G ad ex s1 ((49 : Int32) + (tCo t (f + (1 : Int32)))) (pgPl3 t f x) (by simp [hs, sP_1, hQ]) (by simp [hs, sP_21, hg]) (pgPl3_le hQ2)) miX1_add k_561 (by decide) hl.1 rfl (Nat.le_of_ble_eq_true rfl) (q0 := 6) (ci := 1) rfl rfl dX1_writePlace_54 (fun st_54 est_54 H locs N => ?_)
          exact hret _ _ _ _ _ dX1_writePlace_57 (by rw [est_54, hs, sP_sP]; rfl) N
        exact cut_43 st_40 (by first | (unfold pgPl3 pgPl2; rw [if_pos c_34, est_40, est_28, hs, sP_sP]) | (unfold pgPl3 pgPl2; rw [if_neg c_34, est_40, est_28, hs, sP_sP, sP_sP]; rfl)) _ _ _ N (lv_sub hl [0, 1, 2, 3] rfl)
    exact cut_19 st_16 (by first | (unfold pgPl1; rw [if_pos c_10]; exact (sP_self hQ hg).symm) | (unfold pgPl1; rw [if_neg c_10]; exact est_16)) _ _ _ N (lv_sub hl [1, 2, 3, 0] rfl)
set_option maxHeartbeats 4000000 in
set_option maxRecDepth 100000 in
theorem c_X1_writeNumber (l : Launch) (G : GM) (ad : Nat → Nat) (ex : va_W) (st : ST) (v : Int32) (x : PG) (hQ : st.1 10 = nI x.1) (hg : st.2.1 10 = x.2) (hQ2 : x.1 ≤ 39) : XXv l G yX1_writeNumber cX1_writeNumber 2 none 1 [.ref (ad 6), .int v] ad ex st (sP st (pgNum v x)) := by
  refine xv_start (by decide) (Nat.le_of_ble_eq_true rfl) ?_
  intro zp ze zs zm zargs zbelow zmeth zc zQ ls F N hl hret
  have hx := F.1
  have hb := F.2.1
  have hl : lv_has ls 2 [(0, .ref (ad 6)), (1, .int v)] := hl
  refine lv_iload_n hx hb dX1_writeNumber_0 rfl (lv_at hl 1 rfl) ?_
  refine lv_bipush (v := 100) hx hb dX1_writeNumber_1 (by decide) ?_
  refine lv_icmp_lt (tgt := 17) hx hb dX1_writeNumber_3 (by decide) (fun c_3 => ?_) (fun c_3 => ?_)
  · have c_3v := lt_nle c_3
    have cut_17 : ∀ (s1 : ST), s1 = sP st (pgN1 v x) → ∀ (H : Heap) (locs : List Loc) (ls : Array Slot), Now G zs (XW G ad s1 ++ ex) H locs → lv_has ls 2 [(0, .ref (ad 6)), (1, .int v)] → W zp l ze (RM 1) zs zm zargs zbelow zmeth zc H locs 0 0 zQ (F0 zm 17 ls []) := by
      intro s1 hs H locs ls N hl
      refine lv_iload_n hx hb dX1_writeNumber_17 rfl (lv_at hl 1 rfl) ?_
      refine lv_bipush (v := 10) hx hb dX1_writeNumber_18 (by decide) ?_
      refine lv_icmp_lt (tgt := 37) hx hb dX1_writeNumber_20 (by decide) (fun c_20 => ?_) (fun c_20 => ?_)
      · have c_20v := lt_nle c_20
        have cut_37 : ∀ (s1 : ST), s1 = sP st (pgN2 v x) → ∀ (H : Heap) (locs : List Loc) (ls : Array Slot), Now G zs (XW G ad s1 ++ ex) H locs → lv_has ls 2 [(0, .ref (ad 6)), (1, .int v)] → W zp l ze (RM 1) zs zm zargs zbelow zmeth zc H locs 0 0 zQ (F0 zm 37 ls []) := by
          intro s1 hs H locs ls N hl
          refine lv_aload_n hx hb dX1_writeNumber_37 rfl (lv_at hl 0 rfl) ?_
          refine lv_bipush (v := 48) hx hb dX1_writeNumber_38 (by decide) ?_
          refine lv_iload_n hx hb dX1_writeNumber_40 rfl (lv_at hl 1 rfl) ?_
          refine lv_bipush (v := 10) hx hb dX1_writeNumber_41 (by decide) ?_
          refine lv_irem hx hb dX1_writeNumber_43 (by decide) ?_
          refine lv_iadd hx hb dX1_writeNumber_44 ?_
          refine xV_v F N (c_X1_add l G ad ex s1 ((48 : Int32) + (v - v / (10 : Int32) * (10 : Int32))) (pgN2 v x) (by simp [hs, sP_1, hQ]) (by simp [hs, sP_21, hg]) (pgN2_le hQ2)) miX1_add k_561 (by decide) hl.1 rfl (Nat.le_of_ble_eq_true rfl) (q0 := 6) (ci := 1) rfl rfl dX1_writeNumber_45 (fun st_45 est_45 H locs N => ?_)
          exact hret _ _ _ _ _ dX1_writeNumber_48 (by rw [est_45, hs, sP_sP]; rfl) N
        exact cut_37 s1 (by first | (unfold pgN2; rw [if_pos c_20, hs]) | (unfold pgN2; rw [if_neg c_20, hs, sP_sP])) _ _ _ N (lv_sub hl [0, 1] rfl)
      · have c_20v := nlt_le c_20
        refine lv_aload_n hx hb dX1_writeNumber_23 rfl (lv_at hl 0 rfl) ?_
        refine lv_bipush (v := 48) hx hb dX1_writeNumber_24 (by decide) ?_
        refine lv_iload_n hx hb dX1_writeNumber_26 rfl (lv_at hl 1 rfl) ?_
        refine lv_bipush (v := 10) hx hb dX1_writeNumber_27 (by decide) ?_
        refine lv_idiv hx hb dX1_writeNumber_29 (by decide) ?_
        refine lv_bipush (v := 10) hx hb dX1_writeNumber_30 (by decide) ?_
        refine lv_irem hx hb dX1_writeNumber_32 (by decide) ?_
        refine lv_iadd hx hb dX1_writeNumber_33 ?_
        refine xV_v F N (c_X1_add l G ad ex s1 ((48 : Int32) + ((v / (10 : Int32)) - (v / (10 : Int32)) / (10 : Int32) * (10 : Int32))) (pgN1 v x) (by simp [hs, sP_1, hQ]) (by simp [hs, sP_21, hg]) (pgN1_le hQ2)) miX1_add k_561 (by decide) hl.1 rfl (Nat.le_of_ble_eq_true rfl) (q0 := 6) (ci := 1) rfl rfl dX1_writeNumber_34 (fun st_34 est_34 H locs N => ?_)
        have cut_37 : ∀ (s1 : ST), s1 = sP st (pgN2 v x) → ∀ (H : Heap) (locs : List Loc) (ls : Array Slot), Now G zs (XW G ad s1 ++ ex) H locs → lv_has ls 2 [(0, .ref (ad 6)), (1, .int v)] → W zp l ze (RM 1) zs zm zargs zbelow zmeth zc H locs 0 0 zQ (F0 zm 37 ls []) := by
          intro s1 hs H locs ls N hl
          refine lv_aload_n hx hb dX1_writeNumber_37 rfl (lv_at hl 0 rfl) ?_
          refine lv_bipush (v := 48) hx hb dX1_writeNumber_38 (by decide) ?_
          refine lv_iload_n hx hb dX1_writeNumber_40 rfl (lv_at hl 1 rfl) ?_
          refine lv_bipush (v := 10) hx hb dX1_writeNumber_41 (by decide) ?_
          refine lv_irem hx hb dX1_writeNumber_43 (by decide) ?_
          refine lv_iadd hx hb dX1_writeNumber_44 ?_
          refine xV_v F N (c_X1_add l G ad ex s1 ((48 : Int32) + (v - v / (10 : Int32) * (10 : Int32))) (pgN2 v x) (by simp [hs, sP_1, hQ]) (by simp [hs, sP_21, hg]) (pgN2_le hQ2)) miX1_add k_561 (by decide) hl.1 rfl (Nat.le_of_ble_eq_true rfl) (q0 := 6) (ci := 1) rfl rfl dX1_writeNumber_45 (fun st_45 est_45 H locs N => ?_)
          exact hret _ _ _ _ _ dX1_writeNumber_48 (by rw [est_45, hs, sP_sP]; rfl) N
        exact cut_37 st_34 (by first | (unfold pgN2; rw [if_pos c_20, hs]) | (unfold pgN2; rw [if_neg c_20, est_34, hs, sP_sP])) _ _ _ N (lv_sub hl [0, 1] rfl)
    exact cut_17 st (by first | (unfold pgN1; rw [if_pos c_3]; exact (sP_self hQ hg).symm) | (unfold pgN1; rw [if_neg c_3]; exact est_14)) _ _ _ N (lv_sub hl [0, 1] rfl)
  · have c_3v := nlt_le c_3
    refine lv_aload_n hx hb dX1_writeNumber_6 rfl (lv_at hl 0 rfl) ?_
    refine lv_bipush (v := 48) hx hb dX1_writeNumber_7 (by decide) ?_
    refine lv_iload_n hx hb dX1_writeNumber_9 rfl (lv_at hl 1 rfl) ?_
    refine lv_bipush (v := 100) hx hb dX1_writeNumber_10 (by decide) ?_
    refine lv_idiv hx hb dX1_writeNumber_12 (by decide) ?_
    refine lv_iadd hx hb dX1_writeNumber_13 ?_
    refine xV_v F N (c_X1_add l G ad ex st ((48 : Int32) + (v / (100 : Int32))) x (by simp [sP_1, hQ]) (by simp [sP_21, hg]) hQ2) miX1_add k_561 (by decide) hl.1 rfl (Nat.le_of_ble_eq_true rfl) (q0 := 6) (ci := 1) rfl rfl dX1_writeNumber_14 (fun st_14 est_14 H locs N => ?_)
    have cut_17 : ∀ (s1 : ST), s1 = sP st (pgN1 v x) → ∀ (H : Heap) (locs : List Loc) (ls : Array Slot), Now G zs (XW G ad s1 ++ ex) H locs → lv_has ls 2 [(0, .ref (ad 6)), (1, .int v)] → W zp l ze (RM 1) zs zm zargs zbelow zmeth zc H locs 0 0 zQ (F0 zm 17 ls []) := by
      intro s1 hs H locs ls N hl
      refine lv_iload_n hx hb dX1_writeNumber_17 rfl (lv_at hl 1 rfl) ?_
      refine lv_bipush (v := 10) hx hb dX1_writeNumber_18 (by decide) ?_
      refine lv_icmp_lt (tgt := 37) hx hb dX1_writeNumber_20 (by decide) (fun c_20 => ?_) (fun c_20 => ?_)
      · have c_20v := lt_nle c_20
        have cut_37 : ∀ (s1 : ST), s1 = sP st (pgN2 v x) → ∀ (H : Heap) (locs : List Loc) (ls : Array Slot), Now G zs (XW G ad s1 ++ ex) H locs → lv_has ls 2 [(0, .ref (ad 6)), (1, .int v)] → W zp l ze (RM 1) zs zm zargs zbelow zmeth zc H locs 0 0 zQ (F0 zm 37 ls []) := by
          intro s1 hs H locs ls N hl
          refine lv_aload_n hx hb dX1_writeNumber_37 rfl (lv_at hl 0 rfl) ?_
          refine lv_bipush (v := 48) hx hb dX1_writeNumber_38 (by decide) ?_
          refine lv_iload_n hx hb dX1_writeNumber_40 rfl (lv_at hl 1 rfl) ?_
          refine lv_bipush (v := 10) hx hb dX1_writeNumber_41 (by decide) ?_
          refine lv_irem hx hb dX1_writeNumber_43 (by decide) ?_
          refine lv_iadd hx hb dX1_writeNumber_44 ?_
          refine xV_v F N (c_X1_add l G ad ex s1 ((48 : Int32) + (v - v / (10 : Int32) * (10 : Int32))) (pgN2 v x) (by simp [hs, sP_1, hQ]) (by simp [hs, sP_21, hg]) (pgN2_le hQ2)) miX1_add k_561 (by decide) hl.1 rfl (Nat.le_of_ble_eq_true rfl) (q0 := 6) (ci := 1) rfl rfl dX1_writeNumber_45 (fun st_45 est_45 H locs N => ?_)
          exact hret _ _ _ _ _ dX1_writeNumber_48 (by rw [est_45, hs, sP_sP]; rfl) N
        exact cut_37 s1 (by first | (unfold pgN2; rw [if_pos c_20, hs]) | (unfold pgN2; rw [if_neg c_20, hs, sP_sP])) _ _ _ N (lv_sub hl [0, 1] rfl)
      · have c_20v := nlt_le c_20
        refine lv_aload_n hx hb dX1_writeNumber_23 rfl (lv_at hl 0 rfl) ?_
        refine lv_bipush (v := 48) hx hb dX1_writeNumber_24 (by decide) ?_
        refine lv_iload_n hx hb dX1_writeNumber_26 rfl (lv_at hl 1 rfl) ?_
        refine lv_bipush (v := 10) hx hb dX1_writeNumber_27 (by decide) ?_
        refine lv_idiv hx hb dX1_writeNumber_29 (by decide) ?_
        refine lv_bipush (v := 10) hx hb dX1_writeNumber_30 (by decide) ?_
        refine lv_irem hx hb dX1_writeNumber_32 (by decide) ?_
        refine lv_iadd hx hb dX1_writeNumber_33 ?_
        refine xV_v F N (c_X1_add l G ad ex s1 ((48 : Int32) + ((v / (10 : Int32)) - (v / (10 : Int32)) / (10 : Int32) * (10 : Int32))) (pgN1 v x) (by simp [hs, sP_1, hQ]) (by simp [hs, sP_21, hg]) (pgN1_le hQ2)) miX1_add k_561 (by decide) hl.1 rfl (Nat.le_of_ble_eq_true rfl) (q0 := 6) (ci := 1) rfl rfl dX1_writeNumber_34 (fun st_34 est_34 H locs N => ?_)
        have cut_37 : ∀ (s1 : ST), s1 = sP st (pgN2 v x) → ∀ (H : Heap) (locs : List Loc) (ls : Array Slot), Now G zs (XW G ad s1 ++ ex) H locs → lv_has ls 2 [(0, .ref (ad 6)), (1, .int v)] → W zp l ze (RM 1) zs zm zargs zbelow zmeth zc H locs 0 0 zQ (F0 zm 37 ls []) := by
          intro s1 hs H locs ls N hl
          refine lv_aload_n hx hb dX1_writeNumber_37 rfl (lv_at hl 0 rfl) ?_
          refine lv_bipush (v := 48) hx hb dX1_writeNumber_38 (by decide) ?_
          refine lv_iload_n hx hb dX1_writeNumber_40 rfl (lv_at hl 1 rfl) ?_
          refine lv_bipush (v := 10) hx hb dX1_writeNumber_41 (by decide) ?_
          refine lv_irem hx hb dX1_writeNumber_43 (by decide) ?_
          refine lv_iadd hx hb dX1_writeNumber_44 ?_
          refine xV_v F N (c_X1_add l G ad ex s1 ((48 : Int32) + (v - v / (10 : Int32) * (10 : Int32))) (pgN2 v x) (by simp [hs, sP_1, hQ]) (by simp [hs, sP_21, hg]) (pgN2_le hQ2)) miX1_add k_561 (by decide) hl.1 rfl (Nat.le_of_ble_eq_true rfl) (q0 := 6) (ci := 1) rfl rfl dX1_writeNumber_45 (fun st_45 est_45 H locs N => ?_)
          exact hret _ _ _ _ _ dX1_writeNumber_48 (by rw [est_45, hs, sP_sP]; rfl) N
        exact cut_37 st_34 (by first | (unfold pgN2; rw [if_pos c_20, hs]) | (unfold pgN2; rw [if_neg c_20, est_34, hs, sP_sP])) _ _ _ N (lv_sub hl [0, 1] rfl)
    exact cut_17 st_14 (by first | (unfold pgN1; rw [if_pos c_3]; exact (sP_self hQ hg).symm) | (unfold pgN1; rw [if_neg c_3]; exact est_14)) _ _ _ N (lv_sub hl [0, 1] rfl)
set_option maxHeartbeats 4000000 in
set_option maxRecDepth 100000 in
theorem c_X1_writeTerm (l : Launch) (G : GM) (ad : Nat → Nat) (ex : va_W) (st : ST) (t : Int32) (x : PG) (hQ : st.1 10 = nI x.1) (hg : st.2.1 10 = x.2) (hQ2 : x.1 ≤ 39) : XXv l G yX1_writeTerm cX1_writeTerm 2 none 2 [.ref (ad 6), .int t] ad ex st (sP st (pgT t x)) := by
  refine xv_start (by decide) (Nat.le_of_ble_eq_true rfl) ?_
  intro zp ze zs zm zargs zbelow zmeth zc zQ ls F N hl hret
  have hx := F.1
  have hb := F.2.1
  have hl : lv_has ls 2 [(0, .ref (ad 6)), (1, .int t)] := hl
  refine lv_iload_n hx hb dX1_writeTerm_0 rfl (lv_at hl 1 rfl) ?_
  refine cS_i F N (c_X5_kind l G _ t) miX5_kind k_570 (by decide) hl.1 rfl (Nat.le_of_ble_eq_true rfl) dX1_writeTerm_1 (fun H locs N => ?_)
  by_cases c_4_1 : (tKind t) = 1
  · refine lv_tableIn (off := 28) (tgt := 32) hx hb dX1_writeTerm_4 (by rw [c_4_1]; decide) (by rw [c_4_1]; decide) (by rw [c_4_1]; decide) (by decide) ?_
    refine lv_aload_n hx hb dX1_writeTerm_32 rfl (lv_at hl 0 rfl) ?_
    refine lv_iload_n hx hb dX1_writeTerm_33 rfl (lv_at hl 1 rfl) ?_
    refine cS_i F N (c_X5_number l G _ t) miX5_number k_571 (by decide) hl.1 rfl (Nat.le_of_ble_eq_true rfl) dX1_writeTerm_34 (fun H locs N => ?_)
    refine xV_v F N (c_X1_writeNumber l G ad ex st (tNum t) x (by simp [sP_1, hQ]) (by simp [sP_21, hg]) hQ2) miX1_writeNumber k_572 (by decide) hl.1 rfl (Nat.le_of_ble_eq_true rfl) (q0 := 6) (ci := 1) rfl rfl dX1_writeTerm_37 (fun st_37 est_37 H locs N => ?_)
    refine lv_goto (tgt := 79) hx hb dX1_writeTerm_40 (by decide) ?_
    exact hret _ _ _ _ _ dX1_writeTerm_79 (by simp [pgT, est_37, sP_sP, c_4_1]) N
  by_cases c_4_2 : (tKind t) = 2
  · refine lv_tableIn (off := 39) (tgt := 43) hx hb dX1_writeTerm_4 (by rw [c_4_2]; decide) (by rw [c_4_2]; decide) (by rw [c_4_2]; decide) (by decide) ?_
    refine lv_aload_n hx hb dX1_writeTerm_43 rfl (lv_at hl 0 rfl) ?_
    refine lv_iload_n hx hb dX1_writeTerm_44 rfl (lv_at hl 1 rfl) ?_
    refine lv_iconst (v := 0) hx hb dX1_writeTerm_45 (by decide) ?_
    refine xV_v F N (c_X1_writePlace l G ad ex st t 0 x (by simp [sP_1, hQ]) (by simp [sP_21, hg]) hQ2) miX1_writePlace k_576 (by decide) hl.1 rfl (Nat.le_of_ble_eq_true rfl) (q0 := 6) (ci := 1) rfl rfl dX1_writeTerm_46 (fun st_46 est_46 H locs N => ?_)
    refine lv_goto (tgt := 79) hx hb dX1_writeTerm_49 (by decide) ?_
    exact hret _ _ _ _ _ dX1_writeTerm_79 (by simp [pgT, est_46, sP_sP, c_4_1, c_4_2]) N
  by_cases c_4_3 : (tKind t) = 3
  · refine lv_tableIn (off := 48) (tgt := 52) hx hb dX1_writeTerm_4 (by rw [c_4_3]; decide) (by rw [c_4_3]; decide) (by rw [c_4_3]; decide) (by decide) ?_
    refine lv_aload_n hx hb dX1_writeTerm_52 rfl (lv_at hl 0 rfl) ?_
    refine lv_iload_n hx hb dX1_writeTerm_53 rfl (lv_at hl 1 rfl) ?_
    refine lv_iconst (v := 0) hx hb dX1_writeTerm_54 (by decide) ?_
    refine xV_v F N (c_X1_writePlace l G ad ex st t 0 x (by simp [sP_1, hQ]) (by simp [sP_21, hg]) hQ2) miX1_writePlace k_576 (by decide) hl.1 rfl (Nat.le_of_ble_eq_true rfl) (q0 := 6) (ci := 1) rfl rfl dX1_writeTerm_55 (fun st_55 est_55 H locs N => ?_)
    refine lv_aload_n hx hb dX1_writeTerm_58 rfl (lv_at hl 0 rfl) ?_
    refine lv_bipush (v := 58) hx hb dX1_writeTerm_59 (by decide) ?_
    refine xV_v F N (c_X1_add l G ad ex st_55 58 (pgPl t 0 x) (by simp [est_55, sP_1, hQ]) (by simp [est_55, sP_21, hg]) (pgPl_le hQ2)) miX1_add k_561 (by decide) hl.1 rfl (Nat.le_of_ble_eq_true rfl) (q0 := 6) (ci := 1) rfl rfl dX1_writeTerm_61 (fun st_61 est_61 H locs N => ?_)
    refine lv_aload_n hx hb dX1_writeTerm_64 rfl (lv_at hl 0 rfl) ?_
    refine lv_iload_n hx hb dX1_writeTerm_65 rfl (lv_at hl 1 rfl) ?_
    refine lv_iconst (v := 2) hx hb dX1_writeTerm_66 (by decide) ?_
    refine xV_v F N (c_X1_writePlace l G ad ex st_61 t 2 (pgA (pgPl t 0 x) 58) (by simp [est_61, est_55, sP_1, hQ]) (by simp [est_61, est_55, sP_21, hg]) (pgA_le (pgPl_le hQ2))) miX1_writePlace k_576 (by decide) hl.1 rfl (Nat.le_of_ble_eq_true rfl) (q0 := 6) (ci := 1) rfl rfl dX1_writeTerm_67 (fun st_67 est_67 H locs N => ?_)
    refine lv_goto (tgt := 79) hx hb dX1_writeTerm_70 (by decide) ?_
    exact hret _ _ _ _ _ dX1_writeTerm_79 (by simp [pgT, est_67, est_61, est_55, sP_sP, c_4_1, c_4_2, c_4_3]) N
  refine lv_tableOut (tgt := 73) hx hb dX1_writeTerm_4 (tblOut_1_3 c_4_1 c_4_2 c_4_3) (by decide) ?_
  refine lv_aload_n hx hb dX1_writeTerm_73 rfl (lv_at hl 0 rfl) ?_
  refine lv_bipush (v := 35) hx hb dX1_writeTerm_74 (by decide) ?_
  refine xV_v F N (c_X1_add l G ad ex st 35 x (by simp [sP_1, hQ]) (by simp [sP_21, hg]) hQ2) miX1_add k_561 (by decide) hl.1 rfl (Nat.le_of_ble_eq_true rfl) (q0 := 6) (ci := 1) rfl rfl dX1_writeTerm_76 (fun st_76 est_76 H locs N => ?_)
  exact hret _ _ _ _ _ dX1_writeTerm_79 (by simp [pgT, est_76, sP_sP, c_4_1, c_4_2, c_4_3]) N
set_option maxHeartbeats 4000000 in
set_option maxRecDepth 100000 in
theorem c_X1_write (l : Launch) (G : GM) (ad : Nat → Nat) (ex : va_W) (st : ST) (cell : Nat) (hc : cell < 36) : XXv l G yX1_write cX1_write 5 none 3 [.ref (ad 6), .ref (ad 3), .int (nI cell)] ad ex st (sP st (pgW (st.2.1 2) cell (st.2.1 10))) := by
  refine xv_start (by decide) (Nat.le_of_ble_eq_true rfl) ?_
  intro zp ze zs zm zargs zbelow zmeth zc zQ ls F N hl hret
  have hx := F.1
  have hb := F.2.1
  have hl : lv_has ls 5 [(0, .ref (ad 6)), (1, .ref (ad 3)), (2, .int (nI cell))] := hl
  have hz := szL_le (st.2.1 2) cell 4 0
  refine lv_aload_n hx hb dX1_write_0 rfl (lv_at hl 0 rfl) ?_
  refine lv_iconst (v := 0) hx hb dX1_write_1 (by decide) ?_
  refine px_6_length F N k_196 dX1_write_2 (fun st_2 est_2 H locs N => ?_)
  refine lv_aload_n hx hb dX1_write_5 rfl (lv_at hl 1 rfl) ?_
  refine lv_iload_n hx hb dX1_write_6 rfl (lv_at hl 2 rfl) ?_
  refine cV_i F N (c_X4_sizeOf l G ad ex st_2 cell (by omega)) miX4_sizeOf k_560 (by decide) hl.1 rfl (Nat.le_of_ble_eq_true rfl) (q0 := 3) (ci := 4) rfl rfl dX1_write_7 (fun H locs N => ?_)
  refine toN (a := szL (st.2.1 2) cell 4 0) (by rw [est_2]; rfl) ?_
  refine lv_istore_n (lv' := [(3, .int (nI (szL (st.2.1 2) cell 4 0))), (0, .ref (ad 6)), (1, .ref (ad 3)), (2, .int (nI cell))]) hx hb dX1_write_10 rfl hl (by decide) rfl (fun ls hl => ?_)
  refine lv_iconst (v := 0) hx hb dX1_write_11 (by decide) ?_
  refine lv_istore (lv' := [(4, .int 0), (3, .int (nI (szL (st.2.1 2) cell 4 0))), (0, .ref (ad 6)), (1, .ref (ad 3)), (2, .int (nI cell))]) hx hb dX1_write_12 hl (by decide) rfl (fun ls hl => ?_)
  have cut_14 : ∀ (k : Nat) (i : Nat) (x : PG) (s1 : ST), i + k = szL (st.2.1 2) cell 4 0 → s1 = sP st x → x.1 ≤ 39 → pgL (st.2.1 2) cell k i x = pgW (st.2.1 2) cell (st.2.1 10) → ∀ (H : Heap) (locs : List Loc) (ls : Array Slot), Now G zs (XW G ad s1 ++ ex) H locs → lv_has ls 5 [(0, .ref (ad 6)), (1, .ref (ad 3)), (2, .int (nI cell)), (3, .int (nI (szL (st.2.1 2) cell 4 0))), (4, .int (nI i))] → W zp l ze (RM 3) zs zm zargs zbelow zmeth zc H locs 0 0 zQ (F0 zm 14 ls []) := by
    intro k
    induction k with
    | zero =>
      intro i x s1 hk hs hx9 hI H locs ls N hl
      refine lv_iload hx hb dX1_write_14 (lv_at hl 4 rfl) ?_
      refine lv_iload_n hx hb dX1_write_16 rfl (lv_at hl 3 rfl) ?_
      refine cmpN_ge (a := i) (b := (szL (st.2.1 2) cell 4 0)) (tgt := 48) hx hb dX1_write_17 (by decide) (by omega) (by omega) (fun c_17 => ?_) (fun c_17 => ?_)
      · have c_17v := Nat.not_lt.mpr c_17
        exact hret _ _ _ _ _ dX1_write_48 (by rw [hs, ← hI]; rfl) N
      · exfalso; omega
    | succ k ih_14 =>
      intro i x s1 hk hs hx9 hI H locs ls N hl
      refine lv_iload hx hb dX1_write_14 (lv_at hl 4 rfl) ?_
      refine lv_iload_n hx hb dX1_write_16 rfl (lv_at hl 3 rfl) ?_
      refine cmpN_ge (a := i) (b := (szL (st.2.1 2) cell 4 0)) (tgt := 48) hx hb dX1_write_17 (by decide) (by omega) (by omega) (fun c_17 => ?_) (fun c_17 => ?_)
      · exfalso; omega
      · have c_17v := Nat.not_le.mp c_17
        refine lv_iload hx hb dX1_write_20 (lv_at hl 4 rfl) ?_
        refine ifN_le (a := i) (tgt := 31) hx hb dX1_write_22 (by decide) (by omega) (fun c_22 => ?_) (fun c_22 => ?_)
        · refine lv_aload_n hx hb dX1_write_31 rfl (lv_at hl 0 rfl) ?_
          refine lv_aload_n hx hb dX1_write_32 rfl (lv_at hl 1 rfl) ?_
          refine lv_iload_n hx hb dX1_write_33 rfl (lv_at hl 2 rfl) ?_
          refine lv_iload hx hb dX1_write_34 (lv_at hl 4 rfl) ?_
          refine cV_i F N (c_X4_termOf l G ad ex s1 cell i hc (by omega)) miX4_termOf k_565 (by decide) hl.1 rfl (Nat.le_of_ble_eq_true rfl) (q0 := 3) (ci := 4) rfl rfl dX1_write_36 (fun H locs N => ?_)
          refine toI (y := tm (st.2.1 2) cell i) (by simp [hs, sP_21]) ?_
          refine xV_v F N (c_X1_writeTerm l G ad ex s1 (tm (st.2.1 2) cell i) (if i = 0 then x else pgA x 43) (by simp [hs, sP_1, c_22]) (by simp [hs, sP_21, c_22]) (by first | (rw [if_pos c_22]; exact hx9) | (rw [if_neg c_22]; exact pgA_le hx9))) miX1_writeTerm k_566 (by decide) hl.1 rfl (Nat.le_of_ble_eq_true rfl) (q0 := 6) (ci := 1) rfl rfl dX1_write_39 (fun st_39 est_39 H locs N => ?_)
          refine lv_iinc (v := (nI (i + 1))) (lv' := [(4, .int (nI (i + 1))), (0, .ref (ad 6)), (1, .ref (ad 3)), (2, .int (nI cell)), (3, .int (nI (szL (st.2.1 2) cell 4 0)))]) hx hb dX1_write_42 hl (k := 4) rfl (nI_1 i) (by decide) rfl (fun ls hl => ?_)
          refine lv_goto (tgt := 14) hx hb dX1_write_45 (by decide) ?_
          exact ih_14 (i + 1) (pgT (tm (st.2.1 2) cell i) (if i = 0 then x else pgA x 43)) st_39 (by omega) (by first | (rw [est_39, hs, sP_sP]; done) | (rw [est_39, hs, sP_sP, sP_sP]; done)) (by first | (rw [if_pos c_22]; exact pgT_le hx9) | (rw [if_neg c_22]; exact pgT_le (pgA_le hx9))) hI _ _ _ N (lv_sub hl [1, 2, 3, 4, 0] rfl)
        · refine lv_aload_n hx hb dX1_write_25 rfl (lv_at hl 0 rfl) ?_
          refine lv_bipush (v := 43) hx hb dX1_write_26 (by decide) ?_
          refine xV_v F N (c_X1_add l G ad ex s1 43 x (by simp [hs, sP_1]) (by simp [hs, sP_21]) hx9) miX1_add k_561 (by decide) hl.1 rfl (Nat.le_of_ble_eq_true rfl) (q0 := 6) (ci := 1) rfl rfl dX1_write_28 (fun st_28 est_28 H locs N => ?_)
          refine lv_aload_n hx hb dX1_write_31 rfl (lv_at hl 0 rfl) ?_
          refine lv_aload_n hx hb dX1_write_32 rfl (lv_at hl 1 rfl) ?_
          refine lv_iload_n hx hb dX1_write_33 rfl (lv_at hl 2 rfl) ?_
          refine lv_iload hx hb dX1_write_34 (lv_at hl 4 rfl) ?_
          refine cV_i F N (c_X4_termOf l G ad ex st_28 cell i hc (by omega)) miX4_termOf k_565 (by decide) hl.1 rfl (Nat.le_of_ble_eq_true rfl) (q0 := 3) (ci := 4) rfl rfl dX1_write_36 (fun H locs N => ?_)
          refine toI (y := tm (st.2.1 2) cell i) (by simp [est_28, hs, sP_21]) ?_
          refine xV_v F N (c_X1_writeTerm l G ad ex st_28 (tm (st.2.1 2) cell i) (if i = 0 then x else pgA x 43) (by simp [est_28, hs, sP_1, c_22]) (by simp [est_28, hs, sP_21, c_22]) (by first | (rw [if_pos c_22]; exact hx9) | (rw [if_neg c_22]; exact pgA_le hx9))) miX1_writeTerm k_566 (by decide) hl.1 rfl (Nat.le_of_ble_eq_true rfl) (q0 := 6) (ci := 1) rfl rfl dX1_write_39 (fun st_39 est_39 H locs N => ?_)
          refine lv_iinc (v := (nI (i + 1))) (lv' := [(4, .int (nI (i + 1))), (0, .ref (ad 6)), (1, .ref (ad 3)), (2, .int (nI cell)), (3, .int (nI (szL (st.2.1 2) cell 4 0)))]) hx hb dX1_write_42 hl (k := 4) rfl (nI_1 i) (by decide) rfl (fun ls hl => ?_)
          refine lv_goto (tgt := 14) hx hb dX1_write_45 (by decide) ?_
          exact ih_14 (i + 1) (pgT (tm (st.2.1 2) cell i) (if i = 0 then x else pgA x 43)) st_39 (by omega) (by first | (rw [est_39, est_28, hs, sP_sP]; done) | (rw [est_39, est_28, hs, sP_sP, sP_sP]; done)) (by first | (rw [if_pos c_22]; exact pgT_le hx9) | (rw [if_neg c_22]; exact pgT_le (pgA_le hx9))) hI _ _ _ N (lv_sub hl [1, 2, 3, 4, 0] rfl)
  exact cut_14 (szL (st.2.1 2) cell 4 0) 0 (0, st.2.1 10) st_2 (by omega) (by rw [est_2]; unfold sP; dsimp only; rw [sA_self rfl]; rfl) (Nat.zero_le 39) rfl _ _ _ N (lv_sub hl [2, 3, 4, 1, 0] rfl)
set_option maxHeartbeats 4000000 in
set_option maxRecDepth 100000 in
theorem c_X1_letterAt (l : Launch) (G : GM) (ad : Nat → Nat) (ex : va_W) (st : ST) (j : Nat) (x : PG) (hQ : st.1 10 = nI x.1) (hg : st.2.1 10 = x.2) (hQ2 : x.1 ≤ 39) (hj : j < 2 ^ 31) : XCi l G yX1_letterAt cX1_letterAt 2 (some .int) 0 [.ref (ad 6), .int (nI j)] (XW G ad st ++ ex) (if x.1 ≤ j then -1 else x.2 j) (XW G ad st ++ ex) := by
  refine xi_start (by decide) rfl (Nat.le_of_ble_eq_true rfl) ?_
  intro zp ze zs zm zargs zbelow zmeth zc zQ ls F N hl hret
  have hx := F.1
  have hb := F.2.1
  have hl : lv_has ls 2 [(0, .ref (ad 6)), (1, .int (nI j))] := hl
  refine lv_iload_n hx hb dX1_letterAt_0 rfl (lv_at hl 1 rfl) ?_
  refine ifN_lt (a := j) (tgt := 21) hx hb dX1_letterAt_1 (by decide) (by omega) ?_
  refine lv_iload_n hx hb dX1_letterAt_4 rfl (lv_at hl 1 rfl) ?_
  refine lv_aload_n hx hb dX1_letterAt_5 rfl (lv_at hl 0 rfl) ?_
  refine gx_6_length F N k_196 dX1_letterAt_6 ?_
  refine toN (a := x.1) hQ ?_
  refine cmpN_ge (a := j) (b := x.1) (tgt := 21) hx hb dX1_letterAt_9 (by decide) (by omega) (by omega) (fun c_9 => ?_) (fun c_9 => ?_)
  · have c_9v := Nat.not_lt.mpr c_9
    refine lv_iconst (v := (-1)) hx hb dX1_letterAt_21 (by decide) ?_
    exact hret _ _ _ _ _ _ dX1_letterAt_22 (by simp [c_9, c_9v]) (by rfl) N
  · have c_9v := Nat.not_le.mp c_9
    refine lv_aload_n hx hb dX1_letterAt_12 rfl (lv_at hl 0 rfl) ?_
    refine gx_6_letters F N k_195 dX1_letterAt_13 ?_
    refine lv_iload_n hx hb dX1_letterAt_16 rfl (lv_at hl 1 rfl) ?_
    refine axN_10 (j := j) F N (by omega) dX1_letterAt_17 ?_
    refine toI (y := x.2 j) (by rw [hg]) ?_
    refine lv_goto (tgt := 22) hx hb dX1_letterAt_18 (by decide) ?_
    exact hret _ _ _ _ _ _ dX1_letterAt_22 (by simp [c_9, c_9v]) (by rfl) N
