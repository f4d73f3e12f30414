set_option maxHeartbeats 4000000 in
set_option maxRecDepth 100000 in
theorem c_X0_init (l : Launch) (G : GM) (a : Nat) (c : Nat) (r : Nat) (wd : Nat) (ht : Nat) (ex : va_W) : XNv l G yX0_init cX0_init 5 1 0 0 [.ref a, .int (nI c), .int (nI r), .int (nI wd), .int (nI ht)] ([(a, .inr (0, [.int 0, .int 0, .int 0, .int 0]))] ++ ex) (Unit) (fun u => [(a, .inr (0, [.int (nI c), .int (nI r), .int (nI wd), .int (nI ht)]))] ++ ex) := by
  refine xn_start (by decide) rfl (Nat.le_of_ble_eq_true rfl) ?_
  intro zp ze zs zm zargs zbelow zmeth zc zQ ls F N hl hin hret
  have hx := F.1
  have hb := F.2.1
  have hl : lv_has ls 5 [(0, .ref a), (1, .int (nI c)), (2, .int (nI r)), (3, .int (nI wd)), (4, .int (nI ht))] := hl
  refine lv_aload_n hx hb dX0_init_0 rfl (lv_at hl 0 rfl) ?_
  refine xoI F k_471 hl.1 (Nat.le_of_ble_eq_true rfl) (Nat.le_of_ble_eq_true rfl) (Nat.le_of_ble_eq_true rfl) dX0_init_1 ?_
  refine lv_aload_n hx hb dX0_init_4 rfl (lv_at hl 0 rfl) ?_
  refine lv_iload_n hx hb dX0_init_5 rfl (lv_at hl 1 rfl) ?_
  refine va_putF (D := G.1) (ci := 0) (v := .int (nI c)) (ty := .int) (C := RX0) (T := TX0) (N := 4) hx hb F.2.2.2.2.1 inGX0 tyX0 tyX0_ok nmX0 F.2.2.2.1 F.2.2.2.2.2.1 N.1 N.2.1 N.2.2 0 rfl rfl 0 (by decide) (F.2.2.2.2.1 _ k_472) (fun _ h => h) rfl hin rfl (by decide +kernel) rfl rfl (Nat.le_of_ble_eq_true rfl) dX0_init_6 (fun H locs hP hD hS => ?_)
  have N : Now G zs ([(a, .inr (0, [.int (nI c), .int 0, .int 0, .int 0]))] ++ ex) H locs := ⟨hP, hD, hS⟩
  refine lv_aload_n hx hb dX0_init_9 rfl (lv_at hl 0 rfl) ?_
  refine lv_iload_n hx hb dX0_init_10 rfl (lv_at hl 2 rfl) ?_
  refine va_putF (D := G.1) (ci := 0) (v := .int (nI r)) (ty := .int) (C := RX0) (T := TX0) (N := 4) hx hb F.2.2.2.2.1 inGX0 tyX0 tyX0_ok nmX0 F.2.2.2.1 F.2.2.2.2.2.1 N.1 N.2.1 N.2.2 0 rfl rfl 1 (by decide) (F.2.2.2.2.1 _ k_474) (fun _ h => h) rfl hin rfl (by decide +kernel) rfl rfl (Nat.le_of_ble_eq_true rfl) dX0_init_11 (fun H locs hP hD hS => ?_)
  have N : Now G zs ([(a, .inr (0, [.int (nI c), .int (nI r), .int 0, .int 0]))] ++ ex) H locs := ⟨hP, hD, hS⟩
  refine lv_aload_n hx hb dX0_init_14 rfl (lv_at hl 0 rfl) ?_
  refine lv_iload_n hx hb dX0_init_15 rfl (lv_at hl 3 rfl) ?_
  refine va_putF (D := G.1) (ci := 0) (v := .int (nI wd)) (ty := .int) (C := RX0) (T := TX0) (N := 4) hx hb F.2.2.2.2.1 inGX0 tyX0 tyX0_ok nmX0 F.2.2.2.1 F.2.2.2.2.2.1 N.1 N.2.1 N.2.2 0 rfl rfl 2 (by decide) (F.2.2.2.2.1 _ k_476) (fun _ h => h) rfl hin rfl (by decide +kernel) rfl rfl (Nat.le_of_ble_eq_true rfl) dX0_init_16 (fun H locs hP hD hS => ?_)
  have N : Now G zs ([(a, .inr (0, [.int (nI c), .int (nI r), .int (nI wd), .int 0]))] ++ ex) H locs := ⟨hP, hD, hS⟩
  refine lv_aload_n hx hb dX0_init_19 rfl (lv_at hl 0 rfl) ?_
  refine lv_iload hx hb dX0_init_20 (lv_at hl 4 rfl) ?_
  refine va_putF (D := G.1) (ci := 0) (v := .int (nI ht)) (ty := .int) (C := RX0) (T := TX0) (N := 4) hx hb F.2.2.2.2.1 inGX0 tyX0 tyX0_ok nmX0 F.2.2.2.1 F.2.2.2.2.2.1 N.1 N.2.1 N.2.2 0 rfl rfl 3 (by decide) (F.2.2.2.2.1 _ k_477) (fun _ h => h) rfl hin rfl (by decide +kernel) rfl rfl (Nat.le_of_ble_eq_true rfl) dX0_init_22 (fun H locs hP hD hS => ?_)
  have N : Now G zs ([(a, .inr (0, [.int (nI c), .int (nI r), .int (nI wd), .int (nI ht)]))] ++ ex) H locs := ⟨hP, hD, hS⟩
  exact hret _ _ _ _ () dX0_init_25 N
set_option maxHeartbeats 4000000 in
set_option maxRecDepth 100000 in
theorem c_X6_init (l : Launch) (G : GM) (a : Nat) (ex : va_W) : XNv l G yX6_init cX6_init 1 1 1 60 [.ref a] ([(a, .inr (5, [.null, .int 0]))] ++ ex) (Nat) (fun u => [(a, .inr (5, [.ref u, .int 0])), (u, av_i G.2.2.1 60 (fun _ => 0))] ++ ex) := by
  refine xn_start (by decide) rfl (Nat.le_of_ble_eq_true rfl) ?_
  intro zp ze zs zm zargs zbelow zmeth zc zQ ls F N hl hin hret
  have hx := F.1
  have hb := F.2.1
  have hl : lv_has ls 1 [(0, .ref a)] := hl
  refine lv_aload_n hx hb dX6_init_0 rfl (lv_at hl 0 rfl) ?_
  refine xoI F k_88 hl.1 (Nat.le_of_ble_eq_true rfl) (Nat.le_of_ble_eq_true rfl) (Nat.le_of_ble_eq_true rfl) dX6_init_1 ?_
  refine lv_aload_n hx hb dX6_init_4 rfl (lv_at hl 0 rfl) ?_
  refine lv_bipush (v := 60) hx hb dX6_init_5 (by decide) ?_
  refine na_i (w := [(a, .inr (5, [.null, .int 0]))]) (n := 60) F N (by decide) (Nat.le_of_ble_eq_true rfl) (Nat.le_of_ble_eq_true rfl) dX6_init_7 (fun b0 H N => ?_)
  have N : Now G zs ([(a, .inr (5, [.null, .int 0])), (b0, av_i G.2.2.1 60 (fun _ => 0))] ++ ex) H _ := N
  refine va_putF (D := G.1) (ci := 5) (v := .ref b0) (ty := .array .int) (C := RX6) (T := TX6) (N := 2) hx hb F.2.2.2.2.1 inGX6 tyX6 tyX6_ok nmX6 F.2.2.2.1 F.2.2.2.2.2.1 N.1 N.2.1 N.2.2 0 rfl rfl 0 (by decide) (F.2.2.2.2.1 _ k_89) (fun _ h => h) rfl hin rfl (by decide +kernel) rfl rfl (Nat.le_of_ble_eq_true rfl) dX6_init_9 (fun H locs hP hD hS => ?_)
  have N : Now G zs ([(a, .inr (5, [.ref b0, .int 0])), (b0, av_i G.2.2.1 60 (fun _ => 0))] ++ ex) H locs := ⟨hP, hD, hS⟩
  exact hret _ _ _ _ b0 dX6_init_12 N
set_option maxHeartbeats 4000000 in
set_option maxRecDepth 100000 in
theorem c_X3_init (l : Launch) (G : GM) (a : Nat) (tx : Nat) (ex : va_W) : XNv l G yX3_init cX3_init 2 1 1 4 [.ref a, .ref tx] ([(a, .inr (3, [.null, .null, .int 0]))] ++ ex) (Nat) (fun u => [(a, .inr (3, [.ref tx, .ref u, .int 0])), (u, av_i G.2.2.1 4 (fun _ => 0))] ++ ex) := by
  refine xn_start (by decide) rfl (Nat.le_of_ble_eq_true rfl) ?_
  intro zp ze zs zm zargs zbelow zmeth zc zQ ls F N hl hin hret
  have hx := F.1
  have hb := F.2.1
  have hl : lv_has ls 2 [(0, .ref a), (1, .ref tx)] := hl
  refine lv_aload_n hx hb dX3_init_0 rfl (lv_at hl 0 rfl) ?_
  refine xoI F k_104 hl.1 (Nat.le_of_ble_eq_true rfl) (Nat.le_of_ble_eq_true rfl) (Nat.le_of_ble_eq_true rfl) dX3_init_1 ?_
  refine lv_aload_n hx hb dX3_init_4 rfl (lv_at hl 0 rfl) ?_
  refine lv_iconst (v := 4) hx hb dX3_init_5 (by decide) ?_
  refine na_i (w := [(a, .inr (3, [.null, .null, .int 0]))]) (n := 4) F N (by decide) (Nat.le_of_ble_eq_true rfl) (Nat.le_of_ble_eq_true rfl) dX3_init_6 (fun b0 H N => ?_)
  have N : Now G zs ([(a, .inr (3, [.null, .null, .int 0])), (b0, av_i G.2.2.1 4 (fun _ => 0))] ++ ex) H _ := N
  refine va_putF (D := G.1) (ci := 3) (v := .ref b0) (ty := .array .int) (C := RX3) (T := TX3) (N := 3) hx hb F.2.2.2.2.1 inGX3 tyX3 tyX3_ok nmX3 F.2.2.2.1 F.2.2.2.2.2.1 N.1 N.2.1 N.2.2 0 rfl rfl 1 (by decide) (F.2.2.2.2.1 _ k_106) (fun _ h => h) rfl hin rfl (by decide +kernel) rfl rfl (Nat.le_of_ble_eq_true rfl) dX3_init_8 (fun H locs hP hD hS => ?_)
  have N : Now G zs ([(a, .inr (3, [.null, .ref b0, .int 0])), (b0, av_i G.2.2.1 4 (fun _ => 0))] ++ ex) H locs := ⟨hP, hD, hS⟩
  refine lv_aload_n hx hb dX3_init_11 rfl (lv_at hl 0 rfl) ?_
  refine lv_aload_n hx hb dX3_init_12 rfl (lv_at hl 1 rfl) ?_
  refine va_putF (D := G.1) (ci := 3) (v := .ref tx) (ty := .object "SheetRefs$Text") (C := RX3) (T := TX3) (N := 3) hx hb F.2.2.2.2.1 inGX3 tyX3 tyX3_ok nmX3 F.2.2.2.1 F.2.2.2.2.2.1 N.1 N.2.1 N.2.2 0 rfl rfl 0 (by decide) (F.2.2.2.2.1 _ k_105) (fun _ h => h) rfl hin rfl (by decide +kernel) rfl rfl (Nat.le_of_ble_eq_true rfl) dX3_init_13 (fun H locs hP hD hS => ?_)
  have N : Now G zs ([(a, .inr (3, [.ref tx, .ref b0, .int 0])), (b0, av_i G.2.2.1 4 (fun _ => 0))] ++ ex) H locs := ⟨hP, hD, hS⟩
  exact hret _ _ _ _ b0 dX3_init_16 N
set_option maxHeartbeats 4000000 in
set_option maxRecDepth 100000 in
theorem c_X4_init (l : Launch) (G : GM) (a : Nat) (ex : va_W) : XNv l G yX4_init cX4_init 1 1 2 288 [.ref a] ([(a, .inr (4, [.null, .null]))] ++ ex) (Nat × Nat) (fun u => [(a, .inr (4, [.ref u.1, .ref u.2])), (u.1, av_i G.2.2.1 144 (fun _ => 0)), (u.2, av_i G.2.2.1 144 (fun _ => 0))] ++ ex) := by
  refine xn_start (by decide) rfl (Nat.le_of_ble_eq_true rfl) ?_
  intro zp ze zs zm zargs zbelow zmeth zc zQ ls F N hl hin hret
  have hx := F.1
  have hb := F.2.1
  have hl : lv_has ls 1 [(0, .ref a)] := hl
  refine lv_aload_n hx hb dX4_init_0 rfl (lv_at hl 0 rfl) ?_
  refine xoI F k_121 hl.1 (Nat.le_of_ble_eq_true rfl) (Nat.le_of_ble_eq_true rfl) (Nat.le_of_ble_eq_true rfl) dX4_init_1 ?_
  refine lv_aload_n hx hb dX4_init_4 rfl (lv_at hl 0 rfl) ?_
  refine lv_sipush (v := 144) hx hb dX4_init_5 (by decide) ?_
  refine na_i (w := [(a, .inr (4, [.null, .null]))]) (n := 144) F N (by decide) (Nat.le_of_ble_eq_true rfl) (Nat.le_of_ble_eq_true rfl) dX4_init_8 (fun b0 H N => ?_)
  have N : Now G zs ([(a, .inr (4, [.null, .null])), (b0, av_i G.2.2.1 144 (fun _ => 0))] ++ ex) H _ := N
  refine va_putF (D := G.1) (ci := 4) (v := .ref b0) (ty := .array .int) (C := RX4) (T := TX4) (N := 2) hx hb F.2.2.2.2.1 inGX4 tyX4 tyX4_ok nmX4 F.2.2.2.1 F.2.2.2.2.2.1 N.1 N.2.1 N.2.2 0 rfl rfl 0 (by decide) (F.2.2.2.2.1 _ k_122) (fun _ h => h) rfl hin rfl (by decide +kernel) rfl rfl (Nat.le_of_ble_eq_true rfl) dX4_init_10 (fun H locs hP hD hS => ?_)
  have N : Now G zs ([(a, .inr (4, [.ref b0, .null])), (b0, av_i G.2.2.1 144 (fun _ => 0))] ++ ex) H locs := ⟨hP, hD, hS⟩
  refine lv_aload_n hx hb dX4_init_13 rfl (lv_at hl 0 rfl) ?_
  refine lv_sipush (v := 144) hx hb dX4_init_14 (by decide) ?_
  refine na_i (w := [(a, .inr (4, [.ref b0, .null])), (b0, av_i G.2.2.1 144 (fun _ => 0))]) (n := 144) F N (by decide) (Nat.le_of_ble_eq_true rfl) (Nat.le_of_ble_eq_true rfl) dX4_init_17 (fun b1 H N => ?_)
  have N : Now G zs ([(a, .inr (4, [.ref b0, .null])), (b0, av_i G.2.2.1 144 (fun _ => 0)), (b1, av_i G.2.2.1 144 (fun _ => 0))] ++ ex) H _ := N
  refine va_putF (D := G.1) (ci := 4) (v := .ref b1) (ty := .array .int) (C := RX4) (T := TX4) (N := 2) hx hb F.2.2.2.2.1 inGX4 tyX4 tyX4_ok nmX4 F.2.2.2.1 F.2.2.2.2.2.1 N.1 N.2.1 N.2.2 0 rfl rfl 1 (by decide) (F.2.2.2.2.1 _ k_124) (fun _ h => h) rfl hin rfl (by decide +kernel) rfl rfl (Nat.le_of_ble_eq_true rfl) dX4_init_19 (fun H locs hP hD hS => ?_)
  have N : Now G zs ([(a, .inr (4, [.ref b0, .ref b1])), (b0, av_i G.2.2.1 144 (fun _ => 0)), (b1, av_i G.2.2.1 144 (fun _ => 0))] ++ ex) H locs := ⟨hP, hD, hS⟩
  exact hret _ _ _ _ (b0, b1) dX4_init_22 N
set_option maxHeartbeats 4000000 in
set_option maxRecDepth 100000 in
theorem c_X2_init (l : Launch) (G : GM) (a : Nat) (ex : va_W) : XNv l G yX2_init cX2_init 1 1 1 864 [.ref a] ([(a, .inr (2, [.null, .int 0, .int 0]))] ++ ex) (Nat) (fun u => [(a, .inr (2, [.ref u, .int 0, .int 0])), (u, av_i G.2.2.1 864 (fun _ => 0))] ++ ex) := by
  refine xn_start (by decide) rfl (Nat.le_of_ble_eq_true rfl) ?_
  intro zp ze zs zm zargs zbelow zmeth zc zQ ls F N hl hin hret
  have hx := F.1
  have hb := F.2.1
  have hl : lv_has ls 1 [(0, .ref a)] := hl
  refine lv_aload_n hx hb dX2_init_0 rfl (lv_at hl 0 rfl) ?_
  refine xoI F k_135 hl.1 (Nat.le_of_ble_eq_true rfl) (Nat.le_of_ble_eq_true rfl) (Nat.le_of_ble_eq_true rfl) dX2_init_1 ?_
  refine lv_aload_n hx hb dX2_init_4 rfl (lv_at hl 0 rfl) ?_
  refine lv_sipush (v := 864) hx hb dX2_init_5 (by decide) ?_
  refine na_i (w := [(a, .inr (2, [.null, .int 0, .int 0]))]) (n := 864) F N (by decide) (Nat.le_of_ble_eq_true rfl) (Nat.le_of_ble_eq_true rfl) dX2_init_8 (fun b0 H N => ?_)
  have N : Now G zs ([(a, .inr (2, [.null, .int 0, .int 0])), (b0, av_i G.2.2.1 864 (fun _ => 0))] ++ ex) H _ := N
  refine va_putF (D := G.1) (ci := 2) (v := .ref b0) (ty := .array .int) (C := RX2) (T := TX2) (N := 3) hx hb F.2.2.2.2.1 inGX2 tyX2 tyX2_ok nmX2 F.2.2.2.1 F.2.2.2.2.2.1 N.1 N.2.1 N.2.2 0 rfl rfl 0 (by decide) (F.2.2.2.2.1 _ k_136) (fun _ h => h) rfl hin rfl (by decide +kernel) rfl rfl (Nat.le_of_ble_eq_true rfl) dX2_init_10 (fun H locs hP hD hS => ?_)
  have N : Now G zs ([(a, .inr (2, [.ref b0, .int 0, .int 0])), (b0, av_i G.2.2.1 864 (fun _ => 0))] ++ ex) H locs := ⟨hP, hD, hS⟩
  exact hret _ _ _ _ b0 dX2_init_13 N
set_option maxHeartbeats 4000000 in
set_option maxRecDepth 100000 in
theorem c_X7_init (l : Launch) (G : GM) (a : Nat) (sh : Nat) (ex : va_W) : XNv l G yX7_init cX7_init 2 2 5 180 [.ref a, .ref sh] ([(a, .inr (6, [.null, .null, .null, .null, .null, .null, .int 0, .int 0, .int 0]))] ++ ex) (Nat × Nat × Nat × Nat × Nat) (fun u => [(a, .inr (6, [.ref sh, .ref u.1, .ref u.2.1, .ref u.2.2.1, .ref u.2.2.2.1, .ref u.2.2.2.2, .int 0, .int 0, .int 0])), (u.1, av_i G.2.2.1 36 (fillF (fun _ => 0) (-1) 36)), (u.2.1, av_i G.2.2.1 36 (fun _ => 0)), (u.2.2.1, av_i G.2.2.1 36 (fun _ => 0)), (u.2.2.2.1, av_i G.2.2.1 36 (fun _ => 0)), (u.2.2.2.2, av_i G.2.2.2 36 (fun _ => 0))] ++ ex) := by
  refine xn_start (by decide) rfl (Nat.le_of_ble_eq_true rfl) ?_
  intro zp ze zs zm zargs zbelow zmeth zc zQ ls F N hl hin hret
  have hx := F.1
  have hb := F.2.1
  have hl : lv_has ls 2 [(0, .ref a), (1, .ref sh)] := hl
  refine lv_aload_n hx hb dX7_init_0 rfl (lv_at hl 0 rfl) ?_
  refine xoI F k_152 hl.1 (Nat.le_of_ble_eq_true rfl) (Nat.le_of_ble_eq_true rfl) (Nat.le_of_ble_eq_true rfl) dX7_init_1 ?_
  refine lv_aload_n hx hb dX7_init_4 rfl (lv_at hl 0 rfl) ?_
  refine lv_bipush (v := 36) hx hb dX7_init_5 (by decide) ?_
  refine na_i (w := [(a, .inr (6, [.null, .null, .null, .null, .null, .null, .int 0, .int 0, .int 0]))]) (n := 36) F N (by decide) (Nat.le_of_ble_eq_true rfl) (Nat.le_of_ble_eq_true rfl) dX7_init_7 (fun b0 H N => ?_)
  have N : Now G zs ([(a, .inr (6, [.null, .null, .null, .null, .null, .null, .int 0, .int 0, .int 0])), (b0, av_i G.2.2.1 36 (fun _ => 0))] ++ ex) H _ := N
  refine va_putF (D := G.1) (ci := 6) (v := .ref b0) (ty := .array .int) (C := RX7) (T := TX7) (N := 9) hx hb F.2.2.2.2.1 inGX7 tyX7 tyX7_ok nmX7 F.2.2.2.1 F.2.2.2.2.2.1 N.1 N.2.1 N.2.2 0 rfl rfl 1 (by decide) (F.2.2.2.2.1 _ k_157) (fun _ h => h) rfl hin rfl (by decide +kernel) rfl rfl (Nat.le_of_ble_eq_true rfl) dX7_init_9 (fun H locs hP hD hS => ?_)
  have N : Now G zs ([(a, .inr (6, [.null, .ref b0, .null, .null, .null, .null, .int 0, .int 0, .int 0])), (b0, av_i G.2.2.1 36 (fun _ => 0))] ++ ex) H locs := ⟨hP, hD, hS⟩
  refine lv_aload_n hx hb dX7_init_12 rfl (lv_at hl 0 rfl) ?_
  refine lv_bipush (v := 36) hx hb dX7_init_13 (by decide) ?_
  refine na_i (w := [(a, .inr (6, [.null, .ref b0, .null, .null, .null, .null, .int 0, .int 0, .int 0])), (b0, av_i G.2.2.1 36 (fun _ => 0))]) (n := 36) F N (by decide) (Nat.le_of_ble_eq_true rfl) (Nat.le_of_ble_eq_true rfl) dX7_init_15 (fun b1 H N => ?_)
  have N : Now G zs ([(a, .inr (6, [.null, .ref b0, .null, .null, .null, .null, .int 0, .int 0, .int 0])), (b0, av_i G.2.2.1 36 (fun _ => 0)), (b1, av_i G.2.2.1 36 (fun _ => 0))] ++ ex) H _ := N
  refine va_putF (D := G.1) (ci := 6) (v := .ref b1) (ty := .array .int) (C := RX7) (T := TX7) (N := 9) hx hb F.2.2.2.2.1 inGX7 tyX7 tyX7_ok nmX7 F.2.2.2.1 F.2.2.2.2.2.1 N.1 N.2.1 N.2.2 0 rfl rfl 2 (by decide) (F.2.2.2.2.1 _ k_159) (fun _ h => h) rfl hin rfl (by decide +kernel) rfl rfl (Nat.le_of_ble_eq_true rfl) dX7_init_17 (fun H locs hP hD hS => ?_)
  have N : Now G zs ([(a, .inr (6, [.null, .ref b0, .ref b1, .null, .null, .null, .int 0, .int 0, .int 0])), (b0, av_i G.2.2.1 36 (fun _ => 0)), (b1, av_i G.2.2.1 36 (fun _ => 0))] ++ ex) H locs := ⟨hP, hD, hS⟩
  refine lv_aload_n hx hb dX7_init_20 rfl (lv_at hl 0 rfl) ?_
  refine lv_bipush (v := 36) hx hb dX7_init_21 (by decide) ?_
  refine na_i (w := [(a, .inr (6, [.null, .ref b0, .ref b1, .null, .null, .null, .int 0, .int 0, .int 0])), (b0, av_i G.2.2.1 36 (fun _ => 0)), (b1, av_i G.2.2.1 36 (fun _ => 0))]) (n := 36) F N (by decide) (Nat.le_of_ble_eq_true rfl) (Nat.le_of_ble_eq_true rfl) dX7_init_23 (fun b2 H N => ?_)
  have N : Now G zs ([(a, .inr (6, [.null, .ref b0, .ref b1, .null, .null, .null, .int 0, .int 0, .int 0])), (b0, av_i G.2.2.1 36 (fun _ => 0)), (b1, av_i G.2.2.1 36 (fun _ => 0)), (b2, av_i G.2.2.1 36 (fun _ => 0))] ++ ex) H _ := N
  refine va_putF (D := G.1) (ci := 6) (v := .ref b2) (ty := .array .int) (C := RX7) (T := TX7) (N := 9) hx hb F.2.2.2.2.1 inGX7 tyX7 tyX7_ok nmX7 F.2.2.2.1 F.2.2.2.2.2.1 N.1 N.2.1 N.2.2 0 rfl rfl 3 (by decide) (F.2.2.2.2.1 _ k_161) (fun _ h => h) rfl hin rfl (by decide +kernel) rfl rfl (Nat.le_of_ble_eq_true rfl) dX7_init_25 (fun H locs hP hD hS => ?_)
  have N : Now G zs ([(a, .inr (6, [.null, .ref b0, .ref b1, .ref b2, .null, .null, .int 0, .int 0, .int 0])), (b0, av_i G.2.2.1 36 (fun _ => 0)), (b1, av_i G.2.2.1 36 (fun _ => 0)), (b2, av_i G.2.2.1 36 (fun _ => 0))] ++ ex) H locs := ⟨hP, hD, hS⟩
  refine lv_aload_n hx hb dX7_init_28 rfl (lv_at hl 0 rfl) ?_
  refine lv_bipush (v := 36) hx hb dX7_init_29 (by decide) ?_
  refine na_i (w := [(a, .inr (6, [.null, .ref b0, .ref b1, .ref b2, .null, .null, .int 0, .int 0, .int 0])), (b0, av_i G.2.2.1 36 (fun _ => 0)), (b1, av_i G.2.2.1 36 (fun _ => 0)), (b2, av_i G.2.2.1 36 (fun _ => 0))]) (n := 36) F N (by decide) (Nat.le_of_ble_eq_true rfl) (Nat.le_of_ble_eq_true rfl) dX7_init_31 (fun b3 H N => ?_)
  have N : Now G zs ([(a, .inr (6, [.null, .ref b0, .ref b1, .ref b2, .null, .null, .int 0, .int 0, .int 0])), (b0, av_i G.2.2.1 36 (fun _ => 0)), (b1, av_i G.2.2.1 36 (fun _ => 0)), (b2, av_i G.2.2.1 36 (fun _ => 0)), (b3, av_i G.2.2.1 36 (fun _ => 0))] ++ ex) H _ := N
  refine va_putF (D := G.1) (ci := 6) (v := .ref b3) (ty := .array .int) (C := RX7) (T := TX7) (N := 9) hx hb F.2.2.2.2.1 inGX7 tyX7 tyX7_ok nmX7 F.2.2.2.1 F.2.2.2.2.2.1 N.1 N.2.1 N.2.2 0 rfl rfl 4 (by decide) (F.2.2.2.2.1 _ k_163) (fun _ h => h) rfl hin rfl (by decide +kernel) rfl rfl (Nat.le_of_ble_eq_true rfl) dX7_init_33 (fun H locs hP hD hS => ?_)
  have N : Now G zs ([(a, .inr (6, [.null, .ref b0, .ref b1, .ref b2, .ref b3, .null, .int 0, .int 0, .int 0])), (b0, av_i G.2.2.1 36 (fun _ => 0)), (b1, av_i G.2.2.1 36 (fun _ => 0)), (b2, av_i G.2.2.1 36 (fun _ => 0)), (b3, av_i G.2.2.1 36 (fun _ => 0))] ++ ex) H locs := ⟨hP, hD, hS⟩
  refine lv_aload_n hx hb dX7_init_36 rfl (lv_at hl 0 rfl) ?_
  refine lv_bipush (v := 36) hx hb dX7_init_37 (by decide) ?_
  refine na_z (w := [(a, .inr (6, [.null, .ref b0, .ref b1, .ref b2, .ref b3, .null, .int 0, .int 0, .int 0])), (b0, av_i G.2.2.1 36 (fun _ => 0)), (b1, av_i G.2.2.1 36 (fun _ => 0)), (b2, av_i G.2.2.1 36 (fun _ => 0)), (b3, av_i G.2.2.1 36 (fun _ => 0))]) (n := 36) F N (by decide) (Nat.le_of_ble_eq_true rfl) (Nat.le_of_ble_eq_true rfl) dX7_init_39 (fun b4 H N => ?_)
  have N : Now G zs ([(a, .inr (6, [.null, .ref b0, .ref b1, .ref b2, .ref b3, .null, .int 0, .int 0, .int 0])), (b0, av_i G.2.2.1 36 (fun _ => 0)), (b1, av_i G.2.2.1 36 (fun _ => 0)), (b2, av_i G.2.2.1 36 (fun _ => 0)), (b3, av_i G.2.2.1 36 (fun _ => 0)), (b4, av_i G.2.2.2 36 (fun _ => 0))] ++ ex) H _ := N
  refine va_putF (D := G.1) (ci := 6) (v := .ref b4) (ty := .array .boolean) (C := RX7) (T := TX7) (N := 9) hx hb F.2.2.2.2.1 inGX7 tyX7 tyX7_ok nmX7 F.2.2.2.1 F.2.2.2.2.2.1 N.1 N.2.1 N.2.2 0 rfl rfl 5 (by decide) (F.2.2.2.2.1 _ k_165) (fun _ h => h) rfl hin rfl (by decide +kernel) rfl rfl (Nat.le_of_ble_eq_true rfl) dX7_init_41 (fun H locs hP hD hS => ?_)
  have N : Now G zs ([(a, .inr (6, [.null, .ref b0, .ref b1, .ref b2, .ref b3, .ref b4, .int 0, .int 0, .int 0])), (b0, av_i G.2.2.1 36 (fun _ => 0)), (b1, av_i G.2.2.1 36 (fun _ => 0)), (b2, av_i G.2.2.1 36 (fun _ => 0)), (b3, av_i G.2.2.1 36 (fun _ => 0)), (b4, av_i G.2.2.2 36 (fun _ => 0))] ++ ex) H locs := ⟨hP, hD, hS⟩
  refine lv_aload_n hx hb dX7_init_44 rfl (lv_at hl 0 rfl) ?_
  refine lv_aload_n hx hb dX7_init_45 rfl (lv_at hl 1 rfl) ?_
  refine va_putF (D := G.1) (ci := 6) (v := .ref sh) (ty := .object "SheetRefs$Sheet") (C := RX7) (T := TX7) (N := 9) hx hb F.2.2.2.2.1 inGX7 tyX7 tyX7_ok nmX7 F.2.2.2.1 F.2.2.2.2.2.1 N.1 N.2.1 N.2.2 0 rfl rfl 0 (by decide) (F.2.2.2.2.1 _ k_156) (fun _ h => h) rfl hin rfl (by decide +kernel) rfl rfl (Nat.le_of_ble_eq_true rfl) dX7_init_46 (fun H locs hP hD hS => ?_)
  have N : Now G zs ([(a, .inr (6, [.ref sh, .ref b0, .ref b1, .ref b2, .ref b3, .ref b4, .int 0, .int 0, .int 0])), (b0, av_i G.2.2.1 36 (fun _ => 0)), (b1, av_i G.2.2.1 36 (fun _ => 0)), (b2, av_i G.2.2.1 36 (fun _ => 0)), (b3, av_i G.2.2.1 36 (fun _ => 0)), (b4, av_i G.2.2.2 36 (fun _ => 0))] ++ ex) H locs := ⟨hP, hD, hS⟩
  refine lv_aload_n hx hb dX7_init_49 rfl (lv_at hl 0 rfl) ?_
  refine va_get (D := G.1) (ci := 6) (v := .ref b0) (C := RX7) (T := TX7) (N := 9) hx hb F.2.2.2.2.1 inGX7 F.2.2.2.1 F.2.2.2.2.2.1 N.1 0 rfl rfl 1 (by decide) (F.2.2.2.2.1 _ k_157) (fun _ h => h) rfl dX7_init_50 ?_
  refine lv_iconst (v := (-1)) hx hb dX7_init_53 (by decide) ?_
  refine ggo_v N (grunS (Nat.le_of_ble_eq_true rfl) (Nat.le_of_ble_eq_true rfl) F N (c_fill l G _ 1 36 b0 (fun _ => 0) (-1) rfl (by decide)) miJ7_fill_53178 k_153 ⟨Nat.le_of_ble_eq_true rfl, Nat.le_of_ble_eq_true rfl⟩ hl.1 rfl (Nat.le_of_ble_eq_true rfl) dX7_init_54) (fun H locs N => ?_)
  have N : Now G zs ([(a, .inr (6, [.ref sh, .ref b0, .ref b1, .ref b2, .ref b3, .ref b4, .int 0, .int 0, .int 0])), (b0, av_i G.2.2.1 36 (fillF (fun _ => 0) (-1) 36)), (b1, av_i G.2.2.1 36 (fun _ => 0)), (b2, av_i G.2.2.1 36 (fun _ => 0)), (b3, av_i G.2.2.1 36 (fun _ => 0)), (b4, av_i G.2.2.2 36 (fun _ => 0))] ++ ex) H locs := N
  exact hret _ _ _ _ (b0, b1, b2, b3, b4) dX7_init_57 N
set_option maxHeartbeats 4000000 in
set_option maxRecDepth 100000 in
theorem c_X1_init (l : Launch) (G : GM) (a : Nat) (ex : va_W) : XNv l G yX1_init cX1_init 1 1 1 39 [.ref a] ([(a, .inr (1, [.null, .int 0]))] ++ ex) (Nat) (fun u => [(a, .inr (1, [.ref u, .int 0])), (u, av_i G.2.2.1 39 (fun _ => 0))] ++ ex) := by
  refine xn_start (by decide) rfl (Nat.le_of_ble_eq_true rfl) ?_
  intro zp ze zs zm zargs zbelow zmeth zc zQ ls F N hl hin hret
  have hx := F.1
  have hb := F.2.1
  have hl : lv_has ls 1 [(0, .ref a)] := hl
  refine lv_aload_n hx hb dX1_init_0 rfl (lv_at hl 0 rfl) ?_
  refine xoI F k_194 hl.1 (Nat.le_of_ble_eq_true rfl) (Nat.le_of_ble_eq_true rfl) (Nat.le_of_ble_eq_true rfl) dX1_init_1 ?_
  refine lv_aload_n hx hb dX1_init_4 rfl (lv_at hl 0 rfl) ?_
  refine lv_bipush (v := 39) hx hb dX1_init_5 (by decide) ?_
  refine na_i (w := [(a, .inr (1, [.null, .int 0]))]) (n := 39) F N (by decide) (Nat.le_of_ble_eq_true rfl) (Nat.le_of_ble_eq_true rfl) dX1_init_7 (fun b0 H N => ?_)
  have N : Now G zs ([(a, .inr (1, [.null, .int 0])), (b0, av_i G.2.2.1 39 (fun _ => 0))] ++ ex) H _ := N
  refine va_putF (D := G.1) (ci := 1) (v := .ref b0) (ty := .array .int) (C := RX1) (T := TX1) (N := 2) hx hb F.2.2.2.2.1 inGX1 tyX1 tyX1_ok nmX1 F.2.2.2.1 F.2.2.2.2.2.1 N.1 N.2.1 N.2.2 0 rfl rfl 0 (by decide) (F.2.2.2.2.1 _ k_195) (fun _ h => h) rfl hin rfl (by decide +kernel) rfl rfl (Nat.le_of_ble_eq_true rfl) dX1_init_9 (fun H locs hP hD hS => ?_)
  have N : Now G zs ([(a, .inr (1, [.ref b0, .int 0])), (b0, av_i G.2.2.1 39 (fun _ => 0))] ++ ex) H locs := ⟨hP, hD, hS⟩
  exact hret _ _ _ _ b0 dX1_init_12 N
