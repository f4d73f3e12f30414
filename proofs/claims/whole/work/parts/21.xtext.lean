set_option maxHeartbeats 4000000 in
set_option maxRecDepth 100000 in
theorem c_X5_further (l : Launch) (G : GM) (w : va_W) (t : Int32) (cols : Int32) (rows : Int32) (stay : Int32) : XCi l G yX5_further cX5_further 10 (some .int) 3 [.int t, .int cols, .int rows, .int stay] (w) (tFur t cols rows stay) (w) := by
  refine xi_start (by decide) rfl (Nat.le_of_ble_eq_true rfl) ?_
  intro zp ze zs zm zargs zbelow zmeth zc zQ ls F N hl hret
  have hx := F.1
  have hb := F.2.1
  have hl : lv_has ls 10 [(0, .int t), (1, .int cols), (2, .int rows), (3, .int stay)] := hl
  refine lv_iload_n hx hb dX5_further_0 rfl (lv_at hl 0 rfl) ?_
  refine cS_i F N (c_X5_refers l G _ t) miX5_refers k_425 (by decide) hl.1 rfl (Nat.le_of_ble_eq_true rfl) dX5_further_1 (fun H locs N => ?_)
  refine ifB_ne (tgt := 9) hx hb dX5_further_4 (by decide) (fun c_4 => ?_) (fun c_4 => ?_)
  · refine lv_iload_n hx hb dX5_further_9 rfl (lv_at hl 0 rfl) ?_
    refine cS_i F N (c_X5_kind l G _ t) miX5_kind k_428 (by decide) hl.1 rfl (Nat.le_of_ble_eq_true rfl) dX5_further_10 (fun H locs N => ?_)
    refine lv_iconst (v := 3) hx hb dX5_further_13 (by decide) ?_
    refine lv_icmp_ne (tgt := 21) hx hb dX5_further_14 (by decide) (fun c_14 => ?_) (fun c_14 => ?_)
    · refine lv_iconst (v := 2) hx hb dX5_further_21 (by decide) ?_
      refine lv_istore (lv' := [(4, .int 2), (0, .int t), (1, .int cols), (2, .int rows), (3, .int stay)]) hx hb dX5_further_22 hl (by decide) rfl (fun ls hl => ?_)
      refine lv_iload_n hx hb dX5_further_24 rfl (lv_at hl 1 rfl) ?_
      refine lv_istore (lv' := [(5, .int t), (4, .int 2), (0, .int t), (1, .int cols), (2, .int rows), (3, .int stay)]) hx hb dX5_further_25 hl (by decide) rfl (fun ls hl => ?_)
      refine lv_iconst (v := 0) hx hb dX5_further_27 (by decide) ?_
      refine lv_istore (lv' := [(6, .int 0), (5, .int t), (4, .int 2), (0, .int t), (1, .int cols), (2, .int rows), (3, .int stay)]) hx hb dX5_further_28 hl (by decide) rfl (fun ls hl => ?_)
      have cut_30 : ∀ (k : Nat) (nc : Nat) (th : Int32) (i : Nat), i + k = nc → nc ≤ 4 → furL t cols rows stay k i th = tFur t cols rows stay → ∀ (H : Heap) (locs : List Loc) (ls : Array Slot), Now G zs (w) H locs → lv_has ls 10 [(0, .int t), (1, .int cols), (2, .int rows), (3, .int stay), (4, .int (nI nc)), (5, .int th), (6, .int (nI i))] → W zp l ze (RM 3) zs zm zargs zbelow zmeth zc H locs 0 0 zQ (F0 zm 30 ls []) := by
        intro k
        induction k with
        | zero =>
          intro nc th i hk hnc hI H locs ls N hl
          refine lv_iload hx hb dX5_further_30 (lv_at hl 6 rfl) ?_
          refine lv_iload hx hb dX5_further_32 (lv_at hl 4 rfl) ?_
          refine cmpN_ge (a := i) (b := nc) (tgt := 117) hx hb dX5_further_34 (by decide) (by omega) (by omega) (fun c_34 => ?_) (fun c_34 => ?_)
          · have c_34v := Nat.not_lt.mpr c_34
            refine lv_iload_n hx hb dX5_further_117 rfl (lv_at hl 0 rfl) ?_
            refine cS_i F N (c_X5_kind l G _ t) miX5_kind k_428 (by decide) hl.1 rfl (Nat.le_of_ble_eq_true rfl) dX5_further_118 (fun H locs N => ?_)
            refine lv_iconst (v := 3) hx hb dX5_further_121 (by decide) ?_
            refine lv_icmp_ne (tgt := 133) hx hb dX5_further_122 (by decide) (fun c_122 => ?_) (fun c_122 => ?_)
            · refine lv_iload hx hb dX5_further_133 (lv_at hl 5 rfl) ?_
              exact hret _ _ _ _ _ _ dX5_further_135 (by rw [← hI]; simp [furL, c_34, c_34v, c_122]) (by rfl) N
            · refine lv_iload hx hb dX5_further_125 (lv_at hl 5 rfl) ?_
              refine cS_i F N (c_X5_ordered l G _ th) miX5_ordered k_322 (by decide) hl.1 rfl (Nat.le_of_ble_eq_true rfl) dX5_further_127 (fun H locs N => ?_)
              refine lv_goto (tgt := 135) hx hb dX5_further_130 (by decide) ?_
              exact hret _ _ _ _ _ _ dX5_further_135 (by rw [← hI]; simp [furL, c_34, c_34v, c_122]) (by rfl) N
          · exfalso; omega
        | succ k ih_30 =>
          intro nc th i hk hnc hI H locs ls N hl
          refine lv_iload hx hb dX5_further_30 (lv_at hl 6 rfl) ?_
          refine lv_iload hx hb dX5_further_32 (lv_at hl 4 rfl) ?_
          refine cmpN_ge (a := i) (b := nc) (tgt := 117) hx hb dX5_further_34 (by decide) (by omega) (by omega) (fun c_34 => ?_) (fun c_34 => ?_)
          · exfalso; omega
          · have c_34v := Nat.not_le.mp c_34
            refine lv_iload_n hx hb dX5_further_37 rfl (lv_at hl 3 rfl) ?_
            refine lv_iload hx hb dX5_further_38 (lv_at hl 6 rfl) ?_
            refine lv_ishr hx hb dX5_further_40 ?_
            refine lv_iconst (v := 1) hx hb dX5_further_41 (by decide) ?_
            refine lv_iand hx hb dX5_further_42 ?_
            refine lv_iconst (v := 1) hx hb dX5_further_43 (by decide) ?_
            refine lv_icmp_ne (tgt := 51) hx hb dX5_further_44 (by decide) (fun c_44 => ?_) (fun c_44 => ?_)
            · refine lv_iconst (v := 0) hx hb dX5_further_51 (by decide) ?_
              refine lv_istore (lv' := [(7, .int 0), (0, .int t), (1, .int cols), (2, .int rows), (3, .int stay), (4, .int (nI nc)), (5, .int th), (6, .int (nI i))]) hx hb dX5_further_52 hl (by decide) rfl (fun ls hl => ?_)
              refine lv_iload hx hb dX5_further_54 (lv_at hl 7 rfl) ?_
              refine lv_iconst (v := 2) hx hb dX5_further_56 (by decide) ?_
              refine iremN (a := i) (b := 2) hx hb dX5_further_57 (by omega) (by omega) (by omega) ?_
              refine ifN_ne (a := (i % 2)) (tgt := 65) hx hb dX5_further_58 (by decide) (by omega) (fun c_58 => ?_) (fun c_58 => ?_)
              · refine lv_iload_n hx hb dX5_further_65 rfl (lv_at hl 3 rfl) ?_
                refine lv_istore (lv' := [(8, .int rows), (7, .int 0), (0, .int t), (1, .int cols), (2, .int rows), (3, .int stay), (4, .int (nI nc)), (5, .int th), (6, .int (nI i))]) hx hb dX5_further_66 hl (by decide) rfl (fun ls hl => ?_)
                refine lv_iload_n hx hb dX5_further_68 rfl (lv_at hl 2 rfl) ?_
                refine lv_iload hx hb dX5_further_69 (lv_at hl 8 rfl) ?_
                refine cS_i F N (c_X5_coordinate l G _ t (nI i)) miX5_coordinate k_319 (by decide) hl.1 rfl (Nat.le_of_ble_eq_true rfl) dX5_further_71 (fun H locs N => ?_)
                refine lv_iload hx hb dX5_further_74 (lv_at hl 1 rfl) ?_
                refine lv_if_eq (tgt := 83) hx hb dX5_further_76 (by decide) (fun c_76 => ?_) (fun c_76 => ?_)
                rotate_left
                · first | exact absurd (by decide) c_76 | exact absurd c_76 (by decide)
                refine lv_iload hx hb dX5_further_83 (lv_at hl 0 rfl) ?_
                refine lv_iadd hx hb dX5_further_85 ?_
                refine toI (y := furX t cols rows stay i) (by simp [furX, c_34, c_34v, c_44, c_58]) ?_
                refine lv_istore (lv' := [(9, .int (furX t cols rows stay i)), (8, .int rows), (7, .int 0), (0, .int t), (1, .int cols), (2, .int rows), (3, .int stay), (4, .int (nI nc)), (5, .int th), (6, .int (nI i))]) hx hb dX5_further_86 hl (by decide) rfl (fun ls hl => ?_)
                refine lv_iload hx hb dX5_further_88 (lv_at hl 0 rfl) ?_
                refine lv_iconst (v := 0) hx hb dX5_further_90 (by decide) ?_
                refine lv_iconst (v := 5) hx hb dX5_further_91 (by decide) ?_
                refine cN_i F N (c_X8_isWithin l G _ (furX t cols rows stay i) 0 5) miX8_isWithin k_515 (by decide) hl.1 rfl (Nat.le_of_ble_eq_true rfl) dX5_further_92 (fun H locs N => ?_)
                refine ifB_ne (tgt := 100) hx hb dX5_further_95 (by decide) (fun c_95 => ?_) (fun c_95 => ?_)
                · refine lv_iload hx hb dX5_further_100 (lv_at hl 8 rfl) ?_
                  refine lv_iload hx hb dX5_further_102 (lv_at hl 9 rfl) ?_
                  refine lv_iload hx hb dX5_further_104 (lv_at hl 0 rfl) ?_
                  refine cS_i F N (c_X5_with l G _ th (nI i) (furX t cols rows stay i)) miX5_with k_310 (by decide) hl.1 rfl (Nat.le_of_ble_eq_true rfl) dX5_further_106 (fun H locs N => ?_)
                  refine lv_istore (lv' := [(5, .int (tWith th (nI i) (furX t cols rows stay i))), (9, .int (furX t cols rows stay i)), (8, .int rows), (7, .int 0), (0, .int t), (1, .int cols), (2, .int rows), (3, .int stay), (4, .int (nI nc)), (6, .int (nI i))]) hx hb dX5_further_109 hl (by decide) rfl (fun ls hl => ?_)
                  refine lv_iinc (v := (nI (i + 1))) (lv' := [(6, .int (nI (i + 1))), (5, .int (tWith th (nI i) (furX t cols rows stay i))), (9, .int (furX t cols rows stay i)), (8, .int rows), (7, .int 0), (0, .int t), (1, .int cols), (2, .int rows), (3, .int stay), (4, .int (nI nc))]) hx hb dX5_further_111 hl (k := 9) rfl (nI_1 i) (by decide) rfl (fun ls hl => ?_)
                  refine lv_goto (tgt := 30) hx hb dX5_further_114 (by decide) ?_
                  exact ih_30 nc (tWith th (nI i) (furX t cols rows stay i)) (i + 1) (by omega) (by omega) (by rw [← hI]; simp [furL, c_34, c_34v, c_44, c_58, c_95]) _ _ _ N (lv_sub hl [5, 6, 7, 8, 9, 1, 0] rfl)
                · refine lv_iconst (v := 4) hx hb dX5_further_98 (by decide) ?_
                  exact hret _ _ _ _ _ _ dX5_further_99 (by rw [← hI]; simp [furL, c_34, c_34v, c_44, c_58, c_95]) (by rfl) N
              · refine lv_iload_n hx hb dX5_further_61 rfl (lv_at hl 2 rfl) ?_
                refine lv_goto (tgt := 66) hx hb dX5_further_62 (by decide) ?_
                refine lv_istore (lv' := [(8, .int cols), (7, .int 0), (0, .int t), (1, .int cols), (2, .int rows), (3, .int stay), (4, .int (nI nc)), (5, .int th), (6, .int (nI i))]) hx hb dX5_further_66 hl (by decide) rfl (fun ls hl => ?_)
                refine lv_iload_n hx hb dX5_further_68 rfl (lv_at hl 2 rfl) ?_
                refine lv_iload hx hb dX5_further_69 (lv_at hl 8 rfl) ?_
                refine cS_i F N (c_X5_coordinate l G _ t (nI i)) miX5_coordinate k_319 (by decide) hl.1 rfl (Nat.le_of_ble_eq_true rfl) dX5_further_71 (fun H locs N => ?_)
                refine lv_iload hx hb dX5_further_74 (lv_at hl 1 rfl) ?_
                refine lv_if_eq (tgt := 83) hx hb dX5_further_76 (by decide) (fun c_76 => ?_) (fun c_76 => ?_)
                rotate_left
                · first | exact absurd (by decide) c_76 | exact absurd c_76 (by decide)
                refine lv_iload hx hb dX5_further_83 (lv_at hl 0 rfl) ?_
                refine lv_iadd hx hb dX5_further_85 ?_
                refine toI (y := furX t cols rows stay i) (by simp [furX, c_34, c_34v, c_44, c_58]) ?_
                refine lv_istore (lv' := [(9, .int (furX t cols rows stay i)), (8, .int cols), (7, .int 0), (0, .int t), (1, .int cols), (2, .int rows), (3, .int stay), (4, .int (nI nc)), (5, .int th), (6, .int (nI i))]) hx hb dX5_further_86 hl (by decide) rfl (fun ls hl => ?_)
                refine lv_iload hx hb dX5_further_88 (lv_at hl 0 rfl) ?_
                refine lv_iconst (v := 0) hx hb dX5_further_90 (by decide) ?_
                refine lv_iconst (v := 5) hx hb dX5_further_91 (by decide) ?_
                refine cN_i F N (c_X8_isWithin l G _ (furX t cols rows stay i) 0 5) miX8_isWithin k_515 (by decide) hl.1 rfl (Nat.le_of_ble_eq_true rfl) dX5_further_92 (fun H locs N => ?_)
                refine ifB_ne (tgt := 100) hx hb dX5_further_95 (by decide) (fun c_95 => ?_) (fun c_95 => ?_)
                · refine lv_iload hx hb dX5_further_100 (lv_at hl 8 rfl) ?_
                  refine lv_iload hx hb dX5_further_102 (lv_at hl 9 rfl) ?_
                  refine lv_iload hx hb dX5_further_104 (lv_at hl 0 rfl) ?_
                  refine cS_i F N (c_X5_with l G _ th (nI i) (furX t cols rows stay i)) miX5_with k_310 (by decide) hl.1 rfl (Nat.le_of_ble_eq_true rfl) dX5_further_106 (fun H locs N => ?_)
                  refine lv_istore (lv' := [(5, .int (tWith th (nI i) (furX t cols rows stay i))), (9, .int (furX t cols rows stay i)), (8, .int cols), (7, .int 0), (0, .int t), (1, .int cols), (2, .int rows), (3, .int stay), (4, .int (nI nc)), (6, .int (nI i))]) hx hb dX5_further_109 hl (by decide) rfl (fun ls hl => ?_)
                  refine lv_iinc (v := (nI (i + 1))) (lv' := [(6, .int (nI (i + 1))), (5, .int (tWith th (nI i) (furX t cols rows stay i))), (9, .int (furX t cols rows stay i)), (8, .int cols), (7, .int 0), (0, .int t), (1, .int cols), (2, .int rows), (3, .int stay), (4, .int (nI nc))]) hx hb dX5_further_111 hl (k := 9) rfl (nI_1 i) (by decide) rfl (fun ls hl => ?_)
                  refine lv_goto (tgt := 30) hx hb dX5_further_114 (by decide) ?_
                  exact ih_30 nc (tWith th (nI i) (furX t cols rows stay i)) (i + 1) (by omega) (by omega) (by rw [← hI]; simp [furL, c_34, c_34v, c_44, c_58, c_95]) _ _ _ N (lv_sub hl [5, 6, 7, 8, 9, 1, 0] rfl)
                · refine lv_iconst (v := 4) hx hb dX5_further_98 (by decide) ?_
                  exact hret _ _ _ _ _ _ dX5_further_99 (by rw [← hI]; simp [furL, c_34, c_34v, c_44, c_58, c_95]) (by rfl) N
            · refine lv_iconst (v := 1) hx hb dX5_further_47 (by decide) ?_
              refine lv_goto (tgt := 52) hx hb dX5_further_48 (by decide) ?_
              refine lv_istore (lv' := [(7, .int 1), (0, .int t), (1, .int cols), (2, .int rows), (3, .int stay), (4, .int (nI nc)), (5, .int th), (6, .int (nI i))]) hx hb dX5_further_52 hl (by decide) rfl (fun ls hl => ?_)
              refine lv_iload hx hb dX5_further_54 (lv_at hl 7 rfl) ?_
              refine lv_iconst (v := 2) hx hb dX5_further_56 (by decide) ?_
              refine iremN (a := i) (b := 2) hx hb dX5_further_57 (by omega) (by omega) (by omega) ?_
              refine ifN_ne (a := (i % 2)) (tgt := 65) hx hb dX5_further_58 (by decide) (by omega) (fun c_58 => ?_) (fun c_58 => ?_)
              · refine lv_iload_n hx hb dX5_further_65 rfl (lv_at hl 3 rfl) ?_
                refine lv_istore (lv' := [(8, .int rows), (7, .int 1), (0, .int t), (1, .int cols), (2, .int rows), (3, .int stay), (4, .int (nI nc)), (5, .int th), (6, .int (nI i))]) hx hb dX5_further_66 hl (by decide) rfl (fun ls hl => ?_)
                refine lv_iload_n hx hb dX5_further_68 rfl (lv_at hl 2 rfl) ?_
                refine lv_iload hx hb dX5_further_69 (lv_at hl 8 rfl) ?_
                refine cS_i F N (c_X5_coordinate l G _ t (nI i)) miX5_coordinate k_319 (by decide) hl.1 rfl (Nat.le_of_ble_eq_true rfl) dX5_further_71 (fun H locs N => ?_)
                refine lv_iload hx hb dX5_further_74 (lv_at hl 1 rfl) ?_
                refine lv_if_eq (tgt := 83) hx hb dX5_further_76 (by decide) (fun c_76 => ?_) (fun c_76 => ?_)
                · first | exact absurd c_76 (by decide) | exact absurd (by decide) c_76
                refine lv_iconst (v := 0) hx hb dX5_further_79 (by decide) ?_
                refine lv_goto (tgt := 85) hx hb dX5_further_80 (by decide) ?_
                refine lv_iadd hx hb dX5_further_85 ?_
                refine toI (y := furX t cols rows stay i) (by simp [furX, c_34, c_34v, c_44, c_58]) ?_
                refine lv_istore (lv' := [(9, .int (furX t cols rows stay i)), (8, .int rows), (7, .int 1), (0, .int t), (1, .int cols), (2, .int rows), (3, .int stay), (4, .int (nI nc)), (5, .int th), (6, .int (nI i))]) hx hb dX5_further_86 hl (by decide) rfl (fun ls hl => ?_)
                refine lv_iload hx hb dX5_further_88 (lv_at hl 0 rfl) ?_
                refine lv_iconst (v := 0) hx hb dX5_further_90 (by decide) ?_
                refine lv_iconst (v := 5) hx hb dX5_further_91 (by decide) ?_
                refine cN_i F N (c_X8_isWithin l G _ (furX t cols rows stay i) 0 5) miX8_isWithin k_515 (by decide) hl.1 rfl (Nat.le_of_ble_eq_true rfl) dX5_further_92 (fun H locs N => ?_)
                refine ifB_ne (tgt := 100) hx hb dX5_further_95 (by decide) (fun c_95 => ?_) (fun c_95 => ?_)
                · refine lv_iload hx hb dX5_further_100 (lv_at hl 8 rfl) ?_
                  refine lv_iload hx hb dX5_further_102 (lv_at hl 9 rfl) ?_
                  refine lv_iload hx hb dX5_further_104 (lv_at hl 0 rfl) ?_
                  refine cS_i F N (c_X5_with l G _ th (nI i) (furX t cols rows stay i)) miX5_with k_310 (by decide) hl.1 rfl (Nat.le_of_ble_eq_true rfl) dX5_further_106 (fun H locs N => ?_)
                  refine lv_istore (lv' := [(5, .int (tWith th (nI i) (furX t cols rows stay i))), (9, .int (furX t cols rows stay i)), (8, .int rows), (7, .int 1), (0, .int t), (1, .int cols), (2, .int rows), (3, .int stay), (4, .int (nI nc)), (6, .int (nI i))]) hx hb dX5_further_109 hl (by decide) rfl (fun ls hl => ?_)
                  refine lv_iinc (v := (nI (i + 1))) (lv' := [(6, .int (nI (i + 1))), (5, .int (tWith th (nI i) (furX t cols rows stay i))), (9, .int (furX t cols rows stay i)), (8, .int rows), (7, .int 1), (0, .int t), (1, .int cols), (2, .int rows), (3, .int stay), (4, .int (nI nc))]) hx hb dX5_further_111 hl (k := 9) rfl (nI_1 i) (by decide) rfl (fun ls hl => ?_)
                  refine lv_goto (tgt := 30) hx hb dX5_further_114 (by decide) ?_
                  exact ih_30 nc (tWith th (nI i) (furX t cols rows stay i)) (i + 1) (by omega) (by omega) (by rw [← hI]; simp [furL, c_34, c_34v, c_44, c_58, c_95]) _ _ _ N (lv_sub hl [5, 6, 7, 8, 9, 1, 0] rfl)
                · refine lv_iconst (v := 4) hx hb dX5_further_98 (by decide) ?_
                  exact hret _ _ _ _ _ _ dX5_further_99 (by rw [← hI]; simp [furL, c_34, c_34v, c_44, c_58, c_95]) (by rfl) N
              · refine lv_iload_n hx hb dX5_further_61 rfl (lv_at hl 2 rfl) ?_
                refine lv_goto (tgt := 66) hx hb dX5_further_62 (by decide) ?_
                refine lv_istore (lv' := [(8, .int cols), (7, .int 1), (0, .int t), (1, .int cols), (2, .int rows), (3, .int stay), (4, .int (nI nc)), (5, .int th), (6, .int (nI i))]) hx hb dX5_further_66 hl (by decide) rfl (fun ls hl => ?_)
                refine lv_iload_n hx hb dX5_further_68 rfl (lv_at hl 2 rfl) ?_
                refine lv_iload hx hb dX5_further_69 (lv_at hl 8 rfl) ?_
                refine cS_i F N (c_X5_coordinate l G _ t (nI i)) miX5_coordinate k_319 (by decide) hl.1 rfl (Nat.le_of_ble_eq_true rfl) dX5_further_71 (fun H locs N => ?_)
                refine lv_iload hx hb dX5_further_74 (lv_at hl 1 rfl) ?_
                refine lv_if_eq (tgt := 83) hx hb dX5_further_76 (by decide) (fun c_76 => ?_) (fun c_76 => ?_)
                · first | exact absurd c_76 (by decide) | exact absurd (by decide) c_76
                refine lv_iconst (v := 0) hx hb dX5_further_79 (by decide) ?_
                refine lv_goto (tgt := 85) hx hb dX5_further_80 (by decide) ?_
                refine lv_iadd hx hb dX5_further_85 ?_
                refine toI (y := furX t cols rows stay i) (by simp [furX, c_34, c_34v, c_44, c_58]) ?_
                refine lv_istore (lv' := [(9, .int (furX t cols rows stay i)), (8, .int cols), (7, .int 1), (0, .int t), (1, .int cols), (2, .int rows), (3, .int stay), (4, .int (nI nc)), (5, .int th), (6, .int (nI i))]) hx hb dX5_further_86 hl (by decide) rfl (fun ls hl => ?_)
                refine lv_iload hx hb dX5_further_88 (lv_at hl 0 rfl) ?_
                refine lv_iconst (v := 0) hx hb dX5_further_90 (by decide) ?_
                refine lv_iconst (v := 5) hx hb dX5_further_91 (by decide) ?_
                refine cN_i F N (c_X8_isWithin l G _ (furX t cols rows stay i) 0 5) miX8_isWithin k_515 (by decide) hl.1 rfl (Nat.le_of_ble_eq_true rfl) dX5_further_92 (fun H locs N => ?_)
                refine ifB_ne (tgt := 100) hx hb dX5_further_95 (by decide) (fun c_95 => ?_) (fun c_95 => ?_)
                · refine lv_iload hx hb dX5_further_100 (lv_at hl 8 rfl) ?_
                  refine lv_iload hx hb dX5_further_102 (lv_at hl 9 rfl) ?_
                  refine lv_iload hx hb dX5_further_104 (lv_at hl 0 rfl) ?_
                  refine cS_i F N (c_X5_with l G _ th (nI i) (furX t cols rows stay i)) miX5_with k_310 (by decide) hl.1 rfl (Nat.le_of_ble_eq_true rfl) dX5_further_106 (fun H locs N => ?_)
                  refine lv_istore (lv' := [(5, .int (tWith th (nI i) (furX t cols rows stay i))), (9, .int (furX t cols rows stay i)), (8, .int cols), (7, .int 1), (0, .int t), (1, .int cols), (2, .int rows), (3, .int stay), (4, .int (nI nc)), (6, .int (nI i))]) hx hb dX5_further_109 hl (by decide) rfl (fun ls hl => ?_)
                  refine lv_iinc (v := (nI (i + 1))) (lv' := [(6, .int (nI (i + 1))), (5, .int (tWith th (nI i) (furX t cols rows stay i))), (9, .int (furX t cols rows stay i)), (8, .int cols), (7, .int 1), (0, .int t), (1, .int cols), (2, .int rows), (3, .int stay), (4, .int (nI nc))]) hx hb dX5_further_111 hl (k := 9) rfl (nI_1 i) (by decide) rfl (fun ls hl => ?_)
                  refine lv_goto (tgt := 30) hx hb dX5_further_114 (by decide) ?_
                  exact ih_30 nc (tWith th (nI i) (furX t cols rows stay i)) (i + 1) (by omega) (by omega) (by rw [← hI]; simp [furL, c_34, c_34v, c_44, c_58, c_95]) _ _ _ N (lv_sub hl [5, 6, 7, 8, 9, 1, 0] rfl)
                · refine lv_iconst (v := 4) hx hb dX5_further_98 (by decide) ?_
                  exact hret _ _ _ _ _ _ dX5_further_99 (by rw [← hI]; simp [furL, c_34, c_34v, c_44, c_58, c_95]) (by rfl) N
      exact cut_30 2 2 t 0 (by omega) (by omega) (by simp [tFur, c_4, c_14]) _ _ _ N (lv_sub hl [3, 4, 5, 6, 2, 1, 0] rfl)
    · refine lv_iconst (v := 4) hx hb dX5_further_17 (by decide) ?_
      refine lv_goto (tgt := 22) hx hb dX5_further_18 (by decide) ?_
      refine lv_istore (lv' := [(4, .int 4), (0, .int t), (1, .int cols), (2, .int rows), (3, .int stay)]) hx hb dX5_further_22 hl (by decide) rfl (fun ls hl => ?_)
      refine lv_iload_n hx hb dX5_further_24 rfl (lv_at hl 1 rfl) ?_
      refine lv_istore (lv' := [(5, .int t), (4, .int 4), (0, .int t), (1, .int cols), (2, .int rows), (3, .int stay)]) hx hb dX5_further_25 hl (by decide) rfl (fun ls hl => ?_)
      refine lv_iconst (v := 0) hx hb dX5_further_27 (by decide) ?_
      refine lv_istore (lv' := [(6, .int 0), (5, .int t), (4, .int 4), (0, .int t), (1, .int cols), (2, .int rows), (3, .int stay)]) hx hb dX5_further_28 hl (by decide) rfl (fun ls hl => ?_)
      have cut_30 : ∀ (k : Nat) (nc : Nat) (th : Int32) (i : Nat), i + k = nc → nc ≤ 4 → furL t cols rows stay k i th = tFur t cols rows stay → ∀ (H : Heap) (locs : List Loc) (ls : Array Slot), Now G zs (w) H locs → lv_has ls 10 [(0, .int t), (1, .int cols), (2, .int rows), (3, .int stay), (4, .int (nI nc)), (5, .int th), (6, .int (nI i))] → W zp l ze (RM 3) zs zm zargs zbelow zmeth zc H locs 0 0 zQ (F0 zm 30 ls []) := by
        intro k
        induction k with
        | zero =>
          intro nc th i hk hnc hI H locs ls N hl
          refine lv_iload hx hb dX5_further_30 (lv_at hl 6 rfl) ?_
          refine lv_iload hx hb dX5_further_32 (lv_at hl 4 rfl) ?_
          refine cmpN_ge (a := i) (b := nc) (tgt := 117) hx hb dX5_further_34 (by decide) (by omega) (by omega) (fun c_34 => ?_) (fun c_34 => ?_)
          · have c_34v := Nat.not_lt.mpr c_34
            refine lv_iload_n hx hb dX5_further_117 rfl (lv_at hl 0 rfl) ?_
            refine cS_i F N (c_X5_kind l G _ t) miX5_kind k_428 (by decide) hl.1 rfl (Nat.le_of_ble_eq_true rfl) dX5_further_118 (fun H locs N => ?_)
            refine lv_iconst (v := 3) hx hb dX5_further_121 (by decide) ?_
            refine lv_icmp_ne (tgt := 133) hx hb dX5_further_122 (by decide) (fun c_122 => ?_) (fun c_122 => ?_)
            · refine lv_iload hx hb dX5_further_133 (lv_at hl 5 rfl) ?_
              exact hret _ _ _ _ _ _ dX5_further_135 (by rw [← hI]; simp [furL, c_34, c_34v, c_122]) (by rfl) N
            · refine lv_iload hx hb dX5_further_125 (lv_at hl 5 rfl) ?_
              refine cS_i F N (c_X5_ordered l G _ th) miX5_ordered k_322 (by decide) hl.1 rfl (Nat.le_of_ble_eq_true rfl) dX5_further_127 (fun H locs N => ?_)
              refine lv_goto (tgt := 135) hx hb dX5_further_130 (by decide) ?_
              exact hret _ _ _ _ _ _ dX5_further_135 (by rw [← hI]; simp [furL, c_34, c_34v, c_122]) (by rfl) N
          · exfalso; omega
        | succ k ih_30 =>
          intro nc th i hk hnc hI H locs ls N hl
          refine lv_iload hx hb dX5_further_30 (lv_at hl 6 rfl) ?_
          refine lv_iload hx hb dX5_further_32 (lv_at hl 4 rfl) ?_
          refine cmpN_ge (a := i) (b := nc) (tgt := 117) hx hb dX5_further_34 (by decide) (by omega) (by omega) (fun c_34 => ?_) (fun c_34 => ?_)
          · exfalso; omega
          · have c_34v := Nat.not_le.mp c_34
            refine lv_iload_n hx hb dX5_further_37 rfl (lv_at hl 3 rfl) ?_
            refine lv_iload hx hb dX5_further_38 (lv_at hl 6 rfl) ?_
            refine lv_ishr hx hb dX5_further_40 ?_
            refine lv_iconst (v := 1) hx hb dX5_further_41 (by decide) ?_
            refine lv_iand hx hb dX5_further_42 ?_
            refine lv_iconst (v := 1) hx hb dX5_further_43 (by decide) ?_
            refine lv_icmp_ne (tgt := 51) hx hb dX5_further_44 (by decide) (fun c_44 => ?_) (fun c_44 => ?_)
            · refine lv_iconst (v := 0) hx hb dX5_further_51 (by decide) ?_
              refine lv_istore (lv' := [(7, .int 0), (0, .int t), (1, .int cols), (2, .int rows), (3, .int stay), (4, .int (nI nc)), (5, .int th), (6, .int (nI i))]) hx hb dX5_further_52 hl (by decide) rfl (fun ls hl => ?_)
              refine lv_iload hx hb dX5_further_54 (lv_at hl 7 rfl) ?_
              refine lv_iconst (v := 2) hx hb dX5_further_56 (by decide) ?_
              refine iremN (a := i) (b := 2) hx hb dX5_further_57 (by omega) (by omega) (by omega) ?_
              refine ifN_ne (a := (i % 2)) (tgt := 65) hx hb dX5_further_58 (by decide) (by omega) (fun c_58 => ?_) (fun c_58 => ?_)
              · refine lv_iload_n hx hb dX5_further_65 rfl (lv_at hl 3 rfl) ?_
                refine lv_istore (lv' := [(8, .int rows), (7, .int 0), (0, .int t), (1, .int cols), (2, .int rows), (3, .int stay), (4, .int (nI nc)), (5, .int th), (6, .int (nI i))]) hx hb dX5_further_66 hl (by decide) rfl (fun ls hl => ?_)
                refine lv_iload_n hx hb dX5_further_68 rfl (lv_at hl 2 rfl) ?_
                refine lv_iload hx hb dX5_further_69 (lv_at hl 8 rfl) ?_
                refine cS_i F N (c_X5_coordinate l G _ t (nI i)) miX5_coordinate k_319 (by decide) hl.1 rfl (Nat.le_of_ble_eq_true rfl) dX5_further_71 (fun H locs N => ?_)
                refine lv_iload hx hb dX5_further_74 (lv_at hl 1 rfl) ?_
                refine lv_if_eq (tgt := 83) hx hb dX5_further_76 (by decide) (fun c_76 => ?_) (fun c_76 => ?_)
                rotate_left
                · first | exact absurd (by decide) c_76 | exact absurd c_76 (by decide)
                refine lv_iload hx hb dX5_further_83 (lv_at hl 0 rfl) ?_
                refine lv_iadd hx hb dX5_further_85 ?_
                refine toI (y := furX t cols rows stay i) (by simp [furX, c_34, c_34v, c_44, c_58]) ?_
                refine lv_istore (lv' := [(9, .int (furX t cols rows stay i)), (8, .int rows), (7, .int 0), (0, .int t), (1, .int cols), (2, .int rows), (3, .int stay), (4, .int (nI nc)), (5, .int th), (6, .int (nI i))]) hx hb dX5_further_86 hl (by decide) rfl (fun ls hl => ?_)
                refine lv_iload hx hb dX5_further_88 (lv_at hl 0 rfl) ?_
                refine lv_iconst (v := 0) hx hb dX5_further_90 (by decide) ?_
                refine lv_iconst (v := 5) hx hb dX5_further_91 (by decide) ?_
                refine cN_i F N (c_X8_isWithin l G _ (furX t cols rows stay i) 0 5) miX8_isWithin k_515 (by decide) hl.1 rfl (Nat.le_of_ble_eq_true rfl) dX5_further_92 (fun H locs N => ?_)
                refine ifB_ne (tgt := 100) hx hb dX5_further_95 (by decide) (fun c_95 => ?_) (fun c_95 => ?_)
                · refine lv_iload hx hb dX5_further_100 (lv_at hl 8 rfl) ?_
                  refine lv_iload hx hb dX5_further_102 (lv_at hl 9 rfl) ?_
                  refine lv_iload hx hb dX5_further_104 (lv_at hl 0 rfl) ?_
                  refine cS_i F N (c_X5_with l G _ th (nI i) (furX t cols rows stay i)) miX5_with k_310 (by decide) hl.1 rfl (Nat.le_of_ble_eq_true rfl) dX5_further_106 (fun H locs N => ?_)
                  refine lv_istore (lv' := [(5, .int (tWith th (nI i) (furX t cols rows stay i))), (9, .int (furX t cols rows stay i)), (8, .int rows), (7, .int 0), (0, .int t), (1, .int cols), (2, .int rows), (3, .int stay), (4, .int (nI nc)), (6, .int (nI i))]) hx hb dX5_further_109 hl (by decide) rfl (fun ls hl => ?_)
                  refine lv_iinc (v := (nI (i + 1))) (lv' := [(6, .int (nI (i + 1))), (5, .int (tWith th (nI i) (furX t cols rows stay i))), (9, .int (furX t cols rows stay i)), (8, .int rows), (7, .int 0), (0, .int t), (1, .int cols), (2, .int rows), (3, .int stay), (4, .int (nI nc))]) hx hb dX5_further_111 hl (k := 9) rfl (nI_1 i) (by decide) rfl (fun ls hl => ?_)
                  refine lv_goto (tgt := 30) hx hb dX5_further_114 (by decide) ?_
                  exact ih_30 nc (tWith th (nI i) (furX t cols rows stay i)) (i + 1) (by omega) (by omega) (by rw [← hI]; simp [furL, c_34, c_34v, c_44, c_58, c_95]) _ _ _ N (lv_sub hl [5, 6, 7, 8, 9, 1, 0] rfl)
                · refine lv_iconst (v := 4) hx hb dX5_further_98 (by decide) ?_
                  exact hret _ _ _ _ _ _ dX5_further_99 (by rw [← hI]; simp [furL, c_34, c_34v, c_44, c_58, c_95]) (by rfl) N
              · refine lv_iload_n hx hb dX5_further_61 rfl (lv_at hl 2 rfl) ?_
                refine lv_goto (tgt := 66) hx hb dX5_further_62 (by decide) ?_
                refine lv_istore (lv' := [(8, .int cols), (7, .int 0), (0, .int t), (1, .int cols), (2, .int rows), (3, .int stay), (4, .int (nI nc)), (5, .int th), (6, .int (nI i))]) hx hb dX5_further_66 hl (by decide) rfl (fun ls hl => ?_)
                refine lv_iload_n hx hb dX5_further_68 rfl (lv_at hl 2 rfl) ?_
                refine lv_iload hx hb dX5_further_69 (lv_at hl 8 rfl) ?_
                refine cS_i F N (c_X5_coordinate l G _ t (nI i)) miX5_coordinate k_319 (by decide) hl.1 rfl (Nat.le_of_ble_eq_true rfl) dX5_further_71 (fun H locs N => ?_)
                refine lv_iload hx hb dX5_further_74 (lv_at hl 1 rfl) ?_
                refine lv_if_eq (tgt := 83) hx hb dX5_further_76 (by decide) (fun c_76 => ?_) (fun c_76 => ?_)
                rotate_left
                · first | exact absurd (by decide) c_76 | exact absurd c_76 (by decide)
                refine lv_iload hx hb dX5_further_83 (lv_at hl 0 rfl) ?_
                refine lv_iadd hx hb dX5_further_85 ?_
                refine toI (y := furX t cols rows stay i) (by simp [furX, c_34, c_34v, c_44, c_58]) ?_
                refine lv_istore (lv' := [(9, .int (furX t cols rows stay i)), (8, .int cols), (7, .int 0), (0, .int t), (1, .int cols), (2, .int rows), (3, .int stay), (4, .int (nI nc)), (5, .int th), (6, .int (nI i))]) hx hb dX5_further_86 hl (by decide) rfl (fun ls hl => ?_)
                refine lv_iload hx hb dX5_further_88 (lv_at hl 0 rfl) ?_
                refine lv_iconst (v := 0) hx hb dX5_further_90 (by decide) ?_
                refine lv_iconst (v := 5) hx hb dX5_further_91 (by decide) ?_
                refine cN_i F N (c_X8_isWithin l G _ (furX t cols rows stay i) 0 5) miX8_isWithin k_515 (by decide) hl.1 rfl (Nat.le_of_ble_eq_true rfl) dX5_further_92 (fun H locs N => ?_)
                refine ifB_ne (tgt := 100) hx hb dX5_further_95 (by decide) (fun c_95 => ?_) (fun c_95 => ?_)
                · refine lv_iload hx hb dX5_further_100 (lv_at hl 8 rfl) ?_
                  refine lv_iload hx hb dX5_further_102 (lv_at hl 9 rfl) ?_
                  refine lv_iload hx hb dX5_further_104 (lv_at hl 0 rfl) ?_
                  refine cS_i F N (c_X5_with l G _ th (nI i) (furX t cols rows stay i)) miX5_with k_310 (by decide) hl.1 rfl (Nat.le_of_ble_eq_true rfl) dX5_further_106 (fun H locs N => ?_)
                  refine lv_istore (lv' := [(5, .int (tWith th (nI i) (furX t cols rows stay i))), (9, .int (furX t cols rows stay i)), (8, .int cols), (7, .int 0), (0, .int t), (1, .int cols), (2, .int rows), (3, .int stay), (4, .int (nI nc)), (6, .int (nI i))]) hx hb dX5_further_109 hl (by decide) rfl (fun ls hl => ?_)
                  refine lv_iinc (v := (nI (i + 1))) (lv' := [(6, .int (nI (i + 1))), (5, .int (tWith th (nI i) (furX t cols rows stay i))), (9, .int (furX t cols rows stay i)), (8, .int cols), (7, .int 0), (0, .int t), (1, .int cols), (2, .int rows), (3, .int stay), (4, .int (nI nc))]) hx hb dX5_further_111 hl (k := 9) rfl (nI_1 i) (by decide) rfl (fun ls hl => ?_)
                  refine lv_goto (tgt := 30) hx hb dX5_further_114 (by decide) ?_
                  exact ih_30 nc (tWith th (nI i) (furX t cols rows stay i)) (i + 1) (by omega) (by omega) (by rw [← hI]; simp [furL, c_34, c_34v, c_44, c_58, c_95]) _ _ _ N (lv_sub hl [5, 6, 7, 8, 9, 1, 0] rfl)
                · refine lv_iconst (v := 4) hx hb dX5_further_98 (by decide) ?_
                  exact hret _ _ _ _ _ _ dX5_further_99 (by rw [← hI]; simp [furL, c_34, c_34v, c_44, c_58, c_95]) (by rfl) N
            · refine lv_iconst (v := 1) hx hb dX5_further_47 (by decide) ?_
              refine lv_goto (tgt := 52) hx hb dX5_further_48 (by decide) ?_
              refine lv_istore (lv' := [(7, .int 1), (0, .int t), (1, .int cols), (2, .int rows), (3, .int stay), (4, .int (nI nc)), (5, .int th), (6, .int (nI i))]) hx hb dX5_further_52 hl (by decide) rfl (fun ls hl => ?_)
              refine lv_iload hx hb dX5_further_54 (lv_at hl 7 rfl) ?_
              refine lv_iconst (v := 2) hx hb dX5_further_56 (by decide) ?_
              refine iremN (a := i) (b := 2) hx hb dX5_further_57 (by omega) (by omega) (by omega) ?_
              refine ifN_ne (a := (i % 2)) (tgt := 65) hx hb dX5_further_58 (by decide) (by omega) (fun c_58 => ?_) (fun c_58 => ?_)
              · refine lv_iload_n hx hb dX5_further_65 rfl (lv_at hl 3 rfl) ?_
                refine lv_istore (lv' := [(8, .int rows), (7, .int 1), (0, .int t), (1, .int cols), (2, .int rows), (3, .int stay), (4, .int (nI nc)), (5, .int th), (6, .int (nI i))]) hx hb dX5_further_66 hl (by decide) rfl (fun ls hl => ?_)
                refine lv_iload_n hx hb dX5_further_68 rfl (lv_at hl 2 rfl) ?_
                refine lv_iload hx hb dX5_further_69 (lv_at hl 8 rfl) ?_
                refine cS_i F N (c_X5_coordinate l G _ t (nI i)) miX5_coordinate k_319 (by decide) hl.1 rfl (Nat.le_of_ble_eq_true rfl) dX5_further_71 (fun H locs N => ?_)
                refine lv_iload hx hb dX5_further_74 (lv_at hl 1 rfl) ?_
                refine lv_if_eq (tgt := 83) hx hb dX5_further_76 (by decide) (fun c_76 => ?_) (fun c_76 => ?_)
                · first | exact absurd c_76 (by decide) | exact absurd (by decide) c_76
                refine lv_iconst (v := 0) hx hb dX5_further_79 (by decide) ?_
                refine lv_goto (tgt := 85) hx hb dX5_further_80 (by decide) ?_
                refine lv_iadd hx hb dX5_further_85 ?_
                refine toI (y := furX t cols rows stay i) (by simp [furX, c_34, c_34v, c_44, c_58]) ?_
                refine lv_istore (lv' := [(9, .int (furX t cols rows stay i)), (8, .int rows), (7, .int 1), (0, .int t), (1, .int cols), (2, .int rows), (3, .int stay), (4, .int (nI nc)), (5, .int th), (6, .int (nI i))]) hx hb dX5_further_86 hl (by decide) rfl (fun ls hl => ?_)
                refine lv_iload hx hb dX5_further_88 (lv_at hl 0 rfl) ?_
                refine lv_iconst (v := 0) hx hb dX5_further_90 (by decide) ?_
                refine lv_iconst (v := 5) hx hb dX5_further_91 (by decide) ?_
                refine cN_i F N (c_X8_isWithin l G _ (furX t cols rows stay i) 0 5) miX8_isWithin k_515 (by decide) hl.1 rfl (Nat.le_of_ble_eq_true rfl) dX5_further_92 (fun H locs N => ?_)
                refine ifB_ne (tgt := 100) hx hb dX5_further_95 (by decide) (fun c_95 => ?_) (fun c_95 => ?_)
                · refine lv_iload hx hb dX5_further_100 (lv_at hl 8 rfl) ?_
                  refine lv_iload hx hb dX5_further_102 (lv_at hl 9 rfl) ?_
                  refine lv_iload hx hb dX5_further_104 (lv_at hl 0 rfl) ?_
                  refine cS_i F N (c_X5_with l G _ th (nI i) (furX t cols rows stay i)) miX5_with k_310 (by decide) hl.1 rfl (Nat.le_of_ble_eq_true rfl) dX5_further_106 (fun H locs N => ?_)
                  refine lv_istore (lv' := [(5, .int (tWith th (nI i) (furX t cols rows stay i))), (9, .int (furX t cols rows stay i)), (8, .int rows), (7, .int 1), (0, .int t), (1, .int cols), (2, .int rows), (3, .int stay), (4, .int (nI nc)), (6, .int (nI i))]) hx hb dX5_further_109 hl (by decide) rfl (fun ls hl => ?_)
                  refine lv_iinc (v := (nI (i + 1))) (lv' := [(6, .int (nI (i + 1))), (5, .int (tWith th (nI i) (furX t cols rows stay i))), (9, .int (furX t cols rows stay i)), (8, .int rows), (7, .int 1), (0, .int t), (1, .int cols), (2, .int rows), (3, .int stay), (4, .int (nI nc))]) hx hb dX5_further_111 hl (k := 9) rfl (nI_1 i) (by decide) rfl (fun ls hl => ?_)
                  refine lv_goto (tgt := 30) hx hb dX5_further_114 (by decide) ?_
                  exact ih_30 nc (tWith th (nI i) (furX t cols rows stay i)) (i + 1) (by omega) (by omega) (by rw [← hI]; simp [furL, c_34, c_34v, c_44, c_58, c_95]) _ _ _ N (lv_sub hl [5, 6, 7, 8, 9, 1, 0] rfl)
                · refine lv_iconst (v := 4) hx hb dX5_further_98 (by decide) ?_
                  exact hret _ _ _ _ _ _ dX5_further_99 (by rw [← hI]; simp [furL, c_34, c_34v, c_44, c_58, c_95]) (by rfl) N
              · refine lv_iload_n hx hb dX5_further_61 rfl (lv_at hl 2 rfl) ?_
                refine lv_goto (tgt := 66) hx hb dX5_further_62 (by decide) ?_
                refine lv_istore (lv' := [(8, .int cols), (7, .int 1), (0, .int t), (1, .int cols), (2, .int rows), (3, .int stay), (4, .int (nI nc)), (5, .int th), (6, .int (nI i))]) hx hb dX5_further_66 hl (by decide) rfl (fun ls hl => ?_)
                refine lv_iload_n hx hb dX5_further_68 rfl (lv_at hl 2 rfl) ?_
                refine lv_iload hx hb dX5_further_69 (lv_at hl 8 rfl) ?_
                refine cS_i F N (c_X5_coordinate l G _ t (nI i)) miX5_coordinate k_319 (by decide) hl.1 rfl (Nat.le_of_ble_eq_true rfl) dX5_further_71 (fun H locs N => ?_)
                refine lv_iload hx hb dX5_further_74 (lv_at hl 1 rfl) ?_
                refine lv_if_eq (tgt := 83) hx hb dX5_further_76 (by decide) (fun c_76 => ?_) (fun c_76 => ?_)
                · first | exact absurd c_76 (by decide) | exact absurd (by decide) c_76
                refine lv_iconst (v := 0) hx hb dX5_further_79 (by decide) ?_
                refine lv_goto (tgt := 85) hx hb dX5_further_80 (by decide) ?_
                refine lv_iadd hx hb dX5_further_85 ?_
                refine toI (y := furX t cols rows stay i) (by simp [furX, c_34, c_34v, c_44, c_58]) ?_
                refine lv_istore (lv' := [(9, .int (furX t cols rows stay i)), (8, .int cols), (7, .int 1), (0, .int t), (1, .int cols), (2, .int rows), (3, .int stay), (4, .int (nI nc)), (5, .int th), (6, .int (nI i))]) hx hb dX5_further_86 hl (by decide) rfl (fun ls hl => ?_)
                refine lv_iload hx hb dX5_further_88 (lv_at hl 0 rfl) ?_
                refine lv_iconst (v := 0) hx hb dX5_further_90 (by decide) ?_
                refine lv_iconst (v := 5) hx hb dX5_further_91 (by decide) ?_
                refine cN_i F N (c_X8_isWithin l G _ (furX t cols rows stay i) 0 5) miX8_isWithin k_515 (by decide) hl.1 rfl (Nat.le_of_ble_eq_true rfl) dX5_further_92 (fun H locs N => ?_)
                refine ifB_ne (tgt := 100) hx hb dX5_further_95 (by decide) (fun c_95 => ?_) (fun c_95 => ?_)
                · refine lv_iload hx hb dX5_further_100 (lv_at hl 8 rfl) ?_
                  refine lv_iload hx hb dX5_further_102 (lv_at hl 9 rfl) ?_
                  refine lv_iload hx hb dX5_further_104 (lv_at hl 0 rfl) ?_
                  refine cS_i F N (c_X5_with l G _ th (nI i) (furX t cols rows stay i)) miX5_with k_310 (by decide) hl.1 rfl (Nat.le_of_ble_eq_true rfl) dX5_further_106 (fun H locs N => ?_)
                  refine lv_istore (lv' := [(5, .int (tWith th (nI i) (furX t cols rows stay i))), (9, .int (furX t cols rows stay i)), (8, .int cols), (7, .int 1), (0, .int t), (1, .int cols), (2, .int rows), (3, .int stay), (4, .int (nI nc)), (6, .int (nI i))]) hx hb dX5_further_109 hl (by decide) rfl (fun ls hl => ?_)
                  refine lv_iinc (v := (nI (i + 1))) (lv' := [(6, .int (nI (i + 1))), (5, .int (tWith th (nI i) (furX t cols rows stay i))), (9, .int (furX t cols rows stay i)), (8, .int cols), (7, .int 1), (0, .int t), (1, .int cols), (2, .int rows), (3, .int stay), (4, .int (nI nc))]) hx hb dX5_further_111 hl (k := 9) rfl (nI_1 i) (by decide) rfl (fun ls hl => ?_)
                  refine lv_goto (tgt := 30) hx hb dX5_further_114 (by decide) ?_
                  exact ih_30 nc (tWith th (nI i) (furX t cols rows stay i)) (i + 1) (by omega) (by omega) (by rw [← hI]; simp [furL, c_34, c_34v, c_44, c_58, c_95]) _ _ _ N (lv_sub hl [5, 6, 7, 8, 9, 1, 0] rfl)
                · refine lv_iconst (v := 4) hx hb dX5_further_98 (by decide) ?_
                  exact hret _ _ _ _ _ _ dX5_further_99 (by rw [← hI]; simp [furL, c_34, c_34v, c_44, c_58, c_95]) (by rfl) N
      exact cut_30 4 4 t 0 (by omega) (by omega) (by simp [tFur, c_4, c_14]) _ _ _ N (lv_sub hl [3, 4, 5, 6, 2, 1, 0] rfl)
  · refine lv_iload_n hx hb dX5_further_7 rfl (lv_at hl 0 rfl) ?_
    exact hret _ _ _ _ _ _ dX5_further_8 (by first | rfl | (simp [bI, tFur, c_4])) (by first | rfl | (simp [bI, tFur, c_4])) N
def fillF (f : Nat → Int32) (v : Int32) (n : Nat) : Nat → Int32 := fun j => if j < n then v else f j
theorem fillF_0 (f : Nat → Int32) (v : Int32) : fillF f v 0 = f := by funext j; simp [fillF]
theorem fillF_s (f : Nat → Int32) (v : Int32) (i : Nat) : upd (fillF f v i) i v = fillF f v (i + 1) := by
  funext j
  unfold upd fillF
  by_cases h : j = i
  · subst h; simp
  · by_cases h2 : j < i
    · simp [h, h2, Nat.lt_succ_of_lt h2]
    · have h3 : ¬ j < i + 1 := by omega
      simp [h, h2, h3]
set_option maxHeartbeats 4000000 in
set_option maxRecDepth 100000 in
/-- java.util.Arrays.fill(int[], int) -/
theorem c_fill (l : Launch) (G : GM) (w : va_W) (q n a : Nat) (f : Nat → Int32) (v : Int32) (hq : w[q]? = some (a, av_i G.2.2.1 n f)) (hn : n < 2 ^ 31) : XCv l G yJ7_fill_53178 cJ7_fill_53178 4 none 0 [.ref a, .int v] w (w.set q (a, av_i G.2.2.1 n (fillF f v n))) := by
  have hlq : q < w.length := (List.getElem?_eq_some_iff.mp hq).1
  refine xv_start (by decide) (Nat.le_of_ble_eq_true rfl) ?_
  intro zp ze zs zm zargs zbelow zmeth zc zQ ls F N hl hret
  have hx := F.1
  have hb := F.2.1
  have hl : lv_has ls 4 [(0, .ref a), (1, .int v)] := hl
  refine lv_iconst (v := 0) hx hb dJ7_fill_53178_0 (by decide) ?_
  refine lv_istore_n (lv' := [(2, .int 0), (0, .ref a), (1, .int v)]) hx hb dJ7_fill_53178_1 rfl hl (by decide) rfl (fun ls hl => ?_)
  refine lv_aload_n hx hb dJ7_fill_53178_2 rfl (lv_at hl 1 rfl) ?_
  refine va_alen (v := nI n) F.1 F.2.1 F.2.2.2.2.2.1 N.1 q 0 hq rfl rfl dJ7_fill_53178_3 ?_
  refine lv_istore_n (lv' := [(3, .int (nI n)), (2, .int 0), (0, .ref a), (1, .int v)]) hx hb dJ7_fill_53178_4 rfl hl (by decide) rfl (fun ls hl => ?_)
  have cut : ∀ (k i : Nat), i + k = n → ∀ (H : Heap) (locs : List Loc) (ls : Array Slot), Now G zs (w.set q (a, av_i G.2.2.1 n (fillF f v i))) H locs → lv_has ls 4 [(2, .int (nI i)), (3, .int (nI n)), (0, .ref a), (1, .int v)] → W zp l ze (RM 0) zs zm zargs zbelow zmeth zc H locs 0 0 zQ (F0 zm 5 ls []) := by
    intro k
    induction k with
    | zero =>
      intro i hk H locs ls N hl
      refine lv_iload_n hx hb dJ7_fill_53178_5 rfl (lv_at hl 0 rfl) ?_
      refine lv_iload_n hx hb dJ7_fill_53178_6 rfl (lv_at hl 1 rfl) ?_
      refine cmpN_ge (a := i) (b := n) (tgt := 20) hx hb dJ7_fill_53178_7 (by decide) (by omega) (by omega) (fun c_1 => ?_) (fun c_1 => ?_)
      · have e : i = n := by omega
        subst e
        exact hret _ _ _ _ _ dJ7_fill_53178_20 rfl N
      · exfalso; omega
    | succ k ih =>
      intro i hk H locs ls N hl
      refine lv_iload_n hx hb dJ7_fill_53178_5 rfl (lv_at hl 0 rfl) ?_
      refine lv_iload_n hx hb dJ7_fill_53178_6 rfl (lv_at hl 1 rfl) ?_
      refine cmpN_ge (a := i) (b := n) (tgt := 20) hx hb dJ7_fill_53178_7 (by decide) (by omega) (by omega) (fun c_1 => ?_) (fun c_1 => ?_)
      · exfalso; omega
      · refine lv_aload_n hx hb dJ7_fill_53178_10 rfl (lv_at hl 2 rfl) ?_
        refine lv_iload_n hx hb dJ7_fill_53178_11 rfl (lv_at hl 0 rfl) ?_
        refine lv_iload_n hx hb dJ7_fill_53178_12 rfl (lv_at hl 3 rfl) ?_
        refine va_iast F.1 F.2.1 F.2.2.2.2.2.1 N.1 N.2.1 N.2.2 q 0 (List.getElem?_set_self hlq) rfl (vp_in_nI (by omega) hn) dJ7_fill_53178_13 (fun H locs hP hD hS => ?_)
        rw [List.set_set, nI_clamp (by omega), fillF_s] at hP hD
        refine lv_iinc (v := nI (i + 1)) (lv' := [(2, .int (nI (i + 1))), (3, .int (nI n)), (0, .ref a), (1, .int v)]) hx hb dJ7_fill_53178_14 hl (k := 0) rfl (nI_1 i) (by decide) rfl (fun ls hl => ?_)
        refine lv_goto (tgt := 5) hx hb dJ7_fill_53178_17 (by decide) ?_
        exact ih (i + 1) (by omega) _ _ _ ⟨hP, hD, hS⟩ hl
  refine cut n 0 (by omega) _ _ ls ?_ (lv_sub hl [1, 0, 2, 3] rfl)
  have e : w.set q (a, av_i G.2.2.1 n (fillF f v 0)) = w := by
    rw [fillF_0]
    apply List.ext_getElem?
    intro j
    by_cases h : q = j
    · subst h; rw [List.getElem?_set_self hlq, hq]
    · rw [List.getElem?_set_ne h]
  rw [e]
  exact N
theorem c_fill_1 (l : Launch) (G : GM) (ad : Nat → Nat) (ex : va_W) (st : ST) (v : Int32) : XXv l G yJ7_fill_53178 cJ7_fill_53178 4 none 0 [.ref (ad 8), .int v] ad ex st (sA st 1 (fillF (st.2.1 1) v 4)) := c_fill l G (XW G ad st ++ ex) 8 4 (ad 8) (st.2.1 1) v rfl (by decide)
theorem c_fill_2 (l : Launch) (G : GM) (ad : Nat → Nat) (ex : va_W) (st : ST) (v : Int32) : XXv l G yJ7_fill_53178 cJ7_fill_53178 4 none 0 [.ref (ad 9), .int v] ad ex st (sA st 2 (fillF (st.2.1 2) v 144)) := c_fill l G (XW G ad st ++ ex) 9 144 (ad 9) (st.2.1 2) v rfl (by decide)
theorem c_fill_5 (l : Launch) (G : GM) (ad : Nat → Nat) (ex : va_W) (st : ST) (v : Int32) : XXv l G yJ7_fill_53178 cJ7_fill_53178 4 none 0 [.ref (ad 12), .int v] ad ex st (sA st 5 (fillF (st.2.1 5) v 36)) := c_fill l G (XW G ad st ++ ex) 12 36 (ad 12) (st.2.1 5) v rfl (by decide)
/-! the text, and its reading: f the bytes, L how many, P the place -/
def rAt (f : Nat → Int32) (L P : Nat) : Int32 := if P < L then f P else -1
def rSkip (f : Nat → Int32) : Nat → Nat → Nat
  | 0, P => P
  | k + 1, P => if f P = 32 then rSkip f k (P + 1) else P
def rNx (f : Nat → Int32) (L P : Nat) : Nat := rSkip f (L - P) P
def rCh (f : Nat → Int32) (L P : Nat) : Int32 := rAt f L (rNx f L P)
def rTkB (f : Nat → Int32) (L P : Nat) (s : Int32) : Bool := decide (rCh f L P = s)
def rTkP (f : Nat → Int32) (L P : Nat) (s : Int32) : Nat := if rCh f L P = s then rNx f L P + 1 else rNx f L P
def rPl (f : Nat → Int32) (L P : Nat) : Int32 × Nat :=
  if rCol (rCh f L (rTkP f L P 36)) = -1 then (0, rNx f L (rTkP f L P 36))
  else if xIsW (rCh f L (rTkP f L (rNx f L (rTkP f L P 36) + 1) 36) - 49) 0 5 = true then
    (tOfPl (rCol (rCh f L (rTkP f L P 36))) (rCh f L (rTkP f L (rNx f L (rTkP f L P 36) + 1) 36) - 49) ((if rTkB f L P 36 = true then 1 else 0) + (if rTkB f L (rNx f L (rTkP f L P 36) + 1) 36 = true then 2 else 0)), rNx f L (rTkP f L (rNx f L (rTkP f L P 36) + 1) 36) + 1)
  else (0, rNx f L (rTkP f L (rNx f L (rTkP f L P 36) + 1) 36))
def rRef (f : Nat → Int32) (L P : Nat) : Int32 × Nat :=
  if (rPl f L P).1 = 0 then rPl f L P
  else if rTkB f L (rPl f L P).2 58 = false then ((rPl f L P).1, rTkP f L (rPl f L P).2 58)
  else (if (rPl f L (rTkP f L (rPl f L P).2 58)).1 = 0 then 0 else tOfBl (rPl f L P).1 (rPl f L (rTkP f L (rPl f L P).2 58)).1, (rPl f L (rTkP f L (rPl f L P).2 58)).2)
def rNumL (f : Nat → Int32) (L : Nat) : Nat → Nat → Int32 → Int32 × Nat
  | 0, P, v => (v, P)
  | k + 1, P, v => if rFig (rAt f L P) = true then rNumL f L k (P + 1) (10 * v + rAt f L P - 48) else (v, P)
def rTerm (f : Nat → Int32) (L P : Nat) : Int32 × Nat :=
  if rFig (rCh f L P) = true then (tOfNum (rNumL f L 3 (rNx f L P) 0).1, (rNumL f L 3 (rNx f L P) 0).2)
  else if rTkB f L (rNx f L P) 35 = true then (4, rTkP f L (rNx f L P) 35)
  else rRef f L (rTkP f L (rNx f L P) 35)
def rdL (f : Nat → Int32) (L : Nat) : Nat → Nat → Bool → Nat → (Nat → Int32) → Int32 × Nat × (Nat → Int32)
  | k, n, false, P, g => (if rCh f L P = -1 then nI n else 0, rNx f L P, g)
  | 0, n, true, P, g => (0, P, g)
  | k + 1, n, true, P, g => if (rTerm f L P).1 = 0 then (0, (rTerm f L P).2, g) else rdL f L k (n + 1) (rTkB f L (rTerm f L P).2 43) (rTkP f L (rTerm f L P).2 43) (upd g n (rTerm f L P).1)
theorem rSkip_le (f : Nat → Int32) : ∀ (k P : Nat), P ≤ rSkip f k P ∧ rSkip f k P ≤ P + k
  | 0, P => ⟨Nat.le_refl _, Nat.le_refl _⟩
  | k + 1, P => by
    unfold rSkip
    split
    · have h := rSkip_le f k (P + 1)
      omega
    · omega
theorem rNx_le {f : Nat → Int32} {L P : Nat} (h : P ≤ L) : rNx f L P ≤ L := by
  have h1 := rSkip_le f (L - P) P
  unfold rNx
  omega
theorem rNx_lt {f : Nat → Int32} {L P : Nat} (h : ¬ rCh f L P = -1) : rNx f L P < L := by
  unfold rCh rAt at h
  by_cases h1 : rNx f L P < L
  · exact h1
  · simp [h1] at h
theorem rTkP_le {f : Nat → Int32} {L P : Nat} {s : Int32} (h : P ≤ L) (hs : ¬ s = -1) : rTkP f L P s ≤ L := by
  unfold rTkP
  split
  · rename_i e
    have h1 : ¬ rCh f L P = -1 := by rw [e]; exact hs
    exact rNx_lt h1
  · exact rNx_le h
theorem rCol_end : rCol (-1) = -1 := by decide
theorem rCol_lt {f : Nat → Int32} {L P : Nat} (h : ¬ rCol (rCh f L P) = -1) : rNx f L P < L := rNx_lt (fun e => h (by rw [e]; exact rCol_end))
theorem rRow_lt {f : Nat → Int32} {L P : Nat} (h : xIsW (rCh f L P - 49) 0 5 = true) : rNx f L P < L := rNx_lt (fun e => by rw [e] at h; exact absurd h (by decide))
theorem rFig_lt {f : Nat → Int32} {L P : Nat} (h : rFig (rAt f L P) = true) : P < L := by
  by_cases h1 : P < L
  · exact h1
  · simp [rAt, h1] at h
    exact absurd h (by decide)
theorem rPl_le {f : Nat → Int32} {L P : Nat} (h : P ≤ L) : (rPl f L P).2 ≤ L := by
  unfold rPl
  have h1 : rTkP f L P 36 ≤ L := rTkP_le h (by decide)
  split
  · exact rNx_le h1
  · rename_i e
    have h2 : rTkP f L (rNx f L (rTkP f L P 36) + 1) 36 ≤ L := rTkP_le (rCol_lt e) (by decide)
    split
    · rename_i e2; exact rRow_lt e2
    · exact rNx_le h2
theorem rRef_le {f : Nat → Int32} {L P : Nat} (h : P ≤ L) : (rRef f L P).2 ≤ L := by
  unfold rRef
  have h1 : (rPl f L P).2 ≤ L := rPl_le h
  have h2 : rTkP f L (rPl f L P).2 58 ≤ L := rTkP_le h1 (by decide)
  split
  · exact h1
  · split
    · exact h2
    · exact rPl_le h2
theorem rNumL_le {f : Nat → Int32} {L : Nat} : ∀ (k P : Nat) (v : Int32), P ≤ L → (rNumL f L k P v).2 ≤ L
  | 0, P, v, h => h
  | k + 1, P, v, h => by
    unfold rNumL
    split
    · rename_i e; exact rNumL_le k (P + 1) _ (rFig_lt e)
    · exact h
theorem rTerm_le {f : Nat → Int32} {L P : Nat} (h : P ≤ L) : (rTerm f L P).2 ≤ L := by
  unfold rTerm
  have h1 : rNx f L P ≤ L := rNx_le h
  split
  · exact rNumL_le 3 _ _ h1
  · split
    · exact rTkP_le h1 (by decide)
    · exact rRef_le (rTkP_le h1 (by decide))
set_option maxHeartbeats 4000000 in
set_option maxRecDepth 100000 in
theorem c_X6_isFull (l : Launch) (G : GM) (ad : Nat → Nat) (ex : va_W) (st : ST) (L : Nat) (hL : st.1 3 = nI L) (hL2 : L ≤ 60) : XCi l G yX6_isFull cX6_isFull 1 (some .boolean) 0 [.ref (ad 1)] (XW G ad st ++ ex) (bI (decide (60 ≤ L))) (XW G ad st ++ ex) := by
  refine xi_start (by decide) (nar_bI _) (Nat.le_of_ble_eq_true rfl) ?_
  intro zp ze zs zm zargs zbelow zmeth zc zQ ls F N hl hret
  have hx := F.1
  have hb := F.2.1
  have hl : lv_has ls 1 [(0, .ref (ad 1))] := hl
  refine lv_aload_n hx hb dX6_isFull_0 rfl (lv_at hl 0 rfl) ?_
  refine gx_1_length F N k_90 dX6_isFull_1 ?_
  refine toN (a := L) hL ?_
  refine lv_bipush (v := 60) hx hb dX6_isFull_4 (by decide) ?_
  refine cmpN_lt (a := L) (b := 60) (tgt := 13) hx hb dX6_isFull_6 (by decide) (by omega) (by omega) (fun c_6 => ?_) (fun c_6 => ?_)
  · have c_6v := Nat.not_le.mpr c_6
    refine lv_iconst (v := 0) hx hb dX6_isFull_13 (by decide) ?_
    exact hret _ _ _ _ _ _ dX6_isFull_14 (by simp [bI, c_6, c_6v]; try omega) (by rfl) N
  · have c_6v := Nat.not_lt.mp c_6
    refine lv_iconst (v := 1) hx hb dX6_isFull_9 (by decide) ?_
    refine lv_goto (tgt := 14) hx hb dX6_isFull_10 (by decide) ?_
    exact hret _ _ _ _ _ _ dX6_isFull_14 (by simp [bI, c_6, c_6v]; try omega) (by rfl) N
set_option maxHeartbeats 4000000 in
set_option maxRecDepth 100000 in
theorem c_X6_add (l : Launch) (G : GM) (ad : Nat → Nat) (ex : va_W) (st : ST) (v : Int32) (L : Nat) (hL : st.1 3 = nI L) (hL2 : L < 60) : XXi l G yX6_add cX6_add 2 (some .int) 0 [.ref (ad 1), .int v] ad ex st (nI (L + 1)) (sI (sA st 0 (upd (st.2.1 0) L v)) 3 (nI (L + 1))) := by
  refine xi_start (by decide) rfl (Nat.le_of_ble_eq_true rfl) ?_
  intro zp ze zs zm zargs zbelow zmeth zc zQ ls F N hl hret
  have hx := F.1
  have hb := F.2.1
  have hl : lv_has ls 2 [(0, .ref (ad 1)), (1, .int v)] := hl
  refine lv_aload_n hx hb dX6_add_0 rfl (lv_at hl 0 rfl) ?_
  refine gx_1_length F N k_90 dX6_add_1 ?_
  refine toN (a := L) hL ?_
  refine lv_bipush (v := 60) hx hb dX6_add_4 (by decide) ?_
  refine cmpN_ge (a := L) (b := 60) (tgt := 29) hx hb dX6_add_6 (by decide) (by omega) (by omega) (fun c_6 => ?_) (fun c_6 => ?_)
  · exfalso; omega
  · have c_6v := Nat.not_le.mp c_6
    refine lv_aload_n hx hb dX6_add_9 rfl (lv_at hl 0 rfl) ?_
    refine gx_1_bytes F N k_89 dX6_add_10 ?_
    refine lv_aload_n hx hb dX6_add_13 rfl (lv_at hl 0 rfl) ?_
    refine gx_1_length F N k_90 dX6_add_14 ?_
    refine toN (a := L) hL ?_
    refine lv_iload_n hx hb dX6_add_17 rfl (lv_at hl 1 rfl) ?_
    refine sxN_0 (j := L) F N (by omega) dX6_add_18 (fun st_18 est_18 H locs N => ?_)
    refine lv_aload_n hx hb dX6_add_19 rfl (lv_at hl 0 rfl) ?_
    refine lv_dup hx hb dX6_add_20 rfl ?_
    refine gx_1_length F N k_90 dX6_add_21 ?_
    refine toN (a := L) (by simp [est_18, sI_1, sI_2, sA_1, sA_21, sA_22, hL]) ?_
    refine lv_iconst (v := 1) hx hb dX6_add_24 (by decide) ?_
    refine iaddN (a := L) (b := 1) hx hb dX6_add_25 ?_
    refine px_1_length F N k_90 dX6_add_26 (fun st_26 est_26 H locs N => ?_)
    refine lv_aload_n hx hb dX6_add_29 rfl (lv_at hl 0 rfl) ?_
    refine gx_1_length F N k_90 dX6_add_30 ?_
    refine toN (a := L + 1) (by simp [est_26, est_18, sI_1, sI_2, sA_1, sA_21, sA_22]) ?_
    exact hret _ _ _ _ _ _ dX6_add_33 (by first | rfl | (subst est_18 est_26; rfl) | (subst est_18 est_26; simp [bI, c_6, c_6v])) (by first | rfl | (subst est_18 est_26; rfl) | (subst est_18 est_26; simp [bI, c_6, c_6v])) N
set_option maxHeartbeats 4000000 in
set_option maxRecDepth 100000 in
theorem c_X6_drop (l : Launch) (G : GM) (ad : Nat → Nat) (ex : va_W) (st : ST) : XXi l G yX6_drop cX6_drop 2 (some .int) 0 [.ref (ad 1)] ad ex st (st.1 3) (sI st 3 0) := by
  refine xi_start (by decide) rfl (Nat.le_of_ble_eq_true rfl) ?_
  intro zp ze zs zm zargs zbelow zmeth zc zQ ls F N hl hret
  have hx := F.1
  have hb := F.2.1
  have hl : lv_has ls 2 [(0, .ref (ad 1))] := hl
  refine lv_aload_n hx hb dX6_drop_0 rfl (lv_at hl 0 rfl) ?_
  refine gx_1_length F N k_90 dX6_drop_1 ?_
  refine lv_istore_n (lv' := [(1, .int (st.1 3)), (0, .ref (ad 1))]) hx hb dX6_drop_4 rfl hl (by decide) rfl (fun ls hl => ?_)
  refine lv_aload_n hx hb dX6_drop_5 rfl (lv_at hl 1 rfl) ?_
  refine lv_iconst (v := 0) hx hb dX6_drop_6 (by decide) ?_
  refine px_1_length F N k_90 dX6_drop_7 (fun st_7 est_7 H locs N => ?_)
  refine lv_iload_n hx hb dX6_drop_10 rfl (lv_at hl 0 rfl) ?_
  exact hret _ _ _ _ _ _ dX6_drop_11 (by first | rfl | (subst est_7; rfl) | (subst est_7; simp [bI])) (by first | rfl | (subst est_7; rfl) | (subst est_7; simp [bI])) N
set_option maxHeartbeats 4000000 in
set_option maxRecDepth 100000 in
theorem c_X6_byteAt (l : Launch) (G : GM) (ad : Nat → Nat) (ex : va_W) (st : ST) (pl : Nat) (f : Nat → Int32) (L : Nat) (hf : st.2.1 0 = f) (hL : st.1 3 = nI L) (hL2 : L ≤ 60) (hp : pl ≤ 60) : XCi l G yX6_byteAt cX6_byteAt 2 (some .int) 0 [.ref (ad 1), .int (nI pl)] (XW G ad st ++ ex) (rAt f L pl) (XW G ad st ++ ex) := by
  refine xi_start (by decide) rfl (Nat.le_of_ble_eq_true rfl) ?_
  intro zp ze zs zm zargs zbelow zmeth zc zQ ls F N hl hret
  have hx := F.1
  have hb := F.2.1
  have hl : lv_has ls 2 [(0, .ref (ad 1)), (1, .int (nI pl))] := hl
  refine lv_iload_n hx hb dX6_byteAt_0 rfl (lv_at hl 1 rfl) ?_
  refine ifN_lt (a := pl) (tgt := 21) hx hb dX6_byteAt_1 (by decide) (by omega) ?_
  refine lv_iload_n hx hb dX6_byteAt_4 rfl (lv_at hl 1 rfl) ?_
  refine lv_aload_n hx hb dX6_byteAt_5 rfl (lv_at hl 0 rfl) ?_
  refine gx_1_length F N k_90 dX6_byteAt_6 ?_
  refine toN (a := L) hL ?_
  refine cmpN_ge (a := pl) (b := L) (tgt := 21) hx hb dX6_byteAt_9 (by decide) (by omega) (by omega) (fun c_9 => ?_) (fun c_9 => ?_)
  · have c_9v := Nat.not_lt.mpr c_9
    refine lv_iconst (v := (-1)) hx hb dX6_byteAt_21 (by decide) ?_
    exact hret _ _ _ _ _ _ dX6_byteAt_22 (by first | rfl | (simp [bI, rAt, c_9, c_9v])) (by first | rfl | (simp [bI, rAt, c_9, c_9v])) N
  · have c_9v := Nat.not_le.mp c_9
    refine lv_aload_n hx hb dX6_byteAt_12 rfl (lv_at hl 0 rfl) ?_
    refine gx_1_bytes F N k_89 dX6_byteAt_13 ?_
    refine lv_iload_n hx hb dX6_byteAt_16 rfl (lv_at hl 1 rfl) ?_
    refine axN_0 (j := pl) F N (by omega) dX6_byteAt_17 ?_
    refine toI (y := f pl) (by rw [hf]) ?_
    refine lv_goto (tgt := 22) hx hb dX6_byteAt_18 (by decide) ?_
    exact hret _ _ _ _ _ _ dX6_byteAt_22 (by first | rfl | (simp [bI, rAt, c_9, c_9v])) (by first | rfl | (simp [bI, rAt, c_9, c_9v])) N
set_option maxHeartbeats 4000000 in
set_option maxRecDepth 100000 in
theorem c_X3_next (l : Launch) (G : GM) (ad : Nat → Nat) (ex : va_W) (st : ST) (f : Nat → Int32) (L : Nat) (P : Nat) (hf : st.2.1 0 = f) (hL : st.1 3 = nI L) (hL2 : L ≤ 60) (hP : st.1 4 = nI P) (hP2 : P ≤ L) : XXi l G yX3_next cX3_next 1 (some .int) 1 [.ref (ad 2)] ad ex st (rCh f L P) (sI st 4 (nI (rNx f L P))) := by
  refine xi_start (by decide) rfl (Nat.le_of_ble_eq_true rfl) ?_
  intro zp ze zs zm zargs zbelow zmeth zc zQ ls F N hl hret
  have hx := F.1
  have hb := F.2.1
  have hl : lv_has ls 1 [(0, .ref (ad 2))] := hl
  have cut_0 : ∀ (k : Nat) (q : Nat) (s1 : ST), q + k = L → s1 = sI st 4 (nI q) → rSkip f k q = rNx f L P → ∀ (H : Heap) (locs : List Loc) (ls : Array Slot), Now G zs (XW G ad s1 ++ ex) H locs → lv_has ls 1 [(0, .ref (ad 2))] → W zp l ze (RM 1) zs zm zargs zbelow zmeth zc H locs 0 0 zQ (F0 zm 0 ls []) := by
    intro k
    induction k with
    | zero =>
      intro q s1 hk hs hI H locs ls N hl
      refine lv_aload_n hx hb dX3_next_0 rfl (lv_at hl 0 rfl) ?_
      refine gx_2_place F N k_108 dX3_next_1 ?_
      refine toN (a := q) (by rw [hs]; rfl) ?_
      refine lv_aload_n hx hb dX3_next_4 rfl (lv_at hl 0 rfl) ?_
      refine gx_2_text F N k_105 dX3_next_5 ?_
      refine gx_1_length F N k_91 dX3_next_8 ?_
      refine toN (a := L) (by rw [hs]; exact hL) ?_
      refine cmpN_ge (a := q) (b := L) (tgt := 43) hx hb dX3_next_11 (by decide) (by omega) (by omega) (fun c_11 => ?_) (fun c_11 => ?_)
      · have c_11v := Nat.not_lt.mpr c_11
        refine lv_aload_n hx hb dX3_next_43 rfl (lv_at hl 0 rfl) ?_
        refine gx_2_text F N k_105 dX3_next_44 ?_
        refine lv_aload_n hx hb dX3_next_47 rfl (lv_at hl 0 rfl) ?_
        refine gx_2_place F N k_108 dX3_next_48 ?_
        refine toN (a := q) (by rw [hs]; rfl) ?_
        refine cV_i F N (c_X6_byteAt l G ad ex s1 q f L (by simp [hs, sI_1, sI_2, sA_1, sA_21, sA_22, hf]) (by simp [hs, sI_1, sI_2, sA_1, sA_21, sA_22, hL]) hL2 (by omega)) miX6_byteAt k_277 (by decide) hl.1 rfl (Nat.le_of_ble_eq_true rfl) (q0 := 1) (ci := 5) rfl rfl dX3_next_51 (fun H locs N => ?_)
        exact hret _ _ _ _ _ _ dX3_next_54 (by unfold rCh; rw [← hI]; simp [rSkip, c_11, c_11v]) (by rw [hs, ← hI]; simp [rSkip, c_11, c_11v]) N
      · exfalso; omega
    | succ k ih_0 =>
      intro q s1 hk hs hI H locs ls N hl
      refine lv_aload_n hx hb dX3_next_0 rfl (lv_at hl 0 rfl) ?_
      refine gx_2_place F N k_108 dX3_next_1 ?_
      refine toN (a := q) (by rw [hs]; rfl) ?_
      refine lv_aload_n hx hb dX3_next_4 rfl (lv_at hl 0 rfl) ?_
      refine gx_2_text F N k_105 dX3_next_5 ?_
      refine gx_1_length F N k_91 dX3_next_8 ?_
      refine toN (a := L) (by rw [hs]; exact hL) ?_
      refine cmpN_ge (a := q) (b := L) (tgt := 43) hx hb dX3_next_11 (by decide) (by omega) (by omega) (fun c_11 => ?_) (fun c_11 => ?_)
      · exfalso; omega
      · have c_11v := Nat.not_le.mp c_11
        refine lv_aload_n hx hb dX3_next_14 rfl (lv_at hl 0 rfl) ?_
        refine gx_2_text F N k_105 dX3_next_15 ?_
        refine lv_aload_n hx hb dX3_next_18 rfl (lv_at hl 0 rfl) ?_
        refine gx_2_place F N k_108 dX3_next_19 ?_
        refine toN (a := q) (by rw [hs]; rfl) ?_
        refine cV_i F N (c_X6_byteAt l G ad ex s1 q f L (by simp [hs, sI_1, sI_2, sA_1, sA_21, sA_22, hf]) (by simp [hs, sI_1, sI_2, sA_1, sA_21, sA_22, hL]) hL2 (by omega)) miX6_byteAt k_277 (by decide) hl.1 rfl (Nat.le_of_ble_eq_true rfl) (q0 := 1) (ci := 5) rfl rfl dX3_next_22 (fun H locs N => ?_)
        refine toI (y := f q) (by unfold rAt; exact if_pos (by omega)) ?_
        refine lv_bipush (v := 32) hx hb dX3_next_25 (by decide) ?_
        refine lv_icmp_ne (tgt := 43) hx hb dX3_next_27 (by decide) (fun c_27 => ?_) (fun c_27 => ?_)
        · refine lv_aload_n hx hb dX3_next_43 rfl (lv_at hl 0 rfl) ?_
          refine gx_2_text F N k_105 dX3_next_44 ?_
          refine lv_aload_n hx hb dX3_next_47 rfl (lv_at hl 0 rfl) ?_
          refine gx_2_place F N k_108 dX3_next_48 ?_
          refine toN (a := q) (by rw [hs]; rfl) ?_
          refine cV_i F N (c_X6_byteAt l G ad ex s1 q f L (by simp [hs, sI_1, sI_2, sA_1, sA_21, sA_22, hf]) (by simp [hs, sI_1, sI_2, sA_1, sA_21, sA_22, hL]) hL2 (by omega)) miX6_byteAt k_277 (by decide) hl.1 rfl (Nat.le_of_ble_eq_true rfl) (q0 := 1) (ci := 5) rfl rfl dX3_next_51 (fun H locs N => ?_)
          exact hret _ _ _ _ _ _ dX3_next_54 (by unfold rCh; rw [← hI]; simp [rSkip, c_11, c_11v, c_27]) (by rw [hs, ← hI]; simp [rSkip, c_11, c_11v, c_27]) N
        · refine lv_aload_n hx hb dX3_next_30 rfl (lv_at hl 0 rfl) ?_
          refine lv_dup hx hb dX3_next_31 rfl ?_
          refine gx_2_place F N k_108 dX3_next_32 ?_
          refine toN (a := q) (by rw [hs]; rfl) ?_
          refine lv_iconst (v := 1) hx hb dX3_next_35 (by decide) ?_
          refine iaddN (a := q) (b := 1) hx hb dX3_next_36 ?_
          refine px_2_place F N k_108 dX3_next_37 (fun st_37 est_37 H locs N => ?_)
          refine lv_goto (tgt := 0) hx hb dX3_next_40 (by decide) ?_
          exact ih_0 (q + 1) st_37 (by omega) (by rw [est_37, hs, sI_sI]) (by rw [← hI]; simp [rSkip, c_11, c_11v, c_27]) _ _ _ N (lv_sub hl [0] rfl)
  exact cut_0 (L - P) P st (by omega) (by rw [sI_self hP]) rfl _ _ _ N (lv_sub hl [0] rfl)
set_option maxHeartbeats 4000000 in
set_option maxRecDepth 100000 in
theorem c_X3_takes (l : Launch) (G : GM) (ad : Nat → Nat) (ex : va_W) (st : ST) (sg : Int32) (f : Nat → Int32) (L : Nat) (P : Nat) (hf : st.2.1 0 = f) (hL : st.1 3 = nI L) (hL2 : L ≤ 60) (hP : st.1 4 = nI P) (hP2 : P ≤ L) : XXi l G yX3_takes cX3_takes 2 (some .boolean) 2 [.ref (ad 2), .int sg] ad ex st (bI (rTkB f L P sg)) (sI st 4 (nI (rTkP f L P sg))) := by
  refine xi_start (by decide) (nar_bI _) (Nat.le_of_ble_eq_true rfl) ?_
  intro zp ze zs zm zargs zbelow zmeth zc zQ ls F N hl hret
  have hx := F.1
  have hb := F.2.1
  have hl : lv_has ls 2 [(0, .ref (ad 2)), (1, .int sg)] := hl
  refine lv_aload_n hx hb dX3_takes_0 rfl (lv_at hl 0 rfl) ?_
  refine xV_i F N (c_X3_next l G ad ex st f L P (by simp [sI_1, sI_2, sA_1, sA_21, sA_22, hf]) (by simp [sI_1, sI_2, sA_1, sA_21, sA_22, hL]) hL2 (by simp [sI_1, sI_2, sA_1, sA_21, sA_22, hP]) hP2) miX3_next k_273 (by decide) hl.1 rfl (Nat.le_of_ble_eq_true rfl) (q0 := 2) (ci := 3) rfl rfl dX3_takes_1 (fun st_1 est_1 H locs N => ?_)
  refine lv_iload_n hx hb dX3_takes_4 rfl (lv_at hl 1 rfl) ?_
  refine lv_icmp_eq (tgt := 10) hx hb dX3_takes_5 (by decide) (fun c_5 => ?_) (fun c_5 => ?_)
  · refine lv_aload_n hx hb dX3_takes_10 rfl (lv_at hl 0 rfl) ?_
    refine lv_dup hx hb dX3_takes_11 rfl ?_
    refine gx_2_place F N k_108 dX3_takes_12 ?_
    refine toN (a := rNx f L P) (by simp [est_1, sI_1, sI_2, sA_1, sA_21, sA_22]) ?_
    refine lv_iconst (v := 1) hx hb dX3_takes_15 (by decide) ?_
    refine iaddN (a := (rNx f L P)) (b := 1) hx hb dX3_takes_16 ?_
    refine px_2_place F N k_108 dX3_takes_17 (fun st_17 est_17 H locs N => ?_)
    refine lv_iconst (v := 1) hx hb dX3_takes_20 (by decide) ?_
    exact hret _ _ _ _ _ _ dX3_takes_21 (by simp [bI, rTkB, c_5]) (by simp [rTkP, c_5, est_17, est_1, sI_sI]) N
  · refine lv_iconst (v := 0) hx hb dX3_takes_8 (by decide) ?_
    exact hret _ _ _ _ _ _ dX3_takes_9 (by simp [bI, rTkB, c_5]) (by simp [rTkP, c_5, est_1, sI_sI]) N
set_option maxHeartbeats 4000000 in
set_option maxRecDepth 100000 in
theorem c_X3_readPlace (l : Launch) (G : GM) (ad : Nat → Nat) (ex : va_W) (st : ST) (f : Nat → Int32) (L : Nat) (P : Nat) (hf : st.2.1 0 = f) (hL : st.1 3 = nI L) (hL2 : L ≤ 60) (hP : st.1 4 = nI P) (hP2 : P ≤ L) : XXi l G yX3_readPlace cX3_readPlace 4 (some .int) 3 [.ref (ad 2)] ad ex st ((rPl f L P).1) (sI st 4 (nI (rPl f L P).2)) := by
  refine xi_start (by decide) rfl (Nat.le_of_ble_eq_true rfl) ?_
  intro zp ze zs zm zargs zbelow zmeth zc zQ ls F N hl hret
  have hx := F.1
  have hb := F.2.1
  have hl : lv_has ls 4 [(0, .ref (ad 2))] := hl
  refine lv_aload_n hx hb dX3_readPlace_0 rfl (lv_at hl 0 rfl) ?_
  refine lv_bipush (v := 36) hx hb dX3_readPlace_1 (by decide) ?_
  refine xV_i F N (c_X3_takes l G ad ex st 36 f L P (by simp [sI_1, sI_2, sA_1, sA_21, sA_22, hf]) (by simp [sI_1, sI_2, sA_1, sA_21, sA_22, hL]) hL2 (by simp [sI_1, sI_2, sA_1, sA_21, sA_22, hP]) hP2) miX3_takes k_291 (by decide) hl.1 rfl (Nat.le_of_ble_eq_true rfl) (q0 := 2) (ci := 3) rfl rfl dX3_readPlace_3 (fun st_3 est_3 H locs N => ?_)
  refine ifB_eq (tgt := 13) hx hb dX3_readPlace_6 (by decide) (fun c_6 => ?_) (fun c_6 => ?_)
  · refine lv_iconst (v := 0) hx hb dX3_readPlace_13 (by decide) ?_
    refine lv_istore_n (lv' := [(1, .int 0), (0, .ref (ad 2))]) hx hb dX3_readPlace_14 rfl hl (by decide) rfl (fun ls hl => ?_)
    refine lv_aload_n hx hb dX3_readPlace_15 rfl (lv_at hl 1 rfl) ?_
    refine xV_i F N (c_X3_next l G ad ex st_3 f L (rTkP f L P 36) (by simp [est_3, sI_1, sI_2, sA_1, sA_21, sA_22, hf]) (by simp [est_3, sI_1, sI_2, sA_1, sA_21, sA_22, hL]) hL2 (by simp [est_3, sI_1, sI_2, sA_1, sA_21, sA_22, hP]) (rTkP_le hP2 (by decide))) miX3_next k_273 (by decide) hl.1 rfl (Nat.le_of_ble_eq_true rfl) (q0 := 2) (ci := 3) rfl rfl dX3_readPlace_16 (fun st_16 est_16 H locs N => ?_)
    refine cS_i F N (c_X3_columnNamed l G _ (rCh f L (rTkP f L P 36))) miX3_columnNamed k_303 (by decide) hl.1 rfl (Nat.le_of_ble_eq_true rfl) dX3_readPlace_19 (fun H locs N => ?_)
    refine lv_istore_n (lv' := [(2, .int (rCol (rCh f L (rTkP f L P 36)))), (1, .int 0), (0, .ref (ad 2))]) hx hb dX3_readPlace_22 rfl hl (by decide) rfl (fun ls hl => ?_)
    refine lv_iload_n hx hb dX3_readPlace_23 rfl (lv_at hl 0 rfl) ?_
    refine lv_iconst (v := (-1)) hx hb dX3_readPlace_24 (by decide) ?_
    refine lv_icmp_ne (tgt := 30) hx hb dX3_readPlace_25 (by decide) (fun c_25 => ?_) (fun c_25 => ?_)
    · refine lv_aload_n hx hb dX3_readPlace_30 rfl (lv_at hl 2 rfl) ?_
      refine lv_dup hx hb dX3_readPlace_31 rfl ?_
      refine gx_2_place F N k_108 dX3_readPlace_32 ?_
      refine toN (a := rNx f L (rTkP f L P 36)) (by simp [est_16, est_3, sI_1, sI_2, sA_1, sA_21, sA_22]) ?_
      refine lv_iconst (v := 1) hx hb dX3_readPlace_35 (by decide) ?_
      refine iaddN (a := (rNx f L (rTkP f L P 36))) (b := 1) hx hb dX3_readPlace_36 ?_
      refine px_2_place F N k_108 dX3_readPlace_37 (fun st_37 est_37 H locs N => ?_)
      refine lv_iload_n hx hb dX3_readPlace_40 rfl (lv_at hl 1 rfl) ?_
      refine lv_aload_n hx hb dX3_readPlace_41 rfl (lv_at hl 2 rfl) ?_
      refine lv_bipush (v := 36) hx hb dX3_readPlace_42 (by decide) ?_
      refine xV_i F N (c_X3_takes l G ad ex st_37 36 f L (rNx f L (rTkP f L P 36) + 1) (by simp [est_37, est_16, est_3, sI_1, sI_2, sA_1, sA_21, sA_22, hf]) (by simp [est_37, est_16, est_3, sI_1, sI_2, sA_1, sA_21, sA_22, hL]) hL2 (by simp [est_37, est_16, est_3, sI_1, sI_2, sA_1, sA_21, sA_22, hP]) (rCol_lt c_25)) miX3_takes k_291 (by decide) hl.1 rfl (Nat.le_of_ble_eq_true rfl) (q0 := 2) (ci := 3) rfl rfl dX3_readPlace_44 (fun st_44 est_44 H locs N => ?_)
      refine ifB_eq (tgt := 54) hx hb dX3_readPlace_47 (by decide) (fun c_47 => ?_) (fun c_47 => ?_)
      · refine lv_iconst (v := 0) hx hb dX3_readPlace_54 (by decide) ?_
        refine lv_iadd hx hb dX3_readPlace_55 ?_
        refine toI (y := 0) (by decide) ?_
        refine lv_istore_n (lv' := [(1, .int 0), (2, .int (rCol (rCh f L (rTkP f L P 36)))), (0, .ref (ad 2))]) hx hb dX3_readPlace_56 rfl hl (by decide) rfl (fun ls hl => ?_)
        refine lv_aload_n hx hb dX3_readPlace_57 rfl (lv_at hl 2 rfl) ?_
        refine xV_i F N (c_X3_next l G ad ex st_44 f L (rTkP f L (rNx f L (rTkP f L P 36) + 1) 36) (by simp [est_44, est_37, est_16, est_3, sI_1, sI_2, sA_1, sA_21, sA_22, hf]) (by simp [est_44, est_37, est_16, est_3, sI_1, sI_2, sA_1, sA_21, sA_22, hL]) hL2 (by simp [est_44, est_37, est_16, est_3, sI_1, sI_2, sA_1, sA_21, sA_22, hP]) (rTkP_le (rCol_lt c_25) (by decide))) miX3_next k_273 (by decide) hl.1 rfl (Nat.le_of_ble_eq_true rfl) (q0 := 2) (ci := 3) rfl rfl dX3_readPlace_58 (fun st_58 est_58 H locs N => ?_)
        refine lv_bipush (v := 49) hx hb dX3_readPlace_61 (by decide) ?_
        refine lv_isub hx hb dX3_readPlace_63 ?_
        refine lv_istore_n (lv' := [(3, .int ((rCh f L (rTkP f L (rNx f L (rTkP f L P 36) + 1) 36)) - (49 : Int32))), (1, .int 0), (2, .int (rCol (rCh f L (rTkP f L P 36)))), (0, .ref (ad 2))]) hx hb dX3_readPlace_64 rfl hl (by decide) rfl (fun ls hl => ?_)
        refine lv_iload_n hx hb dX3_readPlace_65 rfl (lv_at hl 0 rfl) ?_
        refine lv_iconst (v := 0) hx hb dX3_readPlace_66 (by decide) ?_
        refine lv_iconst (v := 5) hx hb dX3_readPlace_67 (by decide) ?_
        refine cN_i F N (c_X8_isWithin l G _ ((rCh f L (rTkP f L (rNx f L (rTkP f L P 36) + 1) 36)) - (49 : Int32)) 0 5) miX8_isWithin k_306 (by decide) hl.1 rfl (Nat.le_of_ble_eq_true rfl) dX3_readPlace_68 (fun H locs N => ?_)
        refine ifB_ne (tgt := 76) hx hb dX3_readPlace_71 (by decide) (fun c_71 => ?_) (fun c_71 => ?_)
        · refine lv_aload_n hx hb dX3_readPlace_76 rfl (lv_at hl 3 rfl) ?_
          refine lv_dup hx hb dX3_readPlace_77 rfl ?_
          refine gx_2_place F N k_108 dX3_readPlace_78 ?_
          refine toN (a := rNx f L (rTkP f L (rNx f L (rTkP f L P 36) + 1) 36)) (by simp [est_58, est_44, est_37, est_16, est_3, sI_1, sI_2, sA_1, sA_21, sA_22]) ?_
          refine lv_iconst (v := 1) hx hb dX3_readPlace_81 (by decide) ?_
          refine iaddN (a := (rNx f L (rTkP f L (rNx f L (rTkP f L P 36) + 1) 36))) (b := 1) hx hb dX3_readPlace_82 ?_
          refine px_2_place F N k_108 dX3_readPlace_83 (fun st_83 est_83 H locs N => ?_)
          refine lv_iload_n hx hb dX3_readPlace_86 rfl (lv_at hl 2 rfl) ?_
          refine lv_iload_n hx hb dX3_readPlace_87 rfl (lv_at hl 0 rfl) ?_
          refine lv_iload_n hx hb dX3_readPlace_88 rfl (lv_at hl 1 rfl) ?_
          refine cS_i F N (c_X5_ofPlace l G _ (rCol (rCh f L (rTkP f L P 36))) ((rCh f L (rTkP f L (rNx f L (rTkP f L P 36) + 1) 36)) - (49 : Int32)) 0) miX5_ofPlace k_307 (by decide) hl.1 rfl (Nat.le_of_ble_eq_true rfl) dX3_readPlace_89 (fun H locs N => ?_)
          exact hret _ _ _ _ _ _ dX3_readPlace_92 (by simp [rPl, c_6, c_25, c_47, c_71]) (by simp [rPl, c_6, c_25, c_47, c_71, est_83, est_58, est_44, est_37, est_16, est_3, sI_sI]) N
        · refine lv_iconst (v := 0) hx hb dX3_readPlace_74 (by decide) ?_
          exact hret _ _ _ _ _ _ dX3_readPlace_75 (by simp [rPl, c_6, c_25, c_47, c_71]) (by simp [rPl, c_6, c_25, c_47, c_71, est_58, est_44, est_37, est_16, est_3, sI_sI]) N
      · refine lv_iconst (v := 2) hx hb dX3_readPlace_50 (by decide) ?_
        refine lv_goto (tgt := 55) hx hb dX3_readPlace_51 (by decide) ?_
        refine lv_iadd hx hb dX3_readPlace_55 ?_
        refine toI (y := 2) (by decide) ?_
        refine lv_istore_n (lv' := [(1, .int 2), (2, .int (rCol (rCh f L (rTkP f L P 36)))), (0, .ref (ad 2))]) hx hb dX3_readPlace_56 rfl hl (by decide) rfl (fun ls hl => ?_)
        refine lv_aload_n hx hb dX3_readPlace_57 rfl (lv_at hl 2 rfl) ?_
        refine xV_i F N (c_X3_next l G ad ex st_44 f L (rTkP f L (rNx f L (rTkP f L P 36) + 1) 36) (by simp [est_44, est_37, est_16, est_3, sI_1, sI_2, sA_1, sA_21, sA_22, hf]) (by simp [est_44, est_37, est_16, est_3, sI_1, sI_2, sA_1, sA_21, sA_22, hL]) hL2 (by simp [est_44, est_37, est_16, est_3, sI_1, sI_2, sA_1, sA_21, sA_22, hP]) (rTkP_le (rCol_lt c_25) (by decide))) miX3_next k_273 (by decide) hl.1 rfl (Nat.le_of_ble_eq_true rfl) (q0 := 2) (ci := 3) rfl rfl dX3_readPlace_58 (fun st_58 est_58 H locs N => ?_)
        refine lv_bipush (v := 49) hx hb dX3_readPlace_61 (by decide) ?_
        refine lv_isub hx hb dX3_readPlace_63 ?_
        refine lv_istore_n (lv' := [(3, .int ((rCh f L (rTkP f L (rNx f L (rTkP f L P 36) + 1) 36)) - (49 : Int32))), (1, .int 2), (2, .int (rCol (rCh f L (rTkP f L P 36)))), (0, .ref (ad 2))]) hx hb dX3_readPlace_64 rfl hl (by decide) rfl (fun ls hl => ?_)
        refine lv_iload_n hx hb dX3_readPlace_65 rfl (lv_at hl 0 rfl) ?_
        refine lv_iconst (v := 0) hx hb dX3_readPlace_66 (by decide) ?_
        refine lv_iconst (v := 5) hx hb dX3_readPlace_67 (by decide) ?_
        refine cN_i F N (c_X8_isWithin l G _ ((rCh f L (rTkP f L (rNx f L (rTkP f L P 36) + 1) 36)) - (49 : Int32)) 0 5) miX8_isWithin k_306 (by decide) hl.1 rfl (Nat.le_of_ble_eq_true rfl) dX3_readPlace_68 (fun H locs N => ?_)
        refine ifB_ne (tgt := 76) hx hb dX3_readPlace_71 (by decide) (fun c_71 => ?_) (fun c_71 => ?_)
        · refine lv_aload_n hx hb dX3_readPlace_76 rfl (lv_at hl 3 rfl) ?_
          refine lv_dup hx hb dX3_readPlace_77 rfl ?_
          refine gx_2_place F N k_108 dX3_readPlace_78 ?_
          refine toN (a := rNx f L (rTkP f L (rNx f L (rTkP f L P 36) + 1) 36)) (by simp [est_58, est_44, est_37, est_16, est_3, sI_1, sI_2, sA_1, sA_21, sA_22]) ?_
          refine lv_iconst (v := 1) hx hb dX3_readPlace_81 (by decide) ?_
          refine iaddN (a := (rNx f L (rTkP f L (rNx f L (rTkP f L P 36) + 1) 36))) (b := 1) hx hb dX3_readPlace_82 ?_
          refine px_2_place F N k_108 dX3_readPlace_83 (fun st_83 est_83 H locs N => ?_)
          refine lv_iload_n hx hb dX3_readPlace_86 rfl (lv_at hl 2 rfl) ?_
          refine lv_iload_n hx hb dX3_readPlace_87 rfl (lv_at hl 0 rfl) ?_
          refine lv_iload_n hx hb dX3_readPlace_88 rfl (lv_at hl 1 rfl) ?_
          refine cS_i F N (c_X5_ofPlace l G _ (rCol (rCh f L (rTkP f L P 36))) ((rCh f L (rTkP f L (rNx f L (rTkP f L P 36) + 1) 36)) - (49 : Int32)) 2) miX5_ofPlace k_307 (by decide) hl.1 rfl (Nat.le_of_ble_eq_true rfl) dX3_readPlace_89 (fun H locs N => ?_)
          exact hret _ _ _ _ _ _ dX3_readPlace_92 (by simp [rPl, c_6, c_25, c_47, c_71]) (by simp [rPl, c_6, c_25, c_47, c_71, est_83, est_58, est_44, est_37, est_16, est_3, sI_sI]) N
        · refine lv_iconst (v := 0) hx hb dX3_readPlace_74 (by decide) ?_
          exact hret _ _ _ _ _ _ dX3_readPlace_75 (by simp [rPl, c_6, c_25, c_47, c_71]) (by simp [rPl, c_6, c_25, c_47, c_71, est_58, est_44, est_37, est_16, est_3, sI_sI]) N
    · refine lv_iconst (v := 0) hx hb dX3_readPlace_28 (by decide) ?_
      exact hret _ _ _ _ _ _ dX3_readPlace_29 (by simp [rPl, c_6, c_25]) (by simp [rPl, c_6, c_25, est_16, est_3, sI_sI]) N
  · refine lv_iconst (v := 1) hx hb dX3_readPlace_9 (by decide) ?_
    refine lv_goto (tgt := 14) hx hb dX3_readPlace_10 (by decide) ?_
    refine lv_istore_n (lv' := [(1, .int 1), (0, .ref (ad 2))]) hx hb dX3_readPlace_14 rfl hl (by decide) rfl (fun ls hl => ?_)
    refine lv_aload_n hx hb dX3_readPlace_15 rfl (lv_at hl 1 rfl) ?_
    refine xV_i F N (c_X3_next l G ad ex st_3 f L (rTkP f L P 36) (by simp [est_3, sI_1, sI_2, sA_1, sA_21, sA_22, hf]) (by simp [est_3, sI_1, sI_2, sA_1, sA_21, sA_22, hL]) hL2 (by simp [est_3, sI_1, sI_2, sA_1, sA_21, sA_22, hP]) (rTkP_le hP2 (by decide))) miX3_next k_273 (by decide) hl.1 rfl (Nat.le_of_ble_eq_true rfl) (q0 := 2) (ci := 3) rfl rfl dX3_readPlace_16 (fun st_16 est_16 H locs N => ?_)
    refine cS_i F N (c_X3_columnNamed l G _ (rCh f L (rTkP f L P 36))) miX3_columnNamed k_303 (by decide) hl.1 rfl (Nat.le_of_ble_eq_true rfl) dX3_readPlace_19 (fun H locs N => ?_)
    refine lv_istore_n (lv' := [(2, .int (rCol (rCh f L (rTkP f L P 36)))), (1, .int 1), (0, .ref (ad 2))]) hx hb dX3_readPlace_22 rfl hl (by decide) rfl (fun ls hl => ?_)
    refine lv_iload_n hx hb dX3_readPlace_23 rfl (lv_at hl 0 rfl) ?_
    refine lv_iconst (v := (-1)) hx hb dX3_readPlace_24 (by decide) ?_
    refine lv_icmp_ne (tgt := 30) hx hb dX3_readPlace_25 (by decide) (fun c_25 => ?_) (fun c_25 => ?_)
    · refine lv_aload_n hx hb dX3_readPlace_30 rfl (lv_at hl 2 rfl) ?_
      refine lv_dup hx hb dX3_readPlace_31 rfl ?_
      refine gx_2_place F N k_108 dX3_readPlace_32 ?_
      refine toN (a := rNx f L (rTkP f L P 36)) (by simp [est_16, est_3, sI_1, sI_2, sA_1, sA_21, sA_22]) ?_
      refine lv_iconst (v := 1) hx hb dX3_readPlace_35 (by decide) ?_
      refine iaddN (a := (rNx f L (rTkP f L P 36))) (b := 1) hx hb dX3_readPlace_36 ?_
      refine px_2_place F N k_108 dX3_readPlace_37 (fun st_37 est_37 H locs N => ?_)
      refine lv_iload_n hx hb dX3_readPlace_40 rfl (lv_at hl 1 rfl) ?_
      refine lv_aload_n hx hb dX3_readPlace_41 rfl (lv_at hl 2 rfl) ?_
      refine lv_bipush (v := 36) hx hb dX3_readPlace_42 (by decide) ?_
      refine xV_i F N (c_X3_takes l G ad ex st_37 36 f L (rNx f L (rTkP f L P 36) + 1) (by simp [est_37, est_16, est_3, sI_1, sI_2, sA_1, sA_21, sA_22, hf]) (by simp [est_37, est_16, est_3, sI_1, sI_2, sA_1, sA_21, sA_22, hL]) hL2 (by simp [est_37, est_16, est_3, sI_1, sI_2, sA_1, sA_21, sA_22, hP]) (rCol_lt c_25)) miX3_takes k_291 (by decide) hl.1 rfl (Nat.le_of_ble_eq_true rfl) (q0 := 2) (ci := 3) rfl rfl dX3_readPlace_44 (fun st_44 est_44 H locs N => ?_)
      refine ifB_eq (tgt := 54) hx hb dX3_readPlace_47 (by decide) (fun c_47 => ?_) (fun c_47 => ?_)
      · refine lv_iconst (v := 0) hx hb dX3_readPlace_54 (by decide) ?_
        refine lv_iadd hx hb dX3_readPlace_55 ?_
        refine toI (y := 1) (by decide) ?_
        refine lv_istore_n (lv' := [(1, .int 1), (2, .int (rCol (rCh f L (rTkP f L P 36)))), (0, .ref (ad 2))]) hx hb dX3_readPlace_56 rfl hl (by decide) rfl (fun ls hl => ?_)
        refine lv_aload_n hx hb dX3_readPlace_57 rfl (lv_at hl 2 rfl) ?_
        refine xV_i F N (c_X3_next l G ad ex st_44 f L (rTkP f L (rNx f L (rTkP f L P 36) + 1) 36) (by simp [est_44, est_37, est_16, est_3, sI_1, sI_2, sA_1, sA_21, sA_22, hf]) (by simp [est_44, est_37, est_16, est_3, sI_1, sI_2, sA_1, sA_21, sA_22, hL]) hL2 (by simp [est_44, est_37, est_16, est_3, sI_1, sI_2, sA_1, sA_21, sA_22, hP]) (rTkP_le (rCol_lt c_25) (by decide))) miX3_next k_273 (by decide) hl.1 rfl (Nat.le_of_ble_eq_true rfl) (q0 := 2) (ci := 3) rfl rfl dX3_readPlace_58 (fun st_58 est_58 H locs N => ?_)
        refine lv_bipush (v := 49) hx hb dX3_readPlace_61 (by decide) ?_
        refine lv_isub hx hb dX3_readPlace_63 ?_
        refine lv_istore_n (lv' := [(3, .int ((rCh f L (rTkP f L (rNx f L (rTkP f L P 36) + 1) 36)) - (49 : Int32))), (1, .int 1), (2, .int (rCol (rCh f L (rTkP f L P 36)))), (0, .ref (ad 2))]) hx hb dX3_readPlace_64 rfl hl (by decide) rfl (fun ls hl => ?_)
        refine lv_iload_n hx hb dX3_readPlace_65 rfl (lv_at hl 0 rfl) ?_
        refine lv_iconst (v := 0) hx hb dX3_readPlace_66 (by decide) ?_
        refine lv_iconst (v := 5) hx hb dX3_readPlace_67 (by decide) ?_
        refine cN_i F N (c_X8_isWithin l G _ ((rCh f L (rTkP f L (rNx f L (rTkP f L P 36) + 1) 36)) - (49 : Int32)) 0 5) miX8_isWithin k_306 (by decide) hl.1 rfl (Nat.le_of_ble_eq_true rfl) dX3_readPlace_68 (fun H locs N => ?_)
        refine ifB_ne (tgt := 76) hx hb dX3_readPlace_71 (by decide) (fun c_71 => ?_) (fun c_71 => ?_)
        · refine lv_aload_n hx hb dX3_readPlace_76 rfl (lv_at hl 3 rfl) ?_
          refine lv_dup hx hb dX3_readPlace_77 rfl ?_
          refine gx_2_place F N k_108 dX3_readPlace_78 ?_
          refine toN (a := rNx f L (rTkP f L (rNx f L (rTkP f L P 36) + 1) 36)) (by simp [est_58, est_44, est_37, est_16, est_3, sI_1, sI_2, sA_1, sA_21, sA_22]) ?_
          refine lv_iconst (v := 1) hx hb dX3_readPlace_81 (by decide) ?_
          refine iaddN (a := (rNx f L (rTkP f L (rNx f L (rTkP f L P 36) + 1) 36))) (b := 1) hx hb dX3_readPlace_82 ?_
          refine px_2_place F N k_108 dX3_readPlace_83 (fun st_83 est_83 H locs N => ?_)
          refine lv_iload_n hx hb dX3_readPlace_86 rfl (lv_at hl 2 rfl) ?_
          refine lv_iload_n hx hb dX3_readPlace_87 rfl (lv_at hl 0 rfl) ?_
          refine lv_iload_n hx hb dX3_readPlace_88 rfl (lv_at hl 1 rfl) ?_
          refine cS_i F N (c_X5_ofPlace l G _ (rCol (rCh f L (rTkP f L P 36))) ((rCh f L (rTkP f L (rNx f L (rTkP f L P 36) + 1) 36)) - (49 : Int32)) 1) miX5_ofPlace k_307 (by decide) hl.1 rfl (Nat.le_of_ble_eq_true rfl) dX3_readPlace_89 (fun H locs N => ?_)
          exact hret _ _ _ _ _ _ dX3_readPlace_92 (by simp [rPl, c_6, c_25, c_47, c_71]) (by simp [rPl, c_6, c_25, c_47, c_71, est_83, est_58, est_44, est_37, est_16, est_3, sI_sI]) N
        · refine lv_iconst (v := 0) hx hb dX3_readPlace_74 (by decide) ?_
          exact hret _ _ _ _ _ _ dX3_readPlace_75 (by simp [rPl, c_6, c_25, c_47, c_71]) (by simp [rPl, c_6, c_25, c_47, c_71, est_58, est_44, est_37, est_16, est_3, sI_sI]) N
      · refine lv_iconst (v := 2) hx hb dX3_readPlace_50 (by decide) ?_
        refine lv_goto (tgt := 55) hx hb dX3_readPlace_51 (by decide) ?_
        refine lv_iadd hx hb dX3_readPlace_55 ?_
        refine toI (y := 3) (by decide) ?_
        refine lv_istore_n (lv' := [(1, .int 3), (2, .int (rCol (rCh f L (rTkP f L P 36)))), (0, .ref (ad 2))]) hx hb dX3_readPlace_56 rfl hl (by decide) rfl (fun ls hl => ?_)
        refine lv_aload_n hx hb dX3_readPlace_57 rfl (lv_at hl 2 rfl) ?_
        refine xV_i F N (c_X3_next l G ad ex st_44 f L (rTkP f L (rNx f L (rTkP f L P 36) + 1) 36) (by simp [est_44, est_37, est_16, est_3, sI_1, sI_2, sA_1, sA_21, sA_22, hf]) (by simp [est_44, est_37, est_16, est_3, sI_1, sI_2, sA_1, sA_21, sA_22, hL]) hL2 (by simp [est_44, est_37, est_16, est_3, sI_1, sI_2, sA_1, sA_21, sA_22, hP]) (rTkP_le (rCol_lt c_25) (by decide))) miX3_next k_273 (by decide) hl.1 rfl (Nat.le_of_ble_eq_true rfl) (q0 := 2) (ci := 3) rfl rfl dX3_readPlace_58 (fun st_58 est_58 H locs N => ?_)
        refine lv_bipush (v := 49) hx hb dX3_readPlace_61 (by decide) ?_
        refine lv_isub hx hb dX3_readPlace_63 ?_
        refine lv_istore_n (lv' := [(3, .int ((rCh f L (rTkP f L (rNx f L (rTkP f L P 36) + 1) 36)) - (49 : Int32))), (1, .int 3), (2, .int (rCol (rCh f L (rTkP f L P 36)))), (0, .ref (ad 2))]) hx hb dX3_readPlace_64 rfl hl (by decide) rfl (fun ls hl => ?_)
        refine lv_iload_n hx hb dX3_readPlace_65 rfl (lv_at hl 0 rfl) ?_
        refine lv_iconst (v := 0) hx hb dX3_readPlace_66 (by decide) ?_
        refine lv_iconst (v := 5) hx hb dX3_readPlace_67 (by decide) ?_
        refine cN_i F N (c_X8_isWithin l G _ ((rCh f L (rTkP f L (rNx f L (rTkP f L P 36) + 1) 36)) - (49 : Int32)) 0 5) miX8_isWithin k_306 (by decide) hl.1 rfl (Nat.le_of_ble_eq_true rfl) dX3_readPlace_68 (fun H locs N => ?_)
        refine ifB_ne (tgt := 76) hx hb dX3_readPlace_71 (by decide) (fun c_71 => ?_) (fun c_71 => ?_)
        · refine lv_aload_n hx hb dX3_readPlace_76 rfl (lv_at hl 3 rfl) ?_
          refine lv_dup hx hb dX3_readPlace_77 rfl ?_
          refine gx_2_place F N k_108 dX3_readPlace_78 ?_
          refine toN (a := rNx f L (rTkP f L (rNx f L (rTkP f L P 36) + 1) 36)) (by simp [est_58, est_44, est_37, est_16, est_3, sI_1, sI_2, sA_1, sA_21, sA_22]) ?_
          refine lv_iconst (v := 1) hx hb dX3_readPlace_81 (by decide) ?_
          refine iaddN (a := (rNx f L (rTkP f L (rNx f L (rTkP f L P 36) + 1) 36))) (b := 1) hx hb dX3_readPlace_82 ?_
          refine px_2_place F N k_108 dX3_readPlace_83 (fun st_83 est_83 H locs N => ?_)
          refine lv_iload_n hx hb dX3_readPlace_86 rfl (lv_at hl 2 rfl) ?_
          refine lv_iload_n hx hb dX3_readPlace_87 rfl (lv_at hl 0 rfl) ?_
          refine lv_iload_n hx hb dX3_readPlace_88 rfl (lv_at hl 1 rfl) ?_
          refine cS_i F N (c_X5_ofPlace l G _ (rCol (rCh f L (rTkP f L P 36))) ((rCh f L (rTkP f L (rNx f L (rTkP f L P 36) + 1) 36)) - (49 : Int32)) 3) miX5_ofPlace k_307 (by decide) hl.1 rfl (Nat.le_of_ble_eq_true rfl) dX3_readPlace_89 (fun H locs N => ?_)
          exact hret _ _ _ _ _ _ dX3_readPlace_92 (by simp [rPl, c_6, c_25, c_47, c_71]) (by simp [rPl, c_6, c_25, c_47, c_71, est_83, est_58, est_44, est_37, est_16, est_3, sI_sI]) N
        · refine lv_iconst (v := 0) hx hb dX3_readPlace_74 (by decide) ?_
          exact hret _ _ _ _ _ _ dX3_readPlace_75 (by simp [rPl, c_6, c_25, c_47, c_71]) (by simp [rPl, c_6, c_25, c_47, c_71, est_58, est_44, est_37, est_16, est_3, sI_sI]) N
    · refine lv_iconst (v := 0) hx hb dX3_readPlace_28 (by decide) ?_
      exact hret _ _ _ _ _ _ dX3_readPlace_29 (by simp [rPl, c_6, c_25]) (by simp [rPl, c_6, c_25, est_16, est_3, sI_sI]) N
set_option maxHeartbeats 4000000 in
set_option maxRecDepth 100000 in
theorem c_X3_readReference (l : Launch) (G : GM) (ad : Nat → Nat) (ex : va_W) (st : ST) (f : Nat → Int32) (L : Nat) (P : Nat) (hf : st.2.1 0 = f) (hL : st.1 3 = nI L) (hL2 : L ≤ 60) (hP : st.1 4 = nI P) (hP2 : P ≤ L) : XXi l G yX3_readReference cX3_readReference 3 (some .int) 4 [.ref (ad 2)] ad ex st ((rRef f L P).1) (sI st 4 (nI (rRef f L P).2)) := by
  refine xi_start (by decide) rfl (Nat.le_of_ble_eq_true rfl) ?_
  intro zp ze zs zm zargs zbelow zmeth zc zQ ls F N hl hret
  have hx := F.1
  have hb := F.2.1
  have hl : lv_has ls 3 [(0, .ref (ad 2))] := hl
  refine lv_aload_n hx hb dX3_readReference_0 rfl (lv_at hl 0 rfl) ?_
  refine xV_i F N (c_X3_readPlace l G ad ex st f L P (by simp [sI_1, sI_2, sA_1, sA_21, sA_22, hf]) (by simp [sI_1, sI_2, sA_1, sA_21, sA_22, hL]) hL2 (by simp [sI_1, sI_2, sA_1, sA_21, sA_22, hP]) hP2) miX3_readPlace k_299 (by decide) hl.1 rfl (Nat.le_of_ble_eq_true rfl) (q0 := 2) (ci := 3) rfl rfl dX3_readReference_1 (fun st_1 est_1 H locs N => ?_)
  refine lv_istore_n (lv' := [(1, .int ((rPl f L P).1)), (0, .ref (ad 2))]) hx hb dX3_readReference_4 rfl hl (by decide) rfl (fun ls hl => ?_)
  refine lv_iload_n hx hb dX3_readReference_5 rfl (lv_at hl 0 rfl) ?_
  refine lv_if_eq (tgt := 18) hx hb dX3_readReference_6 (by decide) (fun c_6 => ?_) (fun c_6 => ?_)
  · refine lv_iload_n hx hb dX3_readReference_18 rfl (lv_at hl 0 rfl) ?_
    exact hret _ _ _ _ _ _ dX3_readReference_19 (by simp [rRef, c_6]) (by simp [rRef, c_6, est_1, sI_sI]) N
  · refine lv_aload_n hx hb dX3_readReference_9 rfl (lv_at hl 1 rfl) ?_
    refine lv_bipush (v := 58) hx hb dX3_readReference_10 (by decide) ?_
    refine xV_i F N (c_X3_takes l G ad ex st_1 58 f L ((rPl f L P).2) (by simp [est_1, sI_1, sI_2, sA_1, sA_21, sA_22, hf]) (by simp [est_1, sI_1, sI_2, sA_1, sA_21, sA_22, hL]) hL2 (by simp [est_1, sI_1, sI_2, sA_1, sA_21, sA_22, hP]) (rPl_le hP2)) miX3_takes k_291 (by decide) hl.1 rfl (Nat.le_of_ble_eq_true rfl) (q0 := 2) (ci := 3) rfl rfl dX3_readReference_12 (fun st_12 est_12 H locs N => ?_)
    refine ifB_ne (tgt := 20) hx hb dX3_readReference_15 (by decide) (fun c_15 => ?_) (fun c_15 => ?_)
    · refine lv_aload_n hx hb dX3_readReference_20 rfl (lv_at hl 1 rfl) ?_
      refine xV_i F N (c_X3_readPlace l G ad ex st_12 f L (rTkP f L (rPl f L P).2 58) (by simp [est_12, est_1, sI_1, sI_2, sA_1, sA_21, sA_22, hf]) (by simp [est_12, est_1, sI_1, sI_2, sA_1, sA_21, sA_22, hL]) hL2 (by simp [est_12, est_1, sI_1, sI_2, sA_1, sA_21, sA_22, hP]) (rTkP_le (rPl_le hP2) (by decide))) miX3_readPlace k_299 (by decide) hl.1 rfl (Nat.le_of_ble_eq_true rfl) (q0 := 2) (ci := 3) rfl rfl dX3_readReference_21 (fun st_21 est_21 H locs N => ?_)
      refine lv_istore_n (lv' := [(2, .int ((rPl f L (rTkP f L (rPl f L P).2 58)).1)), (1, .int ((rPl f L P).1)), (0, .ref (ad 2))]) hx hb dX3_readReference_24 rfl hl (by decide) rfl (fun ls hl => ?_)
      refine lv_iload_n hx hb dX3_readReference_25 rfl (lv_at hl 0 rfl) ?_
      refine lv_if_ne (tgt := 33) hx hb dX3_readReference_26 (by decide) (fun c_26 => ?_) (fun c_26 => ?_)
      · refine lv_iload_n hx hb dX3_readReference_33 rfl (lv_at hl 1 rfl) ?_
        refine lv_iload_n hx hb dX3_readReference_34 rfl (lv_at hl 0 rfl) ?_
        refine cS_i F N (c_X5_ofBlock l G _ ((rPl f L P).1) ((rPl f L (rTkP f L (rPl f L P).2 58)).1)) miX5_ofBlock k_313 (by decide) hl.1 rfl (Nat.le_of_ble_eq_true rfl) dX3_readReference_35 (fun H locs N => ?_)
        exact hret _ _ _ _ _ _ dX3_readReference_38 (by simp [rRef, c_6, c_15, c_26]) (by simp [rRef, c_6, c_15, c_26, est_21, est_12, est_1, sI_sI]) N
      · refine lv_iconst (v := 0) hx hb dX3_readReference_29 (by decide) ?_
        refine lv_goto (tgt := 38) hx hb dX3_readReference_30 (by decide) ?_
        exact hret _ _ _ _ _ _ dX3_readReference_38 (by simp [rRef, c_6, c_15, c_26]) (by simp [rRef, c_6, c_15, c_26, est_21, est_12, est_1, sI_sI]) N
    · refine lv_iload_n hx hb dX3_readReference_18 rfl (lv_at hl 0 rfl) ?_
      exact hret _ _ _ _ _ _ dX3_readReference_19 (by simp [rRef, c_6, c_15]) (by simp [rRef, c_6, c_15, est_12, est_1, sI_sI]) N
set_option maxHeartbeats 4000000 in
set_option maxRecDepth 100000 in
theorem c_X3_readNumber (l : Launch) (G : GM) (ad : Nat → Nat) (ex : va_W) (st : ST) (f : Nat → Int32) (L : Nat) (P : Nat) (hf : st.2.1 0 = f) (hL : st.1 3 = nI L) (hL2 : L ≤ 60) (hP : st.1 4 = nI P) (hP2 : P ≤ L) : XXi l G yX3_readNumber cX3_readNumber 3 (some .int) 1 [.ref (ad 2)] ad ex st (tOfNum (rNumL f L 3 P 0).1) (sI st 4 (nI (rNumL f L 3 P 0).2)) := by
  refine xi_start (by decide) rfl (Nat.le_of_ble_eq_true rfl) ?_
  intro zp ze zs zm zargs zbelow zmeth zc zQ ls F N hl hret
  have hx := F.1
  have hb := F.2.1
  have hl : lv_has ls 3 [(0, .ref (ad 2))] := hl
  refine lv_iconst (v := 0) hx hb dX3_readNumber_0 (by decide) ?_
  refine lv_istore_n (lv' := [(1, .int 0), (0, .ref (ad 2))]) hx hb dX3_readNumber_1 rfl hl (by decide) rfl (fun ls hl => ?_)
  refine lv_iconst (v := 0) hx hb dX3_readNumber_2 (by decide) ?_
  refine lv_istore_n (lv' := [(2, .int 0), (1, .int 0), (0, .ref (ad 2))]) hx hb dX3_readNumber_3 rfl hl (by decide) rfl (fun ls hl => ?_)
  have cut_4 : ∀ (k : Nat) (v : Int32) (i : Nat) (q : Nat) (s1 : ST), i + k = 3 → s1 = sI st 4 (nI q) → q ≤ L → rNumL f L k q v = rNumL f L 3 P 0 → ∀ (H : Heap) (locs : List Loc) (ls : Array Slot), Now G zs (XW G ad s1 ++ ex) H locs → lv_has ls 3 [(0, .ref (ad 2)), (1, .int v), (2, .int (nI i))] → W zp l ze (RM 1) zs zm zargs zbelow zmeth zc H locs 0 0 zQ (F0 zm 4 ls []) := by
    intro k
    induction k with
    | zero =>
      intro v i q s1 hk hs hq hI H locs ls N hl
      refine lv_iload_n hx hb dX3_readNumber_4 rfl (lv_at hl 2 rfl) ?_
      refine lv_iconst (v := 3) hx hb dX3_readNumber_5 (by decide) ?_
      refine cmpN_ge (a := i) (b := 3) (tgt := 62) hx hb dX3_readNumber_6 (by decide) (by omega) (by omega) (fun c_6 => ?_) (fun c_6 => ?_)
      · have c_6v := Nat.not_lt.mpr c_6
        refine lv_iload_n hx hb dX3_readNumber_62 rfl (lv_at hl 1 rfl) ?_
        refine cS_i F N (c_X5_ofNumber l G _ v) miX5_ofNumber k_288 (by decide) hl.1 rfl (Nat.le_of_ble_eq_true rfl) dX3_readNumber_63 (fun H locs N => ?_)
        exact hret _ _ _ _ _ _ dX3_readNumber_66 (by rw [← hI]; simp [rNumL, c_6, c_6v]) (by rw [hs, ← hI]; simp [rNumL, c_6, c_6v]) N
      · exfalso; omega
    | succ k ih_4 =>
      intro v i q s1 hk hs hq hI H locs ls N hl
      refine lv_iload_n hx hb dX3_readNumber_4 rfl (lv_at hl 2 rfl) ?_
      refine lv_iconst (v := 3) hx hb dX3_readNumber_5 (by decide) ?_
      refine cmpN_ge (a := i) (b := 3) (tgt := 62) hx hb dX3_readNumber_6 (by decide) (by omega) (by omega) (fun c_6 => ?_) (fun c_6 => ?_)
      · exfalso; omega
      · have c_6v := Nat.not_le.mp c_6
        refine lv_aload_n hx hb dX3_readNumber_9 rfl (lv_at hl 0 rfl) ?_
        refine gx_2_text F N k_105 dX3_readNumber_10 ?_
        refine lv_aload_n hx hb dX3_readNumber_13 rfl (lv_at hl 0 rfl) ?_
        refine gx_2_place F N k_108 dX3_readNumber_14 ?_
        refine toN (a := q) (by rw [hs]; rfl) ?_
        refine cV_i F N (c_X6_byteAt l G ad ex s1 q f L (by simp [hs, sI_1, sI_2, sA_1, sA_21, sA_22, hf]) (by simp [hs, sI_1, sI_2, sA_1, sA_21, sA_22, hL]) hL2 (by omega)) miX6_byteAt k_277 (by decide) hl.1 rfl (Nat.le_of_ble_eq_true rfl) (q0 := 1) (ci := 5) rfl rfl dX3_readNumber_17 (fun H locs N => ?_)
        refine cS_i F N (c_X3_isFigure l G _ (rAt f L q)) miX3_isFigure k_281 (by decide) hl.1 rfl (Nat.le_of_ble_eq_true rfl) dX3_readNumber_20 (fun H locs N => ?_)
        refine ifB_eq (tgt := 62) hx hb dX3_readNumber_23 (by decide) (fun c_23 => ?_) (fun c_23 => ?_)
        · refine lv_iload_n hx hb dX3_readNumber_62 rfl (lv_at hl 1 rfl) ?_
          refine cS_i F N (c_X5_ofNumber l G _ v) miX5_ofNumber k_288 (by decide) hl.1 rfl (Nat.le_of_ble_eq_true rfl) dX3_readNumber_63 (fun H locs N => ?_)
          exact hret _ _ _ _ _ _ dX3_readNumber_66 (by rw [← hI]; simp [rNumL, c_6, c_6v, c_23]) (by rw [hs, ← hI]; simp [rNumL, c_6, c_6v, c_23]) N
        · refine lv_bipush (v := 10) hx hb dX3_readNumber_26 (by decide) ?_
          refine lv_iload_n hx hb dX3_readNumber_28 rfl (lv_at hl 1 rfl) ?_
          refine lv_imul hx hb dX3_readNumber_29 ?_
          refine lv_aload_n hx hb dX3_readNumber_30 rfl (lv_at hl 0 rfl) ?_
          refine gx_2_text F N k_105 dX3_readNumber_31 ?_
          refine lv_aload_n hx hb dX3_readNumber_34 rfl (lv_at hl 0 rfl) ?_
          refine gx_2_place F N k_108 dX3_readNumber_35 ?_
          refine toN (a := q) (by rw [hs]; rfl) ?_
          refine cV_i F N (c_X6_byteAt l G ad ex s1 q f L (by simp [hs, sI_1, sI_2, sA_1, sA_21, sA_22, hf]) (by simp [hs, sI_1, sI_2, sA_1, sA_21, sA_22, hL]) hL2 (by omega)) miX6_byteAt k_277 (by decide) hl.1 rfl (Nat.le_of_ble_eq_true rfl) (q0 := 1) (ci := 5) rfl rfl dX3_readNumber_38 (fun H locs N => ?_)
          refine lv_iadd hx hb dX3_readNumber_41 ?_
          refine lv_bipush (v := 48) hx hb dX3_readNumber_42 (by decide) ?_
          refine lv_isub hx hb dX3_readNumber_44 ?_
          refine lv_istore_n (lv' := [(1, .int ((((10 : Int32) * v) + (rAt f L q)) - (48 : Int32))), (0, .ref (ad 2)), (2, .int (nI i))]) hx hb dX3_readNumber_45 rfl hl (by decide) rfl (fun ls hl => ?_)
          refine lv_aload_n hx hb dX3_readNumber_46 rfl (lv_at hl 1 rfl) ?_
          refine lv_dup hx hb dX3_readNumber_47 rfl ?_
          refine gx_2_place F N k_108 dX3_readNumber_48 ?_
          refine toN (a := q) (by rw [hs]; rfl) ?_
          refine lv_iconst (v := 1) hx hb dX3_readNumber_51 (by decide) ?_
          refine iaddN (a := q) (b := 1) hx hb dX3_readNumber_52 ?_
          refine px_2_place F N k_108 dX3_readNumber_53 (fun st_53 est_53 H locs N => ?_)
          refine lv_iinc (v := (nI (i + 1))) (lv' := [(2, .int (nI (i + 1))), (1, .int ((((10 : Int32) * v) + (rAt f L q)) - (48 : Int32))), (0, .ref (ad 2))]) hx hb dX3_readNumber_56 hl (k := 2) rfl (nI_1 i) (by decide) rfl (fun ls hl => ?_)
          refine lv_goto (tgt := 4) hx hb dX3_readNumber_59 (by decide) ?_
          exact ih_4 ((((10 : Int32) * v) + (rAt f L q)) - (48 : Int32)) (i + 1) (q + 1) st_53 (by omega) (by rw [est_53, hs, sI_sI]) (rFig_lt c_23) (by rw [← hI]; simp [rNumL, c_6, c_6v, c_23]) _ _ _ N (lv_sub hl [2, 1, 0] rfl)
  exact cut_4 3 0 0 P st (by omega) (by rw [sI_self hP]) hP2 rfl _ _ _ N (lv_sub hl [2, 1, 0] rfl)
set_option maxHeartbeats 4000000 in
set_option maxRecDepth 100000 in
theorem c_X3_readTerm (l : Launch) (G : GM) (ad : Nat → Nat) (ex : va_W) (st : ST) (f : Nat → Int32) (L : Nat) (P : Nat) (hf : st.2.1 0 = f) (hL : st.1 3 = nI L) (hL2 : L ≤ 60) (hP : st.1 4 = nI P) (hP2 : P ≤ L) : XXi l G yX3_readTerm cX3_readTerm 1 (some .int) 5 [.ref (ad 2)] ad ex st ((rTerm f L P).1) (sI st 4 (nI (rTerm f L P).2)) := by
  refine xi_start (by decide) rfl (Nat.le_of_ble_eq_true rfl) ?_
  intro zp ze zs zm zargs zbelow zmeth zc zQ ls F N hl hret
  have hx := F.1
  have hb := F.2.1
  have hl : lv_has ls 1 [(0, .ref (ad 2))] := hl
  refine lv_aload_n hx hb dX3_readTerm_0 rfl (lv_at hl 0 rfl) ?_
  refine xV_i F N (c_X3_next l G ad ex st f L P (by simp [sI_1, sI_2, sA_1, sA_21, sA_22, hf]) (by simp [sI_1, sI_2, sA_1, sA_21, sA_22, hL]) hL2 (by simp [sI_1, sI_2, sA_1, sA_21, sA_22, hP]) hP2) miX3_next k_273 (by decide) hl.1 rfl (Nat.le_of_ble_eq_true rfl) (q0 := 2) (ci := 3) rfl rfl dX3_readTerm_1 (fun st_1 est_1 H locs N => ?_)
  refine cS_i F N (c_X3_isFigure l G _ (rCh f L P)) miX3_isFigure k_281 (by decide) hl.1 rfl (Nat.le_of_ble_eq_true rfl) dX3_readTerm_4 (fun H locs N => ?_)
  refine ifB_eq (tgt := 15) hx hb dX3_readTerm_7 (by decide) (fun c_7 => ?_) (fun c_7 => ?_)
  · refine lv_aload_n hx hb dX3_readTerm_15 rfl (lv_at hl 0 rfl) ?_
    refine lv_bipush (v := 35) hx hb dX3_readTerm_16 (by decide) ?_
    refine xV_i F N (c_X3_takes l G ad ex st_1 35 f L (rNx f L P) (by simp [est_1, sI_1, sI_2, sA_1, sA_21, sA_22, hf]) (by simp [est_1, sI_1, sI_2, sA_1, sA_21, sA_22, hL]) hL2 (by simp [est_1, sI_1, sI_2, sA_1, sA_21, sA_22, hP]) (rNx_le hP2)) miX3_takes k_291 (by decide) hl.1 rfl (Nat.le_of_ble_eq_true rfl) (q0 := 2) (ci := 3) rfl rfl dX3_readTerm_18 (fun st_18 est_18 H locs N => ?_)
    refine ifB_eq (tgt := 26) hx hb dX3_readTerm_21 (by decide) (fun c_21 => ?_) (fun c_21 => ?_)
    · refine lv_aload_n hx hb dX3_readTerm_26 rfl (lv_at hl 0 rfl) ?_
      refine xV_i F N (c_X3_readReference l G ad ex st_18 f L (rTkP f L (rNx f L P) 35) (by simp [est_18, est_1, sI_1, sI_2, sA_1, sA_21, sA_22, hf]) (by simp [est_18, est_1, sI_1, sI_2, sA_1, sA_21, sA_22, hL]) hL2 (by simp [est_18, est_1, sI_1, sI_2, sA_1, sA_21, sA_22, hP]) (rTkP_le (rNx_le hP2) (by decide))) miX3_readReference k_295 (by decide) hl.1 rfl (Nat.le_of_ble_eq_true rfl) (q0 := 2) (ci := 3) rfl rfl dX3_readTerm_27 (fun st_27 est_27 H locs N => ?_)
      exact hret _ _ _ _ _ _ dX3_readTerm_30 (by simp [rTerm, c_7, c_21]) (by simp [rTerm, c_7, c_21, est_27, est_18, est_1, sI_sI]) N
    · refine lv_iconst (v := 4) hx hb dX3_readTerm_24 (by decide) ?_
      exact hret _ _ _ _ _ _ dX3_readTerm_25 (by simp [rTerm, c_7, c_21]) (by simp [rTerm, c_7, c_21, est_18, est_1, sI_sI]) N
  · refine lv_aload_n hx hb dX3_readTerm_10 rfl (lv_at hl 0 rfl) ?_
    refine xV_i F N (c_X3_readNumber l G ad ex st_1 f L (rNx f L P) (by simp [est_1, sI_1, sI_2, sA_1, sA_21, sA_22, hf]) (by simp [est_1, sI_1, sI_2, sA_1, sA_21, sA_22, hL]) hL2 (by simp [est_1, sI_1, sI_2, sA_1, sA_21, sA_22, hP]) (rNx_le hP2)) miX3_readNumber k_284 (by decide) hl.1 rfl (Nat.le_of_ble_eq_true rfl) (q0 := 2) (ci := 3) rfl rfl dX3_readTerm_11 (fun st_11 est_11 H locs N => ?_)
    exact hret _ _ _ _ _ _ dX3_readTerm_14 (by simp [rTerm, c_7]) (by simp [rTerm, c_7, est_11, est_1, sI_sI]) N
set_option maxHeartbeats 4000000 in
set_option maxRecDepth 100000 in
theorem c_X3_read (l : Launch) (G : GM) (ad : Nat → Nat) (ex : va_W) (st : ST) (f : Nat → Int32) (L : Nat) (hf : st.2.1 0 = f) (hL : st.1 3 = nI L) (hL2 : L ≤ 60) : XXi l G yX3_read cX3_read 4 (some .int) 6 [.ref (ad 2)] ad ex st ((rdL f L 4 0 true 0 (fillF (st.2.1 1) 0 4)).1) (sI (sA st 1 (rdL f L 4 0 true 0 (fillF (st.2.1 1) 0 4)).2.2) 4 (nI (rdL f L 4 0 true 0 (fillF (st.2.1 1) 0 4)).2.1)) := by
  refine xi_start (by decide) rfl (Nat.le_of_ble_eq_true rfl) ?_
  intro zp ze zs zm zargs zbelow zmeth zc zQ ls F N hl hret
  have hx := F.1
  have hb := F.2.1
  have hl : lv_has ls 4 [(0, .ref (ad 2))] := hl
  refine lv_aload_n hx hb dX3_read_0 rfl (lv_at hl 0 rfl) ?_
  refine gx_2_found F N k_106 dX3_read_1 ?_
  refine lv_iconst (v := 0) hx hb dX3_read_4 (by decide) ?_
  refine xS_v F N (c_fill_1 l G ad ex st 0) miJ7_fill_53178 k_268 (by decide) hl.1 rfl (Nat.le_of_ble_eq_true rfl) dX3_read_5 (fun st_5 est_5 H locs N => ?_)
  refine lv_aload_n hx hb dX3_read_8 rfl (lv_at hl 0 rfl) ?_
  refine lv_iconst (v := 0) hx hb dX3_read_9 (by decide) ?_
  refine px_2_place F N k_108 dX3_read_10 (fun st_10 est_10 H locs N => ?_)
  refine lv_iconst (v := 0) hx hb dX3_read_13 (by decide) ?_
  refine lv_istore_n (lv' := [(1, .int 0), (0, .ref (ad 2))]) hx hb dX3_read_14 rfl hl (by decide) rfl (fun ls hl => ?_)
  refine lv_iconst (v := 1) hx hb dX3_read_15 (by decide) ?_
  refine lv_istore_n (lv' := [(2, .int 1), (1, .int 0), (0, .ref (ad 2))]) hx hb dX3_read_16 rfl hl (by decide) rfl (fun ls hl => ?_)
  have cut_17 : ∀ (k : Nat) (n : Nat) (more : Bool) (q : Nat) (g : Nat → Int32) (s1 : ST), n + k = 4 → s1 = sI (sA st 1 g) 4 (nI q) → q ≤ L → rdL f L k n more q g = rdL f L 4 0 true 0 (fillF (st.2.1 1) 0 4) → ∀ (H : Heap) (locs : List Loc) (ls : Array Slot), Now G zs (XW G ad s1 ++ ex) H locs → lv_has ls 4 [(0, .ref (ad 2)), (1, .int (nI n)), (2, .int (bI more))] → W zp l ze (RM 6) zs zm zargs zbelow zmeth zc H locs 0 0 zQ (F0 zm 17 ls []) := by
    intro k
    induction k with
    | zero =>
      intro n more q g s1 hk hs hq hI H locs ls N hl
      refine lv_iload_n hx hb dX3_read_17 rfl (lv_at hl 2 rfl) ?_
      refine ifB_eq (tgt := 57) hx hb dX3_read_18 (by decide) (fun c_18 => ?_) (fun c_18 => ?_)
      · refine lv_iload_n hx hb dX3_read_57 rfl (lv_at hl 2 rfl) ?_
        refine ifB_ne (tgt := 73) hx hb dX3_read_58 (by decide) (fun c_58 => ?_) (fun c_58 => ?_)
        · exact absurd (c_18.symm.trans c_58) (by decide)
        · refine lv_aload_n hx hb dX3_read_61 rfl (lv_at hl 0 rfl) ?_
          refine xV_i F N (c_X3_next l G ad ex s1 f L q (by simp [hs, sI_1, sI_2, sA_1, sA_21, sA_22, hf]) (by simp [hs, sI_1, sI_2, sA_1, sA_21, sA_22, hL]) hL2 (by simp [hs, sI_1, sI_2, sA_1, sA_21, sA_22]) hq) miX3_next k_273 (by decide) hl.1 rfl (Nat.le_of_ble_eq_true rfl) (q0 := 2) (ci := 3) rfl rfl dX3_read_62 (fun st_62 est_62 H locs N => ?_)
          refine lv_iconst (v := (-1)) hx hb dX3_read_65 (by decide) ?_
          refine lv_icmp_ne (tgt := 73) hx hb dX3_read_66 (by decide) (fun c_66 => ?_) (fun c_66 => ?_)
          · refine lv_iconst (v := 0) hx hb dX3_read_73 (by decide) ?_
            exact hret _ _ _ _ _ _ dX3_read_74 (by first | exact absurd (c_18.symm.trans c_58) (by decide) | (rw [← hI]; simp [rdL, c_18, c_58, c_66])) (by first | exact absurd (c_18.symm.trans c_58) (by decide) | (rw [← hI]; simp [rdL, c_18, c_58, c_66, est_62, hs, sI_sI])) N
          · refine lv_iload_n hx hb dX3_read_69 rfl (lv_at hl 1 rfl) ?_
            refine lv_goto (tgt := 74) hx hb dX3_read_70 (by decide) ?_
            exact hret _ _ _ _ _ _ dX3_read_74 (by first | exact absurd (c_18.symm.trans c_58) (by decide) | (rw [← hI]; simp [rdL, c_18, c_58, c_66])) (by first | exact absurd (c_18.symm.trans c_58) (by decide) | (rw [← hI]; simp [rdL, c_18, c_58, c_66, est_62, hs, sI_sI])) N
      · refine lv_iload_n hx hb dX3_read_21 rfl (lv_at hl 1 rfl) ?_
        refine lv_iconst (v := 4) hx hb dX3_read_22 (by decide) ?_
        refine cmpN_ge (a := n) (b := 4) (tgt := 57) hx hb dX3_read_23 (by decide) (by omega) (by omega) (fun c_23 => ?_) (fun c_23 => ?_)
        · have c_23v := Nat.not_lt.mpr c_23
          refine lv_iload_n hx hb dX3_read_57 rfl (lv_at hl 2 rfl) ?_
          refine ifB_ne (tgt := 73) hx hb dX3_read_58 (by decide) (fun c_58 => ?_) (fun c_58 => ?_)
          · refine lv_iconst (v := 0) hx hb dX3_read_73 (by decide) ?_
            exact hret _ _ _ _ _ _ dX3_read_74 (by first | exact absurd (c_18.symm.trans c_58) (by decide) | (rw [← hI]; simp [rdL, c_18, c_23, c_23v, c_58])) (by first | exact absurd (c_18.symm.trans c_58) (by decide) | (rw [← hI]; simp [rdL, c_18, c_23, c_23v, c_58, hs, sI_sI])) N
          · exact absurd (c_18.symm.trans c_58) (by decide)
        · exfalso; omega
    | succ k ih_17 =>
      intro n more q g s1 hk hs hq hI H locs ls N hl
      refine lv_iload_n hx hb dX3_read_17 rfl (lv_at hl 2 rfl) ?_
      refine ifB_eq (tgt := 57) hx hb dX3_read_18 (by decide) (fun c_18 => ?_) (fun c_18 => ?_)
      · refine lv_iload_n hx hb dX3_read_57 rfl (lv_at hl 2 rfl) ?_
        refine ifB_ne (tgt := 73) hx hb dX3_read_58 (by decide) (fun c_58 => ?_) (fun c_58 => ?_)
        · exact absurd (c_18.symm.trans c_58) (by decide)
        · refine lv_aload_n hx hb dX3_read_61 rfl (lv_at hl 0 rfl) ?_
          refine xV_i F N (c_X3_next l G ad ex s1 f L q (by simp [hs, sI_1, sI_2, sA_1, sA_21, sA_22, hf]) (by simp [hs, sI_1, sI_2, sA_1, sA_21, sA_22, hL]) hL2 (by simp [hs, sI_1, sI_2, sA_1, sA_21, sA_22]) hq) miX3_next k_273 (by decide) hl.1 rfl (Nat.le_of_ble_eq_true rfl) (q0 := 2) (ci := 3) rfl rfl dX3_read_62 (fun st_62 est_62 H locs N => ?_)
          refine lv_iconst (v := (-1)) hx hb dX3_read_65 (by decide) ?_
          refine lv_icmp_ne (tgt := 73) hx hb dX3_read_66 (by decide) (fun c_66 => ?_) (fun c_66 => ?_)
          · refine lv_iconst (v := 0) hx hb dX3_read_73 (by decide) ?_
            exact hret _ _ _ _ _ _ dX3_read_74 (by first | exact absurd (c_18.symm.trans c_58) (by decide) | (rw [← hI]; simp [rdL, c_18, c_58, c_66])) (by first | exact absurd (c_18.symm.trans c_58) (by decide) | (rw [← hI]; simp [rdL, c_18, c_58, c_66, est_62, hs, sI_sI])) N
          · refine lv_iload_n hx hb dX3_read_69 rfl (lv_at hl 1 rfl) ?_
            refine lv_goto (tgt := 74) hx hb dX3_read_70 (by decide) ?_
            exact hret _ _ _ _ _ _ dX3_read_74 (by first | exact absurd (c_18.symm.trans c_58) (by decide) | (rw [← hI]; simp [rdL, c_18, c_58, c_66])) (by first | exact absurd (c_18.symm.trans c_58) (by decide) | (rw [← hI]; simp [rdL, c_18, c_58, c_66, est_62, hs, sI_sI])) N
      · refine lv_iload_n hx hb dX3_read_21 rfl (lv_at hl 1 rfl) ?_
        refine lv_iconst (v := 4) hx hb dX3_read_22 (by decide) ?_
        refine cmpN_ge (a := n) (b := 4) (tgt := 57) hx hb dX3_read_23 (by decide) (by omega) (by omega) (fun c_23 => ?_) (fun c_23 => ?_)
        · exfalso; omega
        · have c_23v := Nat.not_le.mp c_23
          refine lv_aload_n hx hb dX3_read_26 rfl (lv_at hl 0 rfl) ?_
          refine xV_i F N (c_X3_readTerm l G ad ex s1 f L q (by simp [hs, sI_1, sI_2, sA_1, sA_21, sA_22, hf]) (by simp [hs, sI_1, sI_2, sA_1, sA_21, sA_22, hL]) hL2 (by simp [hs, sI_1, sI_2, sA_1, sA_21, sA_22]) hq) miX3_readTerm k_269 (by decide) hl.1 rfl (Nat.le_of_ble_eq_true rfl) (q0 := 2) (ci := 3) rfl rfl dX3_read_27 (fun st_27 est_27 H locs N => ?_)
          refine lv_istore_n (lv' := [(3, .int ((rTerm f L q).1)), (0, .ref (ad 2)), (1, .int (nI n)), (2, .int (bI more))]) hx hb dX3_read_30 rfl hl (by decide) rfl (fun ls hl => ?_)
          refine lv_iload_n hx hb dX3_read_31 rfl (lv_at hl 0 rfl) ?_
          refine lv_if_ne (tgt := 37) hx hb dX3_read_32 (by decide) (fun c_32 => ?_) (fun c_32 => ?_)
          · refine lv_aload_n hx hb dX3_read_37 rfl (lv_at hl 1 rfl) ?_
            refine gx_2_found F N k_106 dX3_read_38 ?_
            refine lv_iload_n hx hb dX3_read_41 rfl (lv_at hl 2 rfl) ?_
            refine lv_iload_n hx hb dX3_read_42 rfl (lv_at hl 0 rfl) ?_
            refine sxN_1 (j := n) F N (by omega) dX3_read_43 (fun st_43 est_43 H locs N => ?_)
            refine lv_iinc (v := (nI (n + 1))) (lv' := [(1, .int (nI (n + 1))), (3, .int ((rTerm f L q).1)), (0, .ref (ad 2)), (2, .int (bI more))]) hx hb dX3_read_44 hl (k := 2) rfl (nI_1 n) (by decide) rfl (fun ls hl => ?_)
            refine lv_aload_n hx hb dX3_read_47 rfl (lv_at hl 2 rfl) ?_
            refine lv_bipush (v := 43) hx hb dX3_read_48 (by decide) ?_
            refine xV_i F N (c_X3_takes l G ad ex st_43 43 f L ((rTerm f L q).2) (by simp [est_43, est_27, hs, sI_1, sI_2, sA_1, sA_21, sA_22, hf]) (by simp [est_43, est_27, hs, sI_1, sI_2, sA_1, sA_21, sA_22, hL]) hL2 (by simp [est_43, est_27, hs, sI_1, sI_2, sA_1, sA_21, sA_22]) (rTerm_le hq)) miX3_takes k_291 (by decide) hl.1 rfl (Nat.le_of_ble_eq_true rfl) (q0 := 2) (ci := 3) rfl rfl dX3_read_50 (fun st_50 est_50 H locs N => ?_)
            refine lv_istore_n (lv' := [(2, .int (bI (rTkB f L ((rTerm f L q).2) (43 : Int32)))), (1, .int (nI (n + 1))), (3, .int ((rTerm f L q).1)), (0, .ref (ad 2))]) hx hb dX3_read_53 rfl hl (by decide) rfl (fun ls hl => ?_)
            refine lv_goto (tgt := 17) hx hb dX3_read_54 (by decide) ?_
            exact ih_17 (n + 1) (rTkB f L ((rTerm f L q).2) (43 : Int32)) (rTkP f L (rTerm f L q).2 43) (upd g n (rTerm f L q).1) st_50 (by omega) (by simp [est_50, est_43, est_27, hs, sI_2, sA_21, sA_sI, sI_sI, sA_sA]) (rTkP_le (rTerm_le hq) (by decide)) (by rw [← hI]; simp [rdL, c_18, c_23, c_23v, c_32]) _ _ _ N (lv_sub hl [3, 1, 0] rfl)
          · refine lv_iconst (v := 0) hx hb dX3_read_35 (by decide) ?_
            exact hret _ _ _ _ _ _ dX3_read_36 (by first | exact absurd (c_18.symm.trans c_58) (by decide) | (rw [← hI]; simp [rdL, c_18, c_23, c_23v, c_32])) (by first | exact absurd (c_18.symm.trans c_58) (by decide) | (rw [← hI]; simp [rdL, c_18, c_23, c_23v, c_32, est_27, hs, sI_sI])) N
  exact cut_17 4 0 true 0 (fillF (st.2.1 1) 0 4) st_10 (by omega) (by rw [est_10, est_5]; rfl) (by omega) rfl _ _ _ N (lv_sub hl [2, 1, 0] rfl)
set_option maxHeartbeats 4000000 in
set_option maxRecDepth 100000 in
theorem c_X3_fault (l : Launch) (G : GM) (ad : Nat → Nat) (ex : va_W) (st : ST) (f : Nat → Int32) (L : Nat) (P : Nat) (hf : st.2.1 0 = f) (hL : st.1 3 = nI L) (hL2 : L ≤ 60) (hP : st.1 4 = nI P) (hP2 : P ≤ L) : XXi l G yX3_fault cX3_fault 1 (some .int) 2 [.ref (ad 2)] ad ex st (nI (rNx f L P)) (sI st 4 (nI (rNx f L P))) := by
  refine xi_start (by decide) rfl (Nat.le_of_ble_eq_true rfl) ?_
  intro zp ze zs zm zargs zbelow zmeth zc zQ ls F N hl hret
  have hx := F.1
  have hb := F.2.1
  have hl : lv_has ls 1 [(0, .ref (ad 2))] := hl
  refine lv_aload_n hx hb dX3_fault_0 rfl (lv_at hl 0 rfl) ?_
  refine xV_i F N (c_X3_next l G ad ex st f L P (by simp [sI_1, sI_2, sA_1, sA_21, sA_22, hf]) (by simp [sI_1, sI_2, sA_1, sA_21, sA_22, hL]) hL2 (by simp [sI_1, sI_2, sA_1, sA_21, sA_22, hP]) hP2) miX3_next k_273 (by decide) hl.1 rfl (Nat.le_of_ble_eq_true rfl) (q0 := 2) (ci := 3) rfl rfl dX3_fault_1 (fun st_1 est_1 H locs N => ?_)
  refine lv_pop hx hb dX3_fault_4 rfl ?_
  refine lv_aload_n hx hb dX3_fault_5 rfl (lv_at hl 0 rfl) ?_
  refine gx_2_place F N k_108 dX3_fault_6 ?_
  refine toN (a := rNx f L P) (by simp [est_1, sI_1, sI_2, sA_1, sA_21, sA_22]) ?_
  exact hret _ _ _ _ _ _ dX3_fault_9 (by first | rfl | (subst est_1; rfl) | (subst est_1; simp [bI])) (by first | rfl | (subst est_1; rfl) | (subst est_1; simp [bI])) N
