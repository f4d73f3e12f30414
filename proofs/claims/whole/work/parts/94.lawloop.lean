set_option maxHeartbeats 4000000 in
set_option maxRecDepth 100000 in
theorem lw_loop {p : Program} {l : Launch} {e : Env} {s : State} {m : MethodId} {b : Nat} {below : List Frame} {meth : Method} {c : Code} {G : GM} {L : Nat} {zs : Nat → Int32} (B : LB p s m c b L zs G) (hG : ∀ q, G.2.1 q → s.heap.size ≤ q) (hr0 : meth.sig.returnType = ret) (hlocks : meth.locks = false) :
    ∀ (n i cells slots : Nat) (xs ms : ST) (L0 n0 z0 : Nat) (ad bd : Nat → Nat) (H : Heap) (locs : List Loc) (ls : Array Slot), i ≤ L → L + 1 ≤ i + n → cells ≤ 32 + 2 * i → slots ≤ 9052 + 8 * i → Rel xs ms L0 n0 z0 → Now G s (XW G ad xs ++ MW G bd ms) H locs → lv_has ls 4 [(0, .ref b), (1, .ref (ad 0)), (2, .ref (bd 0)), (3, .int (nI i))] → W p l e room_1 s m #[Value.ref b] below meth c H locs cells slots (lw_Z below #[Value.ref b] s) (F0 m 18 ls []) := by
  obtain ⟨F, hX, hbl, hbA, hL⟩ := id B
  intro n
  induction n with
  | zero =>
    intro i cells slots xs ms L0 n0 z0 ad bd H locs ls h1 h2
    exact absurd h2 (by omega)
  | succ n ih =>
    intro i cells slots xs ms L0 n0 z0 ad bd H locs ls h1 h2 h3 h4 hr N hl
    refine lv_iload_n F.1 F.2.1 dL_law_18 rfl (lv_at hl 3 rfl) ?_
    refine lv_aload_n F.1 F.2.1 dL_law_19 rfl (lv_at hl 0 rfl) ?_
    refine va_slen F.1 F.2.1 hX hbl hbA N.2.2 dL_law_20 ?_
    refine lv_bipush (v := 7) F.1 F.2.1 dL_law_21 (by decide) ?_
    refine lv_isub F.1 F.2.1 dL_law_23 ?_
    refine lv_icmp_gt (tgt := 802) F.1 F.2.1 dL_law_24 (by decide) (fun q => ?_) (fun q => ?_)
    · refine lv_iconst (v := 1) F.1 F.2.1 dL_law_802 (by decide) ?_
      refine va_forget (fun q hq => hG _ (N.2.2.2.2 q hq)) ?_
      refine W.widen (k := 600000) (n := 7302250) (by omega) (by omega) ?_
      exact lw_ret F.1 F.2.1 hr0 hlocks dL_law_803
    · have hi : i + 7 ≤ L := lw_len h1 hL q
      refine lv_aload_n F.1 F.2.1 dL_law_27 rfl (lv_at hl 0 rfl) ?_
      refine lv_iload_n F.1 F.2.1 dL_law_28 rfl (lv_at hl 3 rfl) ?_
      refine va_sld F.1 F.2.1 hX hbl hbA N.2.2 (vp_in_nI (show i < L by omega) (by omega)) dL_law_29 ?_
      refine lv_bipush (v := 31) F.1 F.2.1 dL_law_30 (by decide) ?_
      refine lv_iand F.1 F.2.1 dL_law_32 ?_
      obtain ⟨j, hj, ej⟩ := and31 (zs (nI i).toNatClampNeg)
      rw [ej]
      have kk : ∀ (xs1 ms1 : ST) (L1 n1 z1 : Nat) (H : Heap) (locs : List Loc), Rel xs1 ms1 L1 n1 z1 → Now G s (XW G ad xs1 ++ MW G bd ms1) H locs → W p l e room_1 s m #[Value.ref b] below meth c H locs (cells + 2) (slots + 8) (lw_Z below #[Value.ref b] s) (F0 m 796 ls []) := by
        intro xs1 ms1 L1 n1 z1 H locs hr1 N1
        refine lv_iinc (v := nI (i + 7)) (lv' := [(3, .int (nI (i + 7))), (0, .ref b), (1, .ref (ad 0)), (2, .ref (bd 0))]) F.1 F.2.1 dL_law_796 hl (k := 3) rfl (show nI i + nI 7 = nI (i + 7) from nI_add i 7) (by decide) rfl (fun ls hl => ?_)
        refine lv_goto (tgt := 18) F.1 F.2.1 dL_law_799 (by decide) ?_
        exact ih (i + 7) (cells + 2) (slots + 8) xs1 ms1 L1 n1 z1 ad bd H locs ls (by omega) (by omega) (by omega) (by omega) hr1 N1 (lv_sub hl [1, 2, 3, 0] rfl)
      clear ej
      by_cases hj19 : j < 19
      · rcases (show j = 0 ∨ j = 1 ∨ j = 2 ∨ j = 3 ∨ j = 4 ∨ j = 5 ∨ j = 6 ∨ j = 7 ∨ j = 8 ∨ j = 9 ∨ j = 10 ∨ j = 11 ∨ j = 12 ∨ j = 13 ∨ j = 14 ∨ j = 15 ∨ j = 16 ∨ j = 17 ∨ j = 18 by omega) with rfl | rfl | rfl | rfl | rfl | rfl | rfl | rfl | rfl | rfl | rfl | rfl | rfl | rfl | rfl | rfl | rfl | rfl | rfl
        · refine lv_tableIn (off := 91) (tgt := 124) F.1 F.2.1 dL_law_33 (by decide +kernel) (by decide +kernel) (by decide +kernel) (by decide) ?_
          exact lc_type B hr N hl (by omega) (by omega) (by omega) kk
        · refine lv_tableIn (off := 114) (tgt := 147) F.1 F.2.1 dL_law_33 (by decide +kernel) (by decide +kernel) (by decide +kernel) (by decide) ?_
          exact lc_clear B hr N hl (by omega) (by omega) (by omega) kk
        · refine lv_tableIn (off := 127) (tgt := 160) F.1 F.2.1 dL_law_33 (by decide +kernel) (by decide +kernel) (by decide +kernel) (by decide) ?_
          exact lc_put B hr N hl (by omega) (by omega) (by omega) kk
        · refine lv_tableIn (off := 160) (tgt := 193) F.1 F.2.1 dL_law_33 (by decide +kernel) (by decide +kernel) (by decide +kernel) (by decide) ?_
          exact lc_empties B hr N hl (by omega) (by omega) (by omega) kk
        · refine lv_tableIn (off := 193) (tgt := 226) F.1 F.2.1 dL_law_33 (by decide +kernel) (by decide +kernel) (by decide +kernel) (by decide) ?_
          exact lc_comes B hr N hl (by omega) (by omega) (by omega) kk
        · refine lv_tableIn (off := 236) (tgt := 269) F.1 F.2.1 dL_law_33 (by decide +kernel) (by decide +kernel) (by decide +kernel) (by decide) ?_
          exact lc_goes B hr N hl (by omega) (by omega) (by omega) kk
        · refine lv_tableIn (off := 279) (tgt := 312) F.1 F.2.1 dL_law_33 (by decide +kernel) (by decide +kernel) (by decide +kernel) (by decide) ?_
          exact lc_moves B hr N hl (by omega) (by omega) (by omega) kk
        · refine lv_tableIn (off := 354) (tgt := 387) F.1 F.2.1 dL_law_33 (by decide +kernel) (by decide +kernel) (by decide +kernel) (by decide) ?_
          exact lc_copies B hr N hl (by omega) (by omega) (by omega) kk
        · refine lv_tableIn (off := 429) (tgt := 462) F.1 F.2.1 dL_law_33 (by decide +kernel) (by decide +kernel) (by decide +kernel) (by decide) ?_
          exact lc_back B hr N hl (by omega) (by omega) (by omega) kk
        · refine lv_tableIn (off := 442) (tgt := 475) F.1 F.2.1 dL_law_33 (by decide +kernel) (by decide +kernel) (by decide +kernel) (by decide) ?_
          exact lc_terms B hr N hl (by omega) (by omega) (by omega) kk
        · refine lv_tableIn (off := 475) (tgt := 508) F.1 F.2.1 dL_law_33 (by decide +kernel) (by decide +kernel) (by decide +kernel) (by decide) ?_
          exact lc_term B hr N hl (by omega) (by omega) (by omega) kk
        · refine lv_tableIn (off := 528) (tgt := 561) F.1 F.2.1 dL_law_33 (by decide +kernel) (by decide +kernel) (by decide +kernel) (by decide) ?_
          exact lc_shown B hr N hl (by omega) (by omega) (by omega) kk
        · refine lv_tableIn (off := 571) (tgt := 604) F.1 F.2.1 dL_law_33 (by decide +kernel) (by decide +kernel) (by decide +kernel) (by decide) ?_
          exact lc_value B hr N hl (by omega) (by omega) (by omega) kk
        · refine lv_tableIn (off := 604) (tgt := 637) F.1 F.2.1 dL_law_33 (by decide +kernel) (by decide +kernel) (by decide +kernel) (by decide) ?_
          exact lc_why B hr N hl (by omega) (by omega) (by omega) kk
        · refine lv_tableIn (off := 637) (tgt := 670) F.1 F.2.1 dL_law_33 (by decide +kernel) (by decide +kernel) (by decide +kernel) (by decide) ?_
          exact lc_deep B hr N hl (by omega) (by omega) (by omega) kk
        · refine lv_tableIn (off := 670) (tgt := 703) F.1 F.2.1 dL_law_33 (by decide +kernel) (by decide +kernel) (by decide +kernel) (by decide) ?_
          exact lc_users B hr N hl (by omega) (by omega) (by omega) kk
        · refine lv_tableIn (off := 703) (tgt := 736) F.1 F.2.1 dL_law_33 (by decide +kernel) (by decide +kernel) (by decide +kernel) (by decide) ?_
          exact lc_count B hr N hl (by omega) (by omega) (by omega) kk
        · refine lv_tableIn (off := 726) (tgt := 759) F.1 F.2.1 dL_law_33 (by decide +kernel) (by decide +kernel) (by decide +kernel) (by decide) ?_
          exact lc_told B hr N hl (by omega) (by omega) (by omega) kk
        · refine lv_tableIn (off := 749) (tgt := 782) F.1 F.2.1 dL_law_33 (by decide +kernel) (by decide +kernel) (by decide +kernel) (by decide) ?_
          exact lc_digest B hr N hl (by omega) (by omega) (by omega) kk
      · refine lv_tableOut (tgt := 796) F.1 F.2.1 dL_law_33 (Or.inr (by rw [nI_toInt (by omega)]; omega)) (by decide) ?_
        exact W.widen (k := cells + 2) (n := slots + 8) (by omega) (by omega) (kk xs ms L0 n0 z0 H locs hr N)
theorem lw_known {b : Nat} {s : State} (hg : ∀ w ∈ goodT, w.before #[Value.ref b] s = true) : ∃ D : va_G, ∀ (k : Nat) (q : vw_C), vwCl[k]? = some q → u_Kn s q.1 q.2.1 q.2.2 (D.1 k) (D.2 k) := by
  obtain ⟨c0, iS0, hKn0⟩ := u_known (C := RX0) (T := TX0) (N := 4) (n := 4) hg inGX0 (hg _ k_467)
  obtain ⟨c1, iS1, hKn1⟩ := u_known (C := RX1) (T := TX1) (N := 2) (n := 2) hg inGX1 (hg _ k_190)
  obtain ⟨c2, iS2, hKn2⟩ := u_known (C := RX2) (T := TX2) (N := 3) (n := 3) hg inGX2 (hg _ k_131)
  obtain ⟨c3, iS3, hKn3⟩ := u_known (C := RX3) (T := TX3) (N := 3) (n := 3) hg inGX3 (hg _ k_100)
  obtain ⟨c4, iS4, hKn4⟩ := u_known (C := RX4) (T := TX4) (N := 2) (n := 2) hg inGX4 (hg _ k_117)
  obtain ⟨c5, iS5, hKn5⟩ := u_known (C := RX6) (T := TX6) (N := 2) (n := 2) hg inGX6 (hg _ k_84)
  obtain ⟨c6, iS6, hKn6⟩ := u_known (C := RX7) (T := TX7) (N := 9) (n := 9) hg inGX7 (hg _ k_148)
  obtain ⟨c7, iS7, hKn7⟩ := u_known (C := RX8) (T := TX8) (N := 9) (n := 9) hg inGX8 (hg _ k_76)
  obtain ⟨c8, iS8, hKn8⟩ := u_known (C := RX9) (T := TX9) (N := 23) (n := 23) hg inGX9 (hg _ k_677)
  refine ⟨(fun k => if k = 0 then c0 else if k = 1 then c1 else if k = 2 then c2 else if k = 3 then c3 else if k = 4 then c4 else if k = 5 then c5 else if k = 6 then c6 else if k = 7 then c7 else c8, fun k => if k = 0 then iS0 else if k = 1 then iS1 else if k = 2 then iS2 else if k = 3 then iS3 else if k = 4 then iS4 else if k = 5 then iS5 else if k = 6 then iS6 else if k = 7 then iS7 else iS8), ?_⟩
  intro k q hq
  match k, hq with
  | 0, hq => cases hq; exact hKn0
  | 1, hq => cases hq; exact hKn1
  | 2, hq => cases hq; exact hKn2
  | 3, hq => cases hq; exact hKn3
  | 4, hq => cases hq; exact hKn4
  | 5, hq => cases hq; exact hKn5
  | 6, hq => cases hq; exact hKn6
  | 7, hq => cases hq; exact hKn7
  | 8, hq => cases hq; exact hKn8
  | k + 9, hq => simp at hq
set_option maxHeartbeats 4000000 in
set_option maxRecDepth 100000 in
/-- THE LAW, from its entry -/
theorem whole_start {p : Program} {e : Env} {s : State} {m : MethodId} {below : List Frame} {meth : Method} {c : Code} (l : Launch) (hflags : l.flags = flags0) {b L : Nat} {xs : Nat → Int32} (hL : L ≤ 3584) (C0 : lw_At p s m meth c b L xs) : W p l e room_1 s m #[Value.ref b] below meth c s.heap [] 0 0 (lw_Z below #[Value.ref b] s) (entryFrame m ([Value.ref b] : List Value).toArray 4) := by
  obtain ⟨hx, hb, hr, hml, hown, hts, hX, hbl, hlocks, hgv⟩ := C0
  have hg : ∀ w ∈ goodT, w.before #[Value.ref b] s = true := fun w hw => hts w (List.mem_filter.mp hw).1
  have hNst : Nst s := fun w hw => by
    have h1 := hts w (List.mem_filter.mp hw).1
    have h2 : isNestW w = true := (List.mem_filter.mp hw).2
    cases w <;> first | exact va_Nw.of rfl h1 | (simp [isNestW] at h2)
  obtain ⟨aCI, hcI, aI⟩ := arr_known (hg _ k_98)
  obtain ⟨aCZ, hcZ, aZ⟩ := arr_known (hg _ k_188)
  obtain ⟨D, hKc⟩ := lw_known hg
  obtain ⟨G, eG⟩ : ∃ G : GM, G = (D, (fun q : Nat => s.heap.size ≤ q), aCI, aCZ) := ⟨_, rfl⟩
  have hK : va_K G.1 vwCl (TY G) s := by
    rw [eG]
    refine ⟨hKc, fun k q hq => ?_⟩
    match k, hq with
    | 0, hq => cases hq; exact ⟨aI, hcI⟩
    | 1, hq => cases hq; exact ⟨aZ, hcZ⟩
    | k + 2, hq => simp [TY] at hq
  have hA : ∀ q : Nat, s.heap.size ≤ q → G.2.1 q := fun q h => by rw [eG]; exact h
  have hG : ∀ q : Nat, G.2.1 q → s.heap.size ≤ q := fun q h => by rw [eG] at h; exact h
  have hbA : ¬ G.2.1 b := fun h => absurd (hG b h) (Nat.not_le.mpr hbl)
  have F : FX p s m #[Value.ref b] c code 4 "SheetRefsLaw" G := ⟨hx, hb, hml, hown, hg, hK, hNst, hA⟩
  have B : LB p s m c b L xs G := ⟨F, hX, hbl, hbA, hL⟩
  clear eG hKc
  have N : Now G s [] s.heap [] := ⟨fun k q h => by simp at h, ⟨fun i j p q h => by simp at h, fun k q h => by simp at h⟩, va_S.rf⟩
  have hl := lv_entry ([.ref b]) (n := 4) (Nat.le_of_ble_eq_true rfl)
  rw [lg_entry_eq]
  generalize (lg_sl ([.ref b]) ++ List.replicate (4 - (lg_sl ([.ref b])).length) Slot.unset).toArray = ls at hl ⊢
  have hl : lv_has ls 4 [(0, .ref b)] := hl
  refine va_new (ci := 7) (fs := [.null, .null, .null, .null, .null, .null, .int 0, .int 0, .int 0]) (C := RX8) (T := TX8) (N := 9) hx hb F.2.2.2.2.1 inGX8 tyX8 tyX8_ok F.2.2.2.1 (hg _ k_75) (hg _ k_76) (hg _ k_62) hK N.1 N.2.1 N.2.2 hA rfl (fun j hj => by rcases (show j = 0 ∨ j = 1 ∨ j = 2 ∨ j = 3 ∨ j = 4 ∨ j = 5 ∨ j = 6 ∨ j = 7 ∨ j = 8 by omega) with rfl | rfl | rfl | rfl | rfl | rfl | rfl | rfl | rfl <;> rfl) (Nat.le_of_ble_eq_true rfl) (Nat.le_of_ble_eq_true rfl) dL_law_0 (fun q0 H hP hD hS => ?_)
  have N : Now G s ([(q0, .inr (7, [.null, .null, .null, .null, .null, .null, .int 0, .int 0, .int 0]))] ++ []) H [] := ⟨hP, hD, hS⟩
  refine lv_dup hx hb dL_law_3 rfl ?_
  refine cI F N (c_X8_init l G q0 []) miX8_init k_77 (lw_RL (by decide)) (Nat.le_of_ble_eq_true rfl) (Nat.le_of_ble_eq_true rfl) hl.1 (rest := [.ref q0]) rfl (show (1 : Nat) + 0 ≤ 8 by decide) dL_law_4 (fun u H locs N => ?_)
  rw [List.append_nil] at N
  refine lv_astore_n (lv' := [(1, .ref q0), (0, .ref b)]) hx hb dL_law_7 rfl hl (by decide) rfl (fun ls hl => ?_)
  refine va_new (ci := 8) (fs := [.null, .null, .null, .int 0, .null, .null, .int 0, .null, .int 0, .int 0, .null, .int 0, .null, .null, .null, .null, .null, .null, .int 0, .int 0, .int 0, .int 0, .long 0]) (C := RX9) (T := TX9) (N := 23) hx hb F.2.2.2.2.1 inGX9 tyX9 tyX9_ok F.2.2.2.1 (hg _ k_676) (hg _ k_677) (hg _ k_70) hK N.1 N.2.1 N.2.2 hA rfl (fun j hj => by rcases (show j = 0 ∨ j = 1 ∨ j = 2 ∨ j = 3 ∨ j = 4 ∨ j = 5 ∨ j = 6 ∨ j = 7 ∨ j = 8 ∨ j = 9 ∨ j = 10 ∨ j = 11 ∨ j = 12 ∨ j = 13 ∨ j = 14 ∨ j = 15 ∨ j = 16 ∨ j = 17 ∨ j = 18 ∨ j = 19 ∨ j = 20 ∨ j = 21 ∨ j = 22 by omega) with rfl | rfl | rfl | rfl | rfl | rfl | rfl | rfl | rfl | rfl | rfl | rfl | rfl | rfl | rfl | rfl | rfl | rfl | rfl | rfl | rfl | rfl | rfl <;> rfl) (Nat.le_of_ble_eq_true rfl) (Nat.le_of_ble_eq_true rfl) dL_law_8 (fun q1 H hP hD hS => ?_)
  have N : Now G s ([(q1, .inr (8, [.null, .null, .null, .int 0, .null, .null, .int 0, .null, .int 0, .int 0, .null, .int 0, .null, .null, .null, .null, .null, .null, .int 0, .int 0, .int 0, .int 0, .long 0]))] ++ XW G (adr q0 u) xst0) H locs := now_perm List.perm_append_comm ⟨hP, hD, hS⟩
  refine lv_dup hx hb dL_law_11 rfl ?_
  refine cI F N (c_X9_init l G q1 (XW G (adr q0 u) xst0)) miX9_init k_678 (lw_RL (by decide)) (Nat.le_of_ble_eq_true rfl) (Nat.le_of_ble_eq_true rfl) hl.1 (rest := [.ref q1]) rfl (show (1 : Nat) + 0 ≤ 8 by decide) dL_law_12 (fun v H locs N => ?_)
  refine lv_astore_n (lv' := [(2, .ref q1), (1, .ref q0), (0, .ref b)]) hx hb dL_law_15 rfl hl (by decide) rfl (fun ls hl => ?_)
  refine lv_iconst (v := nI 0) hx hb dL_law_16 (by decide) ?_
  refine lv_istore_n (lv' := [(3, .int (nI 0)), (2, .ref q1), (1, .ref q0), (0, .ref b)]) hx hb dL_law_17 rfl hl (by decide) rfl (fun ls hl => ?_)
  exact lw_loop B hG hr hlocks (L + 1) 0 _ _ xst0 mst0 0 0 0 (adr q0 u) (adr q1 v) H locs ls (Nat.zero_le L) (by omega) (Nat.le_of_ble_eq_true rfl) (Nat.le_of_ble_eq_true rfl) Rel_start (now_perm List.perm_append_comm N) (lv_sub hl [3, 2, 1, 0] rfl)
