/-! the law's own rows -/
/-- what stands while the law runs -/
def LB (p : Program) (s : State) (m : MethodId) (c : Code) (b L : Nat) (zs : Nat → Int32) (G : GM) : Prop := FX p s m #[Value.ref b] c code 4 "SheetRefsLaw" G ∧ va_X b L zs s s.heap ∧ b < s.heap.size ∧ ¬ G.2.1 b ∧ L ≤ 3584
theorem and31 (v : Int32) : ∃ j, j < 32 ∧ v &&& 31 = nI j := by
  refine ⟨(v &&& 31).toBitVec.toNat, ?_, ?_⟩
  · rw [Int32.toBitVec_and, BitVec.toNat_and]
    have h : v.toBitVec.toNat &&& (31 : Int32).toBitVec.toNat ≤ (31 : Int32).toBitVec.toNat := Nat.and_le_right
    have h2 : (31 : Int32).toBitVec.toNat = 31 := rfl
    omega
  · apply Int32.toBitVec_inj.mp
    show (v &&& 31).toBitVec = BitVec.ofNat 32 (v &&& 31).toBitVec.toNat
    rw [BitVec.ofNat_toNat, BitVec.setWidth_eq]
theorem lw_len {i L : Nat} (hi : i ≤ L) (hL : L ≤ 3584) (q : ¬ Int32.ofNat L - 7 < nI i) : i + 7 ≤ L := by
  by_cases h : 7 ≤ L
  · have e : Int32.ofNat L - 7 = nI (L - 7) := nI_sub (b := 7) h
    rw [e] at q
    have q2 : ¬ L - 7 < i := fun z => q ((nI_ltI (by omega) (by omega)).mpr z)
    omega
  · exfalso
    have h0 : Int32.ofNat L - 7 < 0 := by
      rcases (show L = 0 ∨ L = 1 ∨ L = 2 ∨ L = 3 ∨ L = 4 ∨ L = 5 ∨ L = 6 by omega) with e | e | e | e | e | e | e <;> (rw [e]; decide)
    exact q (Int32.lt_of_lt_of_le h0 (nI_pos' (by omega)))
section LAWROWS

variable {p : Program} {l : Launch} {e : Env} {s : State} {m : MethodId} {b : Nat} {below : List Frame} {meth : Method} {c : Code} {H : Heap} {locs : List Loc} {Q : State → Prop} {G : GM} {ls : Array Slot} {rest : List Value} {cells slots L i x1 x2 pc : Nat} {zs : Nat → Int32} {w : va_W} {xs ms : ST} {L0 n0 z0 : Nat} {ad bd : Nat → Nat}

theorem lw_push {k : Nat} {kv : Int} (B : LB p s m c b L zs G) (N : Now G s w H locs) (hl : lv_has ls 4 [(0, .ref b), (1, .ref x1), (2, .ref x2), (3, .int (nI i))]) (hi : i + k < L) (d0 : decode code pc = .ok (.aload_n 0, 1)) (d1 : decode code (pc + 1) = .ok (.iload_n 3, 1)) (d2 : decode code (pc + 1 + 1) = .ok (.iconst kv, 1)) (hk : Int32.ofInt kv = nI k) (d3 : decode code (pc + 1 + 1 + 1) = .ok (.iadd, 1)) (d4 : decode code (pc + 1 + 1 + 1 + 1) = .ok (.iaload, 1))
    (kk : W p l e room_1 s m #[Value.ref b] below meth c H locs cells slots Q (F0 m (pc + 1 + 1 + 1 + 1 + 1) ls (.int (zs (i + k)) :: rest))) : W p l e room_1 s m #[Value.ref b] below meth c H locs cells slots Q (F0 m pc ls rest) := by
  obtain ⟨F, hX, hbl, hbA, hL⟩ := B
  refine lv_aload_n F.1 F.2.1 d0 rfl (lv_at hl 0 rfl) ?_
  refine lv_iload_n F.1 F.2.1 d1 rfl (lv_at hl 3 rfl) ?_
  refine lv_iconst (v := nI k) F.1 F.2.1 d2 hk ?_
  refine iaddN F.1 F.2.1 d3 ?_
  refine va_sld F.1 F.2.1 hX hbl hbA N.2.2 (vp_in_nI hi (by omega)) d4 ?_
  rw [nI_clamp (by omega)]
  exact kk
theorem lw_push6 {k : Nat} {kv : Int} (B : LB p s m c b L zs G) (N : Now G s w H locs) (hl : lv_has ls 4 [(0, .ref b), (1, .ref x1), (2, .ref x2), (3, .int (nI i))]) (hi : i + k < L) (d0 : decode code pc = .ok (.aload_n 0, 1)) (d1 : decode code (pc + 1) = .ok (.iload_n 3, 1)) (d2 : decode code (pc + 1 + 1) = .ok (.bipush kv, 2)) (hk : (Int8.ofInt kv).toInt32 = nI k) (d3 : decode code (pc + 1 + 1 + 2) = .ok (.iadd, 1)) (d4 : decode code (pc + 1 + 1 + 2 + 1) = .ok (.iaload, 1))
    (kk : W p l e room_1 s m #[Value.ref b] below meth c H locs cells slots Q (F0 m (pc + 1 + 1 + 2 + 1 + 1) ls (.int (zs (i + k)) :: rest))) : W p l e room_1 s m #[Value.ref b] below meth c H locs cells slots Q (F0 m pc ls rest) := by
  obtain ⟨F, hX, hbl, hbA, hL⟩ := B
  refine lv_aload_n F.1 F.2.1 d0 rfl (lv_at hl 0 rfl) ?_
  refine lv_iload_n F.1 F.2.1 d1 rfl (lv_at hl 3 rfl) ?_
  refine lv_bipush (v := nI k) F.1 F.2.1 d2 hk ?_
  refine iaddN F.1 F.2.1 d3 ?_
  refine va_sld F.1 F.2.1 hX hbl hbA N.2.2 (vp_in_nI hi (by omega)) d4 ?_
  rw [nI_clamp (by omega)]
  exact kk
theorem lw_RL {k : Nat} (h : k ≤ 100) : RLv k room_1 := ⟨show k + 1 ≤ 2048 by omega, show 64 * (k + 1) ≤ 84000 by omega⟩
theorem lw_pair {yx ym : MethodName} {bx bm : ByteArray} {nX nM ix im pcm : Nat} {As st0 : List Value} {off : Int} (hP : PO l G yx bx nX ym bm nM As xs ms) (F : FX p s m #[Value.ref b] c code 4 "SheetRefsLaw" G) (N : Now G s (XW G ad xs ++ MW G bd ms) H locs) (hcx : yx.cls = RX8) (hcm : ym.cls = RX9) (hMx : MIv yx bx nX (some .int) As.length) (hMm : MIv ym bm nM (some .int) As.length)
    (hlx : Cond.methodLink "SheetRefsLaw" ix yx ∈ goodT) (hlm : Cond.methodLink "SheetRefsLaw" im ym ∈ goodT) (hsz : ls.size = 4) (hc : cells + 2 ≤ 600000) (hs : slots + 8 ≤ 7302250) (hst : st0 = As.reverse ++ .ref (ad 0) :: []) (hdx : decode code pc = .ok (.invokevirtual ix, 3)) (hdm : decode code pcm = .ok (.invokevirtual im, 3)) (hdc : decode code (pcm + 3) = .ok (.if_icmp .eq off, 3)) (ht : ((pcm + 3 : Nat) : Int) + off = ((796 : Nat) : Int))
    (push : ∀ (v : Int32) (w : va_W) (H : Heap) (locs : List Loc) (cells slots : Nat), Now G s w H locs → W p l e room_1 s m #[Value.ref b] below meth c H locs cells slots Q (F0 m pcm ls (As.reverse ++ .ref (bd 0) :: [.int v])) → W p l e room_1 s m #[Value.ref b] below meth c H locs cells slots Q (F0 m (pc + 3) ls [.int v]))
    (kk : ∀ (xs1 ms1 : ST) (L1 n1 z1 : Nat) (H : Heap) (locs : List Loc), Rel xs1 ms1 L1 n1 z1 → Now G s (XW G ad xs1 ++ MW G bd ms1) H locs → W p l e room_1 s m #[Value.ref b] below meth c H locs (cells + 2) (slots + 8) Q (F0 m 796 ls [])) : W p l e room_1 s m #[Value.ref b] below meth c H locs cells slots Q (F0 m pc ls st0) := by
  obtain ⟨ri, xs1, ms1, L1, n1, z1, kx, km, mc, mt, ⟨h1, h2, h3, h4⟩, hX, hM, hr⟩ := hP
  refine ggo_i N (grunVm (show cells + mc ≤ 600000 by omega) (show slots + mt ≤ 7302250 by omega) F N (hX ad (MW G bd ms)) hMx hlx (lw_RL h1) hsz hst (rest := []) (by decide) (q0 := 0) (ci := 7) rfl (by rw [hcx]; rfl) hdx) (fun H locs N => ?_)
  refine push ri _ H locs _ _ N ?_
  refine ggo_i (now_perm List.perm_append_comm N) (grunV (show cells + mc ≤ 600000 by omega) (show slots + mt ≤ 7302250 by omega) F (now_perm List.perm_append_comm N) (hM bd (XW G ad xs1)) hMm hlm (lw_RL h2) hsz rfl (rest := [.int ri]) (show (1 : Nat) + 0 ≤ 8 by decide) (q0 := 0) (ci := 8) rfl (by rw [hcm]; rfl) hdm) (fun H locs N => ?_)
  refine lv_icmp_eq (tgt := 796) F.1 F.2.1 hdc ht (fun _ => ?_) (fun q => absurd rfl q)
  refine W.widen (k := cells + 2) (n := slots + 8) (by omega) (by omega) ?_
  exact kk xs1 ms1 L1 n1 z1 H locs hr (now_perm List.perm_append_comm N)
end LAWROWS
