theorem lay_RX {ms : ST} {g : Nat → Int32} (h : RX (ms.2.1 0) g) : RX (mLay ms) g := RX_cong (fun x hx => lay_eq ms hx) (fun _ _ => rfl) h
theorem opH_eq (st : ST) {x : Nat} (hx : x < 144) : opH st x = st.2.1 2 x := by
  show (if 0 ≤ x ∧ x < 0 + 144 then st.2.1 2 (0 + (x - 0)) else st.2.1 3 x) = _
  rw [if_pos (by omega), Nat.zero_add, Nat.sub_zero]
theorem lay_opH {ms st : ST} (h : RX (ms.2.1 0) (st.2.1 2)) : RX (mLay ms) (opH st) := RX_cong (fun x hx => lay_eq ms hx) (fun x hx => opH_eq st hx) h
theorem leave_2 (st : ST) (nx sz : Nat) : (xLeave st nx sz).2.1 2 = st.2.1 2 := rfl
theorem RX_cn {m g : Nat → Int32} (h : RX m g) : mCn m (fun k => szN g k) := fun k hk => ⟨(h k hk).1.1, szN_le g k⟩
theorem mLR_i (st : ST) (sz : Nat) {j : Nat} (hj : ¬ j = 0) : (mLR st sz).1 j = st.1 j := by unfold mLR mRem; rw [sI_1, if_neg hj, sA_1, sA_1]
theorem mLR_a (st : ST) (sz : Nat) {j : Nat} (h1 : ¬ j = 1) (h2 : ¬ j = 2) : (mLR st sz).2.1 j = st.2.1 j := by unfold mLR mRem; rw [sI_2, sA_21, if_neg h2, sA_21, if_neg h1]
theorem mLR_z (st : ST) (sz : Nat) : (mLR st sz).1 0 = nI (mRemN sz + 1) := by unfold mLR mRem; rw [sI_1, if_pos rfl]
/-- the new sheets of both, behind leaveState and laysAside, remembers -/
theorem Rel_sheet {xs ms : ST} {L nx sz : Nat} {g' m' h3 : Nat → Int32} (h : Rel xs ms L nx sz) (hR : RX m' g') : Rel (sA (sA (xLeave xs nx sz) 3 h3) 2 g') (sA (mLR ms sz) 0 m') L ((nx + 1) % 6) (min (sz + 1) 6) := by
  refine Rel_new h hR rfl ?_ rfl ?_ rfl rfl rfl ?_ rfl rfl ?_ rfl ?_ (fun c hc => if_pos hc) rfl
  · rw [sA_21, if_neg (by decide), mLR_a ms sz (by decide) (by decide)]
  · rw [sA_1, mLR_i ms sz (by decide)]
  · rw [sA_21, if_neg (by decide), mLR_a ms sz (by decide) (by decide)]
  · rw [sA_1, mLR_z]
  · rw [sA_21, if_neg (by decide)]
theorem Rel_sheet1 {xs ms : ST} {L nx sz : Nat} {g' m' : Nat → Int32} (h : Rel xs ms L nx sz) (hR : RX m' g') : Rel (sA (xLeave xs nx sz) 2 g') (sA (mLR ms sz) 0 m') L ((nx + 1) % 6) (min (sz + 1) 6) := by
  have e : sA (xLeave xs nx sz) 2 g' = sA (sA (xLeave xs nx sz) 3 ((xLeave xs nx sz).2.1 3)) 2 g' := by rw [sA_self rfl]
  rw [e]
  exact Rel_sheet h hR
theorem ax_way {way : Nat} (h : way < 2) : 1 - (1 - way) = way := by omega
theorem Rel_comes {xs ms : ST} {L nx sz way a n : Nat} (h : Rel xs ms L nx sz) (hw : way < 2) (ha : a < 6) (hn1 : 1 ≤ n) (hn : n ≤ 6) :
    ∃ cn, mCn (mShC (mLay ms) way (fun x => cmN x a n) (ms.2.1 0)) cn ∧ (xComes xs nx sz way a n).1 = (mComes ms sz way a n cn).1 ∧ ∃ nx' sz', Rel (xComes xs nx sz way a n).2 (mComes ms sz way a n cn).2 L nx' sz' := by
  have hax : 1 - way < 2 := by omega
  have hh : RX (mLay ms) (opH (xLeave xs nx sz)) := lay_opH (st := xLeave xs nx sz) h.1
  have hs := RX_shift (gm := ms.2.1 0) (gx := (xLeave xs nx sz).2.1 2) hax (LO_cm a n) hh
  have hc := RX_cn hs
  rw [ax_way hw] at hc
  refine ⟨_, hc, ?_⟩
  have hwl := RX_wl (n := n) hax ha h.1
  rw [ax_way hw] at hwl
  unfold xComes mComes
  rw [hwl]
  by_cases c1 : wlL (xs.2.1 2) (1 - way) a n 36 0 = true
  · rw [if_pos c1, if_pos c1]
    exact ⟨rfl, nx, sz, Rel_no h⟩
  · rw [if_neg c1, if_neg c1]
    have hr := RX_come (s := a) (n := n) (gm := ms.2.1 0) (gx := (xLeave xs nx sz).2.1 2) hax ha hn1 (by omega) hh (RX_cn hs)
    rw [ax_way hw] at hr
    refine ⟨?_, _, _, Rel_sheet h hr⟩
    show nI (xFilled _) = nI (mFil _)
    rw [RX_fil hr]
    rfl
theorem Rel_goes {xs ms : ST} {L nx sz way a n : Nat} (h : Rel xs ms L nx sz) (hw : way < 2) (ha : a < 6) (hn1 : 1 ≤ n) (hn : a + n ≤ 6) :
    ∃ cn, mCn (mShC (mLay ms) way (fun x => goN x a n) (ms.2.1 0)) cn ∧ nI (xFilled ((xClose xs nx sz (1 - way) a n).2.1 2)) = nI (mFil (mGoesG ms way a n cn)) ∧ Rel (xClose xs nx sz (1 - way) a n) (sA (mLR ms sz) 0 (mGoesG ms way a n cn)) L ((nx + 1) % 6) (min (sz + 1) 6) := by
  have hax : 1 - way < 2 := by omega
  have hh : RX (mLay ms) (opH (xLeave xs nx sz)) := lay_opH (st := xLeave xs nx sz) h.1
  have hs := RX_shift (gm := ms.2.1 0) (gx := (xLeave xs nx sz).2.1 2) hax (LO_go a n) hh
  have hc := RX_cn hs
  rw [ax_way hw] at hc
  refine ⟨_, hc, ?_⟩
  have hr := RX_go (s := a) (n := n) (gm := ms.2.1 0) (gx := (xLeave xs nx sz).2.1 2) hax ha hn1 (by omega) hh (RX_cn hs)
  rw [ax_way hw] at hr
  refine ⟨?_, Rel_sheet h hr⟩
  show nI (xFilled _) = nI (mFil _)
  unfold mGoesG
  rw [RX_fil hr]
  rfl
theorem Rel_empties {xs ms : ST} {L nx sz k : Nat} (h : Rel xs ms L nx sz) (hk : k < 36) : nI (szL (xs.2.1 2) k 4 0) = ms.2.1 0 (25 * k) ∧ Rel (sA (xLeave xs nx sz) 2 (dropF k ((xLeave xs nx sz).2.1 2))) (sA (mLR ms sz) 0 (mEmp (ms.2.1 0) (25 * k))) L ((nx + 1) % 6) (min (sz + 1) 6) :=
  ⟨(h.1 k hk).1.1.symm, Rel_sheet1 h (RX_emp h.1)⟩
theorem Rel_moves {xs ms : ST} {L nx sz c r p q wd ht : Nat} (h : Rel xs ms L nx sz) (hA : AR c r p q wd ht) :
    ∃ cn, mCn (mMvG ms c r p q wd ht) cn ∧ (xMvS xs nx sz c r p q wd ht).1 = (mMvR ms c r p q wd ht cn).1 ∧ Rel (xMvS xs nx sz c r p q wd ht).2 (sA (mLR ms sz) 0 (mMvR ms c r p q wd ht cn).2) L ((nx + 1) % 6) (min (sz + 1) 6) := by
  have hh : RX (mLay ms) (opH (xLeave xs nx sz)) := lay_opH (st := xLeave xs nx sz) h.1
  have hg : RX (mMvG ms c r p q wd ht) (mvG (xLeave xs nx sz) c r p q wd ht) := RX_mvG hA h.1 hh
  have hr := RX_mv hA hg (RX_cn hg)
  exact ⟨_, RX_cn hg, hr.2, Rel_sheet h hr.1⟩
theorem Rel_copies {xs ms : ST} {L nx sz c r p q wd ht : Nat} (h : Rel xs ms L nx sz) (hA : AR c r p q wd ht) :
    ∃ cn : Nat → Nat, (∀ i, i < wd * ht → mLay ms (mPo c r wd i) = nI (cn i) ∧ cn i ≤ 4) ∧ (xCyS xs nx sz c r p q wd ht).1 = (mCyR ms c r p q wd ht cn).1 ∧ Rel (xCyS xs nx sz c r p q wd ht).2 (sA (mLR ms sz) 0 (mCyR ms c r p q wd ht cn).2) L ((nx + 1) % 6) (min (sz + 1) 6) := by
  have hh : RX (mLay ms) (opH (xLeave xs nx sz)) := lay_opH (st := xLeave xs nx sz) h.1
  have hc : ∀ i, i < wd * ht → mLay ms (mPo c r wd i) = nI (szN (opH (xLeave xs nx sz)) (arC c r wd i)) ∧ szN (opH (xLeave xs nx sz)) (arC c r wd i) ≤ 4 := fun i hi => by
    rw [mPo_arC]
    exact ⟨(hh _ (arC_lt hi hA.1 hA.2.2.1 hA.2.2.2.1)).1.1, szN_le _ _⟩
  have hr := RX_cy (cn := fun i => szN (opH (xLeave xs nx sz)) (arC c r wd i)) hA h.1 hh hc
  exact ⟨_, hc, hr.2, Rel_sheet h hr.1⟩
