theorem isW_of {x : Int32} (h : xIsW x 0 5 = true) : ∃ n, n < 6 ∧ x = nI n := by
  unfold xIsW at h
  simp only [Bool.and_eq_true, Bool.not_eq_true', decide_eq_false_iff_not] at h
  obtain ⟨j, hj, e⟩ := nI_of2 (M := 5) (n := 5) rfl h.1 (nlt_le h.2)
  exact ⟨j, by omega, e⟩
theorem fur_P {f x y : Nat} {cols rows stay : Int32} : tFur (eP f x y) cols rows stay = if xIsW (furX (eP f x y) cols rows stay 0) 0 5 = true then if xIsW (furX (eP f x y) cols rows stay 1) 0 5 = true then tWith (tWith (eP f x y) 0 (furX (eP f x y) cols rows stay 0)) 1 (furX (eP f x y) cols rows stay 1) else 4 else 4 := by
  unfold tFur
  rw [eP_ref, if_neg (by decide), eP_kind, if_neg (by decide)]
  show (if xIsW (furX (eP f x y) cols rows stay 0) 0 5 = true then (if xIsW (furX (eP f x y) cols rows stay 1) 0 5 = true then (if tKind (eP f x y) = 3 then _ else _) else 4) else 4) = _
  rw [eP_kind, if_neg (show ¬ ((2 : Int32) = 3) by decide)]
  rfl
theorem fur_B {f a b c d : Nat} {cols rows stay : Int32} : tFur (eB f a b c d) cols rows stay = if xIsW (furX (eB f a b c d) cols rows stay 0) 0 5 = true then if xIsW (furX (eB f a b c d) cols rows stay 1) 0 5 = true then if xIsW (furX (eB f a b c d) cols rows stay 2) 0 5 = true then if xIsW (furX (eB f a b c d) cols rows stay 3) 0 5 = true then
    tOrd (tWith (tWith (tWith (tWith (eB f a b c d) 0 (furX (eB f a b c d) cols rows stay 0)) 1 (furX (eB f a b c d) cols rows stay 1)) 2 (furX (eB f a b c d) cols rows stay 2)) 3 (furX (eB f a b c d) cols rows stay 3)) else 4 else 4 else 4 else 4 := by
  unfold tFur
  rw [eB_ref, if_neg (by decide), eB_kind, if_pos rfl]
  show (if xIsW (furX (eB f a b c d) cols rows stay 0) 0 5 = true then (if xIsW (furX (eB f a b c d) cols rows stay 1) 0 5 = true then (if xIsW (furX (eB f a b c d) cols rows stay 2) 0 5 = true then (if xIsW (furX (eB f a b c d) cols rows stay 3) 0 5 = true then (if tKind (eB f a b c d) = 3 then _ else _) else 4) else 4) else 4) else 4) = _
  rw [eB_kind, if_pos rfl]
  rfl
theorem fb_0 : ∀ f, f < 16 → ((nI f >>> (nI 0 &&& 31)) &&& 1 = 1 ↔ ¬ nI f &&& 1 = 0) := by decide +kernel
theorem fb_1 : ∀ f, f < 16 → ((nI f >>> (nI 1 &&& 31)) &&& 1 = 1 ↔ ¬ nI f &&& 2 = 0) := by decide +kernel
theorem fb_2 : ∀ f, f < 16 → ((nI f >>> (nI 2 &&& 31)) &&& 1 = 1 ↔ ¬ nI f &&& 4 = 0) := by decide +kernel
theorem fb_3 : ∀ f, f < 16 → ((nI f >>> (nI 3 &&& 31)) &&& 1 = 1 ↔ ¬ nI f &&& 8 = 0) := by decide +kernel
theorem furX_0 {t x cols rows : Int32} {s : Nat} (hs : s < 16) (h : tCo t 0 = x) : furX t cols rows (nI s) 0 = x + mGoD (nI s) 1 cols := by
  unfold furX mGoD
  rw [show tCo t (nI 0) = x from h]
  congr 1
  by_cases e : nI s &&& 1 = 0
  · rw [if_pos e, if_neg (fun h2 => (fb_0 s hs).mp h2 e)]; rfl
  · rw [if_neg e, if_pos ((fb_0 s hs).mpr e)]
theorem furX_1 {t x cols rows : Int32} {s : Nat} (hs : s < 16) (h : tCo t 1 = x) : furX t cols rows (nI s) 1 = x + mGoD (nI s) 2 rows := by
  unfold furX mGoD
  rw [show tCo t (nI 1) = x from h]
  congr 1
  by_cases e : nI s &&& 2 = 0
  · rw [if_pos e, if_neg (fun h2 => (fb_1 s hs).mp h2 e)]; rfl
  · rw [if_neg e, if_pos ((fb_1 s hs).mpr e)]
theorem furX_2 {t x cols rows : Int32} {s : Nat} (hs : s < 16) (h : tCo t 2 = x) : furX t cols rows (nI s) 2 = x + mGoD (nI s) 4 cols := by
  unfold furX mGoD
  rw [show tCo t (nI 2) = x from h]
  congr 1
  by_cases e : nI s &&& 4 = 0
  · rw [if_pos e, if_neg (fun h2 => (fb_2 s hs).mp h2 e)]; rfl
  · rw [if_neg e, if_pos ((fb_2 s hs).mpr e)]
theorem furX_3 {t x cols rows : Int32} {s : Nat} (hs : s < 16) (h : tCo t 3 = x) : furX t cols rows (nI s) 3 = x + mGoD (nI s) 8 rows := by
  unfold furX mGoD
  rw [show tCo t (nI 3) = x from h]
  congr 1
  by_cases e : nI s &&& 8 = 0
  · rw [if_pos e, if_neg (fun h2 => (fb_3 s hs).mp h2 e)]; rfl
  · rw [if_neg e, if_pos ((fb_3 s hs).mpr e)]
theorem goD_0 (b v : Int32) : mGoD (nI 0) b v = v := by
  unfold mGoD
  rw [show nI 0 &&& b = 0 from Int32.zero_and, if_pos rfl]
theorem pl_t {a b : Int32} : xIsPl a b = (xIsW a 0 5 && xIsW b 0 5) := rfl
/-- a term that is copied -/
theorem go_term {t : Int32} {g : Nat → Int32} {ta : Nat} {ac dn : Int32} (ht : Wt t) (hr : tRef t = true) (h : at6 g ta (V t)) :
    at6 (mGo g ta ac dn) ta (V (tFur t ac dn (tFix t))) ∧ off6 g (mGo g ta ac dn) ta ∧ Wt (tFur t ac dn (tFix t)) ∧ ¬ tFur t ac dn (tFix t) = 0 ∧ (mGo g ta ac dn (ta + 0) = 3 ↔ tFur t ac dn (tFix t) = 4) := by
  revert hr h
  refine Wt_cases (C := fun t => tRef t = true → at6 g ta (V t) → at6 (mGo g ta ac dn) ta (V (tFur t ac dn (tFix t))) ∧ off6 g (mGo g ta ac dn) ta ∧ Wt (tFur t ac dn (tFix t)) ∧ ¬ tFur t ac dn (tFix t) = 0 ∧ (mGo g ta ac dn (ta + 0) = 3 ↔ tFur t ac dn (tFix t) = 4)) ht (fun h => absurd h (by decide)) (fun h => absurd h (by decide)) (fun n hn h => absurd h (by rw [eN_ref hn]; decide)) ?_ ?_
  · intro f x y hf hx hy _ h
    have h' := (at_P (f := f) (by omega) (by omega) (by omega)).mpr h
    have e0 : g (ta + 0) = 1 := h' 0 (by decide)
    have e1 : g (ta + 1) = nI x := h' 1 (by decide)
    have e2 : g (ta + 2) = nI y := h' 2 (by decide)
    have e5 : g (ta + 5) = nI f := h' 5 (by decide)
    rw [eP_fix (by omega), fur_P, furX_0 (x := nI x) (by omega) (eP_co0 (by omega) (by omega) (by omega)), furX_1 (x := nI y) (by omega) (eP_co1 (by omega) (by omega) (by omega))]
    have m2 : mGo2 g ta ac dn = upd (upd g (ta + 1) (nI x + mGoD (nI f) 1 ac)) (ta + 2) (nI y + mGoD (nI f) 2 dn) := by
      unfold mGo2 mPu2
      rw [upd_other _ _ (show ta + 2 ≠ ta + 1 by omega), e1, e2, e5]
    have h2 : at6 (mGo2 g ta ac dn) ta (v6 1 (nI x + mGoD (nI f) 1 ac) (nI y + mGoD (nI f) 2 dn) 0 0 (nI f)) := by
      rw [m2]; exact at_u2 (at_u1 h')
    have o2 : off6 g (mGo2 g ta ac dn) ta := by rw [m2]; exact off6_upd (off6_upd (off6_rfl g ta) (by decide)) (by decide)
    have mw2 : mGoW g ta ac dn = (xIsPl (nI x + mGoD (nI f) 1 ac) (nI y + mGoD (nI f) 2 dn), mGo2 g ta ac dn) := by
      unfold mGoW
      rw [show mGo2 g ta ac dn (ta + 0) = 1 from h2 0 (by decide), if_neg (by decide), show mGo2 g ta ac dn (ta + 1) = _ from h2 1 (by decide), show mGo2 g ta ac dn (ta + 2) = _ from h2 2 (by decide)]
      rfl
    have br : ∀ g', off6 g g' ta → at6 (mBrk g' ta) ta (V 4) ∧ off6 g (mBrk g' ta) ta ∧ Wt 4 ∧ ¬ (4 : Int32) = 0 ∧ (mBrk g' ta (ta + 0) = 3 ↔ (4 : Int32) = 4) := fun g' hg' => ⟨brk_at _ ta, off6_tr hg' (brk_off _ ta), Wt_4, by decide, fun _ => rfl, fun _ => brk_at _ ta 0 (by decide)⟩
    unfold mGo
    rw [mw2, pl_t]
    by_cases c0 : xIsW (nI x + mGoD (nI f) 1 ac) 0 5 = true
    · rw [if_pos c0, c0]
      by_cases c1 : xIsW (nI y + mGoD (nI f) 2 dn) 0 5 = true
      · rw [if_pos c1, c1]
        obtain ⟨x', hx', ex⟩ := isW_of c0
        obtain ⟨y', hy', ey⟩ := isW_of c1
        rw [ex, ey] at h2
        rw [ex, ey, eP_w0 (by omega) (by omega) (by omega) (by omega), eP_w1 (by omega) (by omega) (by omega) (by omega)]
        simp only [Bool.and_self, if_true]
        refine ⟨(at_P (by omega) (by omega) (by omega)).mp h2, o2, Wt_P hf hx' hy', eP_ne0, fun e => ?_, fun e => absurd e eP_ne4⟩
        rw [show mGo2 g ta ac dn (ta + 0) = 1 from h2 0 (by decide)] at e
        exact absurd e (by decide)
      · rw [if_neg c1, Bool.eq_false_iff.mpr c1, Bool.and_false]
        simp only [Bool.false_eq_true, if_false]
        simpa using br _ o2
    · rw [if_neg c0, Bool.eq_false_iff.mpr c0, Bool.false_and]
      simp only [Bool.false_eq_true, if_false]
      simpa using br _ o2
  · intro f a b c d hf h1 h2 hc hd _ h
    have h' := (at_B (f := f) (by omega) (by omega) (by omega) (by omega) (by omega)).mpr h
    have e0 : g (ta + 0) = 2 := h' 0 (by decide)
    have e1 : g (ta + 1) = nI a := h' 1 (by decide)
    have e2 : g (ta + 2) = nI b := h' 2 (by decide)
    have e3 : g (ta + 3) = nI c := h' 3 (by decide)
    have e4 : g (ta + 4) = nI d := h' 4 (by decide)
    have e5 : g (ta + 5) = nI f := h' 5 (by decide)
    rw [eB_fix (by omega), fur_B, furX_0 (x := nI a) (by omega) (eB_co0 (by omega) (by omega) (by omega) (by omega) (by omega)), furX_1 (x := nI b) (by omega) (eB_co1 (by omega) (by omega) (by omega) (by omega) (by omega)), furX_2 (x := nI c) (by omega) (eB_co2 (by omega) (by omega) (by omega) (by omega) (by omega)), furX_3 (x := nI d) (by omega) (eB_co3 (by omega) (by omega) (by omega) (by omega) (by omega))]
    have m2 : mGo2 g ta ac dn = upd (upd g (ta + 1) (nI a + mGoD (nI f) 1 ac)) (ta + 2) (nI b + mGoD (nI f) 2 dn) := by
      unfold mGo2 mPu2
      rw [upd_other _ _ (show ta + 2 ≠ ta + 1 by omega), e1, e2, e5]
    have hh2 : at6 (mGo2 g ta ac dn) ta (v6 2 (nI a + mGoD (nI f) 1 ac) (nI b + mGoD (nI f) 2 dn) (nI c) (nI d) (nI f)) := by
      rw [m2]; exact at_u2 (at_u1 h')
    have o2 : off6 g (mGo2 g ta ac dn) ta := by rw [m2]; exact off6_upd (off6_upd (off6_rfl g ta) (by decide)) (by decide)
    have m4 : mGo4 (mGo2 g ta ac dn) ta (nI f) ac dn = upd (upd (mGo2 g ta ac dn) (ta + 3) (nI c + mGoD (nI f) 4 ac)) (ta + 4) (nI d + mGoD (nI f) 8 dn) := by
      unfold mGo4 mPu4
      rw [upd_other _ _ (show ta + 4 ≠ ta + 3 by omega), show mGo2 g ta ac dn (ta + 3) = _ from hh2 3 (by decide), show mGo2 g ta ac dn (ta + 4) = _ from hh2 4 (by decide)]
      rfl
    have h4 : at6 (mGo4 (mGo2 g ta ac dn) ta (nI f) ac dn) ta (v6 2 (nI a + mGoD (nI f) 1 ac) (nI b + mGoD (nI f) 2 dn) (nI c + mGoD (nI f) 4 ac) (nI d + mGoD (nI f) 8 dn) (nI f)) := by
      rw [m4]; exact at_u4 (at_u3 hh2)
    have o4 : off6 g (mGo4 (mGo2 g ta ac dn) ta (nI f) ac dn) ta := by rw [m4]; exact off6_upd (off6_upd o2 (by decide)) (by decide)
    have mw2 : mGoW g ta ac dn = (xIsPl (nI a + mGoD (nI f) 1 ac) (nI b + mGoD (nI f) 2 dn) && xIsPl (nI c + mGoD (nI f) 4 ac) (nI d + mGoD (nI f) 8 dn), mSort (mSort (mGo4 (mGo2 g ta ac dn) ta (nI f) ac dn) ta 1 3 1) ta 2 4 2) := by
      unfold mGoW
      rw [e5, show mGo2 g ta ac dn (ta + 0) = 2 from hh2 0 (by decide), if_pos rfl, show mGo2 g ta ac dn (ta + 1) = _ from hh2 1 (by decide), show mGo2 g ta ac dn (ta + 2) = _ from hh2 2 (by decide), show mGo4 (mGo2 g ta ac dn) ta (nI f) ac dn (ta + 3) = _ from h4 3 (by decide), show mGo4 (mGo2 g ta ac dn) ta (nI f) ac dn (ta + 4) = _ from h4 4 (by decide)]
      rfl
    have oS : ∀ g', off6 g g' ta → off6 g (mSort (mSort g' ta 1 3 1) ta 2 4 2) ta := by
      intro g' hg' x hx
      have s1 : ∀ g : Nat → Int32, ∀ one two bit, one < 6 → two < 6 → mSort g ta one two bit x = g x := by
        intro g one two bit h1 h2
        unfold mSort
        split
        · unfold mSort1
          rw [upd_other _ _ (by omega), upd_other _ _ (by omega), upd_other _ _ (by omega)]
        · rfl
      rw [s1 _ _ _ _ (by decide) (by decide), s1 _ _ _ _ (by decide) (by decide)]
      exact hg' x hx
    unfold mGo
    rw [mw2, pl_t, pl_t]
    have br : ∀ g', off6 g g' ta → at6 (mBrk g' ta) ta (V 4) ∧ off6 g (mBrk g' ta) ta ∧ Wt 4 ∧ ¬ (4 : Int32) = 0 ∧ (mBrk g' ta (ta + 0) = 3 ↔ (4 : Int32) = 4) := fun g' hg' => ⟨brk_at _ ta, off6_tr hg' (brk_off _ ta), Wt_4, by decide, fun _ => rfl, fun _ => brk_at _ ta 0 (by decide)⟩
    by_cases c0 : xIsW (nI a + mGoD (nI f) 1 ac) 0 5 = true
    · rw [if_pos c0, c0]
      by_cases c1 : xIsW (nI b + mGoD (nI f) 2 dn) 0 5 = true
      · rw [if_pos c1, c1]
        by_cases c2 : xIsW (nI c + mGoD (nI f) 4 ac) 0 5 = true
        · rw [if_pos c2, c2]
          by_cases c3 : xIsW (nI d + mGoD (nI f) 8 dn) 0 5 = true
          · rw [if_pos c3, c3]
            obtain ⟨a', ha', ea⟩ := isW_of c0
            obtain ⟨b', hb', eb⟩ := isW_of c1
            obtain ⟨c', hc', ec⟩ := isW_of c2
            obtain ⟨d', hd', ed⟩ := isW_of c3
            rw [ea, eb, ec, ed] at h4
            rw [ea, eb, ec, ed, eB_w0 hf (by omega) (by omega) (by omega) (by omega) (by omega), eB_w1 hf (by omega) (by omega) (by omega) (by omega) (by omega), eB_w2 hf (by omega) (by omega) (by omega) (by omega) (by omega), eB_w3 hf (by omega) (by omega) (by omega) (by omega) (by omega)]
            simp only [Bool.and_self, if_true]
            have s := sort_at hf ha' hb' hc' hd' h4
            refine ⟨s.1, oS _ o4, s.2.2.1, s.2.2.2.1, fun e => ?_, fun e => absurd e s.2.2.2.2⟩
            rw [s.1 0 (by decide)] at e
            exfalso
            revert e
            refine Wt_cases (C := fun t => ¬ t = 0 → ¬ t = 4 → V t 0 = 3 → False) s.2.2.1 (fun h => absurd rfl h) (fun _ h => absurd rfl h) (fun n hn _ _ e => ?_) (fun f c r h1 h2 h3 _ _ e => ?_) (fun f a b c d h1 h2 h3 h4 h5 _ _ e => ?_) s.2.2.2.1 s.2.2.2.2
            · rw [V_kN hn] at e; exact absurd e (by decide)
            · rw [V_P (by omega) (by omega) (by omega) 0 (by decide)] at e; exact absurd (show (1 : Int32) = 3 from e) (by decide)
            · rw [V_B (by omega) (by omega) (by omega) (by omega) (by omega) 0 (by decide)] at e; exact absurd (show (2 : Int32) = 3 from e) (by decide)
          · rw [if_neg c3, Bool.eq_false_iff.mpr c3]
            simp only [Bool.and_false, Bool.false_eq_true, if_false]
            simpa using br _ (oS _ o4)
        · rw [if_neg c2, Bool.eq_false_iff.mpr c2]
          simp only [Bool.false_and, Bool.and_false, Bool.false_eq_true, if_false]
          simpa using br _ (oS _ o4)
      · rw [if_neg c1, Bool.eq_false_iff.mpr c1]
        simp only [Bool.false_and, Bool.and_false, Bool.false_eq_true, if_false]
        simpa using br _ (oS _ o4)
    · rw [if_neg c0, Bool.eq_false_iff.mpr c0]
      simp only [Bool.false_and, Bool.false_eq_true, if_false]
      simpa using br _ (oS _ o4)
