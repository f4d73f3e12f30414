def PR (a b : PG) : Prop := a.1 = b.1 ∧ ∀ j, j < a.1 → a.2 j = b.2 j
theorem pgA_eq {x : PG} {v : Int32} (h : x.1 < 39) : pgA x v = (x.1 + 1, upd x.2 x.1 v) := if_neg (by omega)
theorem PR_add {a b : PG} {v : Int32} (h : PR a b) (hl : a.1 < 39) : PR (pgA a v) (mw b v) ∧ (pgA a v).1 = a.1 + 1 := by
  rw [pgA_eq hl]
  refine ⟨⟨?_, fun j hj => ?_⟩, rfl⟩
  · show a.1 + 1 = b.1 + 1
    rw [h.1]
  · show upd a.2 a.1 v j = upd b.2 b.1 v j
    have hj : j < a.1 + 1 := hj
    rw [← h.1]
    by_cases e : j = a.1
    · rw [e, upd_same, upd_same]
    · rw [upd_other _ _ e, upd_other _ _ e]; exact h.2 j (by omega)
theorem sb0 : ∀ f, f < 16 → ((nI f >>> ((0 : Int32) &&& 31)) &&& 1 = 0 ↔ ¬ nI f &&& 1 = 1) ∧ ((nI f >>> ((0 : Int32) &&& 31)) &&& 2 = 0 ↔ ¬ nI f &&& 2 = 2) := by decide +kernel
theorem sb2 : ∀ f, f < 16 → ((nI f >>> ((2 : Int32) &&& 31)) &&& 1 = 0 ↔ ¬ (nI f >>> ((2 : Int32) &&& 31)) &&& 1 = 1) ∧ ((nI f >>> ((2 : Int32) &&& 31)) &&& 2 = 0 ↔ ¬ (nI f >>> ((2 : Int32) &&& 31)) &&& 2 = 2) := by decide +kernel
theorem PR_pl {t fx0 col row : Int32} {s : Int32} {a b : PG} (h1 : (tFix t >>> (s &&& 31)) &&& 1 = 0 ↔ ¬ fx0 &&& 1 = 1) (h2 : (tFix t >>> (s &&& 31)) &&& 2 = 0 ↔ ¬ fx0 &&& 2 = 2) (hc : tCo t s = col) (hr : tCo t (s + 1) = row) (h : PR a b) (hl : a.1 + 4 ≤ 39) :
    PR (pgPl t s a) (mwPl col row fx0 b) ∧ (pgPl t s a).1 ≤ a.1 + 4 := by
  have p1 : PR (pgPl1 t s a) (mwP1 fx0 b) ∧ (pgPl1 t s a).1 ≤ a.1 + 1 := by
    unfold pgPl1 mwP1
    by_cases e : fx0 &&& 1 = 1
    · rw [if_pos e, if_neg (fun h => h1.mp h e)]
      have := PR_add (v := 36) h (by omega)
      exact ⟨this.1, by omega⟩
    · rw [if_neg e, if_pos (h1.mpr e)]
      exact ⟨h, by omega⟩
  have p2 : PR (pgPl2 t s a) (mwP2 col fx0 b) ∧ (pgPl2 t s a).1 ≤ a.1 + 2 := by
    unfold pgPl2 mwP2
    rw [hc]
    have := PR_add (v := 65 + col) p1.1 (by omega)
    exact ⟨this.1, by omega⟩
  have p3 : PR (pgPl3 t s a) (mwP3 col fx0 b) ∧ (pgPl3 t s a).1 ≤ a.1 + 3 := by
    unfold pgPl3 mwP3
    by_cases e : fx0 &&& 2 = 2
    · rw [if_pos e, if_neg (fun h => h2.mp h e)]
      have := PR_add (v := 36) p2.1 (by omega)
      exact ⟨this.1, by omega⟩
    · rw [if_neg e, if_pos (h2.mpr e)]
      exact ⟨p2.1, by omega⟩
  unfold pgPl mwPl
  rw [hr]
  have := PR_add (v := 49 + row) p3.1 (by omega)
  exact ⟨this.1, by omega⟩
theorem PR_num {n : Nat} {a b : PG} (hn : n < 1000) (h : PR a b) (hl : a.1 + 3 ≤ 39) : PR (pgNum (nI n) a) (mwNum (nI n) b) ∧ (pgNum (nI n) a).1 ≤ a.1 + 3 := by
  have p1 : PR (pgN1 (nI n) a) (mwN1 (nI n) b) ∧ (pgN1 (nI n) a).1 ≤ a.1 + 1 := by
    unfold pgN1 mwN1
    by_cases e : n < 100
    · rw [if_pos (show nI n < 100 from nI_lt (b := 100) e (by decide)), if_pos (show nI n ≤ 99 from nI_le (b := 99) (by omega) (by decide))]
      exact ⟨h, by omega⟩
    · rw [if_neg (show ¬ nI n < 100 from nI_nlt (b := 100) (by omega) (by omega)), if_neg (show ¬ nI n ≤ 99 from nI_ge (a := 99) (by omega) (by omega))]
      have := PR_add (v := 48 + nI n / 100) h (by omega)
      exact ⟨this.1, by omega⟩
  have p2 : PR (pgN2 (nI n) a) (mwN2 (nI n) b) ∧ (pgN2 (nI n) a).1 ≤ a.1 + 2 := by
    unfold pgN2 mwN2
    by_cases e : n < 10
    · rw [if_pos (show nI n < 10 from nI_lt (b := 10) e (by decide)), if_pos (show nI n ≤ 9 from nI_le (b := 9) (by omega) (by decide))]
      exact ⟨p1.1, by omega⟩
    · rw [if_neg (show ¬ nI n < 10 from nI_nlt (b := 10) (by omega) (by omega)), if_neg (show ¬ nI n ≤ 9 from nI_ge (a := 9) (by omega) (by omega))]
      have := PR_add (v := 48 + (nI n / 10 - nI n / 10 / 10 * 10)) p1.1 (by omega)
      exact ⟨this.1, by omega⟩
  unfold pgNum mwNum
  have := PR_add (v := 48 + (nI n - nI n / 10 * 10)) p2.1 (by omega)
  exact ⟨this.1, by omega⟩
theorem PR_term {t : Int32} {m : Nat → Int32} {ta : Nat} {a b : PG} (ht : Wt t) (h0 : ¬ t = 0) (hm : at6 m ta (V t)) (h : PR a b) (hl : a.1 + 9 ≤ 39) : PR (pgT t a) (mwT m ta b) ∧ (pgT t a).1 ≤ a.1 + 9 := by
  revert h0 hm
  refine Wt_cases (C := fun t => ¬ t = 0 → at6 m ta (V t) → PR (pgT t a) (mwT m ta b) ∧ (pgT t a).1 ≤ a.1 + 9) ht (fun h => absurd rfl h) ?_ ?_ ?_ ?_
  · intro _ hm
    unfold pgT mwT
    rw [hm 0 (by decide), V_k0, if_neg (by decide), if_neg (by decide), if_neg (by decide), if_neg (by decide), if_neg (by decide), if_neg (by decide)]
    have := PR_add (v := 35) h (by omega)
    exact ⟨this.1, by omega⟩
  · intro n hn _ hm
    unfold pgT mwT
    rw [hm 0 (by decide), hm 1 (by decide), V_kN hn, show V (eN n) 1 = nI n from V_N hn 1 (by decide), eN_kind hn, eN_num hn, if_pos rfl, if_pos rfl]
    have := PR_num hn h (by omega)
    exact ⟨this.1, by omega⟩
  · intro f x y hf hx hy _ hm
    have hm := (at_P (f := f) (by omega) (by omega) (by omega)).mpr hm
    unfold pgT mwT
    rw [show m (ta + 0) = 1 from hm 0 (by decide), show m (ta + 1) = nI x from hm 1 (by decide), show m (ta + 2) = nI y from hm 2 (by decide), show m (ta + 5) = nI f from hm 5 (by decide), eP_kind, if_neg (by decide), if_pos rfl, if_neg (by decide), if_pos rfl]
    have := PR_pl (t := eP f x y) (fx0 := nI f) (s := 0) (by rw [eP_fix (by omega)]; exact (sb0 f (by omega)).1) (by rw [eP_fix (by omega)]; exact (sb0 f (by omega)).2) (eP_co0 (by omega) (by omega) (by omega)) (eP_co1 (by omega) (by omega) (by omega)) h (by omega)
    exact ⟨this.1, by omega⟩
  · intro f x y p q hf h1 h2 hp hq _ hm
    have hm := (at_B (f := f) (by omega) (by omega) (by omega) (by omega) (by omega)).mpr hm
    unfold pgT mwT
    rw [show m (ta + 0) = 2 from hm 0 (by decide), show m (ta + 1) = nI x from hm 1 (by decide), show m (ta + 2) = nI y from hm 2 (by decide), show m (ta + 3) = nI p from hm 3 (by decide), show m (ta + 4) = nI q from hm 4 (by decide), show m (ta + 5) = nI f from hm 5 (by decide), eB_kind, if_neg (by decide), if_neg (by decide), if_pos rfl, if_neg (by decide), if_neg (by decide), if_pos rfl]
    have r1 := PR_pl (t := eB f x y p q) (fx0 := nI f) (s := 0) (by rw [eB_fix hf]; exact (sb0 f hf).1) (by rw [eB_fix hf]; exact (sb0 f hf).2) (eB_co0 hf (by omega) (by omega) (by omega) (by omega)) (eB_co1 hf (by omega) (by omega) (by omega) (by omega)) h (by omega)
    have r2 := PR_add (v := 58) r1.1 (by omega)
    have r3 := PR_pl (t := eB f x y p q) (fx0 := nI f >>> ((2 : Int32) &&& 31)) (s := 2) (by rw [eB_fix hf]; exact (sb2 f hf).1) (by rw [eB_fix hf]; exact (sb2 f hf).2) (eB_co2 hf (by omega) (by omega) (by omega) (by omega)) (eB_co3 hf (by omega) (by omega) (by omega) (by omega)) r2.1 (by omega)
    exact ⟨r3.1, by omega⟩
theorem pgL_lp (g : Nat → Int32) (cell : Nat) : ∀ k i x, pgL g cell k i x = lp (fun i x => pgT (tm g cell i) (if i = 0 then x else pgA x 43)) k i x
  | 0, _, _ => rfl
  | k + 1, i, x => pgL_lp g cell k (i + 1) _
theorem RX_shown {m g : Nat → Int32} {k n : Nat} (h : RX m g) (hk : k < 36) (hn : m (25 * k) = nI n) (hn4 : n ≤ 4) (x y : Nat → Int32) : PR (pgW g k x) (lp (mwL m (25 * k)) n 0 (0, y)) := by
  have hs : szL g k 4 0 = n := by
    have h1 := (h k hk).1.1
    rw [hn, nI_eq (by omega) (Nat.lt_of_le_of_lt (szN_le _ _) (by decide))] at h1
    exact h1.symm
  unfold pgW
  rw [pgL_lp, hs]
  have hI := szN_iff (h k hk).2.1
  have := lp_rel (f := fun i x => pgT (tm g k i) (if i = 0 then x else pgA x 43)) (g := mwL m (25 * k)) (fun i a b => PR a b ∧ a.1 ≤ 10 * i - 1) n 0 (0, x) (0, y) ⟨⟨rfl, fun j hj => absurd hj (by show ¬ j < 0; omega)⟩, Nat.le_refl _⟩ (by
    intro i a b _ hi hr
    have hz : ¬ g (k * 4 + i) = 0 := (hI i (by omega)).mp (by show i < szL g k 4 0; omega)
    have h3 : PR (if i = 0 then a else pgA a 43) (if i = 0 then b else mw b 43) ∧ (if i = 0 then a else pgA a 43).1 ≤ 10 * i := by
      by_cases e : i = 0
      · rw [if_pos e, if_pos e]; exact ⟨hr.1, by omega⟩
      · rw [if_neg e, if_neg e]
        have h4 := PR_add (v := 43) hr.1 (by omega)
        exact ⟨h4.1, by omega⟩
    have h5 := PR_term ((h k hk).2.2 i (by omega)) hz ((h k hk).1.2 i (by omega)) h3.1 (by omega)
    exact ⟨h5.1, by show (pgT (g (k * 4 + i)) _).1 ≤ _; omega⟩)
  exact this.1
