theorem pr_lt {a b : Nat} (ha : a < 2 ^ 31) (hb : b < 2 ^ 31) : (nI a < nI b) = (a < b) := propext (nI_ltI ha hb)
theorem pr_le {a b : Nat} (ha : a < 2 ^ 31) (hb : b < 2 ^ 31) : (nI a ≤ nI b) = (a ≤ b) := propext (nI_leI ha hb)
theorem arH_P {f x y c r wd ht : Nat} (hf : f < 16) (hx : x < 6) (hy : y < 6) (hc : c + wd ≤ 6) (hr : r + ht ≤ 6) : arH (eP f x y) c r wd ht = true ↔ (c ≤ x ∧ x < c + wd) ∧ (r ≤ y ∧ y < r + ht) := by
  unfold arH
  rw [eP_le0 hf (by omega) (by omega), eP_gr0 hf (by omega) (by omega), eP_le1 hf (by omega) (by omega), eP_gr1 hf (by omega) (by omega)]
  simp only [pr_lt (a := x) (b := c) (by omega) (by omega), pr_le (a := c + wd) (b := x) (by omega) (by omega), pr_lt (a := y) (b := r) (by omega) (by omega), pr_le (a := r + ht) (b := y) (by omega) (by omega), Bool.and_eq_true, Bool.not_eq_true', decide_eq_false_iff_not]
  omega
theorem arH_B {f a b e d c r wd ht : Nat} (hf : f < 16) (h1 : a ≤ e) (h2 : b ≤ d) (he : e < 6) (hd : d < 6) (hc : c + wd ≤ 6) (hr : r + ht ≤ 6) : arH (eB f a b e d) c r wd ht = true ↔ (c ≤ a ∧ e < c + wd) ∧ (r ≤ b ∧ d < r + ht) := by
  unfold arH
  rw [eB_le0 hf (by omega) (by omega) (by omega) (by omega), eB_gr0 hf (by omega) (by omega) (by omega) (by omega), eB_le1 hf (by omega) (by omega) (by omega) (by omega), eB_gr1 hf (by omega) (by omega) (by omega) (by omega)]
  simp only [pr_lt (a := a) (b := c) (by omega) (by omega), pr_le (a := c + wd) (b := e) (by omega) (by omega), pr_lt (a := b) (b := r) (by omega) (by omega), pr_le (a := r + ht) (b := d) (by omega) (by omega), Bool.and_eq_true, Bool.not_eq_true', decide_eq_false_iff_not]
  omega
theorem mLi_P {g : Nat → Int32} {ta f x y c r wd ht : Nat} (hf : f < 16) (hx : x < 6) (hy : y < 6) (h : at6 g ta (v6 1 (nI x) (nI y) 0 0 (nI f))) : mLi g ta c r wd ht = arH (eP f x y) c r wd ht := by
  unfold arH mLi
  rw [eP_le0 hf (by omega) (by omega), eP_gr0 hf (by omega) (by omega), eP_le1 hf (by omega) (by omega), eP_gr1 hf (by omega) (by omega), show g (ta + 0) = 1 from h 0 (by decide), show g (ta + 1) = nI x from h 1 (by decide), show g (ta + 2) = nI y from h 2 (by decide), if_neg (by decide), if_neg (by decide)]
theorem mLi_B {g : Nat → Int32} {ta f a b e d c r wd ht : Nat} (hf : f < 16) (h1 : a ≤ e) (h2 : b ≤ d) (he : e < 6) (hd : d < 6) (h : at6 g ta (v6 2 (nI a) (nI b) (nI e) (nI d) (nI f))) : mLi g ta c r wd ht = arH (eB f a b e d) c r wd ht := by
  unfold arH mLi
  rw [eB_le0 hf (by omega) (by omega) (by omega) (by omega), eB_gr0 hf (by omega) (by omega) (by omega) (by omega), eB_le1 hf (by omega) (by omega) (by omega) (by omega), eB_gr1 hf (by omega) (by omega) (by omega) (by omega), show g (ta + 0) = 2 from h 0 (by decide), show g (ta + 1) = nI a from h 1 (by decide), show g (ta + 2) = nI b from h 2 (by decide), show g (ta + 3) = nI e from h 3 (by decide), show g (ta + 4) = nI d from h 4 (by decide), if_pos rfl, if_pos rfl]
theorem dl : ∀ x, x < 6 → ∀ p, p < 6 → ∀ c, c < 6 → c ≤ x → nI x + (nI p - nI c) = nI (x - c + p) := by decide +kernel
theorem isW5 {x : Nat} (h : x < 6) : xIsW (nI x) 0 5 = true := xIsW_nI (a := 0) (b := 5) (by omega) (by omega) (by decide)
def AR (c r p q wd ht : Nat) : Prop := 1 ≤ wd ∧ 1 ≤ ht ∧ c + wd ≤ 6 ∧ r + ht ≤ 6 ∧ p + wd ≤ 6 ∧ q + ht ≤ 6
/-- a term when an area moves -/
theorem mv_term {t : Int32} {g : Nat → Int32} {ta n c r p q wd ht : Nat} (hA : AR c r p q wd ht) (ht0 : Wt t) (h0 : ¬ t = 0) (h : at6 g ta (V t)) :
    at6 (mMvF c r p q wd ht ta (n, g)).2 ta (V (mvT c r p q wd ht t)) ∧ off6 g (mMvF c r p q wd ht ta (n, g)).2 ta ∧ Wt (mvT c r p q wd ht t) ∧ ¬ mvT c r p q wd ht t = 0 ∧ (mMvF c r p q wd ht ta (n, g)).1 = (if mvT c r p q wd ht t = t then n else if mvT c r p q wd ht t = 4 then n + 1 else n) := by
  obtain ⟨w1, w2, w3, w4, w5, w6⟩ := hA
  revert h0 h
  refine Wt_cases (C := fun t => ¬ t = 0 → at6 g ta (V t) → at6 (mMvF c r p q wd ht ta (n, g)).2 ta (V (mvT c r p q wd ht t)) ∧ off6 g (mMvF c r p q wd ht ta (n, g)).2 ta ∧ Wt (mvT c r p q wd ht t) ∧ ¬ mvT c r p q wd ht t = 0 ∧ (mMvF c r p q wd ht ta (n, g)).1 = (if mvT c r p q wd ht t = t then n else if mvT c r p q wd ht t = 4 then n + 1 else n)) ht0 (fun h => absurd rfl h) ?_ ?_ ?_ ?_
  · intro _ h
    have e : mvT c r p q wd ht 4 = 4 := if_pos (by decide)
    have e2 : mMvF c r p q wd ht ta (n, g) = (n, g) := if_neg (by show ¬ (g (ta + 0) = 1 ∨ g (ta + 0) = 2); rw [h 0 (by decide), V_k0]; decide)
    rw [e, e2, if_pos rfl]
    exact ⟨h, off6_rfl g ta, Wt_4, by decide, rfl⟩
  · intro m hm _ h
    have e : mvT c r p q wd ht (eN m) = eN m := if_pos (eN_ref hm)
    have e2 : mMvF c r p q wd ht ta (n, g) = (n, g) := if_neg (by show ¬ (g (ta + 0) = 1 ∨ g (ta + 0) = 2); rw [h 0 (by decide), V_kN hm]; decide)
    rw [e, e2, if_pos rfl]
    exact ⟨h, off6_rfl g ta, Wt_N hm, eN_ne0 hm, rfl⟩
  · intro f x y hf hx hy _ h
    have h' := (at_P (f := f) (by omega) (by omega) (by omega)).mpr h
    have e0 : g (ta + 0) = 1 := h' 0 (by decide)
    have eF : mMvF c r p q wd ht ta (n, g) = (if mLi g ta c r wd ht = true then (n, mPu g ta (nI p - nI c) (nI q - nI r)) else if mLi g ta p q wd ht = true then (n + 1, mBrk g ta) else (n, g)) := if_pos (Or.inl e0)
    have eT : mvT c r p q wd ht (eP f x y) = (if arH (eP f x y) c r wd ht = true then tFur (eP f x y) (nI p - nI c) (nI q - nI r) 0 else if arH (eP f x y) p q wd ht = true then 4 else eP f x y) := by
      unfold mvT; rw [eP_ref, if_neg (by decide)]
    rw [eF, eT]
    rw [mLi_P (by omega) hx hy h', mLi_P (by omega) hx hy h']
    by_cases c1 : arH (eP f x y) c r wd ht = true
    · have i1 := (arH_P (by omega) hx hy w3 w4).mp c1
      have ef : tFur (eP f x y) (nI p - nI c) (nI q - nI r) 0 = eP f (x - c + p) (y - r + q) := by
        rw [fur_P, show (0 : Int32) = nI 0 from rfl, furX_0 (s := 0) (by decide) (eP_co0 (by omega) (by omega) (by omega)), furX_1 (s := 0) (by decide) (eP_co1 (by omega) (by omega) (by omega)), goD_0, goD_0, dl x hx p (by omega) c (by omega) i1.1.1, dl y hy q (by omega) r (by omega) i1.2.1]
        rw [show nI 0 = (0 : Int32) from rfl, if_pos (isW5 (by omega)), if_pos (isW5 (by omega)), eP_w0 (by omega) (by omega) (by omega) (by omega), eP_w1 (by omega) (by omega) (by omega) (by omega)]
      have m2 : mPu2 g ta (nI p - nI c) (nI q - nI r) = upd (upd g (ta + 1) (nI (x - c + p))) (ta + 2) (nI (y - r + q)) := by
        unfold mPu2
        rw [upd_other _ _ (show ta + 2 ≠ ta + 1 by omega), show g (ta + 1) = nI x from h' 1 (by decide), show g (ta + 2) = nI y from h' 2 (by decide), dl x hx p (by omega) c (by omega) i1.1.1, dl y hy q (by omega) r (by omega) i1.2.1]
      have h2 : at6 (mPu2 g ta (nI p - nI c) (nI q - nI r)) ta (v6 1 (nI (x - c + p)) (nI (y - r + q)) 0 0 (nI f)) := by rw [m2]; exact at_u2 (at_u1 h')
      have mp : mPu g ta (nI p - nI c) (nI q - nI r) = mPu2 g ta (nI p - nI c) (nI q - nI r) := if_neg (by rw [show mPu2 g ta (nI p - nI c) (nI q - nI r) (ta + 0) = 1 from h2 0 (by decide)]; decide)
      rw [if_pos c1, if_pos c1, ef, mp]
      refine ⟨(at_P (by omega) (by omega) (by omega)).mp h2, by rw [m2]; exact off6_upd (off6_upd (off6_rfl g ta) (by decide)) (by decide), Wt_P hf (by omega) (by omega), eP_ne0, ?_⟩
      rw [if_neg eP_ne4]; split <;> rfl
    · rw [if_neg c1, if_neg c1]
      by_cases c2 : arH (eP f x y) p q wd ht = true
      · rw [if_pos c2, if_pos c2, if_neg (fun e => eP_ne4 e.symm), if_pos rfl]
        exact ⟨brk_at g ta, brk_off g ta, Wt_4, by decide, rfl⟩
      · rw [if_neg c2, if_neg c2, if_pos rfl]
        exact ⟨h, off6_rfl g ta, Wt_P hf hx hy, eP_ne0, rfl⟩
  · intro f a b e d hf h1 h2 he hd _ h
    have h' := (at_B (f := f) (by omega) (by omega) (by omega) (by omega) (by omega)).mpr h
    have e0 : g (ta + 0) = 2 := h' 0 (by decide)
    have eF : mMvF c r p q wd ht ta (n, g) = (if mLi g ta c r wd ht = true then (n, mPu g ta (nI p - nI c) (nI q - nI r)) else if mLi g ta p q wd ht = true then (n + 1, mBrk g ta) else (n, g)) := if_pos (Or.inr e0)
    have eT : mvT c r p q wd ht (eB f a b e d) = (if arH (eB f a b e d) c r wd ht = true then tFur (eB f a b e d) (nI p - nI c) (nI q - nI r) 0 else if arH (eB f a b e d) p q wd ht = true then 4 else eB f a b e d) := by
      unfold mvT; rw [eB_ref, if_neg (by decide)]
    rw [eF, eT]
    rw [mLi_B (by omega) h1 h2 he hd h', mLi_B (by omega) h1 h2 he hd h']
    by_cases c1 : arH (eB f a b e d) c r wd ht = true
    · have i1 := (arH_B (by omega) h1 h2 he hd w3 w4).mp c1
      have ef : tFur (eB f a b e d) (nI p - nI c) (nI q - nI r) 0 = eB f (a - c + p) (b - r + q) (e - c + p) (d - r + q) := by
        rw [fur_B, show (0 : Int32) = nI 0 from rfl, furX_0 (s := 0) (by decide) (eB_co0 hf (by omega) (by omega) (by omega) (by omega)), furX_1 (s := 0) (by decide) (eB_co1 hf (by omega) (by omega) (by omega) (by omega)), furX_2 (s := 0) (by decide) (eB_co2 hf (by omega) (by omega) (by omega) (by omega)), furX_3 (s := 0) (by decide) (eB_co3 hf (by omega) (by omega) (by omega) (by omega)), goD_0, goD_0, goD_0, goD_0, dl a (by omega) p (by omega) c (by omega) (by omega), dl b (by omega) q (by omega) r (by omega) (by omega), dl e (by omega) p (by omega) c (by omega) (by omega), dl d (by omega) q (by omega) r (by omega) (by omega)]
        rw [show nI 0 = (0 : Int32) from rfl, if_pos (isW5 (by omega)), if_pos (isW5 (by omega)), if_pos (isW5 (by omega)), if_pos (isW5 (by omega)), eB_w0 hf (by omega) (by omega) (by omega) (by omega) (by omega), eB_w1 hf (by omega) (by omega) (by omega) (by omega) (by omega), eB_w2 hf (by omega) (by omega) (by omega) (by omega) (by omega), eB_w3 hf (by omega) (by omega) (by omega) (by omega) (by omega), ord_id hf (by omega) (by omega) (by omega) (by omega)]
      have m2 : mPu2 g ta (nI p - nI c) (nI q - nI r) = upd (upd g (ta + 1) (nI (a - c + p))) (ta + 2) (nI (b - r + q)) := by
        unfold mPu2
        rw [upd_other _ _ (show ta + 2 ≠ ta + 1 by omega), show g (ta + 1) = nI a from h' 1 (by decide), show g (ta + 2) = nI b from h' 2 (by decide), dl a (by omega) p (by omega) c (by omega) (by omega), dl b (by omega) q (by omega) r (by omega) (by omega)]
      have hh2 : at6 (mPu2 g ta (nI p - nI c) (nI q - nI r)) ta (v6 2 (nI (a - c + p)) (nI (b - r + q)) (nI e) (nI d) (nI f)) := by rw [m2]; exact at_u2 (at_u1 h')
      have mp : mPu g ta (nI p - nI c) (nI q - nI r) = mPu4 (mPu2 g ta (nI p - nI c) (nI q - nI r)) ta (nI p - nI c) (nI q - nI r) := if_pos (hh2 0 (by decide))
      have m4 : mPu4 (mPu2 g ta (nI p - nI c) (nI q - nI r)) ta (nI p - nI c) (nI q - nI r) = upd (upd (mPu2 g ta (nI p - nI c) (nI q - nI r)) (ta + 3) (nI (e - c + p))) (ta + 4) (nI (d - r + q)) := by
        unfold mPu4
        rw [upd_other _ _ (show ta + 4 ≠ ta + 3 by omega), show mPu2 g ta (nI p - nI c) (nI q - nI r) (ta + 3) = nI e from hh2 3 (by decide), show mPu2 g ta (nI p - nI c) (nI q - nI r) (ta + 4) = nI d from hh2 4 (by decide), dl e (by omega) p (by omega) c (by omega) (by omega), dl d (by omega) q (by omega) r (by omega) (by omega)]
      have h4 : at6 (mPu4 (mPu2 g ta (nI p - nI c) (nI q - nI r)) ta (nI p - nI c) (nI q - nI r)) ta (v6 2 (nI (a - c + p)) (nI (b - r + q)) (nI (e - c + p)) (nI (d - r + q)) (nI f)) := by rw [m4]; exact at_u4 (at_u3 hh2)
      rw [if_pos c1, if_pos c1, ef, mp]
      refine ⟨(at_B hf (by omega) (by omega) (by omega) (by omega)).mp h4, by rw [m4, m2]; exact off6_upd (off6_upd (off6_upd (off6_upd (off6_rfl g ta) (by decide)) (by decide)) (by decide)) (by decide), Wt_B hf (by omega) (by omega) (by omega) (by omega), eB_ne0, ?_⟩
      rw [if_neg eB_ne4]; split <;> rfl
    · rw [if_neg c1, if_neg c1]
      by_cases c2 : arH (eB f a b e d) p q wd ht = true
      · rw [if_pos c2, if_pos c2, if_neg (fun e => eB_ne4 e.symm), if_pos rfl]
        exact ⟨brk_at g ta, brk_off g ta, Wt_4, by decide, rfl⟩
      · rw [if_neg c2, if_neg c2, if_pos rfl]
        exact ⟨h, off6_rfl g ta, Wt_B hf h1 h2 he hd, eB_ne0, rfl⟩
theorem RX_emp {m g : Nat → Int32} {k : Nat} (h : RX m g) : RX (mEmp m (25 * k)) (dropF k g) := by
  intro k' hk'
  by_cases e : k' = k
  · subst e
    have h1 : ∀ i, i < 4 → dropF k' g (k' * 4 + i) = 0 := fun i hi => by rw [dropF_eq, if_pos (by omega)]
    exact ⟨CR_empty (fun j hj => by rw [mEmp_eq, if_pos (by omega)]) h1, CW_empty h1⟩
  · have h1 : ∀ i, i < 4 → dropF k g (k' * 4 + i) = g (k' * 4 + i) := fun i hi => by rw [dropF_eq, if_neg (by omega)]
    exact ⟨CR_copy (fun j hj => by rw [mEmp_eq, if_neg (by omega)]) h1 (h k' hk').1, CW_copy h1 (h k' hk').2⟩
theorem RX_cp {m g hm hx : Nat → Int32} {k to : Nat} (hk : k < 36) (h : RX m g) (hh : RX hm hx) : RX (mTak hm m (25 * to) (25 * k)) (cpT hx g k to) := by
  intro k' hk'
  by_cases e : k' = to
  · subst e
    have h1 : ∀ i, i < 4 → cpT hx g k k' (k' * 4 + i) = hx (k * 4 + i) := fun i hi => by rw [cpT_eq, if_pos (by omega)]; congr 1; omega
    exact ⟨CR_copy (fun j hj => by rw [mTak_eq, if_pos (by omega)]; congr 1; omega) h1 (hh k hk).1, CW_copy h1 (hh k hk).2⟩
  · have h1 : ∀ i, i < 4 → cpT hx g k to (k' * 4 + i) = g (k' * 4 + i) := fun i hi => by rw [cpT_eq, if_neg (by omega)]
    exact ⟨CR_copy (fun j hj => by rw [mTak_eq, if_neg (by omega)]) h1 (h k' hk').1, CW_copy h1 (h k' hk').2⟩
theorem mPo_arC (c r wd i : Nat) : mPo c r wd i = 25 * arC c r wd i := by unfold mPo arC; omega
