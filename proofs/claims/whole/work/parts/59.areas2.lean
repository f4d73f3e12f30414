theorem RX_mvG {m g hm hx : Nat → Int32} {c r p q wd ht : Nat} (hA : AR c r p q wd ht) (h : RX m g) (hh : RX hm hx) :
    RX (lp (fun i g => mTak hm g (mPo p q wd i) (mPo c r wd i)) (wd * ht) 0 (lp (fun i g => mEmp g (mPo c r wd i)) (wd * ht) 0 m)) (lp (fun i g => cpT hx g (arC c r wd i) (arC p q wd i)) (wd * ht) 0 (lp (fun i g => dropF (arC c r wd i) g) (wd * ht) 0 g)) := by
  obtain ⟨w1, w2, w3, w4, w5, w6⟩ := hA
  refine lp_rel (f := fun i g => mTak hm g (mPo p q wd i) (mPo c r wd i)) (g := fun i g => cpT hx g (arC c r wd i) (arC p q wd i)) (fun _ a b => RX a b) (wd * ht) 0 _ _ ?_ ?_
  · refine lp_rel (f := fun i g => mEmp g (mPo c r wd i)) (g := fun i g => dropF (arC c r wd i) g) (fun _ a b => RX a b) (wd * ht) 0 _ _ h ?_
    intro i a b _ hi hr
    show RX (mEmp a (mPo c r wd i)) (dropF (arC c r wd i) b)
    rw [mPo_arC]
    exact RX_emp hr
  · intro i a b _ hi hr
    show RX (mTak hm a (mPo p q wd i) (mPo c r wd i)) (cpT hx b (arC c r wd i) (arC p q wd i))
    rw [mPo_arC, mPo_arC]
    exact RX_cp (arC_lt (by omega) (by omega) w3 w4) hr hh
theorem mvT_0 (c r p q wd ht : Nat) : mvT c r p q wd ht 0 = 0 := if_pos (by decide)
theorem RX_mv {m g : Nat → Int32} {c r p q wd ht : Nat} {cn : Nat → Nat} (hA : AR c r p q wd ht) (h : RX m g) (hc : mCn m cn) :
    RX (lp (mMvW c r p q wd ht cn) 36 0 (0, m)).2 (lp (mvF c r p q wd ht) 144 0 (0, g)).2 ∧ (lp (mvF c r p q wd ht) 144 0 (0, g)).1 = (lp (mMvW c r p q wd ht cn) 36 0 (0, m)).1 := by
  refine (termLoop (fun a : Nat × (Nat → Int32) => a.2) (fun b : Nat × (Nat → Int32) => b.2) (fun a b => a.1 = b.1) (mvF c r p q wd ht) (fun ta x => mMvF c r p q wd ht ta x) cn ?_ ?_ (0, g) (0, m) h rfl hc).1
  · intro k i a b hk hi hr he h0
    obtain ⟨n, g⟩ := a
    obtain ⟨n', m⟩ := b
    have he : n = n' := he
    subst he
    have h1 := mv_term (n := n) hA ((hr k hk).2.2 i hi) h0 ((hr k hk).1.2 i hi)
    exact ⟨⟨RX_step hr hk hi h0 h1.2.2.2.1 h1.2.2.1 h1.1 h1.2.1, h1.2.2.2.2.symm⟩, fun j => upd_zero h0 h1.2.2.2.1 j⟩
  · intro k i a hk hi h0
    obtain ⟨n, g⟩ := a
    have h0 : g (k * 4 + i) = 0 := h0
    unfold mvF
    rw [show (n, g).2 (k * 4 + i) = 0 from h0, mvT_0, if_pos rfl]
    show (n, upd g (k * 4 + i) 0) = (n, g)
    rw [upd_self g h0]
theorem tFur_0 (a b c : Int32) : tFur 0 a b c = 0 := if_pos (by decide)
theorem tFur_4 (a b c : Int32) : tFur 4 a b c = 4 := if_pos (by decide)
/-- a term of a copied cell -/
theorem cy_term {t : Int32} {g : Nat → Int32} {ta n c r p q : Nat} (ht0 : Wt t) (h0 : ¬ t = 0) (h : at6 g ta (V t)) :
    at6 (mCyF c r p q ta (n, g)).2 ta (V (tFur t (nI p - nI c) (nI q - nI r) (tFix t))) ∧ off6 g (mCyF c r p q ta (n, g)).2 ta ∧ Wt (tFur t (nI p - nI c) (nI q - nI r) (tFix t)) ∧ ¬ tFur t (nI p - nI c) (nI q - nI r) (tFix t) = 0 ∧ (mCyF c r p q ta (n, g)).1 = (if tFur t (nI p - nI c) (nI q - nI r) (tFix t) = 4 then n + 1 else n) := by
  by_cases hr : tRef t = true
  · have h1 := go_term (ac := nI p - nI c) (dn := nI q - nI r) ht0 hr h
    have hk : g (ta + 0) = 1 ∨ g (ta + 0) = 2 := by
      rw [h 0 (by decide)]
      revert hr
      refine Wt_cases (C := fun t => tRef t = true → V t 0 = 1 ∨ V t 0 = 2) ht0 (fun h => absurd h (by decide)) (fun h => absurd h (by decide)) (fun n hn h => absurd h (by rw [eN_ref hn]; decide)) (fun f x y h1 h2 h3 _ => Or.inl (V_P (by omega) (by omega) (by omega) 0 (by decide))) (fun f a b c d h1 h2 h3 h4 h5 _ => Or.inr (V_B (by omega) (by omega) (by omega) (by omega) (by omega) 0 (by decide)))
    have e : mCyF c r p q ta (n, g) = (if mGo g ta (nI p - nI c) (nI q - nI r) (ta + 0) = 3 then n + 1 else n, mGo g ta (nI p - nI c) (nI q - nI r)) := if_pos hk
    rw [e]
    refine ⟨h1.1, h1.2.1, h1.2.2.1, h1.2.2.2.1, ?_⟩
    show (if mGo g ta (nI p - nI c) (nI q - nI r) (ta + 0) = 3 then n + 1 else n) = _
    by_cases e2 : tFur t (nI p - nI c) (nI q - nI r) (tFix t) = 4
    · rw [if_pos e2, if_pos (h1.2.2.2.2.mpr e2)]
    · rw [if_neg e2, if_neg (fun e3 => e2 (h1.2.2.2.2.mp e3))]
  · have hr : tRef t = false := Bool.eq_false_iff.mpr hr
    have ef : tFur t (nI p - nI c) (nI q - nI r) (tFix t) = t := if_pos hr
    rw [ef]
    revert hr h0 h
    refine Wt_cases (C := fun t => ¬ t = 0 → at6 g ta (V t) → tRef t = false → at6 (mCyF c r p q ta (n, g)).2 ta (V t) ∧ off6 g (mCyF c r p q ta (n, g)).2 ta ∧ Wt t ∧ ¬ t = 0 ∧ (mCyF c r p q ta (n, g)).1 = if t = 4 then n + 1 else n) ht0 (fun h => absurd rfl h) ?_ ?_ (fun f x y _ _ _ _ _ h => absurd h (by rw [eP_ref]; decide)) (fun f a b c d _ _ _ _ _ _ _ h => absurd h (by rw [eB_ref]; decide))
    · intro _ h _
      have e : mCyF c r p q ta (n, g) = (if g (ta + 0) = 3 then n + 1 else n, g) := if_neg (by show ¬ (g (ta + 0) = 1 ∨ g (ta + 0) = 2); rw [h 0 (by decide), V_k0]; decide)
      rw [e, h 0 (by decide), V_k0, if_pos rfl, if_pos rfl]
      exact ⟨h, off6_rfl g ta, Wt_4, by decide, rfl⟩
    · intro m hm _ h _
      have e : mCyF c r p q ta (n, g) = (if g (ta + 0) = 3 then n + 1 else n, g) := if_neg (by show ¬ (g (ta + 0) = 1 ∨ g (ta + 0) = 2); rw [h 0 (by decide), V_kN hm]; decide)
      rw [e, h 0 (by decide), V_kN hm, if_neg (by decide), if_neg (eN_ne4 hm)]
      exact ⟨h, off6_rfl g ta, Wt_N hm, eN_ne0 hm, rfl⟩
def spX (cols rows : Int32) (j : Nat) (x : Nat × (Nat → Int32)) : Nat × (Nat → Int32) :=
  (if tFur (x.2 j) cols rows (tFix (x.2 j)) = 4 then x.1 + 1 else x.1, upd x.2 j (tFur (x.2 j) cols rows (tFix (x.2 j))))
theorem RX_cy {m g hm hx : Nat → Int32} {c r p q wd ht : Nat} {cn : Nat → Nat} (hA : AR c r p q wd ht) (h : RX m g) (hh : RX hm hx) (hc : ∀ i, i < wd * ht → hm (mPo c r wd i) = nI (cn i) ∧ cn i ≤ 4) :
    RX (lp (mCyW hm c r p q wd cn) (wd * ht) 0 (0, m)).2 (lp (cyF hx c r p q wd) (wd * ht) 0 (0, g)).2 ∧ (lp (cyF hx c r p q wd) (wd * ht) 0 (0, g)).1 = (lp (mCyW hm c r p q wd cn) (wd * ht) 0 (0, m)).1 := by
  obtain ⟨w1, w2, w3, w4, w5, w6⟩ := hA
  refine lp_rel (f := cyF hx c r p q wd) (g := mCyW hm c r p q wd cn) (fun _ a b => RX b.2 a.2 ∧ a.1 = b.1) (wd * ht) 0 (0, g) (0, m) ⟨h, rfl⟩ ?_
  intro i a b _ hi hr
  obtain ⟨n, g⟩ := a
  obtain ⟨n', m⟩ := b
  obtain ⟨hr, he⟩ := hr
  have he : n = n' := he
  subst he
  have hi' : i < wd * ht := by omega
  have hs : arC c r wd i < 36 := arC_lt hi' (by omega) w3 w4
  have hd : arC p q wd i < 36 := arC_lt hi' (by omega) w5 w6
  have h1 := RX_cp (to := arC p q wd i) hs hr hh
  have hcn : cn i = szN (cpT hx g (arC c r wd i) (arC p q wd i)) (arC p q wd i) := by
    have e1 := (hc i hi').1
    rw [mPo_arC, (hh _ hs).1.1, nI_eq (Nat.lt_of_le_of_lt (szN_le _ _) (by decide)) (Nat.lt_of_le_of_lt (hc i hi').2 (by decide))] at e1
    rw [← e1]
    exact szN_cong (fun j hj => by rw [cpT_eq, if_pos (by omega), show arC p q wd i * 4 + j - arC p q wd i * 4 = j by omega])
  have h2 := cellLoop (fun a : Nat × (Nat → Int32) => a.2) (fun b : Nat × (Nat → Int32) => b.2) (fun a b => n + a.1 = b.1) (spX (nI p - nI c) (nI q - nI r)) (fun ta x => mCyF c r p q ta x) (arC p q wd i) (cn i) hd ?_ ?_ (0, cpT hx g (arC c r wd i) (arC p q wd i)) (n, mTak hm m (25 * arC p q wd i) (25 * arC c r wd i)) h1 (Nat.add_zero n) hcn
  · have e : mCyW hm c r p q wd cn i (n, m) = lp (fun i' x => mCyF c r p q (25 * arC p q wd i + 1 + 6 * i') x) (cn i) 0 (n, mTak hm m (25 * arC p q wd i) (25 * arC c r wd i)) := by
      unfold mCyW
      rw [mPo_arC, mPo_arC]
    rw [e]
    exact h2.1
  · intro j a b hj hr he h0
    obtain ⟨na, ga⟩ := a
    obtain ⟨nb, mb⟩ := b
    have he : n + na = nb := he
    have h3 := cy_term (n := nb) (c := c) (r := r) (p := p) (q := q) ((hr _ hd).2.2 j hj) h0 ((hr _ hd).1.2 j hj)
    refine ⟨⟨RX_step hr hd hj h0 h3.2.2.2.1 h3.2.2.1 h3.1 h3.2.1, ?_⟩, fun j => upd_zero h0 h3.2.2.2.1 j⟩
    rw [h3.2.2.2.2]
    show n + (if tFur (ga (arC p q wd i * 4 + j)) (nI p - nI c) (nI q - nI r) (tFix (ga (arC p q wd i * 4 + j))) = 4 then na + 1 else na) = _
    dsimp only
    split <;> omega
  · intro j a hj h0
    obtain ⟨na, ga⟩ := a
    have h0 : ga (arC p q wd i * 4 + j) = 0 := h0
    unfold spX
    rw [show (na, ga).2 (arC p q wd i * 4 + j) = 0 from h0, tFur_0, if_neg (by decide)]
    show (na, upd ga (arC p q wd i * 4 + j) 0) = (na, ga)
    rw [upd_self ga h0]
theorem cnt_cong {p q : Nat → Bool} : ∀ (k i n : Nat), (∀ j, i ≤ j → j < i + k → p j = q j) → cnt p k i n = cnt q k i n
  | 0, _, _, _ => rfl
  | k + 1, i, n, h => by
    show cnt p k (i + 1) _ = cnt q k (i + 1) _
    rw [h i (Nat.le_refl i) (by omega)]
    exact cnt_cong k (i + 1) _ (fun j h1 h2 => h j (by omega) (by omega))
theorem RX_emptyI {m g : Nat → Int32} (h : RX m g) {k : Nat} (hk : k < 36) : m (25 * k) = 0 ↔ g (k * 4) = 0 := by
  have h1 := szN_iff (h k hk).2.1 0 (by decide)
  rw [(h k hk).1.1, show (0 : Int32) = nI 0 from rfl, nI_eq (Nat.lt_of_le_of_lt (szN_le _ _) (by decide)) (by decide)]
  constructor
  · intro e
    exact Classical.byContradiction fun e2 => absurd (h1.mpr e2) (by omega)
  · intro e
    exact Classical.byContradiction fun e2 => h1.mp (by omega) e
theorem RX_fil {m g : Nat → Int32} (h : RX m g) : mFil m = xFilled g := by
  unfold mFil xFilled
  refine cnt_cong 36 0 0 (fun k _ hk => ?_)
  have h1 := RX_emptyI h (k := k) (by omega)
  have h2 : tm g k 0 = g (k * 4) := rfl
  rw [h2, decide_eq_decide]
  exact not_congr h1
