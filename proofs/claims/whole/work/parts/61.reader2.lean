theorem num_rel (f : Nat → Int32) (L : Nat) : ∀ k P v, (mNumL f L k P v).2.1 = (rNumL f L k P v).2 ∧ (mNumL f L k P v).2.2 = (rNumL f L k P v).1 ∧ ((mNumL f L k P v).1 = true ↔ rFig (rAt f L (rNumL f L k P v).2) = false)
  | 0, P, v => by
    have e : mAt f L P 48 57 = rFig (rAt f L P) := mAt_eq (by decide)
    show (if mAt f L P 48 57 = true then (false, P, v) else (true, P, v)).2.1 = P ∧ (if mAt f L P 48 57 = true then (false, P, v) else (true, P, v)).2.2 = v ∧ ((if mAt f L P 48 57 = true then (false, P, v) else (true, P, v)).1 = true ↔ rFig (rAt f L P) = false)
    rw [e]
    cases rFig (rAt f L P) <;> simp
  | k + 1, P, v => by
    have e : mAt f L P 48 57 = rFig (rAt f L P) := mAt_eq (by decide)
    show (if mAt f L P 48 57 = true then mNumL f L k (P + 1) (10 * v + f P - 48) else (true, P, v)).2.1 = (if rFig (rAt f L P) = true then rNumL f L k (P + 1) (10 * v + rAt f L P - 48) else (v, P)).2 ∧ (if mAt f L P 48 57 = true then mNumL f L k (P + 1) (10 * v + f P - 48) else (true, P, v)).2.2 = (if rFig (rAt f L P) = true then rNumL f L k (P + 1) (10 * v + rAt f L P - 48) else (v, P)).1 ∧ ((if mAt f L P 48 57 = true then mNumL f L k (P + 1) (10 * v + f P - 48) else (true, P, v)).1 = true ↔ rFig (rAt f L (if rFig (rAt f L P) = true then rNumL f L k (P + 1) (10 * v + rAt f L P - 48) else (v, P)).2) = false)
    rw [e]
    by_cases h : rFig (rAt f L P) = true
    · have hP : P < L := rFig_lt h
      rw [if_pos h, if_pos h, show rAt f L P = f P from if_pos hP]
      exact num_rel f L k (P + 1) _
    · rw [if_neg h, if_neg h]
      refine ⟨rfl, rfl, ?_⟩
      simp [Bool.eq_false_iff.mpr h]
theorem dg : ∀ b, b < 128 → rFig (nI b) = true → ∀ w, w < 100 → 10 * nI w + nI b - 48 = nI (10 * w + (b - 48)) := by
  intro b hb h w hw
  have h1 := chFig b hb h
  rw [show (10 : Int32) = nI 10 from rfl, nI_mul, nI_add, show (48 : Int32) = nI 48 from rfl, nI_sub (by omega)]
  congr 1; omega
theorem num_val {f : Nat → Int32} {L : Nat} (hT : TB f L) : ∀ k P w, (w + 1) * 10 ^ k ≤ 1000 → ∃ n, n < 1000 ∧ (rNumL f L k P (nI w)).1 = nI n
  | 0, P, w, h => ⟨w, by omega, rfl⟩
  | k + 1, P, w, h => by
    show ∃ n, n < 1000 ∧ (if rFig (rAt f L P) = true then rNumL f L k (P + 1) (10 * nI w + rAt f L P - 48) else (nI w, P)).1 = nI n
    have hp : 0 < 10 ^ k := Nat.le_trans (Nat.one_le_two_pow (n := k)) (Nat.pow_le_pow_left (by decide) k)
    have h10 : (w + 1) * 10 ^ (k + 1) = (10 * (w + 1)) * 10 ^ k := by rw [Nat.pow_succ, Nat.mul_comm 10 (w + 1), Nat.mul_assoc, Nat.mul_comm (10 ^ k) 10]
    have hw : 10 * (w + 1) ≤ 1000 := Nat.le_trans (Nat.le_mul_of_pos_right (10 * (w + 1)) hp) (by rw [← h10]; exact h)
    by_cases e : rFig (rAt f L P) = true
    · rw [if_pos e]
      rcases rAt_or hT P with e2 | ⟨b, hb, e2⟩
      · rw [e2] at e; exact absurd e (by decide)
      · rw [e2] at e ⊢
        rw [dg b hb e w (by omega)]
        have h1 := chFig b hb e
        refine num_val hT k (P + 1) (10 * w + (b - 48)) ?_
        rw [h10] at h
        exact Nat.le_trans (Nat.mul_le_mul_right _ (by omega)) h
    · rw [if_neg e]
      exact ⟨w, by omega, rfl⟩
/-- one term is read alike -/
theorem term_rel {f : Nat → Int32} {L P Q ta : Nat} {arr : Nat → Int32} {w : Int32} (hT : TB f L) (hP : P ≤ L) (e : rNx f L Q = rNx f L P) (ha : at6 arr ta (v6 0 0 0 0 0 0)) :
    (¬ (rTerm f L P).1 = 0 ∧ Wt (rTerm f L P).1 ∧ (mTerm f L ta (Q, arr, w)).1 = true ∧ rNx f L (mTerm f L ta (Q, arr, w)).2.1 = rNx f L (rTerm f L P).2 ∧ at6 (mTerm f L ta (Q, arr, w)).2.2.1 ta (V (rTerm f L P).1) ∧ off6 arr (mTerm f L ta (Q, arr, w)).2.2.1 ta) ∨
    ((rTerm f L P).1 = 0 ∧ (mTerm f L ta (Q, arr, w)).1 = false ∧ (mTerm f L ta (Q, arr, w)).2.1 = rNx f L (rTerm f L P).2) ∨
    (¬ (rTerm f L P).1 = 0 ∧ (mTerm f L ta (Q, arr, w)).1 = false ∧ (mTerm f L ta (Q, arr, w)).2.1 = (rTerm f L P).2 ∧ rFig (rAt f L (rTerm f L P).2) = true) := by
  have hN : rNx f L P ≤ L := rNx_le hP
  have hch : rCh f L P = rAt f L (rNx f L P) := rfl
  have hch2 : rCh f L (rNx f L P) = rAt f L (rNx f L P) := by unfold rCh; rw [rNx_idem hP]
  have h35 : mAt f L (rNx f L P) 35 35 = decide (rAt f L (rNx f L P) = 35) := mAt_1 (by decide)
  have h48 : mAt f L (rNx f L P) 48 57 = rFig (rAt f L (rNx f L P)) := mAt_eq (by decide)
  have htk : rTkB f L (rNx f L P) 35 = decide (rAt f L (rNx f L P) = 35) := by unfold rTkB; rw [hch2]
  unfold mTerm rTerm
  show (¬ _ ∧ _) ∨ _
  rw [show (Q, arr, w).1 = Q from rfl, e, h35, h48, hch, htk]
  by_cases c1 : rFig (rAt f L (rNx f L P)) = true
  · have n35 : ¬ rAt f L (rNx f L P) = 35 := by
      rcases rAt_or hT (rNx f L P) with e2 | ⟨b, hb, e2⟩
      · rw [e2]; decide
      · rw [e2] at c1 ⊢; exact (chFig b hb c1).2.2.2.1
    rw [decide_eq_false n35, c1, if_neg (show ¬ (false = true) from Bool.false_ne_true), if_pos rfl, if_pos rfl]
    obtain ⟨n, hn, ev⟩ := num_val hT 3 (rNx f L P) 0 (by decide)
    have nr := num_rel f L 3 (rNx f L P) (nI 0)
    have e0 : (0 : Int32) = nI 0 := rfl
    unfold mNum
    rw [show (rNx f L P, (Q, arr, w).2.1, (Q, arr, w).2.2).1 = rNx f L P from rfl]
    by_cases c2 : (mNumL f L 3 (rNx f L P) 0).1 = true
    · left
      rw [if_pos c2]
      show ¬ tOfNum (rNumL f L 3 (rNx f L P) 0).1 = 0 ∧ Wt (tOfNum (rNumL f L 3 (rNx f L P) 0).1) ∧ true = true ∧ rNx f L (mNumL f L 3 (rNx f L P) 0).2.1 = rNx f L (rNumL f L 3 (rNx f L P) 0).2 ∧ at6 (upd (upd arr (ta + 0) 0) (ta + 1) (mNumL f L 3 (rNx f L P) 0).2.2) ta (V (tOfNum (rNumL f L 3 (rNx f L P) 0).1)) ∧ off6 arr (upd (upd arr (ta + 0) 0) (ta + 1) (mNumL f L 3 (rNx f L P) 0).2.2) ta
      rw [show (mNumL f L 3 (rNx f L P) 0).2.1 = (rNumL f L 3 (rNx f L P) 0).2 from nr.1, show (mNumL f L 3 (rNx f L P) 0).2.2 = (rNumL f L 3 (rNx f L P) 0).1 from nr.2.1, show (rNumL f L 3 (rNx f L P) 0).1 = nI n from ev]
      exact ⟨eN_ne0 hn, Wt_N hn, rfl, rfl, at6_v (at_u1 (at_u0 ha)) (fun w hw => (V_N hn w hw).symm), off6_upd (off6_upd (off6_rfl arr ta) (by decide)) (by decide)⟩
    · right; right
      rw [if_neg c2]
      show ¬ tOfNum (rNumL f L 3 (rNx f L P) 0).1 = 0 ∧ false = false ∧ (mNumL f L 3 (rNx f L P) 0).2.1 = (rNumL f L 3 (rNx f L P) 0).2 ∧ rFig (rAt f L (rNumL f L 3 (rNx f L P) 0).2) = true
      rw [show (mNumL f L 3 (rNx f L P) 0).2.1 = (rNumL f L 3 (rNx f L P) 0).2 from nr.1]
      refine ⟨?_, rfl, rfl, ?_⟩
      · rw [show (rNumL f L 3 (rNx f L P) 0).1 = nI n from ev]; exact eN_ne0 hn
      · apply Classical.byContradiction
        intro h
        exact c2 (nr.2.2.mpr (Bool.eq_false_iff.mpr h))
  · rw [if_neg c1, Bool.eq_false_iff.mpr c1]
    by_cases c2 : rAt f L (rNx f L P) = 35
    · left
      have etk : rTkP f L (rNx f L P) 35 = rNx f L P + 1 := by unfold rTkP; rw [hch2, if_pos c2, rNx_idem hP]
      rw [decide_eq_true c2, if_pos rfl, if_pos rfl, etk]
      exact ⟨show ¬ (4 : Int32) = 0 by decide, Wt_4, rfl, rfl, at6_v (at_u0 ha) (fun w hw => (V_4 w hw).symm), off6_upd (off6_rfl arr ta) (by decide)⟩
    · have etk : rTkP f L (rNx f L P) 35 = rNx f L P := by unfold rTkP; rw [hch2, if_neg c2, rNx_idem hP]
      rw [decide_eq_false c2, if_neg (show ¬ (false = true) from Bool.false_ne_true), if_neg (show ¬ (false = true) from Bool.false_ne_true), if_neg (show ¬ (false = true) from Bool.false_ne_true), etk]
      show (¬ (rRef f L (rNx f L P)).1 = 0 ∧ _) ∨ _
      have h1 := pl_rel (ta := ta) (col := 1) (bit := 1) (w := w) (Q := rNx f L P) hT hN rfl (Or.inl rfl) (at_u0 (x := 1) ha)
      unfold rRef
      rcases h1 with ⟨p1, p2, p3, p4⟩ | ⟨fx, j, r, hfx, hj, hr, p1, p2, p3, p4, p5, p6⟩
      · right; left
        rw [show (mPl f L ta 1 1 (rNx f L P, upd (Q, arr, w).2.1 (ta + 0) 1, (Q, arr, w).2.2)).1 = false from p2, if_neg (show ¬ (false = true) from Bool.false_ne_true), if_pos p1]
        exact ⟨p1, rfl, p3.trans p4.symm⟩
      · rw [show (mPl f L ta 1 1 (rNx f L P, upd (Q, arr, w).2.1 (ta + 0) 1, (Q, arr, w).2.2)).1 = true from p2, if_pos rfl]
        have hne : ¬ (rPl f L (rNx f L P)).1 = 0 := by rw [p1]; exact eP_ne0
        rw [if_neg hne]
        have hle : (rPl f L (rNx f L P)).2 ≤ L := rPl_le hN
        have q5 : at6 (mPl f L ta 1 1 (rNx f L P, upd arr (ta + 0) 1, w)).2.2.1 ta (v6 1 (nI j) (nI r) 0 0 (nI fx)) := by
          refine at6_v p5 ?_
          apply all6 <;> simp [v6]
        have q6 : off6 arr (mPl f L ta 1 1 (rNx f L P, upd arr (ta + 0) 1, w)).2.2.1 ta := off6_tr (off6_upd (off6_rfl arr ta) (by decide)) p6
        unfold mTermB
        rw [show (mPl f L ta 1 1 (rNx f L P, upd (Q, arr, w).2.1 (ta + 0) 1, (Q, arr, w).2.2)).2.1 = (rPl f L (rNx f L P)).2 from p3]
        have h58 : mAt f L (rNx f L (rPl f L (rNx f L P)).2) 58 58 = rTkB f L (rPl f L (rNx f L P)).2 58 := mAt_1 (by decide)
        rw [h58]
        by_cases c3 : rTkB f L (rPl f L (rNx f L P)).2 58 = true
        · rw [c3, if_neg (show ¬ (true = false) by decide), if_pos rfl]
          have hc : rCh f L (rPl f L (rNx f L P)).2 = 58 := of_decide_eq_true c3
          have etk2 : rTkP f L (rPl f L (rNx f L P)).2 58 = rNx f L (rPl f L (rNx f L P)).2 + 1 := if_pos hc
          have hle2 : rTkP f L (rPl f L (rNx f L P)).2 58 ≤ L := rTkP_le hle (by decide)
          have h2 := pl_rel (ta := ta) (col := 3) (bit := 4) (w := (mPl f L ta 1 1 (rNx f L P, upd arr (ta + 0) 1, w)).2.2.2) (Q := rNx f L (rPl f L (rNx f L P)).2 + 1) hT hle2 (by rw [etk2]) (Or.inr rfl) (at_u0 (x := 2) q5)
          rcases h2 with ⟨s1, s2, s3, s4⟩ | ⟨fx', j', r', hfx', hj', hr', s1, s2, s3, s4, s5, s6⟩
          · right; left
            rw [show (mPl f L ta 3 4 (rNx f L (rPl f L (rNx f L P)).2 + 1, upd (mPl f L ta 1 1 (rNx f L P, upd (Q, arr, w).2.1 (ta + 0) 1, (Q, arr, w).2.2)).2.2.1 (ta + 0) 2, (mPl f L ta 1 1 (rNx f L P, upd (Q, arr, w).2.1 (ta + 0) 1, (Q, arr, w).2.2)).2.2.2)).1 = false from s2, if_neg (show ¬ (false = true) from Bool.false_ne_true), if_pos s1]
            exact ⟨rfl, rfl, s3.trans s4.symm⟩
          · left
            rw [show (mPl f L ta 3 4 (rNx f L (rPl f L (rNx f L P)).2 + 1, upd (mPl f L ta 1 1 (rNx f L P, upd (Q, arr, w).2.1 (ta + 0) 1, (Q, arr, w).2.2)).2.2.1 (ta + 0) 2, (mPl f L ta 1 1 (rNx f L P, upd (Q, arr, w).2.1 (ta + 0) 1, (Q, arr, w).2.2)).2.2.2)).1 = true from s2, if_pos rfl, if_neg (by rw [s1]; exact eP_ne0), p1, s1, ofBl hfx hj hr hfx' hj' hr']
            have q7 : at6 (mPl f L ta 3 4 (rNx f L (rPl f L (rNx f L P)).2 + 1, upd (mPl f L ta 1 1 (rNx f L P, upd arr (ta + 0) 1, w)).2.2.1 (ta + 0) 2, (mPl f L ta 1 1 (rNx f L P, upd arr (ta + 0) 1, w)).2.2.2)).2.2.1 ta (v6 2 (nI j) (nI r) (nI j') (nI r') (nI (fx + 4 * fx'))) := by
              refine at6_v s5 ?_
              apply all6 <;> simp [v6, nI_add]
            have so := sort_at (by omega) hj hr hj' hr' q7
            exact ⟨so.2.2.2.1, so.2.2.1, rfl, congrArg (rNx f L) s3, so.1, off6_tr (off6_tr (off6_upd q6 (by decide)) s6) so.2.1⟩
        · left
          have hc : ¬ rCh f L (rPl f L (rNx f L P)).2 = 58 := fun h => c3 (decide_eq_true h)
          have etk2 : rTkP f L (rPl f L (rNx f L P)).2 58 = rNx f L (rPl f L (rNx f L P)).2 := if_neg hc
          rw [Bool.eq_false_iff.mpr c3, if_pos rfl, if_neg (show ¬ (false = true) from Bool.false_ne_true), etk2, p1]
          exact ⟨eP_ne0, Wt_P hfx hj hr, rfl, rfl, (at_P (by omega) (by omega) (by omega)).mp q5, q6⟩
