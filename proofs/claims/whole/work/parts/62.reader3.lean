theorem rdL_f (f : Nat → Int32) (L k n P : Nat) (g : Nat → Int32) : rdL f L k n false P g = (if rCh f L P = -1 then nI n else 0, rNx f L P, g) := by cases k <;> rfl
theorem mRdL_f (f : Nat → Int32) (L k n : Nat) (x : RS) : mRdL f L k n false x = if x.1 = L then (true, x) else (false, (x.1, x.2.1, nI x.1)) := by cases k <;> rfl
def RI (n : Nat) (arr g : Nat → Int32) : Prop := arr 0 = nI n ∧ (∀ i, i < n → ¬ g i = 0 ∧ Wt (g i) ∧ at6 arr (1 + 6 * i) (V (g i))) ∧ ∀ i, n ≤ i → i < 4 → g i = 0 ∧ at6 arr (1 + 6 * i) (v6 0 0 0 0 0 0)
theorem RI_step {n : Nat} {arr arr' g : Nat → Int32} {t : Int32} (hn : n < 4) (h : RI n arr g) (ht : ¬ t = 0) (hw : Wt t) (ha : at6 arr' (1 + 6 * n) (V t)) (ho : off6 arr arr' (1 + 6 * n)) : RI (n + 1) (upd arr' 0 (nI (n + 1))) (upd g n t) := by
  refine ⟨upd_same _ _ _, fun i hi => ?_, fun i h1 h2 => ?_⟩
  · by_cases e : i = n
    · rw [e, upd_same]
      refine ⟨ht, hw, fun w hw => ?_⟩
      rw [upd_other _ _ (by omega)]; exact ha w hw
    · rw [upd_other _ _ e]
      have h3 := h.2.1 i (by omega)
      refine ⟨h3.1, h3.2.1, fun w hw => ?_⟩
      rw [upd_other _ _ (by omega), ho _ (by omega)]; exact h3.2.2 w hw
  · rw [upd_other _ _ (by omega)]
    have h3 := h.2.2 i (by omega) h2
    refine ⟨h3.1, fun w hw => ?_⟩
    rw [upd_other _ _ (by omega), ho _ (by omega)]; exact h3.2 w hw
theorem rAt_end {f : Nat → Int32} {L P : Nat} (hT : TB f L) (hP : P ≤ L) : rAt f L P = -1 ↔ P = L := by
  unfold rAt
  by_cases e : P < L
  · rw [if_pos e]
    obtain ⟨b, hb, eb⟩ := hT P e
    rw [eb]
    exact ⟨fun h => absurd h ((by decide +kernel : ∀ b, b < 128 → ¬ nI b = -1) b hb), fun h => absurd h (by omega)⟩
  · rw [if_neg e]
    exact ⟨fun _ => by omega, fun _ => rfl⟩
theorem rd_rel {f : Nat → Int32} {L : Nat} (hT : TB f L) : ∀ (k n P : Nat) (x : RS) (g : Nat → Int32), n + k = 4 → P ≤ L → rNx f L x.1 = rNx f L P → RI n x.2.1 g →
    ((rdL f L k n true P g).1 = 0 ∧ (mRdL f L k n true x).1 = false ∧ (mRdL f L k n true x).2.2.2 = nI (rNx f L (rdL f L k n true P g).2.1)) ∨
    ∃ n', 1 ≤ n' ∧ n' ≤ 4 ∧ (rdL f L k n true P g).1 = nI n' ∧ (mRdL f L k n true x).1 = true ∧ RI n' (mRdL f L k n true x).2.2.1 (rdL f L k n true P g).2.2
  | 0, n, P, x, g, _, hP, e, hI => by
    left
    refine ⟨rfl, rfl, ?_⟩
    show nI (rNx f L x.1) = nI (rNx f L P)
    rw [e]
  | k + 1, n, P, x, g, hk, hP, e, hI => by
    have hq : rNx f L (rNx f L x.1) = rNx f L P := by rw [e, rNx_idem hP]
    have hle : (rTerm f L P).2 ≤ L := rTerm_le hP
    have hN : rNx f L (rTerm f L P).2 ≤ L := rNx_le hle
    have ht := term_rel (ta := 1 + 6 * n) (w := x.2.2) (Q := rNx f L x.1) hT hP hq (hI.2.2 n (Nat.le_refl n) (by omega)).2
    show ((if (rTerm f L P).1 = 0 then ((0 : Int32), (rTerm f L P).2, g) else rdL f L k (n + 1) (rTkB f L (rTerm f L P).2 43) (rTkP f L (rTerm f L P).2 43) (upd g n (rTerm f L P).1)).1 = 0 ∧
      (if (mTerm f L (1 + 6 * n) (rNx f L x.1, x.2.1, x.2.2)).1 = true then
        mRdL f L k (n + 1) (mAt f L (rNx f L (mTerm f L (1 + 6 * n) (rNx f L x.1, x.2.1, x.2.2)).2.1) 43 43) (if mAt f L (rNx f L (mTerm f L (1 + 6 * n) (rNx f L x.1, x.2.1, x.2.2)).2.1) 43 43 = true then rNx f L (mTerm f L (1 + 6 * n) (rNx f L x.1, x.2.1, x.2.2)).2.1 + 1 else rNx f L (mTerm f L (1 + 6 * n) (rNx f L x.1, x.2.1, x.2.2)).2.1, upd (mTerm f L (1 + 6 * n) (rNx f L x.1, x.2.1, x.2.2)).2.2.1 0 (nI (n + 1)), (mTerm f L (1 + 6 * n) (rNx f L x.1, x.2.1, x.2.2)).2.2.2)
       else (false, ((mTerm f L (1 + 6 * n) (rNx f L x.1, x.2.1, x.2.2)).2.1, (mTerm f L (1 + 6 * n) (rNx f L x.1, x.2.1, x.2.2)).2.2.1, nI (mTerm f L (1 + 6 * n) (rNx f L x.1, x.2.1, x.2.2)).2.1))).1 = false ∧
      (if (mTerm f L (1 + 6 * n) (rNx f L x.1, x.2.1, x.2.2)).1 = true then
        mRdL f L k (n + 1) (mAt f L (rNx f L (mTerm f L (1 + 6 * n) (rNx f L x.1, x.2.1, x.2.2)).2.1) 43 43) (if mAt f L (rNx f L (mTerm f L (1 + 6 * n) (rNx f L x.1, x.2.1, x.2.2)).2.1) 43 43 = true then rNx f L (mTerm f L (1 + 6 * n) (rNx f L x.1, x.2.1, x.2.2)).2.1 + 1 else rNx f L (mTerm f L (1 + 6 * n) (rNx f L x.1, x.2.1, x.2.2)).2.1, upd (mTerm f L (1 + 6 * n) (rNx f L x.1, x.2.1, x.2.2)).2.2.1 0 (nI (n + 1)), (mTerm f L (1 + 6 * n) (rNx f L x.1, x.2.1, x.2.2)).2.2.2)
       else (false, ((mTerm f L (1 + 6 * n) (rNx f L x.1, x.2.1, x.2.2)).2.1, (mTerm f L (1 + 6 * n) (rNx f L x.1, x.2.1, x.2.2)).2.2.1, nI (mTerm f L (1 + 6 * n) (rNx f L x.1, x.2.1, x.2.2)).2.1))).2.2.2 = nI (rNx f L (if (rTerm f L P).1 = 0 then ((0 : Int32), (rTerm f L P).2, g) else rdL f L k (n + 1) (rTkB f L (rTerm f L P).2 43) (rTkP f L (rTerm f L P).2 43) (upd g n (rTerm f L P).1)).2.1)) ∨
      ∃ n', 1 ≤ n' ∧ n' ≤ 4 ∧ (if (rTerm f L P).1 = 0 then ((0 : Int32), (rTerm f L P).2, g) else rdL f L k (n + 1) (rTkB f L (rTerm f L P).2 43) (rTkP f L (rTerm f L P).2 43) (upd g n (rTerm f L P).1)).1 = nI n' ∧
      (if (mTerm f L (1 + 6 * n) (rNx f L x.1, x.2.1, x.2.2)).1 = true then
        mRdL f L k (n + 1) (mAt f L (rNx f L (mTerm f L (1 + 6 * n) (rNx f L x.1, x.2.1, x.2.2)).2.1) 43 43) (if mAt f L (rNx f L (mTerm f L (1 + 6 * n) (rNx f L x.1, x.2.1, x.2.2)).2.1) 43 43 = true then rNx f L (mTerm f L (1 + 6 * n) (rNx f L x.1, x.2.1, x.2.2)).2.1 + 1 else rNx f L (mTerm f L (1 + 6 * n) (rNx f L x.1, x.2.1, x.2.2)).2.1, upd (mTerm f L (1 + 6 * n) (rNx f L x.1, x.2.1, x.2.2)).2.2.1 0 (nI (n + 1)), (mTerm f L (1 + 6 * n) (rNx f L x.1, x.2.1, x.2.2)).2.2.2)
       else (false, ((mTerm f L (1 + 6 * n) (rNx f L x.1, x.2.1, x.2.2)).2.1, (mTerm f L (1 + 6 * n) (rNx f L x.1, x.2.1, x.2.2)).2.2.1, nI (mTerm f L (1 + 6 * n) (rNx f L x.1, x.2.1, x.2.2)).2.1))).1 = true ∧
      RI n' (if (mTerm f L (1 + 6 * n) (rNx f L x.1, x.2.1, x.2.2)).1 = true then
        mRdL f L k (n + 1) (mAt f L (rNx f L (mTerm f L (1 + 6 * n) (rNx f L x.1, x.2.1, x.2.2)).2.1) 43 43) (if mAt f L (rNx f L (mTerm f L (1 + 6 * n) (rNx f L x.1, x.2.1, x.2.2)).2.1) 43 43 = true then rNx f L (mTerm f L (1 + 6 * n) (rNx f L x.1, x.2.1, x.2.2)).2.1 + 1 else rNx f L (mTerm f L (1 + 6 * n) (rNx f L x.1, x.2.1, x.2.2)).2.1, upd (mTerm f L (1 + 6 * n) (rNx f L x.1, x.2.1, x.2.2)).2.2.1 0 (nI (n + 1)), (mTerm f L (1 + 6 * n) (rNx f L x.1, x.2.1, x.2.2)).2.2.2)
       else (false, ((mTerm f L (1 + 6 * n) (rNx f L x.1, x.2.1, x.2.2)).2.1, (mTerm f L (1 + 6 * n) (rNx f L x.1, x.2.1, x.2.2)).2.2.1, nI (mTerm f L (1 + 6 * n) (rNx f L x.1, x.2.1, x.2.2)).2.1))).2.2.1 (if (rTerm f L P).1 = 0 then ((0 : Int32), (rTerm f L P).2, g) else rdL f L k (n + 1) (rTkB f L (rTerm f L P).2 43) (rTkP f L (rTerm f L P).2 43) (upd g n (rTerm f L P).1)).2.2
    generalize hY : mTerm f L (1 + 6 * n) (rNx f L x.1, x.2.1, x.2.2) = Y at ht ⊢
    rcases ht with ⟨t0, tw, y1, y2, y3, y4⟩ | ⟨t0, y1, y2⟩ | ⟨t0, y1, y2, y3⟩
    · have hI' := RI_step (by omega) hI t0 tw y3 y4
      rw [if_neg t0, if_pos y1, y2]
      have h43 : mAt f L (rNx f L (rTerm f L P).2) 43 43 = rTkB f L (rTerm f L P).2 43 := mAt_1 (by decide)
      rw [h43]
      by_cases c : rTkB f L (rTerm f L P).2 43 = true
      · have hc : rCh f L (rTerm f L P).2 = 43 := of_decide_eq_true c
        have etk : rTkP f L (rTerm f L P).2 43 = rNx f L (rTerm f L P).2 + 1 := if_pos hc
        rw [c, if_pos rfl, etk]
        exact rd_rel hT k (n + 1) (rNx f L (rTerm f L P).2 + 1) (rNx f L (rTerm f L P).2 + 1, upd Y.2.2.1 0 (nI (n + 1)), Y.2.2.2) (upd g n (rTerm f L P).1) (by omega) (by rw [← etk]; exact rTkP_le hle (by decide)) rfl hI'
      · have hc : ¬ rCh f L (rTerm f L P).2 = 43 := fun h => c (decide_eq_true h)
        have etk : rTkP f L (rTerm f L P).2 43 = rNx f L (rTerm f L P).2 := if_neg hc
        rw [Bool.eq_false_iff.mpr c, if_neg (show ¬ (false = true) from Bool.false_ne_true), etk, rdL_f, mRdL_f]
        have hch : rCh f L (rNx f L (rTerm f L P).2) = rAt f L (rNx f L (rTerm f L P).2) := by unfold rCh; rw [rNx_idem hle]
        rw [hch]
        by_cases c2 : rNx f L (rTerm f L P).2 = L
        · right
          rw [if_pos ((rAt_end hT hN).mpr c2), if_pos c2]
          exact ⟨n + 1, by omega, by omega, rfl, rfl, hI'⟩
        · left
          rw [if_neg (fun h => c2 ((rAt_end hT hN).mp h)), if_neg c2]
          refine ⟨rfl, rfl, ?_⟩
          show nI (rNx f L (rTerm f L P).2) = nI (rNx f L (rNx f L (rNx f L (rTerm f L P).2)))
          rw [rNx_idem hle, rNx_idem hle]
    · left
      rw [if_pos t0, y1, if_neg (show ¬ (false = true) from Bool.false_ne_true)]
      refine ⟨rfl, rfl, ?_⟩
      show nI Y.2.1 = nI (rNx f L (rTerm f L P).2)
      rw [y2]
    · left
      have hlt : (rTerm f L P).2 < L := rFig_lt y3
      have hfacts : ¬ f (rTerm f L P).2 = 32 ∧ ¬ rAt f L (rTerm f L P).2 = 43 ∧ ¬ rAt f L (rTerm f L P).2 = -1 := by
        have ef : rAt f L (rTerm f L P).2 = f (rTerm f L P).2 := if_pos hlt
        obtain ⟨b, hb, eb⟩ := hT _ hlt
        rw [ef, eb] at y3
        rw [ef, eb]
        have h1 := chFig b hb y3
        exact ⟨h1.2.2.1, h1.2.2.2.2, (by decide +kernel : ∀ b, b < 128 → ¬ nI b = -1) b hb⟩
      have hst : rNx f L (rTerm f L P).2 = (rTerm f L P).2 := rNx_stay (fun _ => hfacts.1)
      have hch : rCh f L (rTerm f L P).2 = rAt f L (rTerm f L P).2 := by unfold rCh; rw [hst]
      have hb43 : rTkB f L (rTerm f L P).2 43 = false := by unfold rTkB; rw [hch]; exact decide_eq_false hfacts.2.1
      have etk : rTkP f L (rTerm f L P).2 43 = (rTerm f L P).2 := by unfold rTkP; rw [hch, if_neg hfacts.2.1, hst]
      rw [if_neg t0, y1, if_neg (show ¬ (false = true) from Bool.false_ne_true), hb43, etk, rdL_f, hch, if_neg hfacts.2.2]
      refine ⟨rfl, rfl, ?_⟩
      show nI Y.2.1 = nI (rNx f L (rNx f L (rTerm f L P).2))
      rw [y2, hst, hst]
theorem zr_z (g : Nat → Int32) {p : Nat} (hp : p < 25) : zr g p = 0 := by
  unfold zr
  exact lp_hit p p _ 25 0 g (Nat.zero_le _) (by omega) (fun g => upd_same _ _ _) (fun j g h1 h2 => upd_other _ _ (by omega))
theorem rd_all {f : Nat → Int32} {L : Nat} (hT : TB f L) (xs ms : ST) :
    ((xRd xs f L).1 = 0 ∧ (mRd ms f L).1 = false ∧ (mRd ms f L).2.2.2 = nI (rNx f L (xRd xs f L).2.1)) ∨
    ∃ n, 1 ≤ n ∧ n ≤ 4 ∧ (xRd xs f L).1 = nI n ∧ (mRd ms f L).1 = true ∧ RI n (mRd ms f L).2.2.1 (xRd xs f L).2.2 := by
  refine rd_rel hT 4 0 0 (0, zr (ms.2.1 5), ms.1 3) (fillF (xs.2.1 1) 0 4) rfl (Nat.zero_le _) rfl ⟨zr_z (ms.2.1 5) (p := 0) (by decide), fun i hi => absurd hi (by omega), fun i _ hi => ⟨if_pos hi, ?_⟩⟩
  intro w hw
  show zr (ms.2.1 5) (1 + 6 * i + w) = _
  rw [zr_z _ (by omega)]
  revert w
  apply all6 <;> rfl
theorem RI_cell {n : Nat} {arr g : Nat → Int32} (hn : n ≤ 4) (h : RI n arr g) : CR arr 0 g 0 ∧ CW g 0 := by
  have hz : ∀ i, i < 4 → (g (0 * 4 + i) = 0 ↔ n ≤ i) := by
    intro i hi
    rw [show 0 * 4 + i = i by omega]
    constructor
    · intro e
      exact Classical.byContradiction fun e2 => (h.2.1 i (by omega)).1 e
    · intro e; exact (h.2.2 i e hi).1
  have hcz : CZ g 0 := fun i hi e => (hz (i + 1) (by omega)).mpr (by have := (hz i (by omega)).mp e; omega)
  have hsz : szN g 0 = n := by
    have h1 := szN_iff hcz
    have h4 := szN_le g 0
    apply Nat.le_antisymm
    · apply Classical.byContradiction
      intro e
      exact (h1 n (by omega)).mp (by omega) ((hz n (by omega)).mpr (Nat.le_refl n))
    · apply Classical.byContradiction
      intro e
      have h5 := (h1 (szN g 0) (by omega)).mpr (fun e2 => by have := (hz (szN g 0) (by omega)).mp e2; omega)
      omega
  refine ⟨⟨by rw [hsz]; exact h.1, fun i hi => ?_⟩, hcz, fun i hi => ?_⟩
  · rw [show 0 * 4 + i = i by omega, show 0 + 1 + 6 * i = 1 + 6 * i by omega]
    by_cases e : i < n
    · exact (h.2.1 i e).2.2
    · have h3 := h.2.2 i (by omega) hi
      rw [h3.1]
      refine at6_v h3.2 ?_
      apply all6 <;> (rw [V_0]; rfl)
  · rw [show 0 * 4 + i = i by omega]
    by_cases e : i < n
    · exact (h.2.1 i e).2.1
    · rw [(h.2.2 i (by omega) hi).1]; exact Wt_0
theorem RX_put {m g rd fd : Nat → Int32} {k : Nat} (h : RX m g) (h1 : CR rd 0 fd 0) (h2 : CW fd 0) : RX (lp (fun i g => upd g (25 * k + i) (rd i)) 25 0 m) (va_cpy fd g 0 (k * 4) 4) := by
  have hm : ∀ p, lp (fun i g => upd g (25 * k + i) (rd i)) 25 0 m p = if 25 * k ≤ p ∧ p < 25 * k + 25 then rd (p - 25 * k) else m p := by
    intro p
    by_cases e : 25 * k ≤ p ∧ p < 25 * k + 25
    · rw [if_pos e]
      refine lp_hit p (p - 25 * k) _ 25 0 m (by omega) (by omega) (fun g => ?_) (fun j' g h1 h2 => upd_other _ _ (by omega))
      rw [show 25 * k + (p - 25 * k) = p by omega]
      exact upd_same _ _ _
    · rw [if_neg e]
      exact lp_miss p 25 0 m (fun j g h1 h2 => upd_other _ _ (by omega))
  have hg : ∀ p, va_cpy fd g 0 (k * 4) 4 p = if k * 4 ≤ p ∧ p < k * 4 + 4 then fd (0 + (p - k * 4)) else g p := fun p => rfl
  intro k' hk'
  by_cases e : k' = k
  · subst e
    have h3 : ∀ i, i < 4 → va_cpy fd g 0 (k' * 4) 4 (k' * 4 + i) = fd (0 * 4 + i) := fun i hi => by rw [hg, if_pos (by omega)]; congr 1; omega
    exact ⟨CR_copy (fun j hj => by rw [hm, if_pos (by omega)]; congr 1; omega) h3 h1, CW_copy h3 h2⟩
  · have h3 : ∀ i, i < 4 → va_cpy fd g 0 (k * 4) 4 (k' * 4 + i) = g (k' * 4 + i) := fun i hi => by rw [hg, if_neg (by omega)]
    exact ⟨CR_copy (fun j hj => by rw [hm, if_neg (by omega)]) h3 (h k' hk').1, CW_copy h3 (h k' hk').2⟩
