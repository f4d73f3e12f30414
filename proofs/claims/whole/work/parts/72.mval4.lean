theorem push_FM {s : ST} {d e : Nat} (h6 : s.1 6 = 0) : FM (mPush s d e) e (d + 1) 0 0 0 := by
  refine ⟨rfl, h6, ?_, ?_, ?_, ?_⟩ <;> (rw [show d + 1 - 1 = d by omega]; exact upd_same _ _ _)
theorem push_KN {s : ST} {d e : Nat} : KN s (mPush s d e) := KN_sI (KN_sA (KN_sA (KN_sA (KN_sA (KN_sA (KN_rfl s) (by omega)) (by omega)) (by omega)) (by omega)) (by omega)) (by omega)
theorem push_KF {s : ST} {d e : Nat} : KF d s (mPush s d e) := fun q hq => by
  refine ⟨?_, ?_, ?_, ?_⟩
  · show upd (s.2.1 9) d _ q = _; exact upd_other _ _ (by omega)
  · show upd (s.2.1 10) d _ q = _; exact upd_other _ _ (by omega)
  · show upd (s.2.1 11) d _ q = _; exact upd_other _ _ (by omega)
  · show upd (s.2.1 12) d _ q = _; exact upd_other _ _ (by omega)
theorem push_MI {g : Nat → Int32} {U : Nat → Option Int32} {m : Nat → Int32} {s : ST} {d e : Nat} (h : MI g U m s) : MI g U m (mPush s d e) := by
  refine ⟨h.1, fun x hx h2 => ?_⟩
  have h2 : upd (s.2.1 7) e 1 x = 2 := h2
  show U x = some (s.2.1 8 x)
  by_cases ex : x = e
  · rw [ex, upd_same] at h2; exact absurd h2 (by decide)
  · rw [upd_other _ _ ex] at h2; exact h.2 x hx h2
theorem push_Am {s : ST} {d e : Nat} {A : Nat → Bool} (h : Am s A) : Am (mPush s d e) (aU A e) := by
  intro x hx
  show upd (s.2.1 7) e 1 x = 1 ↔ _
  unfold aU
  by_cases ex : x = e
  · rw [ex, upd_same]; simp
  · rw [upd_other _ _ ex, decide_eq_false ex, Bool.or_false]; exact h x hx
theorem pop_eq {g : Nat → Int32} {U : Nat → Option Int32} {m : Nat → Int32} {s : ST} {c d : Nat} {x : Int32} {A : Nat → Bool} (hR : RX m g) (h : FM s c d (szN g c) 0 x) (hM : MI g U m s) (hA : Am s A) (hd1 : 1 ≤ d) (hd : d ≤ 36) (hc : c < 36) (hcnt : cnt A 36 0 0 = d) : MG s ∧ mStp s = mPop s d c := by
  have h4 := szN_le g c
  refine ⟨MG_of hR h hM.1 hd1 hd hc (Nat.le_refl _) (by omega) hA hcnt (fun hlt => absurd hlt (by omega)), ?_⟩
  rw [mStp_eq h hM.1 hd hc h4 (by omega) (hR c hc).1.1 h4]
  exact if_pos rfl
theorem pop1_MI {g : Nat → Int32} {U : Nat → Option Int32} {m : Nat → Int32} {s : ST} {c d : Nat} {u : Int32} (hM : MI g U m s) (hU : U c = some u) (h12 : s.2.1 12 (d - 1) = u) : MI g U m (mPop1 s d c) := by
  refine ⟨hM.1, fun x hx h2 => ?_⟩
  have h2 : upd (s.2.1 7) c 2 x = 2 := h2
  show U x = some (upd (s.2.1 8) c (s.2.1 12 (d - 1)) x)
  by_cases ex : x = c
  · rw [ex, upd_same, hU, h12]
  · rw [upd_other _ _ ex] at h2 ⊢; exact hM.2 x hx h2
theorem Wb_ok {k n L sz : Nat} (hL : L ≤ 144) (hs : sz ≤ 4) (hk : k ≤ L * (Wb n + 1) + sz) : k + 1 ≤ Wb (n + 1) := by
  have h1 : L * (Wb n + 1) ≤ 144 * (Wb n + 1) := Nat.mul_le_mul_right _ hL
  show k + 1 ≤ 144 * (Wb n + 1) + 10
  omega
theorem PM {g : Nat → Int32} {U : Nat → Option Int32} {m : Nat → Int32} (hR : RX m g) (hV : VS g U) : ∀ n, PMp g U m n := by
  have known : ∀ (n : Nat) (s : ST) (A : Nat → Bool) (e d : Nat), 1 ≤ d → e < 36 → MI g U m s → s.1 5 = nI d → s.1 6 = 0 → Am s A → (∀ x, x < 36 → A x = true → ∃ k, Pth g (k + 1) x e) → (s.2.1 7 e = 1 ∨ s.2.1 7 e = 2) →
      (∀ v, U e = some v → ∃ k, k ≤ Wb n ∧ ∃ s', Rch k (mAsks s d e) (mAdds s' d v) ∧ KN s s' ∧ KF d s s' ∧ MI g U m s' ∧ Am s' A ∧ s'.1 5 = nI d ∧ s'.1 6 = 0) ∧
      (U e = none → ∃ k, k ≤ Wb n ∧ ∃ s', Rch k (mAsks s d e) s' ∧ tm3 s' = fA g U n A e d ∧ ¬ s'.1 6 = 0 ∧ KN s s') := by
    intro n s A e d hd1 he hM h5 h6 hA hch hor
    unfold mAsks
    by_cases h1 : s.2.1 7 e = 1
    · rw [if_pos h1]
      have hAe : A e = true := (hA e he).mp h1
      obtain ⟨k, hk⟩ := hch e he hAe
      have hU : U e = none := Classical.byContradiction fun h => hV.2 e k he h hk
      refine ⟨fun v hv => (by rw [hU] at hv; cases hv), fun _ => ⟨0, Nat.zero_le _, _, rfl, ?_, (by decide : ¬ (2 : Int32) = 0), KN_sI (KN_sI (KN_sI (KN_rfl s) (by omega)) (by omega)) (by omega)⟩⟩
      show ((2 : Int32), nI e, s.1 5 - 1) = fA g U n A e d
      rw [h5]
      cases n with
      | zero => rfl
      | succ n => exact (if_pos hAe).symm
    · rw [if_neg h1]
      have h2 : s.2.1 7 e = 2 := hor.resolve_left h1
      rw [if_pos h2]
      have hU := hM.2 e he h2
      refine ⟨fun v hv => ?_, fun hv => (by rw [hU] at hv; cases hv)⟩
      rw [hU] at hv
      injection hv with hv
      exact ⟨0, Nat.zero_le _, s, by rw [hv]; rfl, KN_rfl s, KF_rfl d s, hM, hA, h5, h6⟩
  intro n
  induction n with
  | zero =>
    intro s A e d hdn hd1 he hM h5 h6 hA hcnt hch
    refine known 0 s A e d hd1 he hM h5 h6 hA hch (Or.inl ((hA e he).mpr ?_))
    apply Classical.byContradiction
    intro h
    have := (cnt_in he (Bool.eq_false_iff.mpr h)).2
    omega
  | succ n ih =>
    intro s A e d hdn hd1 he hM h5 h6 hA hcnt hch
    by_cases hor : s.2.1 7 e = 1 ∨ s.2.1 7 e = 2
    · exact known (n + 1) s A e d hd1 he hM h5 h6 hA hch hor
    · have h1 : ¬ s.2.1 7 e = 1 := fun h => hor (Or.inl h)
      have h2 : ¬ s.2.1 7 e = 2 := fun h => hor (Or.inr h)
      have hAe : A e = false := Bool.eq_false_iff.mpr (fun h => h1 ((hA e he).mpr h))
      have hcn := cnt_in he hAe
      have hch' : ∀ e', Rf g e e' → ∀ x, x < 36 → aU A e x = true → ∃ k, Pth g (k + 1) x e' := by
        intro e' he' x hx hax
        unfold aU at hax
        by_cases ex : x = e
        · exact ⟨0, e', by rw [ex]; exact he', rfl⟩
        · rw [decide_eq_false ex, Bool.or_false] at hax
          obtain ⟨k, hk⟩ := hch x hx hax
          exact ⟨k + 1, Pth_app (k + 1) x e e' hk he'⟩
      have ea : mAsks s d e = mPush s d e := by unfold mAsks; rw [if_neg h1, if_neg h2]
      rw [ea]
      have fr := frame (b := mPush s d e) (A := aU A e) (c := e) (d := d + 1) hR ih (by omega) (by omega) he (by omega) hch' (szN g e) 0 (by omega) (mPush s d e) 0 (push_FM h6) (KN_rfl _) (KF_rfl _ _) (push_MI hM) (push_Am hA)
      have hlen : (itL g e (4 - 0) 0).length ≤ 144 := itL_len 4 0 (fun j _ hj => (hR e he).2.2 j (by omega))
      have hUe : U e = fo U (itL g e (4 - 0) 0) 0 := hV.1 e he
      refine ⟨fun v hv => ?_, fun hv => ?_⟩
      · obtain ⟨k, hk, s1, hr, f1, f2, f3, f4, f5⟩ := fr.1 v (by rw [← hUe]; exact hv)
        have hp := pop_eq hR f1 f4 f5 (by omega) (by omega) he (by omega)
        have h12 : s1.2.1 12 (d + 1 - 1) = v := f1.2.2.2.2.2
        have epop : mPop s1 (d + 1) e = mAdds (mPop1 s1 (d + 1) e) d v := by
          unfold mPop
          rw [if_neg (by omega), h12]
          rfl
        refine ⟨k + 1, Wb_ok hlen (szN_le g e) hk, mPop1 s1 (d + 1) e, Rch_tr k 1 _ _ _ hr (Rch_1 hp.1 (hp.2.trans epop)), KN_tr push_KN (KN_tr f2 (KN_sI (KN_sA (KN_sA (KN_rfl s1) (by omega)) (by omega)) (by omega))), KF_tr push_KF (fun q hq => f3 q (by omega)), pop1_MI f4 hv h12, fun x hx => ?_, rfl, f1.2.1⟩
        show upd (s1.2.1 7) e 2 x = 1 ↔ A x = true
        by_cases ex : x = e
        · rw [ex, upd_same, hAe]; decide
        · rw [upd_other _ _ ex, f5 x hx]
          unfold aU
          rw [decide_eq_false ex, Bool.or_false]
      · obtain ⟨k, hk, s1, hr, f1, f2, f3⟩ := fr.2 (by rw [← hUe]; exact hv)
        refine ⟨k, Nat.le_of_succ_le (Wb_ok hlen (szN_le g e) hk), s1, hr, ?_, f2, KN_tr push_KN f3⟩
        rw [f1]
        show _ = (if A e = true then _ else _)
        rw [hAe, if_neg (show ¬ (false = true) from Bool.false_ne_true)]
        rfl
theorem cnt_none : ∀ k i n, cnt (fun _ => false) k i n = n
  | 0, _, _ => rfl
  | k + 1, i, n => cnt_none k (i + 1) n
theorem zk_z (st : ST) {x : Nat} (hx : x < 36) : zk st x = 0 := lp_hit x x _ 36 0 _ (Nat.zero_le _) (by omega) (fun g => upd_same _ _ _) (fun j g h1 h2 => upd_other _ _ (by omega))
/-- a search of the reference, to its end -/
theorem find_all {g : Nat → Int32} {U : Nat → Option Int32} {st : ST} {ce : Nat} (hR : RX (st.2.1 0) g) (hV : VS g U) (hc : ce < 36) : FindOk st ce (Wb 36) ∧ KN st (mFin st ce (Wb 36)) ∧
    (∀ u, U ce = some u → (mFin st ce (Wb 36)).1 6 = 0 ∧ (mFin st ce (Wb 36)).2.1 8 ce = u) ∧ (U ce = none → tm3 (mFin st ce (Wb 36)) = fA g U 36 (fun _ => false) ce 0 ∧ ¬ (mFin st ce (Wb 36)).1 6 = 0) := by
  have h00 : (mF00 st).1 6 = 0 := rfl
  have hM0 : MI g U (st.2.1 0) (mF00 st) := ⟨rfl, fun x hx h => by
    have h : zk st x = 2 := h
    rw [zk_z st hx] at h; exact absurd h (by decide)⟩
  have hA0 : Am (mF00 st) (fun _ => false) := fun x hx => by
    show zk st x = 1 ↔ _
    rw [zk_z st hx]; exact ⟨fun h => absurd h (by decide), fun h => absurd h Bool.false_ne_true⟩
  have hN0 : KN st (mF00 st) := KN_sI (KN_sI (KN_sA (KN_rfl st) (by omega)) (by omega)) (by omega)
  have hcn := cnt_in (A := fun _ => false) hc rfl
  rw [cnt_none] at hcn
  have hch' : ∀ e', Rf g ce e' → ∀ x, x < 36 → aU (fun _ => false) ce x = true → ∃ k, Pth g (k + 1) x e' := by
    intro e' he' x hx hax
    have ex : x = ce := by unfold aU at hax; simpa using hax
    exact ⟨0, e', by rw [ex]; exact he', rfl⟩
  have fr := frame (b := mPush (mF00 st) 0 ce) (A := aU (fun _ => false) ce) (c := ce) (d := 0 + 1) hR (PM hR hV 35) (by omega) (by omega) hc (by omega) hch' (szN g ce) 0 (by omega) (mPush (mF00 st) 0 ce) 0 (push_FM h00) (KN_rfl _) (KF_rfl _ _) (push_MI hM0) (push_Am hA0)
  have hlen : (itL g ce (4 - 0) 0).length ≤ 144 := itL_len 4 0 (fun j _ hj => (hR ce hc).2.2 j (by omega))
  have hUe : U ce = fo U (itL g ce (4 - 0) 0) 0 := hV.1 ce hc
  cases hU : U ce with
  | some v =>
    obtain ⟨k, hk, s1, hr, f1, f2, f3, f4, f5⟩ := fr.1 v (by rw [← hUe]; exact hU)
    have hp := pop_eq hR f1 f4 f5 (by omega) (by omega) hc (by omega)
    have h12 : s1.2.1 12 0 = v := f1.2.2.2.2.2
    have epop : mPop s1 (0 + 1) ce = mPop1 s1 (0 + 1) ce := if_pos rfl
    have hr2 := Rch_tr k 1 _ _ _ hr (Rch_1 hp.1 (hp.2.trans epop))
    have ok := Rch_ok (st := st) (ce := ce) (n := Wb 36) hr2 (Or.inl (by show nI 0 ≤ 0; decide)) (Wb_ok hlen (szN_le g ce) hk)
    refine ⟨ok.1, ?_⟩
    rw [ok.2]
    refine ⟨KN_tr hN0 (KN_tr push_KN (KN_tr f2 (KN_sI (KN_sA (KN_sA (KN_rfl s1) (by omega)) (by omega)) (by omega)))), fun u hu => ⟨f1.2.1, ?_⟩, fun h => (by cases h)⟩
    show upd (s1.2.1 8) ce (s1.2.1 12 (0 + 1 - 1)) ce = u
    injection hu with hu
    rw [upd_same, ← hu]; exact h12
  | none =>
    obtain ⟨k, hk, s1, hr, f1, f2, f3⟩ := fr.2 (by rw [← hUe]; exact hU)
    have ok := Rch_ok (st := st) (ce := ce) (n := Wb 36) hr (Or.inr f2) (Nat.le_of_succ_le (Wb_ok hlen (szN_le g ce) hk))
    refine ⟨ok.1, ?_⟩
    rw [ok.2]
    refine ⟨KN_tr hN0 (KN_tr push_KN f3), fun u hu => (by cases hu), fun _ => ⟨?_, f2⟩⟩
    rw [f1]
    rfl
