theorem upd_back {f : Nat → Int32} {c : Nat} (h : f c = 0) : upd (upd f c 1) c 0 = f := by
  funext j
  by_cases e : j = c
  · rw [e, upd_same, h]
  · rw [upd_other _ _ e, upd_other _ _ e]
theorem PX {g : Nat → Int32} {U : Nat → Option Int32} (hW : ∀ c, c < 36 → CW g c) (hV : VS g U) : ∀ n, PXp g U n := by
  have circ : ∀ (n : Nat) (addt : ST → Int32 → Int32 → Int32 × ST) (st : ST) (A : Nat → Bool) (c dp : Nat), c < 36 → XI g U st → st.1 7 = 0 → As st A → (∀ x, x < 36 → A x = true → ∃ k, Pth g (k + 1) x c) → (st.2.1 5 c = 0 ∨ A c = true) → 
      XI g U (xAskF addt c dp st).2 ∧ KP st (xAskF addt c dp st).2 ∧ (∀ u, U c = some u → (xAskF addt c dp st).1 = u ∧ (xAskF addt c dp st).2.1 7 = 0) ∧ (U c = none → t3 (xAskF addt c dp st).2 = fA g U n A c dp ∧ ¬ (xAskF addt c dp st).2.1 7 = 0) := by
    intro n addt st A c dp hc hX h0 hA hch hor
    unfold xAskF
    by_cases h5 : st.2.1 5 c = 0
    · rw [if_pos h5]
      have hU := hX.2 c hc h5
      exact ⟨hX, KP_rfl st, fun u e => ⟨by rw [hU] at e; injection e, h0⟩, fun e => by rw [hU] at e; cases e⟩
    · rw [if_neg h5]
      have hAc : A c = true := hor.resolve_left h5
      obtain ⟨k, hk⟩ := hch c hc hAc
      have hU : U c = none := Classical.byContradiction fun e => hV.2 c k hc e hk
      rw [if_pos ((hA c hc).mpr hAc)]
      refine ⟨meet_XI hX, meet_KP _ _ _ _, fun u e => (by rw [hU] at e; cases e), fun _ => ⟨?_, meet_ne h0 (by decide)⟩⟩
      rw [show t3 (0, xMeet st 2 (nI c) (nI dp - 1)).2 = _ from meet_t3 h0]
      cases n with
      | zero => rfl
      | succ n => exact (if_pos hAc).symm
  intro n
  induction n with
  | zero =>
    intro st A c dp hdp hc hX h0 hA hcnt hch
    refine circ 0 _ st A c dp hc hX h0 hA hch (Or.inr ?_)
    apply Classical.byContradiction
    intro e
    have := (cnt_in hc (Bool.eq_false_iff.mpr e)).2
    omega
  | succ n ih =>
    intro st A c dp hdp hc hX h0 hA hcnt hch
    by_cases hor : st.2.1 5 c = 0 ∨ A c = true
    · exact circ (n + 1) _ st A c dp hc hX h0 hA hch hor
    · have h5 : ¬ st.2.1 5 c = 0 := fun e => hor (Or.inl e)
      have hAc : A c = false := Bool.eq_false_iff.mpr (fun e => hor (Or.inr e))
      have h9 : st.2.1 9 c = 0 := Classical.byContradiction fun e => hor (Or.inr ((hA c hc).mp e))
      have hcn := cnt_in hc hAc
      have hev : xAsk (n + 1) st c dp = ((xFo (fun st e => xAsk n st e (dp + 1)) c dp (its g c) (0, sA st 9 (upd (st.2.1 9) c 1))).1, xAskE c (xFo (fun st e => xAsk n st e (dp + 1)) c dp (its g c) (0, sA st 9 (upd (st.2.1 9) c 1)))) := by
        show xAskF _ c dp st = _
        unfold xAskF
        rw [if_neg h5, if_neg (fun e => e h9), if_neg (by omega)]
        rw [xTerms_fo (g := g) (fun st e => xAsk_sl n st e (dp + 1)) 4 0 _ (fun j _ hj => (hW c hc).2 j (by omega)) hX.1]
        rfl
      have hA' : As (sA st 9 (upd (st.2.1 9) c 1)) (aU A c) := by
        intro x hx
        show ¬ upd (st.2.1 9) c 1 x = 0 ↔ _
        unfold aU
        by_cases e : x = c
        · rw [e, upd_same]; simp
        · rw [upd_other _ _ e, decide_eq_false e, Bool.or_false]; exact hA x hx
      have hch' : ∀ e, Rf g c e → ∀ x, x < 36 → aU A c x = true → ∃ k, Pth g (k + 1) x e := by
        intro e he x hx hax
        unfold aU at hax
        by_cases ex : x = c
        · exact ⟨0, e, by rw [ex]; exact he, rfl⟩
        · rw [decide_eq_false ex, Bool.or_false] at hax
          obtain ⟨k, hk⟩ := hch x hx hax
          exact ⟨k + 1, Pth_app (k + 1) x c e hk he⟩
      have hm := xfo_main (dp := dp) (st1 := sA st 9 (upd (st.2.1 9) c 1)) hW ih (by omega) hc hA' (by omega) hch' (its g c) 0 (sA st 9 (upd (st.2.1 9) c 1)) (fun e he => he) hX (KP_rfl _) h0
      rw [hev]
      generalize hY : xFo (fun st e => xAsk n st e (dp + 1)) c dp (its g c) (0, sA st 9 (upd (st.2.1 9) c 1)) = Y at hm ⊢
      obtain ⟨hX', hK', hs1, hs2⟩ := hm
      have hUc := hV.1 c hc
      rw [← hUc] at hs1 hs2
      have h9' : upd (Y.2.2.1 9) c 0 = st.2.1 9 := by
        rw [hK'.2.1 9 (by decide) (by decide)]
        exact upd_back h9
      by_cases h7 : Y.2.1 7 = 0
      · have eE : xAskE c Y = sA (sA (sA Y.2 9 (upd (Y.2.2.1 9) c 0)) 5 (upd (Y.2.2.1 5) c 0)) 6 (upd (Y.2.2.1 6) c Y.1) := if_pos h7
        have hsome : ∃ u, U c = some u := by
          cases hu : U c with
          | none => exact absurd h7 (hs2 hu).2
          | some u => exact ⟨u, rfl⟩
        obtain ⟨u, hu⟩ := hsome
        have hy := hs1 u hu
        rw [eE]
        refine ⟨⟨hX'.1, fun x hx e => ?_⟩, ⟨fun j h1 h2 h3 => hK'.1 j h1 h2 h3, fun j h1 h2 => ?_, hK'.2.2.1, fun x => ?_⟩, fun v e => ⟨by rw [hu] at e; injection e with e; rw [← e]; exact hy.1, h7⟩, fun e => by rw [hu] at e; cases e⟩
        · have e : upd (Y.2.2.1 5) c 0 x = 0 := e
          show U x = some (upd (Y.2.2.1 6) c Y.1 x)
          by_cases ex : x = c
          · rw [ex, upd_same, hu, hy.1]
          · rw [upd_other _ _ ex] at e ⊢; exact hX'.2 x hx e
        · show (if j = 6 then _ else if j = 5 then _ else if j = 9 then upd (Y.2.2.1 9) c 0 else Y.2.2.1 j) = st.2.1 j
          rw [if_neg h2, if_neg h1]
          by_cases e : j = 9
          · rw [if_pos e, e]; exact h9'
          · rw [if_neg e, hK'.2.1 j h1 h2]; exact if_neg e
        · show upd (Y.2.2.1 5) c 0 x = st.2.1 5 x ∨ upd (Y.2.2.1 5) c 0 x = 0
          by_cases ex : x = c
          · right; rw [ex, upd_same]
          · rw [upd_other _ _ ex]; exact hK'.2.2.2 x
      · have eE : xAskE c Y = sA Y.2 9 (upd (Y.2.2.1 9) c 0) := if_neg h7
        have hnone : U c = none := by
          cases hu : U c with
          | none => rfl
          | some u => exact absurd (hs1 u hu).2 h7
        rw [eE]
        refine ⟨⟨hX'.1, fun x hx e => hX'.2 x hx e⟩, ⟨fun j h1 h2 h3 => hK'.1 j h1 h2 h3, fun j h1 h2 => ?_, hK'.2.2.1, fun x => hK'.2.2.2 x⟩, fun v e => (by rw [hnone] at e; cases e), fun _ => ⟨?_, h7⟩⟩
        · show (if j = 9 then upd (Y.2.2.1 9) c 0 else Y.2.2.1 j) = st.2.1 j
          by_cases e : j = 9
          · rw [if_pos e, e]; exact h9'
          · rw [if_neg e, hK'.2.1 j h1 h2]; exact if_neg e
        · show t3 Y.2 = fA g U (n + 1) A c dp
          rw [(hs2 hnone).1]
          show _ = if A c = true then _ else _
          rw [hAc, if_neg (show ¬ (false = true) from Bool.false_ne_true)]
