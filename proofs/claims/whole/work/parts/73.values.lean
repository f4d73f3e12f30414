theorem askF_memo {addt : ST → Int32 → Int32 → Int32 × ST} {c dp : Nat} {st : ST} (h0 : st.1 7 = 0) (h : (xAskF addt c dp st).2.1 7 = 0) : (xAskF addt c dp st).2.2.1 5 c = 0 := by
  unfold xAskF at h ⊢
  by_cases c1 : st.2.1 5 c = 0
  · rw [if_pos c1]; exact c1
  · rw [if_neg c1] at h ⊢
    by_cases c2 : ¬ st.2.1 9 c = 0
    · rw [if_pos c2] at h; exact absurd h (meet_ne h0 (by decide))
    · rw [if_neg c2] at h ⊢
      by_cases c3 : 36 ≤ dp
      · rw [if_pos c3] at h; exact absurd h (meet_ne h0 (by decide))
      · rw [if_neg c3] at h ⊢
        generalize xTerms addt c 4 0 (0, sA st 9 (upd (st.2.1 9) c 1)) = y at h ⊢
        have h : (xAskE c y).1 7 = 0 := h
        show (xAskE c y).2.1 5 c = 0
        unfold xAskE at h ⊢
        by_cases c4 : y.2.1 7 = 0
        · rw [if_pos c4]; exact upd_same _ _ _
        · rw [if_neg c4] at h; exact absurd h c4
theorem ask_memo {n c dp : Nat} {st : ST} (h0 : st.1 7 = 0) (h : (xAsk n st c dp).2.1 7 = 0) : (xAsk n st c dp).2.2.1 5 c = 0 := by
  cases n with
  | zero => exact askF_memo h0 h
  | succ n => exact askF_memo h0 h
def nA : Nat → Bool := fun _ => false
/-- the class's memory of values holds what is so -/
def XC (g : Nat → Int32) (U : Nat → Option Int32) (st : ST) : Prop := XI g U st ∧ (∀ c, c < 36 → ¬ st.2.1 5 c = 0 → ¬ st.2.1 5 c = -1 → U c = none ∧ (st.2.1 5 c, st.2.1 7 c, st.2.1 8 c) = fA g U 36 nA c 0) ∧ ∀ x, x < 36 → st.2.1 9 x = 0
def KX (st st' : ST) : Prop := (∀ j, ¬ j = 7 → ¬ j = 8 → ¬ j = 9 → st'.1 j = st.1 j) ∧ (∀ j, ¬ j = 5 → ¬ j = 6 → ¬ j = 7 → ¬ j = 8 → st'.2.1 j = st.2.1 j) ∧ st'.2.2 = st.2.2
theorem KX_rfl (st : ST) : KX st st := ⟨fun _ _ _ _ => rfl, fun _ _ _ _ _ => rfl, rfl⟩
theorem KX_tr {a b c : ST} (h : KX a b) (h' : KX b c) : KX a c := ⟨fun j h1 h2 h3 => (h'.1 j h1 h2 h3).trans (h.1 j h1 h2 h3), fun j h1 h2 h3 h4 => (h'.2.1 j h1 h2 h3 h4).trans (h.2.1 j h1 h2 h3 h4), h'.2.2.trans h.2.2⟩
theorem xIF_all {g : Nat → Int32} {U : Nat → Option Int32} {st : ST} {c : Nat} (hW : ∀ c, c < 36 → CW g c) (hV : VS g U) (hc : c < 36) (h : XC g U st) :
    XC g U (xIF st c) ∧ KX st (xIF st c) ∧ (∀ u, U c = some u → (xIF st c).2.1 5 c = 0 ∧ (xIF st c).2.1 6 c = u) ∧ (U c = none → ((xIF st c).2.1 5 c, (xIF st c).2.1 7 c, (xIF st c).2.1 8 c) = fA g U 36 nA c 0 ∧ ¬ (xIF st c).2.1 5 c = 0) := by
  obtain ⟨hX, hB, h9⟩ := h
  unfold xIF
  by_cases c1 : st.2.1 5 c = -1
  · rw [if_pos c1]
    have hp := PX hW hV 36 (sI st 7 0) nA c 0 (by omega) hc hX rfl (fun x hx => ⟨fun e => absurd (h9 x hx) e, fun e => absurd e Bool.false_ne_true⟩) (cnt_none 36 0 0) (fun x _ e => absurd e Bool.false_ne_true)
    have hme := ask_memo (n := 36) (c := c) (dp := 0) (st := sI st 7 0) rfl
    generalize xAsk 36 (sI st 7 0) c 0 = Y at hp hme ⊢
    obtain ⟨hX', hK', hs1, hs2⟩ := hp
    have h9' : ∀ x, x < 36 → Y.2.2.1 9 x = 0 := fun x hx => by rw [hK'.2.1 9 (by decide) (by decide)]; exact h9 x hx
    have hB' : ∀ x, x < 36 → ¬ Y.2.2.1 5 x = 0 → ¬ Y.2.2.1 5 x = -1 → U x = none ∧ (Y.2.2.1 5 x, Y.2.2.1 7 x, Y.2.2.1 8 x) = fA g U 36 nA x 0 := by
      intro x hx e0 e1
      have e5 : Y.2.2.1 5 x = st.2.1 5 x := (hK'.2.2.2 x).resolve_right e0
      rw [e5] at e0 e1 ⊢
      rw [hK'.2.1 7 (by decide) (by decide), hK'.2.1 8 (by decide) (by decide)]
      exact hB x hx e0 e1
    have hKX : KX st Y.2 := ⟨fun j h1 h2 h3 => by rw [hK'.1 j h1 h2 h3, sI_1, if_neg h1], fun j h1 h2 _ _ => hK'.2.1 j h1 h2, hK'.2.2.1⟩
    by_cases c2 : Y.2.1 7 = 0
    · rw [if_pos c2]
      refine ⟨⟨hX', hB', h9'⟩, hKX, fun u hu => ?_, fun hu => absurd c2 (hs2 hu).2⟩
      have h5 := hme c2
      have h6 := hX'.2 c hc h5
      rw [hu] at h6
      injection h6 with h6
      exact ⟨h5, h6.symm⟩
    · rw [if_neg c2]
      have hU : U c = none := by
        cases hu : U c with
        | none => rfl
        | some u => exact absurd (hs1 u hu).2 c2
      have ht := (hs2 hU).1
      have ht' : (Y.2.1 7, Y.2.1 8, Y.2.1 9) = fA g U 36 nA c 0 := ht
      refine ⟨⟨⟨hX'.1, fun x hx e => ?_⟩, fun x hx e0 e1 => ?_, h9'⟩, ⟨hKX.1, fun j h1 h2 h3 h4 => ?_, hKX.2.2⟩, fun u hu => (by rw [hU] at hu; cases hu), fun _ => ?_⟩
      · have e : upd (Y.2.2.1 5) c (Y.2.1 7) x = 0 := e
        by_cases ex : x = c
        · rw [ex, upd_same] at e; exact absurd e c2
        · rw [upd_other _ _ ex] at e; exact hX'.2 x hx e
      · have e0 : ¬ upd (Y.2.2.1 5) c (Y.2.1 7) x = 0 := e0
        have e1 : ¬ upd (Y.2.2.1 5) c (Y.2.1 7) x = -1 := e1
        show U x = none ∧ (upd (Y.2.2.1 5) c (Y.2.1 7) x, upd (Y.2.2.1 7) c (Y.2.1 8) x, upd (Y.2.2.1 8) c (Y.2.1 9) x) = _
        by_cases ex : x = c
        · rw [ex, upd_same, upd_same, upd_same]; exact ⟨hU, ht'⟩
        · rw [upd_other _ _ ex] at e0 e1 ⊢
          rw [upd_other _ _ ex, upd_other _ _ ex]; exact hB' x hx e0 e1
      · show (if j = 8 then _ else if j = 7 then _ else if j = 5 then _ else Y.2.2.1 j) = st.2.1 j
        rw [if_neg h4, if_neg h3, if_neg h1]
        exact hKX.2.1 j h1 h2 h3 h4
      · show (upd (Y.2.2.1 5) c (Y.2.1 7) c, upd (Y.2.2.1 7) c (Y.2.1 8) c, upd (Y.2.2.1 8) c (Y.2.1 9) c) = _ ∧ ¬ upd (Y.2.2.1 5) c (Y.2.1 7) c = 0
        rw [upd_same, upd_same, upd_same]; exact ⟨ht', c2⟩
  · rw [if_neg c1]
    refine ⟨⟨hX, hB, h9⟩, KX_rfl st, fun u hu => ?_, fun hu => ?_⟩
    · have h5 : st.2.1 5 c = 0 := Classical.byContradiction fun e => by rw [(hB c hc e c1).1] at hu; cases hu
      have h6 := hX.2 c hc h5
      rw [hu] at h6
      injection h6 with h6
      exact ⟨h5, h6.symm⟩
    · have h5 : ¬ st.2.1 5 c = 0 := fun e => by rw [hX.2 c hc e] at hu; cases hu
      exact ⟨(hB c hc h5 c1).2, h5⟩
/-- both answer alike of a cell's value, why and how deep -/
theorem val_all {g : Nat → Int32} {U : Nat → Option Int32} {xs ms : ST} {c : Nat} (hR : RX (ms.2.1 0) g) (hV : VS g U) (hc : c < 36) (h : XC g U xs) :
    FindOk ms c (Wb 36) ∧ XC g U (xIF xs c) ∧ KX xs (xIF xs c) ∧ KN ms (mFin ms c (Wb 36)) ∧ xVal xs c = mVal ms c (Wb 36) ∧ xWhy xs c = mWhy ms c (Wb 36) ∧ xDeep xs c = mDeep ms c (Wb 36) ∧ ((xIF xs c).2.1 5 c = 0 ↔ (mFin ms c (Wb 36)).1 6 = 0) := by
  have hx := xIF_all (fun c hc => (hR c hc).2) hV hc h
  have hm := find_all hR hV hc
  refine ⟨hm.1, hx.1, hx.2.1, hm.2.1, ?_⟩
  unfold xVal xWhy xDeep mVal mWhy mDeep
  cases hU : U c with
  | some u =>
    have h1 := hx.2.2.1 u hU
    have h2 := hm.2.2.1 u hU
    rw [if_pos h1.1, if_pos h2.1, if_pos h1.1, if_pos h2.1, if_pos h1.1, if_pos h2.1, h1.2, h2.2]
    exact ⟨rfl, rfl, rfl, fun _ => h2.1, fun _ => h1.1⟩
  | none =>
    have h1 := hx.2.2.2 hU
    have h2 := hm.2.2.2 hU
    have e : ((xIF xs c).2.1 5 c, (xIF xs c).2.1 7 c, (xIF xs c).2.1 8 c) = ((mFin ms c (Wb 36)).1 6, (mFin ms c (Wb 36)).1 7, (mFin ms c (Wb 36)).1 8) := h1.1.trans h2.1.symm
    have e1 := congrArg (fun z : T3 => z.1) e
    have e2 := congrArg (fun z : T3 => z.2.1) e
    have e3 := congrArg (fun z : T3 => z.2.2) e
    have e1 : (xIF xs c).2.1 5 c = (mFin ms c (Wb 36)).1 6 := e1
    have e2 : (xIF xs c).2.1 7 c = (mFin ms c (Wb 36)).1 7 := e2
    have e3 : (xIF xs c).2.1 8 c = (mFin ms c (Wb 36)).1 8 := e3
    rw [if_neg h1.2, if_neg h2.2, if_neg h1.2, if_neg h2.2, if_neg h1.2, if_neg h2.2, e1, e2, e3]
    exact ⟨rfl, rfl, rfl, Iff.rfl⟩
