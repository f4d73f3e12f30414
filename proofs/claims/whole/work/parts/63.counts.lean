theorem lp_ex {F : Nat → Bool → Bool} {p : Nat → Prop} : ∀ (n i : Nat) (b : Bool), (∀ j b, i ≤ j → j < i + n → (F j b = true ↔ b = true ∨ p j)) → (lp F n i b = true ↔ b = true ∨ ∃ j, i ≤ j ∧ j < i + n ∧ p j)
  | 0, i, b, _ => by
    show b = true ↔ _
    exact ⟨Or.inl, fun h => h.elim id (fun ⟨j, h1, h2, _⟩ => absurd h1 (by omega))⟩
  | n + 1, i, b, h => by
    rw [lp_s, lp_ex n (i + 1) (F i b) (fun j b h1 h2 => h j b (by omega) (by omega)), h i b (Nat.le_refl i) (by omega)]
    constructor
    · rintro ((h1 | h1) | ⟨j, h1, h2, h3⟩)
      · exact Or.inl h1
      · exact Or.inr ⟨i, Nat.le_refl i, by omega, h1⟩
      · exact Or.inr ⟨j, by omega, by omega, h3⟩
    · rintro (h1 | ⟨j, h1, h2, h3⟩)
      · exact Or.inl (Or.inl h1)
      · by_cases e : j = i
        · rw [e] at h3; exact Or.inl (Or.inr h3)
        · exact Or.inr ⟨j, by omega, by omega, h3⟩
theorem oI_none {x a n : Nat} (hx : x < 6) : oI (cmN x a n) = -1 ↔ a ≤ x ∧ 6 ≤ x + n := by
  unfold cmN
  by_cases h1 : x < a
  · rw [if_pos h1]
    exact ⟨fun h => absurd h (oI_s hx), fun h => absurd h1 (by omega)⟩
  · rw [if_neg h1]
    by_cases h2 : 6 ≤ x + n
    · rw [if_pos h2]; exact ⟨fun _ => ⟨by omega, h2⟩, fun _ => rfl⟩
    · rw [if_neg h2]
      exact ⟨fun h => absurd h (oI_s (by omega)), fun h => absurd h.2 h2⟩
theorem wlL_iff (g : Nat → Int32) (ax a n : Nat) (hax : ax < 2) : ∀ k c, c + k ≤ 36 → (wlL g ax a n k c = true ↔ ∃ c', c ≤ c' ∧ c' < c + k ∧ ¬ g (c' * 4) = 0 ∧ a ≤ lnN c' ax ∧ 6 ≤ lnN c' ax + n)
  | 0, c, _ => by
    show false = true ↔ _
    exact ⟨fun h => absurd h (by decide), fun ⟨c', h1, h2, _⟩ => absurd h1 (by omega)⟩
  | k + 1, c, h => by
    have ih := wlL_iff g ax a n hax k (c + 1) (by omega)
    have hl : lnN c ax < 6 := lnN_lt (by omega)
    show (if g (c * 4) = 0 then wlL g ax a n k (c + 1) else if oI (cmN (lnN c ax) a n) = -1 then true else wlL g ax a n k (c + 1)) = true ↔ _
    have nx : ∀ X : Prop, (X ↔ ∃ c', c + 1 ≤ c' ∧ c' < c + 1 + k ∧ ¬ g (c' * 4) = 0 ∧ a ≤ lnN c' ax ∧ 6 ≤ lnN c' ax + n) → ¬ (¬ g (c * 4) = 0 ∧ a ≤ lnN c ax ∧ 6 ≤ lnN c ax + n) → (X ↔ ∃ c', c ≤ c' ∧ c' < c + (k + 1) ∧ ¬ g (c' * 4) = 0 ∧ a ≤ lnN c' ax ∧ 6 ≤ lnN c' ax + n) := by
      intro X hX hn
      rw [hX]
      constructor
      · rintro ⟨c', h1, h2, h3⟩; exact ⟨c', by omega, by omega, h3⟩
      · rintro ⟨c', h1, h2, h3⟩
        by_cases e : c' = c
        · rw [e] at h3; exact absurd h3 hn
        · exact ⟨c', by omega, by omega, h3⟩
    by_cases c1 : g (c * 4) = 0
    · rw [if_pos c1]
      exact nx _ ih (fun h => h.1 c1)
    · rw [if_neg c1]
      by_cases c2 : oI (cmN (lnN c ax) a n) = -1
      · rw [if_pos c2]
        exact ⟨fun _ => ⟨c, Nat.le_refl c, by omega, c1, (oI_none hl).mp c2⟩, fun _ => rfl⟩
      · rw [if_neg c2]
        exact nx _ ih (fun h => c2 ((oI_none hl).mpr h.2))
theorem RX_posI {m g : Nat → Int32} (h : RX m g) {k : Nat} (hk : k < 36) : m (25 * k) ≤ 0 ↔ g (k * 4) = 0 := by
  rw [← RX_emptyI h hk, (h k hk).1.1]
  have h4 := szN_le g k
  by_cases e : szN g k = 0
  · rw [e]; decide
  · exact ⟨fun h => absurd h (nI_nle (by omega) (by omega)), fun h => absurd h (nI_ne0 (by omega) (by omega))⟩
theorem mWl_iff (m : Nat → Int32) (way a n : Nat) (ha : a < 6) : mWl m way a n = true ↔ ∃ line, a ≤ line ∧ line < 6 ∧ ∃ ot, ot < 6 ∧ 6 ≤ line + n ∧ ¬ m (mCb way line ot) ≤ 0 := by
  unfold mWl
  rw [lp_ex (p := fun line => ∃ ot, ot < 6 ∧ 6 ≤ line + n ∧ ¬ m (mCb way line ot) ≤ 0)]
  · constructor
    · rintro (h | ⟨j, h1, h2, h3⟩)
      · exact absurd h (by decide)
      · exact ⟨j, h1, by omega, h3⟩
    · rintro ⟨j, h1, h2, h3⟩; exact Or.inr ⟨j, h1, by omega, h3⟩
  · intro line b _ _
    rw [lp_ex (p := fun ot => 6 ≤ line + n ∧ ¬ m (mCb way line ot) ≤ 0)]
    · constructor
      · rintro (h | ⟨j, h1, h2, h3⟩)
        · exact Or.inl h
        · exact Or.inr ⟨j, by omega, h3⟩
      · rintro (h | ⟨j, h1, h3⟩)
        · exact Or.inl h
        · exact Or.inr ⟨j, by omega, by omega, h3⟩
    · intro ot b _ _
      unfold mWF
      cases b with
      | true => simp
      | false =>
        rw [if_neg (by decide)]
        by_cases c1 : line + n ≤ 5
        · rw [if_pos c1]
          exact ⟨fun h => absurd h (by decide), fun h => h.elim (fun h => absurd h (by decide)) (fun h => absurd h.1 (by omega))⟩
        · rw [if_neg c1]
          by_cases c2 : m (mCb way line ot) ≤ 0
          · rw [if_pos c2]
            exact ⟨fun h => absurd h (by decide), fun h => h.elim (fun h => absurd h (by decide)) (fun h => absurd c2 h.2)⟩
          · rw [if_neg c2]
            exact ⟨fun _ => Or.inr ⟨by omega, c2⟩, fun _ => rfl⟩
theorem RX_wl {m g : Nat → Int32} {ax a n : Nat} (hax : ax < 2) (ha : a < 6) (h : RX m g) : mWl m (1 - ax) a n = wlL g ax a n 36 0 := by
  apply Bool.eq_iff_iff.mpr
  rw [mWl_iff m _ a n ha, wlL_iff g ax a n hax 36 0 (by decide)]
  constructor
  · rintro ⟨line, h1, h2, ot, h3, h4, h5⟩
    rw [mCb_cO hax, RX_posI h (cO_lt h2 h3)] at h5
    exact ⟨cO ax line ot, Nat.zero_le _, by have := cO_lt (ax := ax) h2 h3; omega, h5, by rw [lnN_cO h2 h3]; exact h1, by rw [lnN_cO h2 h3]; exact h4⟩
  · rintro ⟨c, _, h2, h3, h4, h5⟩
    obtain ⟨line, ot, hl, ho, rfl⟩ := cO_of (ax := ax) (c := c) (by omega)
    rw [lnN_cO hl ho] at h4 h5
    exact ⟨line, h4, hl, ot, ho, h5, by rw [mCb_cO hax, RX_posI h (cO_lt hl ho)]; exact h3⟩
theorem cnt_lp (p : Nat → Bool) : ∀ k i n, cnt p k i n = lp (fun i n => if p i = true then n + 1 else n) k i n
  | 0, _, _ => rfl
  | k + 1, i, n => cnt_lp p k (i + 1) _
theorem cntLoop {m g : Nat → Int32} {cn : Nat → Nat} {p q : Nat → Bool} (h : RX m g) (hc : mCn m cn) (h1 : ∀ k i, k < 36 → i < 4 → ¬ g (k * 4 + i) = 0 → p (k * 4 + i) = q (25 * k + 1 + 6 * i)) (h0 : ∀ k i, k < 36 → i < 4 → g (k * 4 + i) = 0 → p (k * 4 + i) = false) :
    cnt p 144 0 0 = lp (fun k n => lp (fun i n => if q (25 * k + 1 + 6 * i) = true then n + 1 else n) (cn k) 0 n) 36 0 0 := by
  rw [cnt_lp]
  refine (termLoop (fun _ : Nat => g) (fun _ : Nat => m) (fun a b => a = b) (fun j n => if p j = true then n + 1 else n) (fun ta n => if q ta = true then n + 1 else n) cn ?_ ?_ 0 0 h rfl hc).1.2
  · intro k i a b hk hi hr he hz
    subst he
    refine ⟨⟨hr, ?_⟩, fun j => Iff.rfl⟩
    show (if p (k * 4 + i) = true then a + 1 else a) = _
    rw [h1 k i hk hi hz]
  · intro k i a hk hi hz
    show (if p (k * 4 + i) = true then a + 1 else a) = a
    rw [h0 k i hk hi hz, if_neg (by decide)]
theorem V_k3 {t : Int32} (h : Wt t) (h0 : ¬ t = 0) : V t 0 = 3 ↔ t = 4 := by
  revert h0
  refine Wt_cases (C := fun t => ¬ t = 0 → (V t 0 = 3 ↔ t = 4)) h (fun h => absurd rfl h) (fun _ => ⟨fun _ => rfl, fun _ => V_k0⟩) (fun n hn _ => ⟨fun e => ?_, fun e => absurd e (eN_ne4 hn)⟩) (fun f c r h1 h2 h3 _ => ⟨fun e => ?_, fun e => absurd e eP_ne4⟩) (fun f a b c d h1 h2 h3 h4 h5 _ => ⟨fun e => ?_, fun e => absurd e eB_ne4⟩)
  · rw [V_kN hn] at e; exact absurd e (by decide)
  · rw [V_P (by omega) (by omega) (by omega) 0 (by decide)] at e; exact absurd (show (1 : Int32) = 3 from e) (by decide)
  · rw [V_B (by omega) (by omega) (by omega) (by omega) (by omega) 0 (by decide)] at e; exact absurd (show (2 : Int32) = 3 from e) (by decide)
theorem RX_c1 {m g : Nat → Int32} {cn : Nat → Nat} (h : RX m g) (hc : mCn m cn) : cnt (fun i => decide (¬ g i = 0)) 144 0 0 = mCount1 cn := by
  rw [cntLoop (q := fun _ => true) h hc (fun k i _ _ hz => decide_eq_true hz) (fun k i _ _ hz => decide_eq_false (fun h => h hz))]
  rfl
theorem RX_c2 {m g : Nat → Int32} {cn : Nat → Nat} (h : RX m g) (hc : mCn m cn) : cnt (fun i => decide (g i = 4)) 144 0 0 = mCount2 m cn := by
  rw [cntLoop (q := fun ta => decide (m (ta + 0) = 3)) h hc ?_ (fun k i _ _ hz => decide_eq_false (by rw [hz]; decide))]
  · unfold mCount2
    refine lp_cong 36 0 0 (fun k n _ _ => lp_cong _ 0 n (fun i n _ _ => ?_))
    unfold mCt2I
    by_cases e : m (25 * k + 1 + 6 * i + 0) = 3
    · rw [if_pos e, if_pos (decide_eq_true e)]
    · rw [if_neg e, if_neg (by rw [decide_eq_false e]; decide)]
  · intro k i hk hi hz
    rw [decide_eq_decide, (h k hk).1.2 i hi 0 (by decide)]
    exact (V_k3 ((h k hk).2.2 i hi) hz).symm
theorem rf_term {m : Nat → Int32} {ta c r : Nat} {t : Int32} (hc : c < 6) (hr : r < 6) (h : Wt t) (h0 : ¬ t = 0) (ha : at6 m ta (V t)) : (tRef t && (xIsW (nI c) (tLeast t 0) (tGreat t 0) && xIsW (nI r) (tLeast t 1) (tGreat t 1))) = mRf m c r ta := by
  revert h0 ha
  refine Wt_cases (C := fun t => ¬ t = 0 → at6 m ta (V t) → (tRef t && (xIsW (nI c) (tLeast t 0) (tGreat t 0) && xIsW (nI r) (tLeast t 1) (tGreat t 1))) = mRf m c r ta) h (fun h => absurd rfl h) ?_ ?_ ?_ ?_
  · intro _ ha
    unfold mRf
    rw [ha 0 (by decide), V_k0, if_neg (by decide), show tRef 4 = false by decide, Bool.false_and]
    rfl
  · intro n hn _ ha
    unfold mRf
    rw [ha 0 (by decide), V_kN hn, if_neg (by decide), eN_ref hn, Bool.false_and]
    rfl
  · intro f x y hf hx hy _ ha
    have ha := (at_P (f := f) (by omega) (by omega) (by omega)).mpr ha
    unfold mRf
    rw [show m (ta + 0) = 1 from ha 0 (by decide), show m (ta + 1) = nI x from ha 1 (by decide), show m (ta + 2) = nI y from ha 2 (by decide), if_pos rfl, eP_ref, eP_le0 (by omega) (by omega) (by omega), eP_gr0 (by omega) (by omega) (by omega), eP_le1 (by omega) (by omega) (by omega), eP_gr1 (by omega) (by omega) (by omega), isW_eq, isW_eq, Bool.true_and]
    congr 1
    · rw [decide_eq_decide]; exact eq_comm
    · rw [decide_eq_decide]; exact eq_comm
  · intro f a b e d hf h1 h2 he hd _ ha
    have ha := (at_B (f := f) (by omega) (by omega) (by omega) (by omega) (by omega)).mpr ha
    unfold mRf
    rw [show m (ta + 0) = 2 from ha 0 (by decide), show m (ta + 1) = nI a from ha 1 (by decide), show m (ta + 2) = nI b from ha 2 (by decide), show m (ta + 3) = nI e from ha 3 (by decide), show m (ta + 4) = nI d from ha 4 (by decide), if_neg (by decide), eB_ref, eB_le0 hf (by omega) (by omega) (by omega) (by omega), eB_gr0 hf (by omega) (by omega) (by omega) (by omega), eB_le1 hf (by omega) (by omega) (by omega) (by omega), eB_gr1 hf (by omega) (by omega) (by omega) (by omega)]
    rfl
theorem RX_us {m g : Nat → Int32} {c r : Nat} {cn : Nat → Nat} (hc6 : c < 6) (hr6 : r < 6) (h : RX m g) (hc : mCn m cn) : cnt (rfB g c r) 144 0 0 = mUs m c r cn := by
  rw [cntLoop (q := mRf m c r) h hc (fun k i hk hi hz => rf_term hc6 hr6 ((h k hk).2.2 i hi) hz ((h k hk).1.2 i hi)) (fun k i _ _ hz => by unfold rfB; rw [hz]; rfl)]
  rfl
