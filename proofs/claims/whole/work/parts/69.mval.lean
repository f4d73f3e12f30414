/-! the reference's machine for values -/
def MG (s : ST) : Prop := ¬ s.1 5 ≤ 0 ∧ s.1 6 = 0 ∧ ∃ d ce ti m a b c e kk, GaP s d ce ti m a b c e kk ∧ mStp s = mStpG s d ce ti m a b c e kk
def Rch : Nat → ST → ST → Prop
  | 0, s, s' => s = s'
  | n + 1, s, s' => MG s ∧ Rch n (mStp s) s'
theorem Rch_tr : ∀ (n m : Nat) (a b c : ST), Rch n a b → Rch m b c → Rch (n + m) a c
  | 0, m, a, b, c, h, h' => by have h : a = b := h; rw [Nat.zero_add, h]; exact h'
  | n + 1, m, a, b, c, h, h' => by
    rw [show n + 1 + m = (n + m) + 1 by omega]
    exact ⟨h.1, Rch_tr n m _ b c h.2 h'⟩
theorem Rch_1 {s s' : ST} (h : MG s) (e : mStp s = s') : Rch 1 s s' := ⟨h, e⟩
theorem Rch_run : ∀ (n k : Nat) (s s' : ST), Rch k s s' → (s'.1 5 ≤ 0 ∨ ¬ s'.1 6 = 0) → k ≤ n → mRun n s = s'
  | 0, k, s, s', h, _, hk => by rw [show k = 0 by omega] at h; exact h
  | n + 1, 0, s, s', h, hf, _ => by
    have h : s = s' := h
    subst h
    show (if s.1 5 ≤ 0 then s else if s.1 6 = 0 then mRun n (mStp s) else s) = s
    by_cases e : s.1 5 ≤ 0
    · rw [if_pos e]
    · rw [if_neg e, if_neg (hf.resolve_left e)]
  | n + 1, k + 1, s, s', h, hf, hk => by
    show (if s.1 5 ≤ 0 then s else if s.1 6 = 0 then mRun n (mStp s) else s) = s'
    rw [if_neg h.1.1, if_pos h.1.2.1]
    exact Rch_run n k _ s' h.2 hf (by omega)
theorem Rch_ok {st s' : ST} {ce k n : Nat} (h : Rch k (mF0 st ce) s') (hf : s'.1 5 ≤ 0 ∨ ¬ s'.1 6 = 0) (hk : k ≤ n) : FindOk st ce n ∧ mFin st ce n = s' := by
  have e : mFin st ce n = s' := Rch_run n k _ s' h hf hk
  refine ⟨⟨fun s => ∃ k, Rch k s s', ⟨k, h⟩, fun s hs h5 h6 => ?_, ?_⟩, e⟩
  · obtain ⟨k, hk⟩ := hs
    cases k with
    | zero =>
      have hk : s = s' := hk
      subst hk
      exact absurd h6 (hf.resolve_left h5)
    | succ k => exact ⟨hk.1.2.2, k, hk.2⟩
  · rw [e]
    intro h2
    exact absurd h2.2 (hf.resolve_left h2.1)
def bL (a b c : Nat) : Nat → Nat → List It
  | 0, _ => []
  | k + 1, kk => .inr (some (mABc kk a b c)) :: bL a b c k (kk + 1)
theorem bL_app (a b c : Nat) : ∀ k l kk, bL a b c (k + l) kk = bL a b c k kk ++ bL a b c l (kk + k)
  | 0, l, kk => by rw [Nat.zero_add]; rfl
  | k + 1, l, kk => by
    rw [show k + 1 + l = (k + l) + 1 by omega]
    show _ :: bL a b c (k + l) (kk + 1) = _ :: (bL a b c k (kk + 1) ++ _)
    rw [bL_app a b c k l (kk + 1), show kk + 1 + k = kk + (k + 1) by omega]
theorem bL_cols (a b c j : Nat) (hac : a ≤ c) : ∀ k i, i + k ≤ c - a + 1 → bL a b c k ((c - a + 1) * j + i) = colsL (b + j) k (a + i)
  | 0, _, _ => rfl
  | k + 1, i, h => by
    have e1 : ((c - a + 1) * j + i) / (c - a + 1) = j := by rw [Nat.mul_add_div (by omega), Nat.div_eq_of_lt (by omega), Nat.add_zero]
    have e2 : ((c - a + 1) * j + i) % (c - a + 1) = i := by rw [Nat.mul_add_mod, Nat.mod_eq_of_lt (by omega)]
    show .inr (some (mABc ((c - a + 1) * j + i) a b c)) :: bL a b c k ((c - a + 1) * j + i + 1) = .inr (some ((b + j) * 6 + (a + i))) :: colsL (b + j) k (a + i + 1)
    have e3 : mABc ((c - a + 1) * j + i) a b c = (b + j) * 6 + (a + i) := by
      unfold mABc
      rw [e1, e2]
      omega
    rw [show (c - a + 1) * j + i + 1 = (c - a + 1) * j + (i + 1) by omega, bL_cols a b c j hac k (i + 1) (by omega), e3]
    rfl
theorem bL_rows (a b c : Nat) (hac : a ≤ c) : ∀ k j, bL a b c ((c - a + 1) * k) ((c - a + 1) * j) = rowsL a (c - a + 1) k (b + j)
  | 0, j => by rw [Nat.mul_zero]; rfl
  | k + 1, j => by
    rw [show (c - a + 1) * (k + 1) = (c - a + 1) + (c - a + 1) * k by rw [Nat.mul_add, Nat.mul_one, Nat.add_comm], bL_app, show (c - a + 1) * j + (c - a + 1) = (c - a + 1) * (j + 1) by rw [Nat.mul_add, Nat.mul_one], bL_rows a b c hac k (j + 1)]
    have this : bL a b c (c - a + 1) ((c - a + 1) * j) = colsL (b + j) (c - a + 1) a := bL_cols a b c j hac (c - a + 1) 0 (by omega)
    rw [this]
    rfl
theorem itT_N {n : Nat} (h : n < 1000) : itT (eN n) = [.inl (nI n)] := by unfold itT; rw [eN_kind h, if_pos rfl, eN_num h]
theorem itT_4 : itT 4 = [.inr none] := by unfold itT; rw [if_neg (by decide), if_pos (by decide)]
theorem itT_0 : itT 0 = [] := by unfold itT; rw [if_neg (by decide), if_neg (by decide), if_pos (by decide)]
theorem itT_P {f x y : Nat} (hf : f < 4) (hx : x < 6) (hy : y < 6) : itT (eP f x y) = [.inr (some (6 * y + x))] := by
  unfold itT
  rw [eP_kind, if_neg (by decide), if_neg (by decide), eP_ref, if_neg (by decide), le_eq (eP_le0 (by omega) (by omega) (by omega)) (by omega), gr_eq (eP_gr0 (by omega) (by omega) (by omega)) (by omega), le_eq (eP_le1 (by omega) (by omega) (by omega)) (by omega), gr_eq (eP_gr1 (by omega) (by omega) (by omega)) (by omega), show x + 1 - x = 1 by omega, show y + 1 - y = 1 by omega]
  show [(Sum.inr (some (y * 6 + x)) : It)] = _
  rw [show y * 6 + x = 6 * y + x by omega]
theorem itT_B {f a b c d : Nat} (hf : f < 16) (h1 : a ≤ c) (h2 : b ≤ d) (hc : c < 6) (hd : d < 6) : itT (eB f a b c d) = bL a b c ((c - a + 1) * (d - b + 1)) 0 := by
  unfold itT
  rw [eB_kind, if_neg (by decide), if_neg (by decide), eB_ref, if_neg (by decide), le_eq (eB_le0 hf (by omega) (by omega) (by omega) (by omega)) (by omega), gr_eq (eB_gr0 hf (by omega) (by omega) (by omega) (by omega)) (by omega), le_eq (eB_le1 hf (by omega) (by omega) (by omega) (by omega)) (by omega), gr_eq (eB_gr1 hf (by omega) (by omega) (by omega) (by omega)) (by omega), show c + 1 - a = c - a + 1 by omega, show d + 1 - b = d - b + 1 by omega]
  exact (bL_rows a b c h1 (d - b + 1) 0).symm
theorem bL_len (a b c : Nat) : ∀ k kk, (bL a b c k kk).length = k
  | 0, _ => rfl
  | k + 1, kk => by show (bL a b c k (kk + 1)).length + 1 = _; rw [bL_len a b c k]
theorem itT_len {t : Int32} (h : Wt t) : (itT t).length ≤ 36 := by
  refine Wt_cases (C := fun t => (itT t).length ≤ 36) h (by rw [itT_0]; decide) (by rw [itT_4]; decide) (fun n hn => by rw [itT_N hn]; exact Nat.le_of_ble_eq_true rfl) (fun f x y h1 h2 h3 => by rw [itT_P h1 h2 h3]; exact Nat.le_of_ble_eq_true rfl) (fun f a b c d h1 h2 h3 h4 h5 => ?_)
  rw [itT_B h1 h2 h3 h4 h5, bL_len]
  exact Nat.mul_le_mul (show c - a + 1 ≤ 6 by omega) (show d - b + 1 ≤ 6 by omega)
/-! what of the reference's state a search leaves as it was: all but the search's own fields; and the frames below d -/
def KN (s s' : ST) : Prop := (∀ j, j < 5 ∨ 9 ≤ j → s'.1 j = s.1 j) ∧ (∀ j, j < 7 ∨ 13 ≤ j → s'.2.1 j = s.2.1 j) ∧ s'.2.2 = s.2.2
def KF (d : Nat) (s s' : ST) : Prop := ∀ q, q < d → s'.2.1 9 q = s.2.1 9 q ∧ s'.2.1 10 q = s.2.1 10 q ∧ s'.2.1 11 q = s.2.1 11 q ∧ s'.2.1 12 q = s.2.1 12 q
theorem KN_rfl (s : ST) : KN s s := ⟨fun _ _ => rfl, fun _ _ => rfl, rfl⟩
theorem KN_tr {a b c : ST} (h : KN a b) (h' : KN b c) : KN a c := ⟨fun j hj => (h'.1 j hj).trans (h.1 j hj), fun j hj => (h'.2.1 j hj).trans (h.2.1 j hj), h'.2.2.trans h.2.2⟩
theorem KF_rfl (d : Nat) (s : ST) : KF d s s := fun _ _ => ⟨rfl, rfl, rfl, rfl⟩
theorem KF_tr {d : Nat} {a b c : ST} (h : KF d a b) (h' : KF d b c) : KF d a c := fun q hq => ⟨(h' q hq).1.trans (h q hq).1, (h' q hq).2.1.trans (h q hq).2.1, (h' q hq).2.2.1.trans (h q hq).2.2.1, (h' q hq).2.2.2.trans (h q hq).2.2.2⟩
theorem KN_sI {s s' : ST} {k : Nat} {v : Int32} (h : KN s s') (hk : 5 ≤ k ∧ k < 9) : KN s (sI s' k v) := ⟨fun j hj => by rw [sI_1, if_neg (by omega)]; exact h.1 j hj, h.2.1, h.2.2⟩
theorem KN_sA {s s' : ST} {k : Nat} {f : Nat → Int32} (h : KN s s') (hk : 7 ≤ k ∧ k < 13) : KN s (sA s' k f) := ⟨h.1, fun j hj => by rw [sA_21, if_neg (by omega)]; exact h.2.1 j hj, h.2.2⟩
def MI (g : Nat → Int32) (U : Nat → Option Int32) (m : Nat → Int32) (s : ST) : Prop := s.2.1 0 = m ∧ ∀ c, c < 36 → s.2.1 7 c = 2 → U c = some (s.2.1 8 c)
def Am (s : ST) (A : Nat → Bool) : Prop := ∀ x, x < 36 → (s.2.1 7 x = 1 ↔ A x = true)
def tm3 (s : ST) : T3 := (s.1 6, s.1 7, s.1 8)
def Wb : Nat → Nat
  | 0 => 0
  | n + 1 => 144 * (Wb n + 1) + 10
/-- the machine stands at item kk of term ti of cell c, with the sum x, at depth d -/
def FM (s : ST) (c d ti kk : Nat) (x : Int32) : Prop := s.1 5 = nI d ∧ s.1 6 = 0 ∧ s.2.1 9 (d - 1) = nI c ∧ s.2.1 10 (d - 1) = nI ti ∧ s.2.1 11 (d - 1) = nI kk ∧ s.2.1 12 (d - 1) = x
