def cO (ax line ot : Nat) : Nat := if ax = 0 then 6 * ot + line else 6 * line + ot
theorem ax_or {ax : Nat} (h : ax < 2) : ax = 0 ∨ ax = 1 := by omega
theorem cO_lt {ax line ot : Nat} (hl : line < 6) (ho : ot < 6) : cO ax line ot < 36 := by unfold cO; split <;> omega
theorem lnN_cO {ax line ot : Nat} (hl : line < 6) (ho : ot < 6) : lnN (cO ax line ot) ax = line := by unfold cO lnN; split <;> omega
theorem tgN_cO {ax line ot t : Nat} (hl : line < 6) (ho : ot < 6) : tgN (cO ax line ot) ax t = cO ax t ot := by unfold cO tgN; split <;> omega
theorem cO_of {ax c : Nat} (hc : c < 36) : ∃ line ot, line < 6 ∧ ot < 6 ∧ c = cO ax line ot := by
  by_cases h : ax = 0
  · exact ⟨c % 6, c / 6, by omega, by omega, by unfold cO; rw [if_pos h]; omega⟩
  · exact ⟨c / 6, c % 6, by omega, by omega, by unfold cO; rw [if_neg h]; omega⟩
theorem cO_inj {ax l1 o1 l2 o2 : Nat} (h1 : l1 < 6) (h2 : o1 < 6) (h3 : l2 < 6) (h4 : o2 < 6) (e : cO ax l1 o1 = cO ax l2 o2) : l1 = l2 ∧ o1 = o2 := by
  unfold cO at e
  split at e <;> omega
theorem mCb_cO {ax line ot : Nat} (hax : ax < 2) : mCb (1 - ax) line ot = 25 * cO ax line ot := by
  rcases ax_or hax with rfl | rfl
  · rfl
  · rfl
/-- a rule that sends lines to lines -/
def LO (o : Nat → Option Nat) : Prop := (∀ x t, x < 6 → o x = some t → t < 6) ∧ ∀ x y t, x < 6 → y < 6 → o x = some t → o y = some t → x = y
theorem LO_cm (s n : Nat) : LO (fun x => cmN x s n) := by
  refine ⟨fun x t hx h => ?_, fun x y t hx hy h h' => ?_⟩
  · dsimp only at h
    unfold cmN at h
    split at h
    · cases h; omega
    · split at h
      · cases h
      · cases h; omega
  · dsimp only at h h'
    unfold cmN at h h'
    split at h <;> split at h'
    · cases h; cases h'; rfl
    · split at h'
      · cases h'
      · cases h; injection h' with h'; omega
    · split at h
      · cases h
      · cases h'; injection h with h; omega
    · split at h
      · cases h
      · split at h'
        · cases h'
        · injection h with h; injection h' with h'; omega
theorem LO_go (s n : Nat) : LO (fun x => goN x s n) := by
  refine ⟨fun x t hx h => ?_, fun x y t hx hy h h' => ?_⟩
  · dsimp only at h
    unfold goN at h
    split at h
    · cases h; omega
    · split at h
      · cases h
      · cases h; omega
  · dsimp only at h h'
    unfold goN at h h'
    split at h <;> split at h'
    · cases h; cases h'; rfl
    · split at h'
      · cases h'
      · cases h; injection h' with h'; omega
    · split at h
      · cases h
      · cases h'; injection h with h; omega
    · split at h
      · cases h
      · split at h'
        · cases h'
        · injection h with h; injection h' with h'; omega
theorem oI_s {t : Nat} (h : t < 6) : ¬ oI (some t) = -1 := ne_m1 (x := t) (by omega)
section SHIFT
variable {h g : Nat → Int32} {ax : Nat} {o : Nat → Option Nat}
theorem tk_step (hax : ax < 2) (hO : LO o) {line ot i a b : Nat} (hl : line < 6) (ho : ot < 6) (hi : i < 4) (ha : a < 6) (hb : b < 6) (g : Nat → Int32) :
    tkF h ax o (cO ax line ot) g (cO ax a b * 4 + i) = if o line = some a ∧ ot = b then h (cO ax line ot * 4 + i) else g (cO ax a b * 4 + i) := by
  unfold tkF
  rw [lnN_cO hl ho]
  cases e : o line with
  | none => rw [if_pos (show oI none = -1 from rfl), if_neg (by simp)]
  | some t =>
    have ht := hO.1 line t hl e
    rw [if_neg (oI_s ht), tgN_cO hl ho, cpT_eq]
    simp only [Option.getD_some]
    show (if cO ax t ot * 4 ≤ cO ax a b * 4 + i ∧ cO ax a b * 4 + i < cO ax t ot * 4 + 4 then _ else _) = _
    by_cases e2 : t = a ∧ ot = b
    · obtain ⟨rfl, rfl⟩ := e2
      rw [if_pos (by omega), if_pos ⟨rfl, rfl⟩]
      congr 1; omega
    · rw [if_neg, if_neg]
      · intro e3; exact e2 ⟨by injection e3.1, e3.2⟩
      · intro e3
        exact e2 (cO_inj (ax := ax) ht ho ha hb (by omega))
theorem tk_hit (hax : ax < 2) (hO : LO o) {line i a b : Nat} (hl : line < 6) (hi : i < 4) (ha : a < 6) (hb : b < 6) (e : o line = some a) :
    lp (tkF h ax o) 36 0 g (cO ax a b * 4 + i) = h (cO ax line b * 4 + i) := by
  refine lp_hit _ (cO ax line b) _ 36 0 g (Nat.zero_le _) (by have := cO_lt (ax := ax) hl hb; omega) (fun g => ?_) (fun c g h1 h2 => ?_)
  · rw [tk_step hax hO hl hb hi ha hb, if_pos ⟨e, rfl⟩]
  · obtain ⟨l', o', hl', ho', rfl⟩ := cO_of (ax := ax) (c := c) (by omega)
    rw [tk_step hax hO hl' ho' hi ha hb, if_neg]
    intro e3
    have := hO.2 l' line a hl' hl e3.1 e
    rw [this, e3.2] at h1
    omega
theorem tk_miss (hax : ax < 2) (hO : LO o) {i a b : Nat} (hi : i < 4) (ha : a < 6) (hb : b < 6) (e : ∀ line, line < 6 → ¬ o line = some a) :
    lp (tkF h ax o) 36 0 g (cO ax a b * 4 + i) = g (cO ax a b * 4 + i) := by
  refine lp_miss _ 36 0 g (fun c g h1 h2 => ?_)
  obtain ⟨l', o', hl', ho', rfl⟩ := cO_of (ax := ax) (c := c) (by omega)
  rw [tk_step hax hO hl' ho' hi ha hb, if_neg (fun e3 => e l' hl' e3.1)]
theorem sh_step1 (hax : ax < 2) (hO : LO o) {line ot j a b t : Nat} (hl : line < 6) (ho : ot < 6) (hj : j < 25) (ha : a < 6) (hb : b < 6) (e : o line = some t) (g : Nat → Int32) :
    mShI h (1 - ax) o line ot g (25 * cO ax a b + j) = if t = a ∧ ot = b then h (25 * cO ax line ot + j) else g (25 * cO ax a b + j) := by
  have ht := hO.1 line t hl e
  unfold mShI
  rw [e, mCb_cO hax, mCb_cO hax, mTak_eq]
  show (if 25 * cO ax t ot ≤ 25 * cO ax a b + j ∧ 25 * cO ax a b + j < 25 * cO ax t ot + 25 then _ else _) = _
  by_cases e2 : t = a ∧ ot = b
  · obtain ⟨rfl, rfl⟩ := e2
    rw [if_pos (by omega), if_pos ⟨rfl, rfl⟩]
    congr 1
    show 25 * cO ax line ot + (25 * cO ax t ot + j - 25 * cO ax t ot) = _
    omega
  · rw [if_neg e2, if_neg]
    intro e3
    exact e2 (cO_inj (ax := ax) ht ho ha hb (by omega))
theorem sh_step (hax : ax < 2) (hO : LO o) {line j a b : Nat} (hl : line < 6) (hj : j < 25) (ha : a < 6) (hb : b < 6) (g : Nat → Int32) :
    mShL h (1 - ax) o line g (25 * cO ax a b + j) = if o line = some a then h (25 * cO ax line b + j) else g (25 * cO ax a b + j) := by
  unfold mShL
  cases e : o line with
  | none => rw [if_pos (show oI none = -1 from rfl), if_neg (by simp)]
  | some t =>
    have ht := hO.1 line t hl e
    rw [if_neg (oI_s ht)]
    by_cases e2 : t = a
    · subst e2
      rw [if_pos rfl]
      refine lp_hit _ b _ 6 0 g (Nat.zero_le _) (by omega) (fun g => ?_) (fun o' g h1 h2 => ?_)
      · rw [sh_step1 hax hO hl hb hj ha hb e, if_pos ⟨rfl, rfl⟩]
      · rw [sh_step1 hax hO hl (by omega) hj ha hb e, if_neg (by omega)]
    · rw [if_neg (by intro h; injection h with h; exact e2 h)]
      refine lp_miss _ 6 0 g (fun o' g h1 h2 => ?_)
      rw [sh_step1 hax hO hl (by omega) hj ha hb e, if_neg (fun h => e2 h.1)]
theorem sh_hit (hax : ax < 2) (hO : LO o) {line j a b : Nat} (hl : line < 6) (hj : j < 25) (ha : a < 6) (hb : b < 6) (e : o line = some a) :
    lp (mShL h (1 - ax) o) 6 0 g (25 * cO ax a b + j) = h (25 * cO ax line b + j) := by
  refine lp_hit _ line _ 6 0 g (Nat.zero_le _) (by omega) (fun g => ?_) (fun l' g h1 h2 => ?_)
  · rw [sh_step hax hO hl hj ha hb, if_pos e]
  · rw [sh_step hax hO (by omega) hj ha hb, if_neg]
    intro e3
    have := hO.2 l' line a (by omega) hl e3 e
    omega
theorem sh_miss (hax : ax < 2) (hO : LO o) {j a b : Nat} (hj : j < 25) (ha : a < 6) (hb : b < 6) (e : ∀ line, line < 6 → ¬ o line = some a) :
    lp (mShL h (1 - ax) o) 6 0 g (25 * cO ax a b + j) = g (25 * cO ax a b + j) := by
  refine lp_miss _ 6 0 g (fun l' g h1 h2 => ?_)
  rw [sh_step hax hO (by omega) hj ha hb, if_neg (e l' (by omega))]
end SHIFT
theorem emp_all (g : Nat → Int32) {p : Nat} (hp : p < 900) : lp (fun k g => mEmp g (25 * k)) 36 0 g p = 0 := by
  refine lp_hit p (p / 25) _ 36 0 g (Nat.zero_le _) (by omega) (fun g => ?_) (fun k g h1 h2 => ?_)
  · rw [mEmp_eq, if_pos (by omega)]
  · rw [mEmp_eq, if_neg (by omega)]
theorem RX_shift {hm hx gm gx : Nat → Int32} {ax : Nat} {o : Nat → Option Nat} (hax : ax < 2) (hO : LO o) (h : RX hm hx) : RX (mShC hm (1 - ax) o gm) (lp (tkF hx ax o) 36 0 (fillF gx 0 144)) := by
  intro k hk
  obtain ⟨a, b, ha, hb, rfl⟩ := cO_of (ax := ax) hk
  by_cases e : ∃ line, line < 6 ∧ o line = some a
  · obtain ⟨line, hl, e⟩ := e
    have h1 : ∀ i, i < 4 → lp (tkF hx ax o) 36 0 (fillF gx 0 144) (cO ax a b * 4 + i) = hx (cO ax line b * 4 + i) := fun i hi => tk_hit hax hO hl hi ha hb e
    exact ⟨CR_copy (b := 25 * cO ax line b) (k := cO ax line b) (fun j hj => sh_hit hax hO hl hj ha hb e) h1 (h _ (cO_lt hl hb)).1, CW_copy h1 (h _ (cO_lt hl hb)).2⟩
  · have e2 : ∀ line, line < 6 → ¬ o line = some a := fun line hl e3 => e ⟨line, hl, e3⟩
    have h1 : ∀ i, i < 4 → lp (tkF hx ax o) 36 0 (fillF gx 0 144) (cO ax a b * 4 + i) = 0 := fun i hi => by
      rw [tk_miss hax hO hi ha hb e2]
      exact if_pos (by omega)
    refine ⟨CR_empty (fun j hj => ?_) h1, CW_empty h1⟩
    unfold mShC
    rw [sh_miss hax hO hj ha hb e2]
    exact emp_all gm (by omega)
theorem RX_cong {m m' g g' : Nat → Int32} (hm : ∀ x, x < 900 → m' x = m x) (hg : ∀ x, x < 144 → g' x = g x) (h : RX m g) : RX m' g' := fun k hk =>
  ⟨CR_copy (fun j hj => hm _ (by omega)) (fun i hi => hg _ (by omega)) (h k hk).1, CW_copy (fun i hi => hg _ (by omega)) (h k hk).2⟩
theorem tCome_0 (ax a n : Int32) : tCome 0 ax a n = 0 := if_pos (Or.inl (by decide))
theorem tGo_0 (ax a n : Int32) : tGo 0 ax a n = 0 := if_pos (Or.inl (by decide))
theorem upd_self (g : Nat → Int32) {i : Nat} {v : Int32} (h : g i = v) : upd g i v = g := by
  funext j
  by_cases e : j = i
  · rw [e, upd_same, h]
  · rw [upd_other _ _ e]
theorem upd_zero {g : Nat → Int32} {i : Nat} {v : Int32} (h0 : ¬ g i = 0) (hv : ¬ v = 0) (j : Nat) : upd g i v j = 0 ↔ g j = 0 := by
  by_cases e : j = i
  · rw [e, upd_same]; exact ⟨fun h => absurd h hv, fun h => absurd h h0⟩
  · rw [upd_other _ _ e]
theorem RX_come {hm hx gm gx : Nat → Int32} {ax s n : Nat} {cn : Nat → Nat} (hax : ax < 2) (hs : s < 6) (hn : 1 ≤ n) (hn6 : n < 7) (h : RX hm hx) (hc : mCn (mShC hm (1 - ax) (fun x => cmN x s n) gm) cn) :
    RX (mSh hm (1 - ax) (nI s) (nI n) (fun x => cmN x s n) cn gm) (lp (fun i g => upd g i (tCome (g i) (nI ax) (nI s) (nI n))) 144 0 (lp (tkF hx ax (fun x => cmN x s n)) 36 0 (fillF gx 0 144))) := by
  refine (termLoop (fun a => a) (fun b => b) (fun _ _ => True) (fun i g => upd g i (tCome (g i) (nI ax) (nI s) (nI n))) (fun ta g => mShT (if 1 - ax = 0 then 2 else 1) (nI s) (nI n) ta g) cn ?_ ?_ _ _ (RX_shift hax (LO_cm s n) h) trivial hc).1.1
  · intro k i a b hk hi hr _ h0
    have h1 : at6 (mShT (if 1 - ax = 0 then 2 else 1) (nI s) (nI n) (25 * k + 1 + 6 * i) b) (25 * k + 1 + 6 * i) (V (tCome (a (k * 4 + i)) (nI ax) (nI s) (nI n))) ∧ off6 b (mShT (if 1 - ax = 0 then 2 else 1) (nI s) (nI n) (25 * k + 1 + 6 * i) b) (25 * k + 1 + 6 * i) ∧ Wt (tCome (a (k * 4 + i)) (nI ax) (nI s) (nI n)) ∧ ¬ tCome (a (k * 4 + i)) (nI ax) (nI s) (nI n) = 0 := by
      rcases ax_or hax with rfl | rfl
      · exact shT_come0 ((hr k hk).2.2 i hi) h0 hs hn hn6 ((hr k hk).1.2 i hi)
      · exact shT_come1 ((hr k hk).2.2 i hi) h0 hs hn hn6 ((hr k hk).1.2 i hi)
    exact ⟨⟨RX_step hr hk hi h0 h1.2.2.2 h1.2.2.1 h1.1 h1.2.1, trivial⟩, fun j => upd_zero h0 h1.2.2.2 j⟩
  · intro k i a hk hi h0
    exact upd_self a (by rw [h0, tCome_0])
theorem RX_go {hm hx gm gx : Nat → Int32} {ax s n : Nat} {cn : Nat → Nat} (hax : ax < 2) (hs : s < 6) (hn : 1 ≤ n) (hn6 : n < 7) (h : RX hm hx) (hc : mCn (mShC hm (1 - ax) (fun x => goN x s n) gm) cn) :
    RX (mSh hm (1 - ax) (nI s) (-(nI n)) (fun x => goN x s n) cn gm) (lp (fun i g => upd g i (tGo (g i) (nI ax) (nI s) (nI n))) 144 0 (lp (tkF hx ax (fun x => goN x s n)) 36 0 (fillF gx 0 144))) := by
  refine (termLoop (fun a => a) (fun b => b) (fun _ _ => True) (fun i g => upd g i (tGo (g i) (nI ax) (nI s) (nI n))) (fun ta g => mShT (if 1 - ax = 0 then 2 else 1) (nI s) (-(nI n)) ta g) cn ?_ ?_ _ _ (RX_shift hax (LO_go s n) h) trivial hc).1.1
  · intro k i a b hk hi hr _ h0
    have h1 : at6 (mShT (if 1 - ax = 0 then 2 else 1) (nI s) (-(nI n)) (25 * k + 1 + 6 * i) b) (25 * k + 1 + 6 * i) (V (tGo (a (k * 4 + i)) (nI ax) (nI s) (nI n))) ∧ off6 b (mShT (if 1 - ax = 0 then 2 else 1) (nI s) (-(nI n)) (25 * k + 1 + 6 * i) b) (25 * k + 1 + 6 * i) ∧ Wt (tGo (a (k * 4 + i)) (nI ax) (nI s) (nI n)) ∧ ¬ tGo (a (k * 4 + i)) (nI ax) (nI s) (nI n) = 0 := by
      rcases ax_or hax with rfl | rfl
      · exact shT_go0 ((hr k hk).2.2 i hi) h0 hs hn hn6 ((hr k hk).1.2 i hi)
      · exact shT_go1 ((hr k hk).2.2 i hi) h0 hs hn hn6 ((hr k hk).1.2 i hi)
    exact ⟨⟨RX_step hr hk hi h0 h1.2.2.2 h1.2.2.1 h1.1 h1.2.1, trivial⟩, fun j => upd_zero h0 h1.2.2.2 j⟩
  · intro k i a hk hi h0
    exact upd_self a (by rw [h0, tGo_0])
