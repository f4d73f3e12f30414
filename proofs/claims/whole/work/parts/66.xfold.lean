abbrev T3 : Type := Int32 × Int32 × Int32
def fI (sub : Nat → T3) (U : Nat → Option Int32) (c d : Nat) : List It → Int32 → T3
  | [], _ => (0, 0, 0)
  | .inl v :: l, s => if s + v ≤ 99999 then fI sub U c d l (s + v) else (3, nI c, nI d)
  | .inr none :: _, _ => (1, nI c, nI d)
  | .inr (some e) :: l, s => match U e with
    | some v => if s + v ≤ 99999 then fI sub U c d l (s + v) else (3, nI c, nI d)
    | none => sub e
def aU (A : Nat → Bool) (c : Nat) : Nat → Bool := fun x => A x || decide (x = c)
def fA (g : Nat → Int32) (U : Nat → Option Int32) : Nat → (Nat → Bool) → Nat → Nat → T3
  | 0, _, c, d => (2, nI c, nI d - 1)
  | n + 1, A, c, d => if A c = true then (2, nI c, nI d - 1) else fI (fun e => fA g U n (aU A c) e (d + 1)) U c d (its g c) 0
theorem le_eq {t a : Int32} {n : Nat} (h : tLeast t a = nI n) (hn : n < 8) : leN t a = n := by
  have h1 := (le_N t a).symm.trans h
  exact (nI_eq (by have := le_lt t a; omega) (by omega)).mp h1
theorem gr_eq {t a : Int32} {n : Nat} (h : tGreat t a = nI n) (hn : n < 8) : grN t a = n := by
  have h1 := (gr_N t a).symm.trans h
  exact (nI_eq (by have := gr_lt t a; omega) (by omega)).mp h1
theorem Wt_lim {t : Int32} (h : Wt t) (hr : tRef t = true) : leN t 0 ≤ grN t 0 ∧ leN t 1 ≤ grN t 1 ∧ grN t 0 < 6 ∧ grN t 1 < 6 := by
  revert hr
  refine Wt_cases (C := fun t => tRef t = true → leN t 0 ≤ grN t 0 ∧ leN t 1 ≤ grN t 1 ∧ grN t 0 < 6 ∧ grN t 1 < 6) h (fun h => absurd h (by decide)) (fun h => absurd h (by decide)) (fun n hn h => absurd h (by rw [eN_ref hn]; decide)) ?_ ?_
  · intro f c r hf hc hr _
    rw [le_eq (eP_le0 (by omega) (by omega) (by omega)) (by omega), gr_eq (eP_gr0 (by omega) (by omega) (by omega)) (by omega), le_eq (eP_le1 (by omega) (by omega) (by omega)) (by omega), gr_eq (eP_gr1 (by omega) (by omega) (by omega)) (by omega)]
    omega
  · intro f a b c d hf h1 h2 hc hd _
    rw [le_eq (eB_le0 hf (by omega) (by omega) (by omega) (by omega)) (by omega), gr_eq (eB_gr0 hf (by omega) (by omega) (by omega) (by omega)) (by omega), le_eq (eB_le1 hf (by omega) (by omega) (by omega) (by omega)) (by omega), gr_eq (eB_gr1 hf (by omega) (by omega) (by omega) (by omega)) (by omega)]
    omega
theorem colsL_mem {r e : Nat} : ∀ k c, (.inr (some e) : It) ∈ colsL r k c → ∃ c', c ≤ c' ∧ c' < c + k ∧ e = r * 6 + c'
  | 0, _, h => by cases h
  | k + 1, c, h => by
    rcases List.mem_cons.mp h with h | h
    · injection h with h; injection h with h
      exact ⟨c, Nat.le_refl c, by omega, h⟩
    · obtain ⟨c', h1, h2, h3⟩ := colsL_mem k (c + 1) h
      exact ⟨c', by omega, by omega, h3⟩
theorem rowsL_mem {c0 w e : Nat} : ∀ k r, (.inr (some e) : It) ∈ rowsL c0 w k r → ∃ r' c', r ≤ r' ∧ r' < r + k ∧ c0 ≤ c' ∧ c' < c0 + w ∧ e = r' * 6 + c'
  | 0, _, h => by cases h
  | k + 1, r, h => by
    rcases List.mem_append.mp h with h | h
    · obtain ⟨c', h1, h2, h3⟩ := colsL_mem w c0 h
      exact ⟨r, c', Nat.le_refl r, by omega, h1, h2, h3⟩
    · obtain ⟨r', c', h1, h2, h3⟩ := rowsL_mem k (r + 1) h
      exact ⟨r', c', by omega, by omega, h3⟩
theorem itT_lt {t : Int32} (h : Wt t) {e : Nat} (he : (.inr (some e) : It) ∈ itT t) : e < 36 := by
  unfold itT at he
  split at he
  · rcases List.mem_cons.mp he with h | h
    · cases h
    · cases h
  · split at he
    · rcases List.mem_cons.mp he with h | h
      · cases h
      · cases h
    · split at he
      · cases he
      · rename_i hr
        have hr : tRef t = true := by cases h2 : tRef t with | false => exact absurd h2 hr | true => rfl
        have hl := Wt_lim h hr
        obtain ⟨r', c', h1, h2, h3, h4, rfl⟩ := rowsL_mem _ _ he
        omega
theorem itL_lt {g : Nat → Int32} {c e : Nat} : ∀ k i, (∀ j, i ≤ j → j < i + k → Wt (g (c * 4 + j))) → (.inr (some e) : It) ∈ itL g c k i → e < 36
  | 0, _, _, h => by cases h
  | k + 1, i, hw, h => by
    rcases List.mem_append.mp h with h | h
    · exact itT_lt (hw i (Nat.le_refl i) (by omega)) h
    · exact itL_lt k (i + 1) (fun j h1 h2 => hw j (by omega) (by omega)) h
theorem Rf_lt {g : Nat → Int32} {c e : Nat} (h : CW g c) (he : Rf g c e) : e < 36 := itL_lt 4 0 (fun j _ hj => h.2 j (by omega)) he
/-! the class's walk over a cell as a walk over its items -/
def xSt (ask : ST → Nat → Int32 × ST) (c dp : Nat) (it : It) (x : Int32 × ST) : Int32 × ST :=
  match it with
  | .inl v => (x.1 + v, xAddS x.2 x.1 v (nI c) (nI dp))
  | .inr none => (x.1, xMeet x.2 1 (nI c) (nI dp))
  | .inr (some e) => (x.1 + (ask x.2 e).1, xAddS (ask x.2 e).2 x.1 (ask x.2 e).1 (nI c) (nI dp))
def xFo (ask : ST → Nat → Int32 × ST) (c dp : Nat) : List It → Int32 × ST → Int32 × ST
  | [], x => x
  | it :: l, x => if x.2.1 7 = 0 then xFo ask c dp l (xSt ask c dp it x) else x
section XFO
variable {ask : ST → Nat → Int32 × ST} {c dp : Nat}
theorem xFo_stop (l : List It) {x : Int32 × ST} (h : ¬ x.2.1 7 = 0) : xFo ask c dp l x = x := by
  cases l with
  | nil => rfl
  | cons it l => exact if_neg h
theorem xFo_go {it : It} {l : List It} {x : Int32 × ST} (h : x.2.1 7 = 0) : xFo ask c dp (it :: l) x = xFo ask c dp l (xSt ask c dp it x) := if_pos h
theorem xFo_app : ∀ (l1 l2 : List It) (x : Int32 × ST), xFo ask c dp (l1 ++ l2) x = xFo ask c dp l2 (xFo ask c dp l1 x)
  | [], _, _ => rfl
  | it :: l1, l2, x => by
    by_cases h : x.2.1 7 = 0
    · rw [List.cons_append, xFo_go h, xFo_go h]; exact xFo_app l1 l2 _
    · rw [xFo_stop _ h, xFo_stop _ h, xFo_stop _ h]
theorem xCols_fo {r : Nat} (hr : r < 6) : ∀ (k a : Nat) (x : Int32 × ST), a + k ≤ 6 → xCols ask c dp r k a x = xFo ask c dp (colsL r k a) x
  | 0, _, _, _ => rfl
  | k + 1, a, x, h => by
    show (if x.2.1 7 = 0 then _ else x) = if x.2.1 7 = 0 then _ else x
    by_cases h0 : x.2.1 7 = 0
    · rw [if_pos h0, if_pos h0, if_pos (show xIsPl (nI a) (nI r) = true by unfold xIsPl; rw [isW5 (by omega), isW5 hr]; rfl)]
      exact xCols_fo hr k (a + 1) _ (by omega)
    · rw [if_neg h0, if_neg h0]
theorem xRows_fo {t : Int32} (h1 : leN t 0 ≤ grN t 0) (h2 : grN t 0 < 6) : ∀ (k r : Nat) (x : Int32 × ST), r + k ≤ 6 → xRows ask t c dp k r x = xFo ask c dp (rowsL (leN t 0) (grN t 0 + 1 - leN t 0) k r) x
  | 0, _, _, _ => rfl
  | k + 1, r, x, h => by
    show (if x.2.1 7 = 0 then xRows ask t c dp k (r + 1) (xCols ask c dp r (grN t 0 + 1 - leN t 0) (leN t 0) x) else x) = xFo ask c dp (colsL r _ _ ++ rowsL _ _ k (r + 1)) x
    rw [xFo_app]
    by_cases h0 : x.2.1 7 = 0
    · rw [if_pos h0, xCols_fo (by omega) _ _ _ (by omega), xRows_fo h1 h2 k (r + 1) _ (by omega)]
    · rw [if_neg h0, xFo_stop _ h0, xFo_stop _ h0]
theorem xAddT_fo {t b : Int32} {st : ST} (ht : Wt t) (h0 : st.1 7 = 0) : xAddT ask b t c dp st = xFo ask c dp (itT t) (b, st) := by
  unfold xAddT itT
  by_cases c1 : tKind t = 1
  · rw [if_pos c1, if_pos c1]; exact (if_pos h0).symm
  · rw [if_neg c1, if_neg c1]
    by_cases c2 : tKind t = 4
    · rw [if_pos c2, if_pos c2]; exact (if_pos h0).symm
    · rw [if_neg c2, if_neg c2]
      by_cases c3 : tRef t = false
      · rw [if_pos c3, if_pos c3]; rfl
      · rw [if_neg c3, if_neg c3]
        have hr : tRef t = true := by cases h2 : tRef t with | false => exact absurd h2 c3 | true => rfl
        have hl := Wt_lim ht hr
        exact xRows_fo hl.1 hl.2.2.1 _ _ _ (by omega)
theorem meet_2 (st : ST) (f a d : Int32) : (xMeet st f a d).2 = st.2 := by unfold xMeet; split <;> rfl
theorem addS_2 (st : ST) (s m a d : Int32) : (xAddS st s m a d).2 = st.2 := by
  unfold xAddS
  split
  · rfl
  · exact meet_2 _ _ _ _
theorem xFo_slots (hk : ∀ st e, (ask st e).2.2.1 2 = st.2.1 2) : ∀ (l : List It) (x : Int32 × ST), (xFo ask c dp l x).2.2.1 2 = x.2.2.1 2
  | [], _ => rfl
  | it :: l, x => by
    by_cases h : x.2.1 7 = 0
    · rw [xFo_go h, xFo_slots hk l]
      cases it with
      | inl v => show (xAddS x.2 x.1 v (nI c) (nI dp)).2.1 2 = _; rw [addS_2]
      | inr o => cases o with
        | none => show (xMeet x.2 1 (nI c) (nI dp)).2.1 2 = _; rw [meet_2]
        | some e => show (xAddS (ask x.2 e).2 x.1 (ask x.2 e).1 (nI c) (nI dp)).2.1 2 = _; rw [addS_2]; exact hk _ _
    · rw [xFo_stop _ h]
theorem xTerms_fo {g : Nat → Int32} (hk : ∀ st e, (ask st e).2.2.1 2 = st.2.1 2) : ∀ (k i : Nat) (x : Int32 × ST), (∀ j, i ≤ j → j < i + k → Wt (g (c * 4 + j))) → x.2.2.1 2 = g → xTerms (fun st b t => xAddT ask b t c dp st) c k i x = xFo ask c dp (itL g c k i) x
  | 0, _, _, _, _ => rfl
  | k + 1, i, x, hw, hg => by
    show (if x.2.1 7 = 0 then xTerms (fun st b t => xAddT ask b t c dp st) c k (i + 1) (xAddT ask x.1 (tm (x.2.2.1 2) c i) c dp x.2) else x) = xFo ask c dp (itT (tm g c i) ++ itL g c k (i + 1)) x
    rw [xFo_app]
    by_cases h0 : x.2.1 7 = 0
    · rw [if_pos h0, hg, xAddT_fo (t := tm g c i) (hw i (Nat.le_refl i) (by omega)) h0]
      exact xTerms_fo hk k (i + 1) _ (fun j h1 h2 => hw j (by omega) (by omega)) (by rw [xFo_slots hk]; exact hg)
    · rw [if_neg h0, xFo_stop _ h0, xFo_stop _ h0]
end XFO
