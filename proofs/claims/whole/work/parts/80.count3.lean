def rI (u : Int32) : Prop := ∃ n, n ≤ 99999 ∧ u = nI n
theorem rI_add {s v : Int32} (hs : rI s) (hv : rI v) (h : s + v ≤ 99999) : rI (s + v) := by
  obtain ⟨a, ha, rfl⟩ := hs
  obtain ⟨b, hb, rfl⟩ := hv
  rw [nI_add] at h ⊢
  exact ⟨a + b, (nI_leI (b := 99999) (by omega) (by omega)).mp h, rfl⟩
theorem fo_rI {U : Nat → Option Int32} (hU : ∀ e v, U e = some v → rI v) : ∀ (l : List It) s u, (∀ v, (.inl v : It) ∈ l → rI v) → rI s → fo U l s = some u → rI u
  | [], s, u, _, hs, e => by
    have e : some s = some u := e
    injection e with e
    rw [← e]; exact hs
  | .inl x :: l, s, u, hl, hs, e => by
    have e : (if s + x ≤ 99999 then fo U l (s + x) else none) = some u := e
    by_cases c : s + x ≤ 99999
    · rw [if_pos c] at e
      exact fo_rI hU l _ u (fun v hv => hl v (List.mem_cons_of_mem _ hv)) (rI_add hs (hl x List.mem_cons_self) c) e
    · rw [if_neg c] at e; cases e
  | .inr none :: _, _, _, _, _, e => by cases e
  | .inr (some y) :: l, s, u, hl, hs, e => by
    have e : (match U y with | some x => if s + x ≤ 99999 then fo U l (s + x) else none | none => none) = some u := e
    cases hy : U y with
    | none => rw [hy] at e; cases e
    | some x =>
      rw [hy] at e
      have e : (if s + x ≤ 99999 then fo U l (s + x) else none) = some u := e
      by_cases c : s + x ≤ 99999
      · rw [if_pos c] at e
        exact fo_rI hU l _ u (fun v hv => hl v (List.mem_cons_of_mem _ hv)) (rI_add hs (hU y x hy) c) e
      · rw [if_neg c] at e; cases e
theorem bL_inl {a b c : Nat} {v : Int32} : ∀ k kk, ¬ (.inl v : It) ∈ bL a b c k kk
  | 0, _, h => by cases h
  | k + 1, kk, h => by
    rcases List.mem_cons.mp h with h | h
    · cases h
    · exact bL_inl k (kk + 1) h
theorem itT_inl {t v : Int32} (h : Wt t) : (.inl v : It) ∈ itT t → rI v := by
  refine Wt_cases (C := fun t => (.inl v : It) ∈ itT t → rI v) h ?_ ?_ ?_ ?_ ?_
  · intro h; rw [itT_0] at h; cases h
  · intro h; rw [itT_4] at h
    rcases List.mem_cons.mp h with h | h
    · cases h
    · cases h
  · intro n hn h; rw [itT_N hn] at h
    rcases List.mem_cons.mp h with h | h
    · injection h with h; exact ⟨n, by omega, h⟩
    · cases h
  · intro f x y h1 h2 h3 h; rw [itT_P h1 h2 h3] at h
    rcases List.mem_cons.mp h with h | h
    · cases h
    · cases h
  · intro f a b c d h1 h2 h3 h4 h5 h; rw [itT_B h1 h2 h3 h4 h5] at h
    exact absurd h (bL_inl _ _)
theorem itL_inl {g : Nat → Int32} {c : Nat} {v : Int32} : ∀ k i, (∀ j, i ≤ j → j < i + k → Wt (g (c * 4 + j))) → (.inl v : It) ∈ itL g c k i → rI v
  | 0, _, _, h => by cases h
  | k + 1, i, hw, h => by
    rcases List.mem_append.mp h with h | h
    · exact itT_inl (hw i (Nat.le_refl i) (by omega)) h
    · exact itL_inl k (i + 1) (fun j h1 h2 => hw j (by omega) (by omega)) h
/-- the values of a sheet, with their bounds -/
theorem VS_ex2 {g : Nat → Int32} (hW : ∀ c, c < 36 → CW g c) : ∃ U, VS g U ∧ ∀ c, c < 36 → ∀ u, U c = some u → rI u := by
  obtain ⟨U, hU⟩ := VS_ex g
  have key : ∀ n c v, c < 36 → vf g n c = some v → rI v := by
    intro n
    induction n with
    | zero => intro c v _ h; cases h
    | succ n ih =>
      intro c v hc h
      have h : fo (vf g n) (its g c) 0 = some v := h
      have h2 : fo (fun e => if e < 36 then vf g n e else none) (its g c) 0 = some v := by
        have gen : ∀ (l : List It) s, (∀ e, (.inr (some e) : It) ∈ l → e < 36) → fo (fun e => if e < 36 then vf g n e else none) l s = fo (vf g n) l s := by
          intro l
          induction l with
          | nil => intro s _; rfl
          | cons it l ihl =>
            intro s hl
            have hl' : ∀ e, (.inr (some e) : It) ∈ l → e < 36 := fun e he => hl e (List.mem_cons_of_mem _ he)
            cases it with
            | inl x =>
              show (if s + x ≤ 99999 then fo _ l (s + x) else none) = (if s + x ≤ 99999 then fo _ l (s + x) else none)
              rw [ihl _ hl']
            | inr o =>
              cases o with
              | none => rfl
              | some y =>
                have hy : y < 36 := hl y List.mem_cons_self
                show (match (if y < 36 then vf g n y else none) with | some x => if s + x ≤ 99999 then fo _ l (s + x) else none | none => none) = (match vf g n y with | some x => if s + x ≤ 99999 then fo _ l (s + x) else none | none => none)
                rw [if_pos hy]
                cases vf g n y with
                | none => rfl
                | some x =>
                  show (if s + x ≤ 99999 then fo _ l (s + x) else none) = (if s + x ≤ 99999 then fo _ l (s + x) else none)
                  rw [ihl _ hl']
        rw [gen _ _ (fun e he => Rf_lt (hW c hc) he)]; exact h
      refine fo_rI (U := fun e => if e < 36 then vf g n e else none) (fun e v hv => ?_) (its g c) 0 v (fun v hv => itL_inl 4 0 (fun j _ hj => (hW c hc).2 j (by omega)) hv) ⟨0, by omega, rfl⟩ h2
      have hv : (if e < 36 then vf g n e else none) = some v := hv
      by_cases he : e < 36
      · rw [if_pos he] at hv; exact ih e v he hv
      · rw [if_neg he] at hv; cases hv
  obtain ⟨N, hN⟩ := vf_all g 36
  refine ⟨vf g N, ⟨fun c hc => ?_, fun c k _ h => vf_cyc g N c k h⟩, fun c hc u hu => key N c u hc hu⟩
  cases h : vf g N c with
  | some v => exact (vf_mono g N c v h).symm
  | none =>
    cases h2 : fo (vf g N) (its g c) 0 with
    | none => rfl
    | some v =>
      have h3 := hN c hc (N + 1) v h2
      rw [h] at h3
      cases h3
