abbrev It : Type := Sum Int32 (Option Nat)
def colsL (r : Nat) : Nat → Nat → List It
  | 0, _ => []
  | k + 1, c => .inr (some (r * 6 + c)) :: colsL r k (c + 1)
def rowsL (c0 w : Nat) : Nat → Nat → List It
  | 0, _ => []
  | k + 1, r => colsL r w c0 ++ rowsL c0 w k (r + 1)
def itT (t : Int32) : List It :=
  if tKind t = 1 then [.inl (tNum t)] else if tKind t = 4 then [.inr none] else if tRef t = false then [] else rowsL (leN t 0) (grN t 0 + 1 - leN t 0) (grN t 1 + 1 - leN t 1) (leN t 1)
def itL (g : Nat → Int32) (c : Nat) : Nat → Nat → List It
  | 0, _ => []
  | k + 1, i => itT (tm g c i) ++ itL g c k (i + 1)
def its (g : Nat → Int32) (c : Nat) : List It := itL g c 4 0
def fo (U : Nat → Option Int32) : List It → Int32 → Option Int32
  | [], s => some s
  | .inl v :: l, s => if s + v ≤ 99999 then fo U l (s + v) else none
  | .inr none :: _, _ => none
  | .inr (some e) :: l, s => match U e with
    | some v => if s + v ≤ 99999 then fo U l (s + v) else none
    | none => none
def vf (g : Nat → Int32) : Nat → Nat → Option Int32
  | 0, _ => none
  | n + 1, c => fo (vf g n) (its g c) 0
theorem fo_mono {U U' : Nat → Option Int32} (h : ∀ e v, U e = some v → U' e = some v) : ∀ l s v, fo U l s = some v → fo U' l s = some v
  | [], _, _, e => e
  | .inl x :: l, s, v, e => by
    have e : (if s + x ≤ 99999 then fo U l (s + x) else none) = some v := e
    show (if s + x ≤ 99999 then fo U' l (s + x) else none) = some v
    by_cases c : s + x ≤ 99999
    · rw [if_pos c] at e ⊢; exact fo_mono h l _ v e
    · rw [if_neg c] at e; cases e
  | .inr none :: _, _, _, e => by cases e
  | .inr (some y) :: l, s, v, e => by
    have e : (match U y with | some x => if s + x ≤ 99999 then fo U l (s + x) else none | none => none) = some v := e
    show (match U' y with | some x => if s + x ≤ 99999 then fo U' l (s + x) else none | none => none) = some v
    cases hy : U y with
    | none => rw [hy] at e; cases e
    | some x =>
      rw [hy] at e
      rw [h y x hy]
      have e : (if s + x ≤ 99999 then fo U l (s + x) else none) = some v := e
      show (if s + x ≤ 99999 then fo U' l (s + x) else none) = some v
      by_cases c : s + x ≤ 99999
      · rw [if_pos c] at e ⊢; exact fo_mono h l _ v e
      · rw [if_neg c] at e; cases e
theorem fo_ref {U : Nat → Option Int32} : ∀ (l : List It) s v, fo U l s = some v → ∀ e, .inr (some e) ∈ l → ¬ U e = none
  | [], _, _, _, e, he => by cases he
  | .inl x :: l, s, v, h, e, he => by
    have h : (if s + x ≤ 99999 then fo U l (s + x) else none) = some v := h
    by_cases c : s + x ≤ 99999
    · rw [if_pos c] at h
      rcases List.mem_cons.mp he with he | he
      · cases he
      · exact fo_ref l _ v h e he
    · rw [if_neg c] at h; cases h
  | .inr none :: _, _, _, h, _, _ => by cases h
  | .inr (some y) :: l, s, v, h, e, he => by
    have h : (match U y with | some x => if s + x ≤ 99999 then fo U l (s + x) else none | none => none) = some v := h
    cases hy : U y with
    | none => rw [hy] at h; cases h
    | some x =>
      rw [hy] at h
      have h : (if s + x ≤ 99999 then fo U l (s + x) else none) = some v := h
      rcases List.mem_cons.mp he with he | he
      · injection he with he; injection he with he
        rw [he, hy]; intro h; cases h
      · by_cases c : s + x ≤ 99999
        · rw [if_pos c] at h; exact fo_ref l _ v h e he
        · rw [if_neg c] at h; cases h
theorem vf_mono (g : Nat → Int32) : ∀ n c v, vf g n c = some v → vf g (n + 1) c = some v
  | 0, _, _, h => by cases h
  | n + 1, c, v, h => fo_mono (fun e v => vf_mono g n e v) (its g c) 0 v h
theorem vf_le (g : Nat → Int32) {n m c : Nat} {v : Int32} (h : n ≤ m) (e : vf g n c = some v) : vf g m c = some v := by
  induction m with
  | zero => rw [show n = 0 by omega] at e; exact e
  | succ m ih =>
    by_cases c : n = m + 1
    · rw [← c]; exact e
    · exact vf_mono g m _ v (ih (by omega))
def Rf (g : Nat → Int32) (c e : Nat) : Prop := (.inr (some e) : It) ∈ its g c
def Pth (g : Nat → Int32) : Nat → Nat → Nat → Prop
  | 0, a, b => a = b
  | k + 1, a, b => ∃ e, Rf g a e ∧ Pth g k e b
theorem Pth_app {g : Nat → Int32} : ∀ k a b e, Pth g k a b → Rf g b e → Pth g (k + 1) a e
  | 0, a, b, e, h, hr => ⟨e, by have h : a = b := h; rw [h]; exact hr, rfl⟩
  | k + 1, a, b, e, ⟨x, hx, hp⟩, hr => ⟨x, hx, Pth_app k x b e hp hr⟩
theorem vf_cyc (g : Nat → Int32) : ∀ n c k, ¬ vf g n c = none → ¬ Pth g (k + 1) c c
  | 0, _, _, h, _ => h rfl
  | n + 1, c, k, h, ⟨e, he, hp⟩ => by
    cases hv : vf g (n + 1) c with
    | none => exact h hv
    | some v =>
      have h1 := fo_ref (its g c) 0 v hv e he
      exact vf_cyc g n e k h1 (Pth_app k e c e hp he)
/-- one number of steps that serves all cells -/
theorem vf_all (g : Nat → Int32) : ∀ M, ∃ N, ∀ c, c < M → ∀ n v, vf g n c = some v → vf g N c = some v
  | 0 => ⟨0, fun c hc => absurd hc (by omega)⟩
  | M + 1 => by
    obtain ⟨N, hN⟩ := vf_all g M
    by_cases h : ∃ n v, vf g n M = some v
    · obtain ⟨n, v, hv⟩ := h
      refine ⟨max N n, fun c hc n' v' h' => ?_⟩
      by_cases e : c = M
      · subst e
        have h1 := vf_le g (Nat.le_max_right N n) hv
        have h2 := vf_le g (Nat.le_max_left (max N n) n') h1
        have h3 := vf_le g (Nat.le_max_right (max N n) n') h'
        rw [h2] at h3
        rw [h1, ← h3]
      · exact vf_le g (Nat.le_max_left N n) (hN c (by omega) n' v' h')
    · refine ⟨N, fun c hc n' v' h' => ?_⟩
      by_cases e : c = M
      · subst e; exact absurd ⟨n', v', h'⟩ h
      · exact hN c (by omega) n' v' h'
/-- the values of a sheet -/
def VS (g : Nat → Int32) (U : Nat → Option Int32) : Prop := (∀ c, c < 36 → U c = fo U (its g c) 0) ∧ ∀ c k, c < 36 → ¬ U c = none → ¬ Pth g (k + 1) c c
theorem VS_ex (g : Nat → Int32) : ∃ U, VS g U := by
  obtain ⟨N, hN⟩ := vf_all g 36
  refine ⟨vf g N, fun c hc => ?_, fun c k _ h => vf_cyc g N c k h⟩
  cases h : vf g N c with
  | some v => exact (vf_mono g N c v h).symm
  | none =>
    cases h2 : fo (vf g N) (its g c) 0 with
    | none => rfl
    | some v =>
      have h3 := hN c hc (N + 1) v h2
      rw [h] at h3
      cases h3
