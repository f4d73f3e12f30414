def fR (t : T3) : Prop := t.1 = 0 ∨ t.1 = 1 ∨ t.1 = 2 ∨ t.1 = 3
theorem fI_R {sub : Nat → T3} {U : Nat → Option Int32} {c d : Nat} (hs : ∀ e, fR (sub e)) : ∀ (l : List It) s, fR (fI sub U c d l s)
  | [], _ => Or.inl rfl
  | .inl x :: l, s => by
    show fR (if s + x ≤ 99999 then fI sub U c d l (s + x) else (3, nI c, nI d))
    split
    · exact fI_R hs l _
    · exact Or.inr (Or.inr (Or.inr rfl))
  | .inr none :: _, _ => Or.inr (Or.inl rfl)
  | .inr (some y) :: l, s => by
    show fR (match U y with | some v => if s + v ≤ 99999 then fI sub U c d l (s + v) else (3, nI c, nI d) | none => sub y)
    cases U y with
    | none => exact hs y
    | some x =>
      show fR (if s + x ≤ 99999 then fI sub U c d l (s + x) else (3, nI c, nI d))
      split
      · exact fI_R hs l _
      · exact Or.inr (Or.inr (Or.inr rfl))
theorem fA_R (g : Nat → Int32) (U : Nat → Option Int32) : ∀ n A c d, fR (fA g U n A c d)
  | 0, _, _, _ => Or.inr (Or.inr (Or.inl rfl))
  | n + 1, A, c, d => by
    show fR (if A c = true then (2, nI c, nI d - 1) else _)
    split
    · exact Or.inr (Or.inr (Or.inl rfl))
    · exact fI_R (fun e => fA_R g U n _ e _) _ _
theorem mVal_pos {g : Nat → Int32} {st : ST} {ce : Nat} (hR : RX (st.2.1 0) g) (hc : ce < 36) : 0 ≤ mVal st ce (Wb 36) ↔ (mFin st ce (Wb 36)).1 6 = 0 := by
  obtain ⟨U, hV, hB⟩ := VS_ex2 (g := g) (fun c hc => (hR c hc).2)
  have h := find_all hR hV hc
  unfold mVal
  cases hU : U ce with
  | some u =>
    have h1 := h.2.2.1 u hU
    rw [if_pos h1.1, h1.2]
    obtain ⟨n, hn, e⟩ := hB ce hc u hU
    exact ⟨fun _ => h1.1, fun _ => by rw [e]; exact nI_pos' (by omega)⟩
  | none =>
    have h1 := h.2.2.2 hU
    rw [if_neg h1.2]
    refine ⟨fun h2 => ?_, fun h2 => absurd h2 h1.2⟩
    have e : (mFin st ce (Wb 36)).1 6 = (fA g U 36 (fun _ => false) ce 0).1 := congrArg (fun z : T3 => z.1) h1.1
    have hr := fA_R g U 36 (fun _ => false) ce 0
    unfold fR at hr
    rw [← e] at hr
    rcases hr with r | r | r | r
    · exact r
    · rw [r] at h2; exact absurd h2 (by decide)
    · rw [r] at h2; exact absurd h2 (by decide)
    · rw [r] at h2; exact absurd h2 (by decide)
theorem Rel_c3N {xs ms : ST} {L nx sz N : Nat} (hN : N = Wb 36) (h : Rel xs ms L nx sz) : (lp xFcF 36 0 (0, xs)).1 = (mCount3 ms N).1 ∧ Rel (lp xFcF 36 0 (0, xs)).2 (mCount3 ms N).2 L nx sz := by
  have step : ∀ (k : Nat) (a b : Nat × ST), k < 36 → a.1 = b.1 ∧ Rel a.2 b.2 L nx sz → (xFcF k a).1 = (mCt3 N k b).1 ∧ Rel (xFcF k a).2 (mCt3 N k b).2 L nx sz := by
    intro k a b hk hr
    have v := Rel_val hk hr.2
    have hp := mVal_pos hr.2.1 hk
    rw [← hN] at v hp
    refine ⟨?_, v.2.1⟩
    show (if (xIF a.2 k).2.1 5 k = 0 then a.1 else a.1 + 1) = (if 0 ≤ mVal b.2 k N then b.1 else b.1 + 1)
    by_cases e : (xIF a.2 k).2.1 5 k = 0
    · rw [if_pos e, if_pos (hp.mpr (v.2.2.2.2.2.mp e)), hr.1]
    · rw [if_neg e, if_neg (fun h2 => e (v.2.2.2.2.2.mpr (hp.mp h2))), hr.1]
  unfold mCount3
  exact lp_rel (f := xFcF) (g := mCt3 N) (fun _ a b => a.1 = b.1 ∧ Rel a.2 b.2 L nx sz) 36 0 (0, xs) (0, ms) ⟨rfl, h⟩ (fun k a b _ hk hr => step k a b (by omega) hr)
