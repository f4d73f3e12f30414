section XSL
variable {ask : ST → Nat → Int32 × ST}
theorem xCols_sl (hk : ∀ st e, (ask st e).2.2.1 2 = st.2.1 2) (c dp r : Nat) : ∀ (k a : Nat) (x : Int32 × ST), (xCols ask c dp r k a x).2.2.1 2 = x.2.2.1 2
  | 0, _, _ => rfl
  | k + 1, a, x => by
    show (if x.2.1 7 = 0 then (if xIsPl (nI a) (nI r) = true then xCols ask c dp r k (a + 1) (x.1 + (ask x.2 (r * 6 + a)).1, xAddS (ask x.2 (r * 6 + a)).2 x.1 (ask x.2 (r * 6 + a)).1 (nI c) (nI dp)) else xCols ask c dp r k (a + 1) (x.1 + 0, xAddS x.2 x.1 0 (nI c) (nI dp))) else x).2.2.1 2 = _
    split
    · split
      · rw [xCols_sl hk c dp r k]
        show (xAddS (ask x.2 (r * 6 + a)).2 x.1 (ask x.2 (r * 6 + a)).1 (nI c) (nI dp)).2.1 2 = _
        rw [addS_2]; exact hk _ _
      · rw [xCols_sl hk c dp r k]
        show (xAddS x.2 x.1 0 (nI c) (nI dp)).2.1 2 = _
        rw [addS_2]
    · rfl
theorem xRows_sl (hk : ∀ st e, (ask st e).2.2.1 2 = st.2.1 2) (t : Int32) (c dp : Nat) : ∀ (k r : Nat) (x : Int32 × ST), (xRows ask t c dp k r x).2.2.1 2 = x.2.2.1 2
  | 0, _, _ => rfl
  | k + 1, r, x => by
    show (if x.2.1 7 = 0 then xRows ask t c dp k (r + 1) (xCols ask c dp r (grN t 0 + 1 - leN t 0) (leN t 0) x) else x).2.2.1 2 = _
    split
    · rw [xRows_sl hk t c dp k, xCols_sl hk]
    · rfl
theorem xAddT_sl (hk : ∀ st e, (ask st e).2.2.1 2 = st.2.1 2) (b t : Int32) (c dp : Nat) (st : ST) : (xAddT ask b t c dp st).2.2.1 2 = st.2.1 2 := by
  unfold xAddT
  split
  · show (xAddS st b (tNum t) (nI c) (nI dp)).2.1 2 = _; rw [addS_2]
  · split
    · show (xMeet st 1 (nI c) (nI dp)).2.1 2 = _; rw [meet_2]
    · split
      · rfl
      · rw [xRows_sl hk]
theorem xTerms_sl {addt : ST → Int32 → Int32 → Int32 × ST} (hk : ∀ st b t, (addt st b t).2.2.1 2 = st.2.1 2) (c : Nat) : ∀ (k i : Nat) (x : Int32 × ST), (xTerms addt c k i x).2.2.1 2 = x.2.2.1 2
  | 0, _, _ => rfl
  | k + 1, i, x => by
    show (if x.2.1 7 = 0 then xTerms addt c k (i + 1) (addt x.2 x.1 (tm (x.2.2.1 2) c i)) else x).2.2.1 2 = _
    split
    · rw [xTerms_sl hk c k, hk]
    · rfl
theorem xAskE_sl (c : Nat) (y : Int32 × ST) : (xAskE c y).2.1 2 = y.2.2.1 2 := by unfold xAskE; split <;> rfl
theorem xAskF_sl {addt : ST → Int32 → Int32 → Int32 × ST} (hk : ∀ st b t, (addt st b t).2.2.1 2 = st.2.1 2) (c dp : Nat) (st : ST) : (xAskF addt c dp st).2.2.1 2 = st.2.1 2 := by
  unfold xAskF
  split
  · rfl
  · split
    · show (xMeet _ _ _ _).2.1 2 = _; rw [meet_2]
    · split
      · show (xMeet _ _ _ _).2.1 2 = _; rw [meet_2]
      · show (xAskE c _).2.1 2 = _
        rw [xAskE_sl, xTerms_sl hk]
        rfl
end XSL
theorem xAsk_sl : ∀ (n : Nat) (st : ST) (c dp : Nat), (xAsk n st c dp).2.2.1 2 = st.2.1 2
  | 0, st, c, dp => xAskF_sl (fun _ _ _ => rfl) c dp st
  | n + 1, st, c, dp => xAskF_sl (fun st b t => xAddT_sl (fun st e => xAsk_sl n st e (dp + 1)) b t c dp st) c dp st
def XI (g : Nat → Int32) (U : Nat → Option Int32) (st : ST) : Prop := st.2.1 2 = g ∧ ∀ c, c < 36 → st.2.1 5 c = 0 → U c = some (st.2.1 6 c)
def KP (st st' : ST) : Prop := (∀ j, ¬ j = 7 → ¬ j = 8 → ¬ j = 9 → st'.1 j = st.1 j) ∧ (∀ j, ¬ j = 5 → ¬ j = 6 → st'.2.1 j = st.2.1 j) ∧ st'.2.2 = st.2.2 ∧ ∀ c, st'.2.1 5 c = st.2.1 5 c ∨ st'.2.1 5 c = 0
theorem KP_rfl (st : ST) : KP st st := ⟨fun _ _ _ _ => rfl, fun _ _ _ => rfl, rfl, fun _ => Or.inl rfl⟩
theorem KP_tr {a b c : ST} (h : KP a b) (h' : KP b c) : KP a c :=
  ⟨fun j h1 h2 h3 => (h'.1 j h1 h2 h3).trans (h.1 j h1 h2 h3), fun j h1 h2 => (h'.2.1 j h1 h2).trans (h.2.1 j h1 h2), h'.2.2.1.trans h.2.2.1, fun x => by
    rcases h'.2.2.2 x with e | e
    · rcases h.2.2.2 x with e2 | e2
      · exact Or.inl (e.trans e2)
      · exact Or.inr (e.trans e2)
    · exact Or.inr e⟩
def t3 (st : ST) : T3 := (st.1 7, st.1 8, st.1 9)
theorem meet_0 {st : ST} {f a d : Int32} (h : st.1 7 = 0) : xMeet st f a d = sI (sI (sI st 7 f) 8 a) 9 d := if_pos h
theorem meet_n {st : ST} {f a d : Int32} (h : ¬ st.1 7 = 0) : xMeet st f a d = st := if_neg h
theorem meet_t3 {st : ST} {f a d : Int32} (h : st.1 7 = 0) : t3 (xMeet st f a d) = (f, a, d) := by rw [meet_0 h]; rfl
theorem meet_ne {st : ST} {f a d : Int32} (h : st.1 7 = 0) (hf : ¬ f = 0) : ¬ (xMeet st f a d).1 7 = 0 := by rw [meet_0 h]; exact hf
theorem meet_KP (st : ST) (f a d : Int32) : KP st (xMeet st f a d) := by
  refine ⟨fun j h1 h2 h3 => ?_, fun j _ _ => by rw [meet_2], by rw [meet_2], fun c => Or.inl (by rw [meet_2])⟩
  unfold xMeet
  split
  · rw [sI_1, if_neg h3, sI_1, if_neg h2, sI_1, if_neg h1]
  · rfl
theorem meet_XI {g : Nat → Int32} {U : Nat → Option Int32} {st : ST} {f a d : Int32} (h : XI g U st) : XI g U (xMeet st f a d) := by
  unfold XI; rw [meet_2]; exact h
theorem cnt_aU {A : Nat → Bool} {c : Nat} (h : A c = false) : ∀ k i n, cnt (aU A c) k i n = cnt A k i n + (if i ≤ c ∧ c < i + k then 1 else 0)
  | 0, i, n => by rw [if_neg (by omega)]; rfl
  | k + 1, i, n => by
    show cnt (aU A c) k (i + 1) (if aU A c i = true then n + 1 else n) = cnt A k (i + 1) (if A i = true then n + 1 else n) + _
    rw [cnt_aU h k (i + 1)]
    have ad : ∀ p : Nat → Bool, ∀ k i n, cnt p k i (n + 1) = cnt p k i n + 1 := by
      intro p k
      induction k with
      | zero => intro i n; rfl
      | succ k ih =>
        intro i n
        show cnt p k (i + 1) (if p i = true then n + 1 + 1 else n + 1) = cnt p k (i + 1) (if p i = true then n + 1 else n) + 1
        split
        · rw [ih]
        · rw [ih]
    by_cases e : i = c
    · subst e
      have e1 : aU A i i = true := by unfold aU; simp
      rw [e1, h, if_pos rfl, if_neg (show ¬ (false = true) from Bool.false_ne_true), if_neg (by omega), if_pos (by omega), ad]
    · have e1 : aU A c i = A i := by unfold aU; rw [decide_eq_false e, Bool.or_false]
      rw [e1]
      by_cases e2 : i + 1 ≤ c ∧ c < i + 1 + k
      · rw [if_pos e2, if_pos (show i ≤ c ∧ c < i + (k + 1) by omega)]
      · rw [if_neg e2, if_neg (show ¬ (i ≤ c ∧ c < i + (k + 1)) by omega)]
theorem cnt_in {A : Nat → Bool} {c : Nat} (hc : c < 36) (h : A c = false) : cnt (aU A c) 36 0 0 = cnt A 36 0 0 + 1 ∧ cnt A 36 0 0 < 36 := by
  have h1 := cnt_aU h 36 0 0
  rw [if_pos (by omega)] at h1
  have h2 := cnt_le (aU A c) 36 0 0
  exact ⟨h1, by omega⟩
def As (st : ST) (A : Nat → Bool) : Prop := ∀ x, x < 36 → (¬ st.2.1 9 x = 0 ↔ A x = true)
def PXp (g : Nat → Int32) (U : Nat → Option Int32) (n : Nat) : Prop := ∀ (st : ST) (A : Nat → Bool) (c dp : Nat), dp + n = 36 → c < 36 → XI g U st → st.1 7 = 0 → As st A → cnt A 36 0 0 = dp → (∀ x, x < 36 → A x = true → ∃ k, Pth g (k + 1) x c) →
    XI g U (xAsk n st c dp).2 ∧ KP st (xAsk n st c dp).2 ∧ (∀ u, U c = some u → (xAsk n st c dp).1 = u ∧ (xAsk n st c dp).2.1 7 = 0) ∧ (U c = none → t3 (xAsk n st c dp).2 = fA g U n A c dp ∧ ¬ (xAsk n st c dp).2.1 7 = 0)
theorem xfo_main {g : Nat → Int32} {U : Nat → Option Int32} {n dp c : Nat} {A : Nat → Bool} {st1 : ST} (hW : ∀ c, c < 36 → CW g c) (ih : PXp g U n) (hdp : dp + 1 + n = 36) (hc : c < 36) (hA : As st1 (aU A c)) (hcnt : cnt (aU A c) 36 0 0 = dp + 1) (hch : ∀ e, Rf g c e → ∀ x, x < 36 → aU A c x = true → ∃ k, Pth g (k + 1) x e) :
    ∀ (l : List It) (s : Int32) (st' : ST), (∀ e, (.inr (some e) : It) ∈ l → Rf g c e) → XI g U st' → KP st1 st' → st'.1 7 = 0 →
      XI g U (xFo (fun st e => xAsk n st e (dp + 1)) c dp l (s, st')).2 ∧ KP st1 (xFo (fun st e => xAsk n st e (dp + 1)) c dp l (s, st')).2 ∧
      (∀ u, fo U l s = some u → (xFo (fun st e => xAsk n st e (dp + 1)) c dp l (s, st')).1 = u ∧ (xFo (fun st e => xAsk n st e (dp + 1)) c dp l (s, st')).2.1 7 = 0) ∧
      (fo U l s = none → t3 (xFo (fun st e => xAsk n st e (dp + 1)) c dp l (s, st')).2 = fI (fun e => fA g U n (aU A c) e (dp + 1)) U c dp l s ∧ ¬ (xFo (fun st e => xAsk n st e (dp + 1)) c dp l (s, st')).2.1 7 = 0)
  | [], s, st', _, hX, hK, h0 => ⟨hX, hK, fun u e => ⟨by injection e, h0⟩, fun e => (by cases e)⟩
  | .inl v :: l, s, st', hl, hX, hK, h0 => by
    rw [xFo_go h0]
    show XI g U (xFo _ c dp l (s + v, xAddS st' s v (nI c) (nI dp))).2 ∧ KP st1 (xFo _ c dp l (s + v, xAddS st' s v (nI c) (nI dp))).2 ∧ (∀ u, (if s + v ≤ 99999 then fo U l (s + v) else none) = some u → (xFo _ c dp l (s + v, xAddS st' s v (nI c) (nI dp))).1 = u ∧ (xFo _ c dp l (s + v, xAddS st' s v (nI c) (nI dp))).2.1 7 = 0) ∧ ((if s + v ≤ 99999 then fo U l (s + v) else none) = none → t3 (xFo _ c dp l (s + v, xAddS st' s v (nI c) (nI dp))).2 = (if s + v ≤ 99999 then fI _ U c dp l (s + v) else (3, nI c, nI dp)) ∧ ¬ (xFo _ c dp l (s + v, xAddS st' s v (nI c) (nI dp))).2.1 7 = 0)
    unfold xAddS
    by_cases hs : s + v ≤ 99999
    · simp only [if_pos hs]
      exact xfo_main hW ih hdp hc hA hcnt hch l (s + v) st' (fun e he => hl e (List.mem_cons_of_mem _ he)) hX hK h0
    · simp only [if_neg hs]
      have hm : ¬ (xMeet st' 3 (nI c) (nI dp)).1 7 = 0 := meet_ne h0 (by decide)
      rw [xFo_stop _ hm]
      exact ⟨meet_XI hX, KP_tr hK (meet_KP _ _ _ _), fun u e => (by cases e), fun _ => ⟨meet_t3 h0, hm⟩⟩
  | .inr none :: l, s, st', hl, hX, hK, h0 => by
    rw [xFo_go h0]
    have hm : ¬ (xMeet st' 1 (nI c) (nI dp)).1 7 = 0 := meet_ne h0 (by decide)
    show XI g U (xFo _ c dp l (s, xMeet st' 1 (nI c) (nI dp))).2 ∧ KP st1 (xFo _ c dp l (s, xMeet st' 1 (nI c) (nI dp))).2 ∧ _ ∧ _
    refine ⟨?_, ?_, fun u e => (by cases e), fun _ => ?_⟩
    · rw [xFo_stop _ hm]; exact meet_XI hX
    · rw [xFo_stop _ hm]; exact KP_tr hK (meet_KP _ _ _ _)
    · show t3 (xFo _ c dp l (s, xMeet st' 1 (nI c) (nI dp))).2 = (1, nI c, nI dp) ∧ ¬ (xFo _ c dp l (s, xMeet st' 1 (nI c) (nI dp))).2.1 7 = 0
      rw [xFo_stop _ hm]; exact ⟨meet_t3 h0, hm⟩
  | .inr (some e) :: l, s, st', hl, hX, hK, h0 => by
    have hr : Rf g c e := hl e List.mem_cons_self
    have he : e < 36 := Rf_lt (hW c hc) hr
    have hA' : As st' (aU A c) := fun x hx => by rw [hK.2.1 9 (by decide) (by decide)]; exact hA x hx
    have hi := ih st' (aU A c) e (dp + 1) hdp he hX h0 hA' hcnt (hch e hr)
    rw [xFo_go h0]
    show XI g U (xFo _ c dp l (s + (xAsk n st' e (dp + 1)).1, xAddS (xAsk n st' e (dp + 1)).2 s (xAsk n st' e (dp + 1)).1 (nI c) (nI dp))).2 ∧ KP st1 (xFo _ c dp l (s + (xAsk n st' e (dp + 1)).1, xAddS (xAsk n st' e (dp + 1)).2 s (xAsk n st' e (dp + 1)).1 (nI c) (nI dp))).2 ∧
      (∀ u, (match U e with | some v => if s + v ≤ 99999 then fo U l (s + v) else none | none => none) = some u → (xFo _ c dp l (s + (xAsk n st' e (dp + 1)).1, xAddS (xAsk n st' e (dp + 1)).2 s (xAsk n st' e (dp + 1)).1 (nI c) (nI dp))).1 = u ∧ (xFo _ c dp l (s + (xAsk n st' e (dp + 1)).1, xAddS (xAsk n st' e (dp + 1)).2 s (xAsk n st' e (dp + 1)).1 (nI c) (nI dp))).2.1 7 = 0) ∧
      ((match U e with | some v => if s + v ≤ 99999 then fo U l (s + v) else none | none => none) = none → t3 (xFo _ c dp l (s + (xAsk n st' e (dp + 1)).1, xAddS (xAsk n st' e (dp + 1)).2 s (xAsk n st' e (dp + 1)).1 (nI c) (nI dp))).2 = (match U e with | some v => if s + v ≤ 99999 then fI _ U c dp l (s + v) else (3, nI c, nI dp) | none => fA g U n (aU A c) e (dp + 1)) ∧ ¬ (xFo _ c dp l (s + (xAsk n st' e (dp + 1)).1, xAddS (xAsk n st' e (dp + 1)).2 s (xAsk n st' e (dp + 1)).1 (nI c) (nI dp))).2.1 7 = 0)
    generalize hY : xAsk n st' e (dp + 1) = Y at hi ⊢
    obtain ⟨hX', hK', hs1, hs2⟩ := hi
    have hK2 := KP_tr hK hK'
    cases hU : U e with
    | none =>
      have h3 := hs2 hU
      have ea : xAddS Y.2 s Y.1 (nI c) (nI dp) = Y.2 := by
        unfold xAddS
        split
        · rfl
        · exact meet_n h3.2
      rw [ea, xFo_stop (x := (s + Y.1, Y.2)) _ h3.2]
      exact ⟨hX', hK2, fun u e => (by cases e), fun _ => h3⟩
    | some v =>
      have h3 := hs1 v hU
      rw [h3.1]
      unfold xAddS
      by_cases hs : s + v ≤ 99999
      · simp only [if_pos hs]
        exact xfo_main hW ih hdp hc hA hcnt hch l (s + v) Y.2 (fun e he => hl e (List.mem_cons_of_mem _ he)) hX' hK2 h3.2
      · simp only [if_neg hs]
        have hm : ¬ (xMeet Y.2 3 (nI c) (nI dp)).1 7 = 0 := meet_ne h3.2 (by decide)
        rw [xFo_stop _ hm]
        exact ⟨meet_XI hX', KP_tr hK2 (meet_KP _ _ _ _), fun u e => (by cases e), fun _ => ⟨meet_t3 h3.2, hm⟩⟩
