theorem mStp_eq {s : ST} {m : Nat → Int32} {c d ti kk sz : Nat} {x : Int32} (h : FM s c d ti kk x) (hm : s.2.1 0 = m) (hd : d ≤ 36) (hc : c < 36) (hti : ti ≤ 4) (hkk : kk ≤ 36) (hsz : m (25 * c) = nI sz) (h4 : sz ≤ 4) :
    mStp s = mStpG s d c ti sz (cl (m (25 * c + 1 + 6 * ti + 1))) (cl (m (25 * c + 1 + 6 * ti + 2))) (cl (m (25 * c + 1 + 6 * ti + 3))) (cl (m (25 * c + 1 + 6 * ti + 4))) kk := by
  obtain ⟨h1, h2, h3, h4', h5, h6⟩ := h
  have e1 : cl (s.1 5) = d := by rw [h1]; exact nI_clamp (by omega)
  have e2 : cl (s.2.1 9 (d - 1)) = c := by rw [h3]; exact nI_clamp (by omega)
  have e3 : cl (s.2.1 10 (d - 1)) = ti := by rw [h4']; exact nI_clamp (by omega)
  have e4 : cl (s.2.1 11 (d - 1)) = kk := by rw [h5]; exact nI_clamp (by omega)
  have e5 : cl (m (25 * c)) = sz := by rw [hsz]; exact nI_clamp (by omega)
  unfold mStp
  rw [e1, e2, e3, e4, hm, e5]
theorem cl_nI {n : Nat} (h : n < 8) : cl (nI n) = n := nI_clamp (by omega)
theorem MG_of {g m : Nat → Int32} {s : ST} {c d ti kk : Nat} {x : Int32} {A : Nat → Bool} (hR : RX m g) (h : FM s c d ti kk x) (hm : s.2.1 0 = m) (hd1 : 1 ≤ d) (hd : d ≤ 36) (hc : c < 36) (hti : ti ≤ szN g c) (hkk : kk ≤ 36) (hA : Am s A) (hcnt : cnt A 36 0 0 = d)
    (hbl : ti < szN g c → ∀ f a b c' e, f < 16 → a ≤ c' → b ≤ e → c' < 6 → e < 6 → g (c * 4 + ti) = eB f a b c' e → kk ≤ (c' - a + 1) * (e - b + 1)) : MG s := by
  have h4 := szN_le g c
  have hsz : m (25 * c) = nI (szN g c) := (hR c hc).1.1
  refine ⟨by rw [h.1]; exact nI_nle (by omega) (by omega), h.2.1, d, c, ti, szN g c, _, _, _, _, kk, ⟨h.1, hd1, hd, h.2.2.1, hc, h.2.2.2.1, by rw [hm]; exact hsz, hti, h4, fun y hy h1 _ => ?_, fun hne => ?_⟩, mStp_eq h hm hd hc (by omega) hkk hsz h4⟩
  · have hAy : A y = false := Bool.eq_false_iff.mpr (fun e => h1 ((hA y hy).mpr e))
    have := (cnt_in hy hAy).2
    omega
  · rw [hm]
    have hlt : ti < szN g c := by omega
    have hz : ¬ g (c * 4 + ti) = 0 := (szN_iff (hR c hc).2.1 ti (by omega)).mp hlt
    have ha := (hR c hc).1.2 ti (by omega)
    have hw := (hR c hc).2.2 ti (by omega)
    have hb := hbl hlt
    generalize g (c * 4 + ti) = t at hz ha hw hb
    revert hz ha hb
    refine Wt_cases (C := fun t => ¬ t = 0 → at6 m (25 * c + 1 + 6 * ti) (V t) → (∀ f a b c' e, f < 16 → a ≤ c' → b ≤ e → c' < 6 → e < 6 → t = eB f a b c' e → kk ≤ (c' - a + 1) * (e - b + 1)) → _) hw (fun h => absurd rfl h) ?_ ?_ ?_ ?_
    · intro _ ha _
      refine ⟨fun e => ?_, fun e => ?_⟩
      · rw [ha 0 (by decide), V_k0] at e; exact absurd e (by decide)
      · rw [ha 0 (by decide), V_k0] at e; exact absurd e (by decide)
    · intro n hn _ ha _
      refine ⟨fun e => ?_, fun e => ?_⟩
      · rw [ha 0 (by decide), V_kN hn] at e; exact absurd e (by decide)
      · rw [ha 0 (by decide), V_kN hn] at e; exact absurd e (by decide)
    · intro f p q hf hp hq _ ha _
      have ha := (at_P (f := f) (by omega) (by omega) (by omega)).mpr ha
      have a1 : m (25 * c + 1 + 6 * ti + 1) = nI p := ha 1 (by decide)
      have a2 : m (25 * c + 1 + 6 * ti + 2) = nI q := ha 2 (by decide)
      refine ⟨fun _ => ?_, fun e => ?_⟩
      · rw [a1, a2, cl_nI (by omega), cl_nI (by omega)]; exact ⟨rfl, rfl, hp, hq⟩
      · rw [show m (25 * c + 1 + 6 * ti + 0) = 1 from ha 0 (by decide)] at e; exact absurd e (by decide)
    · intro f a b c' e hf h1 h2 hc' he _ ha hb
      have ha := (at_B (f := f) (by omega) (by omega) (by omega) (by omega) (by omega)).mpr ha
      have a1 : m (25 * c + 1 + 6 * ti + 1) = nI a := ha 1 (by decide)
      have a2 : m (25 * c + 1 + 6 * ti + 2) = nI b := ha 2 (by decide)
      have a3 : m (25 * c + 1 + 6 * ti + 3) = nI c' := ha 3 (by decide)
      have a4 : m (25 * c + 1 + 6 * ti + 4) = nI e := ha 4 (by decide)
      refine ⟨fun e' => ?_, fun _ => ?_⟩
      · rw [show m (25 * c + 1 + 6 * ti + 0) = 2 from ha 0 (by decide)] at e'; exact absurd e' (by decide)
      · rw [a1, a2, a3, a4, cl_nI (by omega), cl_nI (by omega), cl_nI (by omega), cl_nI (by omega)]
        exact ⟨rfl, rfl, rfl, rfl, h1, h2, hc', he, h.2.2.2.2.1, hb f a b c' e hf h1 h2 hc' he rfl⟩
def PMp (g : Nat → Int32) (U : Nat → Option Int32) (m : Nat → Int32) (n : Nat) : Prop := ∀ (s : ST) (A : Nat → Bool) (e d : Nat), d + n = 36 → 1 ≤ d → e < 36 → MI g U m s → s.1 5 = nI d → s.1 6 = 0 → Am s A → cnt A 36 0 0 = d → (∀ x, x < 36 → A x = true → ∃ k, Pth g (k + 1) x e) →
  (∀ v, U e = some v → ∃ k, k ≤ Wb n ∧ ∃ s', Rch k (mAsks s d e) (mAdds s' d v) ∧ KN s s' ∧ KF d s s' ∧ MI g U m s' ∧ Am s' A ∧ s'.1 5 = nI d ∧ s'.1 6 = 0) ∧
  (U e = none → ∃ k, k ≤ Wb n ∧ ∃ s', Rch k (mAsks s d e) s' ∧ tm3 s' = fA g U n A e d ∧ ¬ s'.1 6 = 0 ∧ KN s s')
/-- what becomes of a list of items in the frame of cell c -/
def OC (g : Nat → Int32) (U : Nat → Option Int32) (m : Nat → Int32) (sub : Nat → T3) (A : Nat → Bool) (c d : Nat) (b : ST) (K : Nat) (s : ST) (l : List It) (x : Int32) : Prop :=
  (∀ u, fo U l x = some u → ∃ k, k ≤ K ∧ ∃ s', Rch k s s' ∧ FM s' c d (szN g c) 0 u ∧ KN b s' ∧ KF (d - 1) b s' ∧ MI g U m s' ∧ Am s' A) ∧
  (fo U l x = none → ∃ k, k ≤ K ∧ ∃ s', Rch k s s' ∧ tm3 s' = fI sub U c (d - 1) l x ∧ ¬ s'.1 6 = 0 ∧ KN b s')
section OCS
variable {g : Nat → Int32} {U : Nat → Option Int32} {m : Nat → Int32} {sub : Nat → T3} {A : Nat → Bool} {c d : Nat} {b : ST}
theorem OC_step {K : Nat} {s s1 : ST} {l : List It} {x : Int32} (hG : MG s) (e : mStp s = s1) (h : OC g U m sub A c d b K s1 l x) : OC g U m sub A c d b (K + 1) s l x := by
  refine ⟨fun u hu => ?_, fun hu => ?_⟩
  · obtain ⟨k, hk, s', hr, h'⟩ := h.1 u hu
    exact ⟨1 + k, by omega, s', Rch_tr 1 k _ _ _ (Rch_1 hG e) hr, h'⟩
  · obtain ⟨k, hk, s', hr, h'⟩ := h.2 hu
    exact ⟨1 + k, by omega, s', Rch_tr 1 k _ _ _ (Rch_1 hG e) hr, h'⟩
theorem OC_mono {K K' : Nat} {s : ST} {l : List It} {x : Int32} (hK : K ≤ K') (h : OC g U m sub A c d b K s l x) : OC g U m sub A c d b K' s l x := by
  refine ⟨fun u hu => ?_, fun hu => ?_⟩
  · obtain ⟨k, hk, h'⟩ := h.1 u hu
    exact ⟨k, by omega, h'⟩
  · obtain ⟨k, hk, h'⟩ := h.2 hu
    exact ⟨k, by omega, h'⟩
theorem add1_FM {s : ST} {ti kk : Nat} {x v : Int32} (h : FM s c d ti kk x) : FM (mAdd1 s d v) c d ti kk (x + v) := by
  refine ⟨h.1, h.2.1, h.2.2.1, h.2.2.2.1, h.2.2.2.2.1, ?_⟩
  show upd (s.2.1 12) (d - 1) (s.2.1 12 (d - 1) + v) (d - 1) = x + v
  rw [upd_same, h.2.2.2.2.2]
theorem add1_KF {s : ST} {v : Int32} : KF (d - 1) s (mAdd1 s d v) := fun q hq => ⟨rfl, rfl, rfl, by show upd (s.2.1 12) (d - 1) _ q = _; exact upd_other _ _ (by omega)⟩
theorem add1_KN {s : ST} {v : Int32} : KN s (mAdd1 s d v) := KN_sA (KN_rfl s) (by omega)
/-- a sum grows by v in the frame of c, and the list goes on -/
theorem OC_add {K ti kk : Nat} {s : ST} {l : List It} {x v : Int32} (hd1 : 1 ≤ d) (h : FM s c d ti kk x) (hN : KN b s) (hF : KF (d - 1) b s) (hM : MI g U m s) (hA : Am s A)
    (cont : x + v ≤ 99999 → ∀ s1, FM s1 c d ti kk (x + v) → KN b s1 → KF (d - 1) b s1 → MI g U m s1 → Am s1 A → OC g U m sub A c d b K s1 l (x + v)) :
    OC g U m sub A c d b K (mAdds s d v) (.inl v :: l) x := by
  have e12 : s.2.1 12 (d - 1) = x := h.2.2.2.2.2
  unfold mAdds
  rw [e12]
  by_cases hx : x + v ≤ 99999
  · rw [if_pos hx]
    have h1 := cont hx (mAdd1 s d v) (add1_FM h) (KN_tr hN add1_KN) (KF_tr hF add1_KF) hM hA
    refine ⟨fun u hu => h1.1 u ?_, fun hu => ?_⟩
    · have hu : (if x + v ≤ 99999 then fo U l (x + v) else none) = some u := hu
      rw [if_pos hx] at hu; exact hu
    · have hu : (if x + v ≤ 99999 then fo U l (x + v) else none) = none := hu
      rw [if_pos hx] at hu
      show ∃ k, k ≤ K ∧ ∃ s', Rch k _ s' ∧ tm3 s' = (if x + v ≤ 99999 then fI sub U c (d - 1) l (x + v) else (3, nI c, nI (d - 1))) ∧ _
      rw [if_pos hx]
      exact h1.2 hu
  · rw [if_neg hx]
    refine ⟨fun u hu => ?_, fun _ => ?_⟩
    · have hu : (if x + v ≤ 99999 then fo U l (x + v) else none) = some u := hu
      rw [if_neg hx] at hu; cases hu
    · refine ⟨0, Nat.zero_le _, _, rfl, ?_, (by decide : ¬ (3 : Int32) = 0), KN_sI (KN_sI (KN_sI (KN_tr hN add1_KN) (by omega)) (by omega)) (by omega)⟩
      show ((3 : Int32), s.2.1 9 (d - 1), s.1 5 - 1) = (if x + v ≤ 99999 then fI sub U c (d - 1) l (x + v) else (3, nI c, nI (d - 1)))
      rw [if_neg hx, h.2.2.1, h.1]
      obtain ⟨d', rfl⟩ : ∃ d', d = d' + 1 := ⟨d - 1, by omega⟩
      rw [nI_pred]
      rfl
theorem OC_ask {n K ti kk e : Nat} {s : ST} {l : List It} {x : Int32} (hP : PMp g U m n) (hsub : sub = fun e => fA g U n A e d) (hdn : d + n = 36) (hd1 : 1 ≤ d) (he : e < 36) (h : FM s c d ti kk x) (hN : KN b s) (hF : KF (d - 1) b s) (hM : MI g U m s) (hA : Am s A) (hcnt : cnt A 36 0 0 = d) (hch : ∀ x, x < 36 → A x = true → ∃ k, Pth g (k + 1) x e)
    (cont : ∀ v, x + v ≤ 99999 → ∀ s1, FM s1 c d ti kk (x + v) → KN b s1 → KF (d - 1) b s1 → MI g U m s1 → Am s1 A → OC g U m sub A c d b K s1 l (x + v)) :
    OC g U m sub A c d b (Wb n + K) (mAsks s d e) (.inr (some e) :: l) x := by
  have hp := hP s A e d hdn hd1 he hM h.1 h.2.1 hA hcnt hch
  cases hU : U e with
  | none =>
    obtain ⟨k, hk, s', hr, h3, h0, hN'⟩ := hp.2 hU
    refine ⟨fun u hu => ?_, fun _ => ⟨k, by omega, s', hr, ?_, h0, KN_tr hN hN'⟩⟩
    · have hu : (match U e with | some v => if x + v ≤ 99999 then fo U l (x + v) else none | none => none) = some u := hu
      rw [hU] at hu; cases hu
    · show tm3 s' = (match U e with | some v => if x + v ≤ 99999 then fI sub U c (d - 1) l (x + v) else (3, nI c, nI (d - 1)) | none => sub e)
      rw [hU, hsub]; exact h3
  | some v =>
    obtain ⟨k, hk, s', hr, hN', hF', hM', hA', h5', h6'⟩ := hp.1 v hU
    have q := hF' (d - 1) (by omega)
    have hFM : FM s' c d ti kk x := ⟨h5', h6', q.1.trans h.2.2.1, q.2.1.trans h.2.2.2.1, q.2.2.1.trans h.2.2.2.2.1, q.2.2.2.trans h.2.2.2.2.2⟩
    have hF2 : KF (d - 1) b s' := KF_tr hF (fun y hy => hF' y (by omega))
    have h1 := OC_add (v := v) (l := l) (sub := sub) hd1 hFM (KN_tr hN hN') hF2 hM' hA' (fun hx => cont v hx)
    refine ⟨fun u hu => ?_, fun hu => ?_⟩
    · have hu : (match U e with | some v => if x + v ≤ 99999 then fo U l (x + v) else none | none => none) = some u := hu
      rw [hU] at hu
      obtain ⟨k2, hk2, s2, hr2, h2⟩ := h1.1 u hu
      exact ⟨k + k2, by omega, s2, Rch_tr k k2 _ _ _ hr hr2, h2⟩
    · have hu : (match U e with | some v => if x + v ≤ 99999 then fo U l (x + v) else none | none => none) = none := hu
      rw [hU] at hu
      obtain ⟨k2, hk2, s2, hr2, h2, h3⟩ := h1.2 hu
      refine ⟨k + k2, by omega, s2, Rch_tr k k2 _ _ _ hr hr2, ?_, h3⟩
      show tm3 s2 = (match U e with | some v => if x + v ≤ 99999 then fI sub U c (d - 1) l (x + v) else (3, nI c, nI (d - 1)) | none => sub e)
      rw [hU]; exact h2
end OCS
