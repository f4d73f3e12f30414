theorem itL_nil {g : Nat → Int32} {c : Nat} : ∀ k i, (∀ j, i ≤ j → j < i + k → g (c * 4 + j) = 0) → itL g c k i = []
  | 0, _, _ => rfl
  | k + 1, i, h => by
    show itT (g (c * 4 + i)) ++ itL g c k (i + 1) = []
    rw [h i (Nat.le_refl i) (by omega), itT_0, itL_nil k (i + 1) (fun j h1 h2 => h j (by omega) (by omega))]; rfl
theorem itL_mem {g : Nat → Int32} {c j : Nat} {x : It} : ∀ k i, i ≤ j → j < i + k → x ∈ itT (g (c * 4 + j)) → x ∈ itL g c k i
  | 0, i, h1, h2, _ => absurd h1 (by omega)
  | k + 1, i, h1, h2, hx => by
    show x ∈ itT (g (c * 4 + i)) ++ itL g c k (i + 1)
    by_cases e : i = j
    · subst e; exact List.mem_append_left _ hx
    · exact List.mem_append_right _ (itL_mem k (i + 1) (by omega) (by omega) hx)
theorem itL_len {g : Nat → Int32} {c : Nat} : ∀ k i, (∀ j, i ≤ j → j < i + k → Wt (g (c * 4 + j))) → (itL g c k i).length ≤ 36 * k
  | 0, _, _ => Nat.le_refl _
  | k + 1, i, h => by
    show (itT (g (c * 4 + i)) ++ itL g c k (i + 1)).length ≤ _
    rw [List.length_append]
    have h1 := itT_len (h i (Nat.le_refl i) (by omega))
    have h2 := itL_len k (i + 1) (fun j h1 h2 => h j (by omega) (by omega))
    omega
theorem bL_mem {a b c kk : Nat} : ∀ k k0, k0 ≤ kk → kk < k0 + k → (.inr (some (mABc kk a b c)) : It) ∈ bL a b c k k0
  | 0, k0, h1, h2 => absurd h1 (by omega)
  | k + 1, k0, h1, h2 => by
    by_cases e : k0 = kk
    · subst e; exact List.mem_cons_self
    · exact List.mem_cons_of_mem _ (bL_mem k (k0 + 1) (by omega) (by omega))
theorem upd_at {f : Nat → Int32} {k : Nat} {v : Int32} : upd f k v k = v := upd_same f k v
section FRAME
variable {g : Nat → Int32} {U : Nat → Option Int32} {m : Nat → Int32} {A : Nat → Bool} {c d n : Nat} {b : ST}
theorem nxt_FM {s : ST} {ti kk : Nat} {x : Int32} (h : FM s c d ti kk x) : FM (mNxt s d ti) c d (ti + 1) kk x :=
  ⟨h.1, h.2.1, h.2.2.1, upd_same _ _ _, h.2.2.2.2.1, h.2.2.2.2.2⟩
theorem nxt_KN {s : ST} {ti : Nat} : KN s (mNxt s d ti) := KN_sA (KN_rfl s) (by omega)
theorem nxt_KF {s : ST} {ti : Nat} : KF (d - 1) s (mNxt s d ti) := fun q hq => ⟨rfl, by show upd (s.2.1 10) (d - 1) _ q = _; exact upd_other _ _ (by omega), rfl, rfl⟩
theorem frame (hR : RX m g) (hP : PMp g U m n) (hdn : d + n = 36) (hd1 : 1 ≤ d) (hc : c < 36) (hcnt : cnt A 36 0 0 = d) (hch : ∀ e, Rf g c e → ∀ x, x < 36 → A x = true → ∃ k, Pth g (k + 1) x e) :
    ∀ r ti, ti + r = szN g c → ∀ (s : ST) (x : Int32), FM s c d ti 0 x → KN b s → KF (d - 1) b s → MI g U m s → Am s A → OC g U m (fun e => fA g U n A e d) A c d b ((itL g c (4 - ti) ti).length * (Wb n + 1) + r) s (itL g c (4 - ti) ti) x := by
  have h4 := szN_le g c
  have hI := szN_iff (hR c hc).2.1
  have hsz : m (25 * c) = nI (szN g c) := (hR c hc).1.1
  intro r
  induction r with
  | zero =>
    intro ti hti s x h hN hF hM hA
    have e : itL g c (4 - ti) ti = [] := itL_nil _ _ (fun j h1 h2 => Classical.byContradiction fun h3 => absurd ((hI j (by omega)).mpr h3) (by omega))
    rw [e]
    have hti : ti = szN g c := by omega
    refine ⟨fun u hu => ⟨0, Nat.zero_le _, s, rfl, ?_, hN, hF, hM, hA⟩, fun hu => (by cases hu)⟩
    have hu : some x = some u := hu
    injection hu with hu
    rw [← hu, ← hti]; exact h
  | succ r ih =>
    intro ti hti s x h hN hF hM hA
    have hlt : ti < szN g c := by omega
    have hz : ¬ g (c * 4 + ti) = 0 := (hI ti (by omega)).mp hlt
    have ha := (hR c hc).1.2 ti (by omega)
    have hw := (hR c hc).2.2 ti (by omega)
    have el : itL g c (4 - ti) ti = itT (g (c * 4 + ti)) ++ itL g c (4 - (ti + 1)) (ti + 1) := by
      rw [show 4 - ti = (4 - (ti + 1)) + 1 by omega]; rfl
    rw [el, List.length_append]
    have ihn := ih (ti + 1) (by omega)
    have hmem : ∀ y, y ∈ itT (g (c * 4 + ti)) → y ∈ its g c := fun y hy => itL_mem 4 0 (Nat.zero_le _) (by omega) hy
    have hstep : ∀ s kk x, FM s c d ti kk x → kk ≤ 36 → MI g U m s → mStp s = mStpG s d c ti (szN g c) (cl (m (25 * c + 1 + 6 * ti + 1))) (cl (m (25 * c + 1 + 6 * ti + 2))) (cl (m (25 * c + 1 + 6 * ti + 3))) (cl (m (25 * c + 1 + 6 * ti + 4))) kk := fun s kk x h hk hM => mStp_eq h hM.1 (by omega) hc (by omega) hk hsz h4
    have hG : ∀ s kk x, FM s c d ti kk x → kk ≤ 36 → MI g U m s → Am s A → (∀ f a b c' e, f < 16 → a ≤ c' → b ≤ e → c' < 6 → e < 6 → g (c * 4 + ti) = eB f a b c' e → kk ≤ (c' - a + 1) * (e - b + 1)) → MG s := fun s kk x h hk hM hA hb => MG_of hR h hM.1 hd1 (by omega) hc (by omega) hk hA hcnt (fun _ => hb)
    generalize hL : itL g c (4 - (ti + 1)) (ti + 1) = L at ihn ⊢
    generalize ht : g (c * 4 + ti) = t at hz ha hw hmem hG ⊢
    have hne : ¬ ti = szN g c := by omega
    revert hz ha hmem hG
    refine Wt_cases (C := fun t => ¬ t = 0 → at6 m (25 * c + 1 + 6 * ti) (V t) → (∀ y, y ∈ itT t → y ∈ its g c) → (∀ s kk x, FM s c d ti kk x → kk ≤ 36 → MI g U m s → Am s A → (∀ f a b c' e, f < 16 → a ≤ c' → b ≤ e → c' < 6 → e < 6 → t = eB f a b c' e → kk ≤ (c' - a + 1) * (e - b + 1)) → MG s) → OC g U m (fun e => fA g U n A e d) A c d b (((itT t).length + L.length) * (Wb n + 1) + (r + 1)) s (itT t ++ L) x) hw (fun h => absurd rfl h) ?_ ?_ ?_ ?_
    · intro _ ha _ hG
      have e1 : mStp s = mMeet s 1 (nI c) := by
        rw [hstep s 0 x h (by omega) hM]
        unfold mStpG
        rw [if_neg hne, hM.1, ha 0 (by decide), V_k0, if_neg (by decide), if_neg (by decide), if_neg (by decide)]
      rw [itT_4]
      refine OC_mono (K := 0 + 1) (by omega) (OC_step (hG s 0 x h (by omega) hM hA (fun f a b c' e _ _ _ _ _ _ => Nat.zero_le _)) e1 ?_)
      refine ⟨fun u hu => (by cases hu), fun _ => ⟨0, Nat.le_refl _, _, rfl, ?_, (by decide : ¬ (1 : Int32) = 0), KN_sI (KN_sI (KN_sI hN (by omega)) (by omega)) (by omega)⟩⟩
      show ((1 : Int32), nI c, s.1 5 - 1) = (1, nI c, nI (d - 1))
      rw [h.1]
      obtain ⟨d', rfl⟩ : ∃ d', d = d' + 1 := ⟨d - 1, by omega⟩
      rw [nI_pred]; rfl
    · intro v hv _ ha _ hG
      have e1 : mStp s = mAdds (mNxt s d ti) d (nI v) := by
        rw [hstep s 0 x h (by omega) hM]
        unfold mStpG
        rw [if_neg hne, hM.1, ha 0 (by decide), V_kN hv, if_pos rfl, ha 1 (by decide), show V (eN v) 1 = nI v from V_N hv 1 (by decide)]
      rw [itT_N hv]
      refine OC_mono (K := (L.length * (Wb n + 1) + r) + 1) ?_ (OC_step (hG s 0 x h (by omega) hM hA (fun f a b c' e _ _ _ _ _ _ => Nat.zero_le _)) e1 ?_)
      · rw [Nat.add_mul]
        show L.length * (Wb n + 1) + r + 1 ≤ _
        omega
      · exact OC_add hd1 (nxt_FM h) (KN_tr hN nxt_KN) (KF_tr hF nxt_KF) hM hA (fun hx s1 f1 f2 f3 f4 f5 => ihn s1 (x + nI v) f1 f2 f3 f4 f5)
    · intro f p q hf hp hq _ ha hmem hG
      have ha := (at_P (f := f) (by omega) (by omega) (by omega)).mpr ha
      have a1 : m (25 * c + 1 + 6 * ti + 1) = nI p := ha 1 (by decide)
      have a2 : m (25 * c + 1 + 6 * ti + 2) = nI q := ha 2 (by decide)
      have e1 : mStp s = mAsks (mNxt s d ti) d (6 * q + p) := by
        rw [hstep s 0 x h (by omega) hM]
        unfold mStpG
        rw [if_neg hne, hM.1, show m (25 * c + 1 + 6 * ti + 0) = 1 from ha 0 (by decide), if_neg (by decide), if_pos rfl, a1, a2, cl_nI (by omega), cl_nI (by omega)]
      have hr : Rf g c (6 * q + p) := hmem _ (by rw [itT_P hf hp hq]; exact List.mem_cons_self)
      rw [itT_P hf hp hq]
      refine OC_mono (K := (Wb n + (L.length * (Wb n + 1) + r)) + 1) ?_ (OC_step (hG s 0 x h (by omega) hM hA (fun f a b c' e _ _ _ _ _ _ => Nat.zero_le _)) e1 ?_)
      · rw [Nat.add_mul]
        show _ ≤ 1 * (Wb n + 1) + _ + _
        omega
      · exact OC_ask hP rfl hdn hd1 (by omega) (nxt_FM h) (KN_tr hN nxt_KN) (KF_tr hF nxt_KF) hM hA hcnt (hch _ hr) (fun v hx s1 f1 f2 f3 f4 f5 => ihn s1 (x + v) f1 f2 f3 f4 f5)
    · intro f a b' c' e hf h1 h2 hc' he _ ha hmem hG
      have ha := (at_B (f := f) (by omega) (by omega) (by omega) (by omega) (by omega)).mpr ha
      have a1 : m (25 * c + 1 + 6 * ti + 1) = nI a := ha 1 (by decide)
      have a2 : m (25 * c + 1 + 6 * ti + 2) = nI b' := ha 2 (by decide)
      have a3 : m (25 * c + 1 + 6 * ti + 3) = nI c' := ha 3 (by decide)
      have a4 : m (25 * c + 1 + 6 * ti + 4) = nI e := ha 4 (by decide)
      have htot : (c' - a + 1) * (e - b' + 1) ≤ 36 := Nat.mul_le_mul (show c' - a + 1 ≤ 6 by omega) (show e - b' + 1 ≤ 6 by omega)
      rw [itT_B hf h1 h2 hc' he] at hmem ⊢
      rw [bL_len]
      have hbs : ∀ s kk x, FM s c d ti kk x → kk ≤ 36 → MI g U m s → mStp s = mABl s d (d - 1) kk a b' c' e := by
        intro s kk x h hk hM
        rw [hstep s kk x h hk hM]
        unfold mStpG
        rw [if_neg hne, hM.1, show m (25 * c + 1 + 6 * ti + 0) = 2 from ha 0 (by decide), if_neg (by decide), if_neg (by decide), if_pos rfl, a1, a2, a3, a4, cl_nI (by omega), cl_nI (by omega), cl_nI (by omega), cl_nI (by omega)]
      have hGb : ∀ s kk x, FM s c d ti kk x → kk ≤ (c' - a + 1) * (e - b' + 1) → MI g U m s → Am s A → MG s := by
        intro s kk x h hk hM hA
        refine hG s kk x h (by omega) hM hA (fun f2 a2' b2 c2 e2 g1 g2 g3 g4 g5 g6 => ?_)
        have hV : ∀ w, w < 6 → V (eB f a b' c' e) w = V (eB f2 a2' b2 c2 e2) w := fun w hw => by rw [g6]
        have k1 := hV 1 (by decide)
        have k2 := hV 2 (by decide)
        have k3 := hV 3 (by decide)
        have k4 := hV 4 (by decide)
        rw [V_B hf (by omega) (by omega) (by omega) (by omega) 1 (by decide), V_B g1 (by omega) (by omega) (by omega) (by omega) 1 (by decide)] at k1
        rw [V_B hf (by omega) (by omega) (by omega) (by omega) 2 (by decide), V_B g1 (by omega) (by omega) (by omega) (by omega) 2 (by decide)] at k2
        rw [V_B hf (by omega) (by omega) (by omega) (by omega) 3 (by decide), V_B g1 (by omega) (by omega) (by omega) (by omega) 3 (by decide)] at k3
        rw [V_B hf (by omega) (by omega) (by omega) (by omega) 4 (by decide), V_B g1 (by omega) (by omega) (by omega) (by omega) 4 (by decide)] at k4
        have k1 : a = a2' := (nI_eq (by omega) (by omega)).mp k1
        have k2 : b' = b2 := (nI_eq (by omega) (by omega)).mp k2
        have k3 : c' = c2 := (nI_eq (by omega) (by omega)).mp k3
        have k4 : e = e2 := (nI_eq (by omega) (by omega)).mp k4
        rw [← k1, ← k2, ← k3, ← k4]; exact hk
      have blk : ∀ q kk, kk + q = (c' - a + 1) * (e - b' + 1) → ∀ (s : ST) (x : Int32), FM s c d ti kk x → KN b s → KF (d - 1) b s → MI g U m s → Am s A → OC g U m (fun e => fA g U n A e d) A c d b (q * (Wb n + 1) + (L.length * (Wb n + 1) + r + 1)) s (bL a b' c' q kk ++ L) x := by
        intro q
        induction q with
        | zero =>
          intro kk hkk s x h hN hF hM hA
          have e1 : mStp s = sA (sA s 11 (upd (s.2.1 11) (d - 1) 0)) 10 (upd (s.2.1 10) (d - 1) (nI (ti + 1))) := by
            rw [hbs s kk x h (by omega) hM]
            unfold mABl
            rw [if_pos (by omega), h.2.2.2.1, nI_1]
          refine OC_mono (K := (L.length * (Wb n + 1) + r) + 1) (by omega) (OC_step (hGb s kk x h (by omega) hM hA) e1 ?_)
          refine ihn _ x ⟨h.1, h.2.1, h.2.2.1, upd_same _ _ _, upd_same _ _ _, h.2.2.2.2.2⟩ (KN_sA (KN_sA hN (by omega)) (by omega)) (KF_tr hF (fun y hy => ⟨rfl, ?_, ?_, rfl⟩)) hM hA
          · show upd (s.2.1 10) (d - 1) _ y = _; exact upd_other _ _ (by omega)
          · show upd (s.2.1 11) (d - 1) _ y = _; exact upd_other _ _ (by omega)
        | succ q ihq =>
          intro kk hkk s x h hN hF hM hA
          have e1 : mStp s = mAsks (sA s 11 (upd (s.2.1 11) (d - 1) (nI (kk + 1)))) d (mABc kk a b' c') := by
            rw [hbs s kk x h (by omega) hM]
            unfold mABl
            rw [if_neg (by omega)]
          have hr : Rf g c (mABc kk a b' c') := hmem _ (bL_mem _ 0 (Nat.zero_le _) (by omega))
          refine OC_mono (K := (Wb n + (q * (Wb n + 1) + (L.length * (Wb n + 1) + r + 1))) + 1) (by rw [Nat.add_mul q 1]; omega) (OC_step (hGb s kk x h (by omega) hM hA) e1 ?_)
          exact OC_ask hP rfl hdn hd1 (Rf_lt (hR c hc).2 hr) (⟨h.1, h.2.1, h.2.2.1, h.2.2.2.1, upd_same _ _ _, h.2.2.2.2.2⟩ : FM (sA s 11 (upd (s.2.1 11) (d - 1) (nI (kk + 1)))) c d ti (kk + 1) x) (KN_sA hN (by omega)) (KF_tr hF (fun y hy => ⟨rfl, rfl, by show upd (s.2.1 11) (d - 1) _ y = _; exact upd_other _ _ (by omega), rfl⟩)) hM hA hcnt (hch _ hr) (fun v hx s1 f1 f2 f3 f4 f5 => ihq (kk + 1) (by omega) s1 (x + v) f1 f2 f3 f4 f5)
      refine OC_mono ?_ (blk ((c' - a + 1) * (e - b' + 1)) 0 (by omega) s x h hN hF hM hA)
      rw [Nat.add_mul ((c' - a + 1) * (e - b' + 1))]
      omega
end FRAME
