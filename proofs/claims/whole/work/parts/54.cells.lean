theorem lp_add {α : Type} (f : Nat → α → α) : ∀ (n m i : Nat) (a : α), lp f (n + m) i a = lp f m (i + n) (lp f n i a)
  | 0, m, i, a => by rw [Nat.zero_add]; rfl
  | n + 1, m, i, a => by
    rw [show n + 1 + m = (n + m) + 1 by omega, lp_s, lp_add f n m (i + 1), lp_s, show i + 1 + n = i + (n + 1) by omega]
theorem lp_shift {α : Type} (f : Nat → α → α) (d : Nat) : ∀ (n i : Nat) (a : α), lp f n (d + i) a = lp (fun j => f (d + j)) n i a
  | 0, _, _ => rfl
  | n + 1, i, a => by rw [lp_s, lp_s]; exact lp_shift f d n (i + 1) _
theorem lp_mul {α : Type} (f : Nat → α → α) (n : Nat) : ∀ (m i : Nat) (a : α), lp f (m * n) (i * n) a = lp (fun k a => lp (fun j => f (k * n + j)) n 0 a) m i a
  | 0, i, a => by rw [Nat.zero_mul]; rfl
  | m + 1, i, a => by
    rw [show (m + 1) * n = n + m * n by rw [Nat.add_mul, Nat.one_mul, Nat.add_comm], lp_add, lp_s, show i * n + n = (i + 1) * n by rw [Nat.add_mul, Nat.one_mul], lp_mul f n m (i + 1)]
    congr 1
    exact lp_shift f (i * n) n 0 a
theorem lp_rel {α β : Type} {f : Nat → α → α} {g : Nat → β → β} (R : Nat → α → β → Prop) : ∀ (n i : Nat) (a : α) (b : β), R i a b → (∀ j a b, i ≤ j → j < i + n → R j a b → R (j + 1) (f j a) (g j b)) → R (i + n) (lp f n i a) (lp g n i b)
  | 0, _, _, _, h, _ => h
  | n + 1, i, a, b, h, hs => by
    have h1 := lp_rel R n (i + 1) (f i a) (g i b) (hs i a b (Nat.le_refl i) (by omega) h) (fun j a b h2 h3 h4 => hs j a b (by omega) (by omega) h4)
    rw [show i + 1 + n = i + (n + 1) by omega] at h1
    exact h1
theorem lp_id {α : Type} {f : Nat → α → α} : ∀ (n i : Nat) (a : α), (∀ j, i ≤ j → j < i + n → f j a = a) → lp f n i a = a
  | 0, _, _, _ => rfl
  | n + 1, i, a, h => by rw [lp_s, h i (Nat.le_refl i) (by omega)]; exact lp_id n (i + 1) a (fun j h1 h2 => h j (by omega) (by omega))
theorem lp_miss {α : Type} {f : Nat → (Nat → α) → (Nat → α)} (p : Nat) : ∀ (n i : Nat) (g : Nat → α), (∀ j g, i ≤ j → j < i + n → f j g p = g p) → lp f n i g p = g p
  | 0, _, _, _ => rfl
  | n + 1, i, g, h => by rw [lp_s, lp_miss p n (i + 1) _ (fun j g h1 h2 => h j g (by omega) (by omega))]; exact h i g (Nat.le_refl i) (by omega)
theorem lp_hit {α : Type} {f : Nat → (Nat → α) → (Nat → α)} (p j : Nat) (v : α) : ∀ (n i : Nat) (g : Nat → α), i ≤ j → j < i + n → (∀ g, f j g p = v) → (∀ j' g, j < j' → j' < i + n → f j' g p = g p) → lp f n i g p = v
  | 0, _, _, h1, h2, _, _ => absurd h1 (by omega)
  | n + 1, i, g, h1, h2, h3, h4 => by
    rw [lp_s]
    by_cases e : i = j
    · rw [lp_miss p n (i + 1) _ (fun j' g h5 h6 => h4 j' g (by omega) (by omega)), e]; exact h3 g
    · exact lp_hit p j v n (i + 1) _ (by omega) (by omega) h3 (fun j' g h5 h6 => h4 j' g h5 (by omega))
theorem mTak_eq (h g : Nat → Int32) (to fr p : Nat) : mTak h g to fr p = if to ≤ p ∧ p < to + 25 then h (fr + (p - to)) else g p := by
  unfold mTak
  by_cases e : to ≤ p ∧ p < to + 25
  · rw [if_pos e]
    refine lp_hit p (p - to) _ 25 0 g (by omega) (by omega) (fun g => ?_) (fun j' g h1 h2 => upd_other _ _ (by omega))
    rw [show to + (p - to) = p by omega]
    exact upd_same _ _ _
  · rw [if_neg e]
    exact lp_miss p 25 0 g (fun j g h1 h2 => upd_other _ _ (by omega))
theorem mEmp_eq (g : Nat → Int32) (ce p : Nat) : mEmp g ce p = if ce ≤ p ∧ p < ce + 25 then 0 else g p := by
  unfold mEmp
  by_cases e : ce ≤ p ∧ p < ce + 25
  · rw [if_pos e]
    refine lp_hit p (p - ce) _ 25 0 g (by omega) (by omega) (fun g => ?_) (fun j' g h1 h2 => upd_other _ _ (by omega))
    rw [show ce + (p - ce) = p by omega]
    exact upd_same _ _ _
  · rw [if_neg e]
    exact lp_miss p 25 0 g (fun j g h1 h2 => upd_other _ _ (by omega))
theorem cpT_eq (h g : Nat → Int32) (fr to p : Nat) : cpT h g fr to p = if to * 4 ≤ p ∧ p < to * 4 + 4 then h (fr * 4 + (p - to * 4)) else g p := rfl
theorem dropF_eq (ce : Nat) (g : Nat → Int32) (p : Nat) : dropF ce g p = if ce * 4 ≤ p ∧ p < ce * 4 + 4 then 0 else g p := by
  unfold dropF
  by_cases e : ce * 4 ≤ p ∧ p < ce * 4 + 4
  · rw [if_pos e]
    refine lp_hit p (p - ce * 4) _ 4 0 g (by omega) (by omega) (fun g => ?_) (fun j' g h1 h2 => upd_other _ _ (by omega))
    rw [show ce * 4 + (p - ce * 4) = p by omega]
    exact upd_same _ _ _
  · rw [if_neg e]
    exact lp_miss p 4 0 g (fun j g h1 h2 => upd_other _ _ (by omega))
/-! the sheets of both, cell by cell -/
def szN (g : Nat → Int32) (k : Nat) : Nat := szL g k 4 0
def CZ (g : Nat → Int32) (k : Nat) : Prop := ∀ i, i < 3 → g (k * 4 + i) = 0 → g (k * 4 + (i + 1)) = 0
theorem szN_eq (g : Nat → Int32) (k : Nat) : szN g k = if g (k * 4 + 0) = 0 then 0 else if g (k * 4 + 1) = 0 then 1 else if g (k * 4 + 2) = 0 then 2 else if g (k * 4 + 3) = 0 then 3 else 4 := rfl
theorem szN_le (g : Nat → Int32) (k : Nat) : szN g k ≤ 4 := by rw [szN_eq]; (repeat' split) <;> omega
theorem all4 {P : Nat → Prop} (h0 : P 0) (h1 : P 1) (h2 : P 2) (h3 : P 3) : ∀ w, w < 4 → P w := by
  intro w hw
  match w, hw with
  | 0, _ => exact h0
  | 1, _ => exact h1
  | 2, _ => exact h2
  | 3, _ => exact h3
  | n + 4, h => exact absurd h (by omega)
theorem sz_aux {A B C D : Int32} (h0 : A = 0 → B = 0) (h1 : B = 0 → C = 0) (h2 : C = 0 → D = 0) {N : Nat} (hN : N = if A = 0 then 0 else if B = 0 then 1 else if C = 0 then 2 else if D = 0 then 3 else 4) : (0 < N ↔ ¬ A = 0) ∧ (1 < N ↔ ¬ B = 0) ∧ (2 < N ↔ ¬ C = 0) ∧ (3 < N ↔ ¬ D = 0) := by
  by_cases e0 : A = 0
  · have e1 := h0 e0
    have e2 := h1 e1
    have e3 := h2 e2
    rw [if_pos e0] at hN
    simp [hN, e0, e1, e2, e3]
  · rw [if_neg e0] at hN
    by_cases e1 : B = 0
    · have e2 := h1 e1
      have e3 := h2 e2
      rw [if_pos e1] at hN
      simp [hN, e0, e1, e2, e3]
    · rw [if_neg e1] at hN
      by_cases e2 : C = 0
      · have e3 := h2 e2
        rw [if_pos e2] at hN
        simp [hN, e0, e1, e2, e3]
      · rw [if_neg e2] at hN
        by_cases e3 : D = 0
        · rw [if_pos e3] at hN
          simp [hN, e0, e1, e2, e3]
        · rw [if_neg e3] at hN
          simp [hN, e0, e1, e2, e3]
theorem szN_iff {g : Nat → Int32} {k : Nat} (h : CZ g k) : ∀ i, i < 4 → (i < szN g k ↔ ¬ g (k * 4 + i) = 0) := by
  have h4 := sz_aux (h 0 (by decide)) (h 1 (by decide)) (h 2 (by decide)) (szN_eq g k)
  exact all4 h4.1 h4.2.1 h4.2.2.1 h4.2.2.2
theorem szN_cong {g g' : Nat → Int32} {k k' : Nat} (h : ∀ i, i < 4 → (g (k * 4 + i) = 0 ↔ g' (k' * 4 + i) = 0)) : szN g k = szN g' k' := by
  rw [szN_eq, szN_eq]
  simp only [h 0 (by decide), h 1 (by decide), h 2 (by decide), h 3 (by decide)]
def CR (m : Nat → Int32) (b : Nat) (g : Nat → Int32) (k : Nat) : Prop := m b = nI (szN g k) ∧ ∀ i, i < 4 → at6 m (b + 1 + 6 * i) (V (g (k * 4 + i)))
def CW (g : Nat → Int32) (k : Nat) : Prop := CZ g k ∧ ∀ i, i < 4 → Wt (g (k * 4 + i))
def RX (m g : Nat → Int32) : Prop := ∀ k, k < 36 → CR m (25 * k) g k ∧ CW g k
theorem CR_copy {m m' g g' : Nat → Int32} {b b' k k' : Nat} (hm : ∀ j, j < 25 → m' (b' + j) = m (b + j)) (hg : ∀ i, i < 4 → g' (k' * 4 + i) = g (k * 4 + i)) (h : CR m b g k) : CR m' b' g' k' := by
  refine ⟨?_, fun i hi w hw => ?_⟩
  · rw [show b' = b' + 0 from rfl, hm 0 (by decide), szN_cong (g' := g) (k' := k) (fun i hi => by rw [hg i hi])]; exact h.1
  · rw [hg i hi, ← h.2 i hi w hw]
    have := hm (1 + 6 * i + w) (by omega)
    rw [show b' + 1 + 6 * i + w = b' + (1 + 6 * i + w) by omega, this]
    congr 1; omega
theorem CW_copy {g g' : Nat → Int32} {k k' : Nat} (hg : ∀ i, i < 4 → g' (k' * 4 + i) = g (k * 4 + i)) (h : CW g k) : CW g' k' := by
  refine ⟨fun i hi => ?_, fun i hi => ?_⟩
  · rw [hg i (by omega), hg (i + 1) (by omega)]; exact h.1 i hi
  · rw [hg i hi]; exact h.2 i hi
theorem CR_empty {m g : Nat → Int32} {b k : Nat} (hm : ∀ j, j < 25 → m (b + j) = 0) (hg : ∀ i, i < 4 → g (k * 4 + i) = 0) : CR m b g k := by
  refine ⟨?_, fun i hi w hw => ?_⟩
  · rw [szN_eq, if_pos (hg 0 (by decide))]; exact hm 0 (by decide)
  · rw [hg i hi, V_0, show b + 1 + 6 * i + w = b + (1 + 6 * i + w) by omega]; exact hm _ (by omega)
theorem CW_empty {g : Nat → Int32} {k : Nat} (hg : ∀ i, i < 4 → g (k * 4 + i) = 0) : CW g k :=
  ⟨fun i hi _ => hg (i + 1) (by omega), fun i hi => by rw [hg i hi]; exact Wt_0⟩
/-- one term of one cell goes over into another one -/
theorem RX_step {m m' g : Nat → Int32} {k i : Nat} {t : Int32} (h : RX m g) (hk : k < 36) (hi : i < 4) (h0 : ¬ g (k * 4 + i) = 0) (ht : ¬ t = 0) (hw : Wt t) (ha : at6 m' (25 * k + 1 + 6 * i) (V t)) (ho : off6 m m' (25 * k + 1 + 6 * i)) : RX m' (upd g (k * 4 + i) t) := by
  intro k' hk'
  by_cases e : k' = k
  · subst e
    have hz : ∀ j, j < 4 → (upd g (k' * 4 + i) t (k' * 4 + j) = 0 ↔ g (k' * 4 + j) = 0) := by
      intro j hj
      by_cases e : j = i
      · rw [e, upd_same]; exact ⟨fun h => absurd h ht, fun h => absurd h h0⟩
      · rw [upd_other _ _ (by omega)]
    refine ⟨⟨?_, fun j hj => ?_⟩, fun j hj hz0 => ?_, fun j hj => ?_⟩
    · rw [ho _ (by omega), szN_cong hz]; exact (h k' hk').1.1
    · by_cases e : j = i
      · rw [e, upd_same]; exact ha
      · rw [upd_other _ _ (by omega)]
        intro w hw
        rw [ho _ (by omega)]
        exact (h k' hk').1.2 j hj w hw
    · exact (hz (j + 1) (by omega)).mpr ((h k' hk').2.1 j hj ((hz j (by omega)).mp hz0))
    · by_cases e : j = i
      · rw [e, upd_same]; exact hw
      · rw [upd_other _ _ (by omega)]; exact (h k' hk').2.2 j hj
  · refine ⟨CR_copy (m := m) (g := g) (b := 25 * k') (k := k') (fun j hj => ho _ (by omega)) (fun j hj => upd_other _ _ (by omega)) (h k' hk').1, CW_copy (g := g) (k := k') (fun j hj => upd_other _ _ (by omega)) (h k' hk').2⟩
/-- the terms of one cell, one after the other, on both sides -/
theorem cellLoop {α β : Type} (px : α → Nat → Int32) (pm : β → Nat → Int32) (E : α → β → Prop) (fX : Nat → α → α) (fM : Nat → β → β) (k c : Nat) (hk : k < 36)
    (hs : ∀ i a b, i < 4 → RX (pm b) (px a) → E a b → ¬ px a (k * 4 + i) = 0 → (RX (pm (fM (25 * k + 1 + 6 * i) b)) (px (fX (k * 4 + i) a)) ∧ E (fX (k * 4 + i) a) (fM (25 * k + 1 + 6 * i) b)) ∧ ∀ j, (px (fX (k * 4 + i) a) j = 0 ↔ px a j = 0))
    (hz : ∀ i a, i < 4 → px a (k * 4 + i) = 0 → fX (k * 4 + i) a = a) (a : α) (b : β) (h : RX (pm b) (px a)) (he : E a b) (hc : c = szN (px a) k) :
    (RX (pm (lp (fun i => fM (25 * k + 1 + 6 * i)) c 0 b)) (px (lp (fun i => fX (k * 4 + i)) 4 0 a)) ∧ E (lp (fun i => fX (k * 4 + i)) 4 0 a) (lp (fun i => fM (25 * k + 1 + 6 * i)) c 0 b)) ∧ ∀ j, (px (lp (fun i => fX (k * 4 + i)) 4 0 a) j = 0 ↔ px a j = 0) := by
  have hc4 : c ≤ 4 := by rw [hc]; exact szN_le _ _
  have hI := szN_iff (h k hk).2.1
  rw [← hc] at hI
  have h1 := lp_rel (f := fun i => fX (k * 4 + i)) (g := fun i => fM (25 * k + 1 + 6 * i)) (fun _ a' b' => (RX (pm b') (px a') ∧ E a' b') ∧ ∀ j, (px a' j = 0 ↔ px a j = 0)) c 0 a b ⟨⟨h, he⟩, fun _ => Iff.rfl⟩ (by
    intro i a' b' _ hi hr
    have h2 := hs i a' b' (by omega) hr.1.1 hr.1.2 (fun e => (hI i (by omega)).mp (by omega) ((hr.2 _).mp e))
    exact ⟨h2.1, fun j => (h2.2 j).trans (hr.2 j)⟩)
  have e4 : lp (fun i => fX (k * 4 + i)) 4 0 a = lp (fun i => fX (k * 4 + i)) c 0 a := by
    have e5 := lp_add (fun i => fX (k * 4 + i)) c (4 - c) 0 a
    rw [show c + (4 - c) = 4 by omega] at e5
    rw [e5]
    refine lp_id _ _ _ (fun i h2 h3 => hz i _ (by omega) ?_)
    refine (h1.2 _).mpr ?_
    exact Classical.byContradiction fun e => absurd ((hI i (by omega)).mpr e) (by omega)
  rw [e4]
  exact h1
theorem termLoop {α β : Type} (px : α → Nat → Int32) (pm : β → Nat → Int32) (E : α → β → Prop) (fX : Nat → α → α) (fM : Nat → β → β) (cn : Nat → Nat)
    (hs : ∀ k i a b, k < 36 → i < 4 → RX (pm b) (px a) → E a b → ¬ px a (k * 4 + i) = 0 → (RX (pm (fM (25 * k + 1 + 6 * i) b)) (px (fX (k * 4 + i) a)) ∧ E (fX (k * 4 + i) a) (fM (25 * k + 1 + 6 * i) b)) ∧ ∀ j, (px (fX (k * 4 + i) a) j = 0 ↔ px a j = 0))
    (hz : ∀ k i a, k < 36 → i < 4 → px a (k * 4 + i) = 0 → fX (k * 4 + i) a = a) (a : α) (b : β) (h : RX (pm b) (px a)) (he : E a b) (hc : mCn (pm b) cn) :
    (RX (pm (lp (fun k b => lp (fun i => fM (25 * k + 1 + 6 * i)) (cn k) 0 b) 36 0 b)) (px (lp fX 144 0 a)) ∧ E (lp fX 144 0 a) (lp (fun k b => lp (fun i => fM (25 * k + 1 + 6 * i)) (cn k) 0 b) 36 0 b)) ∧ ∀ j, (px (lp fX 144 0 a) j = 0 ↔ px a j = 0) := by
  have e := lp_mul fX 4 36 0 a
  rw [show 36 * 4 = 144 from rfl, Nat.zero_mul] at e
  rw [e]
  refine lp_rel (f := fun k a => lp (fun j => fX (k * 4 + j)) 4 0 a) (g := fun k b => lp (fun i => fM (25 * k + 1 + 6 * i)) (cn k) 0 b) (fun _ a' b' => (RX (pm b') (px a') ∧ E a' b') ∧ ∀ j, (px a' j = 0 ↔ px a j = 0)) 36 0 a b ⟨⟨h, he⟩, fun _ => Iff.rfl⟩ ?_
  intro k a' b' _ hk hr
  have hk' : k < 36 := by omega
  have hcn : cn k = szN (px a') k := by
    have h1 := (hc k hk').1
    rw [(h k hk').1.1, nI_eq (Nat.lt_of_le_of_lt (szN_le _ _) (by decide)) (Nat.lt_of_le_of_lt (hc k hk').2 (by decide))] at h1
    rw [← h1]
    exact szN_cong (fun i _ => (hr.2 _).symm)
  have h2 := cellLoop px pm E fX fM k (cn k) hk' (fun i a b hi => hs k i a b hk' hi) (fun i a hi => hz k i a hk' hi) a' b' hr.1.1 hr.1.2 hcn
  exact ⟨h2.1, fun j => (h2.2 j).trans (hr.2 j)⟩
