/-! states: what a change of one place leaves -/
theorem vu_same {α : Type} (f : Nat → α) (k : Nat) (v : α) : va_up f k v k = v := if_pos rfl
theorem vu_other {α : Type} (f : Nat → α) {k j : Nat} (v : α) (h : j ≠ k) : va_up f k v j = f j := if_neg h
theorem vu_self {α : Type} {f : Nat → α} {k : Nat} {v : α} (h : f k = v) : va_up f k v = f := by
  funext j
  unfold va_up
  split
  · rename_i e; rw [e]; exact h.symm
  · rfl
theorem vu_up {α : Type} (f : Nat → α) (k : Nat) (v u : α) : va_up (va_up f k v) k u = va_up f k u := by
  funext j
  unfold va_up
  split <;> rfl
theorem upd_same (f : Nat → Int32) (k : Nat) (v : Int32) : upd f k v k = v := if_pos rfl
theorem upd_other (f : Nat → Int32) {k j : Nat} (v : Int32) (h : j ≠ k) : upd f k v j = f j := if_neg h
theorem sI_1 (st : ST) (k j : Nat) (v : Int32) : (sI st k v).1 j = if j = k then v else st.1 j := rfl
theorem sI_2 (st : ST) (k : Nat) (v : Int32) : (sI st k v).2 = st.2 := rfl
theorem sA_1 (st : ST) (k : Nat) (f : Nat → Int32) : (sA st k f).1 = st.1 := rfl
theorem sA_21 (st : ST) (k j : Nat) (f : Nat → Int32) : (sA st k f).2.1 j = if j = k then f else st.2.1 j := rfl
theorem sA_22 (st : ST) (k : Nat) (f : Nat → Int32) : (sA st k f).2.2 = st.2.2 := rfl
theorem sL_1 (st : ST) (v : Int64) : (sL st v).1 = st.1 := rfl
theorem sL_21 (st : ST) (v : Int64) : (sL st v).2.1 = st.2.1 := rfl
theorem sL_22 (st : ST) (v : Int64) : (sL st v).2.2 = v := rfl
theorem sI_self {st : ST} {k : Nat} {v : Int32} (h : st.1 k = v) : sI st k v = st := by
  show (va_up st.1 k v, st.2) = st
  rw [vu_self h]
theorem sA_self {st : ST} {k : Nat} {f : Nat → Int32} (h : st.2.1 k = f) : sA st k f = st := by
  show (st.1, va_up st.2.1 k f, st.2.2) = st
  rw [vu_self h]
theorem sI_sI (st : ST) (k : Nat) (v u : Int32) : sI (sI st k v) k u = sI st k u := by
  show (va_up (va_up st.1 k v) k u, st.2) = (va_up st.1 k u, st.2)
  rw [vu_up]
theorem sA_sA (st : ST) (k : Nat) (f g : Nat → Int32) : sA (sA st k f) k g = sA st k g := by
  show (st.1, va_up (va_up st.2.1 k f) k g, st.2.2) = (st.1, va_up st.2.1 k g, st.2.2)
  rw [vu_up]
theorem sA_sI (st : ST) (k j : Nat) (f : Nat → Int32) (v : Int32) : sA (sI st j v) k f = sI (sA st k f) j v := rfl
theorem st_ext {a b : ST} (h1 : ∀ j, a.1 j = b.1 j) (h2 : ∀ j, a.2.1 j = b.2.1 j) (h3 : a.2.2 = b.2.2) : a = b := by
  obtain ⟨a1, a2, a3⟩ := a
  obtain ⟨b1, b2, b3⟩ := b
  have e1 : a1 = b1 := funext h1
  have e2 : a2 = b2 := funext h2
  have e3 : a3 = b3 := h3
  rw [e1, e2, e3]
theorem sI_comm (st : ST) {k j : Nat} (h : k ≠ j) (v u : Int32) : sI (sI st k v) j u = sI (sI st j u) k v := by
  apply st_ext
  · intro i
    simp only [sI_1]
    by_cases h1 : i = j
    · subst h1; simp [Ne.symm h]
    · simp [h1]
  · intro i; rfl
  · rfl
theorem sA_comm (st : ST) {k j : Nat} (h : k ≠ j) (f g : Nat → Int32) : sA (sA st k f) j g = sA (sA st j g) k f := by
  apply st_ext
  · intro i; rfl
  · intro i
    simp only [sA_21]
    by_cases h1 : i = j
    · subst h1; simp [Ne.symm h]
    · simp [h1]
  · rfl
/-- a loop with a counter: body f at i, i+1 .. -/
def lp {α : Type} (f : Nat → α → α) : Nat → Nat → α → α
  | 0, _, a => a
  | n + 1, i, a => lp f n (i + 1) (f i a)
theorem lp_0 {α : Type} (f : Nat → α → α) (i : Nat) (a : α) : lp f 0 i a = a := rfl
theorem lp_s {α : Type} (f : Nat → α → α) (n i : Nat) (a : α) : lp f (n + 1) i a = lp f n (i + 1) (f i a) := rfl
/-- what holds at the start and is kept by the body holds behind a loop -/
theorem lp_inv {α : Type} {f : Nat → α → α} (P : Nat → α → Prop) : ∀ (n i : Nat) (a : α), P i a → (∀ j b, i ≤ j → j < i + n → P j b → P (j + 1) (f j b)) → P (i + n) (lp f n i a)
  | 0, _, _, h, _ => h
  | n + 1, i, a, h, hs => by
    have h1 := lp_inv P n (i + 1) (f i a) (hs i a (Nat.le_refl i) (by omega) h) (fun j b h2 h3 h4 => hs j b (by omega) (by omega) h4)
    rw [show i + 1 + n = i + (n + 1) by omega] at h1
    exact h1
theorem lp_cong {α : Type} {f g : Nat → α → α} : ∀ (n i : Nat) (a : α), (∀ j b, i ≤ j → j < i + n → f j b = g j b) → lp f n i a = lp g n i a
  | 0, _, _, _ => rfl
  | n + 1, i, a, h => by
    rw [lp_s, lp_s, h i a (Nat.le_refl i) (by omega)]
    exact lp_cong n (i + 1) _ (fun j b h1 h2 => h j b (by omega) (by omega))
