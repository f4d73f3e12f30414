theorem all6 {P : Nat → Prop} (h0 : P 0) (h1 : P 1) (h2 : P 2) (h3 : P 3) (h4 : P 4) (h5 : P 5) : ∀ w, w < 6 → P w := by
  intro w hw
  match w, hw with
  | 0, _ => exact h0
  | 1, _ => exact h1
  | 2, _ => exact h2
  | 3, _ => exact h3
  | 4, _ => exact h4
  | 5, _ => exact h5
  | n + 6, h => exact absurd h (by omega)
def eP (f c r : Nat) : Int32 := en (nI 2) (nI f) (nI c) (nI r) (nI 0) (nI 0)
def eB (f a b c d : Nat) : Int32 := en (nI 3) (nI f) (nI a) (nI b) (nI c) (nI d)
def eN (n : Nat) : Int32 := tOfNum (nI n)
def v6 (a b c d e f : Int32) (w : Nat) : Int32 := if w = 0 then a else if w = 1 then b else if w = 2 then c else if w = 3 then d else if w = 4 then e else f
def V (t : Int32) (w : Nat) : Int32 := if t = 0 then 0 else xTV t w
def Wt (t : Int32) : Prop := t = 0 ∨ t = 4 ∨ (∃ n, n < 1000 ∧ t = eN n) ∨ (∃ f c r, f < 4 ∧ c < 6 ∧ r < 6 ∧ t = eP f c r) ∨ (∃ f a b c d, f < 16 ∧ a ≤ c ∧ b ≤ d ∧ c < 6 ∧ d < 6 ∧ t = eB f a b c d)
section EP
variable {f c r a b d : Nat}
theorem eP_kind : tKind (eP f c r) = 2 := en_kind (sm3 (by decide))
theorem eP_fix (hf : f < 16) : tFix (eP f c r) = nI f := en_fix (sm3 (by decide)) (sm4 hf)
theorem eP_co0 (hf : f < 16) (hc : c < 8) (hr : r < 8) : tCo (eP f c r) 0 = nI c := en_co0 (sm3 (by decide)) (sm4 hf) (sm3 hc) (sm3 hr) (sm3 (by decide)) (sm3 (by decide))
theorem eP_co1 (hf : f < 16) (hc : c < 8) (hr : r < 8) : tCo (eP f c r) 1 = nI r := en_co1 (sm3 (by decide)) (sm4 hf) (sm3 hc) (sm3 hr) (sm3 (by decide)) (sm3 (by decide))
theorem eP_co2 (hf : f < 16) (hc : c < 8) (hr : r < 8) : tCo (eP f c r) 2 = 0 := en_co2 (sm3 (by decide)) (sm4 hf) (sm3 hc) (sm3 hr) (sm3 (by decide)) (sm3 (by decide))
theorem eP_co3 (hf : f < 16) (hc : c < 8) (hr : r < 8) : tCo (eP f c r) 3 = 0 := en_co3 (sm3 (by decide)) (sm4 hf) (sm3 hc) (sm3 hr) (sm3 (by decide)) (sm3 (by decide))
theorem eP_w0 (hf : f < 16) (hc : c < 8) (hr : r < 8) (ha : a < 8) : tWith (eP f c r) 0 (nI a) = eP f a r := en_with0 (sm3 (by decide)) (sm4 hf) (sm3 hc) (sm3 hr) (sm3 (by decide)) (sm3 (by decide)) (sm3 ha)
theorem eP_w1 (hf : f < 16) (hc : c < 8) (hr : r < 8) (ha : a < 8) : tWith (eP f c r) 1 (nI a) = eP f c a := en_with1 (sm3 (by decide)) (sm4 hf) (sm3 hc) (sm3 hr) (sm3 (by decide)) (sm3 (by decide)) (sm3 ha)
theorem eP_ref : tRef (eP f c r) = true := by unfold tRef; rw [eP_kind]; rfl
theorem eB_kind : tKind (eB f a b c d) = 3 := en_kind (sm3 (by decide))
theorem eB_fix (hf : f < 16) : tFix (eB f a b c d) = nI f := en_fix (sm3 (by decide)) (sm4 hf)
theorem eB_ref : tRef (eB f a b c d) = true := by unfold tRef; rw [eB_kind]; rfl
theorem eB_co0 (hf : f < 16) (ha : a < 8) (hb : b < 8) (hc : c < 8) (hd : d < 8) : tCo (eB f a b c d) 0 = nI a := en_co0 (sm3 (by decide)) (sm4 hf) (sm3 ha) (sm3 hb) (sm3 hc) (sm3 hd)
theorem eB_co1 (hf : f < 16) (ha : a < 8) (hb : b < 8) (hc : c < 8) (hd : d < 8) : tCo (eB f a b c d) 1 = nI b := en_co1 (sm3 (by decide)) (sm4 hf) (sm3 ha) (sm3 hb) (sm3 hc) (sm3 hd)
theorem eB_co2 (hf : f < 16) (ha : a < 8) (hb : b < 8) (hc : c < 8) (hd : d < 8) : tCo (eB f a b c d) 2 = nI c := en_co2 (sm3 (by decide)) (sm4 hf) (sm3 ha) (sm3 hb) (sm3 hc) (sm3 hd)
theorem eB_co3 (hf : f < 16) (ha : a < 8) (hb : b < 8) (hc : c < 8) (hd : d < 8) : tCo (eB f a b c d) 3 = nI d := en_co3 (sm3 (by decide)) (sm4 hf) (sm3 ha) (sm3 hb) (sm3 hc) (sm3 hd)
theorem eB_w0 {x : Nat} (hf : f < 16) (ha : a < 8) (hb : b < 8) (hc : c < 8) (hd : d < 8) (hx : x < 8) : tWith (eB f a b c d) 0 (nI x) = eB f x b c d := en_with0 (sm3 (by decide)) (sm4 hf) (sm3 ha) (sm3 hb) (sm3 hc) (sm3 hd) (sm3 hx)
theorem eB_w1 {x : Nat} (hf : f < 16) (ha : a < 8) (hb : b < 8) (hc : c < 8) (hd : d < 8) (hx : x < 8) : tWith (eB f a b c d) 1 (nI x) = eB f a x c d := en_with1 (sm3 (by decide)) (sm4 hf) (sm3 ha) (sm3 hb) (sm3 hc) (sm3 hd) (sm3 hx)
theorem eB_w2 {x : Nat} (hf : f < 16) (ha : a < 8) (hb : b < 8) (hc : c < 8) (hd : d < 8) (hx : x < 8) : tWith (eB f a b c d) 2 (nI x) = eB f a b x d := en_with2 (sm3 (by decide)) (sm4 hf) (sm3 ha) (sm3 hb) (sm3 hc) (sm3 hd) (sm3 hx)
theorem eB_w3 {x : Nat} (hf : f < 16) (ha : a < 8) (hb : b < 8) (hc : c < 8) (hd : d < 8) (hx : x < 8) : tWith (eB f a b c d) 3 (nI x) = eB f a b c x := en_with3 (sm3 (by decide)) (sm4 hf) (sm3 ha) (sm3 hb) (sm3 hc) (sm3 hd) (sm3 hx)
theorem eP_ne0 : ¬ eP f c r = 0 := fun h => absurd (h ▸ eP_kind (f := f) (c := c) (r := r)) (by decide)
theorem eP_ne4 : ¬ eP f c r = 4 := fun h => absurd (h ▸ eP_kind (f := f) (c := c) (r := r)) (by decide)
theorem eB_ne0 : ¬ eB f a b c d = 0 := fun h => absurd (h ▸ eB_kind (f := f) (a := a) (b := b) (c := c) (d := d)) (by decide)
theorem eB_ne4 : ¬ eB f a b c d = 4 := fun h => absurd (h ▸ eB_kind (f := f) (a := a) (b := b) (c := c) (d := d)) (by decide)
theorem eP_le0 (hf : f < 16) (hc : c < 8) (hr : r < 8) : tLeast (eP f c r) 0 = nI c := eP_co0 hf hc hr
theorem eP_le1 (hf : f < 16) (hc : c < 8) (hr : r < 8) : tLeast (eP f c r) 1 = nI r := eP_co1 hf hc hr
theorem eP_gr0 (hf : f < 16) (hc : c < 8) (hr : r < 8) : tGreat (eP f c r) 0 = nI c := by unfold tGreat; rw [eP_kind, if_neg (by decide)]; exact eP_co0 hf hc hr
theorem eP_gr1 (hf : f < 16) (hc : c < 8) (hr : r < 8) : tGreat (eP f c r) 1 = nI r := by unfold tGreat; rw [eP_kind, if_neg (by decide)]; exact eP_co1 hf hc hr
theorem eB_le0 (hf : f < 16) (ha : a < 8) (hb : b < 8) (hc : c < 8) (hd : d < 8) : tLeast (eB f a b c d) 0 = nI a := eB_co0 hf ha hb hc hd
theorem eB_le1 (hf : f < 16) (ha : a < 8) (hb : b < 8) (hc : c < 8) (hd : d < 8) : tLeast (eB f a b c d) 1 = nI b := eB_co1 hf ha hb hc hd
theorem eB_gr0 (hf : f < 16) (ha : a < 8) (hb : b < 8) (hc : c < 8) (hd : d < 8) : tGreat (eB f a b c d) 0 = nI c := by unfold tGreat; rw [eB_kind, if_pos rfl]; exact eB_co2 hf ha hb hc hd
theorem eB_gr1 (hf : f < 16) (ha : a < 8) (hb : b < 8) (hc : c < 8) (hd : d < 8) : tGreat (eB f a b c d) 1 = nI d := by unfold tGreat; rw [eB_kind, if_pos rfl]; exact eB_co3 hf ha hb hc hd
theorem V_P (hf : f < 16) (hc : c < 8) (hr : r < 8) : ∀ w, w < 6 → V (eP f c r) w = v6 1 (nI c) (nI r) 0 0 (nI f) w := by
  apply all6 <;> (unfold V; rw [if_neg eP_ne0]; unfold xTV; rw [eP_kind])
  · rfl
  · exact eP_co0 hf hc hr
  · exact eP_co1 hf hc hr
  · exact eP_co2 hf hc hr
  · exact eP_co3 hf hc hr
  · exact eP_fix hf
theorem V_B (hf : f < 16) (ha : a < 8) (hb : b < 8) (hc : c < 8) (hd : d < 8) : ∀ w, w < 6 → V (eB f a b c d) w = v6 2 (nI a) (nI b) (nI c) (nI d) (nI f) w := by
  apply all6 <;> (unfold V; rw [if_neg eB_ne0]; unfold xTV; rw [eB_kind])
  · rfl
  · exact eB_co0 hf ha hb hc hd
  · exact eB_co1 hf ha hb hc hd
  · exact eB_co2 hf ha hb hc hd
  · exact eB_co3 hf ha hb hc hd
  · exact eB_fix hf
end EP
theorem eN_all : ∀ n, n < 1000 → tKind (eN n) = 1 ∧ tNum (eN n) = nI n ∧ tFix (eN n) = 0 := by decide +kernel
theorem eN_kind {n : Nat} (h : n < 1000) : tKind (eN n) = 1 := (eN_all n h).1
theorem eN_num {n : Nat} (h : n < 1000) : tNum (eN n) = nI n := (eN_all n h).2.1
theorem eN_fix {n : Nat} (h : n < 1000) : tFix (eN n) = 0 := (eN_all n h).2.2
theorem eN_ref {n : Nat} (h : n < 1000) : tRef (eN n) = false := by unfold tRef; rw [eN_kind h]; rfl
theorem eN_ne0 {n : Nat} (h : n < 1000) : ¬ eN n = 0 := fun e => absurd (e ▸ eN_kind h) (by decide)
theorem eN_ne4 {n : Nat} (h : n < 1000) : ¬ eN n = 4 := fun e => absurd (e ▸ eN_kind h) (by decide)
theorem V_N {n : Nat} (h : n < 1000) : ∀ w, w < 6 → V (eN n) w = v6 0 (nI n) 0 0 0 0 w := by
  apply all6 <;> (unfold V; rw [if_neg (eN_ne0 h)]; unfold xTV; rw [eN_kind h])
  · rfl
  · exact eN_num h
  · rfl
  · rfl
  · rfl
  · exact eN_fix h
theorem V_4 : ∀ w, w < 6 → V 4 w = v6 3 0 0 0 0 0 w := by decide +kernel
theorem V_0 (w : Nat) : V 0 w = 0 := if_pos rfl
theorem Wt_0 : Wt 0 := Or.inl rfl
theorem Wt_4 : Wt 4 := Or.inr (Or.inl rfl)
theorem Wt_N {n : Nat} (h : n < 1000) : Wt (eN n) := Or.inr (Or.inr (Or.inl ⟨n, h, rfl⟩))
theorem Wt_P {f c r : Nat} (hf : f < 4) (hc : c < 6) (hr : r < 6) : Wt (eP f c r) := Or.inr (Or.inr (Or.inr (Or.inl ⟨f, c, r, hf, hc, hr, rfl⟩)))
theorem Wt_B {f a b c d : Nat} (hf : f < 16) (h1 : a ≤ c) (h2 : b ≤ d) (hc : c < 6) (hd : d < 6) : Wt (eB f a b c d) := Or.inr (Or.inr (Or.inr (Or.inr ⟨f, a, b, c, d, hf, h1, h2, hc, hd, rfl⟩)))
theorem Wt_cases {t : Int32} {C : Int32 → Prop} (h : Wt t) (h0 : C 0) (h4 : C 4) (hN : ∀ n, n < 1000 → C (eN n)) (hP : ∀ f c r, f < 4 → c < 6 → r < 6 → C (eP f c r)) (hB : ∀ f a b c d, f < 16 → a ≤ c → b ≤ d → c < 6 → d < 6 → C (eB f a b c d)) : C t := by
  rcases h with rfl | rfl | ⟨n, h, rfl⟩ | ⟨f, c, r, h1, h2, h3, rfl⟩ | ⟨f, a, b, c, d, h1, h2, h3, h4, h5, rfl⟩
  · exact h0
  · exact h4
  · exact hN n h
  · exact hP f c r h1 h2 h3
  · exact hB f a b c d h1 h2 h3 h4 h5
