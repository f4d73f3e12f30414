theorem Rel_back {xs ms : ST} {L nx sz : Nat} (h : Rel xs ms L nx sz) : (xBack xs nx sz).1 = (mBack ms sz).1 ∧ ∃ nx' sz', Rel (xBack xs nx sz).2 (mBack ms sz).2 L nx' sz' := by
  unfold xBack mBack
  by_cases c1 : sz = 0
  · rw [if_pos c1, if_pos c1]; exact ⟨rfl, nx, sz, Rel_no h⟩
  · rw [if_neg c1, if_neg c1]
    refine ⟨rfl, (nx + 6 - 1) % 6, sz - 1, ?_⟩
    obtain ⟨a1, ⟨U, a2, a3⟩, b, c, ⟨d1, d2, d3, d4, d5⟩, e1⟩ := h
    have hR : RX (mBackG ms sz) (va_cpy (xs.2.1 4) (xs.2.1 2) ((nx + 6 - 1) % 6 * 144) 0 144) := by
      refine RX_cong (fun x hx => ?_) (fun x hx => ?_) (e1 (sz - 1) (by omega))
      · have h2 := copy_eq (fun i => ms.2.1 2 (900 * (sz - 1) + i)) 0 900 (ms.2.1 0) x
        rw [if_pos (by omega), Nat.sub_zero] at h2
        unfold mBackG
        rw [lp_cong (g := fun i p => upd p (0 + i) (ms.2.1 2 (900 * (sz - 1) + i))) 900 0 (ms.2.1 0) (fun j b _ _ => by rw [Nat.zero_add])]
        exact h2
      · show (if 0 ≤ x ∧ x < 0 + 144 then xs.2.1 4 ((nx + 6 - 1) % 6 * 144 + (x - 0)) else xs.2.1 2 x) = xs.2.1 4 ((nx + 6 - sz + (sz - 1)) % 6 * 144 + x)
        rw [if_pos (by omega), Nat.sub_zero, show nx + 6 - sz + (sz - 1) = nx + 6 - 1 by omega]
    obtain ⟨V', hV'⟩ := VS_ex (va_cpy (xs.2.1 4) (xs.2.1 2) ((nx + 6 - 1) % 6 * 144) 0 144)
    generalize mBackG ms sz = G at hR ⊢
    refine ⟨hR, ⟨V', hV', XC_new rfl (fun c hc => if_pos hc) a3.2.2⟩, b, c, ⟨rfl, Nat.mod_lt _ (by decide), rfl, rfl, by omega⟩, ?_⟩
    intro j hj
    have h2 := e1 j (by omega)
    have hb : ((nx + 6 - 1) % 6 + 6 - (sz - 1) + j) % 6 = (nx + 6 - sz + j) % 6 := by omega
    show RX (fun x => ms.2.1 2 (900 * j + x)) (fun x => xs.2.1 4 (((nx + 6 - 1) % 6 + 6 - (sz - 1) + j) % 6 * 144 + x))
    rw [hb]
    exact h2
theorem Rel_told {xs ms : ST} {L nx sz : Nat} (h : Rel xs ms L nx sz) : ∀ w, w < 5 → xTold xs (nI w) = (mTold ms w, xs) := by
  obtain ⟨a1, a2, ⟨b1, b2, b3, b4, b5⟩, ⟨c1, c2, c3⟩, ⟨d1, d2, d3, d4, d5⟩, e1⟩ := h
  intro w hw
  match w, hw with
  | 0, _ => show (xs.1 0, xs) = (ms.2.1 3 0, xs); rw [c1]
  | 1, _ => show (xs.1 1, xs) = (ms.2.1 3 1, xs); rw [c2]
  | 2, _ => show (xs.1 2, xs) = (ms.2.1 3 2, xs); rw [c3]
  | 3, _ => show (xs.1 3, xs) = (ms.1 1, xs); rw [b3, b4]
  | 4, _ => show (xs.1 6, xs) = (ms.1 0, xs); rw [d3, d4]
  | n + 5, h => exact absurd h (by omega)
theorem Rel_term {xs ms : ST} {L nx sz k i what : Nat} (h : Rel xs ms L nx sz) (hk : k < 36) (hi : i < 4) (hw : what < 6) : (i < szN (xs.2.1 2) k → xTerm xs k i what = (ms.2.1 0 (25 * k + 1 + 6 * i + what), xs)) ∧ (¬ i < szN (xs.2.1 2) k → xTerm xs k i what = (-2, xBad xs)) := by
  have hI := szN_iff (h.1 k hk).2.1 i hi
  unfold xTerm
  refine ⟨fun e => ?_, fun e => ?_⟩
  · have hz := hI.mp e
    rw [if_neg (show ¬ tm (xs.2.1 2) k i = 0 from hz), (h.1 k hk).1.2 i hi what hw]
    unfold V
    rw [if_neg hz]
    rfl
  · rw [if_pos (show tm (xs.2.1 2) k i = 0 from Classical.byContradiction fun e2 => e (hI.mpr e2))]
