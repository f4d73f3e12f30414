theorem Rel_clear {xs ms : ST} {L nx sz : Nat} (h : Rel xs ms L nx sz) : xs.1 3 = ms.1 1 ∧ Rel (sI xs 3 0) (sI ms 1 0) 0 nx sz := by
  obtain ⟨a1, ⟨U, a2, a3⟩, ⟨b1, b2, b3, b4, b5⟩, c, d, e1⟩ := h
  exact ⟨b3.trans b4.symm, a1, ⟨U, a2, a3⟩, ⟨b1, fun k hk => absurd hk (by omega), rfl, rfl, by omega⟩, c, d, e1⟩
theorem isW127 {c : Int32} (h : xIsW c 0 127 = true) : ∃ b, b < 128 ∧ c = nI b := by
  unfold xIsW at h
  simp only [Bool.and_eq_true, Bool.not_eq_true', decide_eq_false_iff_not] at h
  obtain ⟨j, hj, e⟩ := nI_of2 (M := 127) (n := 127) rfl h.1 (nlt_le h.2)
  exact ⟨j, by omega, e⟩
theorem Rel_type {xs ms : ST} {L nx sz : Nat} {c : Int32} (h : Rel xs ms L nx sz) : (xType xs L c).1 = (mType ms L c).1 ∧ ∃ L', Rel (xType xs L c).2 (mType ms L c).2 L' nx sz := by
  unfold xType mType
  by_cases c1 : xIsW c 0 127 = false
  · rw [if_pos c1, if_pos c1]; exact ⟨rfl, L, Rel_bad h⟩
  · rw [if_neg c1, if_neg c1]
    have hL := h.2.2.1.2.2.2.2
    by_cases c2 : L = 60
    · rw [if_pos (show 60 ≤ L by omega), if_pos c2]; exact ⟨rfl, L, Rel_full h⟩
    · rw [if_neg (show ¬ 60 ≤ L by omega), if_neg c2]
      refine ⟨rfl, L + 1, ?_⟩
      obtain ⟨a1, ⟨U, a2, a3⟩, ⟨b1, b2, b3, b4, b5⟩, cc, d, e1⟩ := h
      have c3 : xIsW c 0 127 = true := by cases hx : xIsW c 0 127 with | false => exact absurd hx c1 | true => rfl
      obtain ⟨b, hb, eb⟩ := isW127 c3
      refine ⟨a1, ⟨U, a2, a3⟩, ⟨?_, fun k hk => ?_, rfl, rfl, by omega⟩, cc, d, e1⟩
      · show upd (xs.2.1 0) L c = upd (ms.2.1 4) L c
        rw [b1]
      · show ∃ b, b < 128 ∧ upd (xs.2.1 0) L c k = nI b
        by_cases e : k = L
        · rw [e, upd_same]; exact ⟨b, hb, eb⟩
        · rw [upd_other _ _ e]; exact b2 k (by omega)
theorem Rel_users {xs ms : ST} {L nx sz c r : Nat} (h : Rel xs ms L nx sz) (hc : c < 6) (hr : r < 6) : mCn (ms.2.1 0) (fun k => szN (xs.2.1 2) k) ∧ cnt (rfB (xs.2.1 2) c r) 144 0 0 = mUs (ms.2.1 0) c r (fun k => szN (xs.2.1 2) k) :=
  ⟨RX_cn h.1, RX_us hc hr h.1 (RX_cn h.1)⟩
theorem Rel_shown {xs ms : ST} {L nx sz k : Nat} (h : Rel xs ms L nx sz) (hk : k < 36) : ∃ n, ms.2.1 0 (25 * k) = nI n ∧ n ≤ 4 ∧ (∀ i : Nat, (if (pgW (xs.2.1 2) k (xs.2.1 10)).1 ≤ i then (-1 : Int32) else (pgW (xs.2.1 2) k (xs.2.1 10)).2 i) = (if (mwW ms (25 * k) n).1 ≤ i then -1 else (mwW ms (25 * k) n).2 i)) ∧ Rel (sP xs (pgW (xs.2.1 2) k (xs.2.1 10))) (sQ ms (mwW ms (25 * k) n)) L nx sz := by
  refine ⟨szN (xs.2.1 2) k, (h.1 k hk).1.1, szN_le _ _, ?_, ?_⟩
  · have hp := RX_shown h.1 hk (h.1 k hk).1.1 (szN_le _ _) (xs.2.1 10) (ms.2.1 6)
    intro i
    have e1 : (pgW (xs.2.1 2) k (xs.2.1 10)).1 = (mwW ms (25 * k) (szN (xs.2.1 2) k)).1 := hp.1
    by_cases c1 : (pgW (xs.2.1 2) k (xs.2.1 10)).1 ≤ i
    · rw [if_pos c1, if_pos (by rw [← e1]; exact c1)]
    · rw [if_neg c1, if_neg (by rw [← e1]; exact c1)]; exact hp.2 i (by omega)
  · exact Rel_keep h (fun U _ hX => XC_cong hX rfl rfl rfl rfl rfl rfl) rfl rfl rfl rfl rfl rfl rfl (fun j hj _ => by show (if j = 10 then _ else xs.1 j) = _; exact if_neg (by omega)) (fun j hj => by show (if j = 4 then _ else ms.1 j) = _; exact if_neg (by omega))
theorem Rel_put {xs ms : ST} {L nx sz k : Nat} (h : Rel xs ms L nx sz) (hk : k < 36) : (xPut xs (xs.2.1 0) L nx sz k).1 = (mPut ms (xs.2.1 0) L sz (25 * k)).1 ∧ ∃ nx' sz', Rel (xPut xs (xs.2.1 0) L nx sz k).2 (mPut ms (xs.2.1 0) L sz (25 * k)).2 L nx' sz' := by
  have ht := rd_all h.2.2.1.2.1 xs ms
  unfold xPut mPut
  rcases ht with ⟨t1, t2, t3⟩ | ⟨n, n1, n4, t1, t2, t3⟩
  · rw [if_pos t1, t2, if_neg (show ¬ (false = true) from Bool.false_ne_true), t3]
    refine ⟨rfl, nx, sz, ?_⟩
    exact Rel_keep h (fun U _ hX => XC_cong hX rfl rfl rfl rfl rfl rfl) rfl rfl rfl rfl rfl rfl rfl (fun j hj h4 => by show (if j = 4 then _ else if j = 4 then _ else xs.1 j) = _; rw [if_neg h4, if_neg h4]) (fun j hj => by show (if j = 3 then _ else if j = 2 then _ else ms.1 j) = _; rw [if_neg (by omega), if_neg (by omega)])
  · have hne : ¬ (xRd xs (xs.2.1 0) L).1 = 0 := by rw [t1]; exact nI_ne0 (by omega) (by omega)
    rw [if_neg hne, t2, if_pos rfl]
    have hc := RI_cell n4 t3
    refine ⟨t1.trans t3.1.symm, (nx + 1) % 6, min (sz + 1) 6, ?_⟩
    have h1 : Rel (xRdS xs (xs.2.1 0) L) (mS ms (mRd ms (xs.2.1 0) L).2) L nx sz :=
      Rel_keep h (fun U _ hX => XC_cong hX rfl rfl rfl rfl rfl rfl) rfl rfl rfl rfl rfl rfl rfl (fun j hj h4 => by show (if j = 4 then _ else xs.1 j) = _; rw [if_neg h4]) (fun j hj => by show (if j = 3 then _ else if j = 2 then _ else ms.1 j) = _; rw [if_neg (by omega), if_neg (by omega)])
    have hR : RX (mPutG ms (xs.2.1 0) L (25 * k)) (va_cpy (xRd xs (xs.2.1 0) L).2.2 (xs.2.1 2) 0 (k * 4) 4) := RX_put h.1 hc.1 hc.2
    exact Rel_sheet1 h1 hR
