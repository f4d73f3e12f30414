/-! each call on both sides: the same answer, and the states related again -/
theorem isW_nI {x : Int32} {a b : Nat} (ha : a < 2 ^ 31) (hb : b < 2 ^ 31) (h : xIsW x (nI a) (nI b) = true) : ∃ j, a ≤ j ∧ j ≤ b ∧ x = nI j := by
  unfold xIsW at h
  simp only [Bool.and_eq_true, Bool.not_eq_true', decide_eq_false_iff_not] at h
  obtain ⟨h1, h2⟩ := h
  have h0 : ¬ x < 0 := fun q => h1 (Int32.lt_of_lt_of_le q (nI_pos' ha))
  obtain ⟨j, hj, e⟩ := nI_of h0
  subst e
  refine ⟨j, ?_, ?_, rfl⟩
  · exact Nat.le_of_not_lt (fun q => h1 ((nI_ltI hj ha).mpr q))
  · exact Nat.le_of_not_lt (fun q => h2 ((nI_ltI hb hj).mpr q))
theorem isPl_nI {c r : Int32} (h : xIsPl c r = true) : ∃ a b, a < 6 ∧ b < 6 ∧ c = nI a ∧ r = nI b := by
  unfold xIsPl at h
  rw [Bool.and_eq_true] at h
  obtain ⟨a, _, ha, ea⟩ := isW_nI (a := 0) (b := 5) (by decide) (by decide) h.1
  obtain ⟨b, _, hb, eb⟩ := isW_nI (a := 0) (b := 5) (by decide) (by decide) h.2
  exact ⟨a, b, by omega, by omega, ea, eb⟩
theorem isAr_nI {c r w h : Int32} (q : xIsAr c r w h = true) : ∃ a b x y, c = nI a ∧ r = nI b ∧ w = nI x ∧ h = nI y ∧ 1 ≤ x ∧ 1 ≤ y ∧ a + x ≤ 6 ∧ b + y ≤ 6 := by
  unfold xIsAr at q
  rw [Bool.and_eq_true, Bool.and_eq_true] at q
  obtain ⟨a, b, ha, hb, ea, eb⟩ := isPl_nI q.1
  subst ea
  subst eb
  have e1 : (6 : Int32) - nI a = nI (6 - a) := nI_sub (a := 6) (by omega)
  have e2 : (6 : Int32) - nI b = nI (6 - b) := nI_sub (a := 6) (by omega)
  rw [e1, e2] at q
  obtain ⟨x, hx1, hx, ex⟩ := isW_nI (a := 1) (b := 6 - a) (by decide) (by omega) q.2.1
  obtain ⟨y, hy1, hy, ey⟩ := isW_nI (a := 1) (b := 6 - b) (by decide) (by omega) q.2.2
  exact ⟨a, b, x, y, rfl, rfl, ex, ey, hx1, hy1, by omega, by omega⟩
theorem okC_nI {way a n : Int32} (h : xOkC way a n = true) : ∃ w x y, way = nI w ∧ a = nI x ∧ n = nI y ∧ w < 2 ∧ x < 6 ∧ 1 ≤ y ∧ y ≤ 6 := by
  unfold xOkC at h
  rw [Bool.and_eq_true, Bool.and_eq_true] at h
  obtain ⟨w, _, hw, ew⟩ := isW_nI (a := 0) (b := 1) (by decide) (by decide) h.1
  obtain ⟨x, _, hx, ex⟩ := isW_nI (a := 0) (b := 5) (by decide) (by decide) h.2.1
  obtain ⟨y, hy1, hy, ey⟩ := isW_nI (a := 1) (b := 6) (by decide) (by decide) h.2.2
  exact ⟨w, x, y, ew, ex, ey, by omega, by omega, hy1, hy⟩
theorem okG_nI {way a n : Int32} (h : xOkG way a n = true) : ∃ w x y, way = nI w ∧ a = nI x ∧ n = nI y ∧ w < 2 ∧ x < 6 ∧ 1 ≤ y ∧ x + y ≤ 6 := by
  unfold xOkG at h
  rw [Bool.and_eq_true, Bool.and_eq_true] at h
  obtain ⟨w, _, hw, ew⟩ := isW_nI (a := 0) (b := 1) (by decide) (by decide) h.1
  obtain ⟨x, _, hx, ex⟩ := isW_nI (a := 0) (b := 5) (by decide) (by decide) h.2.1
  subst ex
  have e1 : (6 : Int32) - nI x = nI (6 - x) := nI_sub (a := 6) (by omega)
  rw [e1] at h
  obtain ⟨y, hy1, hy, ey⟩ := isW_nI (a := 1) (b := 6 - x) (by decide) (by omega) h.2.2
  exact ⟨w, x, y, ew, rfl, ey, by omega, by omega, hy1, by omega⟩
theorem isW_top {i : Int32} {n : Nat} (hn : n ≤ 4) (h : xIsW i 0 (nI n - 1) = true) : ∃ j, j < n ∧ i = nI j := by
  rcases Nat.eq_zero_or_pos n with e | e
  · subst e
    exfalso
    unfold xIsW at h
    simp only [Bool.and_eq_true, Bool.not_eq_true', decide_eq_false_iff_not] at h
    obtain ⟨j, hj, e⟩ := nI_of h.1
    subst e
    refine h.2 (Int32.lt_iff_toInt_lt.mpr ?_)
    rw [nI_toInt hj, show (nI 0 - 1).toInt = -1 from rfl]
    omega
  · have e1 : nI n - 1 = nI (n - 1) := nI_sub (b := 1) e
    rw [e1] at h
    obtain ⟨j, _, hj, ej⟩ := isW_nI (a := 0) (b := n - 1) (by decide) (by omega) h
    exact ⟨j, by omega, ej⟩
theorem isW_topN {j n : Nat} (hn : n ≤ 4) (hj : j < n) : xIsW (nI j) 0 (nI n - 1) = true := by
  have e1 : nI n - 1 = nI (n - 1) := nI_sub (b := 1) (by omega)
  rw [e1]
  exact xIsW_nI (a := 0) (by omega) (by omega) (by omega)
def PO (l : Launch) (G : GM) (yx : MethodName) (bx : ByteArray) (nX : Nat) (ym : MethodName) (bm : ByteArray) (nM : Nat) (As : List Value) (xs ms : ST) : Prop :=
  ∃ (ri : Int32) (xs1 ms1 : ST) (L n1 z1 kx km mc mt : Nat), (kx ≤ 100 ∧ km ≤ 100 ∧ mc ≤ 2 ∧ mt ≤ 8) ∧ (∀ (ad : Nat → Nat) (ex : va_W), XMi l G yx bx nX (some .int) kx mc mt (.ref (ad 0) :: As) (XW G ad xs ++ ex) ri (XW G ad xs1 ++ ex)) ∧
    (∀ (ad : Nat → Nat) (ex : va_W), MMi l G ym bm nM (some .int) km (.ref (ad 0) :: As) ad ex ms ri ms1) ∧ Rel xs1 ms1 L n1 z1
theorem PO_mk {l : Launch} {G : GM} {yx : MethodName} {bx : ByteArray} {nX : Nat} {ym : MethodName} {bm : ByteArray} {nM : Nat} {As : List Value} {xs ms : ST} (ri : Int32) {xs1 ms1 : ST} {L n1 z1 : Nat} (kx km : Nat) (hr : Rel xs1 ms1 L n1 z1) (h1 : kx ≤ 100) (h2 : km ≤ 100)
    (hX : ∀ (ad : Nat → Nat) (ex : va_W), XXi l G yx bx nX (some .int) kx (.ref (ad 0) :: As) ad ex xs ri xs1) (hM : ∀ (ad : Nat → Nat) (ex : va_W), MMi l G ym bm nM (some .int) km (.ref (ad 0) :: As) ad ex ms ri ms1) : PO l G yx bx nX ym bm nM As xs ms :=
  ⟨ri, xs1, ms1, L, n1, z1, kx, km, 0, 0, ⟨h1, h2, Nat.zero_le _, Nat.zero_le _⟩, hX, hM, hr⟩
theorem find_N {g : Nat → Int32} {s : ST} {k N : Nat} (hN : N = Wb 36) (hR : RX (s.2.1 0) g) (hk : k < 36) : FindOk s k N := by
  obtain ⟨U, hU⟩ := VS_ex g
  rw [hN]
  exact (find_all hR hU hk).1
section PAIRS
variable {l : Launch} {G : GM} {xs ms : ST} {L nx sz : Nat}
theorem p_type (c : Int32) (h : Rel xs ms L nx sz) : PO l G yX8_type cX8_type 2 yX9_type cX9_type 2 [.int c] xs ms := by
  obtain ⟨hT0, hTB, hx3, hm1, hL⟩ := h.2.2.1
  obtain ⟨e, L', hr⟩ := Rel_type (c := c) h
  refine PO_mk (xType xs L c).1 1 1 hr (by decide) (by decide) (fun ad ex => c_X8_type l G ad ex xs c L hx3 hL) (fun ad ex => ?_)
  rw [e]
  exact c_X9_type l G ad ex ms c L hm1 hL
theorem p_clear (h : Rel xs ms L nx sz) : PO l G yX8_clear cX8_clear 1 yX9_clear cX9_clear 2 [] xs ms := by
  obtain ⟨e, hr⟩ := Rel_clear h
  refine PO_mk (xs.1 3) 1 0 hr (by decide) (by decide) (fun ad ex => c_X8_clear l G ad ex xs) (fun ad ex => ?_)
  rw [e]
  exact c_X9_clear l G ad ex ms
theorem p_back (h : Rel xs ms L nx sz) : PO l G yX8_back cX8_back 1 yX9_back cX9_back 2 [] xs ms := by
  obtain ⟨hx5, hn6, hx6, hm0, hz6⟩ := h.2.2.2.2.1
  obtain ⟨e, n', z', hr⟩ := Rel_back h
  refine PO_mk (xBack xs nx sz).1 2 0 hr (by decide) (by decide) (fun ad ex => c_X8_back l G ad ex xs nx sz hx5 hn6 hx6 hz6) (fun ad ex => ?_)
  rw [e]
  exact c_X9_back l G ad ex ms sz hm0 hz6
theorem p_put (c r : Int32) (h : Rel xs ms L nx sz) : PO l G yX8_put cX8_put 4 yX9_put cX9_put 4 [.int c, .int r] xs ms := by
  obtain ⟨hT0, hTB, hx3, hm1, hL⟩ := h.2.2.1
  obtain ⟨hx5, hn6, hx6, hm0, hz6⟩ := h.2.2.2.2.1
  by_cases hpl : xIsPl c r = true
  · obtain ⟨a, b, ha, hb, ea, eb⟩ := isPl_nI hpl
    subst ea
    subst eb
    have e6 : b * 6 + a = 6 * b + a := by omega
    have hk : 6 * b + a < 36 := by omega
    obtain ⟨e, n1, z1, hr⟩ := Rel_put h hk
    refine PO_mk (xPut xs (xs.2.1 0) L nx sz (6 * b + a)).1 7 6 hr (by decide) (by decide) (fun ad ex => ?_) (fun ad ex => ?_)
    · have q := c_X8_put l G ad ex xs a b (xs.2.1 0) L nx sz rfl hx3 hL hx5 hn6 hx6 hz6 ha hb
      rw [e6] at q
      exact q
    · rw [e]; exact c_X9_put l G ad ex ms a b (xs.2.1 0) L sz hT0.symm hm1 hL hm0 hz6 ha hb
  · have hb : xIsPl c r = false := Bool.eq_false_iff.mpr hpl
    exact PO_mk (-2) 2 2 (Rel_bad h) (by decide) (by decide) (fun ad ex => c_X8_put_bad l G ad ex xs c r hb) (fun ad ex => c_X9_put_bad l G ad ex ms c r hb)
theorem p_empties (c r : Int32) (h : Rel xs ms L nx sz) : PO l G yX8_empties cX8_empties 4 yX9_empties cX9_empties 4 [.int c, .int r] xs ms := by
  obtain ⟨hT0, hTB, hx3, hm1, hL⟩ := h.2.2.1
  obtain ⟨hx5, hn6, hx6, hm0, hz6⟩ := h.2.2.2.2.1
  by_cases hpl : xIsPl c r = true
  · obtain ⟨a, b, ha, hb, ea, eb⟩ := isPl_nI hpl
    subst ea
    subst eb
    have e6 : b * 6 + a = 6 * b + a := by omega
    have hk : 6 * b + a < 36 := by omega
    obtain ⟨e, hr⟩ := Rel_empties h hk
    refine PO_mk (nI (szL (xs.2.1 2) (6 * b + a) 4 0)) 3 2 hr (by decide) (by decide) (fun ad ex => ?_) (fun ad ex => ?_)
    · have q := c_X8_empties l G ad ex xs a b nx sz hx5 hn6 hx6 hz6 ha hb
      rw [e6] at q
      exact q
    · rw [e]; exact c_X9_empties l G ad ex ms a b sz hm0 hz6 ha hb
  · have hb : xIsPl c r = false := Bool.eq_false_iff.mpr hpl
    exact PO_mk (-2) 2 2 (Rel_bad h) (by decide) (by decide) (fun ad ex => c_X8_empties_bad l G ad ex xs c r hb) (fun ad ex => c_X9_empties_bad l G ad ex ms c r hb)
theorem p_terms (c r : Int32) (h : Rel xs ms L nx sz) : PO l G yX8_terms cX8_terms 3 yX9_terms cX9_terms 3 [.int c, .int r] xs ms := by
  obtain ⟨hT0, hTB, hx3, hm1, hL⟩ := h.2.2.1
  obtain ⟨hx5, hn6, hx6, hm0, hz6⟩ := h.2.2.2.2.1
  by_cases hpl : xIsPl c r = true
  · obtain ⟨a, b, ha, hb, ea, eb⟩ := isPl_nI hpl
    subst ea
    subst eb
    have e6 : b * 6 + a = 6 * b + a := by omega
    have hk : 6 * b + a < 36 := by omega
    have e := (Rel_empties h hk).1
    refine PO_mk (nI (szL (xs.2.1 2) (6 * b + a) 4 0)) 3 2 h (by decide) (by decide) (fun ad ex => ?_) (fun ad ex => ?_)
    · have q := c_X8_terms l G ad ex xs a b ha hb
      rw [e6] at q
      exact q
    · rw [e]; exact c_X9_terms l G ad ex ms a b ha hb
  · have hb : xIsPl c r = false := Bool.eq_false_iff.mpr hpl
    exact PO_mk (-2) 2 2 (Rel_bad h) (by decide) (by decide) (fun ad ex => c_X8_terms_bad l G ad ex xs c r hb) (fun ad ex => c_X9_terms_bad l G ad ex ms c r hb)
theorem p_value (c r : Int32) (h : Rel xs ms L nx sz) : PO l G yX8_value cX8_value 4 yX9_value cX9_value 3 [.int c, .int r] xs ms := by
  obtain ⟨hT0, hTB, hx3, hm1, hL⟩ := h.2.2.1
  obtain ⟨hx5, hn6, hx6, hm0, hz6⟩ := h.2.2.2.2.1
  by_cases hpl : xIsPl c r = true
  · obtain ⟨a, b, ha, hb, ea, eb⟩ := isPl_nI hpl
    subst ea
    subst eb
    have e6 : b * 6 + a = 6 * b + a := by omega
    have hk : 6 * b + a < 36 := by omega
    obtain ⟨N, hN⟩ : ∃ N, N = Wb 36 := ⟨_, rfl⟩
    have v := Rel_val hk h
    rw [← hN] at v
    refine PO_mk (xVal xs (6 * b + a)) 78 7 v.2.1 (by decide) (by decide) (fun ad ex => ?_) (fun ad ex => ?_)
    · have q := c_X8_value l G ad ex xs a b ha hb
      rw [e6] at q
      exact q
    · rw [v.2.2.1]; exact c_X9_value l G ad ex ms a b N ha hb v.1
  · have hb : xIsPl c r = false := Bool.eq_false_iff.mpr hpl
    exact PO_mk (-2) 2 2 (Rel_bad h) (by decide) (by decide) (fun ad ex => c_X8_value_bad l G ad ex xs c r hb) (fun ad ex => c_X9_value_bad l G ad ex ms c r hb)
theorem p_why (c r : Int32) (h : Rel xs ms L nx sz) : PO l G yX8_why cX8_why 5 yX9_why cX9_why 3 [.int c, .int r] xs ms := by
  obtain ⟨hT0, hTB, hx3, hm1, hL⟩ := h.2.2.1
  obtain ⟨hx5, hn6, hx6, hm0, hz6⟩ := h.2.2.2.2.1
  by_cases hpl : xIsPl c r = true
  · obtain ⟨a, b, ha, hb, ea, eb⟩ := isPl_nI hpl
    subst ea
    subst eb
    have e6 : b * 6 + a = 6 * b + a := by omega
    have hk : 6 * b + a < 36 := by omega
    obtain ⟨N, hN⟩ : ∃ N, N = Wb 36 := ⟨_, rfl⟩
    have v := Rel_val hk h
    rw [← hN] at v
    refine PO_mk (xWhy xs (6 * b + a)) 78 7 v.2.1 (by decide) (by decide) (fun ad ex => ?_) (fun ad ex => ?_)
    · have q := c_X8_why l G ad ex xs a b ha hb
      rw [e6] at q
      exact q
    · rw [v.2.2.2.1]; exact c_X9_why l G ad ex ms a b N ha hb v.1
  · have hb : xIsPl c r = false := Bool.eq_false_iff.mpr hpl
    exact PO_mk (-2) 2 2 (Rel_bad h) (by decide) (by decide) (fun ad ex => c_X8_why_bad l G ad ex xs c r hb) (fun ad ex => c_X9_why_bad l G ad ex ms c r hb)
theorem p_deep (c r : Int32) (h : Rel xs ms L nx sz) : PO l G yX8_deep cX8_deep 4 yX9_deep cX9_deep 3 [.int c, .int r] xs ms := by
  obtain ⟨hT0, hTB, hx3, hm1, hL⟩ := h.2.2.1
  obtain ⟨hx5, hn6, hx6, hm0, hz6⟩ := h.2.2.2.2.1
  by_cases hpl : xIsPl c r = true
  · obtain ⟨a, b, ha, hb, ea, eb⟩ := isPl_nI hpl
    subst ea
    subst eb
    have e6 : b * 6 + a = 6 * b + a := by omega
    have hk : 6 * b + a < 36 := by omega
    obtain ⟨N, hN⟩ : ∃ N, N = Wb 36 := ⟨_, rfl⟩
    have v := Rel_val hk h
    rw [← hN] at v
    refine PO_mk (xDeep xs (6 * b + a)) 78 7 v.2.1 (by decide) (by decide) (fun ad ex => ?_) (fun ad ex => ?_)
    · have q := c_X8_deep l G ad ex xs a b ha hb
      rw [e6] at q
      exact q
    · rw [v.2.2.2.2.1]; exact c_X9_deep l G ad ex ms a b N ha hb v.1
  · have hb : xIsPl c r = false := Bool.eq_false_iff.mpr hpl
    exact PO_mk (-2) 2 2 (Rel_bad h) (by decide) (by decide) (fun ad ex => c_X8_deep_bad l G ad ex xs c r hb) (fun ad ex => c_X9_deep_bad l G ad ex ms c r hb)
theorem p_users (c r : Int32) (h : Rel xs ms L nx sz) : PO l G yX8_users cX8_users 3 yX9_users cX9_users 6 [.int c, .int r] xs ms := by
  by_cases hpl : xIsPl c r = true
  · obtain ⟨a, b, ha, hb, ea, eb⟩ := isPl_nI hpl
    subst ea
    subst eb
    have u := Rel_users h ha hb
    refine PO_mk (nI (cnt (rfB (xs.2.1 2) a b) 144 0 0)) 3 2 h (by decide) (by decide) (fun ad ex => c_X8_users l G ad ex xs a b ha hb) (fun ad ex => ?_)
    rw [u.2]
    exact c_X9_users l G ad ex ms a b _ ha hb u.1
  · have hb : xIsPl c r = false := Bool.eq_false_iff.mpr hpl
    exact PO_mk (-2) 2 2 (Rel_bad h) (by decide) (by decide) (fun ad ex => c_X8_users_bad l G ad ex xs c r hb) (fun ad ex => c_X9_users_bad l G ad ex ms c r hb)
theorem p_comes (way a n : Int32) (h : Rel xs ms L nx sz) : PO l G yX8_comes cX8_comes 5 yX9_comes cX9_comes 4 [.int way, .int a, .int n] xs ms := by
  obtain ⟨hx5, hn6, hx6, hm0, hz6⟩ := h.2.2.2.2.1
  by_cases hb : xOkC way a n = true
  · obtain ⟨w, x, y, e1, e2, e3, h1, h2, h3, h4⟩ := okC_nI hb
    subst e1
    subst e2
    subst e3
    obtain ⟨cn, hcn, e, n', z', hr⟩ := Rel_comes h h1 h2 h3 h4
    refine PO_mk (xComes xs nx sz w x y).1 4 4 hr (by decide) (by decide) (fun ad ex => c_X8_comes l G ad ex xs w x y nx sz hx5 hn6 hx6 hz6 h1 h2 h3 h4) (fun ad ex => ?_)
    rw [e]
    exact c_X9_comes l G ad ex ms w x y sz cn hm0 hz6 h1 h2 h3 h4 hcn
  · have hb : xOkC way a n = false := Bool.eq_false_iff.mpr hb
    exact PO_mk (-2) 1 1 (Rel_bad h) (by decide) (by decide) (fun ad ex => c_X8_comes_bad l G ad ex xs way a n hb) (fun ad ex => c_X9_comes_bad l G ad ex ms way a n hb)
theorem p_goes (way a n : Int32) (h : Rel xs ms L nx sz) : PO l G yX8_goes cX8_goes 4 yX9_goes cX9_goes 4 [.int way, .int a, .int n] xs ms := by
  obtain ⟨hx5, hn6, hx6, hm0, hz6⟩ := h.2.2.2.2.1
  by_cases hb : xOkG way a n = true
  · obtain ⟨w, x, y, e1, e2, e3, h1, h2, h3, h4⟩ := okG_nI hb
    subst e1
    subst e2
    subst e3
    obtain ⟨cn, hcn, e, hr⟩ := Rel_goes h h1 h2 h3 h4
    refine PO_mk (nI (xFilled ((xClose xs nx sz (1 - w) x y).2.1 2))) 4 4 hr (by decide) (by decide) (fun ad ex => c_X8_goes l G ad ex xs w x y nx sz hx5 hn6 hx6 hz6 h1 h2 h3 h4) (fun ad ex => ?_)
    rw [e]
    exact c_X9_goes l G ad ex ms w x y sz cn hm0 hz6 h1 h2 h3 h4 hcn
  · have hb : xOkG way a n = false := Bool.eq_false_iff.mpr hb
    exact PO_mk (-2) 1 1 (Rel_bad h) (by decide) (by decide) (fun ad ex => c_X8_goes_bad l G ad ex xs way a n hb) (fun ad ex => c_X9_goes_bad l G ad ex ms way a n hb)
theorem isAr2_nI {c r wd ht p q : Int32} (hb : (xIsAr c r wd ht && xIsAr p q wd ht) = true) : ∃ a b x y u v, c = nI a ∧ r = nI b ∧ wd = nI x ∧ ht = nI y ∧ p = nI u ∧ q = nI v ∧ AR a b u v x y := by
  rw [Bool.and_eq_true] at hb
  obtain ⟨a, b, x, y, e1, e2, e3, e4, h1, h2, h3, h4⟩ := isAr_nI hb.1
  obtain ⟨u, v, x', y', e5, e6, e7, e8, h5, h6, h7, h8⟩ := isAr_nI hb.2
  have ex : x = x' := (nI_eq (by omega) (by omega)).mp (e3.symm.trans e7)
  have ey : y = y' := (nI_eq (by omega) (by omega)).mp (e4.symm.trans e8)
  exact ⟨a, b, x, y, u, v, e1, e2, e3, e4, e5, e6, h1, h2, h3, h4, by omega, by omega⟩
theorem p_moves (c r wd ht p q : Int32) (h : Rel xs ms L nx sz) : PO l G yX8_moves cX8_moves 7 yX9_moves cX9_moves 12 [.int c, .int r, .int wd, .int ht, .int p, .int q] xs ms := by
  obtain ⟨hx5, hn6, hx6, hm0, hz6⟩ := h.2.2.2.2.1
  by_cases hb : (xIsAr c r wd ht && xIsAr p q wd ht) = true
  · obtain ⟨a, b, x, y, u, v, e1, e2, e3, e4, e5, e6, hA⟩ := isAr2_nI hb
    subst e1
    subst e2
    subst e3
    subst e4
    subst e5
    subst e6
    obtain ⟨cn, hcn, e, hr⟩ := Rel_moves h hA
    obtain ⟨h1, h2, h3, h4, h5, h6⟩ := hA
    refine ⟨nI (xMvS xs nx sz a b u v x y).1, (xMvS xs nx sz a b u v x y).2, sA (mLR ms sz) 0 (mMvR ms a b u v x y cn).2, L, (nx + 1) % 6, min (sz + 1) 6, 6, 3, 2, 8, ⟨by decide, by decide, by decide, by decide⟩, fun ad ex => c_X8_moves l G ad ex xs a b x y u v nx sz hx5 hn6 hx6 hz6 h1 h2 h3 h4 h5 h6, fun ad ex => ?_, hr⟩
    rw [e]
    exact c_X9_moves l G ad ex ms a b x y u v sz cn hm0 hz6 h1 h2 h3 h4 h5 h6 hcn
  · have hb : (xIsAr c r wd ht && xIsAr p q wd ht) = false := Bool.eq_false_iff.mpr hb
    exact PO_mk (-2) 3 3 (Rel_bad h) (by decide) (by decide) (fun ad ex => c_X8_moves_bad l G ad ex xs c r wd ht p q hb) (fun ad ex => c_X9_moves_bad l G ad ex ms c r wd ht p q hb)
theorem p_copies (c r wd ht p q : Int32) (h : Rel xs ms L nx sz) : PO l G yX8_copies cX8_copies 7 yX9_copies cX9_copies 12 [.int c, .int r, .int wd, .int ht, .int p, .int q] xs ms := by
  obtain ⟨hx5, hn6, hx6, hm0, hz6⟩ := h.2.2.2.2.1
  by_cases hb : (xIsAr c r wd ht && xIsAr p q wd ht) = true
  · obtain ⟨a, b, x, y, u, v, e1, e2, e3, e4, e5, e6, hA⟩ := isAr2_nI hb
    subst e1
    subst e2
    subst e3
    subst e4
    subst e5
    subst e6
    obtain ⟨cn, hcn, e, hr⟩ := Rel_copies h hA
    obtain ⟨h1, h2, h3, h4, h5, h6⟩ := hA
    refine ⟨nI (xCyS xs nx sz a b u v x y).1, (xCyS xs nx sz a b u v x y).2, sA (mLR ms sz) 0 (mCyR ms a b u v x y cn).2, L, (nx + 1) % 6, min (sz + 1) 6, 6, 3, 2, 8, ⟨by decide, by decide, by decide, by decide⟩, fun ad ex => c_X8_copies l G ad ex xs a b x y u v nx sz hx5 hn6 hx6 hz6 h1 h2 h3 h4 h5 h6, fun ad ex => ?_, hr⟩
    rw [e]
    exact c_X9_copies l G ad ex ms a b x y u v sz cn hm0 hz6 h1 h2 h3 h4 h5 h6 hcn
  · have hb : (xIsAr c r wd ht && xIsAr p q wd ht) = false := Bool.eq_false_iff.mpr hb
    exact PO_mk (-2) 3 3 (Rel_bad h) (by decide) (by decide) (fun ad ex => c_X8_copies_bad l G ad ex xs c r wd ht p q hb) (fun ad ex => c_X9_copies_bad l G ad ex ms c r wd ht p q hb)
theorem p_term (c r i what : Int32) (h : Rel xs ms L nx sz) : PO l G yX8_term cX8_term 6 yX9_term cX9_term 6 [.int c, .int r, .int i, .int what] xs ms := by
  by_cases hb : (xIsPl c r && xIsW what 0 5) = true
  · rw [Bool.and_eq_true] at hb
    obtain ⟨a, b, ha, hb1, ea, eb⟩ := isPl_nI hb.1
    obtain ⟨w, _, hw, ew⟩ := isW_nI (a := 0) (b := 5) (by decide) (by decide) hb.2
    subst ea
    subst eb
    subst ew
    have hw : w < 6 := by omega
    have e6 : b * 6 + a = 6 * b + a := by omega
    have hk : 6 * b + a < 36 := by omega
    have hm : ms.2.1 0 (25 * (6 * b + a)) = nI (szN (xs.2.1 2) (6 * b + a)) := (h.1 _ hk).1.1
    have h4 := szN_le (xs.2.1 2) (6 * b + a)
    have hno : (¬ ∃ j, j < szN (xs.2.1 2) (6 * b + a) ∧ i = nI j) → xIsW i 0 (ms.2.1 0 (25 * (6 * b + a)) - 1) = false := by
      intro q
      refine Bool.eq_false_iff.mpr (fun z => ?_)
      rw [hm] at z
      exact q (isW_top h4 z)
    by_cases hi : xIsW i 0 3 = true
    · obtain ⟨j, _, hj, ej⟩ := isW_nI (a := 0) (b := 3) (by decide) (by decide) hi
      subst ej
      have hj : j < 4 := by omega
      have t := Rel_term h hk hj hw
      by_cases hs : j < szN (xs.2.1 2) (6 * b + a)
      · refine PO_mk (ms.2.1 0 (25 * (6 * b + a) + 1 + 6 * j + w)) 2 2 h (by decide) (by decide) (fun ad ex => ?_) (fun ad ex => ?_)
        · have q := c_X8_term l G ad ex xs a b j w ha hb1 hw hj
          rw [e6, t.1 hs] at q
          exact q
        · refine c_X9_term l G ad ex ms a b j w ha hb1 hw hj ?_
          rw [hm]
          exact isW_topN h4 hs
      · refine PO_mk (-2) 2 2 (Rel_bad h) (by decide) (by decide) (fun ad ex => ?_) (fun ad ex => ?_)
        · have q := c_X8_term l G ad ex xs a b j w ha hb1 hw hj
          rw [e6, t.2 hs] at q
          exact q
        · refine c_X9_term_no l G ad ex ms a b (nI j) w ha hb1 hw (hno ?_)
          rintro ⟨j', h1, h2⟩
          have : j = j' := (nI_eq (by omega) (by omega)).mp h2
          omega
    · have hi : xIsW i 0 3 = false := Bool.eq_false_iff.mpr hi
      refine PO_mk (-2) 2 2 (Rel_bad h) (by decide) (by decide) (fun ad ex => c_X8_term_no l G ad ex xs a b i w ha hb1 hw hi) (fun ad ex => ?_)
      refine c_X9_term_no l G ad ex ms a b i w ha hb1 hw (hno ?_)
      rintro ⟨j', h1, h2⟩
      subst h2
      have q := xIsW_nI (i := j') (a := 0) (b := 3) (by omega) (by omega) (by decide)
      exact absurd (hi.symm.trans q) Bool.false_ne_true
  · have hb : (xIsPl c r && xIsW what 0 5) = false := Bool.eq_false_iff.mpr hb
    exact PO_mk (-2) 2 2 (Rel_bad h) (by decide) (by decide) (fun ad ex => c_X8_term_bad l G ad ex xs c r i what hb) (fun ad ex => c_X9_term_bad l G ad ex ms c r i what hb)
theorem p_shown (c r k : Int32) (h : Rel xs ms L nx sz) : PO l G yX8_shown cX8_shown 4 yX9_shown cX9_shown 6 [.int c, .int r, .int k] xs ms := by
  by_cases hb : (xIsPl c r && decide (0 ≤ k)) = true
  · rw [Bool.and_eq_true, decide_eq_true_iff] at hb
    obtain ⟨a, b, ha, hb1, ea, eb⟩ := isPl_nI hb.1
    obtain ⟨j, hj, ej⟩ := nI_of (Int32.not_lt.mpr hb.2)
    subst ea
    subst eb
    subst ej
    have e6 : b * 6 + a = 6 * b + a := by omega
    have hk : 6 * b + a < 36 := by omega
    obtain ⟨n, hn, hn4, e, hr⟩ := Rel_shown h hk
    refine PO_mk (if (pgW (xs.2.1 2) (6 * b + a) (xs.2.1 10)).1 ≤ j then (-1 : Int32) else (pgW (xs.2.1 2) (6 * b + a) (xs.2.1 10)).2 j) 4 3 hr (by decide) (by decide) (fun ad ex => ?_) (fun ad ex => ?_)
    · have q := c_X8_shown l G ad ex xs a b j ha hb1 hj
      rw [e6] at q
      exact q
    · rw [e j]
      exact c_X9_shown l G ad ex ms a b j n ha hb1 hj hn hn4
  · have hb : (xIsPl c r && decide (0 ≤ k)) = false := Bool.eq_false_iff.mpr hb
    exact PO_mk (-2) 2 2 (Rel_bad h) (by decide) (by decide) (fun ad ex => c_X8_shown_bad l G ad ex xs c r k hb) (fun ad ex => c_X9_shown_bad l G ad ex ms c r k hb)
theorem p_told (what : Int32) (h : Rel xs ms L nx sz) : PO l G yX8_told cX8_told 2 yX9_told cX9_told 2 [.int what] xs ms := by
  by_cases hb : xIsW what 0 4 = true
  · obtain ⟨w, _, hw, ew⟩ := isW_nI (a := 0) (b := 4) (by decide) (by decide) hb
    subst ew
    have hw : w < 5 := by omega
    refine PO_mk (mTold ms w) 1 1 h (by decide) (by decide) (fun ad ex => ?_) (fun ad ex => c_X9_told l G ad ex ms w hw)
    have q := c_X8_told l G ad ex xs (nI w)
    rw [Rel_told h w hw] at q
    exact q
  · have hb : xIsW what 0 4 = false := Bool.eq_false_iff.mpr hb
    have no : ∀ v : Int32, xIsW v 0 4 = true → ¬ what = v := fun v hv e => by
      rw [e, hv] at hb
      exact absurd hb.symm Bool.false_ne_true
    have e : xTold xs what = (-2, xBad xs) := by
      unfold xTold
      rw [if_neg (no 0 (by decide)), if_neg (no 1 (by decide)), if_neg (no 2 (by decide)), if_neg (no 3 (by decide)), if_neg (no 4 (by decide))]
    refine PO_mk (-2) 1 1 (Rel_bad h) (by decide) (by decide) (fun ad ex => ?_) (fun ad ex => c_X9_told_bad l G ad ex ms what hb)
    have q := c_X8_told l G ad ex xs what
    rw [e] at q
    exact q
theorem p_count (what : Int32) (h : Rel xs ms L nx sz) : PO l G yX8_count cX8_count 2 yX9_count cX9_count 2 [.int what] xs ms := by
  by_cases hb : xIsW what 0 3 = true
  · obtain ⟨w, _, hw, ew⟩ := isW_nI (a := 0) (b := 3) (by decide) (by decide) hb
    subst ew
    rcases (show w = 0 ∨ w = 1 ∨ w = 2 ∨ w = 3 by omega) with e | e | e | e
    · subst e
      refine PO_mk (nI (mFil (ms.2.1 0))) 79 2 h (by decide) (by decide) (fun ad ex => ?_) (fun ad ex => c_X9_count_0 l G ad ex ms)
      have q := c_X8_count l G ad ex xs (nI 0)
      rw [xCount_0, ← RX_fil h.1] at q
      exact q
    · subst e
      refine PO_mk (nI (mCount1 (fun k => szN (xs.2.1 2) k))) 79 1 h (by decide) (by decide) (fun ad ex => ?_) (fun ad ex => c_X9_count_1 l G ad ex ms _ (RX_cn h.1))
      have q := c_X8_count l G ad ex xs (nI 1)
      rw [xCount_1, RX_c1 h.1 (RX_cn h.1)] at q
      exact q
    · subst e
      refine PO_mk (nI (mCount2 (ms.2.1 0) (fun k => szN (xs.2.1 2) k))) 79 2 h (by decide) (by decide) (fun ad ex => ?_) (fun ad ex => c_X9_count_2 l G ad ex ms _ (RX_cn h.1))
      have q := c_X8_count l G ad ex xs (nI 2)
      rw [xCount_2, RX_c2 h.1 (RX_cn h.1)] at q
      exact q
    · subst e
      obtain ⟨N, hN⟩ : ∃ N, N = Wb 36 := ⟨_, rfl⟩
      have c3 := Rel_c3N hN h
      have ec := xCount_3 xs
      generalize lp xFcF 36 0 (0, xs) = y at c3 ec
      refine PO_mk (nI (mCount3 ms N).1) 79 8 c3.2 (by decide) (by decide) (fun ad ex => ?_) (fun ad ex => c_X9_count_3 l G ad ex ms N (fun s k e hk => find_N (g := xs.2.1 2) hN (by rw [e]; exact h.1) hk))
      have q := c_X8_count l G ad ex xs (nI 3)
      rw [ec, c3.1] at q
      exact q
  · have hb : xIsW what 0 3 = false := Bool.eq_false_iff.mpr hb
    have no : ∀ v : Int32, xIsW v 0 3 = true → ¬ what = v := fun v hv e => by
      rw [e, hv] at hb
      exact absurd hb.symm Bool.false_ne_true
    have e : xCount xs what = (-2, xBad xs) := by
      unfold xCount
      rw [if_neg (no 0 (by decide)), if_neg (no 1 (by decide)), if_neg (no 2 (by decide)), if_neg (no 3 (by decide))]
    refine PO_mk (-2) 79 1 (Rel_bad h) (by decide) (by decide) (fun ad ex => ?_) (fun ad ex => c_X9_count_bad l G ad ex ms what hb)
    have q := c_X8_count l G ad ex xs what
    rw [e] at q
    exact q
theorem p_digest (h : Rel xs ms L nx sz) : ∃ (ri : Int64) (xs1 ms1 : ST) (L n1 z1 : Nat), (∀ (ad : Nat → Nat) (ex : va_W), XXl l G yX8_digest cX8_digest 4 (some .long) 80 [.ref (ad 0)] ad ex xs ri xs1) ∧ (∀ (ad : Nat → Nat) (ex : va_W), MMl l G yX9_digest cX9_digest 4 (some .long) 8 [.ref (ad 0)] ad ex ms ri ms1) ∧ Rel xs1 ms1 L n1 z1 := by
  obtain ⟨N, hN⟩ : ∃ N, N = Wb 36 := ⟨_, rfl⟩
  have d := Rel_digest hN h
  refine ⟨(xDigest xs).1, _, _, L, nx, sz, fun ad ex => c_X8_digest l G ad ex xs, fun ad ex => ?_, d.2⟩
  rw [d.1]
  exact c_X9_digest l G ad ex ms _ N (RX_cn h.1) (fun s k e hk => find_N (g := xs.2.1 2) hN (by rw [e]; exact h.1) hk)
end PAIRS
