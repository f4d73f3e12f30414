theorem fin_KN {g : Nat → Int32} {s : ST} {c N : Nat} (hN : N = Wb 36) (hR : RX (s.2.1 0) g) (hc : c < 36) : KN s (mFin s c N) := by
  obtain ⟨U, hU⟩ := VS_ex g
  rw [hN]
  exact (find_all hR hU hc).2.1
theorem c3_KN {g : Nat → Int32} {ms : ST} {N : Nat} (hN : N = Wb 36) (hR : RX (ms.2.1 0) g) : KN ms (mCount3 ms N).2 := by
  unfold mCount3
  refine lp_inv (f := mCt3 N) (fun _ b => KN ms b.2) 36 0 (0, ms) (KN_rfl ms) ?_
  intro k b _ hk hb
  have hR' : RX (b.2.2.1 0) g := by rw [hb.2.1 0 (by omega)]; exact hR
  exact KN_tr hb (fin_KN hN hR' (by omega))
/-- the class's sum and state against the reference's -/
def HR (g : Nat → Int32) (L nx sz : Nat) (x : HS) (s : ST) : Prop := x.1 = s.2.2 ∧ Rel x.2 s L nx sz ∧ x.2.2.1 2 = g
theorem HR_mix {g : Nat → Int32} {L nx sz : Nat} {x : HS} {s : ST} {v : Int64} {xs : ST} (h : HR g L nx sz x s) (e : xs = x.2) : HR g L nx sz (31 * x.1 + v, xs) (mixS s v) := by
  subst e
  refine ⟨?_, h.2.1, h.2.2⟩
  show 31 * x.1 + v = 31 * s.2.2 + v
  rw [h.1]
theorem HR_mk {g : Nat → Int32} {L nx sz : Nat} {v : Int64} {X S : ST} (e : v = S.2.2) (hr : Rel X S L nx sz) (hg : X.2.1 2 = g) : HR g L nx sz (v, X) S := ⟨e, hr, hg⟩
theorem HR_mixP {g : Nat → Int32} {L nx sz : Nat} {v u : Int64} {X S : ST} (h : HR g L nx sz (v, X) S) : HR g L nx sz (31 * v + u, X) (mixS S u) := HR_mix h rfl
theorem HR_T {g : Nat → Int32} {L nx sz i : Nat} {x : HS} {s : ST} (h : HR g L nx sz x s) (hi : i < 5) : HR g L nx sz (dgT i x) (mDgT i s) := by
  unfold dgT mDgT
  rw [Rel_told h.2.1 i hi]
  exact HR_mix h rfl
theorem xCount_0 (st : ST) : xCount st (nI 0) = (nI (xFilled (st.2.1 2)), st) := if_pos rfl
theorem xCount_1 (st : ST) : xCount st (nI 1) = (nI (cnt (fun i => decide (¬ st.2.1 2 i = 0)) 144 0 0), st) := by unfold xCount; rw [if_neg (by decide), if_pos (by decide)]
theorem xCount_2 (st : ST) : xCount st (nI 2) = (nI (cnt (fun i => decide (st.2.1 2 i = 4)) 144 0 0), st) := by unfold xCount; rw [if_neg (by decide), if_neg (by decide), if_pos (by decide)]
theorem xCount_3 (st : ST) : xCount st (nI 3) = (nI (lp xFcF 36 0 (0, st)).1, (lp xFcF 36 0 (0, st)).2) := by unfold xCount; rw [if_neg (by decide), if_neg (by decide), if_neg (by decide), if_pos (by decide)]
theorem xIF_KX {xs ms : ST} {L nx sz c : Nat} (h : Rel xs ms L nx sz) (hc : c < 36) : (xIF xs c).2.1 2 = xs.2.1 2 := by
  obtain ⟨U, hU, hX⟩ := h.2.1
  exact (xIF_all (fun c hc => (h.1 c hc).2) hU hc hX).2.1.2.1 2 (by decide) (by decide) (by decide) (by decide)
theorem c3_sl {xs ms : ST} {L nx sz N : Nat} (hN : N = Wb 36) (h : Rel xs ms L nx sz) : (lp xFcF 36 0 (0, xs)).2.2.1 2 = xs.2.1 2 := by
  have step : ∀ (k : Nat) (a b : Nat × ST), k < 36 → a.2.2.1 2 = xs.2.1 2 ∧ Rel a.2 b.2 L nx sz → (xFcF k a).2.2.1 2 = xs.2.1 2 ∧ Rel (xFcF k a).2 (mCt3 N k b).2 L nx sz := by
    intro k a b hk hr
    have v := (Rel_val hk hr.2).2.1
    rw [← hN] at v
    exact ⟨(xIF_KX hr.2 hk).trans hr.1, v⟩
  exact (lp_rel (f := xFcF) (g := mCt3 N) (fun _ a b => a.2.2.1 2 = xs.2.1 2 ∧ Rel a.2 b.2 L nx sz) 36 0 (0, xs) (0, ms) ⟨rfl, h⟩ (fun k a b _ hk hr => step k a b (by omega) hr)).1
theorem HR_C {g : Nat → Int32} {L nx sz N : Nat} {x : HS} {s : ST} (hN : N = Wb 36) (h : HR g L nx sz x s) : HR g L nx sz (lp dgC 4 0 x) (mDgC s (fun k => szN g k) N) := by
  have hR : RX (s.2.1 0) g := by have := h.2.1.1; rw [h.2.2] at this; exact this
  have e : lp dgC 4 0 x = dgC 3 (dgC 2 (dgC 1 (dgC 0 x))) := rfl
  rw [e]
  unfold mDgC
  have h0 : HR g L nx sz (dgC 0 x) (mixS s (nI (mFil (s.2.1 0))).toInt64) := by
    unfold dgC
    rw [xCount_0, h.2.2, RX_fil hR]
    exact HR_mix h rfl
  have h1 : HR g L nx sz (dgC 1 (dgC 0 x)) (mixS (mixS s (nI (mFil (s.2.1 0))).toInt64) (nI (mCount1 (fun k => szN g k))).toInt64) := by
    rw [show dgC 1 (dgC 0 x) = (31 * (dgC 0 x).1 + (xCount (dgC 0 x).2 (nI 1)).1.toInt64, (xCount (dgC 0 x).2 (nI 1)).2) from rfl, xCount_1, h0.2.2, RX_c1 hR (RX_cn hR)]
    exact HR_mix h0 rfl
  have h2 : HR g L nx sz (dgC 2 (dgC 1 (dgC 0 x))) (mixS (mixS (mixS s (nI (mFil (s.2.1 0))).toInt64) (nI (mCount1 (fun k => szN g k))).toInt64) (nI (mCount2 (s.2.1 0) (fun k => szN g k))).toInt64) := by
    rw [show dgC 2 (dgC 1 (dgC 0 x)) = (31 * (dgC 1 (dgC 0 x)).1 + (xCount (dgC 1 (dgC 0 x)).2 (nI 2)).1.toInt64, (xCount (dgC 1 (dgC 0 x)).2 (nI 2)).2) from rfl, xCount_2, h1.2.2, RX_c2 hR (RX_cn hR)]
    exact HR_mix h1 rfl
  generalize mixS (mixS (mixS s (nI (mFil (s.2.1 0))).toInt64) (nI (mCount1 (fun k => szN g k))).toInt64) (nI (mCount2 (s.2.1 0) (fun k => szN g k))).toInt64 = s2 at h2 ⊢
  generalize dgC 2 (dgC 1 (dgC 0 x)) = x2 at h2 ⊢
  have c3 := Rel_c3N hN h2.2.1
  have hR2 : RX (s2.2.1 0) g := by have := h2.2.1.1; rw [h2.2.2] at this; exact this
  have h3 : HR g L nx sz (x2.1, (lp xFcF 36 0 (0, x2.2)).2) (mCount3 s2 N).2 := HR_mk (h2.1.trans (c3_KN hN hR2).2.2.symm) c3.2 ((c3_sl hN h2.2.1).trans h2.2.2)
  have e1 := c3.1
  have ec := xCount_3 x2.2
  clear c3
  generalize lp xFcF 36 0 (0, x2.2) = y at h3 e1 ec
  unfold dgC
  rw [ec, e1]
  exact HR_mixP h3
theorem HR_W {g : Nat → Int32} {L nx sz k i w : Nat} {x : HS} {s : ST} (hk : k < 36) (hi : i < szN g k) (hw : w < 6) (h : HR g L nx sz x s) : HR g L nx sz (dgW k i w x) (mDgJ k (i * 6 + w) s) := by
  have h4 := szN_le g k
  have ht := (Rel_term (what := w) h.2.1 hk (show i < 4 by omega) hw).1 (by rw [h.2.2]; exact hi)
  unfold dgW mDgJ
  rw [ht, show 25 * k + 1 + (i * 6 + w) = 25 * k + 1 + 6 * i + w by omega]
  exact HR_mix h rfl
theorem HR_L {g : Nat → Int32} {L nx sz k : Nat} {x : HS} {s : ST} (hk : k < 36) (h : HR g L nx sz x s) : HR g L nx sz (dgL k x) (mDgA (fun k => szN g k) k s) := by
  have hR : RX (s.2.1 0) g := by have := h.2.1.1; rw [h.2.2] at this; exact this
  have e1 : szL (x.2.2.1 2) k 4 0 = szN g k := by rw [h.2.2]; rfl
  have e2 : s.2.1 0 (25 * k) = nI (szN g k) := (hR k hk).1.1
  unfold dgL mDgA
  rw [e1, e2]
  have h0 : HR g L nx sz (31 * x.1 + (nI (szN g k)).toInt64, x.2) (mixS s (nI (szN g k)).toInt64) := HR_mix h rfl
  generalize mixS s (nI (szN g k)).toInt64 = s0 at h0 ⊢
  generalize (31 * x.1 + (nI (szN g k)).toInt64, x.2) = x0 at h0 ⊢
  have em := lp_mul (mDgJ k) 6 (szN g k) 0 s0
  rw [Nat.zero_mul, Nat.mul_comm] at em
  rw [em]
  refine lp_rel (f := dgI k) (g := fun i a => lp (fun j => mDgJ k (i * 6 + j)) 6 0 a) (fun _ a b => HR g L nx sz a b) (szN g k) 0 x0 s0 h0 ?_
  intro i a b _ hi hr
  refine lp_rel (f := dgW k i) (g := fun j => mDgJ k (i * 6 + j)) (fun _ a b => HR g L nx sz a b) 6 0 a b hr ?_
  intro w a b _ hw hr
  exact HR_W hk (by omega) (by omega) hr
theorem HR_V {g : Nat → Int32} {L nx sz k N : Nat} {x : HS} {s : ST} (hN : N = Wb 36) (hk : k < 36) (h : HR g L nx sz x s) : HR g L nx sz (dgV k x) (mDgY N k (mDgV N k s)) := by
  have hR : RX (s.2.1 0) g := by have := h.2.1.1; rw [h.2.2] at this; exact this
  have v := Rel_val hk h.2.1
  rw [← hN] at v
  have h1 : HR g L nx sz (x.1, xIF x.2 k) (mFin s k N) := HR_mk (h.1.trans (fin_KN hN hR hk).2.2.symm) v.2.1 ((xIF_KX h.2.1 hk).trans h.2.2)
  have h2 : HR g L nx sz (31 * x.1 + (xVal x.2 k).toInt64, xIF x.2 k) (mDgV N k s) := by
    unfold mDgV
    rw [v.2.2.1]
    exact HR_mixP h1
  generalize mDgV N k s = s1 at h2 ⊢
  unfold dgV
  generalize xIF x.2 k = X1 at h2 ⊢
  generalize 31 * x.1 + (xVal x.2 k).toInt64 = v0 at h2 ⊢
  have hRel : Rel X1 s1 L nx sz := h2.2.1
  have hX2 : X1.2.1 2 = g := h2.2.2
  have hv0 : v0 = s1.2.2 := h2.1
  have hR1 : RX (s1.2.1 0) g := by have := hRel.1; rw [hX2] at this; exact this
  have v1 := Rel_val hk hRel
  rw [← hN] at v1
  have h3 : HR g L nx sz (v0, xIF X1 k) (mFin s1 k N) := HR_mk (hv0.trans (fin_KN hN hR1 hk).2.2.symm) v1.2.1 ((xIF_KX hRel hk).trans hX2)
  unfold mDgY
  rw [v1.2.2.2.1]
  exact HR_mixP h3
theorem Rel_digest {xs ms : ST} {L nx sz N : Nat} (hN : N = Wb 36) (h : Rel xs ms L nx sz) : (xDigest xs).1 = (mDig ms (fun k => szN (xs.2.1 2) k) N).2.2 ∧ Rel (xDigest xs).2 (mDig ms (fun k => szN (xs.2.1 2) k) N) L nx sz := by
  have h0 : HR (xs.2.1 2) L nx sz (1626, xs) (sL ms 1626) := ⟨rfl, h, rfl⟩
  have h1 : HR (xs.2.1 2) L nx sz (lp dgT 5 0 (1626, xs)) (lp mDgT 5 0 (sL ms 1626)) := lp_rel (f := dgT) (g := mDgT) (fun _ a b => HR (xs.2.1 2) L nx sz a b) 5 0 _ _ h0 (fun i a b _ hi hr => HR_T hr (by omega))
  have h2 := HR_C hN h1
  unfold xDigest mDig
  generalize lp dgC 4 0 (lp dgT 5 0 (1626, xs)) = x2 at h2 ⊢
  generalize mDgC (lp mDgT 5 0 (sL ms 1626)) (fun k => szN (xs.2.1 2) k) N = s2 at h2 ⊢
  have h3 := lp_rel (f := dgCell) (g := mDgK (fun k => szN (xs.2.1 2) k) N) (fun _ a b => HR (xs.2.1 2) L nx sz a b) 36 0 x2 s2 h2 (fun k a b _ hk hr => HR_V hN (by omega) (HR_L (by omega) hr))
  exact ⟨h3.1, h3.2.1⟩
