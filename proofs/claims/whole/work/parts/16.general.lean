/-! calls from any room; worlds in another order; methods that make cells -/
def RLv (k : Nat) (R : Room) : Prop := k + 1 ≤ R.frames ∧ 64 * (k + 1) ≤ R.locals
theorem rl_ok {k n : Nat} {R : Room} (h : RLv k R) (hn : n ≤ 45) : (RM k).frames + 1 ≤ R.frames ∧ 8 + (n + 11) + (RM k).locals ≤ R.locals := by
  obtain ⟨h1, h2⟩ := h
  refine ⟨h1, ?_⟩
  show 8 + (n + 11) + 64 * k ≤ R.locals
  omega
/-- a room with cells -/
def RC (k mc ms : Nat) : Room := { frames := k, cells := mc, slots := ms, locals := 64 * k }
theorem va_D_iff {A : Nat → Prop} {ws : va_W} : va_D A ws ↔ (ws.map fun q => q.1).Nodup ∧ ∀ q ∈ ws, A q.1 := by
  constructor
  · intro h
    refine ⟨?_, fun q hq => ?_⟩
    · refine List.pairwise_iff_getElem.mpr ?_
      intro i j hi hj hij he
      rw [List.length_map] at hi hj
      rw [List.getElem_map, List.getElem_map] at he
      have e := h.1 i j _ _ (List.getElem?_eq_getElem hi) (List.getElem?_eq_getElem hj) he
      omega
    · obtain ⟨k, hk⟩ := List.getElem?_of_mem hq
      exact h.2 k q hk
  · intro h
    refine ⟨fun i j p q hi hj he => ?_, fun k q hk => h.2 q (List.mem_of_getElem? hk)⟩
    have h1 := List.pairwise_iff_getElem.mp h.1
    have key : ∀ a b : Nat, ∀ x y : Nat × va_E, ws[a]? = some x → ws[b]? = some y → x.1 = y.1 → ¬ a < b := by
      intro a b x y ha hb hxy hab
      obtain ⟨ha2, ha3⟩ := List.getElem?_eq_some_iff.mp ha
      obtain ⟨hb2, hb3⟩ := List.getElem?_eq_some_iff.mp hb
      refine h1 a b (by rw [List.length_map]; exact ha2) (by rw [List.length_map]; exact hb2) hab ?_
      rw [List.getElem_map, List.getElem_map, ha3, hb3]
      exact hxy
    have k1 := key i j p q hi hj he
    have k2 := key j i q p hj hi he.symm
    omega
theorem va_P_iff {D : va_G} {cl : List vw_C} {ws : va_W} {H : Heap} : va_P D cl ws H ↔ ∀ q ∈ ws, va_at D cl q H := by
  constructor
  · intro h q hq
    obtain ⟨k, hk⟩ := List.getElem?_of_mem hq
    exact h k q hk
  · intro h k q hk
    exact h q (List.mem_of_getElem? hk)
theorem now_perm {G : GM} {s : State} {w w' : va_W} {H : Heap} {locs : List Loc} (hp : w.Perm w') (h : Now G s w H locs) : Now G s w' H locs := by
  refine ⟨va_P_iff.mpr fun q hq => va_P_iff.mp h.1 q (hp.mem_iff.mpr hq), va_D_iff.mpr ⟨((hp.map _).nodup_iff).mp (va_D_iff.mp h.2.1).1, fun q hq => (va_D_iff.mp h.2.1).2 q (hp.mem_iff.mpr hq)⟩, h.2.2⟩
theorem now_sub {G : GM} {s : State} {w w' : va_W} {H : Heap} {locs : List Loc} (h : Now G s (w ++ w') H locs) : Now G s w H locs := by
  refine ⟨va_P_iff.mpr fun q hq => va_P_iff.mp h.1 q (List.mem_append_left _ hq), va_D_iff.mpr ⟨?_, fun q hq => (va_D_iff.mp h.2.1).2 q (List.mem_append_left _ hq)⟩, h.2.2⟩
  have h1 := (va_D_iff.mp h.2.1).1
  rw [List.map_append] at h1
  exact (List.nodup_append.mp h1).1
theorem now_new {G : GM} {s : State} {w ex : va_W} {c : Nat × va_E} {H : Heap} {locs : List Loc} (h : Now G s ((w ++ ex) ++ [c]) H locs) : Now G s (w ++ (c :: ex)) H locs := by
  refine now_perm ?_ h
  rw [List.append_assoc]
  exact List.Perm.append_left w (List.perm_append_comm)
theorem now_drop {G : GM} {s : State} {w ex : va_W} {c : Nat × va_E} {H : Heap} {locs : List Loc} (h : Now G s (w ++ (c :: ex)) H locs) : Now G s (w ++ ex) H locs := by
  have h2 : Now G s ((w ++ ex) ++ [c]) H locs := by
    refine now_perm ?_ h
    rw [List.append_assoc]
    exact List.Perm.append_left w (List.perm_append_comm (l₁ := [c]) (l₂ := ex))
  exact now_sub h2
def XMi (l : Launch) (G : GM) (y : MethodName) (b : ByteArray) (n : Nat) (r : Option FieldType) (k mc ms : Nat) (av : List Value) (w0 : va_W) (ri : Int32) (w1 : va_W) : Prop :=
  Met l y (WS y b n r) (RC k mc ms) (va_Pc av (Ok G w0)) (va_Qi (fun (x : Int32) (_ : Unit) => x = ri) (fun _ => Ok G w1) G.2.1) mc ms G.2.1
theorem xm_start {l : Launch} {G : GM} {y : MethodName} {b : ByteArray} {n : Nat} {k mc ms : Nat} {av : List Value} {w0 w1 : va_W} {ri : Int32}
    (hy : plainName y.cls = true) (hn : (lg_sl av).length ≤ n)
    (body : ∀ (p : Program) (e : Env) (s : State) (m : MethodId) (args : Array Value) (below : List Frame) (meth : Method) (c : Code) (Q : State → Prop) (ls : Array Slot), FX p s m args c b n y.cls G → Now G s w0 s.heap [] → lv_has ls n (lv_args 0 av) →
      (∀ (H : Heap) (locs : List Loc) (ls : Array Slot) (pc : Nat) (v : Int32) (w : va_W), decode b pc = .ok (.ireturn, 1) → v = ri → w = w1 → Now G s w H locs → W p l e (RC k mc ms) s m args below meth c H locs mc ms Q (F0 m pc ls [.int v])) →
      W p l e (RC k mc ms) s m args below meth c s.heap [] 0 0 Q (F0 m 0 ls [])) : XMi l G y b n (some .int) k mc ms av w0 ri w1 := by
  refine Met.ofW (cc := b) (maxL := n) (ret := some .int) hy rfl ?_
  intro p e s m args below meth c s₁ B hml hv
  obtain ⟨rfl, hP, hK, hD, hA, hN⟩ := hv
  have hx := B.exec
  have hb := B.bytes
  have hr := B.returns
  have hts := atoms_spec (ws := WS y b n (some .int)) B.pre
  have hown : s.vm.findClass y.cls = some m.cls := findClass_of_methodNamed B.named
  have hlocks := B.notSynchronized
  rw [lg_entry_eq]
  refine body p e s m _ below meth c _ _ ⟨hx, hb, hml, hown, fun w h => hts w (List.mem_cons_of_mem _ h), hK, hN, hA⟩ ⟨hP, hD, va_S.rf⟩ (lv_entry av hn) (fun H locs ls pc v w hd hv hw hnw => ?_)
  subst hv; subst hw
  exact W.iret hx hb hr (fun t ht hW => ⟨⟨v, (), rfl, rfl, ok_end hK hN hA ht hW hnw⟩, hnw.2.2.F ht⟩) hnw.2.2.2.2 hd
section GRUN
variable {p : Program} {l : Launch} {e : Env} {R : Room} {cells slots : Nat} {s : State} {m : MethodId} {args : Array Value} {below : List Frame} {meth : Method} {c : Code} {H : Heap} {locs : List Loc} {Q : State → Prop} {cc : ByteArray} {nL : Nat} {own : String} {G : GM}
  {y : MethodName} {b : ByteArray} {n : Nat} {r : Option FieldType} {k2 : Nat} {w0 w1 : va_W} {pc : Nat} {ls : Array Slot} {st0 rest : List Value} {idx : Nat} {As : List Value} {a : Nat} {Qc : Array Value → State → Outcome → State → Prop} {ad : Nat → Nat} {ex : va_W} {st st1 : ST}
theorem grunV (hc0 : cells ≤ R.cells) (hs0 : slots ≤ R.slots) (F : FX p s m args c cc nL own G) (N : Now G s w0 H locs) (hMet : Met l y (WS y b n r) (RM k2) (va_Pc (.ref a :: As) (Ok G w0)) Qc 0 0 G.2.1) (hM : MIv y b n r As.length) (hl : Cond.methodLink own idx y ∈ goodT) (hk : RLv k2 R) (hsz : ls.size = nL) (hst : st0 = As.reverse ++ .ref a :: rest) (hrest : (rest.map fun v => v.category).sum ≤ 8)
    {q0 ci : Nat} {fs : List Value} {T : u_T} {NN : Nat} (he : w0[q0]? = some (a, .inr (ci, fs))) (hc : vwCl[ci]? = some (y.cls, T, NN)) (hd : decode cc pc = .ok (.invokevirtual idx, 3)) :
    va_Run p l e R s m args below meth c H locs cells slots 0 0 (F0 m pc ls st0) rest (Qc (Value.ref a :: As).toArray) G.2.1 := by
  obtain ⟨hx, hb, hml, hown, hts, hK, hN, hA⟩ := F
  obtain ⟨m1, m2, m3, m4, m5, m6⟩ := hM
  exact va_runV (As := As) (rest := rest) ⟨hx, hb, hml, hown, hts⟩ hMet ⟨callB_of As.length hts (good_WS m1) rfl rfl rfl (hts _ m4) (hts _ hl) m5 (rl_ok hk m6), hts _ m2, hts _ m3⟩
    ⟨ok_blind, va_recv hK N.1 hc he, fun U hU hW => ⟨rfl, ok_in hK hN hA hU hW N⟩⟩ rfl rfl hsz hst (lv_room hrest) hd ⟨hc0, hs0⟩
theorem grunVm {mc ms : Nat} (hc0 : cells + mc ≤ R.cells) (hs0 : slots + ms ≤ R.slots) (F : FX p s m args c cc nL own G) (N : Now G s w0 H locs) (hMet : Met l y (WS y b n r) (RC k2 mc ms) (va_Pc (.ref a :: As) (Ok G w0)) Qc mc ms G.2.1) (hM : MIv y b n r As.length) (hl : Cond.methodLink own idx y ∈ goodT) (hk : RLv k2 R) (hsz : ls.size = nL) (hst : st0 = As.reverse ++ .ref a :: rest) (hrest : (rest.map fun v => v.category).sum ≤ 8)
    {q0 ci : Nat} {fs : List Value} {T : u_T} {NN : Nat} (he : w0[q0]? = some (a, .inr (ci, fs))) (hc : vwCl[ci]? = some (y.cls, T, NN)) (hd : decode cc pc = .ok (.invokevirtual idx, 3)) :
    va_Run p l e R s m args below meth c H locs cells slots mc ms (F0 m pc ls st0) rest (Qc (Value.ref a :: As).toArray) G.2.1 := by
  obtain ⟨hx, hb, hml, hown, hts, hK, hN, hA⟩ := F
  obtain ⟨m1, m2, m3, m4, m5, m6⟩ := hM
  exact va_runV (As := As) (rest := rest) ⟨hx, hb, hml, hown, hts⟩ hMet ⟨callB_of As.length hts (good_WS m1) rfl rfl rfl (hts _ m4) (hts _ hl) m5 (rl_ok hk m6), hts _ m2, hts _ m3⟩
    ⟨ok_blind, va_recv hK N.1 hc he, fun U hU hW => ⟨rfl, ok_in hK hN hA hU hW N⟩⟩ rfl rfl hsz hst (lv_room hrest) hd ⟨hc0, hs0⟩
theorem grunS (hc0 : cells ≤ R.cells) (hs0 : slots ≤ R.slots) (F : FX p s m args c cc nL own G) (N : Now G s w0 H locs) (hMet : Met l y (WS y b n r) (RM k2) (va_Pc As (Ok G w0)) Qc 0 0 G.2.1) (hM : MIs y b n r As.length) (hl : Cond.methodLink own idx y ∈ goodT) (hk : RLv k2 R) (hsz : ls.size = nL) (hst : st0 = As.reverse ++ rest) (hrest : (rest.map fun v => v.category).sum ≤ 8) (hd : decode cc pc = .ok (.invokestatic idx, 3)) :
    va_Run p l e R s m args below meth c H locs cells slots 0 0 (F0 m pc ls st0) rest (Qc As.toArray) G.2.1 := by
  obtain ⟨hx, hb, hml, hown, hts, hK, hN, hA⟩ := F
  obtain ⟨m1, m2, m4, m5, m6⟩ := hM
  exact va_runS (As := As) (rest := rest) ⟨hx, hb, hml, hown, hts⟩ hMet ⟨callB_of As.length hts (good_WS m1) rfl rfl rfl (hts _ m4) (hts _ hl) m5 (rl_ok hk m6), hts _ m2⟩
    ⟨ok_blind, fun U hU hW => ⟨rfl, ok_in hK hN hA hU hW N⟩⟩ rfl rfl hsz hst (lv_room hrest) hd ⟨hc0, hs0⟩
theorem ggo_i {ri : Int32} {mc ms : Nat} (N : Now G s w0 H locs) {av : Array Value} (h : va_Run p l e R s m args below meth c H locs cells slots mc ms (F0 m pc ls st0) rest (va_Qi (fun (x : Int32) (_ : Unit) => x = ri) (fun _ => Ok G w1) G.2.1 av) G.2.1)
    (kk : ∀ (H : Heap) (locs : List Loc), Now G s w1 H locs → W p l e R s m args below meth c H locs (cells + mc) (slots + ms) Q (F0 m (pc + 3) ls (.int ri :: rest))) : W p l e R s m args below meth c H locs cells slots Q (F0 m pc ls st0) :=
  va_calli h N.2.2 (fun _ _ h => h) (fun _ h => h) (fun r u t H1 locs1 ht hvm hw hB hz1 hk1 hS => by subst hw; exact kk H1 locs1 ⟨by rw [← ht]; exact hB.1, hB.2.2.1, hS⟩)
theorem ggo_l {ri : Int64} {mc ms : Nat} (N : Now G s w0 H locs) {av : Array Value} (h : va_Run p l e R s m args below meth c H locs cells slots mc ms (F0 m pc ls st0) rest (va_Ql (fun (x : Int64) (_ : Unit) => x = ri) (fun _ => Ok G w1) G.2.1 av) G.2.1)
    (kk : ∀ (H : Heap) (locs : List Loc), Now G s w1 H locs → W p l e R s m args below meth c H locs (cells + mc) (slots + ms) Q (F0 m (pc + 3) ls (.long ri :: rest))) : W p l e R s m args below meth c H locs cells slots Q (F0 m pc ls st0) :=
  va_calll h N.2.2 (fun _ _ h => h) (fun _ h => h) (fun r u t H1 locs1 ht hvm hw hB hz1 hk1 hS => by subst hw; exact kk H1 locs1 ⟨by rw [← ht]; exact hB.1, hB.2.2.1, hS⟩)
theorem ggo_v {mc ms : Nat} (N : Now G s w0 H locs) {av : Array Value} (h : va_Run p l e R s m args below meth c H locs cells slots mc ms (F0 m pc ls st0) rest (va_Qv (fun (_ : Unit) => True) (fun _ => Ok G w1) G.2.1 av) G.2.1)
    (kk : ∀ (H : Heap) (locs : List Loc), Now G s w1 H locs → W p l e R s m args below meth c H locs (cells + mc) (slots + ms) Q (F0 m (pc + 3) ls rest)) : W p l e R s m args below meth c H locs cells slots Q (F0 m pc ls st0) :=
  va_callv h N.2.2 (fun _ _ h => h) (fun _ h => h) (fun u t H1 locs1 ht hvm hw hB hz1 hk1 hS => kk H1 locs1 ⟨by rw [← ht]; exact hB.1, hB.2.2.1, hS⟩)
end GRUN
