/-! MY LAYER over the kit: one world for all methods, contracts that say exactly what is answered and what the world is then. -/
abbrev ST : Type := (Nat → Int32) × (Nat → Nat → Int32) × Int64
abbrev GM : Type := va_G × (Nat → Prop) × ClassId × ClassId
def WS (y : MethodName) (b : ByteArray) (n : Nat) (r : Option FieldType) : List Cond := Cond.code y b n r :: goodT
def RM (k : Nat) : Room := { frames := k, cells := 0, slots := 0, locals := 64 * k }
def Nst (U : State) : Prop := ∀ w ∈ nestT, va_Nw w U
def TY (G : GM) : List (ClassId × FieldType) := [(G.2.2.1, .int), (G.2.2.2, .boolean)]
def Ok (G : GM) (w : va_W) (U : State) : Prop := va_P G.1 vwCl w U.heap ∧ va_K G.1 vwCl (TY G) U ∧ va_D G.2.1 w ∧ (∀ q : Nat, U.heap.size ≤ q → G.2.1 q) ∧ Nst U
def FX (p : Program) (s : State) (m : MethodId) (args : Array Value) (c : Code) (cc : ByteArray) (nL : Nat) (own : String) (G : GM) : Prop :=
  p.tables.exec = Jvm.exec ∧ c.code = cc ∧ c.maxLocals = nL ∧ s.vm.findClass own = some m.cls ∧ (∀ w ∈ goodT, w.before args s = true) ∧ va_K G.1 vwCl (TY G) s ∧ Nst s ∧ (∀ q : Nat, s.heap.size ≤ q → G.2.1 q)
def Now (G : GM) (s : State) (w : va_W) (H : Heap) (locs : List Loc) : Prop := va_P G.1 vwCl w H ∧ va_D G.2.1 w ∧ va_S G.2.1 s.heap H locs
theorem nst_warm {s U : State} (hW : s.WarmedH U.vm) (h : Nst s) : Nst U := by
  intro w hw
  have h0 := h w hw
  have h1 : isNestW w = true := (List.mem_filter.mp hw).2
  cases w <;> first | exact va_Nw.warmM hW h0 | (simp [isNestW] at h1)
theorem nst_same {u U : State} (hv : u.vm = U.vm) (h : Nst u) : Nst U := by
  intro w hw
  have h0 := h w hw
  have h1 : isNestW w = true := (List.mem_filter.mp hw).2
  cases w <;> first | exact va_Nw.same rfl hv h0 | (simp [isNestW] at h1)
/-- the contract of a method that answers an int (or boolean): it answers ri, the world is w1 then -/
def XCi (l : Launch) (G : GM) (y : MethodName) (b : ByteArray) (n : Nat) (r : Option FieldType) (k : Nat) (av : List Value) (w0 : va_W) (ri : Int32) (w1 : va_W) : Prop :=
  Met l y (WS y b n r) (RM k) (va_Pc av (Ok G w0)) (va_Qi (fun (x : Int32) (_ : Unit) => x = ri) (fun _ => Ok G w1) G.2.1) 0 0 G.2.1
def XCl (l : Launch) (G : GM) (y : MethodName) (b : ByteArray) (n : Nat) (r : Option FieldType) (k : Nat) (av : List Value) (w0 : va_W) (ri : Int64) (w1 : va_W) : Prop :=
  Met l y (WS y b n r) (RM k) (va_Pc av (Ok G w0)) (va_Ql (fun (x : Int64) (_ : Unit) => x = ri) (fun _ => Ok G w1) G.2.1) 0 0 G.2.1
def XCv (l : Launch) (G : GM) (y : MethodName) (b : ByteArray) (n : Nat) (r : Option FieldType) (k : Nat) (av : List Value) (w0 : va_W) (w1 : va_W) : Prop :=
  Met l y (WS y b n r) (RM k) (va_Pc av (Ok G w0)) (va_Qv (fun (_ : Unit) => True) (fun _ => Ok G w1) G.2.1) 0 0 G.2.1
theorem ok_end {G : GM} {w : va_W} {s t : State} {H : Heap} {locs : List Loc} (hK : va_K G.1 vwCl (TY G) s) (hN : Nst s) (hA : ∀ q : Nat, s.heap.size ≤ q → G.2.1 q) (ht : t.heap = H) (hW : s.WarmedH t.vm) (hn : Now G s w H locs) : Ok G w t :=
  ⟨by rw [ht]; exact hn.1, va_K.moved hW.alike hK, hn.2.1, fun q hq => hA q (Nat.le_trans hn.2.2.1 (by rw [← ht]; exact hq)), nst_warm hW hN⟩
theorem ok_blind {G : GM} {w : va_W} {av : List Value} : FrameBlind (va_Pc av (Ok G w)) := fun a U g mk q =>
  ⟨q.1, q.2.1, va_K.moved (u := U) (U := U.calling g mk a) (Vm.Alike.refl U.vm) q.2.2.1, q.2.2.2.1, q.2.2.2.2.1, nst_same (u := U) (U := U.calling g mk a) rfl q.2.2.2.2.2⟩
theorem ok_in {G : GM} {w : va_W} {s U : State} {H : Heap} {locs : List Loc} (hK : va_K G.1 vwCl (TY G) s) (hN : Nst s) (hA : ∀ q : Nat, s.heap.size ≤ q → G.2.1 q) (hU : U.heap = H) (hW : s.WarmedH U.vm) (hn : Now G s w H locs) : Ok G w U :=
  ⟨by rw [hU]; exact hn.1, va_K.moved hW.alike hK, hn.2.1, fun q hq => hA q (Nat.le_trans hn.2.2.1 (by rw [← hU]; exact hq)), nst_warm hW hN⟩
theorem xi_start {l : Launch} {G : GM} {y : MethodName} {b : ByteArray} {n : Nat} {ty : FieldType} {k : Nat} {av : List Value} {w0 w1 : va_W} {ri : Int32}
    (hy : plainName y.cls = true) (hnr : narrow ty (.int ri) = .int ri) (hn : (lg_sl av).length ≤ n)
    (body : ∀ (p : Program) (e : Env) (s : State) (m : MethodId) (args : Array Value) (below : List Frame) (meth : Method) (c : Code) (Q : State → Prop) (ls : Array Slot), FX p s m args c b n y.cls G → Now G s w0 s.heap [] → lv_has ls n (lv_args 0 av) →
      (∀ (H : Heap) (locs : List Loc) (ls : Array Slot) (pc : Nat) (v : Int32) (w : va_W), decode b pc = .ok (.ireturn, 1) → v = ri → w = w1 → Now G s w H locs → W p l e (RM k) s m args below meth c H locs 0 0 Q (F0 m pc ls [.int v])) →
      W p l e (RM k) s m args below meth c s.heap [] 0 0 Q (F0 m 0 ls [])) : XCi l G y b n (some ty) k av w0 ri w1 := by
  refine Met.ofW (cc := b) (maxL := n) (ret := some ty) hy rfl ?_
  intro p e s m args below meth c s₁ B hml hv
  obtain ⟨rfl, hP, hK, hD, hA, hN⟩ := hv
  have hx := B.exec
  have hb := B.bytes
  have hr := B.returns
  have hts := atoms_spec (ws := WS y b n (some ty)) B.pre
  have hown : s.vm.findClass y.cls = some m.cls := findClass_of_methodNamed B.named
  have hlocks := B.notSynchronized
  rw [lg_entry_eq]
  refine body p e s m _ below meth c _ _ ⟨hx, hb, hml, hown, fun w h => hts w (List.mem_cons_of_mem _ h), hK, hN, hA⟩ ⟨hP, hD, va_S.rf⟩ (lv_entry av hn) (fun H locs ls pc v w hd hv hw hnw => ?_)
  subst hv; subst hw
  exact W.zret hx hb hr hnr (fun t ht hW => ⟨⟨v, (), rfl, rfl, ok_end hK hN hA ht hW hnw⟩, hnw.2.2.F ht⟩) hnw.2.2.2.2 hd
theorem xl_start {l : Launch} {G : GM} {y : MethodName} {b : ByteArray} {n : Nat} {k : Nat} {av : List Value} {w0 w1 : va_W} {ri : Int64}
    (hy : plainName y.cls = true) (hn : (lg_sl av).length ≤ n)
    (body : ∀ (p : Program) (e : Env) (s : State) (m : MethodId) (args : Array Value) (below : List Frame) (meth : Method) (c : Code) (Q : State → Prop) (ls : Array Slot), FX p s m args c b n y.cls G → Now G s w0 s.heap [] → lv_has ls n (lv_args 0 av) →
      (∀ (H : Heap) (locs : List Loc) (ls : Array Slot) (pc : Nat) (v : Int64) (w : va_W), decode b pc = .ok (.lreturn, 1) → v = ri → w = w1 → Now G s w H locs → W p l e (RM k) s m args below meth c H locs 0 0 Q (F0 m pc ls [.long v])) →
      W p l e (RM k) s m args below meth c s.heap [] 0 0 Q (F0 m 0 ls [])) : XCl l G y b n (some .long) k av w0 ri w1 := by
  refine Met.ofW (cc := b) (maxL := n) (ret := some .long) hy rfl ?_
  intro p e s m args below meth c s₁ B hml hv
  obtain ⟨rfl, hP, hK, hD, hA, hN⟩ := hv
  have hx := B.exec
  have hb := B.bytes
  have hr := B.returns
  have hts := atoms_spec (ws := WS y b n (some .long)) B.pre
  have hown : s.vm.findClass y.cls = some m.cls := findClass_of_methodNamed B.named
  have hlocks := B.notSynchronized
  rw [lg_entry_eq]
  refine body p e s m _ below meth c _ _ ⟨hx, hb, hml, hown, fun w h => hts w (List.mem_cons_of_mem _ h), hK, hN, hA⟩ ⟨hP, hD, va_S.rf⟩ (lv_entry av hn) (fun H locs ls pc v w hd hv hw hnw => ?_)
  subst hv; subst hw
  exact W.lret hx hb hr (fun t ht hW => ⟨⟨v, (), rfl, rfl, ok_end hK hN hA ht hW hnw⟩, hnw.2.2.F ht⟩) hnw.2.2.2.2 hd
theorem xv_start {l : Launch} {G : GM} {y : MethodName} {b : ByteArray} {n : Nat} {k : Nat} {av : List Value} {w0 w1 : va_W}
    (hy : plainName y.cls = true) (hn : (lg_sl av).length ≤ n)
    (body : ∀ (p : Program) (e : Env) (s : State) (m : MethodId) (args : Array Value) (below : List Frame) (meth : Method) (c : Code) (Q : State → Prop) (ls : Array Slot), FX p s m args c b n y.cls G → Now G s w0 s.heap [] → lv_has ls n (lv_args 0 av) →
      (∀ (H : Heap) (locs : List Loc) (ls : Array Slot) (pc : Nat) (w : va_W), decode b pc = .ok (.return_, 1) → w = w1 → Now G s w H locs → W p l e (RM k) s m args below meth c H locs 0 0 Q (F0 m pc ls [])) →
      W p l e (RM k) s m args below meth c s.heap [] 0 0 Q (F0 m 0 ls [])) : XCv l G y b n none k av w0 w1 := by
  refine Met.ofW (cc := b) (maxL := n) (ret := none) hy rfl ?_
  intro p e s m args below meth c s₁ B hml hv
  obtain ⟨rfl, hP, hK, hD, hA, hN⟩ := hv
  have hx := B.exec
  have hb := B.bytes
  have hr := B.returns
  have hts := atoms_spec (ws := WS y b n none) B.pre
  have hown : s.vm.findClass y.cls = some m.cls := findClass_of_methodNamed B.named
  have hlocks := B.notSynchronized
  rw [lg_entry_eq]
  refine body p e s m _ below meth c _ _ ⟨hx, hb, hml, hown, fun w h => hts w (List.mem_cons_of_mem _ h), hK, hN, hA⟩ ⟨hP, hD, va_S.rf⟩ (lv_entry av hn) (fun H locs ls pc w hd hw hnw => ?_)
  subst hw
  exact W.vret hx hb hr (fun t ht hW => ⟨⟨(), rfl, trivial, ok_end hK hN hA ht hW hnw⟩, hnw.2.2.F ht⟩) hnw.2.2.2.2 hd
/-- what the tables say of a method that is called, once for all calls -/
def MIv (y : MethodName) (b : ByteArray) (n : Nat) (r : Option FieldType) (nn : Nat) : Prop := Cond.code y b n r ∈ goodT ∧ Cond.instanceMethod y ∈ goodT ∧ Cond.selects y.cls y y ∈ goodT ∧ Cond.initialized y.cls ∈ goodT ∧ (y.cls ≠ "java/lang/invoke/MethodHandle" ∧ y.cls ≠ "java/lang/invoke/VarHandle" ∧ (parseMethodDescriptor y.desc).map (fun d => d.parameters.length) = some nn) ∧ n ≤ 45
def MIs (y : MethodName) (b : ByteArray) (n : Nat) (r : Option FieldType) (nn : Nat) : Prop := Cond.code y b n r ∈ goodT ∧ Cond.static y ∈ goodT ∧ Cond.initialized y.cls ∈ goodT ∧ (y.cls ≠ "java/lang/invoke/MethodHandle" ∧ y.cls ≠ "java/lang/invoke/VarHandle" ∧ (parseMethodDescriptor y.desc).map (fun d => d.parameters.length) = some nn) ∧ n ≤ 45
theorem good_WS {y : MethodName} {b : ByteArray} {n : Nat} {r : Option FieldType} (h : Cond.code y b n r ∈ goodT) : GoodIn goodT (WS y b n r) := fun w hw => by
  have hm : w ∈ goodT := by
    rcases List.mem_cons.mp hw with e | e
    · rw [e]; exact h
    · exact e
  exact ⟨hm, good_of_word (List.mem_filter.mp hm).2⟩
section XRUN
variable {p : Program} {l : Launch} {e : Env} {k : Nat} {s : State} {m : MethodId} {args : Array Value} {below : List Frame} {meth : Method} {c : Code} {H : Heap} {locs : List Loc} {Q : State → Prop} {cc : ByteArray} {nL : Nat} {own : String} {G : GM}
  {y : MethodName} {b : ByteArray} {n : Nat} {r : Option FieldType} {k2 : Nat} {w0 w1 : va_W} {pc : Nat} {ls : Array Slot} {st0 rest : List Value} {idx : Nat} {As : List Value} {a : Nat} {Qc : Array Value → State → Outcome → State → Prop}
theorem rm_ok {k k2 n : Nat} (hk : k2 < k) (hn : n ≤ 45) : (RM k2).frames + 1 ≤ (RM k).frames ∧ 8 + (n + 11) + (RM k2).locals ≤ (RM k).locals := by
  show k2 + 1 ≤ k ∧ 8 + (n + 11) + 64 * k2 ≤ 64 * k
  omega
theorem xrunV (F : FX p s m args c cc nL own G) (N : Now G s w0 H locs) (hMet : Met l y (WS y b n r) (RM k2) (va_Pc (.ref a :: As) (Ok G w0)) Qc 0 0 G.2.1) (hM : MIv y b n r As.length) (hl : Cond.methodLink own idx y ∈ goodT) (hk : k2 < k) (hsz : ls.size = nL) (hst : st0 = As.reverse ++ .ref a :: rest) (hrest : (rest.map fun v => v.category).sum ≤ 8)
    {q0 ci : Nat} {fs : List Value} {T : u_T} {NN : Nat} (he : w0[q0]? = some (a, .inr (ci, fs))) (hc : vwCl[ci]? = some (y.cls, T, NN)) (hd : decode cc pc = .ok (.invokevirtual idx, 3)) :
    va_Run p l e (RM k) s m args below meth c H locs 0 0 0 0 (F0 m pc ls st0) rest (Qc (Value.ref a :: As).toArray) G.2.1 := by
  obtain ⟨hx, hb, hml, hown, hts, hK, hN, hA⟩ := F
  obtain ⟨m1, m2, m3, m4, m5, m6⟩ := hM
  exact va_runV (As := As) (rest := rest) ⟨hx, hb, hml, hown, hts⟩ hMet ⟨callB_of As.length hts (good_WS m1) rfl rfl rfl (hts _ m4) (hts _ hl) m5 (rm_ok hk m6), hts _ m2, hts _ m3⟩
    ⟨ok_blind, va_recv hK N.1 hc he, fun U hU hW => ⟨rfl, ok_in hK hN hA hU hW N⟩⟩ rfl rfl hsz hst (lv_room hrest) hd ⟨Nat.zero_le _, Nat.zero_le _⟩
theorem xrunS (F : FX p s m args c cc nL own G) (N : Now G s w0 H locs) (hMet : Met l y (WS y b n r) (RM k2) (va_Pc As (Ok G w0)) Qc 0 0 G.2.1) (hM : MIs y b n r As.length) (hl : Cond.methodLink own idx y ∈ goodT) (hk : k2 < k) (hsz : ls.size = nL) (hst : st0 = As.reverse ++ rest) (hrest : (rest.map fun v => v.category).sum ≤ 8) (hd : decode cc pc = .ok (.invokestatic idx, 3)) :
    va_Run p l e (RM k) s m args below meth c H locs 0 0 0 0 (F0 m pc ls st0) rest (Qc As.toArray) G.2.1 := by
  obtain ⟨hx, hb, hml, hown, hts, hK, hN, hA⟩ := F
  obtain ⟨m1, m2, m4, m5, m6⟩ := hM
  exact va_runS (As := As) (rest := rest) ⟨hx, hb, hml, hown, hts⟩ hMet ⟨callB_of As.length hts (good_WS m1) rfl rfl rfl (hts _ m4) (hts _ hl) m5 (rm_ok hk m6), hts _ m2⟩
    ⟨ok_blind, fun U hU hW => ⟨rfl, ok_in hK hN hA hU hW N⟩⟩ rfl rfl hsz hst (lv_room hrest) hd ⟨Nat.zero_le _, Nat.zero_le _⟩
theorem xrunSN {host : String} (F : FX p s m args c cc nL own G) (N : Now G s w0 H locs) (hMet : Met l y (WS y b n r) (RM k2) (va_Pc As (Ok G w0)) Qc 0 0 G.2.1) (hM : MIs y b n r As.length) (hl : Cond.methodLinkNest own idx y host ∈ nestT) (hk : k2 < k) (hsz : ls.size = nL) (hst : st0 = As.reverse ++ rest) (hrest : (rest.map fun v => v.category).sum ≤ 8) (hd : decode cc pc = .ok (.invokestatic idx, 3)) :
    va_Run p l e (RM k) s m args below meth c H locs 0 0 0 0 (F0 m pc ls st0) rest (Qc As.toArray) G.2.1 := by
  obtain ⟨hx, hb, hml, hown, hts, hK, hN, hA⟩ := F
  obtain ⟨m1, m2, m4, m5, m6⟩ := hM
  exact va_runSN (As := As) (rest := rest) ⟨hx, hb, hml, hown, hts⟩ hMet ⟨va_cnB As.length hts (good_WS m1) rfl rfl rfl (hN _ hl) (hts _ m4) m5 (rm_ok hk m6), hts _ m2, trivial⟩
    ⟨ok_blind, fun U hU hW => ⟨rfl, ok_in hK hN hA hU hW N⟩⟩ rfl rfl hsz hst (lv_room hrest) hd ⟨Nat.zero_le _, Nat.zero_le _⟩
theorem xgo_i {ri : Int32} (N : Now G s w0 H locs) {av : Array Value} (h : va_Run p l e (RM k) s m args below meth c H locs 0 0 0 0 (F0 m pc ls st0) rest (va_Qi (fun (x : Int32) (_ : Unit) => x = ri) (fun _ => Ok G w1) G.2.1 av) G.2.1)
    (kk : ∀ (H : Heap) (locs : List Loc), Now G s w1 H locs → W p l e (RM k) s m args below meth c H locs 0 0 Q (F0 m (pc + 3) ls (.int ri :: rest))) : W p l e (RM k) s m args below meth c H locs 0 0 Q (F0 m pc ls st0) :=
  va_calli h N.2.2 (fun _ _ h => h) (fun _ h => h) (fun r u t H1 locs1 ht hvm hw hB hz1 hk1 hS => by subst hw; exact kk H1 locs1 ⟨by rw [← ht]; exact hB.1, hB.2.2.1, hS⟩)
theorem xgo_l {ri : Int64} (N : Now G s w0 H locs) {av : Array Value} (h : va_Run p l e (RM k) s m args below meth c H locs 0 0 0 0 (F0 m pc ls st0) rest (va_Ql (fun (x : Int64) (_ : Unit) => x = ri) (fun _ => Ok G w1) G.2.1 av) G.2.1)
    (kk : ∀ (H : Heap) (locs : List Loc), Now G s w1 H locs → W p l e (RM k) s m args below meth c H locs 0 0 Q (F0 m (pc + 3) ls (.long ri :: rest))) : W p l e (RM k) s m args below meth c H locs 0 0 Q (F0 m pc ls st0) :=
  va_calll h N.2.2 (fun _ _ h => h) (fun _ h => h) (fun r u t H1 locs1 ht hvm hw hB hz1 hk1 hS => by subst hw; exact kk H1 locs1 ⟨by rw [← ht]; exact hB.1, hB.2.2.1, hS⟩)
theorem xgo_v (N : Now G s w0 H locs) {av : Array Value} (h : va_Run p l e (RM k) s m args below meth c H locs 0 0 0 0 (F0 m pc ls st0) rest (va_Qv (fun (_ : Unit) => True) (fun _ => Ok G w1) G.2.1 av) G.2.1)
    (kk : ∀ (H : Heap) (locs : List Loc), Now G s w1 H locs → W p l e (RM k) s m args below meth c H locs 0 0 Q (F0 m (pc + 3) ls rest)) : W p l e (RM k) s m args below meth c H locs 0 0 Q (F0 m pc ls st0) :=
  va_callv h N.2.2 (fun _ _ h => h) (fun _ h => h) (fun u t H1 locs1 ht hvm hw hB hz1 hk1 hS => kk H1 locs1 ⟨by rw [← ht]; exact hB.1, hB.2.2.1, hS⟩)
theorem cV_i {ri : Int32} (F : FX p s m args c cc nL own G) (N : Now G s w0 H locs) (hC : XCi l G y b n r k2 (.ref a :: As) w0 ri w1) (hM : MIv y b n r As.length) (hl : Cond.methodLink own idx y ∈ goodT) (hk : k2 < k) (hsz : ls.size = nL) (hst : st0 = As.reverse ++ .ref a :: rest) (hrest : (rest.map fun v => v.category).sum ≤ 8)
    {q0 ci : Nat} {fs : List Value} {T : u_T} {NN : Nat} (he : w0[q0]? = some (a, .inr (ci, fs))) (hc : vwCl[ci]? = some (y.cls, T, NN)) (hd : decode cc pc = .ok (.invokevirtual idx, 3))
    (kk : ∀ (H : Heap) (locs : List Loc), Now G s w1 H locs → W p l e (RM k) s m args below meth c H locs 0 0 Q (F0 m (pc + 3) ls (.int ri :: rest))) : W p l e (RM k) s m args below meth c H locs 0 0 Q (F0 m pc ls st0) := xgo_i N (xrunV F N hC hM hl hk hsz hst hrest he hc hd) kk
theorem cV_l {ri : Int64} (F : FX p s m args c cc nL own G) (N : Now G s w0 H locs) (hC : XCl l G y b n r k2 (.ref a :: As) w0 ri w1) (hM : MIv y b n r As.length) (hl : Cond.methodLink own idx y ∈ goodT) (hk : k2 < k) (hsz : ls.size = nL) (hst : st0 = As.reverse ++ .ref a :: rest) (hrest : (rest.map fun v => v.category).sum ≤ 8)
    {q0 ci : Nat} {fs : List Value} {T : u_T} {NN : Nat} (he : w0[q0]? = some (a, .inr (ci, fs))) (hc : vwCl[ci]? = some (y.cls, T, NN)) (hd : decode cc pc = .ok (.invokevirtual idx, 3))
    (kk : ∀ (H : Heap) (locs : List Loc), Now G s w1 H locs → W p l e (RM k) s m args below meth c H locs 0 0 Q (F0 m (pc + 3) ls (.long ri :: rest))) : W p l e (RM k) s m args below meth c H locs 0 0 Q (F0 m pc ls st0) := xgo_l N (xrunV F N hC hM hl hk hsz hst hrest he hc hd) kk
theorem cV_v (F : FX p s m args c cc nL own G) (N : Now G s w0 H locs) (hC : XCv l G y b n r k2 (.ref a :: As) w0 w1) (hM : MIv y b n r As.length) (hl : Cond.methodLink own idx y ∈ goodT) (hk : k2 < k) (hsz : ls.size = nL) (hst : st0 = As.reverse ++ .ref a :: rest) (hrest : (rest.map fun v => v.category).sum ≤ 8)
    {q0 ci : Nat} {fs : List Value} {T : u_T} {NN : Nat} (he : w0[q0]? = some (a, .inr (ci, fs))) (hc : vwCl[ci]? = some (y.cls, T, NN)) (hd : decode cc pc = .ok (.invokevirtual idx, 3))
    (kk : ∀ (H : Heap) (locs : List Loc), Now G s w1 H locs → W p l e (RM k) s m args below meth c H locs 0 0 Q (F0 m (pc + 3) ls rest)) : W p l e (RM k) s m args below meth c H locs 0 0 Q (F0 m pc ls st0) := xgo_v N (xrunV F N hC hM hl hk hsz hst hrest he hc hd) kk
theorem cS_i {ri : Int32} (F : FX p s m args c cc nL own G) (N : Now G s w0 H locs) (hC : XCi l G y b n r k2 As w0 ri w1) (hM : MIs y b n r As.length) (hl : Cond.methodLink own idx y ∈ goodT) (hk : k2 < k) (hsz : ls.size = nL) (hst : st0 = As.reverse ++ rest) (hrest : (rest.map fun v => v.category).sum ≤ 8) (hd : decode cc pc = .ok (.invokestatic idx, 3))
    (kk : ∀ (H : Heap) (locs : List Loc), Now G s w1 H locs → W p l e (RM k) s m args below meth c H locs 0 0 Q (F0 m (pc + 3) ls (.int ri :: rest))) : W p l e (RM k) s m args below meth c H locs 0 0 Q (F0 m pc ls st0) := xgo_i N (xrunS F N hC hM hl hk hsz hst hrest hd) kk
theorem cS_v (F : FX p s m args c cc nL own G) (N : Now G s w0 H locs) (hC : XCv l G y b n r k2 As w0 w1) (hM : MIs y b n r As.length) (hl : Cond.methodLink own idx y ∈ goodT) (hk : k2 < k) (hsz : ls.size = nL) (hst : st0 = As.reverse ++ rest) (hrest : (rest.map fun v => v.category).sum ≤ 8) (hd : decode cc pc = .ok (.invokestatic idx, 3))
    (kk : ∀ (H : Heap) (locs : List Loc), Now G s w1 H locs → W p l e (RM k) s m args below meth c H locs 0 0 Q (F0 m (pc + 3) ls rest)) : W p l e (RM k) s m args below meth c H locs 0 0 Q (F0 m pc ls st0) := xgo_v N (xrunS F N hC hM hl hk hsz hst hrest hd) kk
theorem cN_i {ri : Int32} {host : String} (F : FX p s m args c cc nL own G) (N : Now G s w0 H locs) (hC : XCi l G y b n r k2 As w0 ri w1) (hM : MIs y b n r As.length) (hl : Cond.methodLinkNest own idx y host ∈ nestT) (hk : k2 < k) (hsz : ls.size = nL) (hst : st0 = As.reverse ++ rest) (hrest : (rest.map fun v => v.category).sum ≤ 8) (hd : decode cc pc = .ok (.invokestatic idx, 3))
    (kk : ∀ (H : Heap) (locs : List Loc), Now G s w1 H locs → W p l e (RM k) s m args below meth c H locs 0 0 Q (F0 m (pc + 3) ls (.int ri :: rest))) : W p l e (RM k) s m args below meth c H locs 0 0 Q (F0 m pc ls st0) := xgo_i N (xrunSN F N hC hM hl hk hsz hst hrest hd) kk
end XRUN
