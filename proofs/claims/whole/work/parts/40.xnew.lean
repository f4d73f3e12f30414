/-! methods that make cells: constructors, areas -/
theorem arr_known {s : State} {args : Array Value} {ty : FieldType} (h : (Cond.arrayClass ty).before args s = true) : ∃ cA : ClassId, s.vm.findClass ("[" ++ ty.toString) = some cA ∧ ArrOfT s cA ty := by
  obtain ⟨c, k, comp, h1, h2, h3⟩ := Cond.arrayClass_spec h
  exact ⟨c, h1, fun n z => ⟨fun k h => (by cases h), k, h2, comp, h3⟩⟩
/-- a constructor: U what comes back (addresses), the world is W1 of it -/
def XNv (l : Launch) (G : GM) (y : MethodName) (b : ByteArray) (n k mc ms : Nat) (av : List Value) (w0 : va_W) (U : Type) (W1 : U → va_W) : Prop :=
  Met l y (WS y b n none) (RC k mc ms) (va_Pc av (Ok G w0)) (va_Qv (fun (_ : U) => True) (fun u => Ok G (W1 u)) G.2.1) mc ms G.2.1
theorem xn_start {l : Launch} {G : GM} {y : MethodName} {b : ByteArray} {n : Nat} {k mc ms : Nat} {av : List Value} {w0 : va_W} {U : Type} {W1 : U → va_W}
    (hy : plainName y.cls = true) (hi : y.name = "<init>") (hn : (lg_sl av).length ≤ n)
    (body : ∀ (p : Program) (e : Env) (s : State) (m : MethodId) (args : Array Value) (below : List Frame) (meth : Method) (c : Code) (Q : State → Prop) (ls : Array Slot), FX p s m args c b n y.cls G → Now G s w0 s.heap [] → lv_has ls n (lv_args 0 av) → meth.name = "<init>" →
      (∀ (H : Heap) (locs : List Loc) (ls : Array Slot) (pc : Nat) (u : U), decode b pc = .ok (.return_, 1) → Now G s (W1 u) H locs → W p l e (RC k mc ms) s m args below meth c H locs mc ms Q (F0 m pc ls [])) →
      W p l e (RC k mc ms) s m args below meth c s.heap [] 0 0 Q (F0 m 0 ls [])) : XNv l G y b n k mc ms av w0 U W1 := by
  refine Met.ofW (cc := b) (maxL := n) (ret := none) hy rfl ?_
  intro p e s m args below meth c s₁ B hml hv
  obtain ⟨rfl, hP, hK, hD, hA, hN⟩ := hv
  have hx := B.exec
  have hb := B.bytes
  have hr := B.returns
  have hts := atoms_spec (ws := WS y b n none) B.pre
  have hown : s.vm.findClass y.cls = some m.cls := findClass_of_methodNamed B.named
  have hin : meth.name = y.name := (name_of_methodNamed B.named B.method).1
  have hlocks := B.notSynchronized
  rw [lg_entry_eq]
  refine body p e s m _ below meth c _ _ ⟨hx, hb, hml, hown, fun w h => hts w (List.mem_cons_of_mem _ h), hK, hN, hA⟩ ⟨hP, hD, va_S.rf⟩ (lv_entry av hn) (hin.trans hi) (fun H locs ls pc u hd hnw => ?_)
  exact W.vret hx hb hr (fun t ht hW => ⟨⟨u, rfl, trivial, ok_end hK hN hA ht hW hnw⟩, hnw.2.2.F ht⟩) hnw.2.2.2.2 hd
theorem int0 : (fun _ : Nat => Value.int ((fun _ : Nat => (0 : Int32)) 0)) = fun _ => Value.int 0 := rfl
section NEWS
variable {p : Program} {l : Launch} {e : Env} {R : Room} {cells slots : Nat} {s : State} {m : MethodId} {args : Array Value} {below : List Frame} {meth : Method} {c : Code} {H : Heap} {locs : List Loc} {Q : State → Prop} {cc : ByteArray} {nL : Nat} {own : String} {G : GM} {pc : Nat} {ls : Array Slot} {rest : List Value} {idx : Nat} {w : va_W} {ex : va_W}
theorem na_i {n : Nat} (F : FX p s m args c cc nL own G) (N : Now G s (w ++ ex) H locs) (hn : n ≤ 10000) (hc : cells + 1 ≤ R.cells) (hs : slots + n ≤ R.slots) (hd : decode cc pc = .ok (.newarray .int, 2))
    (kk : ∀ (q : Nat) (H : Heap), Now G s (w ++ ((q, av_i G.2.2.1 n (fun _ => 0)) :: ex)) H locs → W p l e R s m args below meth c H locs (cells + 1) (slots + n) Q (F0 m (pc + 2) ls (.ref q :: rest))) : W p l e R s m args below meth c H locs cells slots Q (F0 m pc ls (.int (nI n) :: rest)) := by
  refine va_newa (atype := .int) (ty := .int) (a0 := (n, .inl (fun _ => 0))) F.1 F.2.1 (F.2.2.2.2.1 _ k_98) rfl F.2.2.2.2.2.1 N.1 N.2.1 N.2.2 F.2.2.2.2.2.2.2 (fun _ => rfl) (nI_pos (by omega)) (nI_clamp (by omega)) (by show n * 4 ≤ _; omega) hc hs hd (fun q cA H1 hK hP hD hS => ?_)
  have e : cA = G.2.2.1 := by
    have h1 : s.vm.findClass ("[" ++ FieldType.int.toString) = some cA := (hK.2 2 (cA, .int) rfl).2
    have h2 : s.vm.findClass ("[" ++ FieldType.int.toString) = some G.2.2.1 := (F.2.2.2.2.2.1.2 0 (G.2.2.1, .int) rfl).2
    exact Option.some.inj (h1.symm.trans h2)
  subst e
  exact kk q H1 (now_new ⟨hP, hD, hS⟩)
theorem na_z {n : Nat} (F : FX p s m args c cc nL own G) (N : Now G s (w ++ ex) H locs) (hn : n ≤ 10000) (hc : cells + 1 ≤ R.cells) (hs : slots + n ≤ R.slots) (hd : decode cc pc = .ok (.newarray .boolean, 2))
    (kk : ∀ (q : Nat) (H : Heap), Now G s (w ++ ((q, av_i G.2.2.2 n (fun _ => 0)) :: ex)) H locs → W p l e R s m args below meth c H locs (cells + 1) (slots + n) Q (F0 m (pc + 2) ls (.ref q :: rest))) : W p l e R s m args below meth c H locs cells slots Q (F0 m pc ls (.int (nI n) :: rest)) := by
  refine va_newa (atype := .boolean) (ty := .boolean) (a0 := (n, .inl (fun _ => 0))) F.1 F.2.1 (F.2.2.2.2.1 _ k_188) rfl F.2.2.2.2.2.1 N.1 N.2.1 N.2.2 F.2.2.2.2.2.2.2 (fun _ => rfl) (nI_pos (by omega)) (nI_clamp (by omega)) (by show n * 1 ≤ _; omega) hc hs hd (fun q cA H1 hK hP hD hS => ?_)
  have e : cA = G.2.2.2 := by
    have h1 : s.vm.findClass ("[" ++ FieldType.boolean.toString) = some cA := (hK.2 2 (cA, .boolean) rfl).2
    have h2 : s.vm.findClass ("[" ++ FieldType.boolean.toString) = some G.2.2.2 := (F.2.2.2.2.2.1.2 1 (G.2.2.2, .boolean) rfl).2
    exact Option.some.inj (h1.symm.trans h2)
  subst e
  exact kk q H1 (now_new ⟨hP, hD, hS⟩)
theorem xoI {a : Nat} (F : FX p s m args c cc nL own G) (hl : Cond.methodLink own idx objectInit ∈ goodT) (hsz : ls.size = nL) (hf : 1 ≤ R.frames) (hlo : 64 ≤ R.locals) (hrest : (rest.map fun v => v.category).sum ≤ 8) (hd : decode cc pc = .ok (.invokespecial idx, 3)) (kk : W p l e R s m args below meth c H locs cells slots Q (F0 m (pc + 3) ls rest)) : W p l e R s m args below meth c H locs cells slots Q (F0 m pc ls (.ref a :: rest)) :=
  W.objInit F.1 F.2.1 F.2.2.2.1 (F.2.2.2.2.1 _ hl) (F.2.2.2.2.1 _ k_81) (F.2.2.2.2.1 _ k_82) rfl (hsz.trans F.2.2.1.symm) rfl hd hf (by show 2 * 0 + (rest.map fun v => v.category).sum + 12 ≤ R.locals; omega) kk
/-- a constructor called -/
def MIi (y : MethodName) (b : ByteArray) (n : Nat) (nn : Nat) : Prop := Cond.code y b n none ∈ goodT ∧ Cond.instanceMethod y ∈ goodT ∧ Cond.initialized y.cls ∈ goodT ∧ (y.cls ≠ "java/lang/invoke/MethodHandle" ∧ y.cls ≠ "java/lang/invoke/VarHandle" ∧ (parseMethodDescriptor y.desc).map (fun d => d.parameters.length) = some nn) ∧ n ≤ 45 ∧ y.name = "<init>"
variable {y : MethodName} {b : ByteArray} {n k2 mc ms a : Nat} {As : List Value} {w0 : va_W} {U : Type} {W1 : U → va_W} {st0 : List Value}
theorem cI (F : FX p s m args c cc nL own G) (N : Now G s w0 H locs) (hC : XNv l G y b n k2 mc ms (.ref a :: As) w0 U W1) (hM : MIi y b n As.length) (hl : Cond.methodLink own idx y ∈ goodT) (hk : RLv k2 R) (hc : cells + mc ≤ R.cells) (hs : slots + ms ≤ R.slots) (hsz : ls.size = nL) (hst : st0 = As.reverse ++ .ref a :: rest) (hrest : (rest.map fun v => v.category).sum ≤ 8) (hd : decode cc pc = .ok (.invokespecial idx, 3))
    (kk : ∀ (u : U) (H : Heap) (locs : List Loc), Now G s (W1 u) H locs → W p l e R s m args below meth c H locs (cells + mc) (slots + ms) Q (F0 m (pc + 3) ls rest)) : W p l e R s m args below meth c H locs cells slots Q (F0 m pc ls st0) := by
  obtain ⟨hx, hb, hml, hown, hts, hK, hN, hA⟩ := F
  obtain ⟨m1, m2, m4, m5, m6, m7⟩ := hM
  exact va_callv (va_runI (As := As) (rest := rest) ⟨hx, hb, hml, hown, hts⟩ hC ⟨callB_of As.length hts (good_WS m1) rfl rfl rfl (hts _ m4) (hts _ hl) m5 (rl_ok hk m6), m7, hts _ m2⟩ ⟨ok_blind, fun U hU hW => ⟨rfl, ok_in hK hN hA hU hW N⟩⟩ rfl rfl hsz hst (lv_room hrest) hd ⟨hc, hs⟩) N.2.2 (fun _ _ h => h) (fun _ h => h) (fun u t H1 locs1 ht hvm hw hB hz1 hk1 hS => kk u H1 locs1 ⟨by rw [← ht]; exact hB.1, hB.2.2.1, hS⟩)
theorem cIN {host : String} (F : FX p s m args c cc nL own G) (N : Now G s w0 H locs) (hC : XNv l G y b n k2 mc ms (.ref a :: As) w0 U W1) (hM : MIi y b n As.length) (hl : Cond.methodLinkNest own idx y host ∈ nestT) (hk : RLv k2 R) (hc : cells + mc ≤ R.cells) (hs : slots + ms ≤ R.slots) (hsz : ls.size = nL) (hst : st0 = As.reverse ++ .ref a :: rest) (hrest : (rest.map fun v => v.category).sum ≤ 8) (hd : decode cc pc = .ok (.invokespecial idx, 3))
    (kk : ∀ (u : U) (H : Heap) (locs : List Loc), Now G s (W1 u) H locs → W p l e R s m args below meth c H locs (cells + mc) (slots + ms) Q (F0 m (pc + 3) ls rest)) : W p l e R s m args below meth c H locs cells slots Q (F0 m pc ls st0) := by
  obtain ⟨hx, hb, hml, hown, hts, hK, hN, hA⟩ := F
  obtain ⟨m1, m2, m4, m5, m6, m7⟩ := hM
  exact va_callv (va_runIN (As := As) (rest := rest) ⟨hx, hb, hml, hown, hts⟩ hC ⟨va_cnB As.length hts (good_WS m1) rfl rfl rfl (hN _ hl) (hts _ m4) m5 (rl_ok hk m6), m7, hts _ m2⟩ ⟨ok_blind, fun U hU hW => ⟨rfl, ok_in hK hN hA hU hW N⟩⟩ rfl rfl hsz hst (lv_room hrest) hd ⟨hc, hs⟩) N.2.2 (fun _ _ h => h) (fun _ h => h) (fun u t H1 locs1 ht hvm hw hB hz1 hk1 hS => kk u H1 locs1 ⟨by rw [← ht]; exact hB.1, hB.2.2.1, hS⟩)
end NEWS
theorem perm_front {α : Type} (L ex : List α) (c : α) : (L ++ (c :: ex)).Perm ([c] ++ (L ++ ex)) := List.perm_middle
theorem miX0_init : MIi yX0_init cX0_init 5 4 := ⟨k_470, k_469, k_74, by decide +kernel, by decide, rfl⟩
theorem miX1_init : MIi yX1_init cX1_init 1 0 := ⟨k_193, k_192, k_69, by decide +kernel, by decide, rfl⟩
theorem miX2_init : MIi yX2_init cX2_init 1 0 := ⟨k_134, k_133, k_66, by decide +kernel, by decide, rfl⟩
theorem miX3_init : MIi yX3_init cX3_init 2 1 := ⟨k_103, k_102, k_64, by decide +kernel, by decide, rfl⟩
theorem miX4_init : MIi yX4_init cX4_init 1 0 := ⟨k_120, k_119, k_65, by decide +kernel, by decide, rfl⟩
theorem miX6_init : MIi yX6_init cX6_init 1 0 := ⟨k_87, k_86, k_63, by decide +kernel, by decide, rfl⟩
theorem miX7_init : MIi yX7_init cX7_init 2 1 := ⟨k_151, k_150, k_67, by decide +kernel, by decide, rfl⟩
theorem miX8_init : MIi yX8_init cX8_init 1 0 := ⟨k_79, k_78, k_62, by decide +kernel, by decide, rfl⟩
theorem miX9_init : MIi yX9_init cX9_init 1 0 := ⟨k_680, k_679, k_70, by decide +kernel, by decide, rfl⟩
