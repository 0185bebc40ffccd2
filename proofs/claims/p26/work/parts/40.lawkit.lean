section BHW
variable {p : Program} {l : Launch} {e : Env} {R : Room} {s : State} {m : MethodId} {args : Array Value} {below : List Frame} {meth : Method} {c : Code} {cells slots : Nat} {Q : State → Prop}
variable {cc : ByteArray} {nL : Nat} {Ts : List Cond} {own : String} {D : va_G} {tys : List (ClassId × FieldType)} {A : Nat → Prop} {ret : Option FieldType}
variable {w w' : va_W} {lv lv' : List (Nat × Value)} {pc : Nat} {st rest : List Value}
/-- a method with handlers, that needs what a catch needs -/
def bh_Wi {S : Type} (l : Launch) (D : va_G) (tys : List (ClassId × FieldType)) (y : MethodName) (ws : List Cond) (rm : Room) (av : List Value) (w0 : va_W) (post : Int32 → S → Prop) (wf : S → va_W) (mc ms : Nat) : Prop :=
  ∀ sz : Nat, Met l y ws rm (va_Pc av (bh_PX D tys w0 sz)) (va_Qi post (fun u t => bh_B D tys (va_A w0 sz) (wf u) t) (va_A w0 sz)) mc ms (va_A w0 sz)
theorem bh_ofWi {S : Type} {y : MethodName} {ws ws' : List Cond} {rm : Room} {av : List Value} {w0 : va_W} {post : Int32 → S → Prop} {wf : S → va_W} {mc ms : Nat} {cc : ByteArray} {maxL : Nat} {ty : FieldType} {hh : List (Nat × Nat × Nat × Nat)} (hy : plainName y.cls = true) (hw : ws = Cond.codeWith y cc maxL (some ty) hh :: ws') (hn : (lg_sl av).length ≤ maxL)
    (body : ∀ (p : Program) (e : Env) (s : State) (m : MethodId) (args : Array Value) (below : List Frame) (meth : Method) (c : Code) (A : Nat → Prop) (Q : State → Prop), bh_C p s m args meth c cc maxL ws y.cls D tys A (some ty) → Q = MQ below (va_Qi post (fun u t => bh_B D tys A (wf u) t) A) args s mc ms A → xe_E A s s.heap → c.exceptionTable.toList = tableOf hh → bh_W p l e rm s m args below meth c maxL D A 0 0 Q w0 (lv_args 0 av) 0 []) : bh_Wi l D tys y ws rm av w0 post wf mc ms := by
  intro sz
  refine va_MetW (cc := cc) (maxL := maxL) (ret := some ty) hy hw ?_
  intro p e s m args below meth c s₁ B hml hv
  obtain ⟨rfl, ⟨hsz, hP, hK, hD0⟩, hE⟩ := hv
  subst hsz
  have hl := lv_entry av (n := maxL) hn
  have htab := vx_table (x := y) B (atoms_spec (ws := ws) B.pre _ (by rw [hw]; exact List.mem_cons_self))
  rw [lg_entry_eq]
  exact body p e s m _ below meth c (va_A w0 s.heap.size) _ ⟨⟨B.exec, B.bytes, hml, findClass_of_methodNamed B.named, atoms_spec (ws := ws) B.pre⟩, hK, fun q h => Or.inr h, B.returns, B.notSynchronized⟩ rfl hE htab s.heap [] _ hP hD0.self va_S.rf hl
/-- the frame at pc with something of class E thrown over it -/
def bh_V (p : Program) (l : Launch) (e : Env) (R : Room) (s : State) (m : MethodId) (args : Array Value) (below : List Frame) (meth : Method) (c : Code) (nL : Nat) (D : va_G) (A : Nat → Prop) (cells slots : Nat) (Q : State → Prop) (w : va_W) (lv : List (Nat × Value)) (pc : Nat) (st : List Value) (E : String) : Prop :=
  ∀ (H : Heap) (locs : List Loc) (ls : Array Slot) (q : Addr) (ce : Cell), va_P D vwCl w H → va_D A w → va_S A s.heap H locs → lv_has ls nL lv → H[q]? = some ce → ce.vm = .none → s.vm.findClass E = some ce.cls → vx_W p l e R s m args below meth c H locs cells slots Q (F0 m pc ls st) q
theorem bh_catch (C : bh_C p s m args meth c cc nL Ts own D tys A ret) (hE : xe_E A s s.heap) {hh : List (Nat × Nat × Nat × Nat)} (htab : c.exceptionTable.toList = tableOf hh) {E name : String} (pre : List ExceptionTableEntry) (x : ExceptionTableEntry) (suf : List ExceptionTableEntry) (hsplit : tableOf hh = pre ++ x :: suf)
    (hpass : ∀ z ∈ pre, z.catchType ≠ 0 ∧ ∃ nm : String, Cond.classLink own z.catchType nm ∈ Ts ∧ (E, nm) ∈ xe_nc) (hx : covers x pc = true) (h0 : x.catchType ≠ 0) (hlink : Cond.classLink own x.catchType name ∈ Ts) (hcast : Cond.castable E name ∈ xe_bad)
    (kk : ∀ q : Nat, bh_W p l e R s m args below meth c nL D A cells slots Q (w) lv (x.handlerPc) ([.ref q])) : bh_V p l e R s m args below meth c nL D A cells slots Q w lv pc st E := by
  intro H locs ls q ce hP hD hS h hce hcv hcl
  obtain ⟨⟨hx1, hb, hml, hown, hts⟩, hK, hA, hr, hlk⟩ := C
  exact vx_catch hown pre x suf (htab.trans hsplit) (fun z hz => Or.inr ⟨(hpass z hz).1, (hpass z hz).2.choose, hts _ (hpass z hz).2.choose_spec.1, hE.2.2.1 _ (hpass z hz).2.choose_spec.2⟩) hx h0 (hts _ hlink) (xe_badU hcast (hE.2.1 _ hcast)) hce hcv hcl (kk q H locs ls hP hD hS h)
/-- a call of one that may throw, its world beside another: it returns, or the world is as before and the exception stands over this frame -/
theorem bh_wcalli (C : bh_C p s m args meth c cc nL Ts own D tys A ret) (hE : xe_E A s s.heap) {S : Type} {post : Int32 → S → Prop} {wf : S → va_W} {pc1 : String → Prop} {wc wr : va_W} {mc ms n index maxL : Nat} {y : MethodName} {bytes : ByteArray} {rt : Option FieldType} {ws : List Cond} {rm : Room} {b : Addr} {As : List Value} {Cn : String} {T : u_T} {N ci : Nat} {fs : List Value} (hM : bh_Xi l D tys y ws rm (.ref b :: As) wc post wf pc1 mc ms) (cw : CallW R s args own Cn index y bytes maxL rt ws rm mc ms n) (hcn : vwCl[ci]? = some (Cn, T, N)) (q0 : Nat) (hb0 : wc[q0]? = some (b, .inr (ci, fs))) (hn : As.length = n) (hst : st = As.reverse ++ .ref b :: rest) (hcat : (rest.map fun v => v.category).sum ≤ 8) (hdg : decode cc pc = .ok (.invokevirtual index, 3)) (hf : cells + mc ≤ R.cells ∧ slots + ms ≤ R.slots)
    (kx : ∀ E : String, pc1 E → bh_V p l e R s m args below meth c nL D A (cells + mc) (slots + ms) Q (wc ++ wr) lv pc rest E) (kk : ∀ (r : Int32) (u : S), post r u → bh_W p l e R s m args below meth c nL D A (cells + 0) (slots + 0) Q ((wf u ++ wr)) lv (pc + 3) (.int r :: rest)) : bh_W p l e R s m args below meth c nL D A cells slots Q ((wc ++ wr)) lv (pc) (st) := by
  intro H locs ls hP hD hS h
  have hC := C
  obtain ⟨S0, hK, hA, hr, hlk⟩ := C
  have hP2 := bh_Pperm List.perm_append_comm hP
  have hD2 := bh_Dperm List.perm_append_comm hD
  have hF := bh_free hD2 hS hA
  have hPc := (bh_Papp.mp hP2).2
  have hDc : va_D (fun _ => True) wc := ((bh_Dapp.mp hD2).2.1).weaken (fun _ _ _ _ => trivial)
  refine bz_calli (bz_runV (As := As) (rest := rest) S0 (hM H.size) cw ⟨bh_xblind, va_recv hK hPc hcn hb0, fun U hU hW => ⟨rfl, ⟨by rw [hU], by rw [hU]; exact hPc, va_K.moved hW.alike hK, hDc⟩, by rw [hU]; exact hE.to hW hS.2.1 hF⟩⟩ rfl hn h.1 hst (lv_room hcat) hdg hf) hS (fun q _ h => hF q h) hF (fun q _ h => hF q h) (fun E ce q9 u t H1 locs1 ht hvm hp hB hz1 hk1 hS1 hce hcv hcl => ?_) (fun r u t H1 locs1 ht hvm hp hB hz1 hk1 hS1 => ?_)
  · obtain ⟨hp1, hP1, hK1, hD1⟩ := hB
    rw [ht] at hP1
    obtain ⟨hP3, hD3⟩ := bh_join hP2 hD2 hk1 hF hP1 hD1
    exact kx E hp1 H1 locs1 ls q9 ce (bh_Pperm List.perm_append_comm hP3) (bh_Dperm List.perm_append_comm hD3) hS1 h hce hcv hcl
  · obtain ⟨hP1, hK1, hD1⟩ := hB
    rw [ht] at hP1
    obtain ⟨hP3, hD3⟩ := bh_join hP2 hD2 hk1 hF hP1 hD1
    exact kk r u hp H1 locs1 ls (bh_Pperm List.perm_append_comm hP3) (bh_Dperm List.perm_append_comm hD3) hS1 h
/-- a static call of a method with handlers -/
theorem bh_calli_W (C : bh_C p s m args meth c cc nL Ts own D tys A ret) (hE : xe_E A s s.heap) {S : Type} {post : Int32 → S → Prop} {wf : S → va_W} {wc wr : va_W} {mc ms n index maxL : Nat} {y : MethodName} {bytes : ByteArray} {rt : Option FieldType} {hh : List (Nat × Nat × Nat × Nat)} {ws : List Cond} {rm : Room} {As : List Value} (hM : bh_Wi l D tys y ws rm As wc post wf mc ms) (cw : vx_CSW R s args own index y bytes maxL rt hh ws rm mc ms n) (hn : As.length = n) (hst : st = As.reverse ++ rest) (hcat : (rest.map fun v => v.category).sum ≤ 8) (hdg : decode cc pc = .ok (.invokestatic index, 3)) (hf : cells + mc ≤ R.cells ∧ slots + ms ≤ R.slots)
    (kk : ∀ (r : Int32) (u : S), post r u → bh_W p l e R s m args below meth c nL D A (cells + mc) (slots + ms) Q ((wr ++ wf u)) lv (pc + 3) (.int r :: rest)) : bh_W p l e R s m args below meth c nL D A cells slots Q ((wr ++ wc)) lv (pc) (st) := by
  intro H locs ls hP hD hS h
  obtain ⟨S0, hK, hA, hr, hlk⟩ := C
  have hF := bh_free hD hS hA
  have hPc := (bh_Papp.mp hP).2
  have hDc : va_D (fun _ => True) wc := ((bh_Dapp.mp hD).2.1).weaken (fun _ _ _ _ => trivial)
  refine va_calli (vx_runSW (As := As) (rest := rest) S0 (hM H.size) cw ⟨bh_xblind, fun U hU hW => ⟨rfl, ⟨by rw [hU], by rw [hU]; exact hPc, va_K.moved hW.alike hK, hDc⟩, by rw [hU]; exact hE.to hW hS.2.1 hF⟩⟩ rfl hn h.1 hst (lv_room hcat) hdg hf) hS (fun q _ h => hF q h) hF (fun r u t H1 locs1 ht hvm hp hB hz1 hk1 hS1 => ?_)
  obtain ⟨hP1, hK1, hD1⟩ := hB
  rw [ht] at hP1
  obtain ⟨hP3, hD3⟩ := bh_join hP hD hk1 hF hP1 hD1
  exact kk r u hp H1 locs1 ls hP3 hD3 hS1 h
/-- a method without handlers, that needs what a catch needs -/
theorem bh_ofYi {S : Type} {y : MethodName} {ws ws' : List Cond} {rm : Room} {av : List Value} {w0 : va_W} {post : Int32 → S → Prop} {wf : S → va_W} {mc ms : Nat} {cc : ByteArray} {maxL : Nat} {ty : FieldType} (hy : plainName y.cls = true) (hw : ws = Cond.code y cc maxL (some ty) :: ws') (hn : (lg_sl av).length ≤ maxL)
    (body : ∀ (p : Program) (e : Env) (s : State) (m : MethodId) (args : Array Value) (below : List Frame) (meth : Method) (c : Code) (A : Nat → Prop) (Q : State → Prop), bh_C p s m args meth c cc maxL ws y.cls D tys A (some ty) → Q = MQ below (va_Qi post (fun u t => bh_B D tys A (wf u) t) A) args s mc ms A → xe_E A s s.heap → bh_W p l e rm s m args below meth c maxL D A 0 0 Q w0 (lv_args 0 av) 0 []) : bh_Wi l D tys y ws rm av w0 post wf mc ms := by
  intro sz
  refine Met.ofW (cc := cc) (maxL := maxL) (ret := some ty) hy hw ?_
  intro p e s m args below meth c s₁ B hml hv
  obtain ⟨rfl, ⟨hsz, hP, hK, hD0⟩, hE⟩ := hv
  subst hsz
  have hl := lv_entry av (n := maxL) hn
  rw [lg_entry_eq]
  exact body p e s m _ below meth c (va_A w0 s.heap.size) _ ⟨⟨B.exec, B.bytes, hml, findClass_of_methodNamed B.named, atoms_spec (ws := ws) B.pre⟩, hK, fun q h => Or.inr h, B.returns, B.notSynchronized⟩ rfl hE s.heap [] _ hP hD0.self va_S.rf hl
/-- a call of one that may throw, but not here; the world is the callee's -/
theorem bh_ycalli (C : bh_C p s m args meth c cc nL Ts own D tys A ret) (hE : xe_E A s s.heap) {S : Type} {post : Int32 → S → Prop} {wf : S → va_W} {pc1 : String → Prop} {mc ms n index maxL : Nat} {y : MethodName} {bytes : ByteArray} {rt : Option FieldType} {ws : List Cond} {rm : Room} {b : Addr} {As : List Value} {Cn : String} {T : u_T} {N ci : Nat} {fs : List Value} (hM : bh_Xi l D tys y ws rm (.ref b :: As) w post wf pc1 mc ms) (cw : CallW R s args own Cn index y bytes maxL rt ws rm mc ms n) (hcn : vwCl[ci]? = some (Cn, T, N)) (q0 : Nat) (hb0 : w[q0]? = some (b, .inr (ci, fs))) (hn : As.length = n) (hst : st = As.reverse ++ .ref b :: rest) (hcat : (rest.map fun v => v.category).sum ≤ 8) (hdg : decode cc pc = .ok (.invokevirtual index, 3)) (hf : cells + mc ≤ R.cells ∧ slots + ms ≤ R.slots)
    (hnx : ∀ E : String, ¬ pc1 E) (kk : ∀ (r : Int32) (u : S), post r u → bh_W p l e R s m args below meth c nL D A cells slots Q (wf u) lv (pc + 3) (.int r :: rest)) : bh_W p l e R s m args below meth c nL D A cells slots Q (w) lv (pc) (st) := by
  refine bh_eqw (List.append_nil w).symm ?_
  exact bh_wcalli (wr := []) C hE hM cw hcn q0 hb0 hn hst hcat hdg hf (fun E h9 => absurd h9 (hnx E)) (fun r u h9 => bh_eqw (List.append_nil (wf u)) (kk r u h9))
/-- the same where it may throw: the frame with the exception over it -/
theorem bh_zcalli (C : bh_C p s m args meth c cc nL Ts own D tys A ret) (hE : xe_E A s s.heap) {S : Type} {post : Int32 → S → Prop} {wf : S → va_W} {pc1 : String → Prop} {mc ms n index maxL : Nat} {y : MethodName} {bytes : ByteArray} {rt : Option FieldType} {ws : List Cond} {rm : Room} {b : Addr} {As : List Value} {Cn : String} {T : u_T} {N ci : Nat} {fs : List Value} (hM : bh_Xi l D tys y ws rm (.ref b :: As) w post wf pc1 mc ms) (cw : CallW R s args own Cn index y bytes maxL rt ws rm mc ms n) (hcn : vwCl[ci]? = some (Cn, T, N)) (q0 : Nat) (hb0 : w[q0]? = some (b, .inr (ci, fs))) (hn : As.length = n) (hst : st = As.reverse ++ .ref b :: rest) (hcat : (rest.map fun v => v.category).sum ≤ 8) (hdg : decode cc pc = .ok (.invokevirtual index, 3)) (hf : cells + mc ≤ R.cells ∧ slots + ms ≤ R.slots)
    (kx : ∀ E : String, pc1 E → bh_V p l e R s m args below meth c nL D A (cells + mc) (slots + ms) Q w lv pc rest E) (kk : ∀ (r : Int32) (u : S), post r u → bh_W p l e R s m args below meth c nL D A cells slots Q (wf u) lv (pc + 3) (.int r :: rest)) : bh_W p l e R s m args below meth c nL D A cells slots Q (w) lv (pc) (st) := by
  refine bh_eqw (List.append_nil w).symm ?_
  exact bh_wcalli (wr := []) C hE hM cw hcn q0 hb0 hn hst hcat hdg hf (fun E h9 => (List.append_nil w).symm ▸ kx E h9) (fun r u h9 => bh_eqw (List.append_nil (wf u)) (kk r u h9))
/-- a static call, the world is the callee's -/
theorem bh_calli_Y (C : bh_C p s m args meth c cc nL Ts own D tys A ret) (hE : xe_E A s s.heap) {S : Type} {post : Int32 → S → Prop} {wf : S → va_W} {mc ms n index maxL : Nat} {y : MethodName} {bytes : ByteArray} {rt : Option FieldType} {ws : List Cond} {rm : Room} {As : List Value} (hM : bh_Wi l D tys y ws rm As w post wf mc ms) (cw : CallB R s args own index y bytes maxL rt ws rm mc ms n ∧ (Cond.static y).before args s = true) (hn : As.length = n) (hst : st = As.reverse ++ rest) (hcat : (rest.map fun v => v.category).sum ≤ 8) (hdg : decode cc pc = .ok (.invokestatic index, 3)) (hf : cells + mc ≤ R.cells ∧ slots + ms ≤ R.slots) (kk : ∀ (r : Int32) (u : S), post r u → bh_W p l e R s m args below meth c nL D A (cells + mc) (slots + ms) Q (wf u) lv (pc + 3) (.int r :: rest)) : bh_W p l e R s m args below meth c nL D A cells slots Q (w) lv (pc) (st) := by
  intro H locs ls hP hD hS h
  obtain ⟨S0, hK, hA, hr, hlk⟩ := C
  have hD2 : va_D A (([] : va_W) ++ w) := hD
  have hF := bh_free hD2 hS hA
  have hDc : va_D (fun _ => True) w := hD.weaken (fun _ _ _ _ => trivial)
  refine va_calli (va_runS (As := As) (rest := rest) S0 (hM H.size) cw ⟨bh_xblind, fun U hU hW => ⟨rfl, ⟨by rw [hU], by rw [hU]; exact hP, va_K.moved hW.alike hK, hDc⟩, by rw [hU]; exact hE.to hW hS.2.1 hF⟩⟩ rfl hn h.1 hst (lv_room hcat) hdg hf) hS (fun q _ h => hF q h) hF (fun r u t H1 locs1 ht hvm hp hB hz1 hk1 hS1 => ?_)
  obtain ⟨hP1, hK1, hD1⟩ := hB
  rw [ht] at hP1
  have hP0 : va_P D vwCl (([] : va_W) ++ w) H := hP
  obtain ⟨hP3, hD3⟩ := bh_join hP0 hD2 hk1 hF hP1 hD1
  exact kk r u hp H1 locs1 ls hP3 hD3 hS1 h
/-- a static call, the world is the callee's -/
theorem bh_calli_Z (C : bh_C p s m args meth c cc nL Ts own D tys A ret) (hE : xe_E A s s.heap) {S : Type} {post : Int32 → S → Prop} {wf : S → va_W} {mc ms n index maxL : Nat} {y : MethodName} {bytes : ByteArray} {rt : Option FieldType} {hh : List (Nat × Nat × Nat × Nat)} {ws : List Cond} {rm : Room} {As : List Value} (hM : bh_Wi l D tys y ws rm As w post wf mc ms) (cw : vx_CSW R s args own index y bytes maxL rt hh ws rm mc ms n) (hn : As.length = n) (hst : st = As.reverse ++ rest) (hcat : (rest.map fun v => v.category).sum ≤ 8) (hdg : decode cc pc = .ok (.invokestatic index, 3)) (hf : cells + mc ≤ R.cells ∧ slots + ms ≤ R.slots) (kk : ∀ (r : Int32) (u : S), post r u → bh_W p l e R s m args below meth c nL D A (cells + mc) (slots + ms) Q (wf u) lv (pc + 3) (.int r :: rest)) : bh_W p l e R s m args below meth c nL D A cells slots Q (w) lv (pc) (st) := by
  intro H locs ls hP hD hS h
  obtain ⟨S0, hK, hA, hr, hlk⟩ := C
  have hD2 : va_D A (([] : va_W) ++ w) := hD
  have hF := bh_free hD2 hS hA
  have hDc : va_D (fun _ => True) w := hD.weaken (fun _ _ _ _ => trivial)
  refine va_calli (vx_runSW (As := As) (rest := rest) S0 (hM H.size) cw ⟨bh_xblind, fun U hU hW => ⟨rfl, ⟨by rw [hU], by rw [hU]; exact hP, va_K.moved hW.alike hK, hDc⟩, by rw [hU]; exact hE.to hW hS.2.1 hF⟩⟩ rfl hn h.1 hst (lv_room hcat) hdg hf) hS (fun q _ h => hF q h) hF (fun r u t H1 locs1 ht hvm hp hB hz1 hk1 hS1 => ?_)
  obtain ⟨hP1, hK1, hD1⟩ := hB
  rw [ht] at hP1
  have hP0 : va_P D vwCl (([] : va_W) ++ w) H := hP
  obtain ⟨hP3, hD3⟩ := bh_join hP0 hD2 hk1 hF hP1 hD1
  exact kk r u hp H1 locs1 ls hP3 hD3 hS1 h
theorem bh_ishr (C : bh_C p s m args meth c cc nL Ts own D tys A ret) {x y : Int32} (hdg : decode cc pc = .ok (.ishr, 1)) (kk : bh_W p l e R s m args below meth c nL D A cells slots Q (w) lv (pc + 1) (.int (x >>> (y &&& 31)) :: st)) : bh_W p l e R s m args below meth c nL D A cells slots Q (w) lv (pc) (.int y :: .int x :: st) := by
  intro H locs ls hP hD hS h
  obtain ⟨⟨hx, hb, hml, hown, hts⟩, hK, hA, hr, hlk⟩ := C
  exact lv_ishr hx hb hdg (kk H locs ls hP hD hS h)
theorem bh_ldc (C : bh_C p s m args meth c cc nL Ts own D tys A ret) {index : Nat} {v : Int32} (hcon : Cond.constant own index v ∈ Ts) (hdg : decode cc pc = .ok (.ldc index, 2)) (kk : bh_W p l e R s m args below meth c nL D A cells slots Q (w) lv (pc + 2) (.int v :: st)) : bh_W p l e R s m args below meth c nL D A cells slots Q (w) lv (pc) (st) := by
  intro H locs ls hP hD hS h
  obtain ⟨⟨hx, hb, hml, hown, hts⟩, hK, hA, hr, hlk⟩ := C
  exact lv_ldc hx hb hown (hts _ hcon) hdg (kk H locs ls hP hD hS h)
/-- a method that reads the script, and needs no world -/
def bh_Si (l : Launch) (D : va_G) (tys : List (ClassId × FieldType)) (y : MethodName) (ws : List Cond) (rm : Room) (av : List Value) (b L : Nat) (xs : Nat → Int32) (post : Int32 → Unit → Prop) : Prop :=
  ∀ sz : Nat, Met l y ws rm (va_Pc av (fun U => bh_P0 D tys [] sz U ∧ va_X b L xs U U.heap ∧ b < sz)) (va_Qi post (fun _ t => bh_B D tys (va_A [] sz) [] t) (va_A [] sz)) 0 0 (va_A [] sz)
theorem bh_sblind {b L sz : Nat} {xs : Nat → Int32} {av : List Value} : FrameBlind (va_Pc av (fun U => bh_P0 D tys [] sz U ∧ va_X b L xs U U.heap ∧ b < sz)) := fun a U g mk q => by
  obtain ⟨q0, ⟨q1, qP, qK, qD⟩, qX, qb⟩ := q
  exact ⟨q0, ⟨q1, qP, va_K.moved (u := U) (U := U.calling g mk a) (Vm.Alike.refl U.vm) qK, qD⟩, va_X.moved (u := U) (U := U.calling g mk a) (Vm.Alike.refl U.vm) qX, qb⟩
theorem bh_no (sz b : Nat) (h : b < sz) : ¬ va_A [] sz b := fun q => q.elim (fun z => by obtain ⟨k, z, h9⟩ := z; exact absurd h9 (by simp)) (fun z => absurd h (Nat.not_lt.mpr z))
theorem bh_ofSi {y : MethodName} {ws ws' : List Cond} {rm : Room} {av : List Value} {b L : Nat} {xs : Nat → Int32} {post : Int32 → Unit → Prop} {cc : ByteArray} {maxL : Nat} {ty : FieldType} (hy : plainName y.cls = true) (hw : ws = Cond.code y cc maxL (some ty) :: ws') (hn : (lg_sl av).length ≤ maxL)
    (body : ∀ (p : Program) (e : Env) (s : State) (m : MethodId) (args : Array Value) (below : List Frame) (meth : Method) (c : Code) (A : Nat → Prop) (Q : State → Prop), bh_C p s m args meth c cc maxL ws y.cls D tys A (some ty) → Q = MQ below (va_Qi post (fun _ t => bh_B D tys A [] t) A) args s 0 0 A → va_X b L xs s s.heap → b < s.heap.size → ¬ A b → bh_W p l e rm s m args below meth c maxL D A 0 0 Q [] (lv_args 0 av) 0 []) : bh_Si l D tys y ws rm av b L xs post := by
  intro sz
  refine Met.ofW (cc := cc) (maxL := maxL) (ret := some ty) hy hw ?_
  intro p e s m args below meth c s₁ B hml hv
  obtain ⟨rfl, ⟨hsz, hP, hK, hD0⟩, hX, hbz⟩ := hv
  subst hsz
  have hl := lv_entry av (n := maxL) hn
  rw [lg_entry_eq]
  exact body p e s m _ below meth c (va_A [] s.heap.size) _ ⟨⟨B.exec, B.bytes, hml, findClass_of_methodNamed B.named, atoms_spec (ws := ws) B.pre⟩, hK, fun q h => Or.inr h, B.returns, B.notSynchronized⟩ rfl hX hbz (bh_no _ _ hbz) s.heap [] _ hP hD0.self va_S.rf hl
theorem bh_calli_C (C : bh_C p s m args meth c cc nL Ts own D tys A ret) {b L : Nat} {xs : Nat → Int32} (hX : va_X b L xs s s.heap) (hbl : b < s.heap.size) (hbA : ¬ A b) {post : Int32 → Unit → Prop} {n index maxL : Nat} {y : MethodName} {bytes : ByteArray} {rt : Option FieldType} {ws : List Cond} {rm : Room} {As : List Value} (hM : bh_Si l D tys y ws rm As b L xs post) (cw : CallB R s args own index y bytes maxL rt ws rm 0 0 n ∧ (Cond.static y).before args s = true) (hn : As.length = n) (hst : st = As.reverse ++ rest) (hcat : (rest.map fun v => v.category).sum ≤ 8) (hdg : decode cc pc = .ok (.invokestatic index, 3)) (hf : cells + 0 ≤ R.cells ∧ slots + 0 ≤ R.slots) (kk : ∀ (r : Int32), post r () → bh_W p l e R s m args below meth c nL D A (cells + 0) (slots + 0) Q (w) lv (pc + 3) (.int r :: rest)) : bh_W p l e R s m args below meth c nL D A cells slots Q (w) lv (pc) (st) := by
  intro H locs ls hP hD hS h
  obtain ⟨S0, hK, hA, hr, hlk⟩ := C
  have hD2 : va_D A (w ++ []) := (List.append_nil w).symm ▸ hD
  have hF := bh_free hD2 hS hA
  have hXH : H[b]? = s.heap[b]? := hS.2.1 b hbl hbA
  have hP9 : va_P D vwCl [] H := fun k q h9 => absurd h9 (by simp)
  have hD9 : va_D (fun _ => True) [] := ⟨fun i j p9 q h9 => absurd h9 (by simp), fun k q h9 => absurd h9 (by simp)⟩
  refine va_calli (va_runS (As := As) (rest := rest) S0 (hM H.size) cw ⟨bh_sblind, fun U hU hW => ⟨rfl, ⟨by rw [hU], by rw [hU]; exact hP9, va_K.moved hW.alike hK, hD9⟩, by rw [hU]; exact (hX.kept hXH).moved hW.alike, Nat.lt_of_lt_of_le hbl hS.1⟩⟩ rfl hn h.1 hst (lv_room hcat) hdg hf) hS (fun q _ h => hF q h) hF (fun r u t H1 locs1 ht hvm hp hB hz1 hk1 hS1 => ?_)
  obtain ⟨hP1, hK1, hD1⟩ := hB
  rw [ht] at hP1
  have hP0 : va_P D vwCl (w ++ []) H := (List.append_nil w).symm ▸ hP
  obtain ⟨hP3, hD3⟩ := bh_join hP0 hD2 hk1 hF hP1 hD1
  exact kk r hp H1 locs1 ls ((List.append_nil w) ▸ hP3) ((List.append_nil w) ▸ hD3) hS1 h
theorem no_px {c : Int32} (h : c = 0) {E1 E2 E : String} (h9 : mo_px E1 E2 c E) : False := by
  rcases h9 with z | z
  · exact absurd (h.symm.trans z.2) (by decide)
  · exact absurd (h.symm.trans z.2) (by decide)
end BHW
