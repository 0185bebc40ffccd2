section BHX
variable {p : Program} {l : Launch} {e : Env} {R : Room} {s : State} {m : MethodId} {args : Array Value} {below : List Frame} {meth : Method} {c : Code} {cells slots : Nat} {Q : State → Prop}
variable {cc : ByteArray} {nL : Nat} {Ts : List Cond} {own : String} {D : va_G} {tys : List (ClassId × FieldType)} {A : Nat → Prop} {ret : Option FieldType}
variable {w w' : va_W} {lv lv' : List (Nat × Value)} {pc : Nat} {st rest : List Value}
abbrev xe_A : String := "java/lang/IllegalArgumentException"
abbrev xe_S : String := "java/lang/IllegalStateException"
abbrev xe_I : String := "java/lang/IndexOutOfBoundsException"
abbrev xe_ns : List String := ["java/lang/RuntimeException", "java/lang/Exception"]
def xe_strs : List (Nat × String) := [(52, "minutes must be 1 to 1000"), (63, "there are 10 flights"), (156, "there is no such rider"), (77, "minutes must be 1 to 200"), (154, "there is no such flight"), (172, "there are 48 bags"), (164, "the flight has departed"), (158, "there is no such bag"), (102, "the bag is not screened"), (107, "the decision takes longer"), (162, "the bag is at another place"), (118, "the bag is neither OFFLOADED nor LATE"), (126, "time must be 0 to now"), (128, "there is no such place"), (132, "there is no such lateral"), (160, "there is no such scan")]
def xe_bad : List Cond := [.castable xe_A xe_A, .castable xe_S xe_S, .castable xe_I xe_I, .declares (Bundle.initS "java/lang/RuntimeException"), .declares (Bundle.initS "java/lang/Exception"), .declares (Bundle.initS Bundle.tN)]
def xe_nc : List (String × String) := [(xe_A, xe_S), (xe_I, xe_S)]
/-- what a throw, or a catch, needs beside the good words -/
def xe_E (A : Nat → Prop) (U : State) (H : Heap) : Prop := (∀ q ∈ xe_strs, ∃ a : Nat, vk_R RX0 q.1 q.2 a U) ∧ (∀ z ∈ xe_bad, va_Nw z U) ∧ (∀ q ∈ xe_nc, va_Nc q.1 q.2 U) ∧ vx_Zq Bundle.tN "UNASSIGNED_STACK" Bundle.steD A U H ∧ vx_Zq Bundle.tN "SUPPRESSED_SENTINEL" Bundle.listD A U H
theorem xe_badW {z : Cond} (hz : z ∈ xe_bad) {s U : State} (hW : s.WarmedH U.vm) (h : va_Nw z s) : va_Nw z U := by
  simp only [xe_bad, List.mem_cons, List.not_mem_nil, or_false] at hz
  rcases hz with rfl | rfl | rfl | rfl | rfl | rfl
  · exact va_Nw.warmC hW h
  · exact va_Nw.warmC hW h
  · exact va_Nw.warmC hW h
  · exact va_Nw.warmD hW h
  · exact va_Nw.warmD hW h
  · exact va_Nw.warmD hW h
theorem xe_badU {z : Cond} (hz : z ∈ xe_bad) {U : State} {args : Array Value} (h : va_Nw z U) : z.before args U = true := by
  simp only [xe_bad, List.mem_cons, List.not_mem_nil, or_false] at hz
  rcases hz with rfl | rfl | rfl | rfl | rfl | rfl <;> exact va_Nw.use rfl h
theorem xe_ncM {C T : String} {u U : State} (hvm : u.vm.Alike U.vm) (h : va_Nc C T u) : va_Nc C T U := by
  exact h.moved hvm
theorem xe_E.to {A B : Nat → Prop} {s U : State} {H H1 : Heap} (h : xe_E A s H) (hW : s.WarmedH U.vm) (hk : ∀ a : Nat, a < H.size → ¬ A a → H1[a]? = H[a]?) (hAB : ∀ q, B q → A q) : xe_E B U H1 := by
  obtain ⟨h1, h2, h3, h4, h5⟩ := h
  exact ⟨fun q hq => (h1 q hq).imp fun a ha => ha.warm hW, fun z hz => xe_badW hz hW (h2 z hz), fun q hq => xe_ncM hW.alike (h3 q hq), ((h4.kept hk).moved hW.alike).narrow hAB, ((h5.kept hk).moved hW.alike).narrow hAB⟩
/-- contracts of methods that may throw: px says which exception; the world is then as it was -/
def bh_PX (D : va_G) (tys : List (ClassId × FieldType)) (w0 : va_W) (sz : Nat) (U : State) : Prop := bh_P0 D tys w0 sz U ∧ xe_E (va_A w0 sz) U U.heap
abbrev bh_XC (D : va_G) (tys : List (ClassId × FieldType)) (A : Nat → Prop) (w0 : va_W) (px : String → Prop) : String → State → State → Prop := vx_X (fun _ : Unit => True) (fun E _ t => px E ∧ bh_B D tys A w0 t) A
def bh_Xi {S : Type} (l : Launch) (D : va_G) (tys : List (ClassId × FieldType)) (y : MethodName) (ws : List Cond) (rm : Room) (av : List Value) (w0 : va_W) (post : Int32 → S → Prop) (wf : S → va_W) (px : String → Prop) (mc ms : Nat) : Prop :=
  ∀ sz : Nat, bz_Met l y ws rm (va_Pc av (bh_PX D tys w0 sz)) (va_Qi post (fun u t => bh_B D tys (va_A w0 sz) (wf u) t) (va_A w0 sz)) (bh_XC D tys (va_A w0 sz) w0 px) mc ms (va_A w0 sz)
def bh_Xv {S : Type} (l : Launch) (D : va_G) (tys : List (ClassId × FieldType)) (y : MethodName) (ws : List Cond) (rm : Room) (av : List Value) (w0 : va_W) (post : S → Prop) (wf : S → va_W) (px : String → Prop) (mc ms : Nat) : Prop :=
  ∀ sz : Nat, bz_Met l y ws rm (va_Pc av (bh_PX D tys w0 sz)) (va_Qv post (fun u t => bh_B D tys (va_A w0 sz) (wf u) t) (va_A w0 sz)) (bh_XC D tys (va_A w0 sz) w0 px) mc ms (va_A w0 sz)
theorem bh_xblind {D : va_G} {tys : List (ClassId × FieldType)} {w0 : va_W} {sz : Nat} {av : List Value} : FrameBlind (va_Pc av (bh_PX D tys w0 sz)) := fun a U g mk q => by
  obtain ⟨q0, ⟨q1, qP, qK, qD⟩, qE⟩ := q
  exact ⟨q0, ⟨q1, qP, va_K.moved (u := U) (U := U.calling g mk a) (Vm.Alike.refl U.vm) qK, qD⟩, qE.to (U := U.calling g mk a) (State.WarmedH.refl U) (fun _ _ _ => rfl) (fun _ h => h)⟩
theorem bh_ofXi {S : Type} {y : MethodName} {ws ws' : List Cond} {rm : Room} {av : List Value} {w0 : va_W} {post : Int32 → S → Prop} {wf : S → va_W} {px : String → Prop} {mc ms : Nat} {cc : ByteArray} {maxL : Nat} {ty : FieldType} (hy : plainName y.cls = true) (hw : ws = Cond.code y cc maxL (some ty) :: ws') (hn : (lg_sl av).length ≤ maxL)
    (body : ∀ (p : Program) (e : Env) (s : State) (m : MethodId) (args : Array Value) (below : List Frame) (meth : Method) (c : Code) (A : Nat → Prop) (Q : State → Prop), bh_C p s m args meth c cc maxL ws y.cls D tys A (some ty) → Q = bz_MQ below (va_Qi post (fun u t => bh_B D tys A (wf u) t) A) (bh_XC D tys A w0 px) args s mc ms A → xe_E A s s.heap → (∀ x ∈ c.exceptionTable.toList, False) → bh_W p l e rm s m args below meth c maxL D A 0 0 Q w0 (lv_args 0 av) 0 []) : bh_Xi l D tys y ws rm av w0 post wf px mc ms := by
  intro sz
  refine bz_ofW (cc := cc) (maxL := maxL) (ret := (some ty)) hy hw ?_
  intro p e s m args below meth c s₁ B hml hno hv
  obtain ⟨rfl, ⟨hsz, hP, hK, hD0⟩, hE⟩ := hv
  subst hsz
  have hl := lv_entry av (n := maxL) hn
  rw [lg_entry_eq]
  exact body p e s m _ below meth c (va_A w0 s.heap.size) _ ⟨⟨B.exec, B.bytes, hml, findClass_of_methodNamed B.named, atoms_spec (ws := ws) B.pre⟩, hK, fun q h => Or.inr h, B.returns, B.notSynchronized⟩ rfl hE hno s.heap [] _ hP hD0.self va_S.rf hl
theorem bh_ofXv {S : Type} {y : MethodName} {ws ws' : List Cond} {rm : Room} {av : List Value} {w0 : va_W} {post : S → Prop} {wf : S → va_W} {px : String → Prop} {mc ms : Nat} {cc : ByteArray} {maxL : Nat} (hy : plainName y.cls = true) (hw : ws = Cond.code y cc maxL none :: ws') (hn : (lg_sl av).length ≤ maxL)
    (body : ∀ (p : Program) (e : Env) (s : State) (m : MethodId) (args : Array Value) (below : List Frame) (meth : Method) (c : Code) (A : Nat → Prop) (Q : State → Prop), bh_C p s m args meth c cc maxL ws y.cls D tys A none → Q = bz_MQ below (va_Qv post (fun u t => bh_B D tys A (wf u) t) A) (bh_XC D tys A w0 px) args s mc ms A → xe_E A s s.heap → (∀ x ∈ c.exceptionTable.toList, False) → bh_W p l e rm s m args below meth c maxL D A 0 0 Q w0 (lv_args 0 av) 0 []) : bh_Xv l D tys y ws rm av w0 post wf px mc ms := by
  intro sz
  refine bz_ofW (cc := cc) (maxL := maxL) (ret := none) hy hw ?_
  intro p e s m args below meth c s₁ B hml hno hv
  obtain ⟨rfl, ⟨hsz, hP, hK, hD0⟩, hE⟩ := hv
  subst hsz
  have hl := lv_entry av (n := maxL) hn
  rw [lg_entry_eq]
  exact body p e s m _ below meth c (va_A w0 s.heap.size) _ ⟨⟨B.exec, B.bytes, hml, findClass_of_methodNamed B.named, atoms_spec (ws := ws) B.pre⟩, hK, fun q h => Or.inr h, B.returns, B.notSynchronized⟩ rfl hE hno s.heap [] _ hP hD0.self va_S.rf hl
theorem bh_xzret {S : Type} {post : Int32 → S → Prop} {wf : S → va_W} {w0 : va_W} {px : String → Prop} {mc ms : Nat} {ty : FieldType} (C : bh_C p s m args meth c cc nL Ts own D tys A (some ty)) (hQ : Q = bz_MQ below (va_Qi post (fun u t => bh_B D tys A (wf u) t) A) (bh_XC D tys A w0 px) args s mc ms A) (hdg : decode cc pc = .ok (.ireturn, 1)) {v : Int32} (u : S) (hw : w = wf u) (hn : narrow ty (.int v) = .int v) (hc : cells ≤ 0) (hs : slots ≤ 0) (hp : post v u) : bh_W p l e R s m args below meth c nL D A cells slots Q (w) lv (pc) ([.int v]) := by
  subst hQ
  exact fun H locs ls hP hD hS h => bz_ret (bh_zret C rfl hdg u hw hn hc hs hp H locs ls hP hD hS h)
theorem bh_xvret {S : Type} {post : S → Prop} {wf : S → va_W} {w0 : va_W} {px : String → Prop} {mc ms : Nat} (C : bh_C p s m args meth c cc nL Ts own D tys A none) (hQ : Q = bz_MQ below (va_Qv post (fun u t => bh_B D tys A (wf u) t) A) (bh_XC D tys A w0 px) args s mc ms A) (hdg : decode cc pc = .ok (.return_, 1)) (u : S) (hw : w = wf u) (hc : cells ≤ 0) (hs : slots ≤ 0) (hp : post u) : bh_W p l e R s m args below meth c nL D A cells slots Q (w) lv (pc) ([]) := by
  subst hQ
  exact fun H locs ls hP hD hS h => bz_ret (bh_vret C rfl hdg u hw hc hs hp H locs ls hP hD hS h)
/-- the world's cells stay where nothing old was written -/
theorem bh_Pkept {D : va_G} {w : va_W} {H H1 : Heap} (h : va_P D vwCl w H) (hk : ∀ q : Nat, q < H.size → H1[q]? = H[q]?) : va_P D vwCl w H1 := bh_Pmem.mpr fun q hq => (bh_Pmem.mp h q hq).kept (hk q.1 (bh_Pmem.mp h q hq).lt)
/-- 'throw new E("text")' -/
theorem bh_throw (C : bh_C p s m args meth c cc nL Ts RX0 D tys A ret) (hE : xe_E A s s.heap) (hno : ∀ x ∈ c.exceptionTable.toList, False) (hl : l.stackTraces = false) {cls text : String} {ik is ic mc ms : Nat} {Qc : Array Value → State → Outcome → State → Prop} {px : String → Prop} (hQ : Q = bz_MQ below Qc (bh_XC D tys A w px) args s mc ms A)
    (hcls : Bundle.fit cls = true) (hk : Cond.classLink RX0 ik cls ∈ Ts) (hini : Cond.initialized cls ∈ Ts) (hstr : (is, text) ∈ xe_strs) (hat1 : ∀ z ∈ (vx_atS RX0 ic cls xe_ns).filter goodWord, z ∈ Ts) (hat2 : ∀ z ∈ (vx_atS RX0 ic cls xe_ns).filter (fun z => !goodWord z), z ∈ xe_bad)
    (hgood : ∀ z ∈ Cond.classLink RX0 ik cls :: Cond.initialized cls :: vx_atS RX0 ic cls xe_ns, vx_ot z = true)
    (d0 : decode cc pc = .ok (.new ik, 3)) (d3 : decode cc (pc + 3) = .ok (.dup, 1)) (d4 : decode cc (pc + 4) = .ok (.ldc is, 2)) (d6 : decode cc (pc + 6) = .ok (.invokespecial ic, 3)) (d9 : decode cc (pc + 9) = .ok (.athrow, 1))
    (hRf : 5 < R.frames) (hRl : (st.map fun v => v.category).sum + 82 ≤ R.locals) (hRc : cells + 1 ≤ R.cells) (hRs : slots + 6 ≤ R.slots) (hc : cells + 1 ≤ mc) (hs : slots + 6 ≤ ms) (hpx : px cls) :
    bh_W p l e R s m args below meth c nL D A cells slots Q (w) lv (pc) (st) := by
  subst hQ
  intro H locs ls hP hD hS h
  obtain ⟨⟨hx, hb, hml, hown, hts⟩, hK, hA, hr, hlk⟩ := C
  obtain ⟨h1, h2, h3, h4, h5⟩ := hE
  obtain ⟨sa, hsa⟩ := h1 _ hstr
  refine bz_W (fun _ h => bz_thrown h) (vx_throwS (names := xe_ns) hx hb hl hown hcls (by decide) (hts _ hk) (hts _ hini) hsa (vx_hat (fun z hz => hts z (hat1 z hz)) hat2 (fun z hz => xe_badU hz (h2 z hz))) hgood h4 h5 hS (h.1.trans hml.symm) d0 d3 d4 d6 d9 (fun x hx => absurd (hno x hx) id) hRf hRl hRc hRs hlk ?_ hS.2.2 hc hs)
  intro t hal hz hk
  refine ⟨(), trivial, ⟨hpx, bh_Pkept hP hk, va_K.moved hal hK, hD⟩, Nat.le_trans hS.1 hz, fun q h6 h7 => ?_⟩
  rw [hk q (Nat.lt_of_lt_of_le h6 hS.1)]
  exact hS.2.1 q h6 h7
/-- a call, in a method whose world still is as it was at its start, of one that may throw: what it throws goes on -/
theorem bh_xcalli (C : bh_C p s m args meth c cc nL Ts own D tys A ret) {Qc : Array Value → State → Outcome → State → Prop} {px : String → Prop} {mc9 ms9 : Nat} (hQ : Q = bz_MQ below Qc (bh_XC D tys A w px) args s mc9 ms9 A) (hE : xe_E A s s.heap) (hno : ∀ x ∈ c.exceptionTable.toList, False) {S : Type} {post : Int32 → S → Prop} {wf : S → va_W} {pc1 : String → Prop} {mc ms n index maxL : Nat} {y : MethodName} {bytes : ByteArray} {rt : Option FieldType} {ws : List Cond} {rm : Room} {b : Addr} {As : List Value} {Cn : String} {T : u_T} {N ci : Nat} {fs : List Value} (hM : bh_Xi l D tys y ws rm (.ref b :: As) w post wf pc1 mc ms) (cw : CallW R s args own Cn index y bytes maxL rt ws rm mc ms n) (hcn : vwCl[ci]? = some (Cn, T, N)) (q0 : Nat) (hb0 : w[q0]? = some (b, .inr (ci, fs))) (hn : As.length = n) (hst : st = As.reverse ++ .ref b :: rest) (hcat : (rest.map fun v => v.category).sum ≤ 8) (hdg : decode cc pc = .ok (.invokevirtual index, 3)) (hf : cells + mc ≤ R.cells ∧ slots + ms ≤ R.slots) (hc : cells + mc ≤ mc9) (hs : slots + ms ≤ ms9) (hpx : ∀ E, pc1 E → px E)
    (kk : ∀ (r : Int32) (u : S), post r u → bh_W p l e R s m args below meth c nL D A (cells + 0) (slots + 0) Q (wf u) lv (pc + 3) (.int r :: rest)) : bh_W p l e R s m args below meth c nL D A cells slots Q (w) lv (pc) (st) := by
  subst hQ
  intro H locs ls hP hD hS h
  obtain ⟨S0, hK, hA, hr, hlk⟩ := C
  have hD2 : va_D A (([] : va_W) ++ w) := hD
  have hF := bh_free hD2 hS hA
  have hDc : va_D (fun _ => True) w := hD.weaken (fun _ _ _ _ => trivial)
  refine bz_calli (bz_runV (As := As) (rest := rest) S0 (hM H.size) cw ⟨bh_xblind, va_recv hK hP hcn hb0, fun U hU hW => ⟨rfl, ⟨by rw [hU], by rw [hU]; exact hP, va_K.moved hW.alike hK, hDc⟩, by rw [hU]; exact hE.to hW hS.2.1 hF⟩⟩ rfl hn h.1 hst (lv_room hcat) hdg hf) hS (fun q _ h => hF q h) hF (fun q _ h => hF q h) (fun E ce q9 u t H1 locs1 ht hvm hp hB hz1 hk1 hS1 hce hcv hcl => ?_) (fun r u t H1 locs1 ht hvm hp hB hz1 hk1 hS1 => ?_)
  · obtain ⟨hp1, hP1, hK1, hD1⟩ := hB
    exact bz_vW (fun _ h => bz_thrown h) (vx_out (fun x hx => absurd (hno x hx) id) hlk hce hcv hcl (fun t2 ht2 hal => ⟨(), trivial, ⟨hpx E hp1, by rw [ht2, ← ht]; exact hP1, va_K.moved hal hK, hD⟩, by rw [ht2]; exact hS1.1, fun q h6 h7 => by rw [ht2]; exact hS1.2.1 q h6 h7⟩) hS1.2.2 hc hs)
  · obtain ⟨hP1, hK1, hD1⟩ := hB
    rw [ht] at hP1
    have hP0 : va_P D vwCl (([] : va_W) ++ w) H := hP
    obtain ⟨hP3, hD3⟩ := bh_join hP0 hD2 hk1 hF hP1 hD1
    exact kk r u hp H1 locs1 ls hP3 hD3 hS1 h
theorem bh_calli_0 (C : bh_C p s m args meth c cc nL Ts own D tys A ret) {S : Type} {post : Int32 → S → Prop} {wf : S → va_W} {mc ms n index maxL : Nat} {y : MethodName} {bytes : ByteArray} {rt : Option FieldType} {ws : List Cond} {rm : Room} {b : Addr} {As : List Value} {Cn : String} {T : u_T} {N ci : Nat} {fs : List Value} (hM : bh_Mi l D tys y ws rm (.ref b :: As) w post wf mc ms) (cw : CallW R s args own Cn index y bytes maxL rt ws rm mc ms n) (hcn : vwCl[ci]? = some (Cn, T, N)) (q0 : Nat) (hb0 : w[q0]? = some (b, .inr (ci, fs))) (hn : As.length = n) (hst : st = As.reverse ++ .ref b :: rest) (hcat : (rest.map fun v => v.category).sum ≤ 8) (hdg : decode cc pc = .ok (.invokevirtual index, 3)) (hf : cells + mc ≤ R.cells ∧ slots + ms ≤ R.slots) (kk : ∀ (r : Int32) (u : S), post r u → bh_W p l e R s m args below meth c nL D A (cells + mc) (slots + ms) Q (wf u) lv (pc + 3) (.int r :: rest)) : bh_W p l e R s m args below meth c nL D A cells slots Q (w) lv (pc) (st) := bh_calli_V (wr := []) C hM cw (List.Perm.refl _) hcn q0 hb0 hn hst hcat hdg hf kk
theorem bh_calli_L (C : bh_C p s m args meth c cc nL Ts own D tys A ret) {S : Type} {post : Int32 → S → Prop} {wf : S → va_W} {wc wr : va_W} {mc ms n index maxL : Nat} {y : MethodName} {bytes : ByteArray} {rt : Option FieldType} {ws : List Cond} {rm : Room} {b : Addr} {As : List Value} {Cn : String} {T : u_T} {N ci : Nat} {fs : List Value} (hM : bh_Mi l D tys y ws rm (.ref b :: As) wc post wf mc ms) (cw : CallW R s args own Cn index y bytes maxL rt ws rm mc ms n) (hcn : vwCl[ci]? = some (Cn, T, N)) (q0 : Nat) (hb0 : wc[q0]? = some (b, .inr (ci, fs))) (hn : As.length = n) (hst : st = As.reverse ++ .ref b :: rest) (hcat : (rest.map fun v => v.category).sum ≤ 8) (hdg : decode cc pc = .ok (.invokevirtual index, 3)) (hf : cells + mc ≤ R.cells ∧ slots + ms ≤ R.slots) (kk : ∀ (r : Int32) (u : S), post r u → bh_W p l e R s m args below meth c nL D A (cells + mc) (slots + ms) Q ((wf u ++ wr)) lv (pc + 3) (.int r :: rest)) : bh_W p l e R s m args below meth c nL D A cells slots Q ((wc ++ wr)) lv (pc) (st) := bh_calli_V (wr := wr) C hM cw List.perm_append_comm hcn q0 hb0 hn hst hcat hdg hf (fun r u hp => bh_perm List.perm_append_comm (kk r u hp))
/-- a static call of one that needs no world -/
theorem bh_calli_N (C : bh_C p s m args meth c cc nL Ts own D tys A ret) {S : Type} {post : Int32 → S → Prop} {mc ms n index maxL : Nat} {y : MethodName} {bytes : ByteArray} {rt : Option FieldType} {ws : List Cond} {rm : Room} {As : List Value} (hM : bh_Mi l D tys y ws rm As [] post (fun _ => []) mc ms) (cw : CallB R s args own index y bytes maxL rt ws rm mc ms n ∧ (Cond.static y).before args s = true) (hn : As.length = n) (hst : st = As.reverse ++ rest) (hcat : (rest.map fun v => v.category).sum ≤ 8) (hdg : decode cc pc = .ok (.invokestatic index, 3)) (hf : cells + mc ≤ R.cells ∧ slots + ms ≤ R.slots) (kk : ∀ (r : Int32) (u : S), post r u → bh_W p l e R s m args below meth c nL D A (cells + mc) (slots + ms) Q (w) lv (pc + 3) (.int r :: rest)) : bh_W p l e R s m args below meth c nL D A cells slots Q (w) lv (pc) (st) := bh_calli_S (wr := w) (wf := fun _ : S => []) C hM cw (by rw [List.append_nil]) hn hst hcat hdg hf (fun r u hp => bh_eqw (List.append_nil w) (kk r u hp))
/-- a call, in a method whose world still is as it was at its start, of one that may throw: what it throws goes on -/
theorem bh_xcallv (C : bh_C p s m args meth c cc nL Ts own D tys A ret) {Qc : Array Value → State → Outcome → State → Prop} {px : String → Prop} {mc9 ms9 : Nat} (hQ : Q = bz_MQ below Qc (bh_XC D tys A w px) args s mc9 ms9 A) (hE : xe_E A s s.heap) (hno : ∀ x ∈ c.exceptionTable.toList, False) {S : Type} {post : S → Prop} {wf : S → va_W} {pc1 : String → Prop} {mc ms n index maxL : Nat} {y : MethodName} {bytes : ByteArray} {rt : Option FieldType} {ws : List Cond} {rm : Room} {b : Addr} {As : List Value} {Cn : String} {T : u_T} {N ci : Nat} {fs : List Value} (hM : bh_Xv l D tys y ws rm (.ref b :: As) w post wf pc1 mc ms) (cw : CallW R s args own Cn index y bytes maxL rt ws rm mc ms n) (hcn : vwCl[ci]? = some (Cn, T, N)) (q0 : Nat) (hb0 : w[q0]? = some (b, .inr (ci, fs))) (hn : As.length = n) (hst : st = As.reverse ++ .ref b :: rest) (hcat : (rest.map fun v => v.category).sum ≤ 8) (hdg : decode cc pc = .ok (.invokevirtual index, 3)) (hf : cells + mc ≤ R.cells ∧ slots + ms ≤ R.slots) (hc : cells + mc ≤ mc9) (hs : slots + ms ≤ ms9) (hpx : ∀ E, pc1 E → px E)
    (kk : ∀ u : S, post u → bh_W p l e R s m args below meth c nL D A (cells + 0) (slots + 0) Q (wf u) lv (pc + 3) (rest)) : bh_W p l e R s m args below meth c nL D A cells slots Q (w) lv (pc) (st) := by
  subst hQ
  intro H locs ls hP hD hS h
  obtain ⟨S0, hK, hA, hr, hlk⟩ := C
  have hD2 : va_D A (([] : va_W) ++ w) := hD
  have hF := bh_free hD2 hS hA
  have hDc : va_D (fun _ => True) w := hD.weaken (fun _ _ _ _ => trivial)
  refine bz_callv (bz_runV (As := As) (rest := rest) S0 (hM H.size) cw ⟨bh_xblind, va_recv hK hP hcn hb0, fun U hU hW => ⟨rfl, ⟨by rw [hU], by rw [hU]; exact hP, va_K.moved hW.alike hK, hDc⟩, by rw [hU]; exact hE.to hW hS.2.1 hF⟩⟩ rfl hn h.1 hst (lv_room hcat) hdg hf) hS (fun q _ h => hF q h) hF (fun q _ h => hF q h) (fun E ce q9 u t H1 locs1 ht hvm hp hB hz1 hk1 hS1 hce hcv hcl => ?_) (fun u t H1 locs1 ht hvm hp hB hz1 hk1 hS1 => ?_)
  · obtain ⟨hp1, hP1, hK1, hD1⟩ := hB
    exact bz_vW (fun _ h => bz_thrown h) (vx_out (fun x hx => absurd (hno x hx) id) hlk hce hcv hcl (fun t2 ht2 hal => ⟨(), trivial, ⟨hpx E hp1, by rw [ht2, ← ht]; exact hP1, va_K.moved hal hK, hD⟩, by rw [ht2]; exact hS1.1, fun q h6 h7 => by rw [ht2]; exact hS1.2.1 q h6 h7⟩) hS1.2.2 hc hs)
  · obtain ⟨hP1, hK1, hD1⟩ := hB
    rw [ht] at hP1
    have hP0 : va_P D vwCl (([] : va_W) ++ w) H := hP
    obtain ⟨hP3, hD3⟩ := bh_join hP0 hD2 hk1 hF hP1 hD1
    exact kk u hp H1 locs1 ls hP3 hD3 hS1 h
theorem bh_callv_0 (C : bh_C p s m args meth c cc nL Ts own D tys A ret) {S : Type} {post : S → Prop} {wf : S → va_W} {mc ms n index maxL : Nat} {y : MethodName} {bytes : ByteArray} {rt : Option FieldType} {ws : List Cond} {rm : Room} {b : Addr} {As : List Value} {Cn : String} {T : u_T} {N ci : Nat} {fs : List Value} (hM : bh_Mv l D tys y ws rm (.ref b :: As) w post wf mc ms) (cw : CallW R s args own Cn index y bytes maxL rt ws rm mc ms n) (hcn : vwCl[ci]? = some (Cn, T, N)) (q0 : Nat) (hb0 : w[q0]? = some (b, .inr (ci, fs))) (hn : As.length = n) (hst : st = As.reverse ++ .ref b :: rest) (hcat : (rest.map fun v => v.category).sum ≤ 8) (hdg : decode cc pc = .ok (.invokevirtual index, 3)) (hf : cells + mc ≤ R.cells ∧ slots + ms ≤ R.slots) (kk : ∀ u : S, post u → bh_W p l e R s m args below meth c nL D A (cells + mc) (slots + ms) Q (wf u) lv (pc + 3) (rest)) : bh_W p l e R s m args below meth c nL D A cells slots Q (w) lv (pc) (st) := bh_callv_V (wr := []) C hM cw (List.Perm.refl _) hcn q0 hb0 hn hst hcat hdg hf kk
theorem bh_callv_L (C : bh_C p s m args meth c cc nL Ts own D tys A ret) {S : Type} {post : S → Prop} {wf : S → va_W} {wc wr : va_W} {mc ms n index maxL : Nat} {y : MethodName} {bytes : ByteArray} {rt : Option FieldType} {ws : List Cond} {rm : Room} {b : Addr} {As : List Value} {Cn : String} {T : u_T} {N ci : Nat} {fs : List Value} (hM : bh_Mv l D tys y ws rm (.ref b :: As) wc post wf mc ms) (cw : CallW R s args own Cn index y bytes maxL rt ws rm mc ms n) (hcn : vwCl[ci]? = some (Cn, T, N)) (q0 : Nat) (hb0 : wc[q0]? = some (b, .inr (ci, fs))) (hn : As.length = n) (hst : st = As.reverse ++ .ref b :: rest) (hcat : (rest.map fun v => v.category).sum ≤ 8) (hdg : decode cc pc = .ok (.invokevirtual index, 3)) (hf : cells + mc ≤ R.cells ∧ slots + ms ≤ R.slots) (kk : ∀ u : S, post u → bh_W p l e R s m args below meth c nL D A (cells + mc) (slots + ms) Q ((wf u ++ wr)) lv (pc + 3) (rest)) : bh_W p l e R s m args below meth c nL D A cells slots Q ((wc ++ wr)) lv (pc) (st) := bh_callv_V (wr := wr) C hM cw List.perm_append_comm hcn q0 hb0 hn hst hcat hdg hf (fun u hp => bh_perm List.perm_append_comm (kk u hp))
/-- a static call of one that needs no world -/
theorem bh_callv_N (C : bh_C p s m args meth c cc nL Ts own D tys A ret) {S : Type} {post : S → Prop} {mc ms n index maxL : Nat} {y : MethodName} {bytes : ByteArray} {rt : Option FieldType} {ws : List Cond} {rm : Room} {As : List Value} (hM : bh_Mv l D tys y ws rm As [] post (fun _ => []) mc ms) (cw : CallB R s args own index y bytes maxL rt ws rm mc ms n ∧ (Cond.static y).before args s = true) (hn : As.length = n) (hst : st = As.reverse ++ rest) (hcat : (rest.map fun v => v.category).sum ≤ 8) (hdg : decode cc pc = .ok (.invokestatic index, 3)) (hf : cells + mc ≤ R.cells ∧ slots + ms ≤ R.slots) (kk : ∀ u : S, post u → bh_W p l e R s m args below meth c nL D A (cells + mc) (slots + ms) Q (w) lv (pc + 3) (rest)) : bh_W p l e R s m args below meth c nL D A cells slots Q (w) lv (pc) (st) := bh_callv_S (wr := w) (wf := fun _ : S => []) C hM cw (by rw [List.append_nil]) hn hst hcat hdg hf (fun u hp => bh_eqw (List.append_nil w) (kk u hp))
end BHX
theorem xe_hb54 : ∀ z ∈ (vx_atS RX0 54 xe_A xe_ns).filter (fun z => !goodWord z), z ∈ xe_bad := by decide +kernel
theorem xe_hb65 : ∀ z ∈ (vx_atS RX0 65 xe_S xe_ns).filter (fun z => !goodWord z), z ∈ xe_bad := by decide +kernel
theorem xe_hb134 : ∀ z ∈ (vx_atS RX0 134 xe_I xe_ns).filter (fun z => !goodWord z), z ∈ xe_bad := by decide +kernel
theorem xe_hg54_50 : ∀ z ∈ Cond.classLink RX0 50 xe_A :: Cond.initialized xe_A :: vx_atS RX0 54 xe_A xe_ns, vx_ot z = true := by decide +kernel
theorem xe_hg65_61 : ∀ z ∈ Cond.classLink RX0 61 xe_S :: Cond.initialized xe_S :: vx_atS RX0 65 xe_S xe_ns, vx_ot z = true := by decide +kernel
theorem xe_hg134_130 : ∀ z ∈ Cond.classLink RX0 130 xe_I :: Cond.initialized xe_I :: vx_atS RX0 134 xe_I xe_ns, vx_ot z = true := by decide +kernel
