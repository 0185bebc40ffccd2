section BHK
variable {p : Program} {l : Launch} {e : Env} {R : Room} {s : State} {m : MethodId} {args : Array Value} {below : List Frame} {meth : Method} {c : Code} {cells slots : Nat} {Q : State → Prop}
variable {cc : ByteArray} {nL : Nat} {Ts : List Cond} {own : String} {D : va_G} {tys : List (ClassId × FieldType)} {A : Nat → Prop} {ret : Option FieldType}
variable {w w' : va_W} {lv lv' : List (Nat × Value)} {pc : Nat} {st rest : List Value}
/-- what stays through a method's body -/
def bh_C (p : Program) (s : State) (m : MethodId) (args : Array Value) (meth : Method) (c : Code) (cc : ByteArray) (nL : Nat) (Ts : List Cond) (own : String) (D : va_G) (tys : List (ClassId × FieldType)) (A : Nat → Prop) (ret : Option FieldType) : Prop :=
  CallFix p m c cc nL s args Ts own ∧ va_K D vwCl tys s ∧ (∀ q : Nat, s.heap.size ≤ q → A q) ∧ meth.sig.returnType = ret ∧ meth.locks = false
/-- the frame at pc, over a world, locals as a list, a stack: in every heap that holds the world -/
def bh_W (p : Program) (l : Launch) (e : Env) (R : Room) (s : State) (m : MethodId) (args : Array Value) (below : List Frame) (meth : Method) (c : Code) (nL : Nat) (D : va_G) (A : Nat → Prop) (cells slots : Nat) (Q : State → Prop) (w : va_W) (lv : List (Nat × Value)) (pc : Nat) (st : List Value) : Prop :=
  ∀ (H : Heap) (locs : List Loc) (ls : Array Slot), va_P D vwCl w H → va_D A w → va_S A s.heap H locs → lv_has ls nL lv → W p l e R s m args below meth c H locs cells slots Q (F0 m pc ls st)
theorem bh_iload_n (C : bh_C p s m args meth c cc nL Ts own D tys A ret) {k : Fin 4} {i : Nat} {x : Int32} (hdg : decode cc pc = .ok (.iload_n k, 1)) (hi : (k : Nat) = i) (j : Nat) (hl : lv[j]? = some (i, .int x)) (kk : bh_W p l e R s m args below meth c nL D A cells slots Q (w) lv (pc + 1) (.int x :: st)) : bh_W p l e R s m args below meth c nL D A cells slots Q (w) lv (pc) (st) := by
  intro H locs ls hP hD hS h
  obtain ⟨⟨hx, hb, hml, hown, hts⟩, hK, hA, hr, hlk⟩ := C
  exact lv_iload_n hx hb hdg hi (lv_at h j hl) (kk H locs ls hP hD hS h)
theorem bh_iload (C : bh_C p s m args meth c cc nL Ts own D tys A ret) {i : Nat} {x : Int32} (hdg : decode cc pc = .ok (.iload i, 2)) (j : Nat) (hl : lv[j]? = some (i, .int x)) (kk : bh_W p l e R s m args below meth c nL D A cells slots Q (w) lv (pc + 2) (.int x :: st)) : bh_W p l e R s m args below meth c nL D A cells slots Q (w) lv (pc) (st) := by
  intro H locs ls hP hD hS h
  obtain ⟨⟨hx, hb, hml, hown, hts⟩, hK, hA, hr, hlk⟩ := C
  exact lv_iload hx hb hdg (lv_at h j hl) (kk H locs ls hP hD hS h)
theorem bh_istore_n (C : bh_C p s m args meth c cc nL Ts own D tys A ret) {k : Fin 4} {i : Nat} {x : Int32} (hdg : decode cc pc = .ok (.istore_n k, 1)) (hi : (k : Nat) = i) (hn : i < nL) (hl : (i, Value.int x) :: lv.filter (fun q => !(q.1 == i) && !(q.1 + 1 == i && q.2.category == 2)) = lv') (kk : bh_W p l e R s m args below meth c nL D A cells slots Q (w) lv' (pc + 1) (st)) : bh_W p l e R s m args below meth c nL D A cells slots Q (w) lv (pc) (.int x :: st) := by
  intro H locs ls hP hD hS h
  obtain ⟨⟨hx, hb, hml, hown, hts⟩, hK, hA, hr, hlk⟩ := C
  exact lv_istore_n hx hb hdg hi h hn hl (fun ls2 h2 => kk H locs ls2 hP hD hS h2)
theorem bh_istore (C : bh_C p s m args meth c cc nL Ts own D tys A ret) {i : Nat} {x : Int32} (hdg : decode cc pc = .ok (.istore i, 2)) (hn : i < nL) (hl : (i, Value.int x) :: lv.filter (fun q => !(q.1 == i) && !(q.1 + 1 == i && q.2.category == 2)) = lv') (kk : bh_W p l e R s m args below meth c nL D A cells slots Q (w) lv' (pc + 2) (st)) : bh_W p l e R s m args below meth c nL D A cells slots Q (w) lv (pc) (.int x :: st) := by
  intro H locs ls hP hD hS h
  obtain ⟨⟨hx, hb, hml, hown, hts⟩, hK, hA, hr, hlk⟩ := C
  exact lv_istore hx hb hdg h hn hl (fun ls2 h2 => kk H locs ls2 hP hD hS h2)
theorem bh_aload_n (C : bh_C p s m args meth c cc nL Ts own D tys A ret) {k : Fin 4} {i : Nat} {x : Nat} (hdg : decode cc pc = .ok (.aload_n k, 1)) (hi : (k : Nat) = i) (j : Nat) (hl : lv[j]? = some (i, .ref x)) (kk : bh_W p l e R s m args below meth c nL D A cells slots Q (w) lv (pc + 1) (.ref x :: st)) : bh_W p l e R s m args below meth c nL D A cells slots Q (w) lv (pc) (st) := by
  intro H locs ls hP hD hS h
  obtain ⟨⟨hx, hb, hml, hown, hts⟩, hK, hA, hr, hlk⟩ := C
  exact lv_aload_n hx hb hdg hi (lv_at h j hl) (kk H locs ls hP hD hS h)
theorem bh_aload (C : bh_C p s m args meth c cc nL Ts own D tys A ret) {i : Nat} {x : Nat} (hdg : decode cc pc = .ok (.aload i, 2)) (j : Nat) (hl : lv[j]? = some (i, .ref x)) (kk : bh_W p l e R s m args below meth c nL D A cells slots Q (w) lv (pc + 2) (.ref x :: st)) : bh_W p l e R s m args below meth c nL D A cells slots Q (w) lv (pc) (st) := by
  intro H locs ls hP hD hS h
  obtain ⟨⟨hx, hb, hml, hown, hts⟩, hK, hA, hr, hlk⟩ := C
  exact lv_aload hx hb hdg (lv_at h j hl) (kk H locs ls hP hD hS h)
theorem bh_astore_n (C : bh_C p s m args meth c cc nL Ts own D tys A ret) {k : Fin 4} {i : Nat} {x : Nat} (hdg : decode cc pc = .ok (.astore_n k, 1)) (hi : (k : Nat) = i) (hn : i < nL) (hl : (i, Value.ref x) :: lv.filter (fun q => !(q.1 == i) && !(q.1 + 1 == i && q.2.category == 2)) = lv') (kk : bh_W p l e R s m args below meth c nL D A cells slots Q (w) lv' (pc + 1) (st)) : bh_W p l e R s m args below meth c nL D A cells slots Q (w) lv (pc) (.ref x :: st) := by
  intro H locs ls hP hD hS h
  obtain ⟨⟨hx, hb, hml, hown, hts⟩, hK, hA, hr, hlk⟩ := C
  exact lv_astore_n hx hb hdg hi h hn hl (fun ls2 h2 => kk H locs ls2 hP hD hS h2)
theorem bh_astore (C : bh_C p s m args meth c cc nL Ts own D tys A ret) {i : Nat} {x : Nat} (hdg : decode cc pc = .ok (.astore i, 2)) (hn : i < nL) (hl : (i, Value.ref x) :: lv.filter (fun q => !(q.1 == i) && !(q.1 + 1 == i && q.2.category == 2)) = lv') (kk : bh_W p l e R s m args below meth c nL D A cells slots Q (w) lv' (pc + 2) (st)) : bh_W p l e R s m args below meth c nL D A cells slots Q (w) lv (pc) (.ref x :: st) := by
  intro H locs ls hP hD hS h
  obtain ⟨⟨hx, hb, hml, hown, hts⟩, hK, hA, hr, hlk⟩ := C
  exact lv_astore hx hb hdg h hn hl (fun ls2 h2 => kk H locs ls2 hP hD hS h2)
theorem bh_iinc (C : bh_C p s m args meth c cc nL Ts own D tys A ret) {i k : Nat} {n : Int} {x v : Int32} (hdg : decode cc pc = .ok (.iinc i n, 3)) (hk : lv[k]? = some (i, .int x)) (hv : x + Int32.ofInt n = v) (hn : i < nL) (hl : (i, Value.int v) :: lv.filter (fun q => !(q.1 == i) && !(q.1 + 1 == i && q.2.category == 2)) = lv') (kk : bh_W p l e R s m args below meth c nL D A cells slots Q (w) lv' (pc + 3) (st)) : bh_W p l e R s m args below meth c nL D A cells slots Q (w) lv (pc) (st) := by
  intro H locs ls hP hD hS h
  obtain ⟨⟨hx, hb, hml, hown, hts⟩, hK, hA, hr, hlk⟩ := C
  exact lv_iinc hx hb hdg h hk hv hn hl (fun ls2 h2 => kk H locs ls2 hP hD hS h2)
theorem bh_iconst (C : bh_C p s m args meth c cc nL Ts own D tys A ret) {n : Int} {v : Int32} (hdg : decode cc pc = .ok (.iconst n, 1)) (hv : Int32.ofInt n = v) (kk : bh_W p l e R s m args below meth c nL D A cells slots Q (w) lv (pc + 1) (.int v :: st)) : bh_W p l e R s m args below meth c nL D A cells slots Q (w) lv (pc) (st) := by
  intro H locs ls hP hD hS h
  obtain ⟨⟨hx, hb, hml, hown, hts⟩, hK, hA, hr, hlk⟩ := C
  exact lv_iconst hx hb hdg hv (kk H locs ls hP hD hS h)
theorem bh_bipush (C : bh_C p s m args meth c cc nL Ts own D tys A ret) {n : Int} {v : Int32} (hdg : decode cc pc = .ok (.bipush n, 2)) (hv : (Int8.ofInt n).toInt32 = v) (kk : bh_W p l e R s m args below meth c nL D A cells slots Q (w) lv (pc + 2) (.int v :: st)) : bh_W p l e R s m args below meth c nL D A cells slots Q (w) lv (pc) (st) := by
  intro H locs ls hP hD hS h
  obtain ⟨⟨hx, hb, hml, hown, hts⟩, hK, hA, hr, hlk⟩ := C
  exact lv_bipush hx hb hdg hv (kk H locs ls hP hD hS h)
theorem bh_sipush (C : bh_C p s m args meth c cc nL Ts own D tys A ret) {n : Int} {v : Int32} (hdg : decode cc pc = .ok (.sipush n, 3)) (hv : (Int16.ofInt n).toInt32 = v) (kk : bh_W p l e R s m args below meth c nL D A cells slots Q (w) lv (pc + 3) (.int v :: st)) : bh_W p l e R s m args below meth c nL D A cells slots Q (w) lv (pc) (st) := by
  intro H locs ls hP hD hS h
  obtain ⟨⟨hx, hb, hml, hown, hts⟩, hK, hA, hr, hlk⟩ := C
  exact lv_sipush hx hb hdg hv (kk H locs ls hP hD hS h)
theorem bh_iadd (C : bh_C p s m args meth c cc nL Ts own D tys A ret) {x y : Int32} (hdg : decode cc pc = .ok (.iadd, 1)) (kk : bh_W p l e R s m args below meth c nL D A cells slots Q (w) lv (pc + 1) (.int (x + y) :: st)) : bh_W p l e R s m args below meth c nL D A cells slots Q (w) lv (pc) (.int y :: .int x :: st) := by
  intro H locs ls hP hD hS h
  obtain ⟨⟨hx, hb, hml, hown, hts⟩, hK, hA, hr, hlk⟩ := C
  exact lv_iadd hx hb hdg (kk H locs ls hP hD hS h)
theorem bh_isub (C : bh_C p s m args meth c cc nL Ts own D tys A ret) {x y : Int32} (hdg : decode cc pc = .ok (.isub, 1)) (kk : bh_W p l e R s m args below meth c nL D A cells slots Q (w) lv (pc + 1) (.int (x - y) :: st)) : bh_W p l e R s m args below meth c nL D A cells slots Q (w) lv (pc) (.int y :: .int x :: st) := by
  intro H locs ls hP hD hS h
  obtain ⟨⟨hx, hb, hml, hown, hts⟩, hK, hA, hr, hlk⟩ := C
  exact lv_isub hx hb hdg (kk H locs ls hP hD hS h)
theorem bh_imul (C : bh_C p s m args meth c cc nL Ts own D tys A ret) {x y : Int32} (hdg : decode cc pc = .ok (.imul, 1)) (kk : bh_W p l e R s m args below meth c nL D A cells slots Q (w) lv (pc + 1) (.int (x * y) :: st)) : bh_W p l e R s m args below meth c nL D A cells slots Q (w) lv (pc) (.int y :: .int x :: st) := by
  intro H locs ls hP hD hS h
  obtain ⟨⟨hx, hb, hml, hown, hts⟩, hK, hA, hr, hlk⟩ := C
  exact lv_imul hx hb hdg (kk H locs ls hP hD hS h)
theorem bh_iand (C : bh_C p s m args meth c cc nL Ts own D tys A ret) {x y : Int32} (hdg : decode cc pc = .ok (.iand, 1)) (kk : bh_W p l e R s m args below meth c nL D A cells slots Q (w) lv (pc + 1) (.int (x &&& y) :: st)) : bh_W p l e R s m args below meth c nL D A cells slots Q (w) lv (pc) (.int y :: .int x :: st) := by
  intro H locs ls hP hD hS h
  obtain ⟨⟨hx, hb, hml, hown, hts⟩, hK, hA, hr, hlk⟩ := C
  exact lv_iand hx hb hdg (kk H locs ls hP hD hS h)
theorem bh_idiv (C : bh_C p s m args meth c cc nL Ts own D tys A ret) {x y : Int32} (hdg : decode cc pc = .ok (.idiv, 1)) (hne : ¬ y = 0) (kk : bh_W p l e R s m args below meth c nL D A cells slots Q (w) lv (pc + 1) (.int (x / y) :: st)) : bh_W p l e R s m args below meth c nL D A cells slots Q (w) lv (pc) (.int y :: .int x :: st) := by
  intro H locs ls hP hD hS h
  obtain ⟨⟨hx, hb, hml, hown, hts⟩, hK, hA, hr, hlk⟩ := C
  exact lv_idiv hx hb hdg hne (kk H locs ls hP hD hS h)
theorem bh_irem (C : bh_C p s m args meth c cc nL Ts own D tys A ret) {x y : Int32} (hdg : decode cc pc = .ok (.irem, 1)) (hne : ¬ y = 0) (kk : bh_W p l e R s m args below meth c nL D A cells slots Q (w) lv (pc + 1) (.int (x - x / y * y) :: st)) : bh_W p l e R s m args below meth c nL D A cells slots Q (w) lv (pc) (.int y :: .int x :: st) := by
  intro H locs ls hP hD hS h
  obtain ⟨⟨hx, hb, hml, hown, hts⟩, hK, hA, hr, hlk⟩ := C
  exact lv_irem hx hb hdg hne (kk H locs ls hP hD hS h)
theorem bh_ineg (C : bh_C p s m args meth c cc nL Ts own D tys A ret) {x : Int32} (hdg : decode cc pc = .ok (.ineg, 1)) (kk : bh_W p l e R s m args below meth c nL D A cells slots Q (w) lv (pc + 1) (.int (-x) :: st)) : bh_W p l e R s m args below meth c nL D A cells slots Q (w) lv (pc) (.int x :: st) := by
  intro H locs ls hP hD hS h
  obtain ⟨⟨hx, hb, hml, hown, hts⟩, hK, hA, hr, hlk⟩ := C
  exact lv_ineg hx hb hdg (kk H locs ls hP hD hS h)
theorem bh_i2l (C : bh_C p s m args meth c cc nL Ts own D tys A ret) {x : Int32} {v : Int64} (hdg : decode cc pc = .ok (.i2l, 1)) (hv : x.toInt64 = v) (kk : bh_W p l e R s m args below meth c nL D A cells slots Q (w) lv (pc + 1) (.long v :: st)) : bh_W p l e R s m args below meth c nL D A cells slots Q (w) lv (pc) (.int x :: st) := by
  intro H locs ls hP hD hS h
  obtain ⟨⟨hx, hb, hml, hown, hts⟩, hK, hA, hr, hlk⟩ := C
  exact lv_i2l hx hb hdg hv (kk H locs ls hP hD hS h)
theorem bh_lcmp (C : bh_C p s m args meth c cc nL Ts own D tys A ret) {x y : Int64} (hdg : decode cc pc = .ok (.lcmp, 1)) (kk : bh_W p l e R s m args below meth c nL D A cells slots Q (w) lv (pc + 1) (.int (lg_cmp x y) :: st)) : bh_W p l e R s m args below meth c nL D A cells slots Q (w) lv (pc) (.long y :: .long x :: st) := by
  intro H locs ls hP hD hS h
  obtain ⟨⟨hx, hb, hml, hown, hts⟩, hK, hA, hr, hlk⟩ := C
  exact W.lcmp hx hb hdg (kk H locs ls hP hD hS h)
theorem bh_dup (C : bh_C p s m args meth c cc nL Ts own D tys A ret) {va : Value} (hdg : decode cc pc = .ok (.dup, 1)) (hva : va.category = 1) (kk : bh_W p l e R s m args below meth c nL D A cells slots Q (w) lv (pc + 1) (va :: va :: st)) : bh_W p l e R s m args below meth c nL D A cells slots Q (w) lv (pc) (va :: st) := by
  intro H locs ls hP hD hS h
  obtain ⟨⟨hx, hb, hml, hown, hts⟩, hK, hA, hr, hlk⟩ := C
  exact lv_dup hx hb hdg hva (kk H locs ls hP hD hS h)
theorem bh_dup2 (C : bh_C p s m args meth c cc nL Ts own D tys A ret) {va vb : Value} (hdg : decode cc pc = .ok (.dup2, 1)) (hva : va.category = 1) (hvb : vb.category = 1) (kk : bh_W p l e R s m args below meth c nL D A cells slots Q (w) lv (pc + 1) (va :: vb :: va :: vb :: st)) : bh_W p l e R s m args below meth c nL D A cells slots Q (w) lv (pc) (va :: vb :: st) := by
  intro H locs ls hP hD hS h
  obtain ⟨⟨hx, hb, hml, hown, hts⟩, hK, hA, hr, hlk⟩ := C
  exact lv_dup2_11 hx hb hdg hva hvb (kk H locs ls hP hD hS h)
theorem bh_dup_x1 (C : bh_C p s m args meth c cc nL Ts own D tys A ret) {va vb : Value} (hdg : decode cc pc = .ok (.dup_x1, 1)) (hva : va.category = 1) (hvb : vb.category = 1) (kk : bh_W p l e R s m args below meth c nL D A cells slots Q (w) lv (pc + 1) (va :: vb :: va :: st)) : bh_W p l e R s m args below meth c nL D A cells slots Q (w) lv (pc) (va :: vb :: st) := by
  intro H locs ls hP hD hS h
  obtain ⟨⟨hx, hb, hml, hown, hts⟩, hK, hA, hr, hlk⟩ := C
  exact lv_dup_x1 hx hb hdg hva hvb (kk H locs ls hP hD hS h)
theorem bh_pop (C : bh_C p s m args meth c cc nL Ts own D tys A ret) {va : Value} (hdg : decode cc pc = .ok (.pop, 1)) (hva : va.category = 1) (kk : bh_W p l e R s m args below meth c nL D A cells slots Q (w) lv (pc + 1) (st)) : bh_W p l e R s m args below meth c nL D A cells slots Q (w) lv (pc) (va :: st) := by
  intro H locs ls hP hD hS h
  obtain ⟨⟨hx, hb, hml, hown, hts⟩, hK, hA, hr, hlk⟩ := C
  exact lv_pop hx hb hdg hva (kk H locs ls hP hD hS h)
theorem bh_icmp_eq (C : bh_C p s m args meth c cc nL Ts own D tys A ret) {x y : Int32} {off : Int} {tgt : Nat} (hdg : decode cc pc = .ok (.if_icmp .eq off, 3)) (ht : (pc : Int) + off = (tgt : Int)) (kt : x = y → bh_W p l e R s m args below meth c nL D A cells slots Q (w) lv (tgt) (st)) (kf : ¬ x = y → bh_W p l e R s m args below meth c nL D A cells slots Q (w) lv (pc + 3) (st)) : bh_W p l e R s m args below meth c nL D A cells slots Q (w) lv (pc) (.int y :: .int x :: st) := by
  intro H locs ls hP hD hS h
  obtain ⟨⟨hx, hb, hml, hown, hts⟩, hK, hA, hr, hlk⟩ := C
  exact lv_icmp_eq hx hb hdg ht (fun q => kt q H locs ls hP hD hS h) (fun q => kf q H locs ls hP hD hS h)
theorem bh_if_eq (C : bh_C p s m args meth c cc nL Ts own D tys A ret) {x : Int32} {off : Int} {tgt : Nat} (hdg : decode cc pc = .ok (.ifCond .eq off, 3)) (ht : (pc : Int) + off = (tgt : Int)) (kt : x = 0 → bh_W p l e R s m args below meth c nL D A cells slots Q (w) lv (tgt) (st)) (kf : ¬ x = 0 → bh_W p l e R s m args below meth c nL D A cells slots Q (w) lv (pc + 3) (st)) : bh_W p l e R s m args below meth c nL D A cells slots Q (w) lv (pc) (.int x :: st) := by
  intro H locs ls hP hD hS h
  obtain ⟨⟨hx, hb, hml, hown, hts⟩, hK, hA, hr, hlk⟩ := C
  exact lv_if_eq hx hb hdg ht (fun q => kt q H locs ls hP hD hS h) (fun q => kf q H locs ls hP hD hS h)
theorem bh_icmp_ne (C : bh_C p s m args meth c cc nL Ts own D tys A ret) {x y : Int32} {off : Int} {tgt : Nat} (hdg : decode cc pc = .ok (.if_icmp .ne off, 3)) (ht : (pc : Int) + off = (tgt : Int)) (kt : ¬ x = y → bh_W p l e R s m args below meth c nL D A cells slots Q (w) lv (tgt) (st)) (kf : x = y → bh_W p l e R s m args below meth c nL D A cells slots Q (w) lv (pc + 3) (st)) : bh_W p l e R s m args below meth c nL D A cells slots Q (w) lv (pc) (.int y :: .int x :: st) := by
  intro H locs ls hP hD hS h
  obtain ⟨⟨hx, hb, hml, hown, hts⟩, hK, hA, hr, hlk⟩ := C
  exact lv_icmp_ne hx hb hdg ht (fun q => kt q H locs ls hP hD hS h) (fun q => kf q H locs ls hP hD hS h)
theorem bh_if_ne (C : bh_C p s m args meth c cc nL Ts own D tys A ret) {x : Int32} {off : Int} {tgt : Nat} (hdg : decode cc pc = .ok (.ifCond .ne off, 3)) (ht : (pc : Int) + off = (tgt : Int)) (kt : ¬ x = 0 → bh_W p l e R s m args below meth c nL D A cells slots Q (w) lv (tgt) (st)) (kf : x = 0 → bh_W p l e R s m args below meth c nL D A cells slots Q (w) lv (pc + 3) (st)) : bh_W p l e R s m args below meth c nL D A cells slots Q (w) lv (pc) (.int x :: st) := by
  intro H locs ls hP hD hS h
  obtain ⟨⟨hx, hb, hml, hown, hts⟩, hK, hA, hr, hlk⟩ := C
  exact lv_if_ne hx hb hdg ht (fun q => kt q H locs ls hP hD hS h) (fun q => kf q H locs ls hP hD hS h)
theorem bh_icmp_lt (C : bh_C p s m args meth c cc nL Ts own D tys A ret) {x y : Int32} {off : Int} {tgt : Nat} (hdg : decode cc pc = .ok (.if_icmp .lt off, 3)) (ht : (pc : Int) + off = (tgt : Int)) (kt : x < y → bh_W p l e R s m args below meth c nL D A cells slots Q (w) lv (tgt) (st)) (kf : ¬ x < y → bh_W p l e R s m args below meth c nL D A cells slots Q (w) lv (pc + 3) (st)) : bh_W p l e R s m args below meth c nL D A cells slots Q (w) lv (pc) (.int y :: .int x :: st) := by
  intro H locs ls hP hD hS h
  obtain ⟨⟨hx, hb, hml, hown, hts⟩, hK, hA, hr, hlk⟩ := C
  exact lv_icmp_lt hx hb hdg ht (fun q => kt q H locs ls hP hD hS h) (fun q => kf q H locs ls hP hD hS h)
theorem bh_if_lt (C : bh_C p s m args meth c cc nL Ts own D tys A ret) {x : Int32} {off : Int} {tgt : Nat} (hdg : decode cc pc = .ok (.ifCond .lt off, 3)) (ht : (pc : Int) + off = (tgt : Int)) (kt : x < 0 → bh_W p l e R s m args below meth c nL D A cells slots Q (w) lv (tgt) (st)) (kf : ¬ x < 0 → bh_W p l e R s m args below meth c nL D A cells slots Q (w) lv (pc + 3) (st)) : bh_W p l e R s m args below meth c nL D A cells slots Q (w) lv (pc) (.int x :: st) := by
  intro H locs ls hP hD hS h
  obtain ⟨⟨hx, hb, hml, hown, hts⟩, hK, hA, hr, hlk⟩ := C
  exact lv_if_lt hx hb hdg ht (fun q => kt q H locs ls hP hD hS h) (fun q => kf q H locs ls hP hD hS h)
theorem bh_icmp_ge (C : bh_C p s m args meth c cc nL Ts own D tys A ret) {x y : Int32} {off : Int} {tgt : Nat} (hdg : decode cc pc = .ok (.if_icmp .ge off, 3)) (ht : (pc : Int) + off = (tgt : Int)) (kt : y ≤ x → bh_W p l e R s m args below meth c nL D A cells slots Q (w) lv (tgt) (st)) (kf : ¬ y ≤ x → bh_W p l e R s m args below meth c nL D A cells slots Q (w) lv (pc + 3) (st)) : bh_W p l e R s m args below meth c nL D A cells slots Q (w) lv (pc) (.int y :: .int x :: st) := by
  intro H locs ls hP hD hS h
  obtain ⟨⟨hx, hb, hml, hown, hts⟩, hK, hA, hr, hlk⟩ := C
  exact lv_icmp_ge hx hb hdg ht (fun q => kt q H locs ls hP hD hS h) (fun q => kf q H locs ls hP hD hS h)
theorem bh_if_ge (C : bh_C p s m args meth c cc nL Ts own D tys A ret) {x : Int32} {off : Int} {tgt : Nat} (hdg : decode cc pc = .ok (.ifCond .ge off, 3)) (ht : (pc : Int) + off = (tgt : Int)) (kt : 0 ≤ x → bh_W p l e R s m args below meth c nL D A cells slots Q (w) lv (tgt) (st)) (kf : ¬ 0 ≤ x → bh_W p l e R s m args below meth c nL D A cells slots Q (w) lv (pc + 3) (st)) : bh_W p l e R s m args below meth c nL D A cells slots Q (w) lv (pc) (.int x :: st) := by
  intro H locs ls hP hD hS h
  obtain ⟨⟨hx, hb, hml, hown, hts⟩, hK, hA, hr, hlk⟩ := C
  exact lv_if_ge hx hb hdg ht (fun q => kt q H locs ls hP hD hS h) (fun q => kf q H locs ls hP hD hS h)
theorem bh_icmp_gt (C : bh_C p s m args meth c cc nL Ts own D tys A ret) {x y : Int32} {off : Int} {tgt : Nat} (hdg : decode cc pc = .ok (.if_icmp .gt off, 3)) (ht : (pc : Int) + off = (tgt : Int)) (kt : y < x → bh_W p l e R s m args below meth c nL D A cells slots Q (w) lv (tgt) (st)) (kf : ¬ y < x → bh_W p l e R s m args below meth c nL D A cells slots Q (w) lv (pc + 3) (st)) : bh_W p l e R s m args below meth c nL D A cells slots Q (w) lv (pc) (.int y :: .int x :: st) := by
  intro H locs ls hP hD hS h
  obtain ⟨⟨hx, hb, hml, hown, hts⟩, hK, hA, hr, hlk⟩ := C
  exact lv_icmp_gt hx hb hdg ht (fun q => kt q H locs ls hP hD hS h) (fun q => kf q H locs ls hP hD hS h)
theorem bh_if_gt (C : bh_C p s m args meth c cc nL Ts own D tys A ret) {x : Int32} {off : Int} {tgt : Nat} (hdg : decode cc pc = .ok (.ifCond .gt off, 3)) (ht : (pc : Int) + off = (tgt : Int)) (kt : 0 < x → bh_W p l e R s m args below meth c nL D A cells slots Q (w) lv (tgt) (st)) (kf : ¬ 0 < x → bh_W p l e R s m args below meth c nL D A cells slots Q (w) lv (pc + 3) (st)) : bh_W p l e R s m args below meth c nL D A cells slots Q (w) lv (pc) (.int x :: st) := by
  intro H locs ls hP hD hS h
  obtain ⟨⟨hx, hb, hml, hown, hts⟩, hK, hA, hr, hlk⟩ := C
  exact lv_if_gt hx hb hdg ht (fun q => kt q H locs ls hP hD hS h) (fun q => kf q H locs ls hP hD hS h)
theorem bh_icmp_le (C : bh_C p s m args meth c cc nL Ts own D tys A ret) {x y : Int32} {off : Int} {tgt : Nat} (hdg : decode cc pc = .ok (.if_icmp .le off, 3)) (ht : (pc : Int) + off = (tgt : Int)) (kt : x ≤ y → bh_W p l e R s m args below meth c nL D A cells slots Q (w) lv (tgt) (st)) (kf : ¬ x ≤ y → bh_W p l e R s m args below meth c nL D A cells slots Q (w) lv (pc + 3) (st)) : bh_W p l e R s m args below meth c nL D A cells slots Q (w) lv (pc) (.int y :: .int x :: st) := by
  intro H locs ls hP hD hS h
  obtain ⟨⟨hx, hb, hml, hown, hts⟩, hK, hA, hr, hlk⟩ := C
  exact lv_icmp_le hx hb hdg ht (fun q => kt q H locs ls hP hD hS h) (fun q => kf q H locs ls hP hD hS h)
theorem bh_if_le (C : bh_C p s m args meth c cc nL Ts own D tys A ret) {x : Int32} {off : Int} {tgt : Nat} (hdg : decode cc pc = .ok (.ifCond .le off, 3)) (ht : (pc : Int) + off = (tgt : Int)) (kt : x ≤ 0 → bh_W p l e R s m args below meth c nL D A cells slots Q (w) lv (tgt) (st)) (kf : ¬ x ≤ 0 → bh_W p l e R s m args below meth c nL D A cells slots Q (w) lv (pc + 3) (st)) : bh_W p l e R s m args below meth c nL D A cells slots Q (w) lv (pc) (.int x :: st) := by
  intro H locs ls hP hD hS h
  obtain ⟨⟨hx, hb, hml, hown, hts⟩, hK, hA, hr, hlk⟩ := C
  exact lv_if_le hx hb hdg ht (fun q => kt q H locs ls hP hD hS h) (fun q => kf q H locs ls hP hD hS h)
theorem bh_goto (C : bh_C p s m args meth c cc nL Ts own D tys A ret) {off : Int} {tgt : Nat} (hdg : decode cc pc = .ok (.goto off, 3)) (ht : (pc : Int) + off = (tgt : Int)) (kk : bh_W p l e R s m args below meth c nL D A cells slots Q (w) lv (tgt) (st)) : bh_W p l e R s m args below meth c nL D A cells slots Q (w) lv (pc) (st) := by
  intro H locs ls hP hD hS h
  obtain ⟨⟨hx, hb, hml, hown, hts⟩, hK, hA, hr, hlk⟩ := C
  exact lv_goto hx hb hdg ht (kk H locs ls hP hD hS h)
theorem bh_lv (is : List Nat) (h0 : lv_pick lv is = lv') (kk : bh_W p l e R s m args below meth c nL D A cells slots Q (w) lv' (pc) (st)) : bh_W p l e R s m args below meth c nL D A cells slots Q (w) lv (pc) (st) := fun H locs ls hP hD hS h => kk H locs ls hP hD hS (lv_sub h is h0)
theorem bh_eqlv (h0 : lv = lv') (kk : bh_W p l e R s m args below meth c nL D A cells slots Q (w) lv' (pc) (st)) : bh_W p l e R s m args below meth c nL D A cells slots Q (w) lv (pc) (st) := h0 ▸ kk
theorem bh_eqw (h0 : w = w') (kk : bh_W p l e R s m args below meth c nL D A cells slots Q (w') lv (pc) (st)) : bh_W p l e R s m args below meth c nL D A cells slots Q (w) lv (pc) (st) := h0 ▸ kk
theorem bh_topi {x y : Int32} (h0 : x = y) (kk : bh_W p l e R s m args below meth c nL D A cells slots Q (w) lv (pc) (.int y :: st)) : bh_W p l e R s m args below meth c nL D A cells slots Q (w) lv (pc) (.int x :: st) := h0 ▸ kk
theorem bh_widen {k n : Nat} (h1 : cells ≤ k) (h2 : slots ≤ n) (kk : bh_W p l e R s m args below meth c nL D A k n Q (w) lv (pc) (st)) : bh_W p l e R s m args below meth c nL D A cells slots Q (w) lv (pc) (st) := fun H locs ls hP hD hS h => W.widen h1 h2 (kk H locs ls hP hD hS h)
/-- the same world in another order -/
theorem bh_Pmem {D : va_G} {w : va_W} {H : Heap} : va_P D vwCl w H ↔ ∀ q ∈ w, va_at D vwCl q H := by
  constructor
  · intro h q hq
    obtain ⟨k, hk⟩ := List.mem_iff_getElem?.mp hq
    exact h k q hk
  · intro h k q hk
    exact h q (List.mem_of_getElem? hk)
theorem bh_Dmem {A : Nat → Prop} {w : va_W} : va_D A w ↔ (w.map (·.1)).Nodup ∧ ∀ q ∈ w, A q.1 := by
  constructor
  · intro h
    refine ⟨?_, fun q hq => ?_⟩
    · rw [List.Nodup, List.pairwise_map, List.pairwise_iff_getElem]
      intro i j hi hj hij hne
      have := h.1 i j _ _ (List.getElem?_eq_getElem hi) (List.getElem?_eq_getElem hj) hne
      omega
    · obtain ⟨k, hk⟩ := List.mem_iff_getElem?.mp hq
      exact h.2 k q hk
  · intro h
    refine ⟨fun i j x y hi hj hxy => ?_, fun k q hk => h.2 q (List.mem_of_getElem? hk)⟩
    have h1 := h.1
    rw [List.Nodup, List.pairwise_map, List.pairwise_iff_getElem] at h1
    obtain ⟨li, ei⟩ := List.getElem?_eq_some_iff.mp hi
    obtain ⟨lj, ej⟩ := List.getElem?_eq_some_iff.mp hj
    rcases Nat.lt_trichotomy i j with q | q | q
    · exact absurd (by rw [ei, ej]; exact hxy) (h1 i j li lj q)
    · exact q
    · exact absurd (by rw [ei, ej]; exact hxy.symm) (h1 j i lj li q)
theorem bh_Pperm {D : va_G} {w w' : va_W} {H : Heap} (hp : w.Perm w') (h : va_P D vwCl w H) : va_P D vwCl w' H := bh_Pmem.mpr (fun q hq => bh_Pmem.mp h q (hp.mem_iff.mpr hq))
theorem bh_Dperm {A : Nat → Prop} {w w' : va_W} (hp : w.Perm w') (h : va_D A w) : va_D A w' := by
  obtain ⟨h1, h2⟩ := bh_Dmem.mp h
  exact bh_Dmem.mpr ⟨((hp.map (·.1)).nodup_iff).mp h1, fun q hq => h2 q (hp.mem_iff.mpr hq)⟩
theorem bh_Papp {D : va_G} {a b : va_W} {H : Heap} : va_P D vwCl (a ++ b) H ↔ va_P D vwCl a H ∧ va_P D vwCl b H := by
  simp only [bh_Pmem, List.mem_append]
  exact ⟨fun h => ⟨fun q hq => h q (Or.inl hq), fun q hq => h q (Or.inr hq)⟩, fun h q hq => hq.elim (h.1 q) (h.2 q)⟩
theorem bh_Dapp {A : Nat → Prop} {a b : va_W} : va_D A (a ++ b) ↔ va_D A a ∧ va_D A b ∧ ∀ x ∈ a, ∀ y ∈ b, x.1 ≠ y.1 := by
  simp only [bh_Dmem, List.map_append, List.nodup_append, List.mem_append, List.mem_map]
  constructor
  · rintro ⟨⟨h1, h2, h3⟩, h4⟩
    exact ⟨⟨h1, fun q hq => h4 q (Or.inl hq)⟩, ⟨h2, fun q hq => h4 q (Or.inr hq)⟩, fun x hx y hy => h3 _ ⟨x, hx, rfl⟩ _ ⟨y, hy, rfl⟩⟩
  · rintro ⟨⟨h1, h2⟩, ⟨h3, h4⟩, h5⟩
    refine ⟨⟨h1, h3, ?_⟩, fun q hq => hq.elim (h2 q) (h4 q)⟩
    rintro _ ⟨x, hx, rfl⟩ _ ⟨y, hy, rfl⟩
    exact h5 x hx y hy
/-- behind a call: what wasn't the callee's stays, its own world comes back -/
theorem bh_join {A0 : Nat → Prop} {D : va_G} {wc wr w1 : va_W} {H H1 : Heap} (hP : va_P D vwCl (wr ++ wc) H) (hD : va_D A0 (wr ++ wc))
    (hk : ∀ q : Nat, q < H.size → ¬ va_A wc H.size q → H1[q]? = H[q]?) (hF : ∀ q, va_A wc H.size q → A0 q) (hP1 : va_P D vwCl w1 H1) (hD1 : va_D (va_A wc H.size) w1) : va_P D vwCl (wr ++ w1) H1 ∧ va_D A0 (wr ++ w1) := by
  obtain ⟨hPr, hPc⟩ := bh_Papp.mp hP
  obtain ⟨hDr, hDc, hx⟩ := bh_Dapp.mp hD
  have apart : ∀ q ∈ wr, q.1 < H.size ∧ ¬ va_A wc H.size q.1 := by
    intro q hq
    have hl := (bh_Pmem.mp hPr q hq).lt
    refine ⟨hl, fun h => ?_⟩
    rcases h with ⟨k2, e2, h⟩ | h
    · exact hx q hq (q.1, e2) (List.mem_of_getElem? h) rfl
    · omega
  refine ⟨bh_Papp.mpr ⟨bh_Pmem.mpr fun q hq => ?_, hP1⟩, bh_Dapp.mpr ⟨hDr, hD1.weaken (fun k q _ h => hF q.1 h), fun x hx2 y hy hxy => ?_⟩⟩
  · obtain ⟨g1, g2⟩ := apart q hq
    exact (bh_Pmem.mp hPr q hq).kept (hk q.1 g1 g2)
  · obtain ⟨k, hk2⟩ := List.mem_iff_getElem?.mp hy
    exact (apart x hx2).2 (by rw [hxy]; exact hD1.2 k y hk2)
theorem bh_free {A0 : Nat → Prop} {wc wr : va_W} {H0 H : Heap} {locs : List Loc} (hD : va_D A0 (wr ++ wc)) (hS : va_S A0 H0 H locs) (hA : ∀ q, H0.size ≤ q → A0 q) : ∀ q, va_A wc H.size q → A0 q := by
  intro q h
  rcases h with ⟨k, e2, h⟩ | h
  · exact (bh_Dapp.mp hD).2.1.2 k (q, e2) h
  · exact hA q (Nat.le_trans hS.1 h)
theorem bh_perm (hp : w.Perm w') (kk : bh_W p l e R s m args below meth c nL D A cells slots Q (w') lv (pc) (st)) : bh_W p l e R s m args below meth c nL D A cells slots Q (w) lv (pc) (st) := fun H locs ls hP hD hS h => kk H locs ls (bh_Pperm hp hP) (bh_Dperm hp hD) hS h
theorem bh_get (C : bh_C p s m args meth c cc nL Ts own D tys A ret) {Cn : String} {T : u_T} {N ci index : Nat} (hin : ∀ z ∈ u_ws Cn T N, z ∈ Ts) (q0 : Nat) {a : Nat} {fs : List Value} (he : w[q0]? = some (a, .inr (ci, fs))) (hc : vwCl[ci]? = some (Cn, T, N)) (k : Nat) (hk : k < N) (hlink : Cond.fieldLink own index Cn (T k).2.1 (T k).2.2.1 ∈ Ts) (hsame : (T k).1 = Cn) {v : Value} (hv : fs[k]? = some v) (hdg : decode cc pc = .ok (.getfield index, 3)) (kk : bh_W p l e R s m args below meth c nL D A cells slots Q (w) lv (pc + 3) (v :: st)) : bh_W p l e R s m args below meth c nL D A cells slots Q (w) lv (pc) (.ref a :: st) := by
  intro H locs ls hP hD hS h
  obtain ⟨⟨hx, hb, hml, hown, hts⟩, hK, hA, hr, hlk⟩ := C
  exact va_get hx hb hts hin hown hK hP q0 he hc k hk (hts _ hlink) (fun _ h9 => by rw [hsame] at h9; exact h9) hv hdg (kk H locs ls hP hD hS h)
theorem bh_put (C : bh_C p s m args meth c cc nL Ts own D tys A ret) {Cn : String} {T : u_T} {N ci index : Nat} (hin : ∀ z ∈ u_ws Cn T N, z ∈ Ts) (ty0 : Nat → FieldType) (hty : ∀ k, k < N → parseFieldDescriptor (T k).2.2.1 = some (ty0 k)) (hnm : ∀ a, a < N → ∀ b, b < N → a ≠ b → (T a).2.1 ≠ (T b).2.1) (q0 : Nat) {a : Nat} {fs : List Value} (he : w[q0]? = some (a, .inr (ci, fs))) (hc : vwCl[ci]? = some (Cn, T, N)) (k : Nat) (hk : k < N) (hlink : Cond.fieldLink own index Cn (T k).2.1 (T k).2.2.1 ∈ Ts) (hsame : (T k).1 = Cn) (hfin : (T k).2.2.2 = false) {ty : FieldType} {v : Value} (hd : parseFieldDescriptor (T k).2.2.1 = some ty) (hn : narrow ty v = v) (hfit : fits ty v = true) (hl : k < fs.length) (hdg : decode cc pc = .ok (.putfield index, 3)) (hw : w.set q0 (a, .inr (ci, fs.set k v)) = w') (kk : bh_W p l e R s m args below meth c nL D A cells slots Q (w') lv (pc + 3) (st)) : bh_W p l e R s m args below meth c nL D A cells slots Q (w) lv (pc) (v :: .ref a :: st) := by
  intro H locs ls hP hD hS h
  obtain ⟨⟨hx, hb, hml, hown, hts⟩, hK, hA, hr, hlk⟩ := C
  subst hw
  exact va_put hx hb hts hin ty0 hty hnm hown hK hP hD hS q0 he hc k hk (hts _ hlink) (fun _ h9 => by rw [hsame] at h9; exact h9) hfin hd hn hfit hl hdg (fun H1 locs1 hP1 hD1 hS1 => kk H1 locs1 ls hP1 hD1 hS1 h)
theorem bh_iald (C : bh_C p s m args meth c cc nL Ts own D tys A ret) (q0 t0 : Nat) {a : Nat} {cA : ClassId} {n : Nat} {f : Nat → Int32} (ha : w[q0]? = some (a, .inl (cA, n, .inl f))) (ht : tys[t0]? = some (cA, .int)) {i : Int32} (hin : vp_in i n) {x : Int32} (hv : f i.toNatClampNeg = x) (hdg : decode cc pc = .ok (.iaload, 1)) (kk : bh_W p l e R s m args below meth c nL D A cells slots Q (w) lv (pc + 1) (.int x :: st)) : bh_W p l e R s m args below meth c nL D A cells slots Q (w) lv (pc) (.int i :: .ref a :: st) := by
  intro H locs ls hP hD hS h
  obtain ⟨⟨hx, hb, hml, hown, hts⟩, hK, hA, hr, hlk⟩ := C
  subst hv
  exact va_iald hx hb hK hP q0 t0 ha ht hin hdg (kk H locs ls hP hD hS h)
theorem bh_zald (C : bh_C p s m args meth c cc nL Ts own D tys A ret) (q0 t0 : Nat) {a : Nat} {cA : ClassId} {n : Nat} {f : Nat → Int32} (ha : w[q0]? = some (a, .inl (cA, n, .inl f))) (ht : tys[t0]? = some (cA, .boolean)) {i : Int32} (hin : vp_in i n) {x : Int32} (hv : f i.toNatClampNeg = x) (hdg : decode cc pc = .ok (.baload, 1)) (kk : bh_W p l e R s m args below meth c nL D A cells slots Q (w) lv (pc + 1) (.int x :: st)) : bh_W p l e R s m args below meth c nL D A cells slots Q (w) lv (pc) (.int i :: .ref a :: st) := by
  intro H locs ls hP hD hS h
  obtain ⟨⟨hx, hb, hml, hown, hts⟩, hK, hA, hr, hlk⟩ := C
  subst hv
  exact va_zald hx hb hK hP q0 t0 ha ht hin hdg (kk H locs ls hP hD hS h)
theorem bh_iast (C : bh_C p s m args meth c cc nL Ts own D tys A ret) (q0 t0 : Nat) {a : Nat} {cA : ClassId} {n : Nat} {f : Nat → Int32} (ha : w[q0]? = some (a, .inl (cA, n, .inl f))) (ht : tys[t0]? = some (cA, .int)) {i x : Int32} (hin : vp_in i n) (hdg : decode cc pc = .ok (.iastore, 1)) (hw : w.set q0 (a, .inl (cA, n, .inl (upd f i.toNatClampNeg (x)))) = w') (kk : bh_W p l e R s m args below meth c nL D A cells slots Q (w') lv (pc + 1) (st)) : bh_W p l e R s m args below meth c nL D A cells slots Q (w) lv (pc) (.int x :: .int i :: .ref a :: st) := by
  intro H locs ls hP hD hS h
  obtain ⟨⟨hx, hb, hml, hown, hts⟩, hK, hA, hr, hlk⟩ := C
  subst hw
  exact va_iast hx hb hK hP hD hS q0 t0 ha ht hin hdg (fun H1 locs1 hP1 hD1 hS1 => kk H1 locs1 ls hP1 hD1 hS1 h)
theorem bh_zast (C : bh_C p s m args meth c cc nL Ts own D tys A ret) (q0 t0 : Nat) {a : Nat} {cA : ClassId} {n : Nat} {f : Nat → Int32} (ha : w[q0]? = some (a, .inl (cA, n, .inl f))) (ht : tys[t0]? = some (cA, .boolean)) {i x : Int32} (hin : vp_in i n) (hdg : decode cc pc = .ok (.bastore, 1)) (hw : w.set q0 (a, .inl (cA, n, .inl (upd f i.toNatClampNeg (vp_nar .boolean x)))) = w') (kk : bh_W p l e R s m args below meth c nL D A cells slots Q (w') lv (pc + 1) (st)) : bh_W p l e R s m args below meth c nL D A cells slots Q (w) lv (pc) (.int x :: .int i :: .ref a :: st) := by
  intro H locs ls hP hD hS h
  obtain ⟨⟨hx, hb, hml, hown, hts⟩, hK, hA, hr, hlk⟩ := C
  subst hw
  exact va_zast hx hb hK hP hD hS q0 t0 ha ht hin hdg (fun H1 locs1 hP1 hD1 hS1 => kk H1 locs1 ls hP1 hD1 hS1 h)
theorem bh_lald (C : bh_C p s m args meth c cc nL Ts own D tys A ret) (q0 t0 : Nat) {a : Nat} {cA : ClassId} {n : Nat} {f : Nat → Int64} (ha : w[q0]? = some (a, .inl (cA, n, .inr (.inl f)))) (ht : tys[t0]? = some (cA, .long)) {i : Int32} (hin : vp_in i n) {x : Int64} (hv : f i.toNatClampNeg = x) (hdg : decode cc pc = .ok (.laload, 1)) (kk : bh_W p l e R s m args below meth c nL D A cells slots Q (w) lv (pc + 1) (.long x :: st)) : bh_W p l e R s m args below meth c nL D A cells slots Q (w) lv (pc) (.int i :: .ref a :: st) := by
  intro H locs ls hP hD hS h
  obtain ⟨⟨hx, hb, hml, hown, hts⟩, hK, hA, hr, hlk⟩ := C
  subst hv
  exact va_lald hx hb hK hP q0 t0 ha ht hin hdg (kk H locs ls hP hD hS h)
theorem bh_last (C : bh_C p s m args meth c cc nL Ts own D tys A ret) (q0 t0 : Nat) {a : Nat} {cA : ClassId} {n : Nat} {f : Nat → Int64} (ha : w[q0]? = some (a, .inl (cA, n, .inr (.inl f)))) (ht : tys[t0]? = some (cA, .long)) {i : Int32} {x : Int64} (hin : vp_in i n) (hdg : decode cc pc = .ok (.lastore, 1)) (hw : w.set q0 (a, .inl (cA, n, .inr (.inl (vp_updL f i.toNatClampNeg x)))) = w') (kk : bh_W p l e R s m args below meth c nL D A cells slots Q (w') lv (pc + 1) (st)) : bh_W p l e R s m args below meth c nL D A cells slots Q (w) lv (pc) (.long x :: .int i :: .ref a :: st) := by
  intro H locs ls hP hD hS h
  obtain ⟨⟨hx, hb, hml, hown, hts⟩, hK, hA, hr, hlk⟩ := C
  subst hw
  exact va_last hx hb hK hP hD hS q0 t0 ha ht hin hdg (fun H1 locs1 hP1 hD1 hS1 => kk H1 locs1 ls hP1 hD1 hS1 h)
theorem bh_mmax (C : bh_C p s m args meth c cc nL Ts own D tys A ret) {index : Nat} (hlink : Cond.methodLink own index Lib.Math.max.name ∈ Ts) (hstat : Cond.static Lib.Math.max.name ∈ Ts) (hini : Cond.initialized "java/lang/Math" ∈ Ts) (hcode : Cond.code Lib.Math.max.name Lib.Math.max.code 2 (some .int) ∈ Ts) (hframes : 1 ≤ R.frames) (hlocals : (st.map fun v => v.category).sum + 13 ≤ R.locals) (hc : cells ≤ R.cells) (hs : slots ≤ R.slots) {x y : Int32} (hdg : decode cc pc = .ok (.invokestatic index, 3)) (kk : bh_W p l e R s m args below meth c nL D A cells slots Q (w) lv (pc + 3) (.int (if x < y then y else x) :: st)) : bh_W p l e R s m args below meth c nL D A cells slots Q (w) lv (pc) (.int y :: .int x :: st) := by
  intro H locs ls hP hD hS h
  obtain ⟨⟨hx, hb, hml, hown, hts⟩, hK, hA, hr, hlk⟩ := C
  exact va_mmax hx hb (hml.trans h.1.symm) hown (hts _ hlink) (hts _ hstat) (hts _ hini) (hts _ hcode) hframes hlocals hc hs hdg (kk H locs ls hP hD hS h)
theorem bh_mabs (C : bh_C p s m args meth c cc nL Ts own D tys A ret) {index : Nat} (hlink : Cond.methodLink own index Lib.Math.abs.name ∈ Ts) (hstat : Cond.static Lib.Math.abs.name ∈ Ts) (hini : Cond.initialized "java/lang/Math" ∈ Ts) (hcode : Cond.code Lib.Math.abs.name Lib.Math.abs.code 1 (some .int) ∈ Ts) (hframes : 1 ≤ R.frames) (hlocals : (st.map fun v => v.category).sum + 13 ≤ R.locals) (hc : cells ≤ R.cells) (hs : slots ≤ R.slots) {x : Int32} (hdg : decode cc pc = .ok (.invokestatic index, 3)) (kk : bh_W p l e R s m args below meth c nL D A cells slots Q (w) lv (pc + 3) (.int (if 0 ≤ x then x else 0 - x) :: st)) : bh_W p l e R s m args below meth c nL D A cells slots Q (w) lv (pc) (.int x :: st) := by
  intro H locs ls hP hD hS h
  obtain ⟨⟨hx, hb, hml, hown, hts⟩, hK, hA, hr, hlk⟩ := C
  exact va_mabs hx hb (hml.trans h.1.symm) hown (hts _ hlink) (hts _ hstat) (hts _ hini) (hts _ hcode) hframes hlocals hc hs hdg (kk H locs ls hP hD hS h)
/-- a world at a method's end -/
def bh_B (D : va_G) (tys : List (ClassId × FieldType)) (A1 : Nat → Prop) (w : va_W) (t : State) : Prop := va_P D vwCl w t.heap ∧ va_K D vwCl tys t ∧ va_D A1 w
def bh_P0 (D : va_G) (tys : List (ClassId × FieldType)) (w0 : va_W) (sz : Nat) (U : State) : Prop := U.heap.size = sz ∧ va_P D vwCl w0 U.heap ∧ va_K D vwCl tys U ∧ va_D (fun _ => True) w0
/-- contracts: int, void; over any state u whose world is wf u -/
def bh_Mi {S : Type} (l : Launch) (D : va_G) (tys : List (ClassId × FieldType)) (y : MethodName) (ws : List Cond) (rm : Room) (av : List Value) (w0 : va_W) (post : Int32 → S → Prop) (wf : S → va_W) (mc ms : Nat) : Prop :=
  ∀ sz : Nat, Met l y ws rm (va_Pc av (bh_P0 D tys w0 sz)) (va_Qi post (fun u t => bh_B D tys (va_A w0 sz) (wf u) t) (va_A w0 sz)) mc ms (va_A w0 sz)
def bh_Mv {S : Type} (l : Launch) (D : va_G) (tys : List (ClassId × FieldType)) (y : MethodName) (ws : List Cond) (rm : Room) (av : List Value) (w0 : va_W) (post : S → Prop) (wf : S → va_W) (mc ms : Nat) : Prop :=
  ∀ sz : Nat, Met l y ws rm (va_Pc av (bh_P0 D tys w0 sz)) (va_Qv post (fun u t => bh_B D tys (va_A w0 sz) (wf u) t) (va_A w0 sz)) mc ms (va_A w0 sz)
theorem bh_blind {D : va_G} {tys : List (ClassId × FieldType)} {w0 : va_W} {sz : Nat} {av : List Value} : FrameBlind (va_Pc av (bh_P0 D tys w0 sz)) := fun a U g mk q => by
  obtain ⟨q0, q1, qP, qK, qD⟩ := q
  exact ⟨q0, q1, qP, va_K.moved (u := U) (U := U.calling g mk a) (Vm.Alike.refl U.vm) qK, qD⟩
theorem bh_ofi {S : Type} {y : MethodName} {ws ws' : List Cond} {rm : Room} {av : List Value} {w0 : va_W} {post : Int32 → S → Prop} {wf : S → va_W} {mc ms : Nat} {cc : ByteArray} {maxL : Nat} {ty : FieldType} (hy : plainName y.cls = true) (hw : ws = Cond.code y cc maxL (some ty) :: ws') (hn : (lg_sl av).length ≤ maxL)
    (body : ∀ (p : Program) (e : Env) (s : State) (m : MethodId) (args : Array Value) (below : List Frame) (meth : Method) (c : Code) (A : Nat → Prop) (Q : State → Prop), (y.name = "<init>" → meth.name = "<init>") → bh_C p s m args meth c cc maxL ws y.cls D tys A (some ty) → Q = MQ below (va_Qi post (fun u t => bh_B D tys A (wf u) t) A) args s mc ms A → bh_W p l e rm s m args below meth c maxL D A 0 0 Q w0 (lv_args 0 av) 0 []) : bh_Mi l D tys y ws rm av w0 post wf mc ms := by
  intro sz
  refine Met.ofW (cc := cc) (maxL := maxL) (ret := (some ty)) hy hw ?_
  intro p e s m args below meth c s₁ B hml hv
  obtain ⟨rfl, hsz, hP, hK, hD0⟩ := hv
  subst hsz
  have hl := lv_entry av (n := maxL) hn
  rw [lg_entry_eq]
  exact body p e s m _ below meth c (va_A w0 s.heap.size) _ (fun h => (name_of_methodNamed B.named B.method).1.trans h) ⟨⟨B.exec, B.bytes, hml, findClass_of_methodNamed B.named, atoms_spec (ws := ws) B.pre⟩, hK, fun q h => Or.inr h, B.returns, B.notSynchronized⟩ rfl s.heap [] _ hP hD0.self va_S.rf hl
theorem bh_ofv {S : Type} {y : MethodName} {ws ws' : List Cond} {rm : Room} {av : List Value} {w0 : va_W} {post : S → Prop} {wf : S → va_W} {mc ms : Nat} {cc : ByteArray} {maxL : Nat} (hy : plainName y.cls = true) (hw : ws = Cond.code y cc maxL none :: ws') (hn : (lg_sl av).length ≤ maxL)
    (body : ∀ (p : Program) (e : Env) (s : State) (m : MethodId) (args : Array Value) (below : List Frame) (meth : Method) (c : Code) (A : Nat → Prop) (Q : State → Prop), (y.name = "<init>" → meth.name = "<init>") → bh_C p s m args meth c cc maxL ws y.cls D tys A none → Q = MQ below (va_Qv post (fun u t => bh_B D tys A (wf u) t) A) args s mc ms A → bh_W p l e rm s m args below meth c maxL D A 0 0 Q w0 (lv_args 0 av) 0 []) : bh_Mv l D tys y ws rm av w0 post wf mc ms := by
  intro sz
  refine Met.ofW (cc := cc) (maxL := maxL) (ret := none) hy hw ?_
  intro p e s m args below meth c s₁ B hml hv
  obtain ⟨rfl, hsz, hP, hK, hD0⟩ := hv
  subst hsz
  have hl := lv_entry av (n := maxL) hn
  rw [lg_entry_eq]
  exact body p e s m _ below meth c (va_A w0 s.heap.size) _ (fun h => (name_of_methodNamed B.named B.method).1.trans h) ⟨⟨B.exec, B.bytes, hml, findClass_of_methodNamed B.named, atoms_spec (ws := ws) B.pre⟩, hK, fun q h => Or.inr h, B.returns, B.notSynchronized⟩ rfl s.heap [] _ hP hD0.self va_S.rf hl
theorem bh_iret {S : Type} {post : Int32 → S → Prop} {wf : S → va_W} {mc ms : Nat} (C : bh_C p s m args meth c cc nL Ts own D tys A (some .int)) (hQ : Q = MQ below (va_Qi post (fun u t => bh_B D tys A (wf u) t) A) args s mc ms A) (hdg : decode cc pc = .ok (.ireturn, 1)) {v : Int32} (u : S) (hw : w = wf u) (hc : cells ≤ mc) (hs : slots ≤ ms) (hp : post v u) :
    bh_W p l e R s m args below meth c nL D A cells slots Q w lv pc [.int v] := by
  subst hQ
  intro H locs ls hP hD hS h
  obtain ⟨⟨hx, hb, hml, hown, hts⟩, hK, hA, hr, hlk⟩ := C
  subst hw
  refine W.widen hc hs ?_
  exact W.iret hx hb hr (fun t ht hW => ⟨⟨v, u, rfl, hp, by rw [ht]; exact hP, va_K.moved hW.alike hK, hD⟩, hS.F ht⟩) hS.2.2 hdg hlk
theorem bh_zret {S : Type} {post : Int32 → S → Prop} {wf : S → va_W} {mc ms : Nat} {ty : FieldType} (C : bh_C p s m args meth c cc nL Ts own D tys A (some ty)) (hQ : Q = MQ below (va_Qi post (fun u t => bh_B D tys A (wf u) t) A) args s mc ms A) (hdg : decode cc pc = .ok (.ireturn, 1)) {v : Int32} (u : S) (hw : w = wf u) (hn : narrow ty (.int v) = .int v) (hc : cells ≤ mc) (hs : slots ≤ ms) (hp : post v u) :
    bh_W p l e R s m args below meth c nL D A cells slots Q w lv pc [.int v] := by
  subst hQ
  intro H locs ls hP hD hS h
  obtain ⟨⟨hx, hb, hml, hown, hts⟩, hK, hA, hr, hlk⟩ := C
  subst hw
  refine W.widen hc hs ?_
  exact W.zret hx hb hr hn (fun t ht hW => ⟨⟨v, u, rfl, hp, by rw [ht]; exact hP, va_K.moved hW.alike hK, hD⟩, hS.F ht⟩) hS.2.2 hdg hlk
theorem bh_vret {S : Type} {post : S → Prop} {wf : S → va_W} {mc ms : Nat} (C : bh_C p s m args meth c cc nL Ts own D tys A none) (hQ : Q = MQ below (va_Qv post (fun u t => bh_B D tys A (wf u) t) A) args s mc ms A) (hdg : decode cc pc = .ok (.return_, 1)) (u : S) (hw : w = wf u) (hc : cells ≤ mc) (hs : slots ≤ ms) (hp : post u) :
    bh_W p l e R s m args below meth c nL D A cells slots Q w lv pc [] := by
  subst hQ
  intro H locs ls hP hD hS h
  obtain ⟨⟨hx, hb, hml, hown, hts⟩, hK, hA, hr, hlk⟩ := C
  subst hw
  refine W.widen hc hs ?_
  exact W.vret hx hb hr (fun t ht hW => ⟨⟨u, rfl, hp, by rw [ht]; exact hP, va_K.moved hW.alike hK, hD⟩, hS.F ht⟩) hS.2.2 hdg hlk
theorem bh_calli_V (C : bh_C p s m args meth c cc nL Ts own D tys A ret) {S : Type} {post : Int32 → S → Prop} {wf : S → va_W} {wc wr : va_W} {mc ms n index maxL : Nat} {y : MethodName} {bytes : ByteArray} {rt : Option FieldType} {ws : List Cond} {rm : Room} {b : Addr} {As : List Value} {Cn : String} {T : u_T} {N ci : Nat} {fs : List Value} (hM : bh_Mi l D tys y ws rm (.ref b :: As) wc post wf mc ms) (cw : CallW R s args own Cn index y bytes maxL rt ws rm mc ms n) (hsp : w.Perm (wr ++ wc)) (hcn : vwCl[ci]? = some (Cn, T, N)) (q0 : Nat) (hb0 : wc[q0]? = some (b, .inr (ci, fs))) (hn : As.length = n) (hst : st = As.reverse ++ .ref b :: rest) (hcat : (rest.map fun v => v.category).sum ≤ 8) (hdg : decode cc pc = .ok (.invokevirtual index, 3)) (hf : cells + mc ≤ R.cells ∧ slots + ms ≤ R.slots) (kk : ∀ (r : Int32) (u : S), post r u → bh_W p l e R s m args below meth c nL D A (cells + mc) (slots + ms) Q (wr ++ wf u) lv (pc + 3) (.int r :: rest)) : bh_W p l e R s m args below meth c nL D A cells slots Q (w) lv (pc) (st) := by
  intro H locs ls hP hD hS h
  obtain ⟨S0, hK, hA, hr, hlk⟩ := C
  have hP2 := bh_Pperm hsp hP
  have hD2 := bh_Dperm hsp hD
  have hF := bh_free hD2 hS hA
  have hPc := (bh_Papp.mp hP2).2
  have hDc : va_D (fun _ => True) wc := ((bh_Dapp.mp hD2).2.1).weaken (fun _ _ _ _ => trivial)
  refine va_calli (va_runV (As := As) (rest := rest) S0 (hM H.size) cw ⟨bh_blind, va_recv hK hPc hcn hb0, fun U hU hW => ⟨rfl, by rw [hU], by rw [hU]; exact hPc, va_K.moved hW.alike hK, hDc⟩⟩ rfl hn h.1 hst (lv_room hcat) hdg hf) hS (fun q _ h => hF q h) hF (fun r u t H1 locs1 ht hvm hp hB hz1 hk1 hS1 => ?_)
  obtain ⟨hP1, hK1, hD1⟩ := hB
  rw [ht] at hP1
  obtain ⟨hP3, hD3⟩ := bh_join hP2 hD2 hk1 hF hP1 hD1
  exact kk r u hp H1 locs1 ls hP3 hD3 hS1 h
theorem bh_calli_S (C : bh_C p s m args meth c cc nL Ts own D tys A ret) {S : Type} {post : Int32 → S → Prop} {wf : S → va_W} {wc wr : va_W} {mc ms n index maxL : Nat} {y : MethodName} {bytes : ByteArray} {rt : Option FieldType} {ws : List Cond} {rm : Room} {As : List Value} (hM : bh_Mi l D tys y ws rm As wc post wf mc ms) (cw : CallB R s args own index y bytes maxL rt ws rm mc ms n ∧ (Cond.static y).before args s = true) (hsp : w.Perm (wr ++ wc)) (hn : As.length = n) (hst : st = As.reverse ++ rest) (hcat : (rest.map fun v => v.category).sum ≤ 8) (hdg : decode cc pc = .ok (.invokestatic index, 3)) (hf : cells + mc ≤ R.cells ∧ slots + ms ≤ R.slots) (kk : ∀ (r : Int32) (u : S), post r u → bh_W p l e R s m args below meth c nL D A (cells + mc) (slots + ms) Q (wr ++ wf u) lv (pc + 3) (.int r :: rest)) : bh_W p l e R s m args below meth c nL D A cells slots Q (w) lv (pc) (st) := by
  intro H locs ls hP hD hS h
  obtain ⟨S0, hK, hA, hr, hlk⟩ := C
  have hP2 := bh_Pperm hsp hP
  have hD2 := bh_Dperm hsp hD
  have hF := bh_free hD2 hS hA
  have hPc := (bh_Papp.mp hP2).2
  have hDc : va_D (fun _ => True) wc := ((bh_Dapp.mp hD2).2.1).weaken (fun _ _ _ _ => trivial)
  refine va_calli (va_runS (As := As) (rest := rest) S0 (hM H.size) cw ⟨bh_blind, fun U hU hW => ⟨rfl, by rw [hU], by rw [hU]; exact hPc, va_K.moved hW.alike hK, hDc⟩⟩ rfl hn h.1 hst (lv_room hcat) hdg hf) hS (fun q _ h => hF q h) hF (fun r u t H1 locs1 ht hvm hp hB hz1 hk1 hS1 => ?_)
  obtain ⟨hP1, hK1, hD1⟩ := hB
  rw [ht] at hP1
  obtain ⟨hP3, hD3⟩ := bh_join hP2 hD2 hk1 hF hP1 hD1
  exact kk r u hp H1 locs1 ls hP3 hD3 hS1 h
theorem bh_callv_V (C : bh_C p s m args meth c cc nL Ts own D tys A ret) {S : Type} {post : S → Prop} {wf : S → va_W} {wc wr : va_W} {mc ms n index maxL : Nat} {y : MethodName} {bytes : ByteArray} {rt : Option FieldType} {ws : List Cond} {rm : Room} {b : Addr} {As : List Value} {Cn : String} {T : u_T} {N ci : Nat} {fs : List Value} (hM : bh_Mv l D tys y ws rm (.ref b :: As) wc post wf mc ms) (cw : CallW R s args own Cn index y bytes maxL rt ws rm mc ms n) (hsp : w.Perm (wr ++ wc)) (hcn : vwCl[ci]? = some (Cn, T, N)) (q0 : Nat) (hb0 : wc[q0]? = some (b, .inr (ci, fs))) (hn : As.length = n) (hst : st = As.reverse ++ .ref b :: rest) (hcat : (rest.map fun v => v.category).sum ≤ 8) (hdg : decode cc pc = .ok (.invokevirtual index, 3)) (hf : cells + mc ≤ R.cells ∧ slots + ms ≤ R.slots) (kk : ∀ u : S, post u → bh_W p l e R s m args below meth c nL D A (cells + mc) (slots + ms) Q (wr ++ wf u) lv (pc + 3) (rest)) : bh_W p l e R s m args below meth c nL D A cells slots Q (w) lv (pc) (st) := by
  intro H locs ls hP hD hS h
  obtain ⟨S0, hK, hA, hr, hlk⟩ := C
  have hP2 := bh_Pperm hsp hP
  have hD2 := bh_Dperm hsp hD
  have hF := bh_free hD2 hS hA
  have hPc := (bh_Papp.mp hP2).2
  have hDc : va_D (fun _ => True) wc := ((bh_Dapp.mp hD2).2.1).weaken (fun _ _ _ _ => trivial)
  refine va_callv (va_runV (As := As) (rest := rest) S0 (hM H.size) cw ⟨bh_blind, va_recv hK hPc hcn hb0, fun U hU hW => ⟨rfl, by rw [hU], by rw [hU]; exact hPc, va_K.moved hW.alike hK, hDc⟩⟩ rfl hn h.1 hst (lv_room hcat) hdg hf) hS (fun q _ h => hF q h) hF (fun u t H1 locs1 ht hvm hp hB hz1 hk1 hS1 => ?_)
  obtain ⟨hP1, hK1, hD1⟩ := hB
  rw [ht] at hP1
  obtain ⟨hP3, hD3⟩ := bh_join hP2 hD2 hk1 hF hP1 hD1
  exact kk u hp H1 locs1 ls hP3 hD3 hS1 h
theorem bh_callv_S (C : bh_C p s m args meth c cc nL Ts own D tys A ret) {S : Type} {post : S → Prop} {wf : S → va_W} {wc wr : va_W} {mc ms n index maxL : Nat} {y : MethodName} {bytes : ByteArray} {rt : Option FieldType} {ws : List Cond} {rm : Room} {As : List Value} (hM : bh_Mv l D tys y ws rm As wc post wf mc ms) (cw : CallB R s args own index y bytes maxL rt ws rm mc ms n ∧ (Cond.static y).before args s = true) (hsp : w.Perm (wr ++ wc)) (hn : As.length = n) (hst : st = As.reverse ++ rest) (hcat : (rest.map fun v => v.category).sum ≤ 8) (hdg : decode cc pc = .ok (.invokestatic index, 3)) (hf : cells + mc ≤ R.cells ∧ slots + ms ≤ R.slots) (kk : ∀ u : S, post u → bh_W p l e R s m args below meth c nL D A (cells + mc) (slots + ms) Q (wr ++ wf u) lv (pc + 3) (rest)) : bh_W p l e R s m args below meth c nL D A cells slots Q (w) lv (pc) (st) := by
  intro H locs ls hP hD hS h
  obtain ⟨S0, hK, hA, hr, hlk⟩ := C
  have hP2 := bh_Pperm hsp hP
  have hD2 := bh_Dperm hsp hD
  have hF := bh_free hD2 hS hA
  have hPc := (bh_Papp.mp hP2).2
  have hDc : va_D (fun _ => True) wc := ((bh_Dapp.mp hD2).2.1).weaken (fun _ _ _ _ => trivial)
  refine va_callv (va_runS (As := As) (rest := rest) S0 (hM H.size) cw ⟨bh_blind, fun U hU hW => ⟨rfl, by rw [hU], by rw [hU]; exact hPc, va_K.moved hW.alike hK, hDc⟩⟩ rfl hn h.1 hst (lv_room hcat) hdg hf) hS (fun q _ h => hF q h) hF (fun u t H1 locs1 ht hvm hp hB hz1 hk1 hS1 => ?_)
  obtain ⟨hP1, hK1, hD1⟩ := hB
  rw [ht] at hP1
  obtain ⟨hP3, hD3⟩ := bh_join hP2 hD2 hk1 hF hP1 hD1
  exact kk u hp H1 locs1 ls hP3 hD3 hS1 h
end BHK
